theorem dX7_measure_67 : decode cX7_measure 67 = .ok (.invokevirtual 106, 3) := by decide +kernel
theorem dX7_measure_70 : decode cX7_measure 70 = .ok (.ireturn, 1) := by decide +kernel
theorem dX7_ofMachineNow_0 : decode cX7_ofMachineNow 0 = .ok (.iconst 0, 1) := by decide +kernel
theorem dX7_ofMachineNow_1 : decode cX7_ofMachineNow 1 = .ok (.istore_n 3, 1) := by decide +kernel
theorem dX7_ofMachineNow_2 : decode cX7_ofMachineNow 2 = .ok (.aload_n 0, 1) := by decide +kernel
theorem dX7_ofMachineNow_3 : decode cX7_ofMachineNow 3 = .ok (.getfield 19, 3) := by decide +kernel
theorem dX7_ofMachineNow_6 : decode cX7_ofMachineNow 6 = .ok (.invokevirtual 109, 3) := by decide +kernel
theorem dX7_ofMachineNow_9 : decode cX7_ofMachineNow 9 = .ok (.astore 4, 2) := by decide +kernel
theorem dX7_ofMachineNow_11 : decode cX7_ofMachineNow 11 = .ok (.aload 4, 2) := by decide +kernel
theorem dX7_ofMachineNow_13 : decode cX7_ofMachineNow 13 = .ok (.invokeinterface 113 1, 5) := by decide +kernel
theorem dX7_ofMachineNow_18 : decode cX7_ofMachineNow 18 = .ok (.ifCond .eq 34, 3) := by decide +kernel
theorem dX7_ofMachineNow_21 : decode cX7_ofMachineNow 21 = .ok (.aload 4, 2) := by decide +kernel
theorem dX7_ofMachineNow_23 : decode cX7_ofMachineNow 23 = .ok (.invokeinterface 119 1, 5) := by decide +kernel
theorem dX7_ofMachineNow_28 : decode cX7_ofMachineNow 28 = .ok (.checkcast 123, 3) := by decide +kernel
theorem dX7_ofMachineNow_31 : decode cX7_ofMachineNow 31 = .ok (.astore 5, 2) := by decide +kernel
theorem dX7_ofMachineNow_33 : decode cX7_ofMachineNow 33 = .ok (.iload_n 3, 1) := by decide +kernel
theorem dX7_ofMachineNow_34 : decode cX7_ofMachineNow 34 = .ok (.aload 5, 2) := by decide +kernel
theorem dX7_ofMachineNow_36 : decode cX7_ofMachineNow 36 = .ok (.iconst 1, 1) := by decide +kernel
theorem dX7_ofMachineNow_37 : decode cX7_ofMachineNow 37 = .ok (.iaload, 1) := by decide +kernel
theorem dX7_ofMachineNow_38 : decode cX7_ofMachineNow 38 = .ok (.iload_n 1, 1) := by decide +kernel
theorem dX7_ofMachineNow_39 : decode cX7_ofMachineNow 39 = .ok (.if_icmp .ne 7, 3) := by decide +kernel
theorem dX7_ofMachineNow_42 : decode cX7_ofMachineNow 42 = .ok (.iconst 1, 1) := by decide +kernel
theorem dX7_ofMachineNow_43 : decode cX7_ofMachineNow 43 = .ok (.goto 4, 3) := by decide +kernel
theorem dX7_ofMachineNow_46 : decode cX7_ofMachineNow 46 = .ok (.iconst 0, 1) := by decide +kernel
theorem dX7_ofMachineNow_47 : decode cX7_ofMachineNow 47 = .ok (.iadd, 1) := by decide +kernel
theorem dX7_ofMachineNow_48 : decode cX7_ofMachineNow 48 = .ok (.istore_n 3, 1) := by decide +kernel
theorem dX7_ofMachineNow_49 : decode cX7_ofMachineNow 49 = .ok (.goto (-38), 3) := by decide +kernel
theorem dX7_ofMachineNow_52 : decode cX7_ofMachineNow 52 = .ok (.iconst 5, 1) := by decide +kernel
theorem dX7_ofMachineNow_53 : decode cX7_ofMachineNow 53 = .ok (.newarray .int, 2) := by decide +kernel
theorem dX7_ofMachineNow_55 : decode cX7_ofMachineNow 55 = .ok (.dup, 1) := by decide +kernel
theorem dX7_ofMachineNow_56 : decode cX7_ofMachineNow 56 = .ok (.iconst 0, 1) := by decide +kernel
theorem dX7_ofMachineNow_57 : decode cX7_ofMachineNow 57 = .ok (.aload_n 0, 1) := by decide +kernel
theorem dX7_ofMachineNow_58 : decode cX7_ofMachineNow 58 = .ok (.getfield 16, 3) := by decide +kernel
theorem dX7_ofMachineNow_61 : decode cX7_ofMachineNow 61 = .ok (.iload_n 1, 1) := by decide +kernel
theorem dX7_ofMachineNow_62 : decode cX7_ofMachineNow 62 = .ok (.invokevirtual 68, 3) := by decide +kernel
theorem dX7_ofMachineNow_65 : decode cX7_ofMachineNow 65 = .ok (.checkcast 72, 3) := by decide +kernel
theorem dX7_ofMachineNow_68 : decode cX7_ofMachineNow 68 = .ok (.invokevirtual 81, 3) := by decide +kernel
theorem dX7_ofMachineNow_71 : decode cX7_ofMachineNow 71 = .ok (.iastore, 1) := by decide +kernel
theorem dX7_ofMachineNow_72 : decode cX7_ofMachineNow 72 = .ok (.dup, 1) := by decide +kernel
theorem dX7_ofMachineNow_73 : decode cX7_ofMachineNow 73 = .ok (.iconst 1, 1) := by decide +kernel
theorem dX7_ofMachineNow_74 : decode cX7_ofMachineNow 74 = .ok (.aload_n 0, 1) := by decide +kernel
theorem dX7_ofMachineNow_75 : decode cX7_ofMachineNow 75 = .ok (.iload_n 1, 1) := by decide +kernel
theorem dX7_ofMachineNow_76 : decode cX7_ofMachineNow 76 = .ok (.invokevirtual 125, 3) := by decide +kernel
theorem dX7_ofMachineNow_79 : decode cX7_ofMachineNow 79 = .ok (.iastore, 1) := by decide +kernel
theorem dX7_ofMachineNow_80 : decode cX7_ofMachineNow 80 = .ok (.dup, 1) := by decide +kernel
theorem dX7_ofMachineNow_81 : decode cX7_ofMachineNow 81 = .ok (.iconst 2, 1) := by decide +kernel
theorem dX7_ofMachineNow_82 : decode cX7_ofMachineNow 82 = .ok (.aload_n 0, 1) := by decide +kernel
theorem dX7_ofMachineNow_83 : decode cX7_ofMachineNow 83 = .ok (.iload_n 1, 1) := by decide +kernel
theorem dX7_ofMachineNow_84 : decode cX7_ofMachineNow 84 = .ok (.invokevirtual 106, 3) := by decide +kernel
theorem dX7_ofMachineNow_87 : decode cX7_ofMachineNow 87 = .ok (.ifCond .eq 7, 3) := by decide +kernel
theorem dX7_ofMachineNow_90 : decode cX7_ofMachineNow 90 = .ok (.iconst 1, 1) := by decide +kernel
theorem dX7_ofMachineNow_91 : decode cX7_ofMachineNow 91 = .ok (.goto 4, 3) := by decide +kernel
theorem dX7_ofMachineNow_94 : decode cX7_ofMachineNow 94 = .ok (.iconst 0, 1) := by decide +kernel
theorem dX7_ofMachineNow_95 : decode cX7_ofMachineNow 95 = .ok (.iastore, 1) := by decide +kernel
theorem dX7_ofMachineNow_96 : decode cX7_ofMachineNow 96 = .ok (.dup, 1) := by decide +kernel
theorem dX7_ofMachineNow_97 : decode cX7_ofMachineNow 97 = .ok (.iconst 3, 1) := by decide +kernel
theorem dX7_ofMachineNow_98 : decode cX7_ofMachineNow 98 = .ok (.iload_n 3, 1) := by decide +kernel
theorem dX7_ofMachineNow_99 : decode cX7_ofMachineNow 99 = .ok (.iastore, 1) := by decide +kernel
theorem dX7_ofMachineNow_100 : decode cX7_ofMachineNow 100 = .ok (.dup, 1) := by decide +kernel
theorem dX7_ofMachineNow_101 : decode cX7_ofMachineNow 101 = .ok (.iconst 4, 1) := by decide +kernel
theorem dX7_ofMachineNow_102 : decode cX7_ofMachineNow 102 = .ok (.aload_n 0, 1) := by decide +kernel
theorem dX7_ofMachineNow_103 : decode cX7_ofMachineNow 103 = .ok (.getfield 10, 3) := by decide +kernel
theorem dX7_ofMachineNow_106 : decode cX7_ofMachineNow 106 = .ok (.iload_n 1, 1) := by decide +kernel
theorem dX7_ofMachineNow_107 : decode cX7_ofMachineNow 107 = .ok (.invokevirtual 68, 3) := by decide +kernel
theorem dX7_ofMachineNow_110 : decode cX7_ofMachineNow 110 = .ok (.checkcast 7, 3) := by decide +kernel
theorem dX7_ofMachineNow_113 : decode cX7_ofMachineNow 113 = .ok (.invokevirtual 60, 3) := by decide +kernel
theorem dX7_ofMachineNow_116 : decode cX7_ofMachineNow 116 = .ok (.iastore, 1) := by decide +kernel
theorem dX7_ofMachineNow_117 : decode cX7_ofMachineNow 117 = .ok (.astore 4, 2) := by decide +kernel
theorem dX7_ofMachineNow_119 : decode cX7_ofMachineNow 119 = .ok (.aload 4, 2) := by decide +kernel
theorem dX7_ofMachineNow_121 : decode cX7_ofMachineNow 121 = .ok (.iload_n 2, 1) := by decide +kernel
theorem dX7_ofMachineNow_122 : decode cX7_ofMachineNow 122 = .ok (.iaload, 1) := by decide +kernel
theorem dX7_ofMachineNow_123 : decode cX7_ofMachineNow 123 = .ok (.ireturn, 1) := by decide +kernel
theorem dX7_ofMachine_0 : decode cX7_ofMachine 0 = .ok (.aload_n 0, 1) := by decide +kernel
theorem dX7_ofMachine_1 : decode cX7_ofMachine 1 = .ok (.iconst 0, 1) := by decide +kernel
theorem dX7_ofMachine_2 : decode cX7_ofMachine 2 = .ok (.putfield 57, 3) := by decide +kernel
theorem dX7_ofMachine_5 : decode cX7_ofMachine 5 = .ok (.aload_n 0, 1) := by decide +kernel
theorem dX7_ofMachine_6 : decode cX7_ofMachine 6 = .ok (.iload_n 1, 1) := by decide +kernel
theorem dX7_ofMachine_7 : decode cX7_ofMachine 7 = .ok (.invokevirtual 99, 3) := by decide +kernel
theorem dX7_ofMachine_10 : decode cX7_ofMachine 10 = .ok (.ifCond .ne 9, 3) := by decide +kernel
theorem dX7_ofMachine_13 : decode cX7_ofMachine 13 = .ok (.aload_n 0, 1) := by decide +kernel
theorem dX7_ofMachine_14 : decode cX7_ofMachine 14 = .ok (.iconst 1, 1) := by decide +kernel
theorem dX7_ofMachine_15 : decode cX7_ofMachine 15 = .ok (.invokevirtual 87, 3) := by decide +kernel
theorem dX7_ofMachine_18 : decode cX7_ofMachine 18 = .ok (.ireturn, 1) := by decide +kernel
theorem dX7_ofMachine_19 : decode cX7_ofMachine 19 = .ok (.iload_n 2, 1) := by decide +kernel
theorem dX7_ofMachine_20 : decode cX7_ofMachine 20 = .ok (.iconst 0, 1) := by decide +kernel
theorem dX7_ofMachine_21 : decode cX7_ofMachine 21 = .ok (.iconst 4, 1) := by decide +kernel
theorem dX7_ofMachine_22 : decode cX7_ofMachine 22 = .ok (.invokestatic 64, 3) := by decide +kernel
theorem dX7_ofMachine_25 : decode cX7_ofMachine 25 = .ok (.ifCond .eq 12, 3) := by decide +kernel
theorem dX7_ofMachine_28 : decode cX7_ofMachine 28 = .ok (.aload_n 0, 1) := by decide +kernel
theorem dX7_ofMachine_29 : decode cX7_ofMachine 29 = .ok (.iload_n 1, 1) := by decide +kernel
theorem dX7_ofMachine_30 : decode cX7_ofMachine 30 = .ok (.iload_n 2, 1) := by decide +kernel
theorem dX7_ofMachine_31 : decode cX7_ofMachine 31 = .ok (.invokevirtual 128, 3) := by decide +kernel
theorem dX7_ofMachine_34 : decode cX7_ofMachine 34 = .ok (.goto 8, 3) := by decide +kernel
theorem dX7_ofMachine_37 : decode cX7_ofMachine 37 = .ok (.aload_n 0, 1) := by decide +kernel
theorem dX7_ofMachine_38 : decode cX7_ofMachine 38 = .ok (.iconst 2, 1) := by decide +kernel
theorem dX7_ofMachine_39 : decode cX7_ofMachine 39 = .ok (.invokevirtual 87, 3) := by decide +kernel
theorem dX7_ofMachine_42 : decode cX7_ofMachine 42 = .ok (.ireturn, 1) := by decide +kernel
theorem dX7_counts_0 : decode cX7_counts 0 = .ok (.aload_n 1, 1) := by decide +kernel
theorem dX7_counts_1 : decode cX7_counts 1 = .ok (.iconst 4, 1) := by decide +kernel
theorem dX7_counts_2 : decode cX7_counts 2 = .ok (.iaload, 1) := by decide +kernel
theorem dX7_counts_3 : decode cX7_counts 3 = .ok (.ifCond .ne 24, 3) := by decide +kernel
theorem dX7_counts_6 : decode cX7_counts 6 = .ok (.aload_n 1, 1) := by decide +kernel
theorem dX7_counts_7 : decode cX7_counts 7 = .ok (.iconst 1, 1) := by decide +kernel
theorem dX7_counts_8 : decode cX7_counts 8 = .ok (.iaload, 1) := by decide +kernel
theorem dX7_counts_9 : decode cX7_counts 9 = .ok (.iload_n 2, 1) := by decide +kernel
theorem dX7_counts_10 : decode cX7_counts 10 = .ok (.if_icmp .eq 17, 3) := by decide +kernel
theorem dX7_counts_13 : decode cX7_counts 13 = .ok (.aload_n 0, 1) := by decide +kernel
theorem dX7_counts_14 : decode cX7_counts 14 = .ok (.aload_n 1, 1) := by decide +kernel
theorem dX7_counts_15 : decode cX7_counts 15 = .ok (.iconst 1, 1) := by decide +kernel
theorem dX7_counts_16 : decode cX7_counts 16 = .ok (.iaload, 1) := by decide +kernel
theorem dX7_counts_17 : decode cX7_counts 17 = .ok (.invokevirtual 106, 3) := by decide +kernel
theorem dX7_counts_20 : decode cX7_counts 20 = .ok (.ifCond .ne 7, 3) := by decide +kernel
theorem dX7_counts_23 : decode cX7_counts 23 = .ok (.iconst 1, 1) := by decide +kernel
theorem dX7_counts_24 : decode cX7_counts 24 = .ok (.goto 4, 3) := by decide +kernel
theorem dX7_counts_27 : decode cX7_counts 27 = .ok (.iconst 0, 1) := by decide +kernel
theorem dX7_counts_28 : decode cX7_counts 28 = .ok (.ireturn, 1) := by decide +kernel
theorem dX7_sample_0 : decode cX7_sample 0 = .ok (.bipush 6, 2) := by decide +kernel
theorem dX7_sample_2 : decode cX7_sample 2 = .ok (.newarray .int, 2) := by decide +kernel
theorem dX7_sample_4 : decode cX7_sample 4 = .ok (.astore_n 3, 1) := by decide +kernel
theorem dX7_sample_5 : decode cX7_sample 5 = .ok (.iconst 0, 1) := by decide +kernel
theorem dX7_sample_6 : decode cX7_sample 6 = .ok (.istore 4, 2) := by decide +kernel
theorem dX7_sample_8 : decode cX7_sample 8 = .ok (.aload_n 0, 1) := by decide +kernel
theorem dX7_sample_9 : decode cX7_sample 9 = .ok (.getfield 19, 3) := by decide +kernel
theorem dX7_sample_12 : decode cX7_sample 12 = .ok (.invokevirtual 60, 3) := by decide +kernel
theorem dX7_sample_15 : decode cX7_sample 15 = .ok (.iconst 1, 1) := by decide +kernel
theorem dX7_sample_16 : decode cX7_sample 16 = .ok (.isub, 1) := by decide +kernel
theorem dX7_sample_17 : decode cX7_sample 17 = .ok (.istore 5, 2) := by decide +kernel
theorem dX7_sample_19 : decode cX7_sample 19 = .ok (.iload 5, 2) := by decide +kernel
theorem dX7_sample_21 : decode cX7_sample 21 = .ok (.ifCond .lt 81, 3) := by decide +kernel
theorem dX7_sample_24 : decode cX7_sample 24 = .ok (.iload 4, 2) := by decide +kernel
theorem dX7_sample_26 : decode cX7_sample 26 = .ok (.bipush 6, 2) := by decide +kernel
theorem dX7_sample_28 : decode cX7_sample 28 = .ok (.if_icmp .ge 74, 3) := by decide +kernel
theorem dX7_sample_31 : decode cX7_sample 31 = .ok (.aload_n 0, 1) := by decide +kernel
theorem dX7_sample_32 : decode cX7_sample 32 = .ok (.getfield 19, 3) := by decide +kernel
theorem dX7_sample_35 : decode cX7_sample 35 = .ok (.iload 5, 2) := by decide +kernel
theorem dX7_sample_37 : decode cX7_sample 37 = .ok (.invokevirtual 68, 3) := by decide +kernel
theorem dX7_sample_40 : decode cX7_sample 40 = .ok (.checkcast 123, 3) := by decide +kernel
theorem dX7_sample_43 : decode cX7_sample 43 = .ok (.iconst 0, 1) := by decide +kernel
theorem dX7_sample_44 : decode cX7_sample 44 = .ok (.iaload, 1) := by decide +kernel
theorem dX7_sample_45 : decode cX7_sample 45 = .ok (.iload_n 1, 1) := by decide +kernel
theorem dX7_sample_46 : decode cX7_sample 46 = .ok (.if_icmp .ne 50, 3) := by decide +kernel
theorem dX7_sample_49 : decode cX7_sample 49 = .ok (.aload_n 0, 1) := by decide +kernel
theorem dX7_sample_50 : decode cX7_sample 50 = .ok (.aload_n 0, 1) := by decide +kernel
theorem dX7_sample_51 : decode cX7_sample 51 = .ok (.getfield 19, 3) := by decide +kernel
theorem dX7_sample_54 : decode cX7_sample 54 = .ok (.iload 5, 2) := by decide +kernel
theorem dX7_sample_56 : decode cX7_sample 56 = .ok (.invokevirtual 68, 3) := by decide +kernel
theorem dX7_sample_59 : decode cX7_sample 59 = .ok (.checkcast 123, 3) := by decide +kernel
theorem dX7_sample_62 : decode cX7_sample 62 = .ok (.iload_n 2, 1) := by decide +kernel
theorem dX7_sample_63 : decode cX7_sample 63 = .ok (.invokevirtual 131, 3) := by decide +kernel
theorem dX7_sample_66 : decode cX7_sample 66 = .ok (.ifCond .ne 6, 3) := by decide +kernel
theorem dX7_sample_69 : decode cX7_sample 69 = .ok (.goto 27, 3) := by decide +kernel
theorem dX7_sample_72 : decode cX7_sample 72 = .ok (.iinc 4 1, 3) := by decide +kernel
theorem dX7_sample_75 : decode cX7_sample 75 = .ok (.aload_n 3, 1) := by decide +kernel
theorem dX7_sample_76 : decode cX7_sample 76 = .ok (.bipush 6, 2) := by decide +kernel
theorem dX7_sample_78 : decode cX7_sample 78 = .ok (.iload 4, 2) := by decide +kernel
theorem dX7_sample_80 : decode cX7_sample 80 = .ok (.isub, 1) := by decide +kernel
theorem dX7_sample_81 : decode cX7_sample 81 = .ok (.aload_n 0, 1) := by decide +kernel
theorem dX7_sample_82 : decode cX7_sample 82 = .ok (.getfield 19, 3) := by decide +kernel
theorem dX7_sample_85 : decode cX7_sample 85 = .ok (.iload 5, 2) := by decide +kernel
theorem dX7_sample_87 : decode cX7_sample 87 = .ok (.invokevirtual 68, 3) := by decide +kernel
theorem dX7_sample_90 : decode cX7_sample 90 = .ok (.checkcast 123, 3) := by decide +kernel
theorem dX7_sample_93 : decode cX7_sample 93 = .ok (.iconst 3, 1) := by decide +kernel
theorem dX7_sample_94 : decode cX7_sample 94 = .ok (.iaload, 1) := by decide +kernel
theorem dX7_sample_95 : decode cX7_sample 95 = .ok (.iastore, 1) := by decide +kernel
theorem dX7_sample_96 : decode cX7_sample 96 = .ok (.iinc 5 (-1), 3) := by decide +kernel
theorem dX7_sample_99 : decode cX7_sample 99 = .ok (.goto (-80), 3) := by decide +kernel
theorem dX7_sample_102 : decode cX7_sample 102 = .ok (.aload_n 3, 1) := by decide +kernel
theorem dX7_sample_103 : decode cX7_sample 103 = .ok (.bipush 6, 2) := by decide +kernel
theorem dX7_sample_105 : decode cX7_sample 105 = .ok (.iload 4, 2) := by decide +kernel
theorem dX7_sample_107 : decode cX7_sample 107 = .ok (.isub, 1) := by decide +kernel
theorem dX7_sample_108 : decode cX7_sample 108 = .ok (.bipush 6, 2) := by decide +kernel
theorem dX7_sample_110 : decode cX7_sample 110 = .ok (.invokestatic 135, 3) := by decide +kernel
theorem dX7_sample_113 : decode cX7_sample 113 = .ok (.areturn, 1) := by decide +kernel
theorem dX7_sample__0 : decode cX7_sample_ 0 = .ok (.aload_n 0, 1) := by decide +kernel
theorem dX7_sample__1 : decode cX7_sample_ 1 = .ok (.iload_n 1, 1) := by decide +kernel
theorem dX7_sample__2 : decode cX7_sample_ 2 = .ok (.iconst (-1), 1) := by decide +kernel
theorem dX7_sample__3 : decode cX7_sample_ 3 = .ok (.invokevirtual 141, 3) := by decide +kernel
theorem dX7_sample__6 : decode cX7_sample_ 6 = .ok (.areturn, 1) := by decide +kernel
theorem dX7_changes_0 : decode cX7_changes 0 = .ok (.aload_n 0, 1) := by decide +kernel
theorem dX7_changes_1 : decode cX7_changes 1 = .ok (.iconst 0, 1) := by decide +kernel
theorem dX7_changes_2 : decode cX7_changes 2 = .ok (.putfield 57, 3) := by decide +kernel
theorem dX7_changes_5 : decode cX7_changes 5 = .ok (.iload_n 1, 1) := by decide +kernel
theorem dX7_changes_6 : decode cX7_changes 6 = .ok (.iconst 1, 1) := by decide +kernel
theorem dX7_changes_7 : decode cX7_changes 7 = .ok (.bipush 39, 2) := by decide +kernel
theorem dX7_changes_9 : decode cX7_changes 9 = .ok (.invokestatic 64, 3) := by decide +kernel
theorem dX7_changes_12 : decode cX7_changes 12 = .ok (.ifCond .ne 9, 3) := by decide +kernel
theorem dX7_changes_15 : decode cX7_changes 15 = .ok (.aload_n 0, 1) := by decide +kernel
theorem dX7_changes_16 : decode cX7_changes 16 = .ok (.iconst 1, 1) := by decide +kernel
theorem dX7_changes_17 : decode cX7_changes 17 = .ok (.invokevirtual 87, 3) := by decide +kernel
theorem dX7_changes_20 : decode cX7_changes 20 = .ok (.ireturn, 1) := by decide +kernel
theorem dX7_changes_21 : decode cX7_changes 21 = .ok (.aload_n 0, 1) := by decide +kernel
theorem dX7_changes_22 : decode cX7_changes 22 = .ok (.getfield 29, 3) := by decide +kernel
theorem dX7_changes_25 : decode cX7_changes 25 = .ok (.iload_n 1, 1) := by decide +kernel
theorem dX7_changes_26 : decode cX7_changes 26 = .ok (.iadd, 1) := by decide +kernel
theorem dX7_changes_27 : decode cX7_changes 27 = .ok (.bipush 40, 2) := by decide +kernel
theorem dX7_changes_29 : decode cX7_changes 29 = .ok (.if_icmp .le 9, 3) := by decide +kernel
theorem dX7_changes_32 : decode cX7_changes 32 = .ok (.aload_n 0, 1) := by decide +kernel
theorem dX7_changes_33 : decode cX7_changes 33 = .ok (.iconst 2, 1) := by decide +kernel
theorem dX7_changes_34 : decode cX7_changes 34 = .ok (.invokevirtual 87, 3) := by decide +kernel
theorem dX7_changes_37 : decode cX7_changes 37 = .ok (.ireturn, 1) := by decide +kernel
theorem dX7_changes_38 : decode cX7_changes 38 = .ok (.aload_n 0, 1) := by decide +kernel
theorem dX7_changes_39 : decode cX7_changes 39 = .ok (.dup, 1) := by decide +kernel
theorem dX7_changes_40 : decode cX7_changes 40 = .ok (.getfield 29, 3) := by decide +kernel
theorem dX7_changes_43 : decode cX7_changes 43 = .ok (.iload_n 1, 1) := by decide +kernel
theorem dX7_changes_44 : decode cX7_changes 44 = .ok (.iadd, 1) := by decide +kernel
theorem dX7_changes_45 : decode cX7_changes 45 = .ok (.putfield 29, 3) := by decide +kernel
theorem dX7_changes_48 : decode cX7_changes 48 = .ok (.aload_n 0, 1) := by decide +kernel
theorem dX7_changes_49 : decode cX7_changes 49 = .ok (.getfield 29, 3) := by decide +kernel
theorem dX7_changes_52 : decode cX7_changes 52 = .ok (.ireturn, 1) := by decide +kernel
theorem dX7_run_0 : decode cX7_run 0 = .ok (.aload_n 0, 1) := by decide +kernel
theorem dX7_run_1 : decode cX7_run 1 = .ok (.iconst 0, 1) := by decide +kernel
theorem dX7_run_2 : decode cX7_run 2 = .ok (.putfield 57, 3) := by decide +kernel
theorem dX7_run_5 : decode cX7_run 5 = .ok (.aload_n 0, 1) := by decide +kernel
theorem dX7_run_6 : decode cX7_run 6 = .ok (.iload_n 1, 1) := by decide +kernel
theorem dX7_run_7 : decode cX7_run 7 = .ok (.invokevirtual 145, 3) := by decide +kernel
theorem dX7_run_10 : decode cX7_run 10 = .ok (.ifCond .eq 11, 3) := by decide +kernel
theorem dX7_run_13 : decode cX7_run 13 = .ok (.aload_n 0, 1) := by decide +kernel
theorem dX7_run_14 : decode cX7_run 14 = .ok (.iload_n 2, 1) := by decide +kernel
theorem dX7_run_15 : decode cX7_run 15 = .ok (.invokevirtual 99, 3) := by decide +kernel
theorem dX7_run_18 : decode cX7_run 18 = .ok (.ifCond .ne 9, 3) := by decide +kernel
theorem dX7_run_21 : decode cX7_run 21 = .ok (.aload_n 0, 1) := by decide +kernel
theorem dX7_run_22 : decode cX7_run 22 = .ok (.iconst 1, 1) := by decide +kernel
theorem dX7_run_23 : decode cX7_run 23 = .ok (.invokevirtual 87, 3) := by decide +kernel
theorem dX7_run_26 : decode cX7_run 26 = .ok (.ireturn, 1) := by decide +kernel
theorem dX7_run_27 : decode cX7_run 27 = .ok (.iload_n 3, 1) := by decide +kernel
theorem dX7_run_28 : decode cX7_run 28 = .ok (.iconst 1, 1) := by decide +kernel
theorem dX7_run_29 : decode cX7_run 29 = .ok (.sipush 9999, 3) := by decide +kernel
theorem dX7_run_32 : decode cX7_run 32 = .ok (.invokestatic 64, 3) := by decide +kernel
theorem dX7_run_35 : decode cX7_run 35 = .ok (.ifCond .ne 9, 3) := by decide +kernel
theorem dX7_run_38 : decode cX7_run 38 = .ok (.aload_n 0, 1) := by decide +kernel
theorem dX7_run_39 : decode cX7_run 39 = .ok (.iconst 2, 1) := by decide +kernel
theorem dX7_run_40 : decode cX7_run 40 = .ok (.invokevirtual 87, 3) := by decide +kernel
theorem dX7_run_43 : decode cX7_run 43 = .ok (.ireturn, 1) := by decide +kernel
theorem dX7_run_44 : decode cX7_run 44 = .ok (.aload_n 0, 1) := by decide +kernel
theorem dX7_run_45 : decode cX7_run 45 = .ok (.iload_n 2, 1) := by decide +kernel
theorem dX7_run_46 : decode cX7_run 46 = .ok (.invokevirtual 106, 3) := by decide +kernel
theorem dX7_run_49 : decode cX7_run 49 = .ok (.ifCond .ne 36, 3) := by decide +kernel
theorem dX7_run_52 : decode cX7_run 52 = .ok (.aload_n 0, 1) := by decide +kernel
theorem dX7_run_53 : decode cX7_run 53 = .ok (.getfield 19, 3) := by decide +kernel
theorem dX7_run_56 : decode cX7_run 56 = .ok (.invokevirtual 60, 3) := by decide +kernel
theorem dX7_run_59 : decode cX7_run 59 = .ok (.bipush 80, 2) := by decide +kernel
theorem dX7_run_61 : decode cX7_run 61 = .ok (.if_icmp .eq 24, 3) := by decide +kernel
theorem dX7_run_64 : decode cX7_run 64 = .ok (.aload_n 0, 1) := by decide +kernel
theorem dX7_run_65 : decode cX7_run 65 = .ok (.getfield 54, 3) := by decide +kernel
theorem dX7_run_68 : decode cX7_run 68 = .ok (.aload_n 0, 1) := by decide +kernel
theorem dX7_run_69 : decode cX7_run 69 = .ok (.getfield 16, 3) := by decide +kernel
theorem dX7_run_72 : decode cX7_run 72 = .ok (.iload_n 2, 1) := by decide +kernel
theorem dX7_run_73 : decode cX7_run 73 = .ok (.invokevirtual 68, 3) := by decide +kernel
theorem dX7_run_76 : decode cX7_run 76 = .ok (.checkcast 72, 3) := by decide +kernel
theorem dX7_run_79 : decode cX7_run 79 = .ok (.invokevirtual 81, 3) := by decide +kernel
theorem dX7_run_82 : decode cX7_run 82 = .ok (.if_icmp .ge 9, 3) := by decide +kernel
theorem dX7_run_85 : decode cX7_run 85 = .ok (.aload_n 0, 1) := by decide +kernel
theorem dX7_run_86 : decode cX7_run 86 = .ok (.iconst 3, 1) := by decide +kernel
theorem dX7_run_87 : decode cX7_run 87 = .ok (.invokevirtual 87, 3) := by decide +kernel
theorem dX7_run_90 : decode cX7_run 90 = .ok (.ireturn, 1) := by decide +kernel
theorem dX7_run_91 : decode cX7_run 91 = .ok (.iconst 5, 1) := by decide +kernel
theorem dX7_run_92 : decode cX7_run 92 = .ok (.newarray .int, 2) := by decide +kernel
theorem dX7_run_94 : decode cX7_run 94 = .ok (.dup, 1) := by decide +kernel
theorem dX7_run_95 : decode cX7_run 95 = .ok (.iconst 0, 1) := by decide +kernel
theorem dX7_run_96 : decode cX7_run 96 = .ok (.iload_n 1, 1) := by decide +kernel
theorem dX7_run_97 : decode cX7_run 97 = .ok (.iastore, 1) := by decide +kernel
theorem dX7_run_98 : decode cX7_run 98 = .ok (.dup, 1) := by decide +kernel
theorem dX7_run_99 : decode cX7_run 99 = .ok (.iconst 1, 1) := by decide +kernel
theorem dX7_run_100 : decode cX7_run 100 = .ok (.iload_n 2, 1) := by decide +kernel
theorem dX7_run_101 : decode cX7_run 101 = .ok (.iastore, 1) := by decide +kernel
theorem dX7_run_102 : decode cX7_run 102 = .ok (.dup, 1) := by decide +kernel
theorem dX7_run_103 : decode cX7_run 103 = .ok (.iconst 2, 1) := by decide +kernel
theorem dX7_run_104 : decode cX7_run 104 = .ok (.iload_n 3, 1) := by decide +kernel
theorem dX7_run_105 : decode cX7_run 105 = .ok (.iastore, 1) := by decide +kernel
theorem dX7_run_106 : decode cX7_run 106 = .ok (.dup, 1) := by decide +kernel
theorem dX7_run_107 : decode cX7_run 107 = .ok (.iconst 3, 1) := by decide +kernel
theorem dX7_run_108 : decode cX7_run 108 = .ok (.iload_n 3, 1) := by decide +kernel
theorem dX7_run_109 : decode cX7_run 109 = .ok (.bipush 100, 2) := by decide +kernel
theorem dX7_run_111 : decode cX7_run 111 = .ok (.imul, 1) := by decide +kernel
theorem dX7_run_112 : decode cX7_run 112 = .ok (.aload_n 0, 1) := by decide +kernel
theorem dX7_run_113 : decode cX7_run 113 = .ok (.iload_n 2, 1) := by decide +kernel
theorem dX7_run_114 : decode cX7_run 114 = .ok (.invokevirtual 125, 3) := by decide +kernel
theorem dX7_run_117 : decode cX7_run 117 = .ok (.idiv, 1) := by decide +kernel
theorem dX7_run_118 : decode cX7_run 118 = .ok (.iastore, 1) := by decide +kernel
theorem dX7_run_119 : decode cX7_run 119 = .ok (.dup, 1) := by decide +kernel
theorem dX7_run_120 : decode cX7_run 120 = .ok (.iconst 4, 1) := by decide +kernel
theorem dX7_run_121 : decode cX7_run 121 = .ok (.iconst 0, 1) := by decide +kernel
theorem dX7_run_122 : decode cX7_run 122 = .ok (.iastore, 1) := by decide +kernel
theorem dX7_run_123 : decode cX7_run 123 = .ok (.astore 4, 2) := by decide +kernel
theorem dX7_run_125 : decode cX7_run 125 = .ok (.aload_n 0, 1) := by decide +kernel
theorem dX7_run_126 : decode cX7_run 126 = .ok (.getfield 19, 3) := by decide +kernel
theorem dX7_run_129 : decode cX7_run 129 = .ok (.aload 4, 2) := by decide +kernel
theorem dX7_run_131 : decode cX7_run 131 = .ok (.invokevirtual 95, 3) := by decide +kernel
theorem dX7_run_134 : decode cX7_run 134 = .ok (.pop, 1) := by decide +kernel
theorem dX7_run_135 : decode cX7_run 135 = .ok (.aload_n 0, 1) := by decide +kernel
theorem dX7_run_136 : decode cX7_run 136 = .ok (.dup, 1) := by decide +kernel
theorem dX7_run_137 : decode cX7_run 137 = .ok (.getfield 54, 3) := by decide +kernel
theorem dX7_run_140 : decode cX7_run 140 = .ok (.aload_n 0, 1) := by decide +kernel
theorem dX7_run_141 : decode cX7_run 141 = .ok (.getfield 16, 3) := by decide +kernel
theorem dX7_run_144 : decode cX7_run 144 = .ok (.iload_n 2, 1) := by decide +kernel
theorem dX7_run_145 : decode cX7_run 145 = .ok (.invokevirtual 68, 3) := by decide +kernel
theorem dX7_run_148 : decode cX7_run 148 = .ok (.checkcast 72, 3) := by decide +kernel
theorem dX7_run_151 : decode cX7_run 151 = .ok (.invokevirtual 81, 3) := by decide +kernel
theorem dX7_run_154 : decode cX7_run 154 = .ok (.isub, 1) := by decide +kernel
theorem dX7_run_155 : decode cX7_run 155 = .ok (.putfield 54, 3) := by decide +kernel
theorem dX7_run_158 : decode cX7_run 158 = .ok (.aload_n 0, 1) := by decide +kernel
theorem dX7_run_159 : decode cX7_run 159 = .ok (.invokevirtual 103, 3) := by decide +kernel
theorem dX7_run_162 : decode cX7_run 162 = .ok (.aload 4, 2) := by decide +kernel
theorem dX7_run_164 : decode cX7_run 164 = .ok (.iconst 3, 1) := by decide +kernel
theorem dX7_run_165 : decode cX7_run 165 = .ok (.iaload, 1) := by decide +kernel
theorem dX7_run_166 : decode cX7_run 166 = .ok (.ireturn, 1) := by decide +kernel
theorem dX7_isRun_0 : decode cX7_isRun 0 = .ok (.iload_n 1, 1) := by decide +kernel
theorem dX7_isRun_1 : decode cX7_isRun 1 = .ok (.iconst 0, 1) := by decide +kernel
theorem dX7_isRun_2 : decode cX7_isRun 2 = .ok (.aload_n 0, 1) := by decide +kernel
theorem dX7_isRun_3 : decode cX7_isRun 3 = .ok (.getfield 19, 3) := by decide +kernel
theorem dX7_isRun_6 : decode cX7_isRun 6 = .ok (.invokevirtual 60, 3) := by decide +kernel
theorem dX7_isRun_9 : decode cX7_isRun 9 = .ok (.iconst 1, 1) := by decide +kernel
theorem dX7_isRun_10 : decode cX7_isRun 10 = .ok (.isub, 1) := by decide +kernel
theorem dX7_isRun_11 : decode cX7_isRun 11 = .ok (.invokestatic 64, 3) := by decide +kernel
theorem dX7_isRun_14 : decode cX7_isRun 14 = .ok (.ireturn, 1) := by decide +kernel
theorem dX7_strike_0 : decode cX7_strike 0 = .ok (.aload_n 0, 1) := by decide +kernel
theorem dX7_strike_1 : decode cX7_strike 1 = .ok (.iconst 0, 1) := by decide +kernel
theorem dX7_strike_2 : decode cX7_strike 2 = .ok (.putfield 57, 3) := by decide +kernel
theorem dX7_strike_5 : decode cX7_strike 5 = .ok (.aload_n 0, 1) := by decide +kernel
theorem dX7_strike_6 : decode cX7_strike 6 = .ok (.iload_n 1, 1) := by decide +kernel
theorem dX7_strike_7 : decode cX7_strike 7 = .ok (.invokevirtual 148, 3) := by decide +kernel
theorem dX7_strike_10 : decode cX7_strike 10 = .ok (.ifCond .ne 9, 3) := by decide +kernel
theorem dX7_strike_13 : decode cX7_strike 13 = .ok (.aload_n 0, 1) := by decide +kernel
theorem dX7_strike_14 : decode cX7_strike 14 = .ok (.iconst 1, 1) := by decide +kernel
theorem dX7_strike_15 : decode cX7_strike 15 = .ok (.invokevirtual 87, 3) := by decide +kernel
theorem dX7_strike_18 : decode cX7_strike 18 = .ok (.ireturn, 1) := by decide +kernel
theorem dX7_strike_19 : decode cX7_strike 19 = .ok (.aload_n 0, 1) := by decide +kernel
theorem dX7_strike_20 : decode cX7_strike 20 = .ok (.getfield 19, 3) := by decide +kernel
theorem dX7_strike_23 : decode cX7_strike 23 = .ok (.iload_n 1, 1) := by decide +kernel
theorem dX7_strike_24 : decode cX7_strike 24 = .ok (.invokevirtual 68, 3) := by decide +kernel
theorem dX7_strike_27 : decode cX7_strike 27 = .ok (.checkcast 123, 3) := by decide +kernel
theorem dX7_strike_30 : decode cX7_strike 30 = .ok (.iconst 4, 1) := by decide +kernel
theorem dX7_strike_31 : decode cX7_strike 31 = .ok (.iaload, 1) := by decide +kernel
theorem dX7_strike_32 : decode cX7_strike 32 = .ok (.iconst 1, 1) := by decide +kernel
theorem dX7_strike_33 : decode cX7_strike 33 = .ok (.if_icmp .ne 9, 3) := by decide +kernel
theorem dX7_strike_36 : decode cX7_strike 36 = .ok (.aload_n 0, 1) := by decide +kernel
theorem dX7_strike_37 : decode cX7_strike 37 = .ok (.iconst 2, 1) := by decide +kernel
theorem dX7_strike_38 : decode cX7_strike 38 = .ok (.invokevirtual 87, 3) := by decide +kernel
theorem dX7_strike_41 : decode cX7_strike 41 = .ok (.ireturn, 1) := by decide +kernel
theorem dX7_strike_42 : decode cX7_strike 42 = .ok (.aload_n 0, 1) := by decide +kernel
theorem dX7_strike_43 : decode cX7_strike 43 = .ok (.getfield 19, 3) := by decide +kernel
theorem dX7_strike_46 : decode cX7_strike 46 = .ok (.iload_n 1, 1) := by decide +kernel
theorem dX7_strike_47 : decode cX7_strike 47 = .ok (.invokevirtual 68, 3) := by decide +kernel
theorem dX7_strike_50 : decode cX7_strike 50 = .ok (.checkcast 123, 3) := by decide +kernel
theorem dX7_strike_53 : decode cX7_strike 53 = .ok (.iconst 4, 1) := by decide +kernel
theorem dX7_strike_54 : decode cX7_strike 54 = .ok (.iconst 1, 1) := by decide +kernel
theorem dX7_strike_55 : decode cX7_strike 55 = .ok (.iastore, 1) := by decide +kernel
theorem dX7_strike_56 : decode cX7_strike 56 = .ok (.aload_n 0, 1) := by decide +kernel
theorem dX7_strike_57 : decode cX7_strike 57 = .ok (.invokevirtual 103, 3) := by decide +kernel
theorem dX7_strike_60 : decode cX7_strike 60 = .ok (.aload_n 0, 1) := by decide +kernel
theorem dX7_strike_61 : decode cX7_strike 61 = .ok (.getfield 19, 3) := by decide +kernel
theorem dX7_strike_64 : decode cX7_strike 64 = .ok (.iload_n 1, 1) := by decide +kernel
theorem dX7_strike_65 : decode cX7_strike 65 = .ok (.invokevirtual 68, 3) := by decide +kernel
theorem dX7_strike_68 : decode cX7_strike 68 = .ok (.checkcast 123, 3) := by decide +kernel
theorem dX7_strike_71 : decode cX7_strike 71 = .ok (.iconst 3, 1) := by decide +kernel
theorem dX7_strike_72 : decode cX7_strike 72 = .ok (.iaload, 1) := by decide +kernel
theorem dX7_strike_73 : decode cX7_strike 73 = .ok (.ireturn, 1) := by decide +kernel
theorem dX7_ofRunNow_0 : decode cX7_ofRunNow 0 = .ok (.aload_n 0, 1) := by decide +kernel
theorem dX7_ofRunNow_1 : decode cX7_ofRunNow 1 = .ok (.getfield 19, 3) := by decide +kernel
theorem dX7_ofRunNow_4 : decode cX7_ofRunNow 4 = .ok (.iload_n 1, 1) := by decide +kernel
theorem dX7_ofRunNow_5 : decode cX7_ofRunNow 5 = .ok (.invokevirtual 68, 3) := by decide +kernel
theorem dX7_ofRunNow_8 : decode cX7_ofRunNow 8 = .ok (.checkcast 123, 3) := by decide +kernel
theorem dX7_ofRunNow_11 : decode cX7_ofRunNow 11 = .ok (.astore_n 3, 1) := by decide +kernel
theorem dX7_ofRunNow_12 : decode cX7_ofRunNow 12 = .ok (.iload_n 2, 1) := by decide +kernel
theorem dX7_ofRunNow_13 : decode cX7_ofRunNow 13 = .ok (.iconst 4, 1) := by decide +kernel
theorem dX7_ofRunNow_14 : decode cX7_ofRunNow 14 = .ok (.if_icmp .ge 7, 3) := by decide +kernel
theorem dX7_ofRunNow_17 : decode cX7_ofRunNow 17 = .ok (.aload_n 3, 1) := by decide +kernel
theorem dX7_ofRunNow_18 : decode cX7_ofRunNow 18 = .ok (.iload_n 2, 1) := by decide +kernel
theorem dX7_ofRunNow_19 : decode cX7_ofRunNow 19 = .ok (.iaload, 1) := by decide +kernel
theorem dX7_ofRunNow_20 : decode cX7_ofRunNow 20 = .ok (.ireturn, 1) := by decide +kernel
theorem dX7_ofRunNow_21 : decode cX7_ofRunNow 21 = .ok (.aload_n 0, 1) := by decide +kernel
theorem dX7_ofRunNow_22 : decode cX7_ofRunNow 22 = .ok (.aload_n 3, 1) := by decide +kernel
theorem dX7_ofRunNow_23 : decode cX7_ofRunNow 23 = .ok (.iconst (-1), 1) := by decide +kernel
theorem dX7_ofRunNow_24 : decode cX7_ofRunNow 24 = .ok (.invokevirtual 131, 3) := by decide +kernel
theorem dX7_ofRunNow_27 : decode cX7_ofRunNow 27 = .ok (.ifCond .ne 5, 3) := by decide +kernel
theorem dX7_ofRunNow_30 : decode cX7_ofRunNow 30 = .ok (.iconst 0, 1) := by decide +kernel
theorem dX7_ofRunNow_31 : decode cX7_ofRunNow 31 = .ok (.ireturn, 1) := by decide +kernel
theorem dX7_ofRunNow_32 : decode cX7_ofRunNow 32 = .ok (.iconst 0, 1) := by decide +kernel
theorem dX7_ofRunNow_33 : decode cX7_ofRunNow 33 = .ok (.istore 4, 2) := by decide +kernel
theorem dX7_ofRunNow_35 : decode cX7_ofRunNow 35 = .ok (.iload_n 1, 1) := by decide +kernel
theorem dX7_ofRunNow_36 : decode cX7_ofRunNow 36 = .ok (.iconst 1, 1) := by decide +kernel
theorem dX7_ofRunNow_37 : decode cX7_ofRunNow 37 = .ok (.iadd, 1) := by decide +kernel
theorem dX7_ofRunNow_38 : decode cX7_ofRunNow 38 = .ok (.istore 5, 2) := by decide +kernel
theorem dX7_ofRunNow_40 : decode cX7_ofRunNow 40 = .ok (.iload 5, 2) := by decide +kernel
theorem dX7_ofRunNow_42 : decode cX7_ofRunNow 42 = .ok (.aload_n 0, 1) := by decide +kernel
theorem dX7_ofRunNow_43 : decode cX7_ofRunNow 43 = .ok (.getfield 19, 3) := by decide +kernel
theorem dX7_ofRunNow_46 : decode cX7_ofRunNow 46 = .ok (.invokevirtual 60, 3) := by decide +kernel
theorem dX7_ofRunNow_49 : decode cX7_ofRunNow 49 = .ok (.if_icmp .ge 59, 3) := by decide +kernel
theorem dX7_ofRunNow_52 : decode cX7_ofRunNow 52 = .ok (.iload 4, 2) := by decide +kernel
theorem dX7_ofRunNow_54 : decode cX7_ofRunNow 54 = .ok (.aload_n 0, 1) := by decide +kernel
theorem dX7_ofRunNow_55 : decode cX7_ofRunNow 55 = .ok (.getfield 19, 3) := by decide +kernel
theorem dX7_ofRunNow_58 : decode cX7_ofRunNow 58 = .ok (.iload 5, 2) := by decide +kernel
theorem dX7_ofRunNow_60 : decode cX7_ofRunNow 60 = .ok (.invokevirtual 68, 3) := by decide +kernel
theorem dX7_ofRunNow_63 : decode cX7_ofRunNow 63 = .ok (.checkcast 123, 3) := by decide +kernel
theorem dX7_ofRunNow_66 : decode cX7_ofRunNow 66 = .ok (.iconst 0, 1) := by decide +kernel
theorem dX7_ofRunNow_67 : decode cX7_ofRunNow 67 = .ok (.iaload, 1) := by decide +kernel
theorem dX7_ofRunNow_68 : decode cX7_ofRunNow 68 = .ok (.aload_n 3, 1) := by decide +kernel
theorem dX7_ofRunNow_69 : decode cX7_ofRunNow 69 = .ok (.iconst 0, 1) := by decide +kernel
theorem dX7_ofRunNow_70 : decode cX7_ofRunNow 70 = .ok (.iaload, 1) := by decide +kernel
theorem dX7_ofRunNow_71 : decode cX7_ofRunNow 71 = .ok (.if_icmp .ne 27, 3) := by decide +kernel
theorem dX7_ofRunNow_74 : decode cX7_ofRunNow 74 = .ok (.aload_n 0, 1) := by decide +kernel
theorem dX7_ofRunNow_75 : decode cX7_ofRunNow 75 = .ok (.aload_n 0, 1) := by decide +kernel
theorem dX7_ofRunNow_76 : decode cX7_ofRunNow 76 = .ok (.getfield 19, 3) := by decide +kernel
theorem dX7_ofRunNow_79 : decode cX7_ofRunNow 79 = .ok (.iload 5, 2) := by decide +kernel
theorem dX7_ofRunNow_81 : decode cX7_ofRunNow 81 = .ok (.invokevirtual 68, 3) := by decide +kernel
theorem dX7_ofRunNow_84 : decode cX7_ofRunNow 84 = .ok (.checkcast 123, 3) := by decide +kernel
theorem dX7_ofRunNow_87 : decode cX7_ofRunNow 87 = .ok (.iconst (-1), 1) := by decide +kernel
theorem dX7_ofRunNow_88 : decode cX7_ofRunNow 88 = .ok (.invokevirtual 131, 3) := by decide +kernel
theorem dX7_ofRunNow_91 : decode cX7_ofRunNow 91 = .ok (.ifCond .eq 7, 3) := by decide +kernel
theorem dX7_ofRunNow_94 : decode cX7_ofRunNow 94 = .ok (.iconst 1, 1) := by decide +kernel
theorem dX7_ofRunNow_95 : decode cX7_ofRunNow 95 = .ok (.goto 4, 3) := by decide +kernel
theorem dX7_ofRunNow_98 : decode cX7_ofRunNow 98 = .ok (.iconst 0, 1) := by decide +kernel
theorem dX7_ofRunNow_99 : decode cX7_ofRunNow 99 = .ok (.iadd, 1) := by decide +kernel
theorem dX7_ofRunNow_100 : decode cX7_ofRunNow 100 = .ok (.istore 4, 2) := by decide +kernel
theorem dX7_ofRunNow_102 : decode cX7_ofRunNow 102 = .ok (.iinc 5 1, 3) := by decide +kernel
theorem dX7_ofRunNow_105 : decode cX7_ofRunNow 105 = .ok (.goto (-65), 3) := by decide +kernel
theorem dX7_ofRunNow_108 : decode cX7_ofRunNow 108 = .ok (.iload_n 2, 1) := by decide +kernel
theorem dX7_ofRunNow_109 : decode cX7_ofRunNow 109 = .ok (.iconst 4, 1) := by decide +kernel
theorem dX7_ofRunNow_110 : decode cX7_ofRunNow 110 = .ok (.if_icmp .eq 10, 3) := by decide +kernel
theorem dX7_ofRunNow_113 : decode cX7_ofRunNow 113 = .ok (.iload 4, 2) := by decide +kernel
theorem dX7_ofRunNow_115 : decode cX7_ofRunNow 115 = .ok (.bipush 6, 2) := by decide +kernel
theorem dX7_ofRunNow_117 : decode cX7_ofRunNow 117 = .ok (.if_icmp .ge 7, 3) := by decide +kernel
theorem dX7_ofRunNow_120 : decode cX7_ofRunNow 120 = .ok (.iconst 1, 1) := by decide +kernel
theorem dX7_ofRunNow_121 : decode cX7_ofRunNow 121 = .ok (.goto 4, 3) := by decide +kernel
theorem dX7_ofRunNow_124 : decode cX7_ofRunNow 124 = .ok (.iconst 0, 1) := by decide +kernel
theorem dX7_ofRunNow_125 : decode cX7_ofRunNow 125 = .ok (.ireturn, 1) := by decide +kernel
theorem dX7_ofRun_0 : decode cX7_ofRun 0 = .ok (.aload_n 0, 1) := by decide +kernel
theorem dX7_ofRun_1 : decode cX7_ofRun 1 = .ok (.iconst 0, 1) := by decide +kernel
theorem dX7_ofRun_2 : decode cX7_ofRun 2 = .ok (.putfield 57, 3) := by decide +kernel
theorem dX7_ofRun_5 : decode cX7_ofRun 5 = .ok (.aload_n 0, 1) := by decide +kernel
theorem dX7_ofRun_6 : decode cX7_ofRun 6 = .ok (.iload_n 1, 1) := by decide +kernel
theorem dX7_ofRun_7 : decode cX7_ofRun 7 = .ok (.invokevirtual 148, 3) := by decide +kernel
theorem dX7_ofRun_10 : decode cX7_ofRun 10 = .ok (.ifCond .ne 9, 3) := by decide +kernel
theorem dX7_ofRun_13 : decode cX7_ofRun 13 = .ok (.aload_n 0, 1) := by decide +kernel
theorem dX7_ofRun_14 : decode cX7_ofRun 14 = .ok (.iconst 1, 1) := by decide +kernel
theorem dX7_ofRun_15 : decode cX7_ofRun 15 = .ok (.invokevirtual 87, 3) := by decide +kernel
theorem dX7_ofRun_18 : decode cX7_ofRun 18 = .ok (.ireturn, 1) := by decide +kernel
theorem dX7_ofRun_19 : decode cX7_ofRun 19 = .ok (.iload_n 2, 1) := by decide +kernel
theorem dX7_ofRun_20 : decode cX7_ofRun 20 = .ok (.iconst 0, 1) := by decide +kernel
theorem dX7_ofRun_21 : decode cX7_ofRun 21 = .ok (.iconst 5, 1) := by decide +kernel
theorem dX7_ofRun_22 : decode cX7_ofRun 22 = .ok (.invokestatic 64, 3) := by decide +kernel
theorem dX7_ofRun_25 : decode cX7_ofRun 25 = .ok (.ifCond .eq 12, 3) := by decide +kernel
theorem dX7_ofRun_28 : decode cX7_ofRun 28 = .ok (.aload_n 0, 1) := by decide +kernel
theorem dX7_ofRun_29 : decode cX7_ofRun 29 = .ok (.iload_n 1, 1) := by decide +kernel
theorem dX7_ofRun_30 : decode cX7_ofRun 30 = .ok (.iload_n 2, 1) := by decide +kernel
theorem dX7_ofRun_31 : decode cX7_ofRun 31 = .ok (.invokevirtual 151, 3) := by decide +kernel
theorem dX7_ofRun_34 : decode cX7_ofRun 34 = .ok (.goto 8, 3) := by decide +kernel
theorem dX7_ofRun_37 : decode cX7_ofRun 37 = .ok (.aload_n 0, 1) := by decide +kernel
theorem dX7_ofRun_38 : decode cX7_ofRun 38 = .ok (.iconst 2, 1) := by decide +kernel
theorem dX7_ofRun_39 : decode cX7_ofRun 39 = .ok (.invokevirtual 87, 3) := by decide +kernel
theorem dX7_ofRun_42 : decode cX7_ofRun 42 = .ok (.ireturn, 1) := by decide +kernel
theorem dX7_ofChangeNow_0 : decode cX7_ofChangeNow 0 = .ok (.iconst 0, 1) := by decide +kernel
theorem dX7_ofChangeNow_1 : decode cX7_ofChangeNow 1 = .ok (.istore_n 3, 1) := by decide +kernel
theorem dX7_ofChangeNow_2 : decode cX7_ofChangeNow 2 = .ok (.aload_n 0, 1) := by decide +kernel
theorem dX7_ofChangeNow_3 : decode cX7_ofChangeNow 3 = .ok (.getfield 19, 3) := by decide +kernel
theorem dX7_ofChangeNow_6 : decode cX7_ofChangeNow 6 = .ok (.invokevirtual 109, 3) := by decide +kernel
theorem dX7_ofChangeNow_9 : decode cX7_ofChangeNow 9 = .ok (.astore 4, 2) := by decide +kernel
theorem dX7_ofChangeNow_11 : decode cX7_ofChangeNow 11 = .ok (.aload 4, 2) := by decide +kernel
theorem dX7_ofChangeNow_13 : decode cX7_ofChangeNow 13 = .ok (.invokeinterface 113 1, 5) := by decide +kernel
theorem dX7_ofChangeNow_18 : decode cX7_ofChangeNow 18 = .ok (.ifCond .eq 34, 3) := by decide +kernel
theorem dX7_ofChangeNow_21 : decode cX7_ofChangeNow 21 = .ok (.aload 4, 2) := by decide +kernel
theorem dX7_ofChangeNow_23 : decode cX7_ofChangeNow 23 = .ok (.invokeinterface 119 1, 5) := by decide +kernel
theorem dX7_ofChangeNow_28 : decode cX7_ofChangeNow 28 = .ok (.checkcast 123, 3) := by decide +kernel
theorem dX7_ofChangeNow_31 : decode cX7_ofChangeNow 31 = .ok (.astore 5, 2) := by decide +kernel
theorem dX7_ofChangeNow_33 : decode cX7_ofChangeNow 33 = .ok (.iload_n 3, 1) := by decide +kernel
theorem dX7_ofChangeNow_34 : decode cX7_ofChangeNow 34 = .ok (.aload 5, 2) := by decide +kernel
theorem dX7_ofChangeNow_36 : decode cX7_ofChangeNow 36 = .ok (.iconst 0, 1) := by decide +kernel
theorem dX7_ofChangeNow_37 : decode cX7_ofChangeNow 37 = .ok (.iaload, 1) := by decide +kernel
theorem dX7_ofChangeNow_38 : decode cX7_ofChangeNow 38 = .ok (.iload_n 1, 1) := by decide +kernel
theorem dX7_ofChangeNow_39 : decode cX7_ofChangeNow 39 = .ok (.if_icmp .ne 7, 3) := by decide +kernel
theorem dX7_ofChangeNow_42 : decode cX7_ofChangeNow 42 = .ok (.iconst 1, 1) := by decide +kernel
theorem dX7_ofChangeNow_43 : decode cX7_ofChangeNow 43 = .ok (.goto 4, 3) := by decide +kernel
theorem dX7_ofChangeNow_46 : decode cX7_ofChangeNow 46 = .ok (.iconst 0, 1) := by decide +kernel
theorem dX7_ofChangeNow_47 : decode cX7_ofChangeNow 47 = .ok (.iadd, 1) := by decide +kernel
theorem dX7_ofChangeNow_48 : decode cX7_ofChangeNow 48 = .ok (.istore_n 3, 1) := by decide +kernel
theorem dX7_ofChangeNow_49 : decode cX7_ofChangeNow 49 = .ok (.goto (-38), 3) := by decide +kernel
theorem dX7_ofChangeNow_52 : decode cX7_ofChangeNow 52 = .ok (.aload_n 0, 1) := by decide +kernel
theorem dX7_ofChangeNow_53 : decode cX7_ofChangeNow 53 = .ok (.iload_n 1, 1) := by decide +kernel
theorem dX7_ofChangeNow_54 : decode cX7_ofChangeNow 54 = .ok (.invokevirtual 154, 3) := by decide +kernel
theorem dX7_ofChangeNow_57 : decode cX7_ofChangeNow 57 = .ok (.astore 4, 2) := by decide +kernel
theorem dX7_ofChangeNow_59 : decode cX7_ofChangeNow 59 = .ok (.aload 4, 2) := by decide +kernel
theorem dX7_ofChangeNow_61 : decode cX7_ofChangeNow 61 = .ok (.invokestatic 157, 3) := by decide +kernel
theorem dX7_ofChangeNow_64 : decode cX7_ofChangeNow 64 = .ok (.aload 4, 2) := by decide +kernel
theorem dX7_ofChangeNow_66 : decode cX7_ofChangeNow 66 = .ok (.arraylength, 1) := by decide +kernel
theorem dX7_ofChangeNow_67 : decode cX7_ofChangeNow 67 = .ok (.iconst 1, 1) := by decide +kernel
theorem dX7_ofChangeNow_68 : decode cX7_ofChangeNow 68 = .ok (.isub, 1) := by decide +kernel
theorem dX7_ofChangeNow_69 : decode cX7_ofChangeNow 69 = .ok (.istore 5, 2) := by decide +kernel
theorem dX7_ofChangeNow_71 : decode cX7_ofChangeNow 71 = .ok (.iload_n 2, 1) := by decide +kernel
theorem dX7_ofChangeNow_72 : decode cX7_ofChangeNow 72 = .ok (.tableswitch 88 0 4 #[36, 38, 42, 59, 73], 36) := by decide +kernel
theorem dX7_ofChangeNow_108 : decode cX7_ofChangeNow 108 = .ok (.iload_n 3, 1) := by decide +kernel
theorem dX7_ofChangeNow_109 : decode cX7_ofChangeNow 109 = .ok (.ireturn, 1) := by decide +kernel
theorem dX7_ofChangeNow_110 : decode cX7_ofChangeNow 110 = .ok (.aload 4, 2) := by decide +kernel
theorem dX7_ofChangeNow_112 : decode cX7_ofChangeNow 112 = .ok (.arraylength, 1) := by decide +kernel
theorem dX7_ofChangeNow_113 : decode cX7_ofChangeNow 113 = .ok (.ireturn, 1) := by decide +kernel
theorem dX7_ofChangeNow_114 : decode cX7_ofChangeNow 114 = .ok (.iload 5, 2) := by decide +kernel
theorem dX7_ofChangeNow_116 : decode cX7_ofChangeNow 116 = .ok (.ifCond .ge 7, 3) := by decide +kernel
theorem dX7_ofChangeNow_119 : decode cX7_ofChangeNow 119 = .ok (.iconst (-1), 1) := by decide +kernel
theorem dX7_ofChangeNow_120 : decode cX7_ofChangeNow 120 = .ok (.goto 10, 3) := by decide +kernel
theorem dX7_ofChangeNow_123 : decode cX7_ofChangeNow 123 = .ok (.aload 4, 2) := by decide +kernel
theorem dX7_ofChangeNow_125 : decode cX7_ofChangeNow 125 = .ok (.iload 5, 2) := by decide +kernel
theorem dX7_ofChangeNow_127 : decode cX7_ofChangeNow 127 = .ok (.iconst 2, 1) := by decide +kernel
theorem dX7_ofChangeNow_128 : decode cX7_ofChangeNow 128 = .ok (.idiv, 1) := by decide +kernel
theorem dX7_ofChangeNow_129 : decode cX7_ofChangeNow 129 = .ok (.iaload, 1) := by decide +kernel
theorem dX7_ofChangeNow_130 : decode cX7_ofChangeNow 130 = .ok (.ireturn, 1) := by decide +kernel
theorem dX7_ofChangeNow_131 : decode cX7_ofChangeNow 131 = .ok (.iload 5, 2) := by decide +kernel
theorem dX7_ofChangeNow_133 : decode cX7_ofChangeNow 133 = .ok (.ifCond .ge 7, 3) := by decide +kernel
theorem dX7_ofChangeNow_136 : decode cX7_ofChangeNow 136 = .ok (.iconst (-1), 1) := by decide +kernel
theorem dX7_ofChangeNow_137 : decode cX7_ofChangeNow 137 = .ok (.goto 7, 3) := by decide +kernel
theorem dX7_ofChangeNow_140 : decode cX7_ofChangeNow 140 = .ok (.aload 4, 2) := by decide +kernel
theorem dX7_ofChangeNow_142 : decode cX7_ofChangeNow 142 = .ok (.iconst 0, 1) := by decide +kernel
theorem dX7_ofChangeNow_143 : decode cX7_ofChangeNow 143 = .ok (.iaload, 1) := by decide +kernel
theorem dX7_ofChangeNow_144 : decode cX7_ofChangeNow 144 = .ok (.ireturn, 1) := by decide +kernel
theorem dX7_ofChangeNow_145 : decode cX7_ofChangeNow 145 = .ok (.iload 5, 2) := by decide +kernel
theorem dX7_ofChangeNow_147 : decode cX7_ofChangeNow 147 = .ok (.ifCond .ge 7, 3) := by decide +kernel
theorem dX7_ofChangeNow_150 : decode cX7_ofChangeNow 150 = .ok (.iconst (-1), 1) := by decide +kernel
theorem dX7_ofChangeNow_151 : decode cX7_ofChangeNow 151 = .ok (.goto 8, 3) := by decide +kernel
theorem dX7_ofChangeNow_154 : decode cX7_ofChangeNow 154 = .ok (.aload 4, 2) := by decide +kernel
theorem dX7_ofChangeNow_156 : decode cX7_ofChangeNow 156 = .ok (.iload 5, 2) := by decide +kernel
theorem dX7_ofChangeNow_158 : decode cX7_ofChangeNow 158 = .ok (.iaload, 1) := by decide +kernel
theorem dX7_ofChangeNow_159 : decode cX7_ofChangeNow 159 = .ok (.ireturn, 1) := by decide +kernel
theorem dX7_ofChangeNow_160 : decode cX7_ofChangeNow 160 = .ok (.aload_n 0, 1) := by decide +kernel
theorem dX7_ofChangeNow_161 : decode cX7_ofChangeNow 161 = .ok (.getfield 26, 3) := by decide +kernel
theorem dX7_ofChangeNow_164 : decode cX7_ofChangeNow 164 = .ok (.iload_n 1, 1) := by decide +kernel
theorem dX7_ofChangeNow_165 : decode cX7_ofChangeNow 165 = .ok (.baload, 1) := by decide +kernel
theorem dX7_ofChangeNow_166 : decode cX7_ofChangeNow 166 = .ok (.ifCond .eq 7, 3) := by decide +kernel
theorem dX7_ofChangeNow_169 : decode cX7_ofChangeNow 169 = .ok (.iconst 1, 1) := by decide +kernel
theorem dX7_ofChangeNow_170 : decode cX7_ofChangeNow 170 = .ok (.goto 17, 3) := by decide +kernel
theorem dX7_ofChangeNow_173 : decode cX7_ofChangeNow 173 = .ok (.aload_n 0, 1) := by decide +kernel
theorem dX7_ofChangeNow_174 : decode cX7_ofChangeNow 174 = .ok (.getfield 22, 3) := by decide +kernel
theorem dX7_ofChangeNow_177 : decode cX7_ofChangeNow 177 = .ok (.iload_n 1, 1) := by decide +kernel
theorem dX7_ofChangeNow_178 : decode cX7_ofChangeNow 178 = .ok (.baload, 1) := by decide +kernel
theorem dX7_ofChangeNow_179 : decode cX7_ofChangeNow 179 = .ok (.ifCond .eq 7, 3) := by decide +kernel
theorem dX7_ofChangeNow_182 : decode cX7_ofChangeNow 182 = .ok (.iconst 2, 1) := by decide +kernel
theorem dX7_ofChangeNow_183 : decode cX7_ofChangeNow 183 = .ok (.goto 4, 3) := by decide +kernel
theorem dX7_ofChangeNow_186 : decode cX7_ofChangeNow 186 = .ok (.iconst 0, 1) := by decide +kernel
theorem dX7_ofChangeNow_187 : decode cX7_ofChangeNow 187 = .ok (.ireturn, 1) := by decide +kernel
theorem dX7_ofChange_0 : decode cX7_ofChange 0 = .ok (.aload_n 0, 1) := by decide +kernel
theorem dX7_ofChange_1 : decode cX7_ofChange 1 = .ok (.iconst 0, 1) := by decide +kernel
theorem dX7_ofChange_2 : decode cX7_ofChange 2 = .ok (.putfield 57, 3) := by decide +kernel
theorem dX7_ofChange_5 : decode cX7_ofChange 5 = .ok (.aload_n 0, 1) := by decide +kernel
theorem dX7_ofChange_6 : decode cX7_ofChange 6 = .ok (.iload_n 1, 1) := by decide +kernel
theorem dX7_ofChange_7 : decode cX7_ofChange 7 = .ok (.invokevirtual 145, 3) := by decide +kernel
theorem dX7_ofChange_10 : decode cX7_ofChange 10 = .ok (.ifCond .ne 9, 3) := by decide +kernel
theorem dX7_ofChange_13 : decode cX7_ofChange 13 = .ok (.aload_n 0, 1) := by decide +kernel
theorem dX7_ofChange_14 : decode cX7_ofChange 14 = .ok (.iconst 1, 1) := by decide +kernel
theorem dX7_ofChange_15 : decode cX7_ofChange 15 = .ok (.invokevirtual 87, 3) := by decide +kernel
theorem dX7_ofChange_18 : decode cX7_ofChange 18 = .ok (.ireturn, 1) := by decide +kernel
theorem dX7_ofChange_19 : decode cX7_ofChange 19 = .ok (.iload_n 2, 1) := by decide +kernel
theorem dX7_ofChange_20 : decode cX7_ofChange 20 = .ok (.iconst 0, 1) := by decide +kernel
theorem dX7_ofChange_21 : decode cX7_ofChange 21 = .ok (.iconst 5, 1) := by decide +kernel
theorem dX7_ofChange_22 : decode cX7_ofChange 22 = .ok (.invokestatic 64, 3) := by decide +kernel
theorem dX7_ofChange_25 : decode cX7_ofChange 25 = .ok (.ifCond .eq 12, 3) := by decide +kernel
theorem dX7_ofChange_28 : decode cX7_ofChange 28 = .ok (.aload_n 0, 1) := by decide +kernel
theorem dX7_ofChange_29 : decode cX7_ofChange 29 = .ok (.iload_n 1, 1) := by decide +kernel
theorem dX7_ofChange_30 : decode cX7_ofChange 30 = .ok (.iload_n 2, 1) := by decide +kernel
theorem dX7_ofChange_31 : decode cX7_ofChange 31 = .ok (.invokevirtual 161, 3) := by decide +kernel
theorem dX7_ofChange_34 : decode cX7_ofChange 34 = .ok (.goto 8, 3) := by decide +kernel
theorem dX7_ofChange_37 : decode cX7_ofChange 37 = .ok (.aload_n 0, 1) := by decide +kernel
theorem dX7_ofChange_38 : decode cX7_ofChange 38 = .ok (.iconst 2, 1) := by decide +kernel
theorem dX7_ofChange_39 : decode cX7_ofChange 39 = .ok (.invokevirtual 87, 3) := by decide +kernel
theorem dX7_ofChange_42 : decode cX7_ofChange 42 = .ok (.ireturn, 1) := by decide +kernel
theorem dX7_score_0 : decode cX7_score 0 = .ok (.iconst 0, 1) := by decide +kernel
theorem dX7_score_1 : decode cX7_score 1 = .ok (.istore_n 2, 1) := by decide +kernel
theorem dX7_score_2 : decode cX7_score 2 = .ok (.aload_n 0, 1) := by decide +kernel
theorem dX7_score_3 : decode cX7_score 3 = .ok (.astore_n 3, 1) := by decide +kernel
theorem dX7_score_4 : decode cX7_score 4 = .ok (.aload_n 3, 1) := by decide +kernel
theorem dX7_score_5 : decode cX7_score 5 = .ok (.arraylength, 1) := by decide +kernel
theorem dX7_score_6 : decode cX7_score 6 = .ok (.istore 4, 2) := by decide +kernel
theorem dX7_score_8 : decode cX7_score 8 = .ok (.iconst 0, 1) := by decide +kernel
theorem dX7_score_9 : decode cX7_score 9 = .ok (.istore 5, 2) := by decide +kernel
theorem dX7_score_11 : decode cX7_score 11 = .ok (.iload 5, 2) := by decide +kernel
theorem dX7_score_13 : decode cX7_score 13 = .ok (.iload 4, 2) := by decide +kernel
theorem dX7_score_15 : decode cX7_score 15 = .ok (.if_icmp .ge 72, 3) := by decide +kernel
theorem dX7_score_18 : decode cX7_score 18 = .ok (.aload_n 3, 1) := by decide +kernel
theorem dX7_score_19 : decode cX7_score 19 = .ok (.iload 5, 2) := by decide +kernel
theorem dX7_score_21 : decode cX7_score 21 = .ok (.iaload, 1) := by decide +kernel
theorem dX7_score_22 : decode cX7_score 22 = .ok (.istore 6, 2) := by decide +kernel
theorem dX7_score_24 : decode cX7_score 24 = .ok (.aload_n 1, 1) := by decide +kernel
theorem dX7_score_25 : decode cX7_score 25 = .ok (.astore 7, 2) := by decide +kernel
theorem dX7_score_27 : decode cX7_score 27 = .ok (.aload 7, 2) := by decide +kernel
theorem dX7_score_29 : decode cX7_score 29 = .ok (.arraylength, 1) := by decide +kernel
theorem dX7_score_30 : decode cX7_score 30 = .ok (.istore 8, 2) := by decide +kernel
theorem dX7_score_32 : decode cX7_score 32 = .ok (.iconst 0, 1) := by decide +kernel
theorem dX7_score_33 : decode cX7_score 33 = .ok (.istore 9, 2) := by decide +kernel
theorem dX7_score_35 : decode cX7_score 35 = .ok (.iload 9, 2) := by decide +kernel
theorem dX7_score_37 : decode cX7_score 37 = .ok (.iload 8, 2) := by decide +kernel
theorem dX7_score_39 : decode cX7_score 39 = .ok (.if_icmp .ge 42, 3) := by decide +kernel
theorem dX7_score_42 : decode cX7_score 42 = .ok (.aload 7, 2) := by decide +kernel
theorem dX7_score_44 : decode cX7_score 44 = .ok (.iload 9, 2) := by decide +kernel
theorem dX7_score_46 : decode cX7_score 46 = .ok (.iaload, 1) := by decide +kernel
theorem dX7_score_47 : decode cX7_score 47 = .ok (.istore 10, 2) := by decide +kernel
theorem dX7_score_49 : decode cX7_score 49 = .ok (.iload_n 2, 1) := by decide +kernel
theorem dX7_score_50 : decode cX7_score 50 = .ok (.iload 6, 2) := by decide +kernel
theorem dX7_score_52 : decode cX7_score 52 = .ok (.iload 10, 2) := by decide +kernel
theorem dX7_score_54 : decode cX7_score 54 = .ok (.if_icmp .ge 7, 3) := by decide +kernel
theorem dX7_score_57 : decode cX7_score 57 = .ok (.iconst 2, 1) := by decide +kernel
theorem dX7_score_58 : decode cX7_score 58 = .ok (.goto 15, 3) := by decide +kernel
theorem dX7_score_61 : decode cX7_score 61 = .ok (.iload 6, 2) := by decide +kernel
theorem dX7_score_63 : decode cX7_score 63 = .ok (.iload 10, 2) := by decide +kernel
theorem dX7_score_65 : decode cX7_score 65 = .ok (.if_icmp .ne 7, 3) := by decide +kernel
theorem dX7_score_68 : decode cX7_score 68 = .ok (.iconst 1, 1) := by decide +kernel
theorem dX7_score_69 : decode cX7_score 69 = .ok (.goto 4, 3) := by decide +kernel
theorem dX7_score_72 : decode cX7_score 72 = .ok (.iconst 0, 1) := by decide +kernel
theorem dX7_score_73 : decode cX7_score 73 = .ok (.iadd, 1) := by decide +kernel
theorem dX7_score_74 : decode cX7_score 74 = .ok (.istore_n 2, 1) := by decide +kernel
theorem dX7_score_75 : decode cX7_score 75 = .ok (.iinc 9 1, 3) := by decide +kernel
theorem dX7_score_78 : decode cX7_score 78 = .ok (.goto (-43), 3) := by decide +kernel
theorem dX7_score_81 : decode cX7_score 81 = .ok (.iinc 5 1, 3) := by decide +kernel
theorem dX7_score_84 : decode cX7_score 84 = .ok (.goto (-73), 3) := by decide +kernel
theorem dX7_score_87 : decode cX7_score 87 = .ok (.iload_n 2, 1) := by decide +kernel
theorem dX7_score_88 : decode cX7_score 88 = .ok (.ireturn, 1) := by decide +kernel
theorem dX7_ways_0 : decode cX7_ways 0 = .ok (.aload_n 0, 1) := by decide +kernel
theorem dX7_ways_1 : decode cX7_ways 1 = .ok (.aload_n 0, 1) := by decide +kernel
theorem dX7_ways_2 : decode cX7_ways 2 = .ok (.arraylength, 1) := by decide +kernel
theorem dX7_ways_3 : decode cX7_ways 3 = .ok (.aload_n 1, 1) := by decide +kernel
theorem dX7_ways_4 : decode cX7_ways 4 = .ok (.arraylength, 1) := by decide +kernel
theorem dX7_ways_5 : decode cX7_ways 5 = .ok (.iadd, 1) := by decide +kernel
theorem dX7_ways_6 : decode cX7_ways 6 = .ok (.invokestatic 164, 3) := by decide +kernel
theorem dX7_ways_9 : decode cX7_ways 9 = .ok (.astore_n 2, 1) := by decide +kernel
theorem dX7_ways_10 : decode cX7_ways 10 = .ok (.aload_n 1, 1) := by decide +kernel
theorem dX7_ways_11 : decode cX7_ways 11 = .ok (.iconst 0, 1) := by decide +kernel
theorem dX7_ways_12 : decode cX7_ways 12 = .ok (.aload_n 2, 1) := by decide +kernel
theorem dX7_ways_13 : decode cX7_ways 13 = .ok (.aload_n 0, 1) := by decide +kernel
theorem dX7_ways_14 : decode cX7_ways 14 = .ok (.arraylength, 1) := by decide +kernel
theorem dX7_ways_15 : decode cX7_ways 15 = .ok (.aload_n 1, 1) := by decide +kernel
theorem dX7_ways_16 : decode cX7_ways 16 = .ok (.arraylength, 1) := by decide +kernel
theorem dX7_ways_17 : decode cX7_ways 17 = .ok (.invokestatic 168, 3) := by decide +kernel
theorem dX7_ways_20 : decode cX7_ways 20 = .ok (.aload_n 2, 1) := by decide +kernel
theorem dX7_ways_21 : decode cX7_ways 21 = .ok (.invokestatic 157, 3) := by decide +kernel
theorem dX7_ways_24 : decode cX7_ways 24 = .ok (.iconst 2, 1) := by decide +kernel
theorem dX7_ways_25 : decode cX7_ways 25 = .ok (.aload_n 0, 1) := by decide +kernel
theorem dX7_ways_26 : decode cX7_ways 26 = .ok (.arraylength, 1) := by decide +kernel
theorem dX7_ways_27 : decode cX7_ways 27 = .ok (.imul, 1) := by decide +kernel
theorem dX7_ways_28 : decode cX7_ways 28 = .ok (.aload_n 1, 1) := by decide +kernel
theorem dX7_ways_29 : decode cX7_ways 29 = .ok (.arraylength, 1) := by decide +kernel
theorem dX7_ways_30 : decode cX7_ways 30 = .ok (.imul, 1) := by decide +kernel
theorem dX7_ways_31 : decode cX7_ways 31 = .ok (.iconst 1, 1) := by decide +kernel
theorem dX7_ways_32 : decode cX7_ways 32 = .ok (.iadd, 1) := by decide +kernel
theorem dX7_ways_33 : decode cX7_ways 33 = .ok (.istore_n 3, 1) := by decide +kernel
theorem dX7_ways_34 : decode cX7_ways 34 = .ok (.aload_n 0, 1) := by decide +kernel
theorem dX7_ways_35 : decode cX7_ways 35 = .ok (.arraylength, 1) := by decide +kernel
theorem dX7_ways_36 : decode cX7_ways 36 = .ok (.iconst 1, 1) := by decide +kernel
theorem dX7_ways_37 : decode cX7_ways 37 = .ok (.iadd, 1) := by decide +kernel
theorem dX7_ways_38 : decode cX7_ways 38 = .ok (.iload_n 3, 1) := by decide +kernel
theorem dX7_ways_39 : decode cX7_ways 39 = .ok (.multianewarray 174 2, 4) := by decide +kernel
theorem dX7_ways_43 : decode cX7_ways 43 = .ok (.astore 4, 2) := by decide +kernel
theorem dX7_ways_45 : decode cX7_ways 45 = .ok (.aload 4, 2) := by decide +kernel
theorem dX7_ways_47 : decode cX7_ways 47 = .ok (.iconst 0, 1) := by decide +kernel
theorem dX7_ways_48 : decode cX7_ways 48 = .ok (.aaload, 1) := by decide +kernel
theorem dX7_ways_49 : decode cX7_ways 49 = .ok (.iconst 0, 1) := by decide +kernel
theorem dX7_ways_50 : decode cX7_ways 50 = .ok (.iconst 1, 1) := by decide +kernel
theorem dX7_ways_51 : decode cX7_ways 51 = .ok (.iastore, 1) := by decide +kernel
theorem dX7_ways_52 : decode cX7_ways 52 = .ok (.iconst 0, 1) := by decide +kernel
theorem dX7_ways_53 : decode cX7_ways 53 = .ok (.istore 5, 2) := by decide +kernel
theorem dX7_ways_55 : decode cX7_ways 55 = .ok (.iload 5, 2) := by decide +kernel
theorem dX7_ways_57 : decode cX7_ways 57 = .ok (.aload_n 2, 1) := by decide +kernel
theorem dX7_ways_58 : decode cX7_ways 58 = .ok (.arraylength, 1) := by decide +kernel
theorem dX7_ways_59 : decode cX7_ways 59 = .ok (.if_icmp .ge 55, 3) := by decide +kernel
theorem dX7_ways_62 : decode cX7_ways 62 = .ok (.iload 5, 2) := by decide +kernel
theorem dX7_ways_64 : decode cX7_ways 64 = .ok (.istore 6, 2) := by decide +kernel
theorem dX7_ways_66 : decode cX7_ways 66 = .ok (.iload 6, 2) := by decide +kernel
theorem dX7_ways_68 : decode cX7_ways 68 = .ok (.aload_n 2, 1) := by decide +kernel
theorem dX7_ways_69 : decode cX7_ways 69 = .ok (.arraylength, 1) := by decide +kernel
theorem dX7_ways_70 : decode cX7_ways 70 = .ok (.if_icmp .ge 20, 3) := by decide +kernel
theorem dX7_ways_73 : decode cX7_ways 73 = .ok (.aload_n 2, 1) := by decide +kernel
theorem dX7_ways_74 : decode cX7_ways 74 = .ok (.iload 6, 2) := by decide +kernel
theorem dX7_ways_76 : decode cX7_ways 76 = .ok (.iaload, 1) := by decide +kernel
theorem dX7_ways_77 : decode cX7_ways 77 = .ok (.aload_n 2, 1) := by decide +kernel
theorem dX7_ways_78 : decode cX7_ways 78 = .ok (.iload 5, 2) := by decide +kernel
theorem dX7_ways_80 : decode cX7_ways 80 = .ok (.iaload, 1) := by decide +kernel
theorem dX7_ways_81 : decode cX7_ways 81 = .ok (.if_icmp .ne 9, 3) := by decide +kernel
theorem dX7_ways_84 : decode cX7_ways 84 = .ok (.iinc 6 1, 3) := by decide +kernel
theorem dX7_ways_87 : decode cX7_ways 87 = .ok (.goto (-21), 3) := by decide +kernel
theorem dX7_ways_90 : decode cX7_ways 90 = .ok (.aload 4, 2) := by decide +kernel
theorem dX7_ways_92 : decode cX7_ways 92 = .ok (.iload 6, 2) := by decide +kernel
theorem dX7_ways_94 : decode cX7_ways 94 = .ok (.iload 5, 2) := by decide +kernel
theorem dX7_ways_96 : decode cX7_ways 96 = .ok (.isub, 1) := by decide +kernel
theorem dX7_ways_97 : decode cX7_ways 97 = .ok (.iload 5, 2) := by decide +kernel
theorem dX7_ways_99 : decode cX7_ways 99 = .ok (.aload_n 1, 1) := by decide +kernel
theorem dX7_ways_100 : decode cX7_ways 100 = .ok (.arraylength, 1) := by decide +kernel
theorem dX7_ways_101 : decode cX7_ways 101 = .ok (.iload_n 3, 1) := by decide +kernel
theorem dX7_ways_102 : decode cX7_ways 102 = .ok (.invokestatic 176, 3) := by decide +kernel
theorem dX7_ways_105 : decode cX7_ways 105 = .ok (.astore 4, 2) := by decide +kernel
theorem dX7_ways_107 : decode cX7_ways 107 = .ok (.iload 6, 2) := by decide +kernel
theorem dX7_ways_109 : decode cX7_ways 109 = .ok (.istore 5, 2) := by decide +kernel
theorem dX7_ways_111 : decode cX7_ways 111 = .ok (.goto (-56), 3) := by decide +kernel
theorem dX7_ways_114 : decode cX7_ways 114 = .ok (.aload 4, 2) := by decide +kernel
theorem dX7_ways_116 : decode cX7_ways 116 = .ok (.aload_n 0, 1) := by decide +kernel
theorem dX7_ways_117 : decode cX7_ways 117 = .ok (.arraylength, 1) := by decide +kernel
theorem dX7_ways_118 : decode cX7_ways 118 = .ok (.aaload, 1) := by decide +kernel
theorem dX7_ways_119 : decode cX7_ways 119 = .ok (.areturn, 1) := by decide +kernel
theorem dX7_passed_0 : decode cX7_passed 0 = .ok (.aload_n 0, 1) := by decide +kernel
theorem dX7_passed_1 : decode cX7_passed 1 = .ok (.arraylength, 1) := by decide +kernel
theorem dX7_passed_2 : decode cX7_passed 2 = .ok (.iload 4, 2) := by decide +kernel
theorem dX7_passed_4 : decode cX7_passed 4 = .ok (.multianewarray 174 2, 4) := by decide +kernel
theorem dX7_passed_8 : decode cX7_passed 8 = .ok (.astore 5, 2) := by decide +kernel
theorem dX7_passed_10 : decode cX7_passed 10 = .ok (.iconst 0, 1) := by decide +kernel
theorem dX7_passed_11 : decode cX7_passed 11 = .ok (.istore 6, 2) := by decide +kernel
theorem dX7_passed_13 : decode cX7_passed 13 = .ok (.iload 6, 2) := by decide +kernel
theorem dX7_passed_15 : decode cX7_passed 15 = .ok (.aload_n 0, 1) := by decide +kernel
theorem dX7_passed_16 : decode cX7_passed 16 = .ok (.arraylength, 1) := by decide +kernel
theorem dX7_passed_17 : decode cX7_passed 17 = .ok (.if_icmp .ge 123, 3) := by decide +kernel
theorem dX7_passed_20 : decode cX7_passed 20 = .ok (.iconst 0, 1) := by decide +kernel
theorem dX7_passed_21 : decode cX7_passed 21 = .ok (.istore 7, 2) := by decide +kernel
theorem dX7_passed_23 : decode cX7_passed 23 = .ok (.iload 7, 2) := by decide +kernel
theorem dX7_passed_25 : decode cX7_passed 25 = .ok (.iload_n 1, 1) := by decide +kernel
theorem dX7_passed_26 : decode cX7_passed 26 = .ok (.if_icmp .gt 108, 3) := by decide +kernel
theorem dX7_passed_29 : decode cX7_passed 29 = .ok (.iload 6, 2) := by decide +kernel
theorem dX7_passed_31 : decode cX7_passed 31 = .ok (.iload 7, 2) := by decide +kernel
theorem dX7_passed_33 : decode cX7_passed 33 = .ok (.iadd, 1) := by decide +kernel
theorem dX7_passed_34 : decode cX7_passed 34 = .ok (.aload_n 0, 1) := by decide +kernel
theorem dX7_passed_35 : decode cX7_passed 35 = .ok (.arraylength, 1) := by decide +kernel
theorem dX7_passed_36 : decode cX7_passed 36 = .ok (.if_icmp .ge 98, 3) := by decide +kernel
theorem dX7_passed_39 : decode cX7_passed 39 = .ok (.iload_n 1, 1) := by decide +kernel
theorem dX7_passed_40 : decode cX7_passed 40 = .ok (.iload 7, 2) := by decide +kernel
theorem dX7_passed_42 : decode cX7_passed 42 = .ok (.isub, 1) := by decide +kernel
theorem dX7_passed_43 : decode cX7_passed 43 = .ok (.istore 8, 2) := by decide +kernel
theorem dX7_passed_45 : decode cX7_passed 45 = .ok (.iload_n 2, 1) := by decide +kernel
theorem dX7_passed_46 : decode cX7_passed 46 = .ok (.iload 6, 2) := by decide +kernel
theorem dX7_passed_48 : decode cX7_passed 48 = .ok (.isub, 1) := by decide +kernel
theorem dX7_passed_49 : decode cX7_passed 49 = .ok (.iload 8, 2) := by decide +kernel
theorem dX7_passed_51 : decode cX7_passed 51 = .ok (.iadd, 1) := by decide +kernel
theorem dX7_passed_52 : decode cX7_passed 52 = .ok (.iload_n 3, 1) := by decide +kernel
theorem dX7_passed_53 : decode cX7_passed 53 = .ok (.if_icmp .le 6, 3) := by decide +kernel
theorem dX7_passed_56 : decode cX7_passed 56 = .ok (.goto 72, 3) := by decide +kernel
theorem dX7_passed_59 : decode cX7_passed 59 = .ok (.iconst 2, 1) := by decide +kernel
theorem dX7_passed_60 : decode cX7_passed 60 = .ok (.iload 6, 2) := by decide +kernel
theorem dX7_passed_62 : decode cX7_passed 62 = .ok (.imul, 1) := by decide +kernel
theorem dX7_passed_63 : decode cX7_passed 63 = .ok (.iload 8, 2) := by decide +kernel
theorem dX7_passed_65 : decode cX7_passed 65 = .ok (.imul, 1) := by decide +kernel
theorem dX7_passed_66 : decode cX7_passed 66 = .ok (.iload 7, 2) := by decide +kernel
theorem dX7_passed_68 : decode cX7_passed 68 = .ok (.iload 8, 2) := by decide +kernel
theorem dX7_passed_70 : decode cX7_passed 70 = .ok (.imul, 1) := by decide +kernel
theorem dX7_passed_71 : decode cX7_passed 71 = .ok (.iadd, 1) := by decide +kernel
theorem dX7_passed_72 : decode cX7_passed 72 = .ok (.istore 9, 2) := by decide +kernel
theorem dX7_passed_74 : decode cX7_passed 74 = .ok (.iload_n 1, 1) := by decide +kernel
theorem dX7_passed_75 : decode cX7_passed 75 = .ok (.iload 7, 2) := by decide +kernel
theorem dX7_passed_77 : decode cX7_passed 77 = .ok (.invokestatic 180, 3) := by decide +kernel
theorem dX7_passed_80 : decode cX7_passed 80 = .ok (.istore 10, 2) := by decide +kernel
theorem dX7_passed_82 : decode cX7_passed 82 = .ok (.iconst 0, 1) := by decide +kernel
theorem dX7_passed_83 : decode cX7_passed 83 = .ok (.istore 11, 2) := by decide +kernel
theorem dX7_passed_85 : decode cX7_passed 85 = .ok (.iload 11, 2) := by decide +kernel
theorem dX7_passed_87 : decode cX7_passed 87 = .ok (.iload 9, 2) := by decide +kernel
theorem dX7_passed_89 : decode cX7_passed 89 = .ok (.iadd, 1) := by decide +kernel
theorem dX7_passed_90 : decode cX7_passed 90 = .ok (.iload 4, 2) := by decide +kernel
theorem dX7_passed_92 : decode cX7_passed 92 = .ok (.if_icmp .ge 36, 3) := by decide +kernel
theorem dX7_passed_95 : decode cX7_passed 95 = .ok (.aload 5, 2) := by decide +kernel
theorem dX7_passed_97 : decode cX7_passed 97 = .ok (.iload 6, 2) := by decide +kernel
theorem dX7_passed_99 : decode cX7_passed 99 = .ok (.iload 7, 2) := by decide +kernel
theorem dX7_passed_101 : decode cX7_passed 101 = .ok (.iadd, 1) := by decide +kernel
theorem dX7_passed_102 : decode cX7_passed 102 = .ok (.aaload, 1) := by decide +kernel
theorem dX7_passed_103 : decode cX7_passed 103 = .ok (.iload 11, 2) := by decide +kernel
theorem dX7_passed_105 : decode cX7_passed 105 = .ok (.iload 9, 2) := by decide +kernel
theorem dX7_passed_107 : decode cX7_passed 107 = .ok (.iadd, 1) := by decide +kernel
theorem dX7_passed_108 : decode cX7_passed 108 = .ok (.dup2, 1) := by decide +kernel
theorem dX7_passed_109 : decode cX7_passed 109 = .ok (.iaload, 1) := by decide +kernel
theorem dX7_passed_110 : decode cX7_passed 110 = .ok (.aload_n 0, 1) := by decide +kernel
theorem dX7_passed_111 : decode cX7_passed 111 = .ok (.iload 6, 2) := by decide +kernel
theorem dX7_passed_113 : decode cX7_passed 113 = .ok (.aaload, 1) := by decide +kernel
theorem dX7_passed_114 : decode cX7_passed 114 = .ok (.iload 11, 2) := by decide +kernel
theorem dX7_passed_116 : decode cX7_passed 116 = .ok (.iaload, 1) := by decide +kernel
theorem dX7_passed_117 : decode cX7_passed 117 = .ok (.iload 10, 2) := by decide +kernel
theorem dX7_passed_119 : decode cX7_passed 119 = .ok (.imul, 1) := by decide +kernel
theorem dX7_passed_120 : decode cX7_passed 120 = .ok (.iadd, 1) := by decide +kernel
theorem dX7_passed_121 : decode cX7_passed 121 = .ok (.iastore, 1) := by decide +kernel
theorem dX7_passed_122 : decode cX7_passed 122 = .ok (.iinc 11 1, 3) := by decide +kernel
theorem dX7_passed_125 : decode cX7_passed 125 = .ok (.goto (-40), 3) := by decide +kernel
theorem dX7_passed_128 : decode cX7_passed 128 = .ok (.iinc 7 1, 3) := by decide +kernel
theorem dX7_passed_131 : decode cX7_passed 131 = .ok (.goto (-108), 3) := by decide +kernel
theorem dX7_passed_134 : decode cX7_passed 134 = .ok (.iinc 6 1, 3) := by decide +kernel
theorem dX7_passed_137 : decode cX7_passed 137 = .ok (.goto (-124), 3) := by decide +kernel
theorem dX7_passed_140 : decode cX7_passed 140 = .ok (.aload 5, 2) := by decide +kernel
theorem dX7_passed_142 : decode cX7_passed 142 = .ok (.areturn, 1) := by decide +kernel
theorem dX7_choose_0 : decode cX7_choose 0 = .ok (.iconst 1, 1) := by decide +kernel
theorem dX7_choose_1 : decode cX7_choose 1 = .ok (.istore_n 2, 1) := by decide +kernel
theorem dX7_choose_2 : decode cX7_choose 2 = .ok (.iconst 1, 1) := by decide +kernel
theorem dX7_choose_3 : decode cX7_choose 3 = .ok (.istore_n 3, 1) := by decide +kernel
theorem dX7_choose_4 : decode cX7_choose 4 = .ok (.iload_n 3, 1) := by decide +kernel
theorem dX7_choose_5 : decode cX7_choose 5 = .ok (.iload_n 1, 1) := by decide +kernel
theorem dX7_choose_6 : decode cX7_choose 6 = .ok (.if_icmp .gt 19, 3) := by decide +kernel
theorem dX7_choose_9 : decode cX7_choose 9 = .ok (.iload_n 2, 1) := by decide +kernel
theorem dX7_choose_10 : decode cX7_choose 10 = .ok (.iload_n 0, 1) := by decide +kernel
theorem dX7_choose_11 : decode cX7_choose 11 = .ok (.iload_n 1, 1) := by decide +kernel
theorem dX7_choose_12 : decode cX7_choose 12 = .ok (.isub, 1) := by decide +kernel
theorem dX7_choose_13 : decode cX7_choose 13 = .ok (.iload_n 3, 1) := by decide +kernel
theorem dX7_choose_14 : decode cX7_choose 14 = .ok (.iadd, 1) := by decide +kernel
theorem dX7_choose_15 : decode cX7_choose 15 = .ok (.imul, 1) := by decide +kernel
theorem dX7_choose_16 : decode cX7_choose 16 = .ok (.iload_n 3, 1) := by decide +kernel
theorem dX7_choose_17 : decode cX7_choose 17 = .ok (.idiv, 1) := by decide +kernel
theorem dX7_choose_18 : decode cX7_choose 18 = .ok (.istore_n 2, 1) := by decide +kernel
theorem dX7_choose_19 : decode cX7_choose 19 = .ok (.iinc 3 1, 3) := by decide +kernel
theorem dX7_choose_22 : decode cX7_choose 22 = .ok (.goto (-18), 3) := by decide +kernel
theorem dX7_choose_25 : decode cX7_choose 25 = .ok (.iload_n 2, 1) := by decide +kernel
theorem dX7_choose_26 : decode cX7_choose 26 = .ok (.ireturn, 1) := by decide +kernel
theorem dX7_reckoned_0 : decode cX7_reckoned 0 = .ok (.aload_n 0, 1) := by decide +kernel
theorem dX7_reckoned_1 : decode cX7_reckoned 1 = .ok (.aload_n 1, 1) := by decide +kernel
theorem dX7_reckoned_2 : decode cX7_reckoned 2 = .ok (.invokestatic 183, 3) := by decide +kernel
theorem dX7_reckoned_5 : decode cX7_reckoned 5 = .ok (.astore_n 2, 1) := by decide +kernel
theorem dX7_reckoned_6 : decode cX7_reckoned 6 = .ok (.aload_n 0, 1) := by decide +kernel
theorem dX7_reckoned_7 : decode cX7_reckoned 7 = .ok (.aload_n 1, 1) := by decide +kernel
theorem dX7_reckoned_8 : decode cX7_reckoned 8 = .ok (.invokestatic 187, 3) := by decide +kernel
theorem dX7_reckoned_11 : decode cX7_reckoned 11 = .ok (.istore_n 3, 1) := by decide +kernel
theorem dX7_reckoned_12 : decode cX7_reckoned 12 = .ok (.iconst 4, 1) := by decide +kernel
theorem dX7_reckoned_13 : decode cX7_reckoned 13 = .ok (.newarray .int, 2) := by decide +kernel
theorem dX7_reckoned_15 : decode cX7_reckoned 15 = .ok (.dup, 1) := by decide +kernel
theorem dX7_reckoned_16 : decode cX7_reckoned 16 = .ok (.iconst 0, 1) := by decide +kernel
theorem dX7_reckoned_17 : decode cX7_reckoned 17 = .ok (.iload_n 3, 1) := by decide +kernel
theorem dX7_reckoned_18 : decode cX7_reckoned 18 = .ok (.iastore, 1) := by decide +kernel
theorem dX7_reckoned_19 : decode cX7_reckoned 19 = .ok (.dup, 1) := by decide +kernel
theorem dX7_reckoned_20 : decode cX7_reckoned 20 = .ok (.iconst 1, 1) := by decide +kernel
theorem dX7_reckoned_21 : decode cX7_reckoned 21 = .ok (.iconst 0, 1) := by decide +kernel
theorem dX7_reckoned_22 : decode cX7_reckoned 22 = .ok (.iastore, 1) := by decide +kernel
theorem dX7_reckoned_23 : decode cX7_reckoned 23 = .ok (.dup, 1) := by decide +kernel
theorem dX7_reckoned_24 : decode cX7_reckoned 24 = .ok (.iconst 2, 1) := by decide +kernel
theorem dX7_reckoned_25 : decode cX7_reckoned 25 = .ok (.iconst 0, 1) := by decide +kernel
theorem dX7_reckoned_26 : decode cX7_reckoned 26 = .ok (.iastore, 1) := by decide +kernel
theorem dX7_reckoned_27 : decode cX7_reckoned 27 = .ok (.dup, 1) := by decide +kernel
theorem dX7_reckoned_28 : decode cX7_reckoned 28 = .ok (.iconst 3, 1) := by decide +kernel
theorem dX7_reckoned_29 : decode cX7_reckoned 29 = .ok (.iconst 0, 1) := by decide +kernel
theorem dX7_reckoned_30 : decode cX7_reckoned 30 = .ok (.iastore, 1) := by decide +kernel
theorem dX7_reckoned_31 : decode cX7_reckoned 31 = .ok (.astore 4, 2) := by decide +kernel
theorem dX7_reckoned_33 : decode cX7_reckoned 33 = .ok (.iconst 0, 1) := by decide +kernel
theorem dX7_reckoned_34 : decode cX7_reckoned 34 = .ok (.istore 5, 2) := by decide +kernel
theorem dX7_reckoned_36 : decode cX7_reckoned 36 = .ok (.iload 5, 2) := by decide +kernel
theorem dX7_reckoned_38 : decode cX7_reckoned 38 = .ok (.aload_n 2, 1) := by decide +kernel
theorem dX7_reckoned_39 : decode cX7_reckoned 39 = .ok (.arraylength, 1) := by decide +kernel
theorem dX7_reckoned_40 : decode cX7_reckoned 40 = .ok (.if_icmp .ge 62, 3) := by decide +kernel
theorem dX7_reckoned_43 : decode cX7_reckoned 43 = .ok (.aload 4, 2) := by decide +kernel
theorem dX7_reckoned_45 : decode cX7_reckoned 45 = .ok (.iconst 1, 1) := by decide +kernel
theorem dX7_reckoned_46 : decode cX7_reckoned 46 = .ok (.dup2, 1) := by decide +kernel
theorem dX7_reckoned_47 : decode cX7_reckoned 47 = .ok (.iaload, 1) := by decide +kernel
theorem dX7_reckoned_48 : decode cX7_reckoned 48 = .ok (.iload 5, 2) := by decide +kernel
theorem dX7_reckoned_50 : decode cX7_reckoned 50 = .ok (.iload_n 3, 1) := by decide +kernel
theorem dX7_reckoned_51 : decode cX7_reckoned 51 = .ok (.if_icmp .lt 10, 3) := by decide +kernel
theorem dX7_reckoned_54 : decode cX7_reckoned 54 = .ok (.aload_n 2, 1) := by decide +kernel
theorem dX7_reckoned_55 : decode cX7_reckoned 55 = .ok (.iload 5, 2) := by decide +kernel
theorem dX7_reckoned_57 : decode cX7_reckoned 57 = .ok (.iaload, 1) := by decide +kernel
theorem dX7_reckoned_58 : decode cX7_reckoned 58 = .ok (.goto 4, 3) := by decide +kernel
theorem dX7_reckoned_61 : decode cX7_reckoned 61 = .ok (.iconst 0, 1) := by decide +kernel
theorem dX7_reckoned_62 : decode cX7_reckoned 62 = .ok (.iadd, 1) := by decide +kernel
theorem dX7_reckoned_63 : decode cX7_reckoned 63 = .ok (.iastore, 1) := by decide +kernel
theorem dX7_reckoned_64 : decode cX7_reckoned 64 = .ok (.aload 4, 2) := by decide +kernel
theorem dX7_reckoned_66 : decode cX7_reckoned 66 = .ok (.iconst 2, 1) := by decide +kernel
theorem dX7_reckoned_67 : decode cX7_reckoned 67 = .ok (.dup2, 1) := by decide +kernel
theorem dX7_reckoned_68 : decode cX7_reckoned 68 = .ok (.iaload, 1) := by decide +kernel
theorem dX7_reckoned_69 : decode cX7_reckoned 69 = .ok (.iload 5, 2) := by decide +kernel
theorem dX7_reckoned_71 : decode cX7_reckoned 71 = .ok (.iload_n 3, 1) := by decide +kernel
theorem dX7_reckoned_72 : decode cX7_reckoned 72 = .ok (.if_icmp .gt 10, 3) := by decide +kernel
theorem dX7_reckoned_75 : decode cX7_reckoned 75 = .ok (.aload_n 2, 1) := by decide +kernel
theorem dX7_reckoned_76 : decode cX7_reckoned 76 = .ok (.iload 5, 2) := by decide +kernel
theorem dX7_reckoned_78 : decode cX7_reckoned 78 = .ok (.iaload, 1) := by decide +kernel
theorem dX7_reckoned_79 : decode cX7_reckoned 79 = .ok (.goto 4, 3) := by decide +kernel
theorem dX7_reckoned_82 : decode cX7_reckoned 82 = .ok (.iconst 0, 1) := by decide +kernel
theorem dX7_reckoned_83 : decode cX7_reckoned 83 = .ok (.iadd, 1) := by decide +kernel
theorem dX7_reckoned_84 : decode cX7_reckoned 84 = .ok (.iastore, 1) := by decide +kernel
theorem dX7_reckoned_85 : decode cX7_reckoned 85 = .ok (.aload 4, 2) := by decide +kernel
theorem dX7_reckoned_87 : decode cX7_reckoned 87 = .ok (.iconst 3, 1) := by decide +kernel
theorem dX7_reckoned_88 : decode cX7_reckoned 88 = .ok (.dup2, 1) := by decide +kernel
theorem dX7_reckoned_89 : decode cX7_reckoned 89 = .ok (.iaload, 1) := by decide +kernel
theorem dX7_reckoned_90 : decode cX7_reckoned 90 = .ok (.aload_n 2, 1) := by decide +kernel
theorem dX7_reckoned_91 : decode cX7_reckoned 91 = .ok (.iload 5, 2) := by decide +kernel
theorem dX7_reckoned_93 : decode cX7_reckoned 93 = .ok (.iaload, 1) := by decide +kernel
theorem dX7_reckoned_94 : decode cX7_reckoned 94 = .ok (.iadd, 1) := by decide +kernel
theorem dX7_reckoned_95 : decode cX7_reckoned 95 = .ok (.iastore, 1) := by decide +kernel
theorem dX7_reckoned_96 : decode cX7_reckoned 96 = .ok (.iinc 5 1, 3) := by decide +kernel
theorem dX7_reckoned_99 : decode cX7_reckoned 99 = .ok (.goto (-63), 3) := by decide +kernel
theorem dX7_reckoned_102 : decode cX7_reckoned 102 = .ok (.aload 4, 2) := by decide +kernel
theorem dX7_reckoned_104 : decode cX7_reckoned 104 = .ok (.areturn, 1) := by decide +kernel
theorem dX7_verdictOf_0 : decode cX7_verdictOf 0 = .ok (.aload_n 1, 1) := by decide +kernel
theorem dX7_verdictOf_1 : decode cX7_verdictOf 1 = .ok (.arraylength, 1) := by decide +kernel
theorem dX7_verdictOf_2 : decode cX7_verdictOf 2 = .ok (.aload_n 0, 1) := by decide +kernel
theorem dX7_verdictOf_3 : decode cX7_verdictOf 3 = .ok (.getfield 33, 3) := by decide +kernel
theorem dX7_verdictOf_6 : decode cX7_verdictOf 6 = .ok (.if_icmp .lt 12, 3) := by decide +kernel
theorem dX7_verdictOf_9 : decode cX7_verdictOf 9 = .ok (.aload_n 2, 1) := by decide +kernel
theorem dX7_verdictOf_10 : decode cX7_verdictOf 10 = .ok (.arraylength, 1) := by decide +kernel
theorem dX7_verdictOf_11 : decode cX7_verdictOf 11 = .ok (.aload_n 0, 1) := by decide +kernel
theorem dX7_verdictOf_12 : decode cX7_verdictOf 12 = .ok (.getfield 33, 3) := by decide +kernel
theorem dX7_verdictOf_15 : decode cX7_verdictOf 15 = .ok (.if_icmp .ge 5, 3) := by decide +kernel
theorem dX7_verdictOf_18 : decode cX7_verdictOf 18 = .ok (.iconst 0, 1) := by decide +kernel
theorem dX7_verdictOf_19 : decode cX7_verdictOf 19 = .ok (.ireturn, 1) := by decide +kernel
theorem dX7_verdictOf_20 : decode cX7_verdictOf 20 = .ok (.aload_n 1, 1) := by decide +kernel
theorem dX7_verdictOf_21 : decode cX7_verdictOf 21 = .ok (.aload_n 2, 1) := by decide +kernel
theorem dX7_verdictOf_22 : decode cX7_verdictOf 22 = .ok (.invokestatic 191, 3) := by decide +kernel
theorem dX7_verdictOf_25 : decode cX7_verdictOf 25 = .ok (.astore_n 3, 1) := by decide +kernel
theorem dX7_verdictOf_26 : decode cX7_verdictOf 26 = .ok (.aload_n 3, 1) := by decide +kernel
theorem dX7_verdictOf_27 : decode cX7_verdictOf 27 = .ok (.iconst 1, 1) := by decide +kernel
theorem dX7_verdictOf_28 : decode cX7_verdictOf 28 = .ok (.iaload, 1) := by decide +kernel
theorem dX7_verdictOf_29 : decode cX7_verdictOf 29 = .ok (.sipush 1000, 3) := by decide +kernel
theorem dX7_verdictOf_32 : decode cX7_verdictOf 32 = .ok (.imul, 1) := by decide +kernel
theorem dX7_verdictOf_33 : decode cX7_verdictOf 33 = .ok (.aload_n 0, 1) := by decide +kernel
theorem dX7_verdictOf_34 : decode cX7_verdictOf 34 = .ok (.getfield 36, 3) := by decide +kernel
theorem dX7_verdictOf_37 : decode cX7_verdictOf 37 = .ok (.aload_n 3, 1) := by decide +kernel
theorem dX7_verdictOf_38 : decode cX7_verdictOf 38 = .ok (.iconst 3, 1) := by decide +kernel
theorem dX7_verdictOf_39 : decode cX7_verdictOf 39 = .ok (.iaload, 1) := by decide +kernel
theorem dX7_verdictOf_40 : decode cX7_verdictOf 40 = .ok (.imul, 1) := by decide +kernel
theorem dX7_verdictOf_41 : decode cX7_verdictOf 41 = .ok (.if_icmp .gt 5, 3) := by decide +kernel
theorem dX7_verdictOf_44 : decode cX7_verdictOf 44 = .ok (.iconst 1, 1) := by decide +kernel
theorem dX7_verdictOf_45 : decode cX7_verdictOf 45 = .ok (.ireturn, 1) := by decide +kernel
theorem dX7_verdictOf_46 : decode cX7_verdictOf 46 = .ok (.aload_n 3, 1) := by decide +kernel
theorem dX7_verdictOf_47 : decode cX7_verdictOf 47 = .ok (.iconst 2, 1) := by decide +kernel
theorem dX7_verdictOf_48 : decode cX7_verdictOf 48 = .ok (.iaload, 1) := by decide +kernel
theorem dX7_verdictOf_49 : decode cX7_verdictOf 49 = .ok (.sipush 1000, 3) := by decide +kernel
theorem dX7_verdictOf_52 : decode cX7_verdictOf 52 = .ok (.imul, 1) := by decide +kernel
theorem dX7_verdictOf_53 : decode cX7_verdictOf 53 = .ok (.aload_n 0, 1) := by decide +kernel
theorem dX7_verdictOf_54 : decode cX7_verdictOf 54 = .ok (.getfield 36, 3) := by decide +kernel
theorem dX7_verdictOf_57 : decode cX7_verdictOf 57 = .ok (.aload_n 3, 1) := by decide +kernel
theorem dX7_verdictOf_58 : decode cX7_verdictOf 58 = .ok (.iconst 3, 1) := by decide +kernel
theorem dX7_verdictOf_59 : decode cX7_verdictOf 59 = .ok (.iaload, 1) := by decide +kernel
theorem dX7_verdictOf_60 : decode cX7_verdictOf 60 = .ok (.imul, 1) := by decide +kernel
theorem dX7_verdictOf_61 : decode cX7_verdictOf 61 = .ok (.if_icmp .gt 5, 3) := by decide +kernel
theorem dX7_verdictOf_64 : decode cX7_verdictOf 64 = .ok (.iconst 2, 1) := by decide +kernel
theorem dX7_verdictOf_65 : decode cX7_verdictOf 65 = .ok (.ireturn, 1) := by decide +kernel
theorem dX7_verdictOf_66 : decode cX7_verdictOf 66 = .ok (.aload_n 1, 1) := by decide +kernel
theorem dX7_verdictOf_67 : decode cX7_verdictOf 67 = .ok (.arraylength, 1) := by decide +kernel
theorem dX7_verdictOf_68 : decode cX7_verdictOf 68 = .ok (.bipush 6, 2) := by decide +kernel
theorem dX7_verdictOf_70 : decode cX7_verdictOf 70 = .ok (.if_icmp .ne 14, 3) := by decide +kernel
theorem dX7_verdictOf_73 : decode cX7_verdictOf 73 = .ok (.aload_n 2, 1) := by decide +kernel
theorem dX7_verdictOf_74 : decode cX7_verdictOf 74 = .ok (.arraylength, 1) := by decide +kernel
theorem dX7_verdictOf_75 : decode cX7_verdictOf 75 = .ok (.bipush 6, 2) := by decide +kernel
theorem dX7_verdictOf_77 : decode cX7_verdictOf 77 = .ok (.if_icmp .ne 7, 3) := by decide +kernel
theorem dX7_verdictOf_80 : decode cX7_verdictOf 80 = .ok (.iconst 3, 1) := by decide +kernel
theorem dX7_verdictOf_81 : decode cX7_verdictOf 81 = .ok (.goto 4, 3) := by decide +kernel
theorem dX7_verdictOf_84 : decode cX7_verdictOf 84 = .ok (.iconst 4, 1) := by decide +kernel
theorem dX7_verdictOf_85 : decode cX7_verdictOf 85 = .ok (.ireturn, 1) := by decide +kernel
theorem dX7_verdictNow_0 : decode cX7_verdictNow 0 = .ok (.iload_n 3, 1) := by decide +kernel
theorem dX7_verdictNow_1 : decode cX7_verdictNow 1 = .ok (.ifCond .ne 20, 3) := by decide +kernel
theorem dX7_verdictNow_4 : decode cX7_verdictNow 4 = .ok (.aload_n 0, 1) := by decide +kernel
theorem dX7_verdictNow_5 : decode cX7_verdictNow 5 = .ok (.aload_n 0, 1) := by decide +kernel
theorem dX7_verdictNow_6 : decode cX7_verdictNow 6 = .ok (.iload_n 1, 1) := by decide +kernel
theorem dX7_verdictNow_7 : decode cX7_verdictNow 7 = .ok (.invokevirtual 154, 3) := by decide +kernel
theorem dX7_verdictNow_10 : decode cX7_verdictNow 10 = .ok (.aload_n 0, 1) := by decide +kernel
theorem dX7_verdictNow_11 : decode cX7_verdictNow 11 = .ok (.iload_n 2, 1) := by decide +kernel
theorem dX7_verdictNow_12 : decode cX7_verdictNow 12 = .ok (.invokevirtual 154, 3) := by decide +kernel
theorem dX7_verdictNow_15 : decode cX7_verdictNow 15 = .ok (.invokevirtual 194, 3) := by decide +kernel
theorem dX7_verdictNow_18 : decode cX7_verdictNow 18 = .ok (.goto 20, 3) := by decide +kernel
theorem dX7_verdictNow_21 : decode cX7_verdictNow 21 = .ok (.aload_n 0, 1) := by decide +kernel
theorem dX7_verdictNow_22 : decode cX7_verdictNow 22 = .ok (.iload_n 1, 1) := by decide +kernel
theorem dX7_verdictNow_23 : decode cX7_verdictNow 23 = .ok (.invokevirtual 154, 3) := by decide +kernel
theorem dX7_verdictNow_26 : decode cX7_verdictNow 26 = .ok (.aload_n 0, 1) := by decide +kernel
theorem dX7_verdictNow_27 : decode cX7_verdictNow 27 = .ok (.iload_n 2, 1) := by decide +kernel
theorem dX7_verdictNow_28 : decode cX7_verdictNow 28 = .ok (.invokevirtual 154, 3) := by decide +kernel
theorem dX7_verdictNow_31 : decode cX7_verdictNow 31 = .ok (.invokestatic 191, 3) := by decide +kernel
theorem dX7_verdictNow_34 : decode cX7_verdictNow 34 = .ok (.iload_n 3, 1) := by decide +kernel
theorem dX7_verdictNow_35 : decode cX7_verdictNow 35 = .ok (.iconst 1, 1) := by decide +kernel
theorem dX7_verdictNow_36 : decode cX7_verdictNow 36 = .ok (.isub, 1) := by decide +kernel
theorem dX7_verdictNow_37 : decode cX7_verdictNow 37 = .ok (.iaload, 1) := by decide +kernel
theorem dX7_verdictNow_38 : decode cX7_verdictNow 38 = .ok (.ireturn, 1) := by decide +kernel
theorem dX7_verdict_0 : decode cX7_verdict 0 = .ok (.aload_n 0, 1) := by decide +kernel
theorem dX7_verdict_1 : decode cX7_verdict 1 = .ok (.iconst 0, 1) := by decide +kernel
theorem dX7_verdict_2 : decode cX7_verdict 2 = .ok (.putfield 57, 3) := by decide +kernel
theorem dX7_verdict_5 : decode cX7_verdict 5 = .ok (.aload_n 0, 1) := by decide +kernel
theorem dX7_verdict_6 : decode cX7_verdict 6 = .ok (.iload_n 1, 1) := by decide +kernel
theorem dX7_verdict_7 : decode cX7_verdict 7 = .ok (.invokevirtual 145, 3) := by decide +kernel
theorem dX7_verdict_10 : decode cX7_verdict 10 = .ok (.ifCond .eq 11, 3) := by decide +kernel
theorem dX7_verdict_13 : decode cX7_verdict 13 = .ok (.aload_n 0, 1) := by decide +kernel
theorem dX7_verdict_14 : decode cX7_verdict 14 = .ok (.iload_n 2, 1) := by decide +kernel
theorem dX7_verdict_15 : decode cX7_verdict 15 = .ok (.invokevirtual 145, 3) := by decide +kernel
theorem dX7_verdict_18 : decode cX7_verdict 18 = .ok (.ifCond .ne 9, 3) := by decide +kernel
theorem dX7_verdict_21 : decode cX7_verdict 21 = .ok (.aload_n 0, 1) := by decide +kernel
theorem dX7_verdict_22 : decode cX7_verdict 22 = .ok (.iconst 1, 1) := by decide +kernel
theorem dX7_verdict_23 : decode cX7_verdict 23 = .ok (.invokevirtual 87, 3) := by decide +kernel
theorem dX7_verdict_26 : decode cX7_verdict 26 = .ok (.ireturn, 1) := by decide +kernel
theorem dX7_verdict_27 : decode cX7_verdict 27 = .ok (.iload_n 3, 1) := by decide +kernel
theorem dX7_verdict_28 : decode cX7_verdict 28 = .ok (.iconst 0, 1) := by decide +kernel
theorem dX7_verdict_29 : decode cX7_verdict 29 = .ok (.iconst 4, 1) := by decide +kernel
theorem dX7_verdict_30 : decode cX7_verdict 30 = .ok (.invokestatic 64, 3) := by decide +kernel
theorem dX7_verdict_33 : decode cX7_verdict 33 = .ok (.ifCond .eq 13, 3) := by decide +kernel
theorem dX7_verdict_36 : decode cX7_verdict 36 = .ok (.aload_n 0, 1) := by decide +kernel
theorem dX7_verdict_37 : decode cX7_verdict 37 = .ok (.iload_n 1, 1) := by decide +kernel
theorem dX7_verdict_38 : decode cX7_verdict 38 = .ok (.iload_n 2, 1) := by decide +kernel
theorem dX7_verdict_39 : decode cX7_verdict 39 = .ok (.iload_n 3, 1) := by decide +kernel
theorem dX7_verdict_40 : decode cX7_verdict 40 = .ok (.invokevirtual 197, 3) := by decide +kernel
theorem dX7_verdict_43 : decode cX7_verdict 43 = .ok (.goto 8, 3) := by decide +kernel
theorem dX7_verdict_46 : decode cX7_verdict 46 = .ok (.aload_n 0, 1) := by decide +kernel
theorem dX7_verdict_47 : decode cX7_verdict 47 = .ok (.iconst 2, 1) := by decide +kernel
theorem dX7_verdict_48 : decode cX7_verdict 48 = .ok (.invokevirtual 87, 3) := by decide +kernel
theorem dX7_verdict_51 : decode cX7_verdict 51 = .ok (.ireturn, 1) := by decide +kernel
theorem dX7_doubt_0 : decode cX7_doubt 0 = .ok (.aload_n 0, 1) := by decide +kernel
theorem dX7_doubt_1 : decode cX7_doubt 1 = .ok (.aload_n 0, 1) := by decide +kernel
theorem dX7_doubt_2 : decode cX7_doubt 2 = .ok (.iload_n 1, 1) := by decide +kernel
theorem dX7_doubt_3 : decode cX7_doubt 3 = .ok (.invokevirtual 145, 3) := by decide +kernel
theorem dX7_doubt_6 : decode cX7_doubt 6 = .ok (.ifCond .eq 15, 3) := by decide +kernel
theorem dX7_doubt_9 : decode cX7_doubt 9 = .ok (.aload_n 0, 1) := by decide +kernel
theorem dX7_doubt_10 : decode cX7_doubt 10 = .ok (.iload_n 2, 1) := by decide +kernel
theorem dX7_doubt_11 : decode cX7_doubt 11 = .ok (.invokevirtual 145, 3) := by decide +kernel
theorem dX7_doubt_14 : decode cX7_doubt 14 = .ok (.ifCond .eq 7, 3) := by decide +kernel
theorem dX7_doubt_17 : decode cX7_doubt 17 = .ok (.iconst 0, 1) := by decide +kernel
theorem dX7_doubt_18 : decode cX7_doubt 18 = .ok (.goto 4, 3) := by decide +kernel
theorem dX7_doubt_21 : decode cX7_doubt 21 = .ok (.iconst 1, 1) := by decide +kernel
theorem dX7_doubt_22 : decode cX7_doubt 22 = .ok (.putfield 57, 3) := by decide +kernel
theorem dX7_doubt_25 : decode cX7_doubt 25 = .ok (.aload_n 0, 1) := by decide +kernel
theorem dX7_doubt_26 : decode cX7_doubt 26 = .ok (.getfield 57, 3) := by decide +kernel
theorem dX7_doubt_29 : decode cX7_doubt 29 = .ok (.ifCond .le 5, 3) := by decide +kernel
theorem dX7_doubt_32 : decode cX7_doubt 32 = .ok (.dconst 0, 1) := by decide +kernel
theorem dX7_doubt_33 : decode cX7_doubt 33 = .ok (.dreturn, 1) := by decide +kernel
theorem dX7_doubt_34 : decode cX7_doubt 34 = .ok (.aload_n 0, 1) := by decide +kernel
theorem dX7_doubt_35 : decode cX7_doubt 35 = .ok (.iload_n 1, 1) := by decide +kernel
theorem dX7_doubt_36 : decode cX7_doubt 36 = .ok (.invokevirtual 154, 3) := by decide +kernel
theorem dX7_doubt_39 : decode cX7_doubt 39 = .ok (.aload_n 0, 1) := by decide +kernel
theorem dX7_doubt_40 : decode cX7_doubt 40 = .ok (.iload_n 2, 1) := by decide +kernel
theorem dX7_doubt_41 : decode cX7_doubt 41 = .ok (.invokevirtual 154, 3) := by decide +kernel
theorem dX7_doubt_44 : decode cX7_doubt 44 = .ok (.invokestatic 191, 3) := by decide +kernel
theorem dX7_doubt_47 : decode cX7_doubt 47 = .ok (.astore_n 3, 1) := by decide +kernel
theorem dX7_doubt_48 : decode cX7_doubt 48 = .ok (.aload_n 3, 1) := by decide +kernel
theorem dX7_doubt_49 : decode cX7_doubt 49 = .ok (.iconst 1, 1) := by decide +kernel
theorem dX7_doubt_50 : decode cX7_doubt 50 = .ok (.iaload, 1) := by decide +kernel
theorem dX7_doubt_51 : decode cX7_doubt 51 = .ok (.i2d, 1) := by decide +kernel
theorem dX7_doubt_52 : decode cX7_doubt 52 = .ok (.aload_n 3, 1) := by decide +kernel
theorem dX7_doubt_53 : decode cX7_doubt 53 = .ok (.iconst 3, 1) := by decide +kernel
theorem dX7_doubt_54 : decode cX7_doubt 54 = .ok (.iaload, 1) := by decide +kernel
theorem dX7_doubt_55 : decode cX7_doubt 55 = .ok (.i2d, 1) := by decide +kernel
theorem dX7_doubt_56 : decode cX7_doubt 56 = .ok (.ddiv, 1) := by decide +kernel
theorem dX7_doubt_57 : decode cX7_doubt 57 = .ok (.dreturn, 1) := by decide +kernel
theorem dX7_rule_0 : decode cX7_rule 0 = .ok (.aload_n 0, 1) := by decide +kernel
theorem dX7_rule_1 : decode cX7_rule 1 = .ok (.iconst 0, 1) := by decide +kernel
theorem dX7_rule_2 : decode cX7_rule 2 = .ok (.putfield 57, 3) := by decide +kernel
theorem dX7_rule_5 : decode cX7_rule 5 = .ok (.iload_n 1, 1) := by decide +kernel
theorem dX7_rule_6 : decode cX7_rule 6 = .ok (.iconst 2, 1) := by decide +kernel
theorem dX7_rule_7 : decode cX7_rule 7 = .ok (.bipush 6, 2) := by decide +kernel
theorem dX7_rule_9 : decode cX7_rule 9 = .ok (.invokestatic 64, 3) := by decide +kernel
theorem dX7_rule_12 : decode cX7_rule 12 = .ok (.ifCond .eq 14, 3) := by decide +kernel
theorem dX7_rule_15 : decode cX7_rule 15 = .ok (.iload_n 2, 1) := by decide +kernel
theorem dX7_rule_16 : decode cX7_rule 16 = .ok (.iconst 1, 1) := by decide +kernel
theorem dX7_rule_17 : decode cX7_rule 17 = .ok (.sipush 200, 3) := by decide +kernel
theorem dX7_rule_20 : decode cX7_rule 20 = .ok (.invokestatic 64, 3) := by decide +kernel
theorem dX7_rule_23 : decode cX7_rule 23 = .ok (.ifCond .ne 9, 3) := by decide +kernel
theorem dX7_rule_26 : decode cX7_rule 26 = .ok (.aload_n 0, 1) := by decide +kernel
theorem dX7_rule_27 : decode cX7_rule 27 = .ok (.iconst 1, 1) := by decide +kernel
theorem dX7_rule_28 : decode cX7_rule 28 = .ok (.invokevirtual 87, 3) := by decide +kernel
theorem dX7_rule_31 : decode cX7_rule 31 = .ok (.ireturn, 1) := by decide +kernel
theorem dX7_rule_32 : decode cX7_rule 32 = .ok (.aload_n 0, 1) := by decide +kernel
theorem dX7_rule_33 : decode cX7_rule 33 = .ok (.getfield 36, 3) := by decide +kernel
theorem dX7_rule_36 : decode cX7_rule 36 = .ok (.istore_n 3, 1) := by decide +kernel
theorem dX7_rule_37 : decode cX7_rule 37 = .ok (.aload_n 0, 1) := by decide +kernel
theorem dX7_rule_38 : decode cX7_rule 38 = .ok (.iload_n 1, 1) := by decide +kernel
theorem dX7_rule_39 : decode cX7_rule 39 = .ok (.putfield 33, 3) := by decide +kernel
theorem dX7_rule_42 : decode cX7_rule 42 = .ok (.aload_n 0, 1) := by decide +kernel
theorem dX7_rule_43 : decode cX7_rule 43 = .ok (.iload_n 2, 1) := by decide +kernel
theorem dX7_rule_44 : decode cX7_rule 44 = .ok (.putfield 36, 3) := by decide +kernel
theorem dX7_rule_47 : decode cX7_rule 47 = .ok (.aload_n 0, 1) := by decide +kernel
theorem dX7_rule_48 : decode cX7_rule 48 = .ok (.invokevirtual 103, 3) := by decide +kernel
theorem dX7_rule_51 : decode cX7_rule 51 = .ok (.iload_n 3, 1) := by decide +kernel
theorem dX7_rule_52 : decode cX7_rule 52 = .ok (.ireturn, 1) := by decide +kernel
theorem dX7_end_0 : decode cX7_end 0 = .ok (.aload_n 0, 1) := by decide +kernel
theorem dX7_end_1 : decode cX7_end 1 = .ok (.iconst (-1), 1) := by decide +kernel
theorem dX7_end_2 : decode cX7_end 2 = .ok (.putfield 39, 3) := by decide +kernel
theorem dX7_end_5 : decode cX7_end 5 = .ok (.aload_n 0, 1) := by decide +kernel
theorem dX7_end_6 : decode cX7_end 6 = .ok (.iconst (-1), 1) := by decide +kernel
theorem dX7_end_7 : decode cX7_end 7 = .ok (.putfield 42, 3) := by decide +kernel
theorem dX7_end_10 : decode cX7_end 10 = .ok (.aload_n 0, 1) := by decide +kernel
theorem dX7_end_11 : decode cX7_end 11 = .ok (.iconst (-1), 1) := by decide +kernel
theorem dX7_end_12 : decode cX7_end 12 = .ok (.putfield 45, 3) := by decide +kernel
theorem dX7_end_15 : decode cX7_end 15 = .ok (.return_, 1) := by decide +kernel
theorem dX7_goOn_0 : decode cX7_goOn 0 = .ok (.aload_n 0, 1) := by decide +kernel
theorem dX7_goOn_1 : decode cX7_goOn 1 = .ok (.getfield 39, 3) := by decide +kernel
theorem dX7_goOn_4 : decode cX7_goOn 4 = .ok (.iconst (-1), 1) := by decide +kernel
theorem dX7_goOn_5 : decode cX7_goOn 5 = .ok (.if_icmp .eq 139, 3) := by decide +kernel
theorem dX7_goOn_8 : decode cX7_goOn 8 = .ok (.aload_n 0, 1) := by decide +kernel
theorem dX7_goOn_9 : decode cX7_goOn 9 = .ok (.getfield 42, 3) := by decide +kernel
theorem dX7_goOn_12 : decode cX7_goOn 12 = .ok (.aload_n 0, 1) := by decide +kernel
theorem dX7_goOn_13 : decode cX7_goOn 13 = .ok (.getfield 39, 3) := by decide +kernel
theorem dX7_goOn_16 : decode cX7_goOn 16 = .ok (.iconst 1, 1) := by decide +kernel
theorem dX7_goOn_17 : decode cX7_goOn 17 = .ok (.iadd, 1) := by decide +kernel
theorem dX7_goOn_18 : decode cX7_goOn 18 = .ok (.if_icmp .ne 10, 3) := by decide +kernel
theorem dX7_goOn_21 : decode cX7_goOn 21 = .ok (.aload_n 0, 1) := by decide +kernel
theorem dX7_goOn_22 : decode cX7_goOn 22 = .ok (.getfield 42, 3) := by decide +kernel
theorem dX7_goOn_25 : decode cX7_goOn 25 = .ok (.goto 14, 3) := by decide +kernel
theorem dX7_goOn_28 : decode cX7_goOn 28 = .ok (.aload_n 0, 1) := by decide +kernel
theorem dX7_goOn_29 : decode cX7_goOn 29 = .ok (.getfield 39, 3) := by decide +kernel
theorem dX7_goOn_32 : decode cX7_goOn 32 = .ok (.aload_n 0, 1) := by decide +kernel
theorem dX7_goOn_33 : decode cX7_goOn 33 = .ok (.getfield 42, 3) := by decide +kernel
theorem dX7_goOn_36 : decode cX7_goOn 36 = .ok (.iadd, 1) := by decide +kernel
theorem dX7_goOn_37 : decode cX7_goOn 37 = .ok (.iconst 2, 1) := by decide +kernel
theorem dX7_goOn_38 : decode cX7_goOn 38 = .ok (.idiv, 1) := by decide +kernel
theorem dX7_goOn_39 : decode cX7_goOn 39 = .ok (.istore_n 1, 1) := by decide +kernel
theorem dX7_goOn_40 : decode cX7_goOn 40 = .ok (.aload_n 0, 1) := by decide +kernel
theorem dX7_goOn_41 : decode cX7_goOn 41 = .ok (.aload_n 0, 1) := by decide +kernel
theorem dX7_goOn_42 : decode cX7_goOn 42 = .ok (.getfield 39, 3) := by decide +kernel
theorem dX7_goOn_45 : decode cX7_goOn 45 = .ok (.iload_n 1, 1) := by decide +kernel
theorem dX7_goOn_46 : decode cX7_goOn 46 = .ok (.iconst 0, 1) := by decide +kernel
theorem dX7_goOn_47 : decode cX7_goOn 47 = .ok (.invokevirtual 197, 3) := by decide +kernel
theorem dX7_goOn_50 : decode cX7_goOn 50 = .ok (.istore_n 2, 1) := by decide +kernel
theorem dX7_goOn_51 : decode cX7_goOn 51 = .ok (.iload_n 2, 1) := by decide +kernel
theorem dX7_goOn_52 : decode cX7_goOn 52 = .ok (.ifCond .eq 8, 3) := by decide +kernel
theorem dX7_goOn_55 : decode cX7_goOn 55 = .ok (.iload_n 2, 1) := by decide +kernel
theorem dX7_goOn_56 : decode cX7_goOn 56 = .ok (.iconst 4, 1) := by decide +kernel
theorem dX7_goOn_57 : decode cX7_goOn 57 = .ok (.if_icmp .ne 34, 3) := by decide +kernel
theorem dX7_goOn_60 : decode cX7_goOn 60 = .ok (.aload_n 0, 1) := by decide +kernel
theorem dX7_goOn_61 : decode cX7_goOn 61 = .ok (.aload_n 0, 1) := by decide +kernel
theorem dX7_goOn_62 : decode cX7_goOn 62 = .ok (.aload_n 0, 1) := by decide +kernel
theorem dX7_goOn_63 : decode cX7_goOn 63 = .ok (.getfield 39, 3) := by decide +kernel
theorem dX7_goOn_66 : decode cX7_goOn 66 = .ok (.invokevirtual 154, 3) := by decide +kernel
theorem dX7_goOn_69 : decode cX7_goOn 69 = .ok (.arraylength, 1) := by decide +kernel
theorem dX7_goOn_70 : decode cX7_goOn 70 = .ok (.aload_n 0, 1) := by decide +kernel
theorem dX7_goOn_71 : decode cX7_goOn 71 = .ok (.iload_n 1, 1) := by decide +kernel
theorem dX7_goOn_72 : decode cX7_goOn 72 = .ok (.invokevirtual 154, 3) := by decide +kernel
theorem dX7_goOn_75 : decode cX7_goOn 75 = .ok (.arraylength, 1) := by decide +kernel
theorem dX7_goOn_76 : decode cX7_goOn 76 = .ok (.if_icmp .ge 10, 3) := by decide +kernel
theorem dX7_goOn_79 : decode cX7_goOn 79 = .ok (.aload_n 0, 1) := by decide +kernel
theorem dX7_goOn_80 : decode cX7_goOn 80 = .ok (.getfield 39, 3) := by decide +kernel
theorem dX7_goOn_83 : decode cX7_goOn 83 = .ok (.goto 4, 3) := by decide +kernel
theorem dX7_goOn_86 : decode cX7_goOn 86 = .ok (.iload_n 1, 1) := by decide +kernel
theorem dX7_goOn_87 : decode cX7_goOn 87 = .ok (.putfield 45, 3) := by decide +kernel
theorem dX7_goOn_90 : decode cX7_goOn 90 = .ok (.return_, 1) := by decide +kernel
theorem dX7_goOn_91 : decode cX7_goOn 91 = .ok (.iload_n 1, 1) := by decide +kernel
theorem dX7_goOn_92 : decode cX7_goOn 92 = .ok (.aload_n 0, 1) := by decide +kernel
theorem dX7_goOn_93 : decode cX7_goOn 93 = .ok (.getfield 42, 3) := by decide +kernel
theorem dX7_goOn_96 : decode cX7_goOn 96 = .ok (.if_icmp .eq 24, 3) := by decide +kernel
theorem dX7_goOn_99 : decode cX7_goOn 99 = .ok (.iload_n 2, 1) := by decide +kernel
theorem dX7_goOn_100 : decode cX7_goOn 100 = .ok (.iconst 1, 1) := by decide +kernel
theorem dX7_goOn_101 : decode cX7_goOn 101 = .ok (.if_icmp .ne 11, 3) := by decide +kernel
theorem dX7_goOn_104 : decode cX7_goOn 104 = .ok (.aload_n 0, 1) := by decide +kernel
theorem dX7_goOn_105 : decode cX7_goOn 105 = .ok (.iload_n 1, 1) := by decide +kernel
theorem dX7_goOn_106 : decode cX7_goOn 106 = .ok (.putfield 42, 3) := by decide +kernel
theorem dX7_goOn_109 : decode cX7_goOn 109 = .ok (.goto (-109), 3) := by decide +kernel
theorem dX7_goOn_112 : decode cX7_goOn 112 = .ok (.aload_n 0, 1) := by decide +kernel
theorem dX7_goOn_113 : decode cX7_goOn 113 = .ok (.iload_n 1, 1) := by decide +kernel
theorem dX7_goOn_114 : decode cX7_goOn 114 = .ok (.putfield 39, 3) := by decide +kernel
theorem dX7_goOn_117 : decode cX7_goOn 117 = .ok (.goto (-117), 3) := by decide +kernel
theorem dX7_goOn_120 : decode cX7_goOn 120 = .ok (.iload_n 2, 1) := by decide +kernel
theorem dX7_goOn_121 : decode cX7_goOn 121 = .ok (.iconst 1, 1) := by decide +kernel
theorem dX7_goOn_122 : decode cX7_goOn 122 = .ok (.if_icmp .ne 15, 3) := by decide +kernel
theorem dX7_goOn_125 : decode cX7_goOn 125 = .ok (.aload_n 0, 1) := by decide +kernel
theorem dX7_goOn_126 : decode cX7_goOn 126 = .ok (.getfield 22, 3) := by decide +kernel
theorem dX7_goOn_129 : decode cX7_goOn 129 = .ok (.iload_n 1, 1) := by decide +kernel
theorem dX7_goOn_130 : decode cX7_goOn 130 = .ok (.iconst 1, 1) := by decide +kernel
theorem dX7_goOn_131 : decode cX7_goOn 131 = .ok (.bastore, 1) := by decide +kernel
theorem dX7_goOn_132 : decode cX7_goOn 132 = .ok (.aload_n 0, 1) := by decide +kernel
theorem dX7_goOn_133 : decode cX7_goOn 133 = .ok (.iload_n 1, 1) := by decide +kernel
theorem dX7_goOn_134 : decode cX7_goOn 134 = .ok (.putfield 48, 3) := by decide +kernel
theorem dX7_goOn_137 : decode cX7_goOn 137 = .ok (.aload_n 0, 1) := by decide +kernel
theorem dX7_goOn_138 : decode cX7_goOn 138 = .ok (.invokevirtual 201, 3) := by decide +kernel
theorem dX7_goOn_141 : decode cX7_goOn 141 = .ok (.goto (-141), 3) := by decide +kernel
theorem dX7_goOn_144 : decode cX7_goOn 144 = .ok (.return_, 1) := by decide +kernel
theorem dX7_begin_0 : decode cX7_begin 0 = .ok (.aload_n 0, 1) := by decide +kernel
theorem dX7_begin_1 : decode cX7_begin 1 = .ok (.iconst 0, 1) := by decide +kernel
theorem dX7_begin_2 : decode cX7_begin 2 = .ok (.putfield 57, 3) := by decide +kernel
theorem dX7_begin_5 : decode cX7_begin 5 = .ok (.aload_n 0, 1) := by decide +kernel
theorem dX7_begin_6 : decode cX7_begin 6 = .ok (.iload_n 1, 1) := by decide +kernel
theorem dX7_begin_7 : decode cX7_begin 7 = .ok (.invokevirtual 145, 3) := by decide +kernel
theorem dX7_begin_10 : decode cX7_begin 10 = .ok (.ifCond .eq 11, 3) := by decide +kernel
theorem dX7_begin_13 : decode cX7_begin 13 = .ok (.aload_n 0, 1) := by decide +kernel
theorem dX7_begin_14 : decode cX7_begin 14 = .ok (.iload_n 2, 1) := by decide +kernel
theorem dX7_begin_15 : decode cX7_begin 15 = .ok (.invokevirtual 145, 3) := by decide +kernel
theorem dX7_begin_18 : decode cX7_begin 18 = .ok (.ifCond .ne 9, 3) := by decide +kernel
theorem dX7_begin_21 : decode cX7_begin 21 = .ok (.aload_n 0, 1) := by decide +kernel
theorem dX7_begin_22 : decode cX7_begin 22 = .ok (.iconst 1, 1) := by decide +kernel
theorem dX7_begin_23 : decode cX7_begin 23 = .ok (.invokevirtual 87, 3) := by decide +kernel
theorem dX7_begin_26 : decode cX7_begin 26 = .ok (.ireturn, 1) := by decide +kernel
theorem dX7_begin_27 : decode cX7_begin 27 = .ok (.iload_n 2, 1) := by decide +kernel
theorem dX7_begin_28 : decode cX7_begin 28 = .ok (.iload_n 1, 1) := by decide +kernel
theorem dX7_begin_29 : decode cX7_begin 29 = .ok (.if_icmp .gt 9, 3) := by decide +kernel
theorem dX7_begin_32 : decode cX7_begin 32 = .ok (.aload_n 0, 1) := by decide +kernel
theorem dX7_begin_33 : decode cX7_begin 33 = .ok (.iconst 2, 1) := by decide +kernel
theorem dX7_begin_34 : decode cX7_begin 34 = .ok (.invokevirtual 87, 3) := by decide +kernel
theorem dX7_begin_37 : decode cX7_begin 37 = .ok (.ireturn, 1) := by decide +kernel
theorem dX7_begin_38 : decode cX7_begin 38 = .ok (.aload_n 0, 1) := by decide +kernel
theorem dX7_begin_39 : decode cX7_begin 39 = .ok (.getfield 39, 3) := by decide +kernel
theorem dX7_begin_42 : decode cX7_begin 42 = .ok (.iconst (-1), 1) := by decide +kernel
theorem dX7_begin_43 : decode cX7_begin 43 = .ok (.if_icmp .eq 9, 3) := by decide +kernel
theorem dX7_begin_46 : decode cX7_begin 46 = .ok (.aload_n 0, 1) := by decide +kernel
theorem dX7_begin_47 : decode cX7_begin 47 = .ok (.iconst 3, 1) := by decide +kernel
theorem dX7_begin_48 : decode cX7_begin 48 = .ok (.invokevirtual 87, 3) := by decide +kernel
theorem dX7_begin_51 : decode cX7_begin 51 = .ok (.ireturn, 1) := by decide +kernel
theorem dX7_begin_52 : decode cX7_begin 52 = .ok (.aload_n 0, 1) := by decide +kernel
theorem dX7_begin_53 : decode cX7_begin 53 = .ok (.iload_n 1, 1) := by decide +kernel
theorem dX7_begin_54 : decode cX7_begin 54 = .ok (.putfield 39, 3) := by decide +kernel
theorem dX7_begin_57 : decode cX7_begin 57 = .ok (.aload_n 0, 1) := by decide +kernel
theorem dX7_begin_58 : decode cX7_begin 58 = .ok (.iload_n 2, 1) := by decide +kernel
theorem dX7_begin_59 : decode cX7_begin 59 = .ok (.putfield 42, 3) := by decide +kernel
theorem dX7_begin_62 : decode cX7_begin 62 = .ok (.aload_n 0, 1) := by decide +kernel
theorem dX7_begin_63 : decode cX7_begin 63 = .ok (.invokevirtual 103, 3) := by decide +kernel
theorem dX7_begin_66 : decode cX7_begin 66 = .ok (.aload_n 0, 1) := by decide +kernel
theorem dX7_begin_67 : decode cX7_begin 67 = .ok (.getfield 45, 3) := by decide +kernel
theorem dX7_begin_70 : decode cX7_begin 70 = .ok (.ireturn, 1) := by decide +kernel
theorem dX7_drop_0 : decode cX7_drop 0 = .ok (.aload_n 0, 1) := by decide +kernel
theorem dX7_drop_1 : decode cX7_drop 1 = .ok (.iconst 0, 1) := by decide +kernel
theorem dX7_drop_2 : decode cX7_drop 2 = .ok (.putfield 57, 3) := by decide +kernel
theorem dX7_drop_5 : decode cX7_drop 5 = .ok (.aload_n 0, 1) := by decide +kernel
theorem dX7_drop_6 : decode cX7_drop 6 = .ok (.getfield 39, 3) := by decide +kernel
theorem dX7_drop_9 : decode cX7_drop 9 = .ok (.iconst (-1), 1) := by decide +kernel
theorem dX7_drop_10 : decode cX7_drop 10 = .ok (.if_icmp .ne 9, 3) := by decide +kernel
theorem dX7_drop_13 : decode cX7_drop 13 = .ok (.aload_n 0, 1) := by decide +kernel
theorem dX7_drop_14 : decode cX7_drop 14 = .ok (.iconst 1, 1) := by decide +kernel
theorem dX7_drop_15 : decode cX7_drop 15 = .ok (.invokevirtual 87, 3) := by decide +kernel
theorem dX7_drop_18 : decode cX7_drop 18 = .ok (.ireturn, 1) := by decide +kernel
theorem dX7_drop_19 : decode cX7_drop 19 = .ok (.aload_n 0, 1) := by decide +kernel
theorem dX7_drop_20 : decode cX7_drop 20 = .ok (.getfield 42, 3) := by decide +kernel
theorem dX7_drop_23 : decode cX7_drop 23 = .ok (.aload_n 0, 1) := by decide +kernel
theorem dX7_drop_24 : decode cX7_drop 24 = .ok (.getfield 39, 3) := by decide +kernel
theorem dX7_drop_27 : decode cX7_drop 27 = .ok (.isub, 1) := by decide +kernel
theorem dX7_drop_28 : decode cX7_drop 28 = .ok (.iconst 1, 1) := by decide +kernel
theorem dX7_drop_29 : decode cX7_drop 29 = .ok (.isub, 1) := by decide +kernel
theorem dX7_drop_30 : decode cX7_drop 30 = .ok (.istore_n 1, 1) := by decide +kernel
theorem dX7_drop_31 : decode cX7_drop 31 = .ok (.aload_n 0, 1) := by decide +kernel
theorem dX7_drop_32 : decode cX7_drop 32 = .ok (.invokevirtual 201, 3) := by decide +kernel
theorem dX7_drop_35 : decode cX7_drop 35 = .ok (.iload_n 1, 1) := by decide +kernel
theorem dX7_drop_36 : decode cX7_drop 36 = .ok (.ireturn, 1) := by decide +kernel
theorem dX7_ofCaseNow_0 : decode cX7_ofCaseNow 0 = .ok (.iload_n 1, 1) := by decide +kernel
theorem dX7_ofCaseNow_1 : decode cX7_ofCaseNow 1 = .ok (.ifCond .ne 10, 3) := by decide +kernel
theorem dX7_ofCaseNow_4 : decode cX7_ofCaseNow 4 = .ok (.aload_n 0, 1) := by decide +kernel
theorem dX7_ofCaseNow_5 : decode cX7_ofCaseNow 5 = .ok (.getfield 39, 3) := by decide +kernel
theorem dX7_ofCaseNow_8 : decode cX7_ofCaseNow 8 = .ok (.goto 31, 3) := by decide +kernel
theorem dX7_ofCaseNow_11 : decode cX7_ofCaseNow 11 = .ok (.iload_n 1, 1) := by decide +kernel
theorem dX7_ofCaseNow_12 : decode cX7_ofCaseNow 12 = .ok (.iconst 1, 1) := by decide +kernel
theorem dX7_ofCaseNow_13 : decode cX7_ofCaseNow 13 = .ok (.if_icmp .ne 10, 3) := by decide +kernel
theorem dX7_ofCaseNow_16 : decode cX7_ofCaseNow 16 = .ok (.aload_n 0, 1) := by decide +kernel
theorem dX7_ofCaseNow_17 : decode cX7_ofCaseNow 17 = .ok (.getfield 42, 3) := by decide +kernel
theorem dX7_ofCaseNow_20 : decode cX7_ofCaseNow 20 = .ok (.goto 19, 3) := by decide +kernel
theorem dX7_ofCaseNow_23 : decode cX7_ofCaseNow 23 = .ok (.iload_n 1, 1) := by decide +kernel
theorem dX7_ofCaseNow_24 : decode cX7_ofCaseNow 24 = .ok (.iconst 2, 1) := by decide +kernel
theorem dX7_ofCaseNow_25 : decode cX7_ofCaseNow 25 = .ok (.if_icmp .ne 10, 3) := by decide +kernel
theorem dX7_ofCaseNow_28 : decode cX7_ofCaseNow 28 = .ok (.aload_n 0, 1) := by decide +kernel
theorem dX7_ofCaseNow_29 : decode cX7_ofCaseNow 29 = .ok (.getfield 45, 3) := by decide +kernel
theorem dX7_ofCaseNow_32 : decode cX7_ofCaseNow 32 = .ok (.goto 7, 3) := by decide +kernel
theorem dX7_ofCaseNow_35 : decode cX7_ofCaseNow 35 = .ok (.aload_n 0, 1) := by decide +kernel
theorem dX7_ofCaseNow_36 : decode cX7_ofCaseNow 36 = .ok (.getfield 48, 3) := by decide +kernel
theorem dX7_ofCaseNow_39 : decode cX7_ofCaseNow 39 = .ok (.ireturn, 1) := by decide +kernel
theorem dX7_ofCase_0 : decode cX7_ofCase 0 = .ok (.aload_n 0, 1) := by decide +kernel
theorem dX7_ofCase_1 : decode cX7_ofCase 1 = .ok (.iconst 0, 1) := by decide +kernel
theorem dX7_ofCase_2 : decode cX7_ofCase 2 = .ok (.putfield 57, 3) := by decide +kernel
theorem dX7_ofCase_5 : decode cX7_ofCase 5 = .ok (.iload_n 1, 1) := by decide +kernel
theorem dX7_ofCase_6 : decode cX7_ofCase 6 = .ok (.iconst 0, 1) := by decide +kernel
theorem dX7_ofCase_7 : decode cX7_ofCase 7 = .ok (.iconst 3, 1) := by decide +kernel
theorem dX7_ofCase_8 : decode cX7_ofCase 8 = .ok (.invokestatic 64, 3) := by decide +kernel
theorem dX7_ofCase_11 : decode cX7_ofCase 11 = .ok (.ifCond .eq 11, 3) := by decide +kernel
theorem dX7_ofCase_14 : decode cX7_ofCase 14 = .ok (.aload_n 0, 1) := by decide +kernel
theorem dX7_ofCase_15 : decode cX7_ofCase 15 = .ok (.iload_n 1, 1) := by decide +kernel
theorem dX7_ofCase_16 : decode cX7_ofCase 16 = .ok (.invokevirtual 204, 3) := by decide +kernel
theorem dX7_ofCase_19 : decode cX7_ofCase 19 = .ok (.goto 8, 3) := by decide +kernel
theorem dX7_ofCase_22 : decode cX7_ofCase 22 = .ok (.aload_n 0, 1) := by decide +kernel
theorem dX7_ofCase_23 : decode cX7_ofCase 23 = .ok (.iconst 1, 1) := by decide +kernel
theorem dX7_ofCase_24 : decode cX7_ofCase 24 = .ok (.invokevirtual 87, 3) := by decide +kernel
theorem dX7_ofCase_27 : decode cX7_ofCase 27 = .ok (.ireturn, 1) := by decide +kernel
theorem dX7_isNext_0 : decode cX7_isNext 0 = .ok (.iload_n 1, 1) := by decide +kernel
theorem dX7_isNext_1 : decode cX7_isNext 1 = .ok (.iconst 1, 1) := by decide +kernel
theorem dX7_isNext_2 : decode cX7_isNext 2 = .ok (.iadd, 1) := by decide +kernel
theorem dX7_isNext_3 : decode cX7_isNext 3 = .ok (.aload_n 0, 1) := by decide +kernel
theorem dX7_isNext_4 : decode cX7_isNext 4 = .ok (.getfield 29, 3) := by decide +kernel
theorem dX7_isNext_7 : decode cX7_isNext 7 = .ok (.if_icmp .ne 5, 3) := by decide +kernel
theorem dX7_isNext_10 : decode cX7_isNext 10 = .ok (.iconst 0, 1) := by decide +kernel
theorem dX7_isNext_11 : decode cX7_isNext 11 = .ok (.ireturn, 1) := by decide +kernel
theorem dX7_isNext_12 : decode cX7_isNext 12 = .ok (.aload_n 0, 1) := by decide +kernel
theorem dX7_isNext_13 : decode cX7_isNext 13 = .ok (.getfield 26, 3) := by decide +kernel
theorem dX7_isNext_16 : decode cX7_isNext 16 = .ok (.iload_n 1, 1) := by decide +kernel
theorem dX7_isNext_17 : decode cX7_isNext 17 = .ok (.iconst 1, 1) := by decide +kernel
theorem dX7_isNext_18 : decode cX7_isNext 18 = .ok (.iadd, 1) := by decide +kernel
theorem dX7_isNext_19 : decode cX7_isNext 19 = .ok (.baload, 1) := by decide +kernel
theorem dX7_isNext_20 : decode cX7_isNext 20 = .ok (.ifCond .eq 7, 3) := by decide +kernel
theorem dX7_isNext_23 : decode cX7_isNext 23 = .ok (.iconst 3, 1) := by decide +kernel
theorem dX7_isNext_24 : decode cX7_isNext 24 = .ok (.goto 12, 3) := by decide +kernel
theorem dX7_isNext_27 : decode cX7_isNext 27 = .ok (.aload_n 0, 1) := by decide +kernel
theorem dX7_isNext_28 : decode cX7_isNext 28 = .ok (.iload_n 1, 1) := by decide +kernel
theorem dX7_isNext_29 : decode cX7_isNext 29 = .ok (.iload_n 1, 1) := by decide +kernel
theorem dX7_isNext_30 : decode cX7_isNext 30 = .ok (.iconst 1, 1) := by decide +kernel
theorem dX7_isNext_31 : decode cX7_isNext 31 = .ok (.iadd, 1) := by decide +kernel
theorem dX7_isNext_32 : decode cX7_isNext 32 = .ok (.iconst 0, 1) := by decide +kernel
theorem dX7_isNext_33 : decode cX7_isNext 33 = .ok (.invokevirtual 197, 3) := by decide +kernel
theorem dX7_isNext_36 : decode cX7_isNext 36 = .ok (.istore_n 2, 1) := by decide +kernel
theorem dX7_isNext_37 : decode cX7_isNext 37 = .ok (.iload_n 2, 1) := by decide +kernel
theorem dX7_isNext_38 : decode cX7_isNext 38 = .ok (.iconst 2, 1) := by decide +kernel
theorem dX7_isNext_39 : decode cX7_isNext 39 = .ok (.if_icmp .eq 8, 3) := by decide +kernel
theorem dX7_isNext_42 : decode cX7_isNext 42 = .ok (.iload_n 2, 1) := by decide +kernel
theorem dX7_isNext_43 : decode cX7_isNext 43 = .ok (.iconst 3, 1) := by decide +kernel
theorem dX7_isNext_44 : decode cX7_isNext 44 = .ok (.if_icmp .ne 7, 3) := by decide +kernel
theorem dX7_isNext_47 : decode cX7_isNext 47 = .ok (.iconst 1, 1) := by decide +kernel
theorem dX7_isNext_48 : decode cX7_isNext 48 = .ok (.goto 4, 3) := by decide +kernel
theorem dX7_isNext_51 : decode cX7_isNext 51 = .ok (.iconst 0, 1) := by decide +kernel
theorem dX7_isNext_52 : decode cX7_isNext 52 = .ok (.ireturn, 1) := by decide +kernel
theorem dX7_moved_0 : decode cX7_moved 0 = .ok (.iload_n 1, 1) := by decide +kernel
theorem dX7_moved_1 : decode cX7_moved 1 = .ok (.istore_n 2, 1) := by decide +kernel
theorem dX7_moved_2 : decode cX7_moved 2 = .ok (.aload_n 0, 1) := by decide +kernel
theorem dX7_moved_3 : decode cX7_moved 3 = .ok (.iload_n 2, 1) := by decide +kernel
theorem dX7_moved_4 : decode cX7_moved 4 = .ok (.invokevirtual 207, 3) := by decide +kernel
theorem dX7_moved_7 : decode cX7_moved 7 = .ok (.ifCond .eq 9, 3) := by decide +kernel
theorem dX7_moved_10 : decode cX7_moved 10 = .ok (.iinc 2 1, 3) := by decide +kernel
theorem dX7_moved_13 : decode cX7_moved 13 = .ok (.goto (-11), 3) := by decide +kernel
theorem dX7_moved_16 : decode cX7_moved 16 = .ok (.iload_n 2, 1) := by decide +kernel
theorem dX7_moved_17 : decode cX7_moved 17 = .ok (.ireturn, 1) := by decide +kernel
theorem dX7_move_0 : decode cX7_move 0 = .ok (.aload_n 0, 1) := by decide +kernel
theorem dX7_move_1 : decode cX7_move 1 = .ok (.iconst 0, 1) := by decide +kernel
theorem dX7_move_2 : decode cX7_move 2 = .ok (.putfield 57, 3) := by decide +kernel
theorem dX7_move_5 : decode cX7_move 5 = .ok (.aload_n 0, 1) := by decide +kernel
theorem dX7_move_6 : decode cX7_move 6 = .ok (.aload_n 0, 1) := by decide +kernel
theorem dX7_move_7 : decode cX7_move 7 = .ok (.getfield 210, 3) := by decide +kernel
theorem dX7_move_10 : decode cX7_move 10 = .ok (.invokevirtual 213, 3) := by decide +kernel
theorem dX7_move_13 : decode cX7_move 13 = .ok (.istore_n 1, 1) := by decide +kernel
theorem dX7_move_14 : decode cX7_move 14 = .ok (.aload_n 0, 1) := by decide +kernel
theorem dX7_move_15 : decode cX7_move 15 = .ok (.getfield 210, 3) := by decide +kernel
theorem dX7_move_18 : decode cX7_move 18 = .ok (.iload_n 1, 1) := by decide +kernel
theorem dX7_move_19 : decode cX7_move 19 = .ok (.if_icmp .ge 64, 3) := by decide +kernel
theorem dX7_move_22 : decode cX7_move 22 = .ok (.aload_n 0, 1) := by decide +kernel
theorem dX7_move_23 : decode cX7_move 23 = .ok (.dup, 1) := by decide +kernel
theorem dX7_move_24 : decode cX7_move 24 = .ok (.getfield 51, 3) := by decide +kernel
theorem dX7_move_27 : decode cX7_move 27 = .ok (.aload_n 0, 1) := by decide +kernel
theorem dX7_move_28 : decode cX7_move 28 = .ok (.getfield 26, 3) := by decide +kernel
theorem dX7_move_31 : decode cX7_move 31 = .ok (.aload_n 0, 1) := by decide +kernel
theorem dX7_move_32 : decode cX7_move 32 = .ok (.getfield 210, 3) := by decide +kernel
theorem dX7_move_35 : decode cX7_move 35 = .ok (.iconst 1, 1) := by decide +kernel
theorem dX7_move_36 : decode cX7_move 36 = .ok (.iadd, 1) := by decide +kernel
theorem dX7_move_37 : decode cX7_move 37 = .ok (.baload, 1) := by decide +kernel
theorem dX7_move_38 : decode cX7_move 38 = .ok (.ifCond .ne 27, 3) := by decide +kernel
theorem dX7_move_41 : decode cX7_move 41 = .ok (.aload_n 0, 1) := by decide +kernel
theorem dX7_move_42 : decode cX7_move 42 = .ok (.aload_n 0, 1) := by decide +kernel
theorem dX7_move_43 : decode cX7_move 43 = .ok (.getfield 210, 3) := by decide +kernel
theorem dX7_move_46 : decode cX7_move 46 = .ok (.aload_n 0, 1) := by decide +kernel
theorem dX7_move_47 : decode cX7_move 47 = .ok (.getfield 210, 3) := by decide +kernel
theorem dX7_move_50 : decode cX7_move 50 = .ok (.iconst 1, 1) := by decide +kernel
theorem dX7_move_51 : decode cX7_move 51 = .ok (.iadd, 1) := by decide +kernel
theorem dX7_move_52 : decode cX7_move 52 = .ok (.iconst 0, 1) := by decide +kernel
theorem dX7_move_53 : decode cX7_move 53 = .ok (.invokevirtual 197, 3) := by decide +kernel
theorem dX7_move_56 : decode cX7_move 56 = .ok (.iconst 2, 1) := by decide +kernel
theorem dX7_move_57 : decode cX7_move 57 = .ok (.if_icmp .ne 8, 3) := by decide +kernel
theorem dX7_move_60 : decode cX7_move 60 = .ok (.bipush 10, 2) := by decide +kernel
theorem dX7_move_62 : decode cX7_move 62 = .ok (.goto 4, 3) := by decide +kernel
theorem dX7_move_65 : decode cX7_move 65 = .ok (.iconst 0, 1) := by decide +kernel
theorem dX7_move_66 : decode cX7_move 66 = .ok (.iadd, 1) := by decide +kernel
theorem dX7_move_67 : decode cX7_move 67 = .ok (.putfield 51, 3) := by decide +kernel
theorem dX7_move_70 : decode cX7_move 70 = .ok (.aload_n 0, 1) := by decide +kernel
theorem dX7_move_71 : decode cX7_move 71 = .ok (.dup, 1) := by decide +kernel
theorem dX7_move_72 : decode cX7_move 72 = .ok (.getfield 210, 3) := by decide +kernel
theorem dX7_move_75 : decode cX7_move 75 = .ok (.iconst 1, 1) := by decide +kernel
theorem dX7_move_76 : decode cX7_move 76 = .ok (.iadd, 1) := by decide +kernel
theorem dX7_move_77 : decode cX7_move 77 = .ok (.putfield 210, 3) := by decide +kernel
theorem dX7_move_80 : decode cX7_move 80 = .ok (.goto (-66), 3) := by decide +kernel
theorem dX7_move_83 : decode cX7_move 83 = .ok (.aload_n 0, 1) := by decide +kernel
theorem dX7_move_84 : decode cX7_move 84 = .ok (.getfield 210, 3) := by decide +kernel
theorem dX7_move_87 : decode cX7_move 87 = .ok (.ireturn, 1) := by decide +kernel
theorem dX7_excuse_0 : decode cX7_excuse 0 = .ok (.aload_n 0, 1) := by decide +kernel
theorem dX7_excuse_1 : decode cX7_excuse 1 = .ok (.iconst 0, 1) := by decide +kernel
theorem dX7_excuse_2 : decode cX7_excuse 2 = .ok (.putfield 57, 3) := by decide +kernel
theorem dX7_excuse_5 : decode cX7_excuse 5 = .ok (.aload_n 0, 1) := by decide +kernel
theorem dX7_excuse_6 : decode cX7_excuse 6 = .ok (.iload_n 1, 1) := by decide +kernel
theorem dX7_excuse_7 : decode cX7_excuse 7 = .ok (.invokevirtual 145, 3) := by decide +kernel
theorem dX7_excuse_10 : decode cX7_excuse 10 = .ok (.ifCond .ne 9, 3) := by decide +kernel
theorem dX7_excuse_13 : decode cX7_excuse 13 = .ok (.aload_n 0, 1) := by decide +kernel
theorem dX7_excuse_14 : decode cX7_excuse 14 = .ok (.iconst 1, 1) := by decide +kernel
theorem dX7_excuse_15 : decode cX7_excuse 15 = .ok (.invokevirtual 87, 3) := by decide +kernel
theorem dX7_excuse_18 : decode cX7_excuse 18 = .ok (.ireturn, 1) := by decide +kernel
theorem dX7_excuse_19 : decode cX7_excuse 19 = .ok (.iload_n 2, 1) := by decide +kernel
theorem dX7_excuse_20 : decode cX7_excuse 20 = .ok (.iconst 1, 1) := by decide +kernel
theorem dX7_excuse_21 : decode cX7_excuse 21 = .ok (.bipush 100, 2) := by decide +kernel
theorem dX7_excuse_23 : decode cX7_excuse 23 = .ok (.invokestatic 64, 3) := by decide +kernel
theorem dX7_excuse_26 : decode cX7_excuse 26 = .ok (.ifCond .ne 9, 3) := by decide +kernel
theorem dX7_excuse_29 : decode cX7_excuse 29 = .ok (.aload_n 0, 1) := by decide +kernel
theorem dX7_excuse_30 : decode cX7_excuse 30 = .ok (.iconst 2, 1) := by decide +kernel
theorem dX7_excuse_31 : decode cX7_excuse 31 = .ok (.invokevirtual 87, 3) := by decide +kernel
theorem dX7_excuse_34 : decode cX7_excuse 34 = .ok (.ireturn, 1) := by decide +kernel
theorem dX7_excuse_35 : decode cX7_excuse 35 = .ok (.aload_n 0, 1) := by decide +kernel
theorem dX7_excuse_36 : decode cX7_excuse 36 = .ok (.getfield 22, 3) := by decide +kernel
theorem dX7_excuse_39 : decode cX7_excuse 39 = .ok (.iload_n 1, 1) := by decide +kernel
theorem dX7_excuse_40 : decode cX7_excuse 40 = .ok (.baload, 1) := by decide +kernel
theorem dX7_excuse_41 : decode cX7_excuse 41 = .ok (.ifCond .eq 20, 3) := by decide +kernel
theorem dX7_excuse_44 : decode cX7_excuse 44 = .ok (.aload_n 0, 1) := by decide +kernel
theorem dX7_excuse_45 : decode cX7_excuse 45 = .ok (.getfield 26, 3) := by decide +kernel
theorem dX7_excuse_48 : decode cX7_excuse 48 = .ok (.iload_n 1, 1) := by decide +kernel
theorem dX7_excuse_49 : decode cX7_excuse 49 = .ok (.baload, 1) := by decide +kernel
theorem dX7_excuse_50 : decode cX7_excuse 50 = .ok (.ifCond .ne 11, 3) := by decide +kernel
theorem dX7_excuse_53 : decode cX7_excuse 53 = .ok (.iload_n 2, 1) := by decide +kernel
theorem dX7_excuse_54 : decode cX7_excuse 54 = .ok (.aload_n 0, 1) := by decide +kernel
theorem dX7_excuse_55 : decode cX7_excuse 55 = .ok (.getfield 51, 3) := by decide +kernel
theorem dX7_excuse_58 : decode cX7_excuse 58 = .ok (.if_icmp .le 9, 3) := by decide +kernel
theorem dX7_excuse_61 : decode cX7_excuse 61 = .ok (.aload_n 0, 1) := by decide +kernel
theorem dX7_excuse_62 : decode cX7_excuse 62 = .ok (.iconst 3, 1) := by decide +kernel
theorem dX7_excuse_63 : decode cX7_excuse 63 = .ok (.invokevirtual 87, 3) := by decide +kernel
theorem dX7_excuse_66 : decode cX7_excuse 66 = .ok (.ireturn, 1) := by decide +kernel
theorem dX7_excuse_67 : decode cX7_excuse 67 = .ok (.aload_n 0, 1) := by decide +kernel
theorem dX7_excuse_68 : decode cX7_excuse 68 = .ok (.getfield 26, 3) := by decide +kernel
theorem dX7_excuse_71 : decode cX7_excuse 71 = .ok (.iload_n 1, 1) := by decide +kernel
theorem dX7_excuse_72 : decode cX7_excuse 72 = .ok (.iconst 1, 1) := by decide +kernel
theorem dX7_excuse_73 : decode cX7_excuse 73 = .ok (.bastore, 1) := by decide +kernel
theorem dX7_excuse_74 : decode cX7_excuse 74 = .ok (.aload_n 0, 1) := by decide +kernel
theorem dX7_excuse_75 : decode cX7_excuse 75 = .ok (.dup, 1) := by decide +kernel
theorem dX7_excuse_76 : decode cX7_excuse 76 = .ok (.getfield 51, 3) := by decide +kernel
theorem dX7_excuse_79 : decode cX7_excuse 79 = .ok (.iload_n 2, 1) := by decide +kernel
theorem dX7_excuse_80 : decode cX7_excuse 80 = .ok (.isub, 1) := by decide +kernel
theorem dX7_excuse_81 : decode cX7_excuse 81 = .ok (.putfield 51, 3) := by decide +kernel
theorem dX7_excuse_84 : decode cX7_excuse 84 = .ok (.aload_n 0, 1) := by decide +kernel
theorem dX7_excuse_85 : decode cX7_excuse 85 = .ok (.getfield 51, 3) := by decide +kernel
theorem dX7_excuse_88 : decode cX7_excuse 88 = .ok (.ireturn, 1) := by decide +kernel
theorem dX7_budget_0 : decode cX7_budget 0 = .ok (.aload_n 0, 1) := by decide +kernel
theorem dX7_budget_1 : decode cX7_budget 1 = .ok (.iconst 0, 1) := by decide +kernel
theorem dX7_budget_2 : decode cX7_budget 2 = .ok (.putfield 57, 3) := by decide +kernel
theorem dX7_budget_5 : decode cX7_budget 5 = .ok (.iload_n 1, 1) := by decide +kernel
theorem dX7_budget_6 : decode cX7_budget 6 = .ok (.iconst 1, 1) := by decide +kernel
theorem dX7_budget_7 : decode cX7_budget 7 = .ok (.sipush 5000, 3) := by decide +kernel
theorem dX7_budget_10 : decode cX7_budget 10 = .ok (.invokestatic 64, 3) := by decide +kernel
theorem dX7_budget_13 : decode cX7_budget 13 = .ok (.ifCond .ne 9, 3) := by decide +kernel
theorem dX7_budget_16 : decode cX7_budget 16 = .ok (.aload_n 0, 1) := by decide +kernel
theorem dX7_budget_17 : decode cX7_budget 17 = .ok (.iconst 1, 1) := by decide +kernel
theorem dX7_budget_18 : decode cX7_budget 18 = .ok (.invokevirtual 87, 3) := by decide +kernel
theorem dX7_budget_21 : decode cX7_budget 21 = .ok (.ireturn, 1) := by decide +kernel
theorem dX7_budget_22 : decode cX7_budget 22 = .ok (.aload_n 0, 1) := by decide +kernel
theorem dX7_budget_23 : decode cX7_budget 23 = .ok (.sipush 5000, 3) := by decide +kernel
theorem dX7_budget_26 : decode cX7_budget 26 = .ok (.aload_n 0, 1) := by decide +kernel
theorem dX7_budget_27 : decode cX7_budget 27 = .ok (.getfield 54, 3) := by decide +kernel
theorem dX7_budget_30 : decode cX7_budget 30 = .ok (.iload_n 1, 1) := by decide +kernel
theorem dX7_budget_31 : decode cX7_budget 31 = .ok (.iadd, 1) := by decide +kernel
theorem dX7_budget_32 : decode cX7_budget 32 = .ok (.invokestatic 84, 3) := by decide +kernel
theorem dX7_budget_35 : decode cX7_budget 35 = .ok (.putfield 54, 3) := by decide +kernel
theorem dX7_budget_38 : decode cX7_budget 38 = .ok (.aload_n 0, 1) := by decide +kernel
theorem dX7_budget_39 : decode cX7_budget 39 = .ok (.getfield 54, 3) := by decide +kernel
theorem dX7_budget_42 : decode cX7_budget 42 = .ok (.ireturn, 1) := by decide +kernel
theorem dX7_manyNow_0 : decode cX7_manyNow 0 = .ok (.iconst 0, 1) := by decide +kernel
theorem dX7_manyNow_1 : decode cX7_manyNow 1 = .ok (.istore_n 2, 1) := by decide +kernel
theorem dX7_manyNow_2 : decode cX7_manyNow 2 = .ok (.iload_n 1, 1) := by decide +kernel
theorem dX7_manyNow_3 : decode cX7_manyNow 3 = .ok (.tableswitch 178 0 7 #[45, 53, 58, 66, 117, 122, 127, 132], 45) := by decide +kernel
theorem dX7_manyNow_48 : decode cX7_manyNow 48 = .ok (.aload_n 0, 1) := by decide +kernel
theorem dX7_manyNow_49 : decode cX7_manyNow 49 = .ok (.getfield 16, 3) := by decide +kernel
theorem dX7_manyNow_52 : decode cX7_manyNow 52 = .ok (.invokevirtual 60, 3) := by decide +kernel
theorem dX7_manyNow_55 : decode cX7_manyNow 55 = .ok (.ireturn, 1) := by decide +kernel
theorem dX7_manyNow_56 : decode cX7_manyNow 56 = .ok (.aload_n 0, 1) := by decide +kernel
theorem dX7_manyNow_57 : decode cX7_manyNow 57 = .ok (.getfield 29, 3) := by decide +kernel
theorem dX7_manyNow_60 : decode cX7_manyNow 60 = .ok (.ireturn, 1) := by decide +kernel
theorem dX7_manyNow_61 : decode cX7_manyNow 61 = .ok (.aload_n 0, 1) := by decide +kernel
theorem dX7_manyNow_62 : decode cX7_manyNow 62 = .ok (.getfield 19, 3) := by decide +kernel
theorem dX7_manyNow_65 : decode cX7_manyNow 65 = .ok (.invokevirtual 60, 3) := by decide +kernel
theorem dX7_manyNow_68 : decode cX7_manyNow 68 = .ok (.ireturn, 1) := by decide +kernel
theorem dX7_manyNow_69 : decode cX7_manyNow 69 = .ok (.aload_n 0, 1) := by decide +kernel
theorem dX7_manyNow_70 : decode cX7_manyNow 70 = .ok (.getfield 19, 3) := by decide +kernel
theorem dX7_manyNow_73 : decode cX7_manyNow 73 = .ok (.invokevirtual 109, 3) := by decide +kernel
theorem dX7_manyNow_76 : decode cX7_manyNow 76 = .ok (.astore_n 3, 1) := by decide +kernel
theorem dX7_manyNow_77 : decode cX7_manyNow 77 = .ok (.aload_n 3, 1) := by decide +kernel
theorem dX7_manyNow_78 : decode cX7_manyNow 78 = .ok (.invokeinterface 113 1, 5) := by decide +kernel
theorem dX7_manyNow_83 : decode cX7_manyNow 83 = .ok (.ifCond .eq 35, 3) := by decide +kernel
theorem dX7_manyNow_86 : decode cX7_manyNow 86 = .ok (.aload_n 3, 1) := by decide +kernel
theorem dX7_manyNow_87 : decode cX7_manyNow 87 = .ok (.invokeinterface 119 1, 5) := by decide +kernel
theorem dX7_manyNow_92 : decode cX7_manyNow 92 = .ok (.checkcast 123, 3) := by decide +kernel
theorem dX7_manyNow_95 : decode cX7_manyNow 95 = .ok (.astore 4, 2) := by decide +kernel
theorem dX7_manyNow_97 : decode cX7_manyNow 97 = .ok (.iload_n 2, 1) := by decide +kernel
theorem dX7_manyNow_98 : decode cX7_manyNow 98 = .ok (.aload_n 0, 1) := by decide +kernel
theorem dX7_manyNow_99 : decode cX7_manyNow 99 = .ok (.aload 4, 2) := by decide +kernel
theorem dX7_manyNow_101 : decode cX7_manyNow 101 = .ok (.iconst (-1), 1) := by decide +kernel
theorem dX7_manyNow_102 : decode cX7_manyNow 102 = .ok (.invokevirtual 131, 3) := by decide +kernel
theorem dX7_manyNow_105 : decode cX7_manyNow 105 = .ok (.ifCond .eq 7, 3) := by decide +kernel
theorem dX7_manyNow_108 : decode cX7_manyNow 108 = .ok (.iconst 1, 1) := by decide +kernel
theorem dX7_manyNow_109 : decode cX7_manyNow 109 = .ok (.goto 4, 3) := by decide +kernel
theorem dX7_manyNow_112 : decode cX7_manyNow 112 = .ok (.iconst 0, 1) := by decide +kernel
theorem dX7_manyNow_113 : decode cX7_manyNow 113 = .ok (.iadd, 1) := by decide +kernel
theorem dX7_manyNow_114 : decode cX7_manyNow 114 = .ok (.istore_n 2, 1) := by decide +kernel
theorem dX7_manyNow_115 : decode cX7_manyNow 115 = .ok (.goto (-38), 3) := by decide +kernel
theorem dX7_manyNow_118 : decode cX7_manyNow 118 = .ok (.iload_n 2, 1) := by decide +kernel
theorem dX7_manyNow_119 : decode cX7_manyNow 119 = .ok (.ireturn, 1) := by decide +kernel
theorem dX7_manyNow_120 : decode cX7_manyNow 120 = .ok (.aload_n 0, 1) := by decide +kernel
theorem dX7_manyNow_121 : decode cX7_manyNow 121 = .ok (.getfield 54, 3) := by decide +kernel
theorem dX7_manyNow_124 : decode cX7_manyNow 124 = .ok (.ireturn, 1) := by decide +kernel
theorem dX7_manyNow_125 : decode cX7_manyNow 125 = .ok (.aload_n 0, 1) := by decide +kernel
theorem dX7_manyNow_126 : decode cX7_manyNow 126 = .ok (.getfield 51, 3) := by decide +kernel
theorem dX7_manyNow_129 : decode cX7_manyNow 129 = .ok (.ireturn, 1) := by decide +kernel
theorem dX7_manyNow_130 : decode cX7_manyNow 130 = .ok (.aload_n 0, 1) := by decide +kernel
theorem dX7_manyNow_131 : decode cX7_manyNow 131 = .ok (.getfield 210, 3) := by decide +kernel
theorem dX7_manyNow_134 : decode cX7_manyNow 134 = .ok (.ireturn, 1) := by decide +kernel
theorem dX7_manyNow_135 : decode cX7_manyNow 135 = .ok (.aload_n 0, 1) := by decide +kernel
theorem dX7_manyNow_136 : decode cX7_manyNow 136 = .ok (.getfield 22, 3) := by decide +kernel
theorem dX7_manyNow_139 : decode cX7_manyNow 139 = .ok (.astore_n 3, 1) := by decide +kernel
theorem dX7_manyNow_140 : decode cX7_manyNow 140 = .ok (.aload_n 3, 1) := by decide +kernel
theorem dX7_manyNow_141 : decode cX7_manyNow 141 = .ok (.arraylength, 1) := by decide +kernel
theorem dX7_manyNow_142 : decode cX7_manyNow 142 = .ok (.istore 4, 2) := by decide +kernel
theorem dX7_manyNow_144 : decode cX7_manyNow 144 = .ok (.iconst 0, 1) := by decide +kernel
theorem dX7_manyNow_145 : decode cX7_manyNow 145 = .ok (.istore 5, 2) := by decide +kernel
theorem dX7_manyNow_147 : decode cX7_manyNow 147 = .ok (.iload 5, 2) := by decide +kernel
theorem dX7_manyNow_149 : decode cX7_manyNow 149 = .ok (.iload 4, 2) := by decide +kernel
theorem dX7_manyNow_151 : decode cX7_manyNow 151 = .ok (.if_icmp .ge 28, 3) := by decide +kernel
theorem dX7_manyNow_154 : decode cX7_manyNow 154 = .ok (.aload_n 3, 1) := by decide +kernel
theorem dX7_manyNow_155 : decode cX7_manyNow 155 = .ok (.iload 5, 2) := by decide +kernel
theorem dX7_manyNow_157 : decode cX7_manyNow 157 = .ok (.baload, 1) := by decide +kernel
theorem dX7_manyNow_158 : decode cX7_manyNow 158 = .ok (.istore 6, 2) := by decide +kernel
theorem dX7_manyNow_160 : decode cX7_manyNow 160 = .ok (.iload_n 2, 1) := by decide +kernel
theorem dX7_manyNow_161 : decode cX7_manyNow 161 = .ok (.iload 6, 2) := by decide +kernel
theorem dX7_manyNow_163 : decode cX7_manyNow 163 = .ok (.ifCond .eq 7, 3) := by decide +kernel
theorem dX7_manyNow_166 : decode cX7_manyNow 166 = .ok (.iconst 1, 1) := by decide +kernel
theorem dX7_manyNow_167 : decode cX7_manyNow 167 = .ok (.goto 4, 3) := by decide +kernel
theorem dX7_manyNow_170 : decode cX7_manyNow 170 = .ok (.iconst 0, 1) := by decide +kernel
theorem dX7_manyNow_171 : decode cX7_manyNow 171 = .ok (.iadd, 1) := by decide +kernel
theorem dX7_manyNow_172 : decode cX7_manyNow 172 = .ok (.istore_n 2, 1) := by decide +kernel
theorem dX7_manyNow_173 : decode cX7_manyNow 173 = .ok (.iinc 5 1, 3) := by decide +kernel
theorem dX7_manyNow_176 : decode cX7_manyNow 176 = .ok (.goto (-29), 3) := by decide +kernel
theorem dX7_manyNow_179 : decode cX7_manyNow 179 = .ok (.iload_n 2, 1) := by decide +kernel
theorem dX7_manyNow_180 : decode cX7_manyNow 180 = .ok (.ireturn, 1) := by decide +kernel
theorem dX7_manyNow_181 : decode cX7_manyNow 181 = .ok (.iconst 0, 1) := by decide +kernel
theorem dX7_manyNow_182 : decode cX7_manyNow 182 = .ok (.istore_n 3, 1) := by decide +kernel
theorem dX7_manyNow_183 : decode cX7_manyNow 183 = .ok (.iload_n 3, 1) := by decide +kernel
theorem dX7_manyNow_184 : decode cX7_manyNow 184 = .ok (.aload_n 0, 1) := by decide +kernel
theorem dX7_manyNow_185 : decode cX7_manyNow 185 = .ok (.getfield 16, 3) := by decide +kernel
theorem dX7_manyNow_188 : decode cX7_manyNow 188 = .ok (.invokevirtual 60, 3) := by decide +kernel
theorem dX7_manyNow_191 : decode cX7_manyNow 191 = .ok (.if_icmp .ge 25, 3) := by decide +kernel
theorem dX7_manyNow_194 : decode cX7_manyNow 194 = .ok (.iload_n 2, 1) := by decide +kernel
theorem dX7_manyNow_195 : decode cX7_manyNow 195 = .ok (.aload_n 0, 1) := by decide +kernel
theorem dX7_manyNow_196 : decode cX7_manyNow 196 = .ok (.iload_n 3, 1) := by decide +kernel
theorem dX7_manyNow_197 : decode cX7_manyNow 197 = .ok (.invokevirtual 106, 3) := by decide +kernel
theorem dX7_manyNow_200 : decode cX7_manyNow 200 = .ok (.ifCond .eq 7, 3) := by decide +kernel
theorem dX7_manyNow_203 : decode cX7_manyNow 203 = .ok (.iconst 1, 1) := by decide +kernel
theorem dX7_manyNow_204 : decode cX7_manyNow 204 = .ok (.goto 4, 3) := by decide +kernel
theorem dX7_manyNow_207 : decode cX7_manyNow 207 = .ok (.iconst 0, 1) := by decide +kernel
theorem dX7_manyNow_208 : decode cX7_manyNow 208 = .ok (.iadd, 1) := by decide +kernel
theorem dX7_manyNow_209 : decode cX7_manyNow 209 = .ok (.istore_n 2, 1) := by decide +kernel
theorem dX7_manyNow_210 : decode cX7_manyNow 210 = .ok (.iinc 3 1, 3) := by decide +kernel
theorem dX7_manyNow_213 : decode cX7_manyNow 213 = .ok (.goto (-30), 3) := by decide +kernel
theorem dX7_manyNow_216 : decode cX7_manyNow 216 = .ok (.iload_n 2, 1) := by decide +kernel
theorem dX7_manyNow_217 : decode cX7_manyNow 217 = .ok (.ireturn, 1) := by decide +kernel
theorem dX7_many_0 : decode cX7_many 0 = .ok (.aload_n 0, 1) := by decide +kernel
theorem dX7_many_1 : decode cX7_many 1 = .ok (.iconst 0, 1) := by decide +kernel
theorem dX7_many_2 : decode cX7_many 2 = .ok (.putfield 57, 3) := by decide +kernel
theorem dX7_many_5 : decode cX7_many 5 = .ok (.iload_n 1, 1) := by decide +kernel
theorem dX7_many_6 : decode cX7_many 6 = .ok (.iconst 0, 1) := by decide +kernel
theorem dX7_many_7 : decode cX7_many 7 = .ok (.bipush 8, 2) := by decide +kernel
theorem dX7_many_9 : decode cX7_many 9 = .ok (.invokestatic 64, 3) := by decide +kernel
theorem dX7_many_12 : decode cX7_many 12 = .ok (.ifCond .eq 11, 3) := by decide +kernel
theorem dX7_many_15 : decode cX7_many 15 = .ok (.aload_n 0, 1) := by decide +kernel
theorem dX7_many_16 : decode cX7_many 16 = .ok (.iload_n 1, 1) := by decide +kernel
theorem dX7_many_17 : decode cX7_many 17 = .ok (.invokevirtual 216, 3) := by decide +kernel
theorem dX7_many_20 : decode cX7_many 20 = .ok (.goto 8, 3) := by decide +kernel
theorem dX7_many_23 : decode cX7_many 23 = .ok (.aload_n 0, 1) := by decide +kernel
theorem dX7_many_24 : decode cX7_many 24 = .ok (.iconst 1, 1) := by decide +kernel
theorem dX7_many_25 : decode cX7_many 25 = .ok (.invokevirtual 87, 3) := by decide +kernel
theorem dX7_many_28 : decode cX7_many 28 = .ok (.ireturn, 1) := by decide +kernel
theorem dX7_minutesForNow_0 : decode cX7_minutesForNow 0 = .ok (.bipush 6, 2) := by decide +kernel
theorem dX7_minutesForNow_2 : decode cX7_minutesForNow 2 = .ok (.aload_n 0, 1) := by decide +kernel
theorem dX7_minutesForNow_3 : decode cX7_minutesForNow 3 = .ok (.iload_n 1, 1) := by decide +kernel
theorem dX7_minutesForNow_4 : decode cX7_minutesForNow 4 = .ok (.invokevirtual 154, 3) := by decide +kernel
theorem dX7_minutesForNow_7 : decode cX7_minutesForNow 7 = .ok (.arraylength, 1) := by decide +kernel
theorem dX7_minutesForNow_8 : decode cX7_minutesForNow 8 = .ok (.isub, 1) := by decide +kernel
theorem dX7_minutesForNow_9 : decode cX7_minutesForNow 9 = .ok (.istore_n 2, 1) := by decide +kernel
theorem dX7_minutesForNow_10 : decode cX7_minutesForNow 10 = .ok (.iconst (-1), 1) := by decide +kernel
theorem dX7_minutesForNow_11 : decode cX7_minutesForNow 11 = .ok (.istore_n 3, 1) := by decide +kernel
theorem dX7_minutesForNow_12 : decode cX7_minutesForNow 12 = .ok (.iconst 0, 1) := by decide +kernel
theorem dX7_minutesForNow_13 : decode cX7_minutesForNow 13 = .ok (.istore 4, 2) := by decide +kernel
theorem dX7_minutesForNow_15 : decode cX7_minutesForNow 15 = .ok (.iload 4, 2) := by decide +kernel
theorem dX7_minutesForNow_17 : decode cX7_minutesForNow 17 = .ok (.aload_n 0, 1) := by decide +kernel
theorem dX7_minutesForNow_18 : decode cX7_minutesForNow 18 = .ok (.getfield 16, 3) := by decide +kernel
theorem dX7_minutesForNow_21 : decode cX7_minutesForNow 21 = .ok (.invokevirtual 60, 3) := by decide +kernel
theorem dX7_minutesForNow_24 : decode cX7_minutesForNow 24 = .ok (.if_icmp .ge 58, 3) := by decide +kernel
theorem dX7_minutesForNow_27 : decode cX7_minutesForNow 27 = .ok (.aload_n 0, 1) := by decide +kernel
theorem dX7_minutesForNow_28 : decode cX7_minutesForNow 28 = .ok (.iload 4, 2) := by decide +kernel
theorem dX7_minutesForNow_30 : decode cX7_minutesForNow 30 = .ok (.invokevirtual 106, 3) := by decide +kernel
theorem dX7_minutesForNow_33 : decode cX7_minutesForNow 33 = .ok (.ifCond .ne 43, 3) := by decide +kernel
theorem dX7_minutesForNow_36 : decode cX7_minutesForNow 36 = .ok (.iload_n 3, 1) := by decide +kernel
theorem dX7_minutesForNow_37 : decode cX7_minutesForNow 37 = .ok (.iconst (-1), 1) := by decide +kernel
theorem dX7_minutesForNow_38 : decode cX7_minutesForNow 38 = .ok (.if_icmp .eq 22, 3) := by decide +kernel
theorem dX7_minutesForNow_41 : decode cX7_minutesForNow 41 = .ok (.aload_n 0, 1) := by decide +kernel
theorem dX7_minutesForNow_42 : decode cX7_minutesForNow 42 = .ok (.getfield 16, 3) := by decide +kernel
theorem dX7_minutesForNow_45 : decode cX7_minutesForNow 45 = .ok (.iload 4, 2) := by decide +kernel
theorem dX7_minutesForNow_47 : decode cX7_minutesForNow 47 = .ok (.invokevirtual 68, 3) := by decide +kernel
theorem dX7_minutesForNow_50 : decode cX7_minutesForNow 50 = .ok (.checkcast 72, 3) := by decide +kernel
theorem dX7_minutesForNow_53 : decode cX7_minutesForNow 53 = .ok (.invokevirtual 81, 3) := by decide +kernel
theorem dX7_minutesForNow_56 : decode cX7_minutesForNow 56 = .ok (.iload_n 3, 1) := by decide +kernel
theorem dX7_minutesForNow_57 : decode cX7_minutesForNow 57 = .ok (.if_icmp .ge 19, 3) := by decide +kernel
theorem dX7_minutesForNow_60 : decode cX7_minutesForNow 60 = .ok (.aload_n 0, 1) := by decide +kernel
theorem dX7_minutesForNow_61 : decode cX7_minutesForNow 61 = .ok (.getfield 16, 3) := by decide +kernel
theorem dX7_minutesForNow_64 : decode cX7_minutesForNow 64 = .ok (.iload 4, 2) := by decide +kernel
theorem dX7_minutesForNow_66 : decode cX7_minutesForNow 66 = .ok (.invokevirtual 68, 3) := by decide +kernel
theorem dX7_minutesForNow_69 : decode cX7_minutesForNow 69 = .ok (.checkcast 72, 3) := by decide +kernel
theorem dX7_minutesForNow_72 : decode cX7_minutesForNow 72 = .ok (.invokevirtual 81, 3) := by decide +kernel
theorem dX7_minutesForNow_75 : decode cX7_minutesForNow 75 = .ok (.istore_n 3, 1) := by decide +kernel
theorem dX7_minutesForNow_76 : decode cX7_minutesForNow 76 = .ok (.iinc 4 1, 3) := by decide +kernel
theorem dX7_minutesForNow_79 : decode cX7_minutesForNow 79 = .ok (.goto (-64), 3) := by decide +kernel
theorem dX7_minutesForNow_82 : decode cX7_minutesForNow 82 = .ok (.iload_n 2, 1) := by decide +kernel
theorem dX7_minutesForNow_83 : decode cX7_minutesForNow 83 = .ok (.ifCond .ne 7, 3) := by decide +kernel
theorem dX7_minutesForNow_86 : decode cX7_minutesForNow 86 = .ok (.iconst 0, 1) := by decide +kernel
theorem dX7_minutesForNow_87 : decode cX7_minutesForNow 87 = .ok (.goto 15, 3) := by decide +kernel
theorem dX7_minutesForNow_90 : decode cX7_minutesForNow 90 = .ok (.iload_n 3, 1) := by decide +kernel
theorem dX7_minutesForNow_91 : decode cX7_minutesForNow 91 = .ok (.iconst (-1), 1) := by decide +kernel
theorem dX7_minutesForNow_92 : decode cX7_minutesForNow 92 = .ok (.if_icmp .ne 7, 3) := by decide +kernel
theorem dX7_minutesForNow_95 : decode cX7_minutesForNow 95 = .ok (.iconst (-1), 1) := by decide +kernel
theorem dX7_minutesForNow_96 : decode cX7_minutesForNow 96 = .ok (.goto 6, 3) := by decide +kernel
theorem dX7_minutesForNow_99 : decode cX7_minutesForNow 99 = .ok (.iload_n 2, 1) := by decide +kernel
theorem dX7_minutesForNow_100 : decode cX7_minutesForNow 100 = .ok (.iload_n 3, 1) := by decide +kernel
theorem dX7_minutesForNow_101 : decode cX7_minutesForNow 101 = .ok (.imul, 1) := by decide +kernel
theorem dX7_minutesForNow_102 : decode cX7_minutesForNow 102 = .ok (.ireturn, 1) := by decide +kernel
theorem dX7_minutesFor_0 : decode cX7_minutesFor 0 = .ok (.aload_n 0, 1) := by decide +kernel
theorem dX7_minutesFor_1 : decode cX7_minutesFor 1 = .ok (.iconst 0, 1) := by decide +kernel
theorem dX7_minutesFor_2 : decode cX7_minutesFor 2 = .ok (.putfield 57, 3) := by decide +kernel
theorem dX7_minutesFor_5 : decode cX7_minutesFor 5 = .ok (.aload_n 0, 1) := by decide +kernel
theorem dX7_minutesFor_6 : decode cX7_minutesFor 6 = .ok (.iload_n 1, 1) := by decide +kernel
theorem dX7_minutesFor_7 : decode cX7_minutesFor 7 = .ok (.invokevirtual 145, 3) := by decide +kernel
theorem dX7_minutesFor_10 : decode cX7_minutesFor 10 = .ok (.ifCond .eq 11, 3) := by decide +kernel
theorem dX7_minutesFor_13 : decode cX7_minutesFor 13 = .ok (.aload_n 0, 1) := by decide +kernel
theorem dX7_minutesFor_14 : decode cX7_minutesFor 14 = .ok (.iload_n 1, 1) := by decide +kernel
theorem dX7_minutesFor_15 : decode cX7_minutesFor 15 = .ok (.invokevirtual 219, 3) := by decide +kernel
theorem dX7_minutesFor_18 : decode cX7_minutesFor 18 = .ok (.goto 8, 3) := by decide +kernel
theorem dX7_minutesFor_21 : decode cX7_minutesFor 21 = .ok (.aload_n 0, 1) := by decide +kernel
theorem dX7_minutesFor_22 : decode cX7_minutesFor 22 = .ok (.iconst 1, 1) := by decide +kernel
theorem dX7_minutesFor_23 : decode cX7_minutesFor 23 = .ok (.invokevirtual 87, 3) := by decide +kernel
theorem dX7_minutesFor_26 : decode cX7_minutesFor 26 = .ok (.ireturn, 1) := by decide +kernel
theorem dX7_verdictWith_0 : decode cX7_verdictWith 0 = .ok (.aload_n 0, 1) := by decide +kernel
theorem dX7_verdictWith_1 : decode cX7_verdictWith 1 = .ok (.iconst 0, 1) := by decide +kernel
theorem dX7_verdictWith_2 : decode cX7_verdictWith 2 = .ok (.putfield 57, 3) := by decide +kernel
theorem dX7_verdictWith_5 : decode cX7_verdictWith 5 = .ok (.aload_n 0, 1) := by decide +kernel
theorem dX7_verdictWith_6 : decode cX7_verdictWith 6 = .ok (.iload_n 1, 1) := by decide +kernel
theorem dX7_verdictWith_7 : decode cX7_verdictWith 7 = .ok (.invokevirtual 145, 3) := by decide +kernel
theorem dX7_verdictWith_10 : decode cX7_verdictWith 10 = .ok (.ifCond .eq 11, 3) := by decide +kernel
theorem dX7_verdictWith_13 : decode cX7_verdictWith 13 = .ok (.aload_n 0, 1) := by decide +kernel
theorem dX7_verdictWith_14 : decode cX7_verdictWith 14 = .ok (.iload_n 2, 1) := by decide +kernel
theorem dX7_verdictWith_15 : decode cX7_verdictWith 15 = .ok (.invokevirtual 145, 3) := by decide +kernel
theorem dX7_verdictWith_18 : decode cX7_verdictWith 18 = .ok (.ifCond .ne 9, 3) := by decide +kernel
theorem dX7_verdictWith_21 : decode cX7_verdictWith 21 = .ok (.aload_n 0, 1) := by decide +kernel
theorem dX7_verdictWith_22 : decode cX7_verdictWith 22 = .ok (.iconst 1, 1) := by decide +kernel
theorem dX7_verdictWith_23 : decode cX7_verdictWith 23 = .ok (.invokevirtual 87, 3) := by decide +kernel
theorem dX7_verdictWith_26 : decode cX7_verdictWith 26 = .ok (.ireturn, 1) := by decide +kernel
theorem dX7_verdictWith_27 : decode cX7_verdictWith 27 = .ok (.iload_n 3, 1) := by decide +kernel
theorem dX7_verdictWith_28 : decode cX7_verdictWith 28 = .ok (.iconst 1, 1) := by decide +kernel
theorem dX7_verdictWith_29 : decode cX7_verdictWith 29 = .ok (.sipush 20000, 3) := by decide +kernel
theorem dX7_verdictWith_32 : decode cX7_verdictWith 32 = .ok (.invokestatic 64, 3) := by decide +kernel
theorem dX7_verdictWith_35 : decode cX7_verdictWith 35 = .ok (.ifCond .ne 9, 3) := by decide +kernel
theorem dX7_verdictWith_38 : decode cX7_verdictWith 38 = .ok (.aload_n 0, 1) := by decide +kernel
theorem dX7_verdictWith_39 : decode cX7_verdictWith 39 = .ok (.iconst 2, 1) := by decide +kernel
theorem dX7_verdictWith_40 : decode cX7_verdictWith 40 = .ok (.invokevirtual 87, 3) := by decide +kernel
theorem dX7_verdictWith_43 : decode cX7_verdictWith 43 = .ok (.ireturn, 1) := by decide +kernel
theorem dX7_verdictWith_44 : decode cX7_verdictWith 44 = .ok (.aload_n 0, 1) := by decide +kernel
theorem dX7_verdictWith_45 : decode cX7_verdictWith 45 = .ok (.iload_n 2, 1) := by decide +kernel
theorem dX7_verdictWith_46 : decode cX7_verdictWith 46 = .ok (.invokevirtual 154, 3) := by decide +kernel
theorem dX7_verdictWith_49 : decode cX7_verdictWith 49 = .ok (.astore 4, 2) := by decide +kernel
theorem dX7_verdictWith_51 : decode cX7_verdictWith 51 = .ok (.aload 4, 2) := by decide +kernel
theorem dX7_verdictWith_53 : decode cX7_verdictWith 53 = .ok (.aload 4, 2) := by decide +kernel
theorem dX7_verdictWith_55 : decode cX7_verdictWith 55 = .ok (.arraylength, 1) := by decide +kernel
theorem dX7_verdictWith_56 : decode cX7_verdictWith 56 = .ok (.iconst 1, 1) := by decide +kernel
theorem dX7_verdictWith_57 : decode cX7_verdictWith 57 = .ok (.iadd, 1) := by decide +kernel
theorem dX7_verdictWith_58 : decode cX7_verdictWith 58 = .ok (.invokestatic 164, 3) := by decide +kernel
theorem dX7_verdictWith_61 : decode cX7_verdictWith 61 = .ok (.astore 5, 2) := by decide +kernel
theorem dX7_verdictWith_63 : decode cX7_verdictWith 63 = .ok (.aload 5, 2) := by decide +kernel
theorem dX7_verdictWith_65 : decode cX7_verdictWith 65 = .ok (.aload 4, 2) := by decide +kernel
theorem dX7_verdictWith_67 : decode cX7_verdictWith 67 = .ok (.arraylength, 1) := by decide +kernel
theorem dX7_verdictWith_68 : decode cX7_verdictWith 68 = .ok (.iload_n 3, 1) := by decide +kernel
theorem dX7_verdictWith_69 : decode cX7_verdictWith 69 = .ok (.iastore, 1) := by decide +kernel
theorem dX7_verdictWith_70 : decode cX7_verdictWith 70 = .ok (.aload_n 0, 1) := by decide +kernel
theorem dX7_verdictWith_71 : decode cX7_verdictWith 71 = .ok (.aload_n 0, 1) := by decide +kernel
theorem dX7_verdictWith_72 : decode cX7_verdictWith 72 = .ok (.iload_n 1, 1) := by decide +kernel
theorem dX7_verdictWith_73 : decode cX7_verdictWith 73 = .ok (.invokevirtual 154, 3) := by decide +kernel
theorem dX7_verdictWith_76 : decode cX7_verdictWith 76 = .ok (.aload 5, 2) := by decide +kernel
theorem dX7_verdictWith_78 : decode cX7_verdictWith 78 = .ok (.arraylength, 1) := by decide +kernel
theorem dX7_verdictWith_79 : decode cX7_verdictWith 79 = .ok (.bipush 6, 2) := by decide +kernel
theorem dX7_verdictWith_81 : decode cX7_verdictWith 81 = .ok (.if_icmp .le 15, 3) := by decide +kernel
theorem dX7_verdictWith_84 : decode cX7_verdictWith 84 = .ok (.aload 5, 2) := by decide +kernel
theorem dX7_verdictWith_86 : decode cX7_verdictWith 86 = .ok (.iconst 1, 1) := by decide +kernel
theorem dX7_verdictWith_87 : decode cX7_verdictWith 87 = .ok (.aload 5, 2) := by decide +kernel
theorem dX7_verdictWith_89 : decode cX7_verdictWith 89 = .ok (.arraylength, 1) := by decide +kernel
theorem dX7_verdictWith_90 : decode cX7_verdictWith 90 = .ok (.invokestatic 135, 3) := by decide +kernel
theorem dX7_verdictWith_93 : decode cX7_verdictWith 93 = .ok (.goto 5, 3) := by decide +kernel
theorem dX7_verdictWith_96 : decode cX7_verdictWith 96 = .ok (.aload 5, 2) := by decide +kernel
theorem dX7_verdictWith_98 : decode cX7_verdictWith 98 = .ok (.invokevirtual 194, 3) := by decide +kernel
theorem dX7_verdictWith_101 : decode cX7_verdictWith 101 = .ok (.ireturn, 1) := by decide +kernel
theorem dX7_withoutNow_0 : decode cX7_withoutNow 0 = .ok (.iconst 0, 1) := by decide +kernel
theorem dX7_withoutNow_1 : decode cX7_withoutNow 1 = .ok (.istore_n 2, 1) := by decide +kernel
theorem dX7_withoutNow_2 : decode cX7_withoutNow 2 = .ok (.iconst 0, 1) := by decide +kernel
theorem dX7_withoutNow_3 : decode cX7_withoutNow 3 = .ok (.istore_n 3, 1) := by decide +kernel
theorem dX7_withoutNow_4 : decode cX7_withoutNow 4 = .ok (.iload_n 3, 1) := by decide +kernel
theorem dX7_withoutNow_5 : decode cX7_withoutNow 5 = .ok (.aload_n 0, 1) := by decide +kernel
theorem dX7_withoutNow_6 : decode cX7_withoutNow 6 = .ok (.getfield 29, 3) := by decide +kernel
theorem dX7_withoutNow_9 : decode cX7_withoutNow 9 = .ok (.if_icmp .ge 33, 3) := by decide +kernel
theorem dX7_withoutNow_12 : decode cX7_withoutNow 12 = .ok (.iload_n 2, 1) := by decide +kernel
theorem dX7_withoutNow_13 : decode cX7_withoutNow 13 = .ok (.aload_n 0, 1) := by decide +kernel
theorem dX7_withoutNow_14 : decode cX7_withoutNow 14 = .ok (.iload_n 3, 1) := by decide +kernel
theorem dX7_withoutNow_15 : decode cX7_withoutNow 15 = .ok (.iload_n 1, 1) := by decide +kernel
theorem dX7_withoutNow_16 : decode cX7_withoutNow 16 = .ok (.invokevirtual 141, 3) := by decide +kernel
theorem dX7_withoutNow_19 : decode cX7_withoutNow 19 = .ok (.arraylength, 1) := by decide +kernel
theorem dX7_withoutNow_20 : decode cX7_withoutNow 20 = .ok (.aload_n 0, 1) := by decide +kernel
theorem dX7_withoutNow_21 : decode cX7_withoutNow 21 = .ok (.iload_n 3, 1) := by decide +kernel
theorem dX7_withoutNow_22 : decode cX7_withoutNow 22 = .ok (.invokevirtual 154, 3) := by decide +kernel
theorem dX7_withoutNow_25 : decode cX7_withoutNow 25 = .ok (.arraylength, 1) := by decide +kernel
theorem dX7_withoutNow_26 : decode cX7_withoutNow 26 = .ok (.if_icmp .ge 7, 3) := by decide +kernel
theorem dX7_withoutNow_29 : decode cX7_withoutNow 29 = .ok (.iconst 1, 1) := by decide +kernel
theorem dX7_withoutNow_30 : decode cX7_withoutNow 30 = .ok (.goto 4, 3) := by decide +kernel
theorem dX7_withoutNow_33 : decode cX7_withoutNow 33 = .ok (.iconst 0, 1) := by decide +kernel
theorem dX7_withoutNow_34 : decode cX7_withoutNow 34 = .ok (.iadd, 1) := by decide +kernel
theorem dX7_withoutNow_35 : decode cX7_withoutNow 35 = .ok (.istore_n 2, 1) := by decide +kernel
theorem dX7_withoutNow_36 : decode cX7_withoutNow 36 = .ok (.iinc 3 1, 3) := by decide +kernel
theorem dX7_withoutNow_39 : decode cX7_withoutNow 39 = .ok (.goto (-35), 3) := by decide +kernel
theorem dX7_withoutNow_42 : decode cX7_withoutNow 42 = .ok (.iload_n 2, 1) := by decide +kernel
theorem dX7_withoutNow_43 : decode cX7_withoutNow 43 = .ok (.ireturn, 1) := by decide +kernel
theorem dX7_without_0 : decode cX7_without 0 = .ok (.aload_n 0, 1) := by decide +kernel
theorem dX7_without_1 : decode cX7_without 1 = .ok (.iconst 0, 1) := by decide +kernel
theorem dX7_without_2 : decode cX7_without 2 = .ok (.putfield 57, 3) := by decide +kernel
theorem dX7_without_5 : decode cX7_without 5 = .ok (.aload_n 0, 1) := by decide +kernel
theorem dX7_without_6 : decode cX7_without 6 = .ok (.iload_n 1, 1) := by decide +kernel
theorem dX7_without_7 : decode cX7_without 7 = .ok (.invokevirtual 99, 3) := by decide +kernel
theorem dX7_without_10 : decode cX7_without 10 = .ok (.ifCond .eq 11, 3) := by decide +kernel
theorem dX7_without_13 : decode cX7_without 13 = .ok (.aload_n 0, 1) := by decide +kernel
theorem dX7_without_14 : decode cX7_without 14 = .ok (.iload_n 1, 1) := by decide +kernel
theorem dX7_without_15 : decode cX7_without 15 = .ok (.invokevirtual 222, 3) := by decide +kernel
theorem dX7_without_18 : decode cX7_without 18 = .ok (.goto 8, 3) := by decide +kernel
theorem dX7_without_21 : decode cX7_without 21 = .ok (.aload_n 0, 1) := by decide +kernel
theorem dX7_without_22 : decode cX7_without 22 = .ok (.iconst 1, 1) := by decide +kernel
theorem dX7_without_23 : decode cX7_without 23 = .ok (.invokevirtual 87, 3) := by decide +kernel
theorem dX7_without_26 : decode cX7_without 26 = .ok (.ireturn, 1) := by decide +kernel
theorem dX7_wouldMove_0 : decode cX7_wouldMove 0 = .ok (.aload_n 0, 1) := by decide +kernel
theorem dX7_wouldMove_1 : decode cX7_wouldMove 1 = .ok (.iconst 0, 1) := by decide +kernel
theorem dX7_wouldMove_2 : decode cX7_wouldMove 2 = .ok (.putfield 57, 3) := by decide +kernel
theorem dX7_wouldMove_5 : decode cX7_wouldMove 5 = .ok (.aload_n 0, 1) := by decide +kernel
theorem dX7_wouldMove_6 : decode cX7_wouldMove 6 = .ok (.aload_n 0, 1) := by decide +kernel
theorem dX7_wouldMove_7 : decode cX7_wouldMove 7 = .ok (.getfield 210, 3) := by decide +kernel
theorem dX7_wouldMove_10 : decode cX7_wouldMove 10 = .ok (.invokevirtual 213, 3) := by decide +kernel
theorem dX7_wouldMove_13 : decode cX7_wouldMove 13 = .ok (.ireturn, 1) := by decide +kernel
theorem dX7_add_0 : decode cX7_add 0 = .ok (.aload_n 0, 1) := by decide +kernel
theorem dX7_add_1 : decode cX7_add 1 = .ok (.aload_n 0, 1) := by decide +kernel
theorem dX7_add_2 : decode cX7_add 2 = .ok (.getfield 225, 3) := by decide +kernel
theorem dX7_add_5 : decode cX7_add 5 = .ok (.ldc2_w 229, 3) := by decide +kernel
theorem dX7_add_8 : decode cX7_add 8 = .ok (.lmul, 1) := by decide +kernel
theorem dX7_add_9 : decode cX7_add 9 = .ok (.iload_n 1, 1) := by decide +kernel
theorem dX7_add_10 : decode cX7_add 10 = .ok (.i2l, 1) := by decide +kernel
theorem dX7_add_11 : decode cX7_add 11 = .ok (.ladd, 1) := by decide +kernel
theorem dX7_add_12 : decode cX7_add 12 = .ok (.putfield 225, 3) := by decide +kernel
theorem dX7_add_15 : decode cX7_add 15 = .ok (.return_, 1) := by decide +kernel
theorem dX7_digest_0 : decode cX7_digest 0 = .ok (.aload_n 0, 1) := by decide +kernel
theorem dX7_digest_1 : decode cX7_digest 1 = .ok (.iconst 0, 1) := by decide +kernel
theorem dX7_digest_2 : decode cX7_digest 2 = .ok (.putfield 57, 3) := by decide +kernel
theorem dX7_digest_5 : decode cX7_digest 5 = .ok (.aload_n 0, 1) := by decide +kernel
theorem dX7_digest_6 : decode cX7_digest 6 = .ok (.ldc2_w 231, 3) := by decide +kernel
theorem dX7_digest_9 : decode cX7_digest 9 = .ok (.putfield 225, 3) := by decide +kernel
theorem dX7_digest_12 : decode cX7_digest 12 = .ok (.iconst 0, 1) := by decide +kernel
theorem dX7_digest_13 : decode cX7_digest 13 = .ok (.istore_n 1, 1) := by decide +kernel
theorem dX7_digest_14 : decode cX7_digest 14 = .ok (.iload_n 1, 1) := by decide +kernel
theorem dX7_digest_15 : decode cX7_digest 15 = .ok (.bipush 9, 2) := by decide +kernel
theorem dX7_digest_17 : decode cX7_digest 17 = .ok (.if_icmp .ge 18, 3) := by decide +kernel
theorem dX7_digest_20 : decode cX7_digest 20 = .ok (.aload_n 0, 1) := by decide +kernel
theorem dX7_digest_21 : decode cX7_digest 21 = .ok (.aload_n 0, 1) := by decide +kernel
theorem dX7_digest_22 : decode cX7_digest 22 = .ok (.iload_n 1, 1) := by decide +kernel
theorem dX7_digest_23 : decode cX7_digest 23 = .ok (.invokevirtual 216, 3) := by decide +kernel
theorem dX7_digest_26 : decode cX7_digest 26 = .ok (.invokevirtual 233, 3) := by decide +kernel
theorem dX7_digest_29 : decode cX7_digest 29 = .ok (.iinc 1 1, 3) := by decide +kernel
theorem dX7_digest_32 : decode cX7_digest 32 = .ok (.goto (-18), 3) := by decide +kernel
theorem dX7_digest_35 : decode cX7_digest 35 = .ok (.iconst 0, 1) := by decide +kernel
theorem dX7_digest_36 : decode cX7_digest 36 = .ok (.istore_n 1, 1) := by decide +kernel
theorem dX7_digest_37 : decode cX7_digest 37 = .ok (.iload_n 1, 1) := by decide +kernel
theorem dX7_digest_38 : decode cX7_digest 38 = .ok (.aload_n 0, 1) := by decide +kernel
theorem dX7_digest_39 : decode cX7_digest 39 = .ok (.getfield 16, 3) := by decide +kernel
theorem dX7_digest_42 : decode cX7_digest 42 = .ok (.invokevirtual 60, 3) := by decide +kernel
theorem dX7_digest_45 : decode cX7_digest 45 = .ok (.if_icmp .ge 41, 3) := by decide +kernel
theorem dX7_digest_48 : decode cX7_digest 48 = .ok (.iconst 0, 1) := by decide +kernel
theorem dX7_digest_49 : decode cX7_digest 49 = .ok (.istore_n 2, 1) := by decide +kernel
theorem dX7_digest_50 : decode cX7_digest 50 = .ok (.iload_n 2, 1) := by decide +kernel
theorem dX7_digest_51 : decode cX7_digest 51 = .ok (.iconst 5, 1) := by decide +kernel
theorem dX7_digest_52 : decode cX7_digest 52 = .ok (.if_icmp .ge 19, 3) := by decide +kernel
theorem dX7_digest_55 : decode cX7_digest 55 = .ok (.aload_n 0, 1) := by decide +kernel
theorem dX7_digest_56 : decode cX7_digest 56 = .ok (.aload_n 0, 1) := by decide +kernel
theorem dX7_digest_57 : decode cX7_digest 57 = .ok (.iload_n 1, 1) := by decide +kernel
theorem dX7_digest_58 : decode cX7_digest 58 = .ok (.iload_n 2, 1) := by decide +kernel
theorem dX7_digest_59 : decode cX7_digest 59 = .ok (.invokevirtual 128, 3) := by decide +kernel
theorem dX7_digest_62 : decode cX7_digest 62 = .ok (.invokevirtual 233, 3) := by decide +kernel
theorem dX7_digest_65 : decode cX7_digest 65 = .ok (.iinc 2 1, 3) := by decide +kernel
theorem dX7_digest_68 : decode cX7_digest 68 = .ok (.goto (-18), 3) := by decide +kernel
theorem dX7_digest_71 : decode cX7_digest 71 = .ok (.aload_n 0, 1) := by decide +kernel
theorem dX7_digest_72 : decode cX7_digest 72 = .ok (.aload_n 0, 1) := by decide +kernel
theorem dX7_digest_73 : decode cX7_digest 73 = .ok (.iload_n 1, 1) := by decide +kernel
theorem dX7_digest_74 : decode cX7_digest 74 = .ok (.invokevirtual 222, 3) := by decide +kernel
theorem dX7_digest_77 : decode cX7_digest 77 = .ok (.invokevirtual 233, 3) := by decide +kernel
theorem dX7_digest_80 : decode cX7_digest 80 = .ok (.iinc 1 1, 3) := by decide +kernel
theorem dX7_digest_83 : decode cX7_digest 83 = .ok (.goto (-46), 3) := by decide +kernel
theorem dX7_digest_86 : decode cX7_digest 86 = .ok (.iconst 0, 1) := by decide +kernel
theorem dX7_digest_87 : decode cX7_digest 87 = .ok (.istore_n 1, 1) := by decide +kernel
theorem dX7_digest_88 : decode cX7_digest 88 = .ok (.iload_n 1, 1) := by decide +kernel
theorem dX7_digest_89 : decode cX7_digest 89 = .ok (.aload_n 0, 1) := by decide +kernel
theorem dX7_digest_90 : decode cX7_digest 90 = .ok (.getfield 29, 3) := by decide +kernel
theorem dX7_digest_93 : decode cX7_digest 93 = .ok (.if_icmp .ge 42, 3) := by decide +kernel
theorem dX7_digest_96 : decode cX7_digest 96 = .ok (.iconst 0, 1) := by decide +kernel
theorem dX7_digest_97 : decode cX7_digest 97 = .ok (.istore_n 2, 1) := by decide +kernel
theorem dX7_digest_98 : decode cX7_digest 98 = .ok (.iload_n 2, 1) := by decide +kernel
theorem dX7_digest_99 : decode cX7_digest 99 = .ok (.bipush 6, 2) := by decide +kernel
theorem dX7_digest_101 : decode cX7_digest 101 = .ok (.if_icmp .ge 19, 3) := by decide +kernel
theorem dX7_digest_104 : decode cX7_digest 104 = .ok (.aload_n 0, 1) := by decide +kernel
theorem dX7_digest_105 : decode cX7_digest 105 = .ok (.aload_n 0, 1) := by decide +kernel
theorem dX7_digest_106 : decode cX7_digest 106 = .ok (.iload_n 1, 1) := by decide +kernel
theorem dX7_digest_107 : decode cX7_digest 107 = .ok (.iload_n 2, 1) := by decide +kernel
theorem dX7_digest_108 : decode cX7_digest 108 = .ok (.invokevirtual 161, 3) := by decide +kernel
theorem dX7_digest_111 : decode cX7_digest 111 = .ok (.invokevirtual 233, 3) := by decide +kernel
theorem dX7_digest_114 : decode cX7_digest 114 = .ok (.iinc 2 1, 3) := by decide +kernel
theorem dX7_digest_117 : decode cX7_digest 117 = .ok (.goto (-19), 3) := by decide +kernel
theorem dX7_digest_120 : decode cX7_digest 120 = .ok (.aload_n 0, 1) := by decide +kernel
theorem dX7_digest_121 : decode cX7_digest 121 = .ok (.aload_n 0, 1) := by decide +kernel
theorem dX7_digest_122 : decode cX7_digest 122 = .ok (.iload_n 1, 1) := by decide +kernel
theorem dX7_digest_123 : decode cX7_digest 123 = .ok (.invokevirtual 219, 3) := by decide +kernel
theorem dX7_digest_126 : decode cX7_digest 126 = .ok (.invokevirtual 233, 3) := by decide +kernel
theorem dX7_digest_129 : decode cX7_digest 129 = .ok (.iinc 1 1, 3) := by decide +kernel
theorem dX7_digest_132 : decode cX7_digest 132 = .ok (.goto (-44), 3) := by decide +kernel
theorem dX7_digest_135 : decode cX7_digest 135 = .ok (.iconst 0, 1) := by decide +kernel
theorem dX7_digest_136 : decode cX7_digest 136 = .ok (.istore_n 1, 1) := by decide +kernel
theorem dX7_digest_137 : decode cX7_digest 137 = .ok (.iload_n 1, 1) := by decide +kernel
theorem dX7_digest_138 : decode cX7_digest 138 = .ok (.aload_n 0, 1) := by decide +kernel
theorem dX7_digest_139 : decode cX7_digest 139 = .ok (.getfield 19, 3) := by decide +kernel
theorem dX7_digest_142 : decode cX7_digest 142 = .ok (.invokevirtual 60, 3) := by decide +kernel
theorem dX7_digest_145 : decode cX7_digest 145 = .ok (.if_icmp .ge 33, 3) := by decide +kernel
theorem dX7_digest_148 : decode cX7_digest 148 = .ok (.iconst 0, 1) := by decide +kernel
theorem dX7_digest_149 : decode cX7_digest 149 = .ok (.istore_n 2, 1) := by decide +kernel
theorem dX7_digest_150 : decode cX7_digest 150 = .ok (.iload_n 2, 1) := by decide +kernel
theorem dX7_digest_151 : decode cX7_digest 151 = .ok (.bipush 6, 2) := by decide +kernel
theorem dX7_digest_153 : decode cX7_digest 153 = .ok (.if_icmp .ge 19, 3) := by decide +kernel
theorem dX7_digest_156 : decode cX7_digest 156 = .ok (.aload_n 0, 1) := by decide +kernel
theorem dX7_digest_157 : decode cX7_digest 157 = .ok (.aload_n 0, 1) := by decide +kernel
theorem dX7_digest_158 : decode cX7_digest 158 = .ok (.iload_n 1, 1) := by decide +kernel
theorem dX7_digest_159 : decode cX7_digest 159 = .ok (.iload_n 2, 1) := by decide +kernel
theorem dX7_digest_160 : decode cX7_digest 160 = .ok (.invokevirtual 151, 3) := by decide +kernel
theorem dX7_digest_163 : decode cX7_digest 163 = .ok (.invokevirtual 233, 3) := by decide +kernel
theorem dX7_digest_166 : decode cX7_digest 166 = .ok (.iinc 2 1, 3) := by decide +kernel
theorem dX7_digest_169 : decode cX7_digest 169 = .ok (.goto (-19), 3) := by decide +kernel
theorem dX7_digest_172 : decode cX7_digest 172 = .ok (.iinc 1 1, 3) := by decide +kernel
theorem dX7_digest_175 : decode cX7_digest 175 = .ok (.goto (-38), 3) := by decide +kernel
theorem dX7_digest_178 : decode cX7_digest 178 = .ok (.iconst 1, 1) := by decide +kernel
theorem dX7_digest_179 : decode cX7_digest 179 = .ok (.istore_n 1, 1) := by decide +kernel
theorem dX7_digest_180 : decode cX7_digest 180 = .ok (.iload_n 1, 1) := by decide +kernel
theorem dX7_digest_181 : decode cX7_digest 181 = .ok (.aload_n 0, 1) := by decide +kernel
theorem dX7_digest_182 : decode cX7_digest 182 = .ok (.getfield 29, 3) := by decide +kernel
theorem dX7_digest_185 : decode cX7_digest 185 = .ok (.if_icmp .ge 35, 3) := by decide +kernel
theorem dX7_digest_188 : decode cX7_digest 188 = .ok (.iconst 0, 1) := by decide +kernel
theorem dX7_digest_189 : decode cX7_digest 189 = .ok (.istore_n 2, 1) := by decide +kernel
theorem dX7_digest_190 : decode cX7_digest 190 = .ok (.iload_n 2, 1) := by decide +kernel
theorem dX7_digest_191 : decode cX7_digest 191 = .ok (.iconst 5, 1) := by decide +kernel
theorem dX7_digest_192 : decode cX7_digest 192 = .ok (.if_icmp .ge 22, 3) := by decide +kernel
theorem dX7_digest_195 : decode cX7_digest 195 = .ok (.aload_n 0, 1) := by decide +kernel
theorem dX7_digest_196 : decode cX7_digest 196 = .ok (.aload_n 0, 1) := by decide +kernel
theorem dX7_digest_197 : decode cX7_digest 197 = .ok (.iload_n 1, 1) := by decide +kernel
theorem dX7_digest_198 : decode cX7_digest 198 = .ok (.iconst 1, 1) := by decide +kernel
theorem dX7_digest_199 : decode cX7_digest 199 = .ok (.isub, 1) := by decide +kernel
theorem dX7_digest_200 : decode cX7_digest 200 = .ok (.iload_n 1, 1) := by decide +kernel
theorem dX7_digest_201 : decode cX7_digest 201 = .ok (.iload_n 2, 1) := by decide +kernel
theorem dX7_digest_202 : decode cX7_digest 202 = .ok (.invokevirtual 197, 3) := by decide +kernel
theorem dX7_digest_205 : decode cX7_digest 205 = .ok (.invokevirtual 233, 3) := by decide +kernel
theorem dX7_digest_208 : decode cX7_digest 208 = .ok (.iinc 2 1, 3) := by decide +kernel
theorem dX7_digest_211 : decode cX7_digest 211 = .ok (.goto (-21), 3) := by decide +kernel
theorem dX7_digest_214 : decode cX7_digest 214 = .ok (.iinc 1 1, 3) := by decide +kernel
theorem dX7_digest_217 : decode cX7_digest 217 = .ok (.goto (-37), 3) := by decide +kernel
theorem dX7_digest_220 : decode cX7_digest 220 = .ok (.iconst 0, 1) := by decide +kernel
theorem dX7_digest_221 : decode cX7_digest 221 = .ok (.istore_n 1, 1) := by decide +kernel
theorem dX7_digest_222 : decode cX7_digest 222 = .ok (.iload_n 1, 1) := by decide +kernel
theorem dX7_digest_223 : decode cX7_digest 223 = .ok (.iconst 4, 1) := by decide +kernel
theorem dX7_digest_224 : decode cX7_digest 224 = .ok (.if_icmp .ge 18, 3) := by decide +kernel
theorem dX7_digest_227 : decode cX7_digest 227 = .ok (.aload_n 0, 1) := by decide +kernel
theorem dX7_digest_228 : decode cX7_digest 228 = .ok (.aload_n 0, 1) := by decide +kernel
theorem dX7_digest_229 : decode cX7_digest 229 = .ok (.iload_n 1, 1) := by decide +kernel
theorem dX7_digest_230 : decode cX7_digest 230 = .ok (.invokevirtual 204, 3) := by decide +kernel
theorem dX7_digest_233 : decode cX7_digest 233 = .ok (.invokevirtual 233, 3) := by decide +kernel
theorem dX7_digest_236 : decode cX7_digest 236 = .ok (.iinc 1 1, 3) := by decide +kernel
theorem dX7_digest_239 : decode cX7_digest 239 = .ok (.goto (-17), 3) := by decide +kernel
theorem dX7_digest_242 : decode cX7_digest 242 = .ok (.aload_n 0, 1) := by decide +kernel
theorem dX7_digest_243 : decode cX7_digest 243 = .ok (.aload_n 0, 1) := by decide +kernel
theorem dX7_digest_244 : decode cX7_digest 244 = .ok (.aload_n 0, 1) := by decide +kernel
theorem dX7_digest_245 : decode cX7_digest 245 = .ok (.getfield 210, 3) := by decide +kernel
theorem dX7_digest_248 : decode cX7_digest 248 = .ok (.invokevirtual 213, 3) := by decide +kernel
theorem dX7_digest_251 : decode cX7_digest 251 = .ok (.invokevirtual 233, 3) := by decide +kernel
theorem dX7_digest_254 : decode cX7_digest 254 = .ok (.aload_n 0, 1) := by decide +kernel
theorem dX7_digest_255 : decode cX7_digest 255 = .ok (.getfield 225, 3) := by decide +kernel
theorem dX7_digest_258 : decode cX7_digest 258 = .ok (.lreturn, 1) := by decide +kernel
theorem dJ6_valueOf_2dffe_0 : decode cJ6_valueOf_2dffe 0 = .ok (.iload_n 0, 1) := by decide +kernel
theorem dJ6_valueOf_2dffe_1 : decode cJ6_valueOf_2dffe 1 = .ok (.bipush (-128), 2) := by decide +kernel
theorem dJ6_valueOf_2dffe_3 : decode cJ6_valueOf_2dffe 3 = .ok (.if_icmp .lt 20, 3) := by decide +kernel
theorem dJ6_valueOf_2dffe_6 : decode cJ6_valueOf_2dffe 6 = .ok (.iload_n 0, 1) := by decide +kernel
theorem dJ6_valueOf_2dffe_7 : decode cJ6_valueOf_2dffe 7 = .ok (.getstatic 191, 3) := by decide +kernel
theorem dJ6_valueOf_2dffe_10 : decode cJ6_valueOf_2dffe 10 = .ok (.if_icmp .gt 13, 3) := by decide +kernel
theorem dJ6_valueOf_2dffe_13 : decode cJ6_valueOf_2dffe 13 = .ok (.getstatic 195, 3) := by decide +kernel
theorem dJ6_valueOf_2dffe_16 : decode cJ6_valueOf_2dffe 16 = .ok (.iload_n 0, 1) := by decide +kernel
theorem dJ6_valueOf_2dffe_17 : decode cJ6_valueOf_2dffe 17 = .ok (.sipush 128, 3) := by decide +kernel
theorem dJ6_valueOf_2dffe_20 : decode cJ6_valueOf_2dffe 20 = .ok (.iadd, 1) := by decide +kernel
theorem dJ6_valueOf_2dffe_21 : decode cJ6_valueOf_2dffe 21 = .ok (.aaload, 1) := by decide +kernel
theorem dJ6_valueOf_2dffe_22 : decode cJ6_valueOf_2dffe 22 = .ok (.areturn, 1) := by decide +kernel
theorem dJ6_valueOf_2dffe_23 : decode cJ6_valueOf_2dffe 23 = .ok (.new 1, 3) := by decide +kernel
theorem dJ6_valueOf_2dffe_26 : decode cJ6_valueOf_2dffe 26 = .ok (.dup, 1) := by decide +kernel
theorem dJ6_valueOf_2dffe_27 : decode cJ6_valueOf_2dffe 27 = .ok (.iload_n 0, 1) := by decide +kernel
theorem dJ6_valueOf_2dffe_28 : decode cJ6_valueOf_2dffe 28 = .ok (.invokespecial 199, 3) := by decide +kernel
theorem dJ6_valueOf_2dffe_31 : decode cJ6_valueOf_2dffe 31 = .ok (.areturn, 1) := by decide +kernel
theorem dJ6_init_d00df_0 : decode cJ6_init_d00df 0 = .ok (.aload_n 0, 1) := by decide +kernel
theorem dJ6_init_d00df_1 : decode cJ6_init_d00df 1 = .ok (.invokespecial 202, 3) := by decide +kernel
theorem dJ6_init_d00df_4 : decode cJ6_init_d00df 4 = .ok (.aload_n 0, 1) := by decide +kernel
theorem dJ6_init_d00df_5 : decode cJ6_init_d00df 5 = .ok (.iload_n 1, 1) := by decide +kernel
theorem dJ6_init_d00df_6 : decode cJ6_init_d00df 6 = .ok (.putfield 205, 3) := by decide +kernel
theorem dJ6_init_d00df_9 : decode cJ6_init_d00df 9 = .ok (.return_, 1) := by decide +kernel
theorem dJ6_intValue_8abf5_0 : decode cJ6_intValue_8abf5 0 = .ok (.aload_n 0, 1) := by decide +kernel
theorem dJ6_intValue_8abf5_1 : decode cJ6_intValue_8abf5 1 = .ok (.getfield 205, 3) := by decide +kernel
theorem dJ6_intValue_8abf5_4 : decode cJ6_intValue_8abf5 4 = .ok (.ireturn, 1) := by decide +kernel
theorem dJ9_max_7cf53_0 : decode cJ9_max_7cf53 0 = .ok (.iload_n 0, 1) := by decide +kernel
theorem dJ9_max_7cf53_1 : decode cJ9_max_7cf53 1 = .ok (.iload_n 1, 1) := by decide +kernel
theorem dJ9_max_7cf53_2 : decode cJ9_max_7cf53 2 = .ok (.if_icmp .lt 7, 3) := by decide +kernel
theorem dJ9_max_7cf53_5 : decode cJ9_max_7cf53 5 = .ok (.iload_n 0, 1) := by decide +kernel
theorem dJ9_max_7cf53_6 : decode cJ9_max_7cf53 6 = .ok (.goto 4, 3) := by decide +kernel
theorem dJ9_max_7cf53_9 : decode cJ9_max_7cf53 9 = .ok (.iload_n 1, 1) := by decide +kernel
theorem dJ9_max_7cf53_10 : decode cJ9_max_7cf53 10 = .ok (.ireturn, 1) := by decide +kernel
theorem dJ9_min_7cf53_0 : decode cJ9_min_7cf53 0 = .ok (.iload_n 0, 1) := by decide +kernel
theorem dJ9_min_7cf53_1 : decode cJ9_min_7cf53 1 = .ok (.iload_n 1, 1) := by decide +kernel
theorem dJ9_min_7cf53_2 : decode cJ9_min_7cf53 2 = .ok (.if_icmp .gt 7, 3) := by decide +kernel
theorem dJ9_min_7cf53_5 : decode cJ9_min_7cf53 5 = .ok (.iload_n 0, 1) := by decide +kernel
theorem dJ9_min_7cf53_6 : decode cJ9_min_7cf53 6 = .ok (.goto 4, 3) := by decide +kernel
theorem dJ9_min_7cf53_9 : decode cJ9_min_7cf53 9 = .ok (.iload_n 1, 1) := by decide +kernel
theorem dJ9_min_7cf53_10 : decode cJ9_min_7cf53 10 = .ok (.ireturn, 1) := by decide +kernel
theorem dJxd2413_init_da8c8_0 : decode cJxd2413_init_da8c8 0 = .ok (.aload_n 0, 1) := by decide +kernel
theorem dJxd2413_init_da8c8_1 : decode cJxd2413_init_da8c8 1 = .ok (.invokespecial 1, 3) := by decide +kernel
theorem dJxd2413_init_da8c8_4 : decode cJxd2413_init_da8c8 4 = .ok (.return_, 1) := by decide +kernel
theorem dJxa1e45_init_da8c8_0 : decode cJxa1e45_init_da8c8 0 = .ok (.aload_n 0, 1) := by decide +kernel
theorem dJxa1e45_init_da8c8_1 : decode cJxa1e45_init_da8c8 1 = .ok (.invokespecial 1, 3) := by decide +kernel
theorem dJxa1e45_init_da8c8_4 : decode cJxa1e45_init_da8c8 4 = .ok (.return_, 1) := by decide +kernel
theorem dJxc12de_init_da8c8_0 : decode cJxc12de_init_da8c8 0 = .ok (.aload_n 0, 1) := by decide +kernel
theorem dJxc12de_init_da8c8_1 : decode cJxc12de_init_da8c8 1 = .ok (.invokespecial 1, 3) := by decide +kernel
theorem dJxc12de_init_da8c8_4 : decode cJxc12de_init_da8c8 4 = .ok (.aload_n 0, 1) := by decide +kernel
theorem dJxc12de_init_da8c8_5 : decode cJxc12de_init_da8c8 5 = .ok (.iconst 0, 1) := by decide +kernel
theorem dJxc12de_init_da8c8_6 : decode cJxc12de_init_da8c8 6 = .ok (.putfield 7, 3) := by decide +kernel
theorem dJxc12de_init_da8c8_9 : decode cJxc12de_init_da8c8 9 = .ok (.return_, 1) := by decide +kernel
theorem dJx35411_init_45d68_0 : decode cJx35411_init_45d68 0 = .ok (.aload_n 0, 1) := by decide +kernel
theorem dJx35411_init_45d68_1 : decode cJx35411_init_45d68 1 = .ok (.aload_n 1, 1) := by decide +kernel
theorem dJx35411_init_45d68_2 : decode cJx35411_init_45d68 2 = .ok (.putfield 1, 3) := by decide +kernel
theorem dJx35411_init_45d68_5 : decode cJx35411_init_45d68 5 = .ok (.aload_n 0, 1) := by decide +kernel
theorem dJx35411_init_45d68_6 : decode cJx35411_init_45d68 6 = .ok (.invokespecial 7, 3) := by decide +kernel
theorem dJx35411_init_45d68_9 : decode cJx35411_init_45d68 9 = .ok (.aload_n 0, 1) := by decide +kernel
theorem dJx35411_init_45d68_10 : decode cJx35411_init_45d68 10 = .ok (.iconst (-1), 1) := by decide +kernel
theorem dJx35411_init_45d68_11 : decode cJx35411_init_45d68 11 = .ok (.putfield 13, 3) := by decide +kernel
theorem dJx35411_init_45d68_14 : decode cJx35411_init_45d68 14 = .ok (.aload_n 0, 1) := by decide +kernel
theorem dJx35411_init_45d68_15 : decode cJx35411_init_45d68 15 = .ok (.aload_n 0, 1) := by decide +kernel
theorem dJx35411_init_45d68_16 : decode cJx35411_init_45d68 16 = .ok (.getfield 1, 3) := by decide +kernel
theorem dJx35411_init_45d68_19 : decode cJx35411_init_45d68 19 = .ok (.getfield 17, 3) := by decide +kernel
theorem dJx35411_init_45d68_22 : decode cJx35411_init_45d68 22 = .ok (.putfield 22, 3) := by decide +kernel
theorem dJx35411_init_45d68_25 : decode cJx35411_init_45d68 25 = .ok (.return_, 1) := by decide +kernel
theorem dJx35411_hasNext_aae02_0 : decode cJx35411_hasNext_aae02 0 = .ok (.aload_n 0, 1) := by decide +kernel
theorem dJx35411_hasNext_aae02_1 : decode cJx35411_hasNext_aae02 1 = .ok (.getfield 25, 3) := by decide +kernel
theorem dJx35411_hasNext_aae02_4 : decode cJx35411_hasNext_aae02 4 = .ok (.aload_n 0, 1) := by decide +kernel
theorem dJx35411_hasNext_aae02_5 : decode cJx35411_hasNext_aae02 5 = .ok (.getfield 1, 3) := by decide +kernel
theorem dJx35411_hasNext_aae02_8 : decode cJx35411_hasNext_aae02 8 = .ok (.getfield 28, 3) := by decide +kernel
theorem dJx35411_hasNext_aae02_11 : decode cJx35411_hasNext_aae02 11 = .ok (.if_icmp .eq 7, 3) := by decide +kernel
theorem dJx35411_hasNext_aae02_14 : decode cJx35411_hasNext_aae02 14 = .ok (.iconst 1, 1) := by decide +kernel
theorem dJx35411_hasNext_aae02_15 : decode cJx35411_hasNext_aae02 15 = .ok (.goto 4, 3) := by decide +kernel
theorem dJx35411_hasNext_aae02_18 : decode cJx35411_hasNext_aae02 18 = .ok (.iconst 0, 1) := by decide +kernel
theorem dJx35411_hasNext_aae02_19 : decode cJx35411_hasNext_aae02 19 = .ok (.ireturn, 1) := by decide +kernel
theorem dJx35411_next_0502b_0 : decode cJx35411_next_0502b 0 = .ok (.aload_n 0, 1) := by decide +kernel
theorem dJx35411_next_0502b_1 : decode cJx35411_next_0502b 1 = .ok (.invokevirtual 31, 3) := by decide +kernel
theorem dJx35411_next_0502b_4 : decode cJx35411_next_0502b 4 = .ok (.aload_n 0, 1) := by decide +kernel
theorem dJx35411_next_0502b_5 : decode cJx35411_next_0502b 5 = .ok (.getfield 25, 3) := by decide +kernel
theorem dJx35411_next_0502b_8 : decode cJx35411_next_0502b 8 = .ok (.istore_n 1, 1) := by decide +kernel
theorem dJx35411_next_0502b_9 : decode cJx35411_next_0502b 9 = .ok (.iload_n 1, 1) := by decide +kernel
theorem dJx35411_next_0502b_10 : decode cJx35411_next_0502b 10 = .ok (.aload_n 0, 1) := by decide +kernel
theorem dJx35411_next_0502b_11 : decode cJx35411_next_0502b 11 = .ok (.getfield 1, 3) := by decide +kernel
theorem dJx35411_next_0502b_14 : decode cJx35411_next_0502b 14 = .ok (.getfield 28, 3) := by decide +kernel
theorem dJx35411_next_0502b_17 : decode cJx35411_next_0502b 17 = .ok (.if_icmp .lt 11, 3) := by decide +kernel
theorem dJx35411_next_0502b_20 : decode cJx35411_next_0502b 20 = .ok (.new 34, 3) := by decide +kernel
theorem dJx35411_next_0502b_23 : decode cJx35411_next_0502b 23 = .ok (.dup, 1) := by decide +kernel
theorem dJx35411_next_0502b_24 : decode cJx35411_next_0502b 24 = .ok (.invokespecial 36, 3) := by decide +kernel
theorem dJx35411_next_0502b_27 : decode cJx35411_next_0502b 27 = .ok (.athrow, 1) := by decide +kernel
theorem dJx35411_next_0502b_28 : decode cJx35411_next_0502b 28 = .ok (.aload_n 0, 1) := by decide +kernel
theorem dJx35411_next_0502b_29 : decode cJx35411_next_0502b 29 = .ok (.getfield 1, 3) := by decide +kernel
theorem dJx35411_next_0502b_32 : decode cJx35411_next_0502b 32 = .ok (.getfield 37, 3) := by decide +kernel
theorem dJx35411_next_0502b_35 : decode cJx35411_next_0502b 35 = .ok (.astore_n 2, 1) := by decide +kernel
theorem dJx35411_next_0502b_36 : decode cJx35411_next_0502b 36 = .ok (.iload_n 1, 1) := by decide +kernel
theorem dJx35411_next_0502b_37 : decode cJx35411_next_0502b 37 = .ok (.aload_n 2, 1) := by decide +kernel
theorem dJx35411_next_0502b_38 : decode cJx35411_next_0502b 38 = .ok (.arraylength, 1) := by decide +kernel
theorem dJx35411_next_0502b_39 : decode cJx35411_next_0502b 39 = .ok (.if_icmp .lt 11, 3) := by decide +kernel
theorem dJx35411_next_0502b_42 : decode cJx35411_next_0502b 42 = .ok (.new 41, 3) := by decide +kernel
theorem dJx35411_next_0502b_45 : decode cJx35411_next_0502b 45 = .ok (.dup, 1) := by decide +kernel
theorem dJx35411_next_0502b_46 : decode cJx35411_next_0502b 46 = .ok (.invokespecial 43, 3) := by decide +kernel
theorem dJx35411_next_0502b_49 : decode cJx35411_next_0502b 49 = .ok (.athrow, 1) := by decide +kernel
theorem dJx35411_next_0502b_50 : decode cJx35411_next_0502b 50 = .ok (.aload_n 0, 1) := by decide +kernel
theorem dJx35411_next_0502b_51 : decode cJx35411_next_0502b 51 = .ok (.iload_n 1, 1) := by decide +kernel
theorem dJx35411_next_0502b_52 : decode cJx35411_next_0502b 52 = .ok (.iconst 1, 1) := by decide +kernel
theorem dJx35411_next_0502b_53 : decode cJx35411_next_0502b 53 = .ok (.iadd, 1) := by decide +kernel
theorem dJx35411_next_0502b_54 : decode cJx35411_next_0502b 54 = .ok (.putfield 25, 3) := by decide +kernel
theorem dJx35411_next_0502b_57 : decode cJx35411_next_0502b 57 = .ok (.aload_n 2, 1) := by decide +kernel
theorem dJx35411_next_0502b_58 : decode cJx35411_next_0502b 58 = .ok (.aload_n 0, 1) := by decide +kernel
theorem dJx35411_next_0502b_59 : decode cJx35411_next_0502b 59 = .ok (.iload_n 1, 1) := by decide +kernel
theorem dJx35411_next_0502b_60 : decode cJx35411_next_0502b 60 = .ok (.dup_x1, 1) := by decide +kernel
theorem dJx35411_next_0502b_61 : decode cJx35411_next_0502b 61 = .ok (.putfield 13, 3) := by decide +kernel
theorem dJx35411_next_0502b_64 : decode cJx35411_next_0502b 64 = .ok (.aaload, 1) := by decide +kernel
theorem dJx35411_next_0502b_65 : decode cJx35411_next_0502b 65 = .ok (.areturn, 1) := by decide +kernel
theorem dJx35411_checkForComodification_da8c8_0 : decode cJx35411_checkForComodification_da8c8 0 = .ok (.aload_n 0, 1) := by decide +kernel
theorem dJx35411_checkForComodification_da8c8_1 : decode cJx35411_checkForComodification_da8c8 1 = .ok (.getfield 1, 3) := by decide +kernel
theorem dJx35411_checkForComodification_da8c8_4 : decode cJx35411_checkForComodification_da8c8 4 = .ok (.getfield 17, 3) := by decide +kernel
theorem dJx35411_checkForComodification_da8c8_7 : decode cJx35411_checkForComodification_da8c8 7 = .ok (.aload_n 0, 1) := by decide +kernel
theorem dJx35411_checkForComodification_da8c8_8 : decode cJx35411_checkForComodification_da8c8 8 = .ok (.getfield 22, 3) := by decide +kernel
theorem dJx35411_checkForComodification_da8c8_11 : decode cJx35411_checkForComodification_da8c8 11 = .ok (.if_icmp .eq 11, 3) := by decide +kernel
theorem dJx35411_checkForComodification_da8c8_14 : decode cJx35411_checkForComodification_da8c8 14 = .ok (.new 41, 3) := by decide +kernel
theorem dJx35411_checkForComodification_da8c8_17 : decode cJx35411_checkForComodification_da8c8 17 = .ok (.dup, 1) := by decide +kernel
theorem dJx35411_checkForComodification_da8c8_18 : decode cJx35411_checkForComodification_da8c8 18 = .ok (.invokespecial 43, 3) := by decide +kernel
theorem dJx35411_checkForComodification_da8c8_21 : decode cJx35411_checkForComodification_da8c8 21 = .ok (.athrow, 1) := by decide +kernel
theorem dJx35411_checkForComodification_da8c8_22 : decode cJx35411_checkForComodification_da8c8 22 = .ok (.return_, 1) := by decide +kernel
theorem dJx4a65c_init_da8c8_0 : decode cJx4a65c_init_da8c8 0 = .ok (.aload_n 0, 1) := by decide +kernel
theorem dJx4a65c_init_da8c8_1 : decode cJx4a65c_init_da8c8 1 = .ok (.invokespecial 1, 3) := by decide +kernel
theorem dJx4a65c_init_da8c8_4 : decode cJx4a65c_init_da8c8 4 = .ok (.aload_n 0, 1) := by decide +kernel
theorem dJx4a65c_init_da8c8_5 : decode cJx4a65c_init_da8c8 5 = .ok (.getstatic 39, 3) := by decide +kernel
theorem dJx4a65c_init_da8c8_8 : decode cJx4a65c_init_da8c8 8 = .ok (.putfield 9, 3) := by decide +kernel
theorem dJx4a65c_init_da8c8_11 : decode cJx4a65c_init_da8c8 11 = .ok (.return_, 1) := by decide +kernel
theorem dJx4a65c_grow_92f84_0 : decode cJx4a65c_grow_92f84 0 = .ok (.aload_n 0, 1) := by decide +kernel
theorem dJx4a65c_grow_92f84_1 : decode cJx4a65c_grow_92f84 1 = .ok (.getfield 9, 3) := by decide +kernel
theorem dJx4a65c_grow_92f84_4 : decode cJx4a65c_grow_92f84 4 = .ok (.arraylength, 1) := by decide +kernel
theorem dJx4a65c_grow_92f84_5 : decode cJx4a65c_grow_92f84 5 = .ok (.istore_n 2, 1) := by decide +kernel
theorem dJx4a65c_grow_92f84_6 : decode cJx4a65c_grow_92f84 6 = .ok (.iload_n 2, 1) := by decide +kernel
theorem dJx4a65c_grow_92f84_7 : decode cJx4a65c_grow_92f84 7 = .ok (.ifCond .gt 13, 3) := by decide +kernel
theorem dJx4a65c_grow_92f84_10 : decode cJx4a65c_grow_92f84 10 = .ok (.aload_n 0, 1) := by decide +kernel
theorem dJx4a65c_grow_92f84_11 : decode cJx4a65c_grow_92f84 11 = .ok (.getfield 9, 3) := by decide +kernel
theorem dJx4a65c_grow_92f84_14 : decode cJx4a65c_grow_92f84 14 = .ok (.getstatic 39, 3) := by decide +kernel
theorem dJx4a65c_grow_92f84_17 : decode cJx4a65c_grow_92f84 17 = .ok (.if_acmp .eq 28, 3) := by decide +kernel
theorem dJx4a65c_grow_92f84_20 : decode cJx4a65c_grow_92f84 20 = .ok (.iload_n 2, 1) := by decide +kernel
theorem dJx4a65c_grow_92f84_21 : decode cJx4a65c_grow_92f84 21 = .ok (.iload_n 1, 1) := by decide +kernel
theorem dJx4a65c_grow_92f84_22 : decode cJx4a65c_grow_92f84 22 = .ok (.iload_n 2, 1) := by decide +kernel
theorem dJx4a65c_grow_92f84_23 : decode cJx4a65c_grow_92f84 23 = .ok (.isub, 1) := by decide +kernel
theorem dJx4a65c_grow_92f84_24 : decode cJx4a65c_grow_92f84 24 = .ok (.iload_n 2, 1) := by decide +kernel
theorem dJx4a65c_grow_92f84_25 : decode cJx4a65c_grow_92f84 25 = .ok (.iconst 1, 1) := by decide +kernel
theorem dJx4a65c_grow_92f84_26 : decode cJx4a65c_grow_92f84 26 = .ok (.ishr, 1) := by decide +kernel
theorem dJx4a65c_grow_92f84_27 : decode cJx4a65c_grow_92f84 27 = .ok (.invokestatic 73, 3) := by decide +kernel
theorem dJx4a65c_grow_92f84_30 : decode cJx4a65c_grow_92f84 30 = .ok (.istore_n 3, 1) := by decide +kernel
theorem dJx4a65c_grow_92f84_31 : decode cJx4a65c_grow_92f84 31 = .ok (.aload_n 0, 1) := by decide +kernel
theorem dJx4a65c_grow_92f84_32 : decode cJx4a65c_grow_92f84 32 = .ok (.aload_n 0, 1) := by decide +kernel
theorem dJx4a65c_grow_92f84_33 : decode cJx4a65c_grow_92f84 33 = .ok (.getfield 9, 3) := by decide +kernel
theorem dJx4a65c_grow_92f84_36 : decode cJx4a65c_grow_92f84 36 = .ok (.iload_n 3, 1) := by decide +kernel
theorem dJx4a65c_grow_92f84_37 : decode cJx4a65c_grow_92f84 37 = .ok (.invokestatic 66, 3) := by decide +kernel
theorem dJx4a65c_grow_92f84_40 : decode cJx4a65c_grow_92f84 40 = .ok (.dup_x1, 1) := by decide +kernel
theorem dJx4a65c_grow_92f84_41 : decode cJx4a65c_grow_92f84 41 = .ok (.putfield 9, 3) := by decide +kernel
theorem dJx4a65c_grow_92f84_44 : decode cJx4a65c_grow_92f84 44 = .ok (.areturn, 1) := by decide +kernel
theorem dJx4a65c_grow_92f84_45 : decode cJx4a65c_grow_92f84 45 = .ok (.aload_n 0, 1) := by decide +kernel
theorem dJx4a65c_grow_92f84_46 : decode cJx4a65c_grow_92f84 46 = .ok (.bipush 10, 2) := by decide +kernel
theorem dJx4a65c_grow_92f84_48 : decode cJx4a65c_grow_92f84 48 = .ok (.iload_n 1, 1) := by decide +kernel
theorem dJx4a65c_grow_92f84_49 : decode cJx4a65c_grow_92f84 49 = .ok (.invokestatic 79, 3) := by decide +kernel
theorem dJx4a65c_grow_92f84_52 : decode cJx4a65c_grow_92f84 52 = .ok (.anewarray 7, 3) := by decide +kernel
theorem dJx4a65c_grow_92f84_55 : decode cJx4a65c_grow_92f84 55 = .ok (.dup_x1, 1) := by decide +kernel
theorem dJx4a65c_grow_92f84_56 : decode cJx4a65c_grow_92f84 56 = .ok (.putfield 9, 3) := by decide +kernel
theorem dJx4a65c_grow_92f84_59 : decode cJx4a65c_grow_92f84 59 = .ok (.areturn, 1) := by decide +kernel
theorem dJx4a65c_grow_d5877_0 : decode cJx4a65c_grow_d5877 0 = .ok (.aload_n 0, 1) := by decide +kernel
theorem dJx4a65c_grow_d5877_1 : decode cJx4a65c_grow_d5877 1 = .ok (.aload_n 0, 1) := by decide +kernel
theorem dJx4a65c_grow_d5877_2 : decode cJx4a65c_grow_d5877 2 = .ok (.getfield 48, 3) := by decide +kernel
theorem dJx4a65c_grow_d5877_5 : decode cJx4a65c_grow_d5877 5 = .ok (.iconst 1, 1) := by decide +kernel
theorem dJx4a65c_grow_d5877_6 : decode cJx4a65c_grow_d5877 6 = .ok (.iadd, 1) := by decide +kernel
theorem dJx4a65c_grow_d5877_7 : decode cJx4a65c_grow_d5877 7 = .ok (.invokevirtual 69, 3) := by decide +kernel
theorem dJx4a65c_grow_d5877_10 : decode cJx4a65c_grow_d5877 10 = .ok (.areturn, 1) := by decide +kernel
theorem dJx4a65c_size_8abf5_0 : decode cJx4a65c_size_8abf5 0 = .ok (.aload_n 0, 1) := by decide +kernel
theorem dJx4a65c_size_8abf5_1 : decode cJx4a65c_size_8abf5 1 = .ok (.getfield 48, 3) := by decide +kernel
theorem dJx4a65c_size_8abf5_4 : decode cJx4a65c_size_8abf5 4 = .ok (.ireturn, 1) := by decide +kernel
theorem dJx4a65c_elementData_915e3_0 : decode cJx4a65c_elementData_915e3 0 = .ok (.aload_n 0, 1) := by decide +kernel
theorem dJx4a65c_elementData_915e3_1 : decode cJx4a65c_elementData_915e3 1 = .ok (.getfield 9, 3) := by decide +kernel
theorem dJx4a65c_elementData_915e3_4 : decode cJx4a65c_elementData_915e3 4 = .ok (.iload_n 1, 1) := by decide +kernel
theorem dJx4a65c_elementData_915e3_5 : decode cJx4a65c_elementData_915e3 5 = .ok (.aaload, 1) := by decide +kernel
theorem dJx4a65c_elementData_915e3_6 : decode cJx4a65c_elementData_915e3 6 = .ok (.areturn, 1) := by decide +kernel
theorem dJx4a65c_get_915e3_0 : decode cJx4a65c_get_915e3 0 = .ok (.iload_n 1, 1) := by decide +kernel
theorem dJx4a65c_get_915e3_1 : decode cJx4a65c_get_915e3 1 = .ok (.aload_n 0, 1) := by decide +kernel
theorem dJx4a65c_get_915e3_2 : decode cJx4a65c_get_915e3 2 = .ok (.getfield 48, 3) := by decide +kernel
theorem dJx4a65c_get_915e3_5 : decode cJx4a65c_get_915e3 5 = .ok (.invokestatic 118, 3) := by decide +kernel
theorem dJx4a65c_get_915e3_8 : decode cJx4a65c_get_915e3 8 = .ok (.pop, 1) := by decide +kernel
theorem dJx4a65c_get_915e3_9 : decode cJx4a65c_get_915e3 9 = .ok (.aload_n 0, 1) := by decide +kernel
theorem dJx4a65c_get_915e3_10 : decode cJx4a65c_get_915e3 10 = .ok (.iload_n 1, 1) := by decide +kernel
theorem dJx4a65c_get_915e3_11 : decode cJx4a65c_get_915e3 11 = .ok (.invokevirtual 123, 3) := by decide +kernel
theorem dJx4a65c_get_915e3_14 : decode cJx4a65c_get_915e3 14 = .ok (.areturn, 1) := by decide +kernel
theorem dJx4a65c_add_72be8_0 : decode cJx4a65c_add_72be8 0 = .ok (.iload_n 3, 1) := by decide +kernel
theorem dJx4a65c_add_72be8_1 : decode cJx4a65c_add_72be8 1 = .ok (.aload_n 2, 1) := by decide +kernel
theorem dJx4a65c_add_72be8_2 : decode cJx4a65c_add_72be8 2 = .ok (.arraylength, 1) := by decide +kernel
theorem dJx4a65c_add_72be8_3 : decode cJx4a65c_add_72be8 3 = .ok (.if_icmp .ne 8, 3) := by decide +kernel
theorem dJx4a65c_add_72be8_6 : decode cJx4a65c_add_72be8 6 = .ok (.aload_n 0, 1) := by decide +kernel
theorem dJx4a65c_add_72be8_7 : decode cJx4a65c_add_72be8 7 = .ok (.invokevirtual 129, 3) := by decide +kernel
theorem dJx4a65c_add_72be8_10 : decode cJx4a65c_add_72be8 10 = .ok (.astore_n 2, 1) := by decide +kernel
theorem dJx4a65c_add_72be8_11 : decode cJx4a65c_add_72be8 11 = .ok (.aload_n 2, 1) := by decide +kernel
theorem dJx4a65c_add_72be8_12 : decode cJx4a65c_add_72be8 12 = .ok (.iload_n 3, 1) := by decide +kernel
theorem dJx4a65c_add_72be8_13 : decode cJx4a65c_add_72be8 13 = .ok (.aload_n 1, 1) := by decide +kernel
theorem dJx4a65c_add_72be8_14 : decode cJx4a65c_add_72be8 14 = .ok (.aastore, 1) := by decide +kernel
theorem dJx4a65c_add_72be8_15 : decode cJx4a65c_add_72be8 15 = .ok (.aload_n 0, 1) := by decide +kernel
theorem dJx4a65c_add_72be8_16 : decode cJx4a65c_add_72be8 16 = .ok (.iload_n 3, 1) := by decide +kernel
theorem dJx4a65c_add_72be8_17 : decode cJx4a65c_add_72be8 17 = .ok (.iconst 1, 1) := by decide +kernel
theorem dJx4a65c_add_72be8_18 : decode cJx4a65c_add_72be8 18 = .ok (.iadd, 1) := by decide +kernel
theorem dJx4a65c_add_72be8_19 : decode cJx4a65c_add_72be8 19 = .ok (.putfield 48, 3) := by decide +kernel
theorem dJx4a65c_add_72be8_22 : decode cJx4a65c_add_72be8 22 = .ok (.return_, 1) := by decide +kernel
theorem dJx4a65c_add_9ea2d_0 : decode cJx4a65c_add_9ea2d 0 = .ok (.aload_n 0, 1) := by decide +kernel
theorem dJx4a65c_add_9ea2d_1 : decode cJx4a65c_add_9ea2d 1 = .ok (.dup, 1) := by decide +kernel
theorem dJx4a65c_add_9ea2d_2 : decode cJx4a65c_add_9ea2d 2 = .ok (.getfield 63, 3) := by decide +kernel
theorem dJx4a65c_add_9ea2d_5 : decode cJx4a65c_add_9ea2d 5 = .ok (.iconst 1, 1) := by decide +kernel
theorem dJx4a65c_add_9ea2d_6 : decode cJx4a65c_add_9ea2d 6 = .ok (.iadd, 1) := by decide +kernel
theorem dJx4a65c_add_9ea2d_7 : decode cJx4a65c_add_9ea2d 7 = .ok (.putfield 63, 3) := by decide +kernel
theorem dJx4a65c_add_9ea2d_10 : decode cJx4a65c_add_9ea2d 10 = .ok (.aload_n 0, 1) := by decide +kernel
theorem dJx4a65c_add_9ea2d_11 : decode cJx4a65c_add_9ea2d 11 = .ok (.aload_n 1, 1) := by decide +kernel
theorem dJx4a65c_add_9ea2d_12 : decode cJx4a65c_add_9ea2d 12 = .ok (.aload_n 0, 1) := by decide +kernel
theorem dJx4a65c_add_9ea2d_13 : decode cJx4a65c_add_9ea2d 13 = .ok (.getfield 9, 3) := by decide +kernel
theorem dJx4a65c_add_9ea2d_16 : decode cJx4a65c_add_9ea2d 16 = .ok (.aload_n 0, 1) := by decide +kernel
theorem dJx4a65c_add_9ea2d_17 : decode cJx4a65c_add_9ea2d 17 = .ok (.getfield 48, 3) := by decide +kernel
theorem dJx4a65c_add_9ea2d_20 : decode cJx4a65c_add_9ea2d 20 = .ok (.invokevirtual 131, 3) := by decide +kernel
theorem dJx4a65c_add_9ea2d_23 : decode cJx4a65c_add_9ea2d 23 = .ok (.iconst 1, 1) := by decide +kernel
theorem dJx4a65c_add_9ea2d_24 : decode cJx4a65c_add_9ea2d 24 = .ok (.ireturn, 1) := by decide +kernel
theorem dJx4a65c_iterator_32c93_0 : decode cJx4a65c_iterator_32c93 0 = .ok (.new 267, 3) := by decide +kernel
theorem dJx4a65c_iterator_32c93_3 : decode cJx4a65c_iterator_32c93 3 = .ok (.dup, 1) := by decide +kernel
theorem dJx4a65c_iterator_32c93_4 : decode cJx4a65c_iterator_32c93 4 = .ok (.aload_n 0, 1) := by decide +kernel
theorem dJx4a65c_iterator_32c93_5 : decode cJx4a65c_iterator_32c93 5 = .ok (.invokespecial 269, 3) := by decide +kernel
theorem dJx4a65c_iterator_32c93_8 : decode cJx4a65c_iterator_32c93 8 = .ok (.areturn, 1) := by decide +kernel
theorem dJ7_sort_2022b_0 : decode cJ7_sort_2022b 0 = .ok (.aload_n 0, 1) := by decide +kernel
theorem dJ7_sort_2022b_1 : decode cJ7_sort_2022b 1 = .ok (.iconst 0, 1) := by decide +kernel
theorem dJ7_sort_2022b_2 : decode cJ7_sort_2022b 2 = .ok (.iconst 0, 1) := by decide +kernel
theorem dJ7_sort_2022b_3 : decode cJ7_sort_2022b 3 = .ok (.aload_n 0, 1) := by decide +kernel
theorem dJ7_sort_2022b_4 : decode cJ7_sort_2022b 4 = .ok (.arraylength, 1) := by decide +kernel
theorem dJ7_sort_2022b_5 : decode cJ7_sort_2022b 5 = .ok (.invokestatic 7, 3) := by decide +kernel
theorem dJ7_sort_2022b_8 : decode cJ7_sort_2022b 8 = .ok (.return_, 1) := by decide +kernel
theorem dJ7_copyOf_1904c_0 : decode cJ7_copyOf_1904c 0 = .ok (.aload_n 0, 1) := by decide +kernel
theorem dJ7_copyOf_1904c_1 : decode cJ7_copyOf_1904c 1 = .ok (.iload_n 1, 1) := by decide +kernel
theorem dJ7_copyOf_1904c_2 : decode cJ7_copyOf_1904c 2 = .ok (.aload_n 0, 1) := by decide +kernel
theorem dJ7_copyOf_1904c_3 : decode cJ7_copyOf_1904c 3 = .ok (.invokevirtual 86, 3) := by decide +kernel
theorem dJ7_copyOf_1904c_6 : decode cJ7_copyOf_1904c 6 = .ok (.invokestatic 300, 3) := by decide +kernel
theorem dJ7_copyOf_1904c_9 : decode cJ7_copyOf_1904c 9 = .ok (.areturn, 1) := by decide +kernel
theorem dJ7_copyOf_6403c_0 : decode cJ7_copyOf_6403c 0 = .ok (.aload_n 2, 1) := by decide +kernel
theorem dJ7_copyOf_6403c_1 : decode cJ7_copyOf_6403c 1 = .ok (.ldc 110, 2) := by decide +kernel
theorem dJ7_copyOf_6403c_3 : decode cJ7_copyOf_6403c 3 = .ok (.if_acmp .ne 10, 3) := by decide +kernel
theorem dJ7_copyOf_6403c_6 : decode cJ7_copyOf_6403c 6 = .ok (.iload_n 1, 1) := by decide +kernel
theorem dJ7_copyOf_6403c_7 : decode cJ7_copyOf_6403c 7 = .ok (.anewarray 2, 3) := by decide +kernel
theorem dJ7_copyOf_6403c_10 : decode cJ7_copyOf_6403c 10 = .ok (.goto 14, 3) := by decide +kernel
theorem dJ7_copyOf_6403c_13 : decode cJ7_copyOf_6403c 13 = .ok (.aload_n 2, 1) := by decide +kernel
theorem dJ7_copyOf_6403c_14 : decode cJ7_copyOf_6403c 14 = .ok (.invokevirtual 90, 3) := by decide +kernel
theorem dJ7_copyOf_6403c_17 : decode cJ7_copyOf_6403c 17 = .ok (.iload_n 1, 1) := by decide +kernel
theorem dJ7_copyOf_6403c_18 : decode cJ7_copyOf_6403c 18 = .ok (.invokestatic 95, 3) := by decide +kernel
theorem dJ7_copyOf_6403c_21 : decode cJ7_copyOf_6403c 21 = .ok (.checkcast 110, 3) := by decide +kernel
theorem dJ7_copyOf_6403c_24 : decode cJ7_copyOf_6403c 24 = .ok (.astore_n 3, 1) := by decide +kernel
theorem dJ7_copyOf_6403c_25 : decode cJ7_copyOf_6403c 25 = .ok (.aload_n 0, 1) := by decide +kernel
theorem dJ7_copyOf_6403c_26 : decode cJ7_copyOf_6403c 26 = .ok (.iconst 0, 1) := by decide +kernel
theorem dJ7_copyOf_6403c_27 : decode cJ7_copyOf_6403c 27 = .ok (.aload_n 3, 1) := by decide +kernel
theorem dJ7_copyOf_6403c_28 : decode cJ7_copyOf_6403c 28 = .ok (.iconst 0, 1) := by decide +kernel
theorem dJ7_copyOf_6403c_29 : decode cJ7_copyOf_6403c 29 = .ok (.aload_n 0, 1) := by decide +kernel
theorem dJ7_copyOf_6403c_30 : decode cJ7_copyOf_6403c 30 = .ok (.arraylength, 1) := by decide +kernel
theorem dJ7_copyOf_6403c_31 : decode cJ7_copyOf_6403c 31 = .ok (.iload_n 1, 1) := by decide +kernel
theorem dJ7_copyOf_6403c_32 : decode cJ7_copyOf_6403c 32 = .ok (.invokestatic 304, 3) := by decide +kernel
theorem dJ7_copyOf_6403c_35 : decode cJ7_copyOf_6403c 35 = .ok (.invokestatic 150, 3) := by decide +kernel
theorem dJ7_copyOf_6403c_38 : decode cJ7_copyOf_6403c 38 = .ok (.aload_n 3, 1) := by decide +kernel
theorem dJ7_copyOf_6403c_39 : decode cJ7_copyOf_6403c 39 = .ok (.areturn, 1) := by decide +kernel
theorem dJ7_copyOf_9075b_0 : decode cJ7_copyOf_9075b 0 = .ok (.iload_n 1, 1) := by decide +kernel
theorem dJ7_copyOf_9075b_1 : decode cJ7_copyOf_9075b 1 = .ok (.aload_n 0, 1) := by decide +kernel
theorem dJ7_copyOf_9075b_2 : decode cJ7_copyOf_9075b 2 = .ok (.arraylength, 1) := by decide +kernel
theorem dJ7_copyOf_9075b_3 : decode cJ7_copyOf_9075b 3 = .ok (.if_icmp .ne 11, 3) := by decide +kernel
theorem dJ7_copyOf_9075b_6 : decode cJ7_copyOf_9075b 6 = .ok (.aload_n 0, 1) := by decide +kernel
theorem dJ7_copyOf_9075b_7 : decode cJ7_copyOf_9075b 7 = .ok (.invokevirtual 310, 3) := by decide +kernel
theorem dJ7_copyOf_9075b_10 : decode cJ7_copyOf_9075b 10 = .ok (.checkcast 311, 3) := by decide +kernel
theorem dJ7_copyOf_9075b_13 : decode cJ7_copyOf_9075b 13 = .ok (.areturn, 1) := by decide +kernel
theorem dJ7_copyOf_9075b_14 : decode cJ7_copyOf_9075b 14 = .ok (.iload_n 1, 1) := by decide +kernel
theorem dJ7_copyOf_9075b_15 : decode cJ7_copyOf_9075b 15 = .ok (.newarray .byte, 2) := by decide +kernel
theorem dJ7_copyOf_9075b_17 : decode cJ7_copyOf_9075b 17 = .ok (.astore_n 2, 1) := by decide +kernel
theorem dJ7_copyOf_9075b_18 : decode cJ7_copyOf_9075b 18 = .ok (.aload_n 0, 1) := by decide +kernel
theorem dJ7_copyOf_9075b_19 : decode cJ7_copyOf_9075b 19 = .ok (.iconst 0, 1) := by decide +kernel
theorem dJ7_copyOf_9075b_20 : decode cJ7_copyOf_9075b 20 = .ok (.aload_n 2, 1) := by decide +kernel
theorem dJ7_copyOf_9075b_21 : decode cJ7_copyOf_9075b 21 = .ok (.iconst 0, 1) := by decide +kernel
theorem dJ7_copyOf_9075b_22 : decode cJ7_copyOf_9075b 22 = .ok (.aload_n 0, 1) := by decide +kernel
theorem dJ7_copyOf_9075b_23 : decode cJ7_copyOf_9075b 23 = .ok (.arraylength, 1) := by decide +kernel
theorem dJ7_copyOf_9075b_24 : decode cJ7_copyOf_9075b 24 = .ok (.iload_n 1, 1) := by decide +kernel
theorem dJ7_copyOf_9075b_25 : decode cJ7_copyOf_9075b 25 = .ok (.invokestatic 304, 3) := by decide +kernel
theorem dJ7_copyOf_9075b_28 : decode cJ7_copyOf_9075b 28 = .ok (.invokestatic 150, 3) := by decide +kernel
theorem dJ7_copyOf_9075b_31 : decode cJ7_copyOf_9075b 31 = .ok (.aload_n 2, 1) := by decide +kernel
theorem dJ7_copyOf_9075b_32 : decode cJ7_copyOf_9075b 32 = .ok (.areturn, 1) := by decide +kernel
theorem dJ7_copyOf_59c91_0 : decode cJ7_copyOf_59c91 0 = .ok (.iload_n 1, 1) := by decide +kernel
theorem dJ7_copyOf_59c91_1 : decode cJ7_copyOf_59c91 1 = .ok (.aload_n 0, 1) := by decide +kernel
theorem dJ7_copyOf_59c91_2 : decode cJ7_copyOf_59c91 2 = .ok (.arraylength, 1) := by decide +kernel
theorem dJ7_copyOf_59c91_3 : decode cJ7_copyOf_59c91 3 = .ok (.if_icmp .ne 11, 3) := by decide +kernel
theorem dJ7_copyOf_59c91_6 : decode cJ7_copyOf_59c91 6 = .ok (.aload_n 0, 1) := by decide +kernel
theorem dJ7_copyOf_59c91_7 : decode cJ7_copyOf_59c91 7 = .ok (.invokevirtual 316, 3) := by decide +kernel
theorem dJ7_copyOf_59c91_10 : decode cJ7_copyOf_59c91 10 = .ok (.checkcast 317, 3) := by decide +kernel
theorem dJ7_copyOf_59c91_13 : decode cJ7_copyOf_59c91 13 = .ok (.areturn, 1) := by decide +kernel
theorem dJ7_copyOf_59c91_14 : decode cJ7_copyOf_59c91 14 = .ok (.iload_n 1, 1) := by decide +kernel
theorem dJ7_copyOf_59c91_15 : decode cJ7_copyOf_59c91 15 = .ok (.newarray .int, 2) := by decide +kernel
theorem dJ7_copyOf_59c91_17 : decode cJ7_copyOf_59c91 17 = .ok (.astore_n 2, 1) := by decide +kernel
theorem dJ7_copyOf_59c91_18 : decode cJ7_copyOf_59c91 18 = .ok (.aload_n 0, 1) := by decide +kernel
theorem dJ7_copyOf_59c91_19 : decode cJ7_copyOf_59c91 19 = .ok (.iconst 0, 1) := by decide +kernel
theorem dJ7_copyOf_59c91_20 : decode cJ7_copyOf_59c91 20 = .ok (.aload_n 2, 1) := by decide +kernel
theorem dJ7_copyOf_59c91_21 : decode cJ7_copyOf_59c91 21 = .ok (.iconst 0, 1) := by decide +kernel
theorem dJ7_copyOf_59c91_22 : decode cJ7_copyOf_59c91 22 = .ok (.aload_n 0, 1) := by decide +kernel
theorem dJ7_copyOf_59c91_23 : decode cJ7_copyOf_59c91 23 = .ok (.arraylength, 1) := by decide +kernel
theorem dJ7_copyOf_59c91_24 : decode cJ7_copyOf_59c91 24 = .ok (.iload_n 1, 1) := by decide +kernel
theorem dJ7_copyOf_59c91_25 : decode cJ7_copyOf_59c91 25 = .ok (.invokestatic 304, 3) := by decide +kernel
theorem dJ7_copyOf_59c91_28 : decode cJ7_copyOf_59c91 28 = .ok (.invokestatic 150, 3) := by decide +kernel
theorem dJ7_copyOf_59c91_31 : decode cJ7_copyOf_59c91 31 = .ok (.aload_n 2, 1) := by decide +kernel
theorem dJ7_copyOf_59c91_32 : decode cJ7_copyOf_59c91 32 = .ok (.areturn, 1) := by decide +kernel
theorem dJ7_checkLength_df160_0 : decode cJ7_checkLength_df160 0 = .ok (.iload_n 1, 1) := by decide +kernel
theorem dJ7_checkLength_df160_1 : decode cJ7_checkLength_df160 1 = .ok (.iload_n 0, 1) := by decide +kernel
theorem dJ7_checkLength_df160_2 : decode cJ7_checkLength_df160 2 = .ok (.if_icmp .ge 35, 3) := by decide +kernel
theorem dJ7_checkLength_df160_5 : decode cJ7_checkLength_df160 5 = .ok (.new 43, 3) := by decide +kernel
theorem dJ7_checkLength_df160_8 : decode cJ7_checkLength_df160 8 = .ok (.dup, 1) := by decide +kernel
theorem dJ7_checkLength_df160_9 : decode cJ7_checkLength_df160 9 = .ok (.new 45, 3) := by decide +kernel
theorem dJ7_checkLength_df160_12 : decode cJ7_checkLength_df160 12 = .ok (.dup, 1) := by decide +kernel
theorem dJ7_checkLength_df160_13 : decode cJ7_checkLength_df160 13 = .ok (.invokespecial 47, 3) := by decide +kernel
theorem dJ7_checkLength_df160_16 : decode cJ7_checkLength_df160 16 = .ok (.iload_n 0, 1) := by decide +kernel
theorem dJ7_checkLength_df160_17 : decode cJ7_checkLength_df160 17 = .ok (.invokevirtual 54, 3) := by decide +kernel
theorem dJ7_checkLength_df160_20 : decode cJ7_checkLength_df160 20 = .ok (.ldc_w 337, 3) := by decide +kernel
theorem dJ7_checkLength_df160_23 : decode cJ7_checkLength_df160 23 = .ok (.invokevirtual 50, 3) := by decide +kernel
theorem dJ7_checkLength_df160_26 : decode cJ7_checkLength_df160 26 = .ok (.iload_n 1, 1) := by decide +kernel
theorem dJ7_checkLength_df160_27 : decode cJ7_checkLength_df160 27 = .ok (.invokevirtual 54, 3) := by decide +kernel
theorem dJ7_checkLength_df160_30 : decode cJ7_checkLength_df160 30 = .ok (.invokevirtual 61, 3) := by decide +kernel
theorem dJ7_checkLength_df160_33 : decode cJ7_checkLength_df160 33 = .ok (.invokespecial 65, 3) := by decide +kernel
theorem dJ7_checkLength_df160_36 : decode cJ7_checkLength_df160 36 = .ok (.athrow, 1) := by decide +kernel
theorem dJ7_checkLength_df160_37 : decode cJ7_checkLength_df160 37 = .ok (.return_, 1) := by decide +kernel
theorem dJ7_copyOfRange_39247_0 : decode cJ7_copyOfRange_39247 0 = .ok (.iload_n 1, 1) := by decide +kernel
theorem dJ7_copyOfRange_39247_1 : decode cJ7_copyOfRange_39247 1 = .ok (.ifCond .ne 9, 3) := by decide +kernel
theorem dJ7_copyOfRange_39247_4 : decode cJ7_copyOfRange_39247 4 = .ok (.iload_n 2, 1) := by decide +kernel
theorem dJ7_copyOfRange_39247_5 : decode cJ7_copyOfRange_39247 5 = .ok (.aload_n 0, 1) := by decide +kernel
theorem dJ7_copyOfRange_39247_6 : decode cJ7_copyOfRange_39247 6 = .ok (.arraylength, 1) := by decide +kernel
theorem dJ7_copyOfRange_39247_7 : decode cJ7_copyOfRange_39247 7 = .ok (.if_icmp .eq 10, 3) := by decide +kernel
theorem dJ7_copyOfRange_39247_10 : decode cJ7_copyOfRange_39247 10 = .ok (.aload_n 0, 1) := by decide +kernel
theorem dJ7_copyOfRange_39247_11 : decode cJ7_copyOfRange_39247 11 = .ok (.iload_n 1, 1) := by decide +kernel
theorem dJ7_copyOfRange_39247_12 : decode cJ7_copyOfRange_39247 12 = .ok (.iload_n 2, 1) := by decide +kernel
theorem dJ7_copyOfRange_39247_13 : decode cJ7_copyOfRange_39247 13 = .ok (.invokestatic 339, 3) := by decide +kernel
theorem dJ7_copyOfRange_39247_16 : decode cJ7_copyOfRange_39247 16 = .ok (.areturn, 1) := by decide +kernel
theorem dJ7_copyOfRange_39247_17 : decode cJ7_copyOfRange_39247 17 = .ok (.aload_n 0, 1) := by decide +kernel
theorem dJ7_copyOfRange_39247_18 : decode cJ7_copyOfRange_39247 18 = .ok (.invokevirtual 310, 3) := by decide +kernel
theorem dJ7_copyOfRange_39247_21 : decode cJ7_copyOfRange_39247 21 = .ok (.checkcast 311, 3) := by decide +kernel
theorem dJ7_copyOfRange_39247_24 : decode cJ7_copyOfRange_39247 24 = .ok (.areturn, 1) := by decide +kernel
theorem dJ7_copyOfRangeByte_39247_0 : decode cJ7_copyOfRangeByte_39247 0 = .ok (.iload_n 1, 1) := by decide +kernel
theorem dJ7_copyOfRangeByte_39247_1 : decode cJ7_copyOfRangeByte_39247 1 = .ok (.iload_n 2, 1) := by decide +kernel
theorem dJ7_copyOfRangeByte_39247_2 : decode cJ7_copyOfRangeByte_39247 2 = .ok (.invokestatic 343, 3) := by decide +kernel
theorem dJ7_copyOfRangeByte_39247_5 : decode cJ7_copyOfRangeByte_39247 5 = .ok (.iload_n 2, 1) := by decide +kernel
theorem dJ7_copyOfRangeByte_39247_6 : decode cJ7_copyOfRangeByte_39247 6 = .ok (.iload_n 1, 1) := by decide +kernel
theorem dJ7_copyOfRangeByte_39247_7 : decode cJ7_copyOfRangeByte_39247 7 = .ok (.isub, 1) := by decide +kernel
theorem dJ7_copyOfRangeByte_39247_8 : decode cJ7_copyOfRangeByte_39247 8 = .ok (.istore_n 3, 1) := by decide +kernel
theorem dJ7_copyOfRangeByte_39247_9 : decode cJ7_copyOfRangeByte_39247 9 = .ok (.iload_n 3, 1) := by decide +kernel
theorem dJ7_copyOfRangeByte_39247_10 : decode cJ7_copyOfRangeByte_39247 10 = .ok (.newarray .byte, 2) := by decide +kernel
theorem dJ7_copyOfRangeByte_39247_12 : decode cJ7_copyOfRangeByte_39247 12 = .ok (.astore 4, 2) := by decide +kernel
theorem dJ7_copyOfRangeByte_39247_14 : decode cJ7_copyOfRangeByte_39247 14 = .ok (.aload_n 0, 1) := by decide +kernel
theorem dJ7_copyOfRangeByte_39247_15 : decode cJ7_copyOfRangeByte_39247 15 = .ok (.iload_n 1, 1) := by decide +kernel
theorem dJ7_copyOfRangeByte_39247_16 : decode cJ7_copyOfRangeByte_39247 16 = .ok (.aload 4, 2) := by decide +kernel
theorem dJ7_copyOfRangeByte_39247_18 : decode cJ7_copyOfRangeByte_39247 18 = .ok (.iconst 0, 1) := by decide +kernel
theorem dJ7_copyOfRangeByte_39247_19 : decode cJ7_copyOfRangeByte_39247 19 = .ok (.aload_n 0, 1) := by decide +kernel
theorem dJ7_copyOfRangeByte_39247_20 : decode cJ7_copyOfRangeByte_39247 20 = .ok (.arraylength, 1) := by decide +kernel
theorem dJ7_copyOfRangeByte_39247_21 : decode cJ7_copyOfRangeByte_39247 21 = .ok (.iload_n 1, 1) := by decide +kernel
theorem dJ7_copyOfRangeByte_39247_22 : decode cJ7_copyOfRangeByte_39247 22 = .ok (.isub, 1) := by decide +kernel
theorem dJ7_copyOfRangeByte_39247_23 : decode cJ7_copyOfRangeByte_39247 23 = .ok (.iload_n 3, 1) := by decide +kernel
theorem dJ7_copyOfRangeByte_39247_24 : decode cJ7_copyOfRangeByte_39247 24 = .ok (.invokestatic 304, 3) := by decide +kernel
theorem dJ7_copyOfRangeByte_39247_27 : decode cJ7_copyOfRangeByte_39247 27 = .ok (.invokestatic 150, 3) := by decide +kernel
theorem dJ7_copyOfRangeByte_39247_30 : decode cJ7_copyOfRangeByte_39247 30 = .ok (.aload 4, 2) := by decide +kernel
theorem dJ7_copyOfRangeByte_39247_32 : decode cJ7_copyOfRangeByte_39247 32 = .ok (.areturn, 1) := by decide +kernel
theorem dJ7_copyOfRange_feecc_0 : decode cJ7_copyOfRange_feecc 0 = .ok (.iload_n 1, 1) := by decide +kernel
theorem dJ7_copyOfRange_feecc_1 : decode cJ7_copyOfRange_feecc 1 = .ok (.ifCond .ne 9, 3) := by decide +kernel
theorem dJ7_copyOfRange_feecc_4 : decode cJ7_copyOfRange_feecc 4 = .ok (.iload_n 2, 1) := by decide +kernel
theorem dJ7_copyOfRange_feecc_5 : decode cJ7_copyOfRange_feecc 5 = .ok (.aload_n 0, 1) := by decide +kernel
theorem dJ7_copyOfRange_feecc_6 : decode cJ7_copyOfRange_feecc 6 = .ok (.arraylength, 1) := by decide +kernel
theorem dJ7_copyOfRange_feecc_7 : decode cJ7_copyOfRange_feecc 7 = .ok (.if_icmp .eq 10, 3) := by decide +kernel
theorem dJ7_copyOfRange_feecc_10 : decode cJ7_copyOfRange_feecc 10 = .ok (.aload_n 0, 1) := by decide +kernel
theorem dJ7_copyOfRange_feecc_11 : decode cJ7_copyOfRange_feecc 11 = .ok (.iload_n 1, 1) := by decide +kernel
theorem dJ7_copyOfRange_feecc_12 : decode cJ7_copyOfRange_feecc 12 = .ok (.iload_n 2, 1) := by decide +kernel
theorem dJ7_copyOfRange_feecc_13 : decode cJ7_copyOfRange_feecc 13 = .ok (.invokestatic 351, 3) := by decide +kernel
theorem dJ7_copyOfRange_feecc_16 : decode cJ7_copyOfRange_feecc 16 = .ok (.areturn, 1) := by decide +kernel
theorem dJ7_copyOfRange_feecc_17 : decode cJ7_copyOfRange_feecc 17 = .ok (.aload_n 0, 1) := by decide +kernel
theorem dJ7_copyOfRange_feecc_18 : decode cJ7_copyOfRange_feecc 18 = .ok (.invokevirtual 316, 3) := by decide +kernel
theorem dJ7_copyOfRange_feecc_21 : decode cJ7_copyOfRange_feecc 21 = .ok (.checkcast 317, 3) := by decide +kernel
theorem dJ7_copyOfRange_feecc_24 : decode cJ7_copyOfRange_feecc 24 = .ok (.areturn, 1) := by decide +kernel
theorem dJ7_copyOfRangeInt_feecc_0 : decode cJ7_copyOfRangeInt_feecc 0 = .ok (.iload_n 1, 1) := by decide +kernel
theorem dJ7_copyOfRangeInt_feecc_1 : decode cJ7_copyOfRangeInt_feecc 1 = .ok (.iload_n 2, 1) := by decide +kernel
theorem dJ7_copyOfRangeInt_feecc_2 : decode cJ7_copyOfRangeInt_feecc 2 = .ok (.invokestatic 343, 3) := by decide +kernel
theorem dJ7_copyOfRangeInt_feecc_5 : decode cJ7_copyOfRangeInt_feecc 5 = .ok (.iload_n 2, 1) := by decide +kernel
theorem dJ7_copyOfRangeInt_feecc_6 : decode cJ7_copyOfRangeInt_feecc 6 = .ok (.iload_n 1, 1) := by decide +kernel
theorem dJ7_copyOfRangeInt_feecc_7 : decode cJ7_copyOfRangeInt_feecc 7 = .ok (.isub, 1) := by decide +kernel
theorem dJ7_copyOfRangeInt_feecc_8 : decode cJ7_copyOfRangeInt_feecc 8 = .ok (.istore_n 3, 1) := by decide +kernel
theorem dJ7_copyOfRangeInt_feecc_9 : decode cJ7_copyOfRangeInt_feecc 9 = .ok (.iload_n 3, 1) := by decide +kernel
theorem dJ7_copyOfRangeInt_feecc_10 : decode cJ7_copyOfRangeInt_feecc 10 = .ok (.newarray .int, 2) := by decide +kernel
theorem dJ7_copyOfRangeInt_feecc_12 : decode cJ7_copyOfRangeInt_feecc 12 = .ok (.astore 4, 2) := by decide +kernel
theorem dJ7_copyOfRangeInt_feecc_14 : decode cJ7_copyOfRangeInt_feecc 14 = .ok (.aload_n 0, 1) := by decide +kernel
theorem dJ7_copyOfRangeInt_feecc_15 : decode cJ7_copyOfRangeInt_feecc 15 = .ok (.iload_n 1, 1) := by decide +kernel
theorem dJ7_copyOfRangeInt_feecc_16 : decode cJ7_copyOfRangeInt_feecc 16 = .ok (.aload 4, 2) := by decide +kernel
theorem dJ7_copyOfRangeInt_feecc_18 : decode cJ7_copyOfRangeInt_feecc 18 = .ok (.iconst 0, 1) := by decide +kernel
theorem dJ7_copyOfRangeInt_feecc_19 : decode cJ7_copyOfRangeInt_feecc 19 = .ok (.aload_n 0, 1) := by decide +kernel
theorem dJ7_copyOfRangeInt_feecc_20 : decode cJ7_copyOfRangeInt_feecc 20 = .ok (.arraylength, 1) := by decide +kernel
theorem dJ7_copyOfRangeInt_feecc_21 : decode cJ7_copyOfRangeInt_feecc 21 = .ok (.iload_n 1, 1) := by decide +kernel
theorem dJ7_copyOfRangeInt_feecc_22 : decode cJ7_copyOfRangeInt_feecc 22 = .ok (.isub, 1) := by decide +kernel
theorem dJ7_copyOfRangeInt_feecc_23 : decode cJ7_copyOfRangeInt_feecc 23 = .ok (.iload_n 3, 1) := by decide +kernel
theorem dJ7_copyOfRangeInt_feecc_24 : decode cJ7_copyOfRangeInt_feecc 24 = .ok (.invokestatic 304, 3) := by decide +kernel
theorem dJ7_copyOfRangeInt_feecc_27 : decode cJ7_copyOfRangeInt_feecc 27 = .ok (.invokestatic 150, 3) := by decide +kernel
theorem dJ7_copyOfRangeInt_feecc_30 : decode cJ7_copyOfRangeInt_feecc 30 = .ok (.aload 4, 2) := by decide +kernel
theorem dJ7_copyOfRangeInt_feecc_32 : decode cJ7_copyOfRangeInt_feecc 32 = .ok (.areturn, 1) := by decide +kernel
theorem dX8_sort_0 : decode cX8_sort 0 = .ok (.iload_n 3, 1) := by decide +kernel
theorem dX8_sort_1 : decode cX8_sort 1 = .ok (.iload_n 2, 1) := by decide +kernel
theorem dX8_sort_2 : decode cX8_sort 2 = .ok (.isub, 1) := by decide +kernel
theorem dX8_sort_3 : decode cX8_sort 3 = .ok (.istore 4, 2) := by decide +kernel
theorem dX8_sort_5 : decode cX8_sort 5 = .ok (.iload_n 1, 1) := by decide +kernel
theorem dX8_sort_6 : decode cX8_sort 6 = .ok (.iconst 1, 1) := by decide +kernel
theorem dX8_sort_7 : decode cX8_sort 7 = .ok (.if_icmp .le 61, 3) := by decide +kernel
theorem dX8_sort_10 : decode cX8_sort 10 = .ok (.iload 4, 2) := by decide +kernel
theorem dX8_sort_12 : decode cX8_sort 12 = .ok (.sipush 4096, 3) := by decide +kernel
theorem dX8_sort_15 : decode cX8_sort 15 = .ok (.if_icmp .le 53, 3) := by decide +kernel
theorem dX8_sort_18 : decode cX8_sort 18 = .ok (.iload_n 1, 1) := by decide +kernel
theorem dX8_sort_19 : decode cX8_sort 19 = .ok (.iload 4, 2) := by decide +kernel
theorem dX8_sort_21 : decode cX8_sort 21 = .ok (.bipush 12, 2) := by decide +kernel
theorem dX8_sort_23 : decode cX8_sort 23 = .ok (.ishr, 1) := by decide +kernel
theorem dX8_sort_24 : decode cX8_sort 24 = .ok (.invokestatic 13, 3) := by decide +kernel
theorem dX8_sort_27 : decode cX8_sort 27 = .ok (.istore 5, 2) := by decide +kernel
theorem dX8_sort_29 : decode cX8_sort 29 = .ok (.iload 5, 2) := by decide +kernel
theorem dX8_sort_31 : decode cX8_sort 31 = .ok (.ifCond .ne 7, 3) := by decide +kernel
theorem dX8_sort_34 : decode cX8_sort 34 = .ok (.aconst_null, 1) := by decide +kernel
theorem dX8_sort_35 : decode cX8_sort 35 = .ok (.goto 7, 3) := by decide +kernel
theorem dX8_sort_38 : decode cX8_sort 38 = .ok (.iload 4, 2) := by decide +kernel
theorem dX8_sort_40 : decode cX8_sort 40 = .ok (.newarray .int, 2) := by decide +kernel
theorem dX8_sort_42 : decode cX8_sort 42 = .ok (.astore 6, 2) := by decide +kernel
theorem dX8_sort_44 : decode cX8_sort 44 = .ok (.new 17, 3) := by decide +kernel
theorem dX8_sort_47 : decode cX8_sort 47 = .ok (.dup, 1) := by decide +kernel
theorem dX8_sort_48 : decode cX8_sort 48 = .ok (.aconst_null, 1) := by decide +kernel
theorem dX8_sort_49 : decode cX8_sort 49 = .ok (.aload_n 0, 1) := by decide +kernel
theorem dX8_sort_50 : decode cX8_sort 50 = .ok (.aload 6, 2) := by decide +kernel
theorem dX8_sort_52 : decode cX8_sort 52 = .ok (.iload_n 2, 1) := by decide +kernel
theorem dX8_sort_53 : decode cX8_sort 53 = .ok (.iload 4, 2) := by decide +kernel
theorem dX8_sort_55 : decode cX8_sort 55 = .ok (.iload_n 2, 1) := by decide +kernel
theorem dX8_sort_56 : decode cX8_sort 56 = .ok (.iload 5, 2) := by decide +kernel
theorem dX8_sort_58 : decode cX8_sort 58 = .ok (.invokespecial 19, 3) := by decide +kernel
theorem dX8_sort_61 : decode cX8_sort 61 = .ok (.invokevirtual 22, 3) := by decide +kernel
theorem dX8_sort_64 : decode cX8_sort 64 = .ok (.pop, 1) := by decide +kernel
theorem dX8_sort_65 : decode cX8_sort 65 = .ok (.goto 11, 3) := by decide +kernel
theorem dX8_sort_68 : decode cX8_sort 68 = .ok (.aconst_null, 1) := by decide +kernel
theorem dX8_sort_69 : decode cX8_sort 69 = .ok (.aload_n 0, 1) := by decide +kernel
theorem dX8_sort_70 : decode cX8_sort 70 = .ok (.iconst 0, 1) := by decide +kernel
theorem dX8_sort_71 : decode cX8_sort 71 = .ok (.iload_n 2, 1) := by decide +kernel
theorem dX8_sort_72 : decode cX8_sort 72 = .ok (.iload_n 3, 1) := by decide +kernel
theorem dX8_sort_73 : decode cX8_sort 73 = .ok (.invokestatic 26, 3) := by decide +kernel
theorem dX8_sort_76 : decode cX8_sort 76 = .ok (.return_, 1) := by decide +kernel
theorem dX8_sort__0 : decode cX8_sort_ 0 = .ok (.iload 4, 2) := by decide +kernel
theorem dX8_sort__2 : decode cX8_sort_ 2 = .ok (.iconst 1, 1) := by decide +kernel
theorem dX8_sort__3 : decode cX8_sort_ 3 = .ok (.isub, 1) := by decide +kernel
theorem dX8_sort__4 : decode cX8_sort_ 4 = .ok (.istore 5, 2) := by decide +kernel
theorem dX8_sort__6 : decode cX8_sort_ 6 = .ok (.iload 4, 2) := by decide +kernel
theorem dX8_sort__8 : decode cX8_sort_ 8 = .ok (.iload_n 3, 1) := by decide +kernel
theorem dX8_sort__9 : decode cX8_sort_ 9 = .ok (.isub, 1) := by decide +kernel
theorem dX8_sort__10 : decode cX8_sort_ 10 = .ok (.istore 6, 2) := by decide +kernel
theorem dX8_sort__12 : decode cX8_sort_ 12 = .ok (.iload 6, 2) := by decide +kernel
theorem dX8_sort__14 : decode cX8_sort_ 14 = .ok (.bipush 65, 2) := by decide +kernel
theorem dX8_sort__16 : decode cX8_sort_ 16 = .ok (.iload_n 2, 1) := by decide +kernel
theorem dX8_sort__17 : decode cX8_sort_ 17 = .ok (.iadd, 1) := by decide +kernel
theorem dX8_sort__18 : decode cX8_sort_ 18 = .ok (.if_icmp .ge 28, 3) := by decide +kernel
theorem dX8_sort__21 : decode cX8_sort_ 21 = .ok (.iload_n 2, 1) := by decide +kernel
theorem dX8_sort__22 : decode cX8_sort_ 22 = .ok (.iconst 1, 1) := by decide +kernel
theorem dX8_sort__23 : decode cX8_sort_ 23 = .ok (.iand, 1) := by decide +kernel
theorem dX8_sort__24 : decode cX8_sort_ 24 = .ok (.ifCond .le 22, 3) := by decide +kernel
theorem dX8_sort__27 : decode cX8_sort_ 27 = .ok (.aload_n 1, 1) := by decide +kernel
theorem dX8_sort__28 : decode cX8_sort_ 28 = .ok (.iload_n 3, 1) := by decide +kernel
theorem dX8_sort__29 : decode cX8_sort_ 29 = .ok (.iload 4, 2) := by decide +kernel
theorem dX8_sort__31 : decode cX8_sort_ 31 = .ok (.iconst 3, 1) := by decide +kernel
theorem dX8_sort__32 : decode cX8_sort_ 32 = .ok (.iload 6, 2) := by decide +kernel
theorem dX8_sort__34 : decode cX8_sort_ 34 = .ok (.iconst 5, 1) := by decide +kernel
theorem dX8_sort__35 : decode cX8_sort_ 35 = .ok (.ishr, 1) := by decide +kernel
theorem dX8_sort__36 : decode cX8_sort_ 36 = .ok (.iconst 3, 1) := by decide +kernel
theorem dX8_sort__37 : decode cX8_sort_ 37 = .ok (.ishl, 1) := by decide +kernel
theorem dX8_sort__38 : decode cX8_sort_ 38 = .ok (.imul, 1) := by decide +kernel
theorem dX8_sort__39 : decode cX8_sort_ 39 = .ok (.isub, 1) := by decide +kernel
theorem dX8_sort__40 : decode cX8_sort_ 40 = .ok (.iload 4, 2) := by decide +kernel
theorem dX8_sort__42 : decode cX8_sort_ 42 = .ok (.invokestatic 30, 3) := by decide +kernel
theorem dX8_sort__45 : decode cX8_sort_ 45 = .ok (.return_, 1) := by decide +kernel
theorem dX8_sort__46 : decode cX8_sort_ 46 = .ok (.iload 6, 2) := by decide +kernel
theorem dX8_sort__48 : decode cX8_sort_ 48 = .ok (.bipush 44, 2) := by decide +kernel
theorem dX8_sort__50 : decode cX8_sort_ 50 = .ok (.if_icmp .ge 11, 3) := by decide +kernel
theorem dX8_sort__53 : decode cX8_sort_ 53 = .ok (.aload_n 1, 1) := by decide +kernel
theorem dX8_sort__54 : decode cX8_sort_ 54 = .ok (.iload_n 3, 1) := by decide +kernel
theorem dX8_sort__55 : decode cX8_sort_ 55 = .ok (.iload 4, 2) := by decide +kernel
theorem dX8_sort__57 : decode cX8_sort_ 57 = .ok (.invokestatic 34, 3) := by decide +kernel
theorem dX8_sort__60 : decode cX8_sort_ 60 = .ok (.return_, 1) := by decide +kernel
theorem dX8_sort__61 : decode cX8_sort_ 61 = .ok (.iload_n 2, 1) := by decide +kernel
theorem dX8_sort__62 : decode cX8_sort_ 62 = .ok (.ifCond .eq 17, 3) := by decide +kernel
theorem dX8_sort__65 : decode cX8_sort_ 65 = .ok (.iload 6, 2) := by decide +kernel
theorem dX8_sort__67 : decode cX8_sort_ 67 = .ok (.sipush 4096, 3) := by decide +kernel
theorem dX8_sort__70 : decode cX8_sort_ 70 = .ok (.if_icmp .le 21, 3) := by decide +kernel
theorem dX8_sort__73 : decode cX8_sort_ 73 = .ok (.iload_n 2, 1) := by decide +kernel
theorem dX8_sort__74 : decode cX8_sort_ 74 = .ok (.iconst 1, 1) := by decide +kernel
theorem dX8_sort__75 : decode cX8_sort_ 75 = .ok (.iand, 1) := by decide +kernel
theorem dX8_sort__76 : decode cX8_sort_ 76 = .ok (.ifCond .le 15, 3) := by decide +kernel
theorem dX8_sort__79 : decode cX8_sort_ 79 = .ok (.aload_n 0, 1) := by decide +kernel
theorem dX8_sort__80 : decode cX8_sort_ 80 = .ok (.aload_n 1, 1) := by decide +kernel
theorem dX8_sort__81 : decode cX8_sort_ 81 = .ok (.iload_n 3, 1) := by decide +kernel
theorem dX8_sort__82 : decode cX8_sort_ 82 = .ok (.iload 6, 2) := by decide +kernel
theorem dX8_sort__84 : decode cX8_sort_ 84 = .ok (.invokestatic 38, 3) := by decide +kernel
theorem dX8_sort__87 : decode cX8_sort_ 87 = .ok (.ifCond .eq 4, 3) := by decide +kernel
theorem dX8_sort__90 : decode cX8_sort_ 90 = .ok (.return_, 1) := by decide +kernel
theorem dX8_sort__91 : decode cX8_sort_ 91 = .ok (.iinc 2 6, 3) := by decide +kernel
theorem dX8_sort__94 : decode cX8_sort_ 94 = .ok (.iload_n 2, 1) := by decide +kernel
theorem dX8_sort__95 : decode cX8_sort_ 95 = .ok (.sipush 384, 3) := by decide +kernel
theorem dX8_sort__98 : decode cX8_sort_ 98 = .ok (.if_icmp .le 11, 3) := by decide +kernel
theorem dX8_sort__101 : decode cX8_sort_ 101 = .ok (.aload_n 1, 1) := by decide +kernel
theorem dX8_sort__102 : decode cX8_sort_ 102 = .ok (.iload_n 3, 1) := by decide +kernel
theorem dX8_sort__103 : decode cX8_sort_ 103 = .ok (.iload 4, 2) := by decide +kernel
theorem dX8_sort__105 : decode cX8_sort_ 105 = .ok (.invokestatic 42, 3) := by decide +kernel
theorem dX8_sort__108 : decode cX8_sort_ 108 = .ok (.return_, 1) := by decide +kernel
theorem dX8_sort__109 : decode cX8_sort_ 109 = .ok (.iload 6, 2) := by decide +kernel
theorem dX8_sort__111 : decode cX8_sort_ 111 = .ok (.iconst 3, 1) := by decide +kernel
theorem dX8_sort__112 : decode cX8_sort_ 112 = .ok (.ishr, 1) := by decide +kernel
theorem dX8_sort__113 : decode cX8_sort_ 113 = .ok (.iconst 3, 1) := by decide +kernel
theorem dX8_sort__114 : decode cX8_sort_ 114 = .ok (.imul, 1) := by decide +kernel
theorem dX8_sort__115 : decode cX8_sort_ 115 = .ok (.iconst 3, 1) := by decide +kernel
theorem dX8_sort__116 : decode cX8_sort_ 116 = .ok (.iadd, 1) := by decide +kernel
theorem dX8_sort__117 : decode cX8_sort_ 117 = .ok (.istore 7, 2) := by decide +kernel
theorem dX8_sort__119 : decode cX8_sort_ 119 = .ok (.iload_n 3, 1) := by decide +kernel
theorem dX8_sort__120 : decode cX8_sort_ 120 = .ok (.iload 7, 2) := by decide +kernel
theorem dX8_sort__122 : decode cX8_sort_ 122 = .ok (.iadd, 1) := by decide +kernel
theorem dX8_sort__123 : decode cX8_sort_ 123 = .ok (.istore 8, 2) := by decide +kernel
theorem dX8_sort__125 : decode cX8_sort_ 125 = .ok (.iload 5, 2) := by decide +kernel
theorem dX8_sort__127 : decode cX8_sort_ 127 = .ok (.iload 7, 2) := by decide +kernel
theorem dX8_sort__129 : decode cX8_sort_ 129 = .ok (.isub, 1) := by decide +kernel
theorem dX8_sort__130 : decode cX8_sort_ 130 = .ok (.istore 9, 2) := by decide +kernel
theorem dX8_sort__132 : decode cX8_sort_ 132 = .ok (.iload 8, 2) := by decide +kernel
theorem dX8_sort__134 : decode cX8_sort_ 134 = .ok (.iload 9, 2) := by decide +kernel
theorem dX8_sort__136 : decode cX8_sort_ 136 = .ok (.iadd, 1) := by decide +kernel
theorem dX8_sort__137 : decode cX8_sort_ 137 = .ok (.iconst 1, 1) := by decide +kernel
theorem dX8_sort__138 : decode cX8_sort_ 138 = .ok (.iushr, 1) := by decide +kernel
theorem dX8_sort__139 : decode cX8_sort_ 139 = .ok (.istore 10, 2) := by decide +kernel
theorem dX8_sort__141 : decode cX8_sort_ 141 = .ok (.iload 8, 2) := by decide +kernel
theorem dX8_sort__143 : decode cX8_sort_ 143 = .ok (.iload 10, 2) := by decide +kernel
theorem dX8_sort__145 : decode cX8_sort_ 145 = .ok (.iadd, 1) := by decide +kernel
theorem dX8_sort__146 : decode cX8_sort_ 146 = .ok (.iconst 1, 1) := by decide +kernel
theorem dX8_sort__147 : decode cX8_sort_ 147 = .ok (.iushr, 1) := by decide +kernel
theorem dX8_sort__148 : decode cX8_sort_ 148 = .ok (.istore 11, 2) := by decide +kernel
theorem dX8_sort__150 : decode cX8_sort_ 150 = .ok (.iload 10, 2) := by decide +kernel
theorem dX8_sort__152 : decode cX8_sort_ 152 = .ok (.iload 9, 2) := by decide +kernel
theorem dX8_sort__154 : decode cX8_sort_ 154 = .ok (.iadd, 1) := by decide +kernel
theorem dX8_sort__155 : decode cX8_sort_ 155 = .ok (.iconst 1, 1) := by decide +kernel
theorem dX8_sort__156 : decode cX8_sort_ 156 = .ok (.iushr, 1) := by decide +kernel
theorem dX8_sort__157 : decode cX8_sort_ 157 = .ok (.istore 12, 2) := by decide +kernel
theorem dX8_sort__159 : decode cX8_sort_ 159 = .ok (.aload_n 1, 1) := by decide +kernel
theorem dX8_sort__160 : decode cX8_sort_ 160 = .ok (.iload 10, 2) := by decide +kernel
theorem dX8_sort__162 : decode cX8_sort_ 162 = .ok (.iaload, 1) := by decide +kernel
theorem dX8_sort__163 : decode cX8_sort_ 163 = .ok (.istore 13, 2) := by decide +kernel
theorem dX8_sort__165 : decode cX8_sort_ 165 = .ok (.aload_n 1, 1) := by decide +kernel
theorem dX8_sort__166 : decode cX8_sort_ 166 = .ok (.iload 9, 2) := by decide +kernel
theorem dX8_sort__168 : decode cX8_sort_ 168 = .ok (.iaload, 1) := by decide +kernel
theorem dX8_sort__169 : decode cX8_sort_ 169 = .ok (.aload_n 1, 1) := by decide +kernel
theorem dX8_sort__170 : decode cX8_sort_ 170 = .ok (.iload 11, 2) := by decide +kernel
theorem dX8_sort__172 : decode cX8_sort_ 172 = .ok (.iaload, 1) := by decide +kernel
theorem dX8_sort__173 : decode cX8_sort_ 173 = .ok (.if_icmp .ge 23, 3) := by decide +kernel
theorem dX8_sort__176 : decode cX8_sort_ 176 = .ok (.aload_n 1, 1) := by decide +kernel
theorem dX8_sort__177 : decode cX8_sort_ 177 = .ok (.iload 9, 2) := by decide +kernel
theorem dX8_sort__179 : decode cX8_sort_ 179 = .ok (.iaload, 1) := by decide +kernel
theorem dX8_sort__180 : decode cX8_sort_ 180 = .ok (.istore 14, 2) := by decide +kernel
theorem dX8_sort__182 : decode cX8_sort_ 182 = .ok (.aload_n 1, 1) := by decide +kernel
theorem dX8_sort__183 : decode cX8_sort_ 183 = .ok (.iload 9, 2) := by decide +kernel
theorem dX8_sort__185 : decode cX8_sort_ 185 = .ok (.aload_n 1, 1) := by decide +kernel
theorem dX8_sort__186 : decode cX8_sort_ 186 = .ok (.iload 11, 2) := by decide +kernel
theorem dX8_sort__188 : decode cX8_sort_ 188 = .ok (.iaload, 1) := by decide +kernel
theorem dX8_sort__189 : decode cX8_sort_ 189 = .ok (.iastore, 1) := by decide +kernel
theorem dX8_sort__190 : decode cX8_sort_ 190 = .ok (.aload_n 1, 1) := by decide +kernel
theorem dX8_sort__191 : decode cX8_sort_ 191 = .ok (.iload 11, 2) := by decide +kernel
theorem dX8_sort__193 : decode cX8_sort_ 193 = .ok (.iload 14, 2) := by decide +kernel
theorem dX8_sort__195 : decode cX8_sort_ 195 = .ok (.iastore, 1) := by decide +kernel
theorem dX8_sort__196 : decode cX8_sort_ 196 = .ok (.aload_n 1, 1) := by decide +kernel
theorem dX8_sort__197 : decode cX8_sort_ 197 = .ok (.iload 12, 2) := by decide +kernel
theorem dX8_sort__199 : decode cX8_sort_ 199 = .ok (.iaload, 1) := by decide +kernel
theorem dX8_sort__200 : decode cX8_sort_ 200 = .ok (.aload_n 1, 1) := by decide +kernel
theorem dX8_sort__201 : decode cX8_sort_ 201 = .ok (.iload 8, 2) := by decide +kernel
theorem dX8_sort__203 : decode cX8_sort_ 203 = .ok (.iaload, 1) := by decide +kernel
theorem dX8_sort__204 : decode cX8_sort_ 204 = .ok (.if_icmp .ge 23, 3) := by decide +kernel
theorem dX8_sort__207 : decode cX8_sort_ 207 = .ok (.aload_n 1, 1) := by decide +kernel
theorem dX8_sort__208 : decode cX8_sort_ 208 = .ok (.iload 12, 2) := by decide +kernel
theorem dX8_sort__210 : decode cX8_sort_ 210 = .ok (.iaload, 1) := by decide +kernel
theorem dX8_sort__211 : decode cX8_sort_ 211 = .ok (.istore 14, 2) := by decide +kernel
theorem dX8_sort__213 : decode cX8_sort_ 213 = .ok (.aload_n 1, 1) := by decide +kernel
theorem dX8_sort__214 : decode cX8_sort_ 214 = .ok (.iload 12, 2) := by decide +kernel
theorem dX8_sort__216 : decode cX8_sort_ 216 = .ok (.aload_n 1, 1) := by decide +kernel
theorem dX8_sort__217 : decode cX8_sort_ 217 = .ok (.iload 8, 2) := by decide +kernel
theorem dX8_sort__219 : decode cX8_sort_ 219 = .ok (.iaload, 1) := by decide +kernel
theorem dX8_sort__220 : decode cX8_sort_ 220 = .ok (.iastore, 1) := by decide +kernel
theorem dX8_sort__221 : decode cX8_sort_ 221 = .ok (.aload_n 1, 1) := by decide +kernel
theorem dX8_sort__222 : decode cX8_sort_ 222 = .ok (.iload 8, 2) := by decide +kernel
theorem dX8_sort__224 : decode cX8_sort_ 224 = .ok (.iload 14, 2) := by decide +kernel
theorem dX8_sort__226 : decode cX8_sort_ 226 = .ok (.iastore, 1) := by decide +kernel
theorem dX8_sort__227 : decode cX8_sort_ 227 = .ok (.aload_n 1, 1) := by decide +kernel
theorem dX8_sort__228 : decode cX8_sort_ 228 = .ok (.iload 9, 2) := by decide +kernel
theorem dX8_sort__230 : decode cX8_sort_ 230 = .ok (.iaload, 1) := by decide +kernel
theorem dX8_sort__231 : decode cX8_sort_ 231 = .ok (.aload_n 1, 1) := by decide +kernel
theorem dX8_sort__232 : decode cX8_sort_ 232 = .ok (.iload 12, 2) := by decide +kernel
theorem dX8_sort__234 : decode cX8_sort_ 234 = .ok (.iaload, 1) := by decide +kernel
theorem dX8_sort__235 : decode cX8_sort_ 235 = .ok (.if_icmp .ge 23, 3) := by decide +kernel
theorem dX8_sort__238 : decode cX8_sort_ 238 = .ok (.aload_n 1, 1) := by decide +kernel
theorem dX8_sort__239 : decode cX8_sort_ 239 = .ok (.iload 9, 2) := by decide +kernel
theorem dX8_sort__241 : decode cX8_sort_ 241 = .ok (.iaload, 1) := by decide +kernel
theorem dX8_sort__242 : decode cX8_sort_ 242 = .ok (.istore 14, 2) := by decide +kernel
theorem dX8_sort__244 : decode cX8_sort_ 244 = .ok (.aload_n 1, 1) := by decide +kernel
theorem dX8_sort__245 : decode cX8_sort_ 245 = .ok (.iload 9, 2) := by decide +kernel
theorem dX8_sort__247 : decode cX8_sort_ 247 = .ok (.aload_n 1, 1) := by decide +kernel
theorem dX8_sort__248 : decode cX8_sort_ 248 = .ok (.iload 12, 2) := by decide +kernel
theorem dX8_sort__250 : decode cX8_sort_ 250 = .ok (.iaload, 1) := by decide +kernel
theorem dX8_sort__251 : decode cX8_sort_ 251 = .ok (.iastore, 1) := by decide +kernel
theorem dX8_sort__252 : decode cX8_sort_ 252 = .ok (.aload_n 1, 1) := by decide +kernel
theorem dX8_sort__253 : decode cX8_sort_ 253 = .ok (.iload 12, 2) := by decide +kernel
theorem dX8_sort__255 : decode cX8_sort_ 255 = .ok (.iload 14, 2) := by decide +kernel
theorem dX8_sort__257 : decode cX8_sort_ 257 = .ok (.iastore, 1) := by decide +kernel
theorem dX8_sort__258 : decode cX8_sort_ 258 = .ok (.aload_n 1, 1) := by decide +kernel
theorem dX8_sort__259 : decode cX8_sort_ 259 = .ok (.iload 11, 2) := by decide +kernel
theorem dX8_sort__261 : decode cX8_sort_ 261 = .ok (.iaload, 1) := by decide +kernel
theorem dX8_sort__262 : decode cX8_sort_ 262 = .ok (.aload_n 1, 1) := by decide +kernel
theorem dX8_sort__263 : decode cX8_sort_ 263 = .ok (.iload 8, 2) := by decide +kernel
theorem dX8_sort__265 : decode cX8_sort_ 265 = .ok (.iaload, 1) := by decide +kernel
theorem dX8_sort__266 : decode cX8_sort_ 266 = .ok (.if_icmp .ge 23, 3) := by decide +kernel
theorem dX8_sort__269 : decode cX8_sort_ 269 = .ok (.aload_n 1, 1) := by decide +kernel
theorem dX8_sort__270 : decode cX8_sort_ 270 = .ok (.iload 11, 2) := by decide +kernel
theorem dX8_sort__272 : decode cX8_sort_ 272 = .ok (.iaload, 1) := by decide +kernel
theorem dX8_sort__273 : decode cX8_sort_ 273 = .ok (.istore 14, 2) := by decide +kernel
theorem dX8_sort__275 : decode cX8_sort_ 275 = .ok (.aload_n 1, 1) := by decide +kernel
theorem dX8_sort__276 : decode cX8_sort_ 276 = .ok (.iload 11, 2) := by decide +kernel
theorem dX8_sort__278 : decode cX8_sort_ 278 = .ok (.aload_n 1, 1) := by decide +kernel
theorem dX8_sort__279 : decode cX8_sort_ 279 = .ok (.iload 8, 2) := by decide +kernel
theorem dX8_sort__281 : decode cX8_sort_ 281 = .ok (.iaload, 1) := by decide +kernel
theorem dX8_sort__282 : decode cX8_sort_ 282 = .ok (.iastore, 1) := by decide +kernel
theorem dX8_sort__283 : decode cX8_sort_ 283 = .ok (.aload_n 1, 1) := by decide +kernel
theorem dX8_sort__284 : decode cX8_sort_ 284 = .ok (.iload 8, 2) := by decide +kernel
theorem dX8_sort__286 : decode cX8_sort_ 286 = .ok (.iload 14, 2) := by decide +kernel
theorem dX8_sort__288 : decode cX8_sort_ 288 = .ok (.iastore, 1) := by decide +kernel
theorem dX8_sort__289 : decode cX8_sort_ 289 = .ok (.aload_n 1, 1) := by decide +kernel
theorem dX8_sort__290 : decode cX8_sort_ 290 = .ok (.iload 12, 2) := by decide +kernel
theorem dX8_sort__292 : decode cX8_sort_ 292 = .ok (.iaload, 1) := by decide +kernel
theorem dX8_sort__293 : decode cX8_sort_ 293 = .ok (.aload_n 1, 1) := by decide +kernel
theorem dX8_sort__294 : decode cX8_sort_ 294 = .ok (.iload 11, 2) := by decide +kernel
theorem dX8_sort__296 : decode cX8_sort_ 296 = .ok (.iaload, 1) := by decide +kernel
theorem dX8_sort__297 : decode cX8_sort_ 297 = .ok (.if_icmp .ge 23, 3) := by decide +kernel
theorem dX8_sort__300 : decode cX8_sort_ 300 = .ok (.aload_n 1, 1) := by decide +kernel
theorem dX8_sort__301 : decode cX8_sort_ 301 = .ok (.iload 12, 2) := by decide +kernel
theorem dX8_sort__303 : decode cX8_sort_ 303 = .ok (.iaload, 1) := by decide +kernel
theorem dX8_sort__304 : decode cX8_sort_ 304 = .ok (.istore 14, 2) := by decide +kernel
theorem dX8_sort__306 : decode cX8_sort_ 306 = .ok (.aload_n 1, 1) := by decide +kernel
theorem dX8_sort__307 : decode cX8_sort_ 307 = .ok (.iload 12, 2) := by decide +kernel
theorem dX8_sort__309 : decode cX8_sort_ 309 = .ok (.aload_n 1, 1) := by decide +kernel
theorem dX8_sort__310 : decode cX8_sort_ 310 = .ok (.iload 11, 2) := by decide +kernel
theorem dX8_sort__312 : decode cX8_sort_ 312 = .ok (.iaload, 1) := by decide +kernel
theorem dX8_sort__313 : decode cX8_sort_ 313 = .ok (.iastore, 1) := by decide +kernel
theorem dX8_sort__314 : decode cX8_sort_ 314 = .ok (.aload_n 1, 1) := by decide +kernel
theorem dX8_sort__315 : decode cX8_sort_ 315 = .ok (.iload 11, 2) := by decide +kernel
theorem dX8_sort__317 : decode cX8_sort_ 317 = .ok (.iload 14, 2) := by decide +kernel
theorem dX8_sort__319 : decode cX8_sort_ 319 = .ok (.iastore, 1) := by decide +kernel
theorem dX8_sort__320 : decode cX8_sort_ 320 = .ok (.iload 13, 2) := by decide +kernel
theorem dX8_sort__322 : decode cX8_sort_ 322 = .ok (.aload_n 1, 1) := by decide +kernel
theorem dX8_sort__323 : decode cX8_sort_ 323 = .ok (.iload 11, 2) := by decide +kernel
theorem dX8_sort__325 : decode cX8_sort_ 325 = .ok (.iaload, 1) := by decide +kernel
theorem dX8_sort__326 : decode cX8_sort_ 326 = .ok (.if_icmp .ge 54, 3) := by decide +kernel
theorem dX8_sort__329 : decode cX8_sort_ 329 = .ok (.iload 13, 2) := by decide +kernel
theorem dX8_sort__331 : decode cX8_sort_ 331 = .ok (.aload_n 1, 1) := by decide +kernel
theorem dX8_sort__332 : decode cX8_sort_ 332 = .ok (.iload 8, 2) := by decide +kernel
theorem dX8_sort__334 : decode cX8_sort_ 334 = .ok (.iaload, 1) := by decide +kernel
theorem dX8_sort__335 : decode cX8_sort_ 335 = .ok (.if_icmp .ge 28, 3) := by decide +kernel
theorem dX8_sort__338 : decode cX8_sort_ 338 = .ok (.aload_n 1, 1) := by decide +kernel
theorem dX8_sort__339 : decode cX8_sort_ 339 = .ok (.iload 10, 2) := by decide +kernel
theorem dX8_sort__341 : decode cX8_sort_ 341 = .ok (.aload_n 1, 1) := by decide +kernel
theorem dX8_sort__342 : decode cX8_sort_ 342 = .ok (.iload 11, 2) := by decide +kernel
theorem dX8_sort__344 : decode cX8_sort_ 344 = .ok (.iaload, 1) := by decide +kernel
theorem dX8_sort__345 : decode cX8_sort_ 345 = .ok (.iastore, 1) := by decide +kernel
theorem dX8_sort__346 : decode cX8_sort_ 346 = .ok (.aload_n 1, 1) := by decide +kernel
theorem dX8_sort__347 : decode cX8_sort_ 347 = .ok (.iload 11, 2) := by decide +kernel
theorem dX8_sort__349 : decode cX8_sort_ 349 = .ok (.aload_n 1, 1) := by decide +kernel
theorem dX8_sort__350 : decode cX8_sort_ 350 = .ok (.iload 8, 2) := by decide +kernel
theorem dX8_sort__352 : decode cX8_sort_ 352 = .ok (.iaload, 1) := by decide +kernel
theorem dX8_sort__353 : decode cX8_sort_ 353 = .ok (.iastore, 1) := by decide +kernel
theorem dX8_sort__354 : decode cX8_sort_ 354 = .ok (.aload_n 1, 1) := by decide +kernel
theorem dX8_sort__355 : decode cX8_sort_ 355 = .ok (.iload 8, 2) := by decide +kernel
theorem dX8_sort__357 : decode cX8_sort_ 357 = .ok (.iload 13, 2) := by decide +kernel
theorem dX8_sort__359 : decode cX8_sort_ 359 = .ok (.iastore, 1) := by decide +kernel
theorem dX8_sort__360 : decode cX8_sort_ 360 = .ok (.goto 77, 3) := by decide +kernel
theorem dX8_sort__363 : decode cX8_sort_ 363 = .ok (.aload_n 1, 1) := by decide +kernel
theorem dX8_sort__364 : decode cX8_sort_ 364 = .ok (.iload 10, 2) := by decide +kernel
theorem dX8_sort__366 : decode cX8_sort_ 366 = .ok (.aload_n 1, 1) := by decide +kernel
theorem dX8_sort__367 : decode cX8_sort_ 367 = .ok (.iload 11, 2) := by decide +kernel
theorem dX8_sort__369 : decode cX8_sort_ 369 = .ok (.iaload, 1) := by decide +kernel
theorem dX8_sort__370 : decode cX8_sort_ 370 = .ok (.iastore, 1) := by decide +kernel
theorem dX8_sort__371 : decode cX8_sort_ 371 = .ok (.aload_n 1, 1) := by decide +kernel
theorem dX8_sort__372 : decode cX8_sort_ 372 = .ok (.iload 11, 2) := by decide +kernel
theorem dX8_sort__374 : decode cX8_sort_ 374 = .ok (.iload 13, 2) := by decide +kernel
theorem dX8_sort__376 : decode cX8_sort_ 376 = .ok (.iastore, 1) := by decide +kernel
theorem dX8_sort__377 : decode cX8_sort_ 377 = .ok (.goto 60, 3) := by decide +kernel
theorem dX8_sort__380 : decode cX8_sort_ 380 = .ok (.iload 13, 2) := by decide +kernel
theorem dX8_sort__382 : decode cX8_sort_ 382 = .ok (.aload_n 1, 1) := by decide +kernel
theorem dX8_sort__383 : decode cX8_sort_ 383 = .ok (.iload 12, 2) := by decide +kernel
theorem dX8_sort__385 : decode cX8_sort_ 385 = .ok (.iaload, 1) := by decide +kernel
theorem dX8_sort__386 : decode cX8_sort_ 386 = .ok (.if_icmp .le 51, 3) := by decide +kernel
theorem dX8_sort__389 : decode cX8_sort_ 389 = .ok (.iload 13, 2) := by decide +kernel
theorem dX8_sort__391 : decode cX8_sort_ 391 = .ok (.aload_n 1, 1) := by decide +kernel
theorem dX8_sort__392 : decode cX8_sort_ 392 = .ok (.iload 9, 2) := by decide +kernel
theorem dX8_sort__394 : decode cX8_sort_ 394 = .ok (.iaload, 1) := by decide +kernel
theorem dX8_sort__395 : decode cX8_sort_ 395 = .ok (.if_icmp .le 28, 3) := by decide +kernel
theorem dX8_sort__398 : decode cX8_sort_ 398 = .ok (.aload_n 1, 1) := by decide +kernel
theorem dX8_sort__399 : decode cX8_sort_ 399 = .ok (.iload 10, 2) := by decide +kernel
theorem dX8_sort__401 : decode cX8_sort_ 401 = .ok (.aload_n 1, 1) := by decide +kernel
theorem dX8_sort__402 : decode cX8_sort_ 402 = .ok (.iload 12, 2) := by decide +kernel
theorem dX8_sort__404 : decode cX8_sort_ 404 = .ok (.iaload, 1) := by decide +kernel
theorem dX8_sort__405 : decode cX8_sort_ 405 = .ok (.iastore, 1) := by decide +kernel
theorem dX8_sort__406 : decode cX8_sort_ 406 = .ok (.aload_n 1, 1) := by decide +kernel
theorem dX8_sort__407 : decode cX8_sort_ 407 = .ok (.iload 12, 2) := by decide +kernel
theorem dX8_sort__409 : decode cX8_sort_ 409 = .ok (.aload_n 1, 1) := by decide +kernel
theorem dX8_sort__410 : decode cX8_sort_ 410 = .ok (.iload 9, 2) := by decide +kernel
theorem dX8_sort__412 : decode cX8_sort_ 412 = .ok (.iaload, 1) := by decide +kernel
theorem dX8_sort__413 : decode cX8_sort_ 413 = .ok (.iastore, 1) := by decide +kernel
theorem dX8_sort__414 : decode cX8_sort_ 414 = .ok (.aload_n 1, 1) := by decide +kernel
theorem dX8_sort__415 : decode cX8_sort_ 415 = .ok (.iload 9, 2) := by decide +kernel
theorem dX8_sort__417 : decode cX8_sort_ 417 = .ok (.iload 13, 2) := by decide +kernel
theorem dX8_sort__419 : decode cX8_sort_ 419 = .ok (.iastore, 1) := by decide +kernel
theorem dX8_sort__420 : decode cX8_sort_ 420 = .ok (.goto 17, 3) := by decide +kernel
theorem dX8_sort__423 : decode cX8_sort_ 423 = .ok (.aload_n 1, 1) := by decide +kernel
theorem dX8_sort__424 : decode cX8_sort_ 424 = .ok (.iload 10, 2) := by decide +kernel
theorem dX8_sort__426 : decode cX8_sort_ 426 = .ok (.aload_n 1, 1) := by decide +kernel
theorem dX8_sort__427 : decode cX8_sort_ 427 = .ok (.iload 12, 2) := by decide +kernel
theorem dX8_sort__429 : decode cX8_sort_ 429 = .ok (.iaload, 1) := by decide +kernel
theorem dX8_sort__430 : decode cX8_sort_ 430 = .ok (.iastore, 1) := by decide +kernel
theorem dX8_sort__431 : decode cX8_sort_ 431 = .ok (.aload_n 1, 1) := by decide +kernel
theorem dX8_sort__432 : decode cX8_sort_ 432 = .ok (.iload 12, 2) := by decide +kernel
theorem dX8_sort__434 : decode cX8_sort_ 434 = .ok (.iload 13, 2) := by decide +kernel
theorem dX8_sort__436 : decode cX8_sort_ 436 = .ok (.iastore, 1) := by decide +kernel
theorem dX8_sort__437 : decode cX8_sort_ 437 = .ok (.iload_n 3, 1) := by decide +kernel
theorem dX8_sort__438 : decode cX8_sort_ 438 = .ok (.istore 14, 2) := by decide +kernel
theorem dX8_sort__440 : decode cX8_sort_ 440 = .ok (.iload 5, 2) := by decide +kernel
theorem dX8_sort__442 : decode cX8_sort_ 442 = .ok (.istore 15, 2) := by decide +kernel
theorem dX8_sort__444 : decode cX8_sort_ 444 = .ok (.aload_n 1, 1) := by decide +kernel
theorem dX8_sort__445 : decode cX8_sort_ 445 = .ok (.iload 8, 2) := by decide +kernel
theorem dX8_sort__447 : decode cX8_sort_ 447 = .ok (.iaload, 1) := by decide +kernel
theorem dX8_sort__448 : decode cX8_sort_ 448 = .ok (.aload_n 1, 1) := by decide +kernel
theorem dX8_sort__449 : decode cX8_sort_ 449 = .ok (.iload 11, 2) := by decide +kernel
theorem dX8_sort__451 : decode cX8_sort_ 451 = .ok (.iaload, 1) := by decide +kernel
theorem dX8_sort__452 : decode cX8_sort_ 452 = .ok (.if_icmp .ge 324, 3) := by decide +kernel
theorem dX8_sort__455 : decode cX8_sort_ 455 = .ok (.aload_n 1, 1) := by decide +kernel
theorem dX8_sort__456 : decode cX8_sort_ 456 = .ok (.iload 11, 2) := by decide +kernel
theorem dX8_sort__458 : decode cX8_sort_ 458 = .ok (.iaload, 1) := by decide +kernel
theorem dX8_sort__459 : decode cX8_sort_ 459 = .ok (.aload_n 1, 1) := by decide +kernel
theorem dX8_sort__460 : decode cX8_sort_ 460 = .ok (.iload 10, 2) := by decide +kernel
theorem dX8_sort__462 : decode cX8_sort_ 462 = .ok (.iaload, 1) := by decide +kernel
theorem dX8_sort__463 : decode cX8_sort_ 463 = .ok (.if_icmp .ge 313, 3) := by decide +kernel
theorem dX8_sort__466 : decode cX8_sort_ 466 = .ok (.aload_n 1, 1) := by decide +kernel
theorem dX8_sort__467 : decode cX8_sort_ 467 = .ok (.iload 10, 2) := by decide +kernel
theorem dX8_sort__469 : decode cX8_sort_ 469 = .ok (.iaload, 1) := by decide +kernel
theorem dX8_sort__470 : decode cX8_sort_ 470 = .ok (.aload_n 1, 1) := by decide +kernel
theorem dX8_sort__471 : decode cX8_sort_ 471 = .ok (.iload 12, 2) := by decide +kernel
theorem dX8_sort__473 : decode cX8_sort_ 473 = .ok (.iaload, 1) := by decide +kernel
theorem dX8_sort__474 : decode cX8_sort_ 474 = .ok (.if_icmp .ge 302, 3) := by decide +kernel
theorem dX8_sort__477 : decode cX8_sort_ 477 = .ok (.aload_n 1, 1) := by decide +kernel
theorem dX8_sort__478 : decode cX8_sort_ 478 = .ok (.iload 12, 2) := by decide +kernel
theorem dX8_sort__480 : decode cX8_sort_ 480 = .ok (.iaload, 1) := by decide +kernel
theorem dX8_sort__481 : decode cX8_sort_ 481 = .ok (.aload_n 1, 1) := by decide +kernel
theorem dX8_sort__482 : decode cX8_sort_ 482 = .ok (.iload 9, 2) := by decide +kernel
theorem dX8_sort__484 : decode cX8_sort_ 484 = .ok (.iaload, 1) := by decide +kernel
theorem dX8_sort__485 : decode cX8_sort_ 485 = .ok (.if_icmp .ge 291, 3) := by decide +kernel
theorem dX8_sort__488 : decode cX8_sort_ 488 = .ok (.aload_n 1, 1) := by decide +kernel
theorem dX8_sort__489 : decode cX8_sort_ 489 = .ok (.iload 8, 2) := by decide +kernel
