theorem dX0_init_0 : decode cX0_init 0 = .ok (.aload_n 0, 1) := by decide +kernel
theorem dX0_init_1 : decode cX0_init 1 = .ok (.invokespecial 3, 3) := by decide +kernel
theorem dX0_init_4 : decode cX0_init 4 = .ok (.aload_n 0, 1) := by decide +kernel
theorem dX0_init_5 : decode cX0_init 5 = .ok (.new 9, 3) := by decide +kernel
theorem dX0_init_8 : decode cX0_init 8 = .ok (.dup, 1) := by decide +kernel
theorem dX0_init_9 : decode cX0_init 9 = .ok (.invokespecial 11, 3) := by decide +kernel
theorem dX0_init_12 : decode cX0_init 12 = .ok (.putfield 12, 3) := by decide +kernel
theorem dX0_init_15 : decode cX0_init 15 = .ok (.aload_n 0, 1) := by decide +kernel
theorem dX0_init_16 : decode cX0_init 16 = .ok (.iconst 5, 1) := by decide +kernel
theorem dX0_init_17 : decode cX0_init 17 = .ok (.newarray .boolean, 2) := by decide +kernel
theorem dX0_init_19 : decode cX0_init 19 = .ok (.putfield 18, 3) := by decide +kernel
theorem dX0_init_22 : decode cX0_init 22 = .ok (.aload_n 0, 1) := by decide +kernel
theorem dX0_init_23 : decode cX0_init 23 = .ok (.iconst 5, 1) := by decide +kernel
theorem dX0_init_24 : decode cX0_init 24 = .ok (.anewarray 22, 3) := by decide +kernel
theorem dX0_init_27 : decode cX0_init 27 = .ok (.putfield 24, 3) := by decide +kernel
theorem dX0_init_30 : decode cX0_init 30 = .ok (.aload_n 0, 1) := by decide +kernel
theorem dX0_init_31 : decode cX0_init 31 = .ok (.iconst 5, 1) := by decide +kernel
theorem dX0_init_32 : decode cX0_init 32 = .ok (.invokestatic 28, 3) := by decide +kernel
theorem dX0_init_35 : decode cX0_init 35 = .ok (.putfield 32, 3) := by decide +kernel
theorem dX0_init_38 : decode cX0_init 38 = .ok (.aload_n 0, 1) := by decide +kernel
theorem dX0_init_39 : decode cX0_init 39 = .ok (.new 36, 3) := by decide +kernel
theorem dX0_init_42 : decode cX0_init 42 = .ok (.dup, 1) := by decide +kernel
theorem dX0_init_43 : decode cX0_init 43 = .ok (.invokespecial 38, 3) := by decide +kernel
theorem dX0_init_46 : decode cX0_init 46 = .ok (.putfield 39, 3) := by decide +kernel
theorem dX0_init_49 : decode cX0_init 49 = .ok (.aload_n 0, 1) := by decide +kernel
theorem dX0_init_50 : decode cX0_init 50 = .ok (.new 36, 3) := by decide +kernel
theorem dX0_init_53 : decode cX0_init 53 = .ok (.dup, 1) := by decide +kernel
theorem dX0_init_54 : decode cX0_init 54 = .ok (.invokespecial 38, 3) := by decide +kernel
theorem dX0_init_57 : decode cX0_init 57 = .ok (.putfield 43, 3) := by decide +kernel
theorem dX0_init_60 : decode cX0_init 60 = .ok (.aload_n 0, 1) := by decide +kernel
theorem dX0_init_61 : decode cX0_init 61 = .ok (.iconst 0, 1) := by decide +kernel
theorem dX0_init_62 : decode cX0_init 62 = .ok (.putfield 46, 3) := by decide +kernel
theorem dX0_init_65 : decode cX0_init 65 = .ok (.aload_n 0, 1) := by decide +kernel
theorem dX0_init_66 : decode cX0_init 66 = .ok (.iconst 0, 1) := by decide +kernel
theorem dX0_init_67 : decode cX0_init 67 = .ok (.putfield 50, 3) := by decide +kernel
theorem dX0_init_70 : decode cX0_init 70 = .ok (.aload_n 0, 1) := by decide +kernel
theorem dX0_init_71 : decode cX0_init 71 = .ok (.iconst 0, 1) := by decide +kernel
theorem dX0_init_72 : decode cX0_init 72 = .ok (.putfield 53, 3) := by decide +kernel
theorem dX0_init_75 : decode cX0_init 75 = .ok (.aload_n 0, 1) := by decide +kernel
theorem dX0_init_76 : decode cX0_init 76 = .ok (.iconst (-1), 1) := by decide +kernel
theorem dX0_init_77 : decode cX0_init 77 = .ok (.putfield 56, 3) := by decide +kernel
theorem dX0_init_80 : decode cX0_init 80 = .ok (.iconst 0, 1) := by decide +kernel
theorem dX0_init_81 : decode cX0_init 81 = .ok (.istore_n 1, 1) := by decide +kernel
theorem dX0_init_82 : decode cX0_init 82 = .ok (.iload_n 1, 1) := by decide +kernel
theorem dX0_init_83 : decode cX0_init 83 = .ok (.iconst 5, 1) := by decide +kernel
theorem dX0_init_84 : decode cX0_init 84 = .ok (.if_icmp .ge 22, 3) := by decide +kernel
theorem dX0_init_87 : decode cX0_init 87 = .ok (.aload_n 0, 1) := by decide +kernel
theorem dX0_init_88 : decode cX0_init 88 = .ok (.getfield 24, 3) := by decide +kernel
theorem dX0_init_91 : decode cX0_init 91 = .ok (.iload_n 1, 1) := by decide +kernel
theorem dX0_init_92 : decode cX0_init 92 = .ok (.new 22, 3) := by decide +kernel
theorem dX0_init_95 : decode cX0_init 95 = .ok (.dup, 1) := by decide +kernel
theorem dX0_init_96 : decode cX0_init 96 = .ok (.invokespecial 59, 3) := by decide +kernel
theorem dX0_init_99 : decode cX0_init 99 = .ok (.aastore, 1) := by decide +kernel
theorem dX0_init_100 : decode cX0_init 100 = .ok (.iinc 1 1, 3) := by decide +kernel
theorem dX0_init_103 : decode cX0_init 103 = .ok (.goto (-21), 3) := by decide +kernel
theorem dX0_init_106 : decode cX0_init 106 = .ok (.return_, 1) := by decide +kernel
theorem dX0_run_0 : decode cX0_run 0 = .ok (.aload_n 0, 1) := by decide +kernel
theorem dX0_run_1 : decode cX0_run 1 = .ok (.getfield 12, 3) := by decide +kernel
theorem dX0_run_4 : decode cX0_run 4 = .ok (.aload_n 1, 1) := by decide +kernel
theorem dX0_run_5 : decode cX0_run 5 = .ok (.invokevirtual 60, 3) := by decide +kernel
theorem dX0_run_8 : decode cX0_run 8 = .ok (.aload_n 0, 1) := by decide +kernel
theorem dX0_run_9 : decode cX0_run 9 = .ok (.iload_n 2, 1) := by decide +kernel
theorem dX0_run_10 : decode cX0_run 10 = .ok (.invokevirtual 64, 3) := by decide +kernel
theorem dX0_run_13 : decode cX0_run 13 = .ok (.iconst 0, 1) := by decide +kernel
theorem dX0_run_14 : decode cX0_run 14 = .ok (.istore_n 3, 1) := by decide +kernel
theorem dX0_run_15 : decode cX0_run 15 = .ok (.iload_n 3, 1) := by decide +kernel
theorem dX0_run_16 : decode cX0_run 16 = .ok (.aload_n 0, 1) := by decide +kernel
theorem dX0_run_17 : decode cX0_run 17 = .ok (.getfield 46, 3) := by decide +kernel
theorem dX0_run_20 : decode cX0_run 20 = .ok (.if_icmp .gt 81, 3) := by decide +kernel
theorem dX0_run_23 : decode cX0_run 23 = .ok (.aload_n 0, 1) := by decide +kernel
theorem dX0_run_24 : decode cX0_run 24 = .ok (.iconst (-1), 1) := by decide +kernel
theorem dX0_run_25 : decode cX0_run 25 = .ok (.invokevirtual 68, 3) := by decide +kernel
theorem dX0_run_28 : decode cX0_run 28 = .ok (.istore 4, 2) := by decide +kernel
theorem dX0_run_30 : decode cX0_run 30 = .ok (.iload 4, 2) := by decide +kernel
theorem dX0_run_32 : decode cX0_run 32 = .ok (.iconst (-1), 1) := by decide +kernel
theorem dX0_run_33 : decode cX0_run 33 = .ok (.if_icmp .eq 16, 3) := by decide +kernel
theorem dX0_run_36 : decode cX0_run 36 = .ok (.aload_n 0, 1) := by decide +kernel
theorem dX0_run_37 : decode cX0_run 37 = .ok (.iload 4, 2) := by decide +kernel
theorem dX0_run_39 : decode cX0_run 39 = .ok (.putfield 53, 3) := by decide +kernel
theorem dX0_run_42 : decode cX0_run 42 = .ok (.aload_n 0, 1) := by decide +kernel
theorem dX0_run_43 : decode cX0_run 43 = .ok (.iconst (-1), 1) := by decide +kernel
theorem dX0_run_44 : decode cX0_run 44 = .ok (.putfield 56, 3) := by decide +kernel
theorem dX0_run_47 : decode cX0_run 47 = .ok (.iconst 0, 1) := by decide +kernel
theorem dX0_run_48 : decode cX0_run 48 = .ok (.ireturn, 1) := by decide +kernel
theorem dX0_run_49 : decode cX0_run 49 = .ok (.aload_n 0, 1) := by decide +kernel
theorem dX0_run_50 : decode cX0_run 50 = .ok (.iconst 1, 1) := by decide +kernel
theorem dX0_run_51 : decode cX0_run 51 = .ok (.invokevirtual 68, 3) := by decide +kernel
theorem dX0_run_54 : decode cX0_run 54 = .ok (.istore 5, 2) := by decide +kernel
theorem dX0_run_56 : decode cX0_run 56 = .ok (.iload 5, 2) := by decide +kernel
theorem dX0_run_58 : decode cX0_run 58 = .ok (.iconst (-1), 1) := by decide +kernel
theorem dX0_run_59 : decode cX0_run 59 = .ok (.if_icmp .ne 16, 3) := by decide +kernel
theorem dX0_run_62 : decode cX0_run 62 = .ok (.aload_n 0, 1) := by decide +kernel
theorem dX0_run_63 : decode cX0_run 63 = .ok (.invokevirtual 72, 3) := by decide +kernel
theorem dX0_run_66 : decode cX0_run 66 = .ok (.ifCond .eq 7, 3) := by decide +kernel
theorem dX0_run_69 : decode cX0_run 69 = .ok (.iconst 0, 1) := by decide +kernel
theorem dX0_run_70 : decode cX0_run 70 = .ok (.goto 4, 3) := by decide +kernel
theorem dX0_run_73 : decode cX0_run 73 = .ok (.iconst 1, 1) := by decide +kernel
theorem dX0_run_74 : decode cX0_run 74 = .ok (.ireturn, 1) := by decide +kernel
theorem dX0_run_75 : decode cX0_run 75 = .ok (.aload_n 0, 1) := by decide +kernel
theorem dX0_run_76 : decode cX0_run 76 = .ok (.iload 5, 2) := by decide +kernel
theorem dX0_run_78 : decode cX0_run 78 = .ok (.invokevirtual 76, 3) := by decide +kernel
theorem dX0_run_81 : decode cX0_run 81 = .ok (.ifCond .eq 12, 3) := by decide +kernel
theorem dX0_run_84 : decode cX0_run 84 = .ok (.aload_n 0, 1) := by decide +kernel
theorem dX0_run_85 : decode cX0_run 85 = .ok (.iload 5, 2) := by decide +kernel
theorem dX0_run_87 : decode cX0_run 87 = .ok (.invokevirtual 80, 3) := by decide +kernel
theorem dX0_run_90 : decode cX0_run 90 = .ok (.ifCond .ne 5, 3) := by decide +kernel
theorem dX0_run_93 : decode cX0_run 93 = .ok (.iconst 2, 1) := by decide +kernel
theorem dX0_run_94 : decode cX0_run 94 = .ok (.ireturn, 1) := by decide +kernel
theorem dX0_run_95 : decode cX0_run 95 = .ok (.iinc 3 1, 3) := by decide +kernel
theorem dX0_run_98 : decode cX0_run 98 = .ok (.goto (-83), 3) := by decide +kernel
theorem dX0_run_101 : decode cX0_run 101 = .ok (.iconst 1, 1) := by decide +kernel
theorem dX0_run_102 : decode cX0_run 102 = .ok (.ireturn, 1) := by decide +kernel
theorem dX0_runWithoutLooking_0 : decode cX0_runWithoutLooking 0 = .ok (.aload_n 0, 1) := by decide +kernel
theorem dX0_runWithoutLooking_1 : decode cX0_runWithoutLooking 1 = .ok (.getfield 12, 3) := by decide +kernel
theorem dX0_runWithoutLooking_4 : decode cX0_runWithoutLooking 4 = .ok (.aload_n 1, 1) := by decide +kernel
theorem dX0_runWithoutLooking_5 : decode cX0_runWithoutLooking 5 = .ok (.iload_n 2, 1) := by decide +kernel
theorem dX0_runWithoutLooking_6 : decode cX0_runWithoutLooking 6 = .ok (.invokevirtual 83, 3) := by decide +kernel
theorem dX0_runWithoutLooking_9 : decode cX0_runWithoutLooking 9 = .ok (.aload_n 0, 1) := by decide +kernel
theorem dX0_runWithoutLooking_10 : decode cX0_runWithoutLooking 10 = .ok (.iload_n 2, 1) := by decide +kernel
theorem dX0_runWithoutLooking_11 : decode cX0_runWithoutLooking 11 = .ok (.invokevirtual 64, 3) := by decide +kernel
theorem dX0_runWithoutLooking_14 : decode cX0_runWithoutLooking 14 = .ok (.iconst 0, 1) := by decide +kernel
theorem dX0_runWithoutLooking_15 : decode cX0_runWithoutLooking 15 = .ok (.istore_n 3, 1) := by decide +kernel
theorem dX0_runWithoutLooking_16 : decode cX0_runWithoutLooking 16 = .ok (.iconst 0, 1) := by decide +kernel
theorem dX0_runWithoutLooking_17 : decode cX0_runWithoutLooking 17 = .ok (.istore 4, 2) := by decide +kernel
theorem dX0_runWithoutLooking_19 : decode cX0_runWithoutLooking 19 = .ok (.iload 4, 2) := by decide +kernel
theorem dX0_runWithoutLooking_21 : decode cX0_runWithoutLooking 21 = .ok (.aload_n 0, 1) := by decide +kernel
theorem dX0_runWithoutLooking_22 : decode cX0_runWithoutLooking 22 = .ok (.getfield 46, 3) := by decide +kernel
theorem dX0_runWithoutLooking_25 : decode cX0_runWithoutLooking 25 = .ok (.if_icmp .gt 76, 3) := by decide +kernel
theorem dX0_runWithoutLooking_28 : decode cX0_runWithoutLooking 28 = .ok (.iload 4, 2) := by decide +kernel
theorem dX0_runWithoutLooking_30 : decode cX0_runWithoutLooking 30 = .ok (.aload_n 0, 1) := by decide +kernel
theorem dX0_runWithoutLooking_31 : decode cX0_runWithoutLooking 31 = .ok (.getfield 46, 3) := by decide +kernel
theorem dX0_runWithoutLooking_34 : decode cX0_runWithoutLooking 34 = .ok (.invokestatic 87, 3) := by decide +kernel
theorem dX0_runWithoutLooking_37 : decode cX0_runWithoutLooking 37 = .ok (.istore 5, 2) := by decide +kernel
theorem dX0_runWithoutLooking_39 : decode cX0_runWithoutLooking 39 = .ok (.aload_n 0, 1) := by decide +kernel
theorem dX0_runWithoutLooking_40 : decode cX0_runWithoutLooking 40 = .ok (.getfield 12, 3) := by decide +kernel
theorem dX0_runWithoutLooking_43 : decode cX0_runWithoutLooking 43 = .ok (.iload 5, 2) := by decide +kernel
theorem dX0_runWithoutLooking_45 : decode cX0_runWithoutLooking 45 = .ok (.iload 5, 2) := by decide +kernel
theorem dX0_runWithoutLooking_47 : decode cX0_runWithoutLooking 47 = .ok (.invokevirtual 91, 3) := by decide +kernel
theorem dX0_runWithoutLooking_50 : decode cX0_runWithoutLooking 50 = .ok (.invokevirtual 95, 3) := by decide +kernel
theorem dX0_runWithoutLooking_53 : decode cX0_runWithoutLooking 53 = .ok (.istore 6, 2) := by decide +kernel
theorem dX0_runWithoutLooking_55 : decode cX0_runWithoutLooking 55 = .ok (.iload 6, 2) := by decide +kernel
theorem dX0_runWithoutLooking_57 : decode cX0_runWithoutLooking 57 = .ok (.ifCond .ne 9, 3) := by decide +kernel
theorem dX0_runWithoutLooking_60 : decode cX0_runWithoutLooking 60 = .ok (.bipush (-10), 2) := by decide +kernel
theorem dX0_runWithoutLooking_62 : decode cX0_runWithoutLooking 62 = .ok (.iload 4, 2) := by decide +kernel
theorem dX0_runWithoutLooking_64 : decode cX0_runWithoutLooking 64 = .ok (.isub, 1) := by decide +kernel
theorem dX0_runWithoutLooking_65 : decode cX0_runWithoutLooking 65 = .ok (.ireturn, 1) := by decide +kernel
theorem dX0_runWithoutLooking_66 : decode cX0_runWithoutLooking 66 = .ok (.iload 6, 2) := by decide +kernel
theorem dX0_runWithoutLooking_68 : decode cX0_runWithoutLooking 68 = .ok (.ifCond .le 6, 3) := by decide +kernel
theorem dX0_runWithoutLooking_71 : decode cX0_runWithoutLooking 71 = .ok (.iinc 3 1, 3) := by decide +kernel
theorem dX0_runWithoutLooking_74 : decode cX0_runWithoutLooking 74 = .ok (.aload_n 0, 1) := by decide +kernel
theorem dX0_runWithoutLooking_75 : decode cX0_runWithoutLooking 75 = .ok (.iload 5, 2) := by decide +kernel
theorem dX0_runWithoutLooking_77 : decode cX0_runWithoutLooking 77 = .ok (.invokevirtual 76, 3) := by decide +kernel
theorem dX0_runWithoutLooking_80 : decode cX0_runWithoutLooking 80 = .ok (.ifCond .eq 12, 3) := by decide +kernel
theorem dX0_runWithoutLooking_83 : decode cX0_runWithoutLooking 83 = .ok (.aload_n 0, 1) := by decide +kernel
theorem dX0_runWithoutLooking_84 : decode cX0_runWithoutLooking 84 = .ok (.iload 5, 2) := by decide +kernel
theorem dX0_runWithoutLooking_86 : decode cX0_runWithoutLooking 86 = .ok (.invokevirtual 80, 3) := by decide +kernel
theorem dX0_runWithoutLooking_89 : decode cX0_runWithoutLooking 89 = .ok (.ifCond .ne 6, 3) := by decide +kernel
theorem dX0_runWithoutLooking_92 : decode cX0_runWithoutLooking 92 = .ok (.bipush (-30), 2) := by decide +kernel
theorem dX0_runWithoutLooking_94 : decode cX0_runWithoutLooking 94 = .ok (.ireturn, 1) := by decide +kernel
theorem dX0_runWithoutLooking_95 : decode cX0_runWithoutLooking 95 = .ok (.iinc 4 1, 3) := by decide +kernel
theorem dX0_runWithoutLooking_98 : decode cX0_runWithoutLooking 98 = .ok (.goto (-79), 3) := by decide +kernel
theorem dX0_runWithoutLooking_101 : decode cX0_runWithoutLooking 101 = .ok (.iload_n 3, 1) := by decide +kernel
theorem dX0_runWithoutLooking_102 : decode cX0_runWithoutLooking 102 = .ok (.ireturn, 1) := by decide +kernel
theorem dX0_findNegative_0 : decode cX0_findNegative 0 = .ok (.aload_n 0, 1) := by decide +kernel
theorem dX0_findNegative_1 : decode cX0_findNegative 1 = .ok (.invokevirtual 99, 3) := by decide +kernel
theorem dX0_findNegative_4 : decode cX0_findNegative 4 = .ok (.aload_n 0, 1) := by decide +kernel
theorem dX0_findNegative_5 : decode cX0_findNegative 5 = .ok (.getfield 32, 3) := by decide +kernel
theorem dX0_findNegative_8 : decode cX0_findNegative 8 = .ok (.aload_n 0, 1) := by decide +kernel
theorem dX0_findNegative_9 : decode cX0_findNegative 9 = .ok (.getfield 53, 3) := by decide +kernel
theorem dX0_findNegative_12 : decode cX0_findNegative 12 = .ok (.aaload, 1) := by decide +kernel
theorem dX0_findNegative_13 : decode cX0_findNegative 13 = .ok (.lconst 1, 1) := by decide +kernel
theorem dX0_findNegative_14 : decode cX0_findNegative 14 = .ok (.lconst 1, 1) := by decide +kernel
theorem dX0_findNegative_15 : decode cX0_findNegative 15 = .ok (.invokevirtual 102, 3) := by decide +kernel
theorem dX0_findNegative_18 : decode cX0_findNegative 18 = .ok (.pop, 1) := by decide +kernel
theorem dX0_findNegative_19 : decode cX0_findNegative 19 = .ok (.aload_n 0, 1) := by decide +kernel
theorem dX0_findNegative_20 : decode cX0_findNegative 20 = .ok (.getfield 56, 3) := by decide +kernel
theorem dX0_findNegative_23 : decode cX0_findNegative 23 = .ok (.iconst (-1), 1) := by decide +kernel
theorem dX0_findNegative_24 : decode cX0_findNegative 24 = .ok (.if_icmp .eq 55, 3) := by decide +kernel
theorem dX0_findNegative_27 : decode cX0_findNegative 27 = .ok (.aload_n 0, 1) := by decide +kernel
theorem dX0_findNegative_28 : decode cX0_findNegative 28 = .ok (.getfield 12, 3) := by decide +kernel
theorem dX0_findNegative_31 : decode cX0_findNegative 31 = .ok (.aload_n 0, 1) := by decide +kernel
theorem dX0_findNegative_32 : decode cX0_findNegative 32 = .ok (.getfield 53, 3) := by decide +kernel
theorem dX0_findNegative_35 : decode cX0_findNegative 35 = .ok (.aload_n 0, 1) := by decide +kernel
theorem dX0_findNegative_36 : decode cX0_findNegative 36 = .ok (.getfield 56, 3) := by decide +kernel
theorem dX0_findNegative_39 : decode cX0_findNegative 39 = .ok (.invokevirtual 91, 3) := by decide +kernel
theorem dX0_findNegative_42 : decode cX0_findNegative 42 = .ok (.invokevirtual 95, 3) := by decide +kernel
theorem dX0_findNegative_45 : decode cX0_findNegative 45 = .ok (.ifCond .le 7, 3) := by decide +kernel
theorem dX0_findNegative_48 : decode cX0_findNegative 48 = .ok (.iconst 1, 1) := by decide +kernel
theorem dX0_findNegative_49 : decode cX0_findNegative 49 = .ok (.goto 4, 3) := by decide +kernel
theorem dX0_findNegative_52 : decode cX0_findNegative 52 = .ok (.iconst 0, 1) := by decide +kernel
theorem dX0_findNegative_53 : decode cX0_findNegative 53 = .ok (.istore_n 1, 1) := by decide +kernel
theorem dX0_findNegative_54 : decode cX0_findNegative 54 = .ok (.aload_n 0, 1) := by decide +kernel
theorem dX0_findNegative_55 : decode cX0_findNegative 55 = .ok (.getfield 32, 3) := by decide +kernel
theorem dX0_findNegative_58 : decode cX0_findNegative 58 = .ok (.aload_n 0, 1) := by decide +kernel
theorem dX0_findNegative_59 : decode cX0_findNegative 59 = .ok (.getfield 56, 3) := by decide +kernel
theorem dX0_findNegative_62 : decode cX0_findNegative 62 = .ok (.aaload, 1) := by decide +kernel
theorem dX0_findNegative_63 : decode cX0_findNegative 63 = .ok (.iload_n 1, 1) := by decide +kernel
theorem dX0_findNegative_64 : decode cX0_findNegative 64 = .ok (.ifCond .eq 9, 3) := by decide +kernel
theorem dX0_findNegative_67 : decode cX0_findNegative 67 = .ok (.ldc2_w 106, 3) := by decide +kernel
theorem dX0_findNegative_70 : decode cX0_findNegative 70 = .ok (.goto 4, 3) := by decide +kernel
theorem dX0_findNegative_73 : decode cX0_findNegative 73 = .ok (.lconst 1, 1) := by decide +kernel
theorem dX0_findNegative_74 : decode cX0_findNegative 74 = .ok (.lconst 1, 1) := by decide +kernel
theorem dX0_findNegative_75 : decode cX0_findNegative 75 = .ok (.invokevirtual 102, 3) := by decide +kernel
theorem dX0_findNegative_78 : decode cX0_findNegative 78 = .ok (.pop, 1) := by decide +kernel
theorem dX0_findNegative_79 : decode cX0_findNegative 79 = .ok (.aload_n 0, 1) := by decide +kernel
theorem dX0_findNegative_80 : decode cX0_findNegative 80 = .ok (.invokevirtual 108, 3) := by decide +kernel
theorem dX0_findNegative_83 : decode cX0_findNegative 83 = .ok (.ireturn, 1) := by decide +kernel
theorem dX0_findZero_0 : decode cX0_findZero 0 = .ok (.aload_n 0, 1) := by decide +kernel
theorem dX0_findZero_1 : decode cX0_findZero 1 = .ok (.invokevirtual 99, 3) := by decide +kernel
theorem dX0_findZero_4 : decode cX0_findZero 4 = .ok (.aload_n 0, 1) := by decide +kernel
theorem dX0_findZero_5 : decode cX0_findZero 5 = .ok (.getfield 32, 3) := by decide +kernel
theorem dX0_findZero_8 : decode cX0_findZero 8 = .ok (.iconst 0, 1) := by decide +kernel
theorem dX0_findZero_9 : decode cX0_findZero 9 = .ok (.aaload, 1) := by decide +kernel
theorem dX0_findZero_10 : decode cX0_findZero 10 = .ok (.lconst 1, 1) := by decide +kernel
theorem dX0_findZero_11 : decode cX0_findZero 11 = .ok (.lconst 1, 1) := by decide +kernel
theorem dX0_findZero_12 : decode cX0_findZero 12 = .ok (.invokevirtual 102, 3) := by decide +kernel
theorem dX0_findZero_15 : decode cX0_findZero 15 = .ok (.pop, 1) := by decide +kernel
theorem dX0_findZero_16 : decode cX0_findZero 16 = .ok (.aload_n 0, 1) := by decide +kernel
theorem dX0_findZero_17 : decode cX0_findZero 17 = .ok (.invokevirtual 108, 3) := by decide +kernel
theorem dX0_findZero_20 : decode cX0_findZero 20 = .ok (.ireturn, 1) := by decide +kernel
theorem dX0_start_0 : decode cX0_start 0 = .ok (.aload_n 0, 1) := by decide +kernel
theorem dX0_start_1 : decode cX0_start 1 = .ok (.iload_n 1, 1) := by decide +kernel
theorem dX0_start_2 : decode cX0_start 2 = .ok (.putfield 46, 3) := by decide +kernel
theorem dX0_start_5 : decode cX0_start 5 = .ok (.aload_n 0, 1) := by decide +kernel
theorem dX0_start_6 : decode cX0_start 6 = .ok (.iconst 0, 1) := by decide +kernel
theorem dX0_start_7 : decode cX0_start 7 = .ok (.putfield 50, 3) := by decide +kernel
theorem dX0_start_10 : decode cX0_start 10 = .ok (.iconst 0, 1) := by decide +kernel
theorem dX0_start_11 : decode cX0_start 11 = .ok (.istore_n 2, 1) := by decide +kernel
theorem dX0_start_12 : decode cX0_start 12 = .ok (.iload_n 2, 1) := by decide +kernel
theorem dX0_start_13 : decode cX0_start 13 = .ok (.iconst 5, 1) := by decide +kernel
theorem dX0_start_14 : decode cX0_start 14 = .ok (.if_icmp .ge 28, 3) := by decide +kernel
theorem dX0_start_17 : decode cX0_start 17 = .ok (.aload_n 0, 1) := by decide +kernel
theorem dX0_start_18 : decode cX0_start 18 = .ok (.getfield 18, 3) := by decide +kernel
theorem dX0_start_21 : decode cX0_start 21 = .ok (.iload_n 2, 1) := by decide +kernel
theorem dX0_start_22 : decode cX0_start 22 = .ok (.iload_n 2, 1) := by decide +kernel
theorem dX0_start_23 : decode cX0_start 23 = .ok (.aload_n 0, 1) := by decide +kernel
theorem dX0_start_24 : decode cX0_start 24 = .ok (.getfield 46, 3) := by decide +kernel
theorem dX0_start_27 : decode cX0_start 27 = .ok (.if_icmp .gt 7, 3) := by decide +kernel
theorem dX0_start_30 : decode cX0_start 30 = .ok (.iconst 1, 1) := by decide +kernel
theorem dX0_start_31 : decode cX0_start 31 = .ok (.goto 4, 3) := by decide +kernel
theorem dX0_start_34 : decode cX0_start 34 = .ok (.iconst 0, 1) := by decide +kernel
theorem dX0_start_35 : decode cX0_start 35 = .ok (.bastore, 1) := by decide +kernel
theorem dX0_start_36 : decode cX0_start 36 = .ok (.iinc 2 1, 3) := by decide +kernel
theorem dX0_start_39 : decode cX0_start 39 = .ok (.goto (-27), 3) := by decide +kernel
theorem dX0_start_42 : decode cX0_start 42 = .ok (.return_, 1) := by decide +kernel
theorem dX0_firstLeftOfSign_0 : decode cX0_firstLeftOfSign 0 = .ok (.iconst 0, 1) := by decide +kernel
theorem dX0_firstLeftOfSign_1 : decode cX0_firstLeftOfSign 1 = .ok (.istore_n 2, 1) := by decide +kernel
theorem dX0_firstLeftOfSign_2 : decode cX0_firstLeftOfSign 2 = .ok (.iload_n 2, 1) := by decide +kernel
theorem dX0_firstLeftOfSign_3 : decode cX0_firstLeftOfSign 3 = .ok (.aload_n 0, 1) := by decide +kernel
theorem dX0_firstLeftOfSign_4 : decode cX0_firstLeftOfSign 4 = .ok (.getfield 46, 3) := by decide +kernel
theorem dX0_firstLeftOfSign_7 : decode cX0_firstLeftOfSign 7 = .ok (.if_icmp .gt 45, 3) := by decide +kernel
theorem dX0_firstLeftOfSign_10 : decode cX0_firstLeftOfSign 10 = .ok (.iload_n 2, 1) := by decide +kernel
theorem dX0_firstLeftOfSign_11 : decode cX0_firstLeftOfSign 11 = .ok (.aload_n 0, 1) := by decide +kernel
theorem dX0_firstLeftOfSign_12 : decode cX0_firstLeftOfSign 12 = .ok (.getfield 46, 3) := by decide +kernel
theorem dX0_firstLeftOfSign_15 : decode cX0_firstLeftOfSign 15 = .ok (.invokestatic 87, 3) := by decide +kernel
theorem dX0_firstLeftOfSign_18 : decode cX0_firstLeftOfSign 18 = .ok (.istore_n 3, 1) := by decide +kernel
theorem dX0_firstLeftOfSign_19 : decode cX0_firstLeftOfSign 19 = .ok (.aload_n 0, 1) := by decide +kernel
theorem dX0_firstLeftOfSign_20 : decode cX0_firstLeftOfSign 20 = .ok (.getfield 18, 3) := by decide +kernel
theorem dX0_firstLeftOfSign_23 : decode cX0_firstLeftOfSign 23 = .ok (.iload_n 3, 1) := by decide +kernel
theorem dX0_firstLeftOfSign_24 : decode cX0_firstLeftOfSign 24 = .ok (.baload, 1) := by decide +kernel
theorem dX0_firstLeftOfSign_25 : decode cX0_firstLeftOfSign 25 = .ok (.ifCond .eq 21, 3) := by decide +kernel
theorem dX0_firstLeftOfSign_28 : decode cX0_firstLeftOfSign 28 = .ok (.aload_n 0, 1) := by decide +kernel
theorem dX0_firstLeftOfSign_29 : decode cX0_firstLeftOfSign 29 = .ok (.getfield 12, 3) := by decide +kernel
theorem dX0_firstLeftOfSign_32 : decode cX0_firstLeftOfSign 32 = .ok (.iload_n 3, 1) := by decide +kernel
theorem dX0_firstLeftOfSign_33 : decode cX0_firstLeftOfSign 33 = .ok (.iload_n 3, 1) := by decide +kernel
theorem dX0_firstLeftOfSign_34 : decode cX0_firstLeftOfSign 34 = .ok (.invokevirtual 91, 3) := by decide +kernel
theorem dX0_firstLeftOfSign_37 : decode cX0_firstLeftOfSign 37 = .ok (.invokevirtual 95, 3) := by decide +kernel
theorem dX0_firstLeftOfSign_40 : decode cX0_firstLeftOfSign 40 = .ok (.iload_n 1, 1) := by decide +kernel
theorem dX0_firstLeftOfSign_41 : decode cX0_firstLeftOfSign 41 = .ok (.if_icmp .ne 5, 3) := by decide +kernel
theorem dX0_firstLeftOfSign_44 : decode cX0_firstLeftOfSign 44 = .ok (.iload_n 3, 1) := by decide +kernel
theorem dX0_firstLeftOfSign_45 : decode cX0_firstLeftOfSign 45 = .ok (.ireturn, 1) := by decide +kernel
theorem dX0_firstLeftOfSign_46 : decode cX0_firstLeftOfSign 46 = .ok (.iinc 2 1, 3) := by decide +kernel
theorem dX0_firstLeftOfSign_49 : decode cX0_firstLeftOfSign 49 = .ok (.goto (-47), 3) := by decide +kernel
theorem dX0_firstLeftOfSign_52 : decode cX0_firstLeftOfSign 52 = .ok (.iconst (-1), 1) := by decide +kernel
theorem dX0_firstLeftOfSign_53 : decode cX0_firstLeftOfSign 53 = .ok (.ireturn, 1) := by decide +kernel
theorem dX0_findPair_0 : decode cX0_findPair 0 = .ok (.iconst 0, 1) := by decide +kernel
theorem dX0_findPair_1 : decode cX0_findPair 1 = .ok (.istore_n 1, 1) := by decide +kernel
theorem dX0_findPair_2 : decode cX0_findPair 2 = .ok (.iload_n 1, 1) := by decide +kernel
theorem dX0_findPair_3 : decode cX0_findPair 3 = .ok (.aload_n 0, 1) := by decide +kernel
theorem dX0_findPair_4 : decode cX0_findPair 4 = .ok (.getfield 46, 3) := by decide +kernel
theorem dX0_findPair_7 : decode cX0_findPair 7 = .ok (.if_icmp .gt 94, 3) := by decide +kernel
theorem dX0_findPair_10 : decode cX0_findPair 10 = .ok (.iload_n 1, 1) := by decide +kernel
theorem dX0_findPair_11 : decode cX0_findPair 11 = .ok (.aload_n 0, 1) := by decide +kernel
theorem dX0_findPair_12 : decode cX0_findPair 12 = .ok (.getfield 46, 3) := by decide +kernel
theorem dX0_findPair_15 : decode cX0_findPair 15 = .ok (.invokestatic 87, 3) := by decide +kernel
theorem dX0_findPair_18 : decode cX0_findPair 18 = .ok (.istore_n 2, 1) := by decide +kernel
theorem dX0_findPair_19 : decode cX0_findPair 19 = .ok (.iload_n 1, 1) := by decide +kernel
theorem dX0_findPair_20 : decode cX0_findPair 20 = .ok (.iconst 1, 1) := by decide +kernel
theorem dX0_findPair_21 : decode cX0_findPair 21 = .ok (.iadd, 1) := by decide +kernel
theorem dX0_findPair_22 : decode cX0_findPair 22 = .ok (.istore_n 3, 1) := by decide +kernel
theorem dX0_findPair_23 : decode cX0_findPair 23 = .ok (.iload_n 3, 1) := by decide +kernel
theorem dX0_findPair_24 : decode cX0_findPair 24 = .ok (.aload_n 0, 1) := by decide +kernel
theorem dX0_findPair_25 : decode cX0_findPair 25 = .ok (.getfield 46, 3) := by decide +kernel
theorem dX0_findPair_28 : decode cX0_findPair 28 = .ok (.if_icmp .gt 67, 3) := by decide +kernel
theorem dX0_findPair_31 : decode cX0_findPair 31 = .ok (.iload_n 3, 1) := by decide +kernel
theorem dX0_findPair_32 : decode cX0_findPair 32 = .ok (.aload_n 0, 1) := by decide +kernel
theorem dX0_findPair_33 : decode cX0_findPair 33 = .ok (.getfield 46, 3) := by decide +kernel
theorem dX0_findPair_36 : decode cX0_findPair 36 = .ok (.invokestatic 87, 3) := by decide +kernel
theorem dX0_findPair_39 : decode cX0_findPair 39 = .ok (.istore 4, 2) := by decide +kernel
theorem dX0_findPair_41 : decode cX0_findPair 41 = .ok (.aload_n 0, 1) := by decide +kernel
theorem dX0_findPair_42 : decode cX0_findPair 42 = .ok (.getfield 18, 3) := by decide +kernel
theorem dX0_findPair_45 : decode cX0_findPair 45 = .ok (.iload_n 2, 1) := by decide +kernel
theorem dX0_findPair_46 : decode cX0_findPair 46 = .ok (.baload, 1) := by decide +kernel
theorem dX0_findPair_47 : decode cX0_findPair 47 = .ok (.ifCond .eq 42, 3) := by decide +kernel
theorem dX0_findPair_50 : decode cX0_findPair 50 = .ok (.aload_n 0, 1) := by decide +kernel
theorem dX0_findPair_51 : decode cX0_findPair 51 = .ok (.getfield 18, 3) := by decide +kernel
theorem dX0_findPair_54 : decode cX0_findPair 54 = .ok (.iload 4, 2) := by decide +kernel
theorem dX0_findPair_56 : decode cX0_findPair 56 = .ok (.baload, 1) := by decide +kernel
theorem dX0_findPair_57 : decode cX0_findPair 57 = .ok (.ifCond .eq 32, 3) := by decide +kernel
theorem dX0_findPair_60 : decode cX0_findPair 60 = .ok (.aload_n 0, 1) := by decide +kernel
theorem dX0_findPair_61 : decode cX0_findPair 61 = .ok (.getfield 12, 3) := by decide +kernel
theorem dX0_findPair_64 : decode cX0_findPair 64 = .ok (.iload_n 2, 1) := by decide +kernel
theorem dX0_findPair_65 : decode cX0_findPair 65 = .ok (.iload 4, 2) := by decide +kernel
theorem dX0_findPair_67 : decode cX0_findPair 67 = .ok (.invokevirtual 91, 3) := by decide +kernel
theorem dX0_findPair_70 : decode cX0_findPair 70 = .ok (.invokevirtual 95, 3) := by decide +kernel
theorem dX0_findPair_73 : decode cX0_findPair 73 = .ok (.ifCond .eq 16, 3) := by decide +kernel
theorem dX0_findPair_76 : decode cX0_findPair 76 = .ok (.aload_n 0, 1) := by decide +kernel
theorem dX0_findPair_77 : decode cX0_findPair 77 = .ok (.iload_n 2, 1) := by decide +kernel
theorem dX0_findPair_78 : decode cX0_findPair 78 = .ok (.putfield 53, 3) := by decide +kernel
theorem dX0_findPair_81 : decode cX0_findPair 81 = .ok (.aload_n 0, 1) := by decide +kernel
theorem dX0_findPair_82 : decode cX0_findPair 82 = .ok (.iload 4, 2) := by decide +kernel
theorem dX0_findPair_84 : decode cX0_findPair 84 = .ok (.putfield 56, 3) := by decide +kernel
theorem dX0_findPair_87 : decode cX0_findPair 87 = .ok (.iconst 1, 1) := by decide +kernel
theorem dX0_findPair_88 : decode cX0_findPair 88 = .ok (.ireturn, 1) := by decide +kernel
theorem dX0_findPair_89 : decode cX0_findPair 89 = .ok (.iinc 3 1, 3) := by decide +kernel
theorem dX0_findPair_92 : decode cX0_findPair 92 = .ok (.goto (-69), 3) := by decide +kernel
theorem dX0_findPair_95 : decode cX0_findPair 95 = .ok (.iinc 1 1, 3) := by decide +kernel
theorem dX0_findPair_98 : decode cX0_findPair 98 = .ok (.goto (-96), 3) := by decide +kernel
theorem dX0_findPair_101 : decode cX0_findPair 101 = .ok (.iconst 0, 1) := by decide +kernel
theorem dX0_findPair_102 : decode cX0_findPair 102 = .ok (.ireturn, 1) := by decide +kernel
theorem dX0_makeSquare_0 : decode cX0_makeSquare 0 = .ok (.aload_n 0, 1) := by decide +kernel
theorem dX0_makeSquare_1 : decode cX0_makeSquare 1 = .ok (.getfield 50, 3) := by decide +kernel
theorem dX0_makeSquare_4 : decode cX0_makeSquare 4 = .ok (.iconst 5, 1) := by decide +kernel
theorem dX0_makeSquare_5 : decode cX0_makeSquare 5 = .ok (.if_icmp .ge 18, 3) := by decide +kernel
theorem dX0_makeSquare_8 : decode cX0_makeSquare 8 = .ok (.aload_n 0, 1) := by decide +kernel
theorem dX0_makeSquare_9 : decode cX0_makeSquare 9 = .ok (.getfield 12, 3) := by decide +kernel
theorem dX0_makeSquare_12 : decode cX0_makeSquare 12 = .ok (.iload_n 1, 1) := by decide +kernel
theorem dX0_makeSquare_13 : decode cX0_makeSquare 13 = .ok (.iload_n 1, 1) := by decide +kernel
theorem dX0_makeSquare_14 : decode cX0_makeSquare 14 = .ok (.invokevirtual 91, 3) := by decide +kernel
theorem dX0_makeSquare_17 : decode cX0_makeSquare 17 = .ok (.invokevirtual 95, 3) := by decide +kernel
theorem dX0_makeSquare_20 : decode cX0_makeSquare 20 = .ok (.ifCond .ne 5, 3) := by decide +kernel
theorem dX0_makeSquare_23 : decode cX0_makeSquare 23 = .ok (.iconst 0, 1) := by decide +kernel
theorem dX0_makeSquare_24 : decode cX0_makeSquare 24 = .ok (.ireturn, 1) := by decide +kernel
theorem dX0_makeSquare_25 : decode cX0_makeSquare 25 = .ok (.aload_n 0, 1) := by decide +kernel
theorem dX0_makeSquare_26 : decode cX0_makeSquare 26 = .ok (.getfield 24, 3) := by decide +kernel
theorem dX0_makeSquare_29 : decode cX0_makeSquare 29 = .ok (.aload_n 0, 1) := by decide +kernel
theorem dX0_makeSquare_30 : decode cX0_makeSquare 30 = .ok (.getfield 50, 3) := by decide +kernel
theorem dX0_makeSquare_33 : decode cX0_makeSquare 33 = .ok (.aaload, 1) := by decide +kernel
theorem dX0_makeSquare_34 : decode cX0_makeSquare 34 = .ok (.astore_n 2, 1) := by decide +kernel
theorem dX0_makeSquare_35 : decode cX0_makeSquare 35 = .ok (.aload_n 2, 1) := by decide +kernel
theorem dX0_makeSquare_36 : decode cX0_makeSquare 36 = .ok (.iload_n 1, 1) := by decide +kernel
theorem dX0_makeSquare_37 : decode cX0_makeSquare 37 = .ok (.aload_n 0, 1) := by decide +kernel
theorem dX0_makeSquare_38 : decode cX0_makeSquare 38 = .ok (.getfield 12, 3) := by decide +kernel
theorem dX0_makeSquare_41 : decode cX0_makeSquare 41 = .ok (.iload_n 1, 1) := by decide +kernel
theorem dX0_makeSquare_42 : decode cX0_makeSquare 42 = .ok (.iload_n 1, 1) := by decide +kernel
theorem dX0_makeSquare_43 : decode cX0_makeSquare 43 = .ok (.invokevirtual 91, 3) := by decide +kernel
theorem dX0_makeSquare_46 : decode cX0_makeSquare 46 = .ok (.invokevirtual 111, 3) := by decide +kernel
theorem dX0_makeSquare_49 : decode cX0_makeSquare 49 = .ok (.aload_n 0, 1) := by decide +kernel
theorem dX0_makeSquare_50 : decode cX0_makeSquare 50 = .ok (.dup, 1) := by decide +kernel
theorem dX0_makeSquare_51 : decode cX0_makeSquare 51 = .ok (.getfield 50, 3) := by decide +kernel
theorem dX0_makeSquare_54 : decode cX0_makeSquare 54 = .ok (.iconst 1, 1) := by decide +kernel
theorem dX0_makeSquare_55 : decode cX0_makeSquare 55 = .ok (.iadd, 1) := by decide +kernel
theorem dX0_makeSquare_56 : decode cX0_makeSquare 56 = .ok (.putfield 50, 3) := by decide +kernel
theorem dX0_makeSquare_59 : decode cX0_makeSquare 59 = .ok (.aload_n 0, 1) := by decide +kernel
theorem dX0_makeSquare_60 : decode cX0_makeSquare 60 = .ok (.getfield 18, 3) := by decide +kernel
theorem dX0_makeSquare_63 : decode cX0_makeSquare 63 = .ok (.iload_n 1, 1) := by decide +kernel
theorem dX0_makeSquare_64 : decode cX0_makeSquare 64 = .ok (.iconst 0, 1) := by decide +kernel
theorem dX0_makeSquare_65 : decode cX0_makeSquare 65 = .ok (.bastore, 1) := by decide +kernel
theorem dX0_makeSquare_66 : decode cX0_makeSquare 66 = .ok (.iconst 0, 1) := by decide +kernel
theorem dX0_makeSquare_67 : decode cX0_makeSquare 67 = .ok (.istore_n 3, 1) := by decide +kernel
theorem dX0_makeSquare_68 : decode cX0_makeSquare 68 = .ok (.iload_n 3, 1) := by decide +kernel
theorem dX0_makeSquare_69 : decode cX0_makeSquare 69 = .ok (.aload_n 0, 1) := by decide +kernel
theorem dX0_makeSquare_70 : decode cX0_makeSquare 70 = .ok (.getfield 46, 3) := by decide +kernel
theorem dX0_makeSquare_73 : decode cX0_makeSquare 73 = .ok (.if_icmp .gt 50, 3) := by decide +kernel
theorem dX0_makeSquare_76 : decode cX0_makeSquare 76 = .ok (.aload_n 0, 1) := by decide +kernel
theorem dX0_makeSquare_77 : decode cX0_makeSquare 77 = .ok (.getfield 18, 3) := by decide +kernel
theorem dX0_makeSquare_80 : decode cX0_makeSquare 80 = .ok (.iload_n 3, 1) := by decide +kernel
theorem dX0_makeSquare_81 : decode cX0_makeSquare 81 = .ok (.baload, 1) := by decide +kernel
theorem dX0_makeSquare_82 : decode cX0_makeSquare 82 = .ok (.ifCond .eq 35, 3) := by decide +kernel
theorem dX0_makeSquare_85 : decode cX0_makeSquare 85 = .ok (.aload_n 2, 1) := by decide +kernel
theorem dX0_makeSquare_86 : decode cX0_makeSquare 86 = .ok (.getfield 114, 3) := by decide +kernel
theorem dX0_makeSquare_89 : decode cX0_makeSquare 89 = .ok (.iload_n 3, 1) := by decide +kernel
theorem dX0_makeSquare_90 : decode cX0_makeSquare 90 = .ok (.aaload, 1) := by decide +kernel
theorem dX0_makeSquare_91 : decode cX0_makeSquare 91 = .ok (.aload_n 0, 1) := by decide +kernel
theorem dX0_makeSquare_92 : decode cX0_makeSquare 92 = .ok (.getfield 12, 3) := by decide +kernel
theorem dX0_makeSquare_95 : decode cX0_makeSquare 95 = .ok (.iload_n 1, 1) := by decide +kernel
theorem dX0_makeSquare_96 : decode cX0_makeSquare 96 = .ok (.iload_n 3, 1) := by decide +kernel
theorem dX0_makeSquare_97 : decode cX0_makeSquare 97 = .ok (.invokevirtual 91, 3) := by decide +kernel
theorem dX0_makeSquare_100 : decode cX0_makeSquare 100 = .ok (.aload_n 0, 1) := by decide +kernel
theorem dX0_makeSquare_101 : decode cX0_makeSquare 101 = .ok (.getfield 12, 3) := by decide +kernel
theorem dX0_makeSquare_104 : decode cX0_makeSquare 104 = .ok (.iload_n 1, 1) := by decide +kernel
theorem dX0_makeSquare_105 : decode cX0_makeSquare 105 = .ok (.iload_n 1, 1) := by decide +kernel
theorem dX0_makeSquare_106 : decode cX0_makeSquare 106 = .ok (.invokevirtual 91, 3) := by decide +kernel
theorem dX0_makeSquare_109 : decode cX0_makeSquare 109 = .ok (.invokevirtual 117, 3) := by decide +kernel
theorem dX0_makeSquare_112 : decode cX0_makeSquare 112 = .ok (.ifCond .ne 5, 3) := by decide +kernel
theorem dX0_makeSquare_115 : decode cX0_makeSquare 115 = .ok (.iconst 0, 1) := by decide +kernel
theorem dX0_makeSquare_116 : decode cX0_makeSquare 116 = .ok (.ireturn, 1) := by decide +kernel
theorem dX0_makeSquare_117 : decode cX0_makeSquare 117 = .ok (.iinc 3 1, 3) := by decide +kernel
theorem dX0_makeSquare_120 : decode cX0_makeSquare 120 = .ok (.goto (-52), 3) := by decide +kernel
theorem dX0_makeSquare_123 : decode cX0_makeSquare 123 = .ok (.iconst 1, 1) := by decide +kernel
theorem dX0_makeSquare_124 : decode cX0_makeSquare 124 = .ok (.ireturn, 1) := by decide +kernel
theorem dX0_lessen_0 : decode cX0_lessen 0 = .ok (.aload_n 0, 1) := by decide +kernel
theorem dX0_lessen_1 : decode cX0_lessen 1 = .ok (.getfield 24, 3) := by decide +kernel
theorem dX0_lessen_4 : decode cX0_lessen 4 = .ok (.aload_n 0, 1) := by decide +kernel
theorem dX0_lessen_5 : decode cX0_lessen 5 = .ok (.getfield 50, 3) := by decide +kernel
theorem dX0_lessen_8 : decode cX0_lessen 8 = .ok (.iconst 1, 1) := by decide +kernel
theorem dX0_lessen_9 : decode cX0_lessen 9 = .ok (.isub, 1) := by decide +kernel
theorem dX0_lessen_10 : decode cX0_lessen 10 = .ok (.aaload, 1) := by decide +kernel
theorem dX0_lessen_11 : decode cX0_lessen 11 = .ok (.astore_n 2, 1) := by decide +kernel
theorem dX0_lessen_12 : decode cX0_lessen 12 = .ok (.iconst 0, 1) := by decide +kernel
theorem dX0_lessen_13 : decode cX0_lessen 13 = .ok (.istore_n 3, 1) := by decide +kernel
theorem dX0_lessen_14 : decode cX0_lessen 14 = .ok (.iload_n 3, 1) := by decide +kernel
theorem dX0_lessen_15 : decode cX0_lessen 15 = .ok (.aload_n 0, 1) := by decide +kernel
theorem dX0_lessen_16 : decode cX0_lessen 16 = .ok (.getfield 46, 3) := by decide +kernel
theorem dX0_lessen_19 : decode cX0_lessen 19 = .ok (.if_icmp .gt 169, 3) := by decide +kernel
theorem dX0_lessen_22 : decode cX0_lessen 22 = .ok (.iload_n 3, 1) := by decide +kernel
theorem dX0_lessen_23 : decode cX0_lessen 23 = .ok (.aload_n 0, 1) := by decide +kernel
theorem dX0_lessen_24 : decode cX0_lessen 24 = .ok (.getfield 46, 3) := by decide +kernel
theorem dX0_lessen_27 : decode cX0_lessen 27 = .ok (.invokestatic 87, 3) := by decide +kernel
theorem dX0_lessen_30 : decode cX0_lessen 30 = .ok (.istore 4, 2) := by decide +kernel
theorem dX0_lessen_32 : decode cX0_lessen 32 = .ok (.iload_n 3, 1) := by decide +kernel
theorem dX0_lessen_33 : decode cX0_lessen 33 = .ok (.istore 5, 2) := by decide +kernel
theorem dX0_lessen_35 : decode cX0_lessen 35 = .ok (.iload 5, 2) := by decide +kernel
theorem dX0_lessen_37 : decode cX0_lessen 37 = .ok (.aload_n 0, 1) := by decide +kernel
theorem dX0_lessen_38 : decode cX0_lessen 38 = .ok (.getfield 46, 3) := by decide +kernel
theorem dX0_lessen_41 : decode cX0_lessen 41 = .ok (.if_icmp .gt 141, 3) := by decide +kernel
theorem dX0_lessen_44 : decode cX0_lessen 44 = .ok (.iload 5, 2) := by decide +kernel
theorem dX0_lessen_46 : decode cX0_lessen 46 = .ok (.aload_n 0, 1) := by decide +kernel
theorem dX0_lessen_47 : decode cX0_lessen 47 = .ok (.getfield 46, 3) := by decide +kernel
theorem dX0_lessen_50 : decode cX0_lessen 50 = .ok (.invokestatic 87, 3) := by decide +kernel
theorem dX0_lessen_53 : decode cX0_lessen 53 = .ok (.istore 6, 2) := by decide +kernel
theorem dX0_lessen_55 : decode cX0_lessen 55 = .ok (.aload_n 0, 1) := by decide +kernel
theorem dX0_lessen_56 : decode cX0_lessen 56 = .ok (.getfield 18, 3) := by decide +kernel
theorem dX0_lessen_59 : decode cX0_lessen 59 = .ok (.iload 4, 2) := by decide +kernel
theorem dX0_lessen_61 : decode cX0_lessen 61 = .ok (.baload, 1) := by decide +kernel
theorem dX0_lessen_62 : decode cX0_lessen 62 = .ok (.ifCond .eq 114, 3) := by decide +kernel
theorem dX0_lessen_65 : decode cX0_lessen 65 = .ok (.aload_n 0, 1) := by decide +kernel
theorem dX0_lessen_66 : decode cX0_lessen 66 = .ok (.getfield 18, 3) := by decide +kernel
theorem dX0_lessen_69 : decode cX0_lessen 69 = .ok (.iload 6, 2) := by decide +kernel
theorem dX0_lessen_71 : decode cX0_lessen 71 = .ok (.baload, 1) := by decide +kernel
theorem dX0_lessen_72 : decode cX0_lessen 72 = .ok (.ifCond .ne 6, 3) := by decide +kernel
theorem dX0_lessen_75 : decode cX0_lessen 75 = .ok (.goto 101, 3) := by decide +kernel
theorem dX0_lessen_78 : decode cX0_lessen 78 = .ok (.aload_n 0, 1) := by decide +kernel
theorem dX0_lessen_79 : decode cX0_lessen 79 = .ok (.getfield 39, 3) := by decide +kernel
theorem dX0_lessen_82 : decode cX0_lessen 82 = .ok (.aload_n 0, 1) := by decide +kernel
theorem dX0_lessen_83 : decode cX0_lessen 83 = .ok (.getfield 12, 3) := by decide +kernel
theorem dX0_lessen_86 : decode cX0_lessen 86 = .ok (.iload 4, 2) := by decide +kernel
theorem dX0_lessen_88 : decode cX0_lessen 88 = .ok (.iload_n 1, 1) := by decide +kernel
theorem dX0_lessen_89 : decode cX0_lessen 89 = .ok (.invokevirtual 91, 3) := by decide +kernel
theorem dX0_lessen_92 : decode cX0_lessen 92 = .ok (.aload_n 2, 1) := by decide +kernel
theorem dX0_lessen_93 : decode cX0_lessen 93 = .ok (.getfield 114, 3) := by decide +kernel
theorem dX0_lessen_96 : decode cX0_lessen 96 = .ok (.iload 6, 2) := by decide +kernel
theorem dX0_lessen_98 : decode cX0_lessen 98 = .ok (.aaload, 1) := by decide +kernel
theorem dX0_lessen_99 : decode cX0_lessen 99 = .ok (.invokevirtual 121, 3) := by decide +kernel
theorem dX0_lessen_102 : decode cX0_lessen 102 = .ok (.ifCond .eq 39, 3) := by decide +kernel
theorem dX0_lessen_105 : decode cX0_lessen 105 = .ok (.aload_n 0, 1) := by decide +kernel
theorem dX0_lessen_106 : decode cX0_lessen 106 = .ok (.getfield 12, 3) := by decide +kernel
theorem dX0_lessen_109 : decode cX0_lessen 109 = .ok (.iload 4, 2) := by decide +kernel
theorem dX0_lessen_111 : decode cX0_lessen 111 = .ok (.iload 6, 2) := by decide +kernel
theorem dX0_lessen_113 : decode cX0_lessen 113 = .ok (.invokevirtual 91, 3) := by decide +kernel
theorem dX0_lessen_116 : decode cX0_lessen 116 = .ok (.aload_n 0, 1) := by decide +kernel
theorem dX0_lessen_117 : decode cX0_lessen 117 = .ok (.getfield 12, 3) := by decide +kernel
theorem dX0_lessen_120 : decode cX0_lessen 120 = .ok (.iload 4, 2) := by decide +kernel
theorem dX0_lessen_122 : decode cX0_lessen 122 = .ok (.iload 6, 2) := by decide +kernel
theorem dX0_lessen_124 : decode cX0_lessen 124 = .ok (.invokevirtual 91, 3) := by decide +kernel
theorem dX0_lessen_127 : decode cX0_lessen 127 = .ok (.aload_n 0, 1) := by decide +kernel
theorem dX0_lessen_128 : decode cX0_lessen 128 = .ok (.getfield 39, 3) := by decide +kernel
theorem dX0_lessen_131 : decode cX0_lessen 131 = .ok (.invokevirtual 123, 3) := by decide +kernel
theorem dX0_lessen_134 : decode cX0_lessen 134 = .ok (.ifCond .eq 7, 3) := by decide +kernel
theorem dX0_lessen_137 : decode cX0_lessen 137 = .ok (.iconst 1, 1) := by decide +kernel
theorem dX0_lessen_138 : decode cX0_lessen 138 = .ok (.goto 4, 3) := by decide +kernel
theorem dX0_lessen_141 : decode cX0_lessen 141 = .ok (.iconst 0, 1) := by decide +kernel
theorem dX0_lessen_142 : decode cX0_lessen 142 = .ok (.istore 7, 2) := by decide +kernel
theorem dX0_lessen_144 : decode cX0_lessen 144 = .ok (.iload 7, 2) := by decide +kernel
theorem dX0_lessen_146 : decode cX0_lessen 146 = .ok (.ifCond .ne 5, 3) := by decide +kernel
theorem dX0_lessen_149 : decode cX0_lessen 149 = .ok (.iconst 0, 1) := by decide +kernel
theorem dX0_lessen_150 : decode cX0_lessen 150 = .ok (.ireturn, 1) := by decide +kernel
theorem dX0_lessen_151 : decode cX0_lessen 151 = .ok (.aload_n 0, 1) := by decide +kernel
theorem dX0_lessen_152 : decode cX0_lessen 152 = .ok (.getfield 12, 3) := by decide +kernel
theorem dX0_lessen_155 : decode cX0_lessen 155 = .ok (.iload 6, 2) := by decide +kernel
theorem dX0_lessen_157 : decode cX0_lessen 157 = .ok (.iload 4, 2) := by decide +kernel
theorem dX0_lessen_159 : decode cX0_lessen 159 = .ok (.invokevirtual 91, 3) := by decide +kernel
theorem dX0_lessen_162 : decode cX0_lessen 162 = .ok (.aload_n 0, 1) := by decide +kernel
theorem dX0_lessen_163 : decode cX0_lessen 163 = .ok (.getfield 12, 3) := by decide +kernel
theorem dX0_lessen_166 : decode cX0_lessen 166 = .ok (.iload 4, 2) := by decide +kernel
theorem dX0_lessen_168 : decode cX0_lessen 168 = .ok (.iload 6, 2) := by decide +kernel
theorem dX0_lessen_170 : decode cX0_lessen 170 = .ok (.invokevirtual 91, 3) := by decide +kernel
theorem dX0_lessen_173 : decode cX0_lessen 173 = .ok (.invokevirtual 126, 3) := by decide +kernel
theorem dX0_lessen_176 : decode cX0_lessen 176 = .ok (.iinc 5 1, 3) := by decide +kernel
theorem dX0_lessen_179 : decode cX0_lessen 179 = .ok (.goto (-144), 3) := by decide +kernel
theorem dX0_lessen_182 : decode cX0_lessen 182 = .ok (.iinc 3 1, 3) := by decide +kernel
theorem dX0_lessen_185 : decode cX0_lessen 185 = .ok (.goto (-171), 3) := by decide +kernel
theorem dX0_lessen_188 : decode cX0_lessen 188 = .ok (.iconst 1, 1) := by decide +kernel
theorem dX0_lessen_189 : decode cX0_lessen 189 = .ok (.ireturn, 1) := by decide +kernel
theorem dX0_clearWitness_0 : decode cX0_clearWitness 0 = .ok (.iconst 0, 1) := by decide +kernel
theorem dX0_clearWitness_1 : decode cX0_clearWitness 1 = .ok (.istore_n 1, 1) := by decide +kernel
theorem dX0_clearWitness_2 : decode cX0_clearWitness 2 = .ok (.iload_n 1, 1) := by decide +kernel
theorem dX0_clearWitness_3 : decode cX0_clearWitness 3 = .ok (.iconst 5, 1) := by decide +kernel
theorem dX0_clearWitness_4 : decode cX0_clearWitness 4 = .ok (.if_icmp .ge 21, 3) := by decide +kernel
theorem dX0_clearWitness_7 : decode cX0_clearWitness 7 = .ok (.aload_n 0, 1) := by decide +kernel
theorem dX0_clearWitness_8 : decode cX0_clearWitness 8 = .ok (.getfield 32, 3) := by decide +kernel
theorem dX0_clearWitness_11 : decode cX0_clearWitness 11 = .ok (.iload_n 1, 1) := by decide +kernel
theorem dX0_clearWitness_12 : decode cX0_clearWitness 12 = .ok (.aaload, 1) := by decide +kernel
theorem dX0_clearWitness_13 : decode cX0_clearWitness 13 = .ok (.lconst 0, 1) := by decide +kernel
theorem dX0_clearWitness_14 : decode cX0_clearWitness 14 = .ok (.lconst 1, 1) := by decide +kernel
theorem dX0_clearWitness_15 : decode cX0_clearWitness 15 = .ok (.invokevirtual 102, 3) := by decide +kernel
theorem dX0_clearWitness_18 : decode cX0_clearWitness 18 = .ok (.pop, 1) := by decide +kernel
theorem dX0_clearWitness_19 : decode cX0_clearWitness 19 = .ok (.iinc 1 1, 3) := by decide +kernel
theorem dX0_clearWitness_22 : decode cX0_clearWitness 22 = .ok (.goto (-20), 3) := by decide +kernel
theorem dX0_clearWitness_25 : decode cX0_clearWitness 25 = .ok (.return_, 1) := by decide +kernel
theorem dX0_goBack_0 : decode cX0_goBack 0 = .ok (.aload_n 0, 1) := by decide +kernel
theorem dX0_goBack_1 : decode cX0_goBack 1 = .ok (.getfield 50, 3) := by decide +kernel
theorem dX0_goBack_4 : decode cX0_goBack 4 = .ok (.iconst 1, 1) := by decide +kernel
theorem dX0_goBack_5 : decode cX0_goBack 5 = .ok (.isub, 1) := by decide +kernel
theorem dX0_goBack_6 : decode cX0_goBack 6 = .ok (.istore_n 1, 1) := by decide +kernel
theorem dX0_goBack_7 : decode cX0_goBack 7 = .ok (.iload_n 1, 1) := by decide +kernel
theorem dX0_goBack_8 : decode cX0_goBack 8 = .ok (.ifCond .lt 54, 3) := by decide +kernel
theorem dX0_goBack_11 : decode cX0_goBack 11 = .ok (.aload_n 0, 1) := by decide +kernel
theorem dX0_goBack_12 : decode cX0_goBack 12 = .ok (.getfield 24, 3) := by decide +kernel
theorem dX0_goBack_15 : decode cX0_goBack 15 = .ok (.iload_n 1, 1) := by decide +kernel
theorem dX0_goBack_16 : decode cX0_goBack 16 = .ok (.aaload, 1) := by decide +kernel
theorem dX0_goBack_17 : decode cX0_goBack 17 = .ok (.astore_n 2, 1) := by decide +kernel
theorem dX0_goBack_18 : decode cX0_goBack 18 = .ok (.aload_n 0, 1) := by decide +kernel
theorem dX0_goBack_19 : decode cX0_goBack 19 = .ok (.aload_n 2, 1) := by decide +kernel
theorem dX0_goBack_20 : decode cX0_goBack 20 = .ok (.invokevirtual 129, 3) := by decide +kernel
theorem dX0_goBack_23 : decode cX0_goBack 23 = .ok (.ifCond .ne 5, 3) := by decide +kernel
theorem dX0_goBack_26 : decode cX0_goBack 26 = .ok (.iconst 0, 1) := by decide +kernel
theorem dX0_goBack_27 : decode cX0_goBack 27 = .ok (.ireturn, 1) := by decide +kernel
theorem dX0_goBack_28 : decode cX0_goBack 28 = .ok (.aload_n 0, 1) := by decide +kernel
theorem dX0_goBack_29 : decode cX0_goBack 29 = .ok (.getfield 32, 3) := by decide +kernel
theorem dX0_goBack_32 : decode cX0_goBack 32 = .ok (.aload_n 2, 1) := by decide +kernel
theorem dX0_goBack_33 : decode cX0_goBack 33 = .ok (.getfield 133, 3) := by decide +kernel
theorem dX0_goBack_36 : decode cX0_goBack 36 = .ok (.aaload, 1) := by decide +kernel
theorem dX0_goBack_37 : decode cX0_goBack 37 = .ok (.aload_n 0, 1) := by decide +kernel
theorem dX0_goBack_38 : decode cX0_goBack 38 = .ok (.getfield 43, 3) := by decide +kernel
theorem dX0_goBack_41 : decode cX0_goBack 41 = .ok (.getfield 136, 3) := by decide +kernel
theorem dX0_goBack_44 : decode cX0_goBack 44 = .ok (.lneg, 1) := by decide +kernel
theorem dX0_goBack_45 : decode cX0_goBack 45 = .ok (.aload_n 0, 1) := by decide +kernel
theorem dX0_goBack_46 : decode cX0_goBack 46 = .ok (.getfield 43, 3) := by decide +kernel
theorem dX0_goBack_49 : decode cX0_goBack 49 = .ok (.getfield 140, 3) := by decide +kernel
theorem dX0_goBack_52 : decode cX0_goBack 52 = .ok (.invokevirtual 102, 3) := by decide +kernel
theorem dX0_goBack_55 : decode cX0_goBack 55 = .ok (.pop, 1) := by decide +kernel
theorem dX0_goBack_56 : decode cX0_goBack 56 = .ok (.iinc 1 (-1), 3) := by decide +kernel
theorem dX0_goBack_59 : decode cX0_goBack 59 = .ok (.goto (-52), 3) := by decide +kernel
theorem dX0_goBack_62 : decode cX0_goBack 62 = .ok (.iconst 1, 1) := by decide +kernel
theorem dX0_goBack_63 : decode cX0_goBack 63 = .ok (.ireturn, 1) := by decide +kernel
theorem dX0_sumOfOthers_0 : decode cX0_sumOfOthers 0 = .ok (.aload_n 0, 1) := by decide +kernel
theorem dX0_sumOfOthers_1 : decode cX0_sumOfOthers 1 = .ok (.getfield 43, 3) := by decide +kernel
theorem dX0_sumOfOthers_4 : decode cX0_sumOfOthers 4 = .ok (.lconst 0, 1) := by decide +kernel
theorem dX0_sumOfOthers_5 : decode cX0_sumOfOthers 5 = .ok (.lconst 1, 1) := by decide +kernel
theorem dX0_sumOfOthers_6 : decode cX0_sumOfOthers 6 = .ok (.invokevirtual 102, 3) := by decide +kernel
theorem dX0_sumOfOthers_9 : decode cX0_sumOfOthers 9 = .ok (.pop, 1) := by decide +kernel
theorem dX0_sumOfOthers_10 : decode cX0_sumOfOthers 10 = .ok (.iconst 0, 1) := by decide +kernel
theorem dX0_sumOfOthers_11 : decode cX0_sumOfOthers 11 = .ok (.istore_n 2, 1) := by decide +kernel
theorem dX0_sumOfOthers_12 : decode cX0_sumOfOthers 12 = .ok (.iload_n 2, 1) := by decide +kernel
theorem dX0_sumOfOthers_13 : decode cX0_sumOfOthers 13 = .ok (.aload_n 0, 1) := by decide +kernel
theorem dX0_sumOfOthers_14 : decode cX0_sumOfOthers 14 = .ok (.getfield 46, 3) := by decide +kernel
theorem dX0_sumOfOthers_17 : decode cX0_sumOfOthers 17 = .ok (.if_icmp .gt 71, 3) := by decide +kernel
theorem dX0_sumOfOthers_20 : decode cX0_sumOfOthers 20 = .ok (.iload_n 2, 1) := by decide +kernel
theorem dX0_sumOfOthers_21 : decode cX0_sumOfOthers 21 = .ok (.aload_n 0, 1) := by decide +kernel
theorem dX0_sumOfOthers_22 : decode cX0_sumOfOthers 22 = .ok (.getfield 46, 3) := by decide +kernel
theorem dX0_sumOfOthers_25 : decode cX0_sumOfOthers 25 = .ok (.invokestatic 87, 3) := by decide +kernel
theorem dX0_sumOfOthers_28 : decode cX0_sumOfOthers 28 = .ok (.istore_n 3, 1) := by decide +kernel
theorem dX0_sumOfOthers_29 : decode cX0_sumOfOthers 29 = .ok (.iload_n 3, 1) := by decide +kernel
theorem dX0_sumOfOthers_30 : decode cX0_sumOfOthers 30 = .ok (.aload_n 1, 1) := by decide +kernel
theorem dX0_sumOfOthers_31 : decode cX0_sumOfOthers 31 = .ok (.getfield 133, 3) := by decide +kernel
theorem dX0_sumOfOthers_34 : decode cX0_sumOfOthers 34 = .ok (.if_icmp .ne 6, 3) := by decide +kernel
theorem dX0_sumOfOthers_37 : decode cX0_sumOfOthers 37 = .ok (.goto 45, 3) := by decide +kernel
theorem dX0_sumOfOthers_40 : decode cX0_sumOfOthers 40 = .ok (.aload_n 0, 1) := by decide +kernel
theorem dX0_sumOfOthers_41 : decode cX0_sumOfOthers 41 = .ok (.getfield 39, 3) := by decide +kernel
theorem dX0_sumOfOthers_44 : decode cX0_sumOfOthers 44 = .ok (.aload_n 1, 1) := by decide +kernel
theorem dX0_sumOfOthers_45 : decode cX0_sumOfOthers 45 = .ok (.getfield 114, 3) := by decide +kernel
theorem dX0_sumOfOthers_48 : decode cX0_sumOfOthers 48 = .ok (.iload_n 3, 1) := by decide +kernel
theorem dX0_sumOfOthers_49 : decode cX0_sumOfOthers 49 = .ok (.aaload, 1) := by decide +kernel
theorem dX0_sumOfOthers_50 : decode cX0_sumOfOthers 50 = .ok (.aload_n 0, 1) := by decide +kernel
theorem dX0_sumOfOthers_51 : decode cX0_sumOfOthers 51 = .ok (.getfield 32, 3) := by decide +kernel
theorem dX0_sumOfOthers_54 : decode cX0_sumOfOthers 54 = .ok (.iload_n 3, 1) := by decide +kernel
theorem dX0_sumOfOthers_55 : decode cX0_sumOfOthers 55 = .ok (.aaload, 1) := by decide +kernel
theorem dX0_sumOfOthers_56 : decode cX0_sumOfOthers 56 = .ok (.invokevirtual 121, 3) := by decide +kernel
theorem dX0_sumOfOthers_59 : decode cX0_sumOfOthers 59 = .ok (.ifCond .eq 21, 3) := by decide +kernel
theorem dX0_sumOfOthers_62 : decode cX0_sumOfOthers 62 = .ok (.aload_n 0, 1) := by decide +kernel
theorem dX0_sumOfOthers_63 : decode cX0_sumOfOthers 63 = .ok (.getfield 43, 3) := by decide +kernel
theorem dX0_sumOfOthers_66 : decode cX0_sumOfOthers 66 = .ok (.aload_n 0, 1) := by decide +kernel
theorem dX0_sumOfOthers_67 : decode cX0_sumOfOthers 67 = .ok (.getfield 43, 3) := by decide +kernel
theorem dX0_sumOfOthers_70 : decode cX0_sumOfOthers 70 = .ok (.aload_n 0, 1) := by decide +kernel
theorem dX0_sumOfOthers_71 : decode cX0_sumOfOthers 71 = .ok (.getfield 39, 3) := by decide +kernel
theorem dX0_sumOfOthers_74 : decode cX0_sumOfOthers 74 = .ok (.invokevirtual 143, 3) := by decide +kernel
theorem dX0_sumOfOthers_77 : decode cX0_sumOfOthers 77 = .ok (.ifCond .ne 5, 3) := by decide +kernel
theorem dX0_sumOfOthers_80 : decode cX0_sumOfOthers 80 = .ok (.iconst 0, 1) := by decide +kernel
theorem dX0_sumOfOthers_81 : decode cX0_sumOfOthers 81 = .ok (.ireturn, 1) := by decide +kernel
theorem dX0_sumOfOthers_82 : decode cX0_sumOfOthers 82 = .ok (.iinc 2 1, 3) := by decide +kernel
theorem dX0_sumOfOthers_85 : decode cX0_sumOfOthers 85 = .ok (.goto (-73), 3) := by decide +kernel
theorem dX0_sumOfOthers_88 : decode cX0_sumOfOthers 88 = .ok (.iconst 1, 1) := by decide +kernel
theorem dX0_sumOfOthers_89 : decode cX0_sumOfOthers 89 = .ok (.ireturn, 1) := by decide +kernel
theorem dX1_init_0 : decode cX1_init 0 = .ok (.aload_n 0, 1) := by decide +kernel
theorem dX1_init_1 : decode cX1_init 1 = .ok (.invokespecial 3, 3) := by decide +kernel
theorem dX1_init_4 : decode cX1_init 4 = .ok (.aload_n 0, 1) := by decide +kernel
theorem dX1_init_5 : decode cX1_init 5 = .ok (.bipush 25, 2) := by decide +kernel
theorem dX1_init_7 : decode cX1_init 7 = .ok (.newarray .int, 2) := by decide +kernel
theorem dX1_init_9 : decode cX1_init 9 = .ok (.putfield 9, 3) := by decide +kernel
theorem dX1_init_12 : decode cX1_init 12 = .ok (.return_, 1) := by decide +kernel
theorem dX1_clear_0 : decode cX1_clear 0 = .ok (.aload_n 0, 1) := by decide +kernel
theorem dX1_clear_1 : decode cX1_clear 1 = .ok (.getfield 9, 3) := by decide +kernel
theorem dX1_clear_4 : decode cX1_clear 4 = .ok (.iconst 0, 1) := by decide +kernel
theorem dX1_clear_5 : decode cX1_clear 5 = .ok (.invokestatic 15, 3) := by decide +kernel
theorem dX1_clear_8 : decode cX1_clear 8 = .ok (.return_, 1) := by decide +kernel
theorem dX1_number_0 : decode cX1_number 0 = .ok (.aload_n 0, 1) := by decide +kernel
theorem dX1_number_1 : decode cX1_number 1 = .ok (.getfield 9, 3) := by decide +kernel
theorem dX1_number_4 : decode cX1_number 4 = .ok (.iload_n 1, 1) := by decide +kernel
theorem dX1_number_5 : decode cX1_number 5 = .ok (.iload_n 2, 1) := by decide +kernel
theorem dX1_number_6 : decode cX1_number 6 = .ok (.invokestatic 21, 3) := by decide +kernel
theorem dX1_number_9 : decode cX1_number 9 = .ok (.iconst 5, 1) := by decide +kernel
theorem dX1_number_10 : decode cX1_number 10 = .ok (.imul, 1) := by decide +kernel
theorem dX1_number_11 : decode cX1_number 11 = .ok (.iload_n 1, 1) := by decide +kernel
theorem dX1_number_12 : decode cX1_number 12 = .ok (.iload_n 2, 1) := by decide +kernel
theorem dX1_number_13 : decode cX1_number 13 = .ok (.invokestatic 27, 3) := by decide +kernel
theorem dX1_number_16 : decode cX1_number 16 = .ok (.iadd, 1) := by decide +kernel
theorem dX1_number_17 : decode cX1_number 17 = .ok (.iaload, 1) := by decide +kernel
theorem dX1_number_18 : decode cX1_number 18 = .ok (.ireturn, 1) := by decide +kernel
theorem dX1_replace_0 : decode cX1_replace 0 = .ok (.aload_n 0, 1) := by decide +kernel
theorem dX1_replace_1 : decode cX1_replace 1 = .ok (.iload_n 1, 1) := by decide +kernel
theorem dX1_replace_2 : decode cX1_replace 2 = .ok (.iload_n 2, 1) := by decide +kernel
theorem dX1_replace_3 : decode cX1_replace 3 = .ok (.invokevirtual 30, 3) := by decide +kernel
theorem dX1_replace_6 : decode cX1_replace 6 = .ok (.istore 4, 2) := by decide +kernel
theorem dX1_replace_8 : decode cX1_replace 8 = .ok (.aload_n 0, 1) := by decide +kernel
theorem dX1_replace_9 : decode cX1_replace 9 = .ok (.getfield 9, 3) := by decide +kernel
theorem dX1_replace_12 : decode cX1_replace 12 = .ok (.iload_n 1, 1) := by decide +kernel
theorem dX1_replace_13 : decode cX1_replace 13 = .ok (.iload_n 2, 1) := by decide +kernel
theorem dX1_replace_14 : decode cX1_replace 14 = .ok (.invokestatic 21, 3) := by decide +kernel
theorem dX1_replace_17 : decode cX1_replace 17 = .ok (.iconst 5, 1) := by decide +kernel
theorem dX1_replace_18 : decode cX1_replace 18 = .ok (.imul, 1) := by decide +kernel
theorem dX1_replace_19 : decode cX1_replace 19 = .ok (.iload_n 1, 1) := by decide +kernel
theorem dX1_replace_20 : decode cX1_replace 20 = .ok (.iload_n 2, 1) := by decide +kernel
theorem dX1_replace_21 : decode cX1_replace 21 = .ok (.invokestatic 27, 3) := by decide +kernel
theorem dX1_replace_24 : decode cX1_replace 24 = .ok (.iadd, 1) := by decide +kernel
theorem dX1_replace_25 : decode cX1_replace 25 = .ok (.iload_n 3, 1) := by decide +kernel
theorem dX1_replace_26 : decode cX1_replace 26 = .ok (.iastore, 1) := by decide +kernel
theorem dX1_replace_27 : decode cX1_replace 27 = .ok (.iload 4, 2) := by decide +kernel
theorem dX1_replace_29 : decode cX1_replace 29 = .ok (.ireturn, 1) := by decide +kernel
theorem dX1_atWhole_0 : decode cX1_atWhole 0 = .ok (.lconst 0, 1) := by decide +kernel
theorem dX1_atWhole_1 : decode cX1_atWhole 1 = .ok (.lstore_n 3, 1) := by decide +kernel
theorem dX1_atWhole_2 : decode cX1_atWhole 2 = .ok (.iconst 0, 1) := by decide +kernel
theorem dX1_atWhole_3 : decode cX1_atWhole 3 = .ok (.istore 5, 2) := by decide +kernel
theorem dX1_atWhole_5 : decode cX1_atWhole 5 = .ok (.iload 5, 2) := by decide +kernel
theorem dX1_atWhole_7 : decode cX1_atWhole 7 = .ok (.iload_n 2, 1) := by decide +kernel
theorem dX1_atWhole_8 : decode cX1_atWhole 8 = .ok (.if_icmp .gt 61, 3) := by decide +kernel
theorem dX1_atWhole_11 : decode cX1_atWhole 11 = .ok (.lconst 0, 1) := by decide +kernel
theorem dX1_atWhole_12 : decode cX1_atWhole 12 = .ok (.lstore 6, 2) := by decide +kernel
theorem dX1_atWhole_14 : decode cX1_atWhole 14 = .ok (.iload 5, 2) := by decide +kernel
theorem dX1_atWhole_16 : decode cX1_atWhole 16 = .ok (.istore 8, 2) := by decide +kernel
theorem dX1_atWhole_18 : decode cX1_atWhole 18 = .ok (.iload 8, 2) := by decide +kernel
theorem dX1_atWhole_20 : decode cX1_atWhole 20 = .ok (.iload_n 2, 1) := by decide +kernel
theorem dX1_atWhole_21 : decode cX1_atWhole 21 = .ok (.if_icmp .gt 32, 3) := by decide +kernel
theorem dX1_atWhole_24 : decode cX1_atWhole 24 = .ok (.lload 6, 2) := by decide +kernel
theorem dX1_atWhole_26 : decode cX1_atWhole 26 = .ok (.aload_n 0, 1) := by decide +kernel
theorem dX1_atWhole_27 : decode cX1_atWhole 27 = .ok (.getfield 9, 3) := by decide +kernel
theorem dX1_atWhole_30 : decode cX1_atWhole 30 = .ok (.iload 5, 2) := by decide +kernel
theorem dX1_atWhole_32 : decode cX1_atWhole 32 = .ok (.iconst 5, 1) := by decide +kernel
theorem dX1_atWhole_33 : decode cX1_atWhole 33 = .ok (.imul, 1) := by decide +kernel
theorem dX1_atWhole_34 : decode cX1_atWhole 34 = .ok (.iload 8, 2) := by decide +kernel
theorem dX1_atWhole_36 : decode cX1_atWhole 36 = .ok (.iadd, 1) := by decide +kernel
theorem dX1_atWhole_37 : decode cX1_atWhole 37 = .ok (.iaload, 1) := by decide +kernel
theorem dX1_atWhole_38 : decode cX1_atWhole 38 = .ok (.i2l, 1) := by decide +kernel
theorem dX1_atWhole_39 : decode cX1_atWhole 39 = .ok (.aload_n 1, 1) := by decide +kernel
theorem dX1_atWhole_40 : decode cX1_atWhole 40 = .ok (.iload 8, 2) := by decide +kernel
theorem dX1_atWhole_42 : decode cX1_atWhole 42 = .ok (.laload, 1) := by decide +kernel
theorem dX1_atWhole_43 : decode cX1_atWhole 43 = .ok (.lmul, 1) := by decide +kernel
theorem dX1_atWhole_44 : decode cX1_atWhole 44 = .ok (.ladd, 1) := by decide +kernel
theorem dX1_atWhole_45 : decode cX1_atWhole 45 = .ok (.lstore 6, 2) := by decide +kernel
theorem dX1_atWhole_47 : decode cX1_atWhole 47 = .ok (.iinc 8 1, 3) := by decide +kernel
theorem dX1_atWhole_50 : decode cX1_atWhole 50 = .ok (.goto (-32), 3) := by decide +kernel
theorem dX1_atWhole_53 : decode cX1_atWhole 53 = .ok (.lload_n 3, 1) := by decide +kernel
theorem dX1_atWhole_54 : decode cX1_atWhole 54 = .ok (.lload 6, 2) := by decide +kernel
theorem dX1_atWhole_56 : decode cX1_atWhole 56 = .ok (.aload_n 1, 1) := by decide +kernel
theorem dX1_atWhole_57 : decode cX1_atWhole 57 = .ok (.iload 5, 2) := by decide +kernel
theorem dX1_atWhole_59 : decode cX1_atWhole 59 = .ok (.laload, 1) := by decide +kernel
theorem dX1_atWhole_60 : decode cX1_atWhole 60 = .ok (.lmul, 1) := by decide +kernel
theorem dX1_atWhole_61 : decode cX1_atWhole 61 = .ok (.ladd, 1) := by decide +kernel
theorem dX1_atWhole_62 : decode cX1_atWhole 62 = .ok (.lstore_n 3, 1) := by decide +kernel
theorem dX1_atWhole_63 : decode cX1_atWhole 63 = .ok (.iinc 5 1, 3) := by decide +kernel
theorem dX1_atWhole_66 : decode cX1_atWhole 66 = .ok (.goto (-61), 3) := by decide +kernel
theorem dX1_atWhole_69 : decode cX1_atWhole 69 = .ok (.lload_n 3, 1) := by decide +kernel
theorem dX1_atWhole_70 : decode cX1_atWhole 70 = .ok (.lreturn, 1) := by decide +kernel
theorem dX2_init_0 : decode cX2_init 0 = .ok (.aload_n 0, 1) := by decide +kernel
theorem dX2_init_1 : decode cX2_init 1 = .ok (.invokespecial 3, 3) := by decide +kernel
theorem dX2_init_4 : decode cX2_init 4 = .ok (.aload_n 0, 1) := by decide +kernel
theorem dX2_init_5 : decode cX2_init 5 = .ok (.lconst 0, 1) := by decide +kernel
theorem dX2_init_6 : decode cX2_init 6 = .ok (.putfield 9, 3) := by decide +kernel
theorem dX2_init_9 : decode cX2_init 9 = .ok (.aload_n 0, 1) := by decide +kernel
theorem dX2_init_10 : decode cX2_init 10 = .ok (.lconst 1, 1) := by decide +kernel
theorem dX2_init_11 : decode cX2_init 11 = .ok (.putfield 15, 3) := by decide +kernel
theorem dX2_init_14 : decode cX2_init 14 = .ok (.return_, 1) := by decide +kernel
theorem dX2_put_0 : decode cX2_put 0 = .ok (.lload_n 1, 1) := by decide +kernel
theorem dX2_put_1 : decode cX2_put 1 = .ok (.ldc2_w 18, 3) := by decide +kernel
theorem dX2_put_4 : decode cX2_put 4 = .ok (.lcmp, 1) := by decide +kernel
theorem dX2_put_5 : decode cX2_put 5 = .ok (.ifCond .eq 17, 3) := by decide +kernel
theorem dX2_put_8 : decode cX2_put 8 = .ok (.lload_n 3, 1) := by decide +kernel
theorem dX2_put_9 : decode cX2_put 9 = .ok (.ldc2_w 18, 3) := by decide +kernel
theorem dX2_put_12 : decode cX2_put 12 = .ok (.lcmp, 1) := by decide +kernel
theorem dX2_put_13 : decode cX2_put 13 = .ok (.ifCond .eq 9, 3) := by decide +kernel
theorem dX2_put_16 : decode cX2_put 16 = .ok (.lload_n 3, 1) := by decide +kernel
theorem dX2_put_17 : decode cX2_put 17 = .ok (.lconst 0, 1) := by decide +kernel
theorem dX2_put_18 : decode cX2_put 18 = .ok (.lcmp, 1) := by decide +kernel
theorem dX2_put_19 : decode cX2_put 19 = .ok (.ifCond .ne 5, 3) := by decide +kernel
theorem dX2_put_22 : decode cX2_put 22 = .ok (.iconst 0, 1) := by decide +kernel
theorem dX2_put_23 : decode cX2_put 23 = .ok (.ireturn, 1) := by decide +kernel
theorem dX2_put_24 : decode cX2_put 24 = .ok (.lload_n 1, 1) := by decide +kernel
theorem dX2_put_25 : decode cX2_put 25 = .ok (.lload_n 3, 1) := by decide +kernel
theorem dX2_put_26 : decode cX2_put 26 = .ok (.invokestatic 20, 3) := by decide +kernel
theorem dX2_put_29 : decode cX2_put 29 = .ok (.lstore 5, 2) := by decide +kernel
theorem dX2_put_31 : decode cX2_put 31 = .ok (.lload 5, 2) := by decide +kernel
theorem dX2_put_33 : decode cX2_put 33 = .ok (.lconst 0, 1) := by decide +kernel
theorem dX2_put_34 : decode cX2_put 34 = .ok (.lcmp, 1) := by decide +kernel
theorem dX2_put_35 : decode cX2_put 35 = .ok (.ifCond .ne 5, 3) := by decide +kernel
theorem dX2_put_38 : decode cX2_put 38 = .ok (.iconst 0, 1) := by decide +kernel
theorem dX2_put_39 : decode cX2_put 39 = .ok (.ireturn, 1) := by decide +kernel
theorem dX2_put_40 : decode cX2_put 40 = .ok (.lload_n 3, 1) := by decide +kernel
theorem dX2_put_41 : decode cX2_put 41 = .ok (.lconst 0, 1) := by decide +kernel
theorem dX2_put_42 : decode cX2_put 42 = .ok (.lcmp, 1) := by decide +kernel
theorem dX2_put_43 : decode cX2_put 43 = .ok (.ifCond .ge 8, 3) := by decide +kernel
theorem dX2_put_46 : decode cX2_put 46 = .ok (.lload 5, 2) := by decide +kernel
theorem dX2_put_48 : decode cX2_put 48 = .ok (.lneg, 1) := by decide +kernel
theorem dX2_put_49 : decode cX2_put 49 = .ok (.lstore 5, 2) := by decide +kernel
theorem dX2_put_51 : decode cX2_put 51 = .ok (.aload_n 0, 1) := by decide +kernel
theorem dX2_put_52 : decode cX2_put 52 = .ok (.lload_n 1, 1) := by decide +kernel
theorem dX2_put_53 : decode cX2_put 53 = .ok (.lload 5, 2) := by decide +kernel
theorem dX2_put_55 : decode cX2_put 55 = .ok (.ldiv, 1) := by decide +kernel
theorem dX2_put_56 : decode cX2_put 56 = .ok (.putfield 9, 3) := by decide +kernel
theorem dX2_put_59 : decode cX2_put 59 = .ok (.aload_n 0, 1) := by decide +kernel
theorem dX2_put_60 : decode cX2_put 60 = .ok (.lload_n 3, 1) := by decide +kernel
theorem dX2_put_61 : decode cX2_put 61 = .ok (.lload 5, 2) := by decide +kernel
theorem dX2_put_63 : decode cX2_put 63 = .ok (.ldiv, 1) := by decide +kernel
theorem dX2_put_64 : decode cX2_put 64 = .ok (.putfield 15, 3) := by decide +kernel
theorem dX2_put_67 : decode cX2_put 67 = .ok (.iconst 1, 1) := by decide +kernel
theorem dX2_put_68 : decode cX2_put 68 = .ok (.ireturn, 1) := by decide +kernel
theorem dX2_copy_0 : decode cX2_copy 0 = .ok (.aload_n 0, 1) := by decide +kernel
theorem dX2_copy_1 : decode cX2_copy 1 = .ok (.aload_n 1, 1) := by decide +kernel
theorem dX2_copy_2 : decode cX2_copy 2 = .ok (.getfield 9, 3) := by decide +kernel
theorem dX2_copy_5 : decode cX2_copy 5 = .ok (.putfield 9, 3) := by decide +kernel
theorem dX2_copy_8 : decode cX2_copy 8 = .ok (.aload_n 0, 1) := by decide +kernel
theorem dX2_copy_9 : decode cX2_copy 9 = .ok (.aload_n 1, 1) := by decide +kernel
theorem dX2_copy_10 : decode cX2_copy 10 = .ok (.getfield 15, 3) := by decide +kernel
theorem dX2_copy_13 : decode cX2_copy 13 = .ok (.putfield 15, 3) := by decide +kernel
theorem dX2_copy_16 : decode cX2_copy 16 = .ok (.return_, 1) := by decide +kernel
theorem dX2_sum_0 : decode cX2_sum 0 = .ok (.aload_n 0, 1) := by decide +kernel
theorem dX2_sum_1 : decode cX2_sum 1 = .ok (.aload_n 1, 1) := by decide +kernel
theorem dX2_sum_2 : decode cX2_sum 2 = .ok (.getfield 9, 3) := by decide +kernel
theorem dX2_sum_5 : decode cX2_sum 5 = .ok (.aload_n 2, 1) := by decide +kernel
theorem dX2_sum_6 : decode cX2_sum 6 = .ok (.getfield 15, 3) := by decide +kernel
theorem dX2_sum_9 : decode cX2_sum 9 = .ok (.invokestatic 24, 3) := by decide +kernel
theorem dX2_sum_12 : decode cX2_sum 12 = .ok (.aload_n 2, 1) := by decide +kernel
theorem dX2_sum_13 : decode cX2_sum 13 = .ok (.getfield 9, 3) := by decide +kernel
theorem dX2_sum_16 : decode cX2_sum 16 = .ok (.aload_n 1, 1) := by decide +kernel
theorem dX2_sum_17 : decode cX2_sum 17 = .ok (.getfield 15, 3) := by decide +kernel
theorem dX2_sum_20 : decode cX2_sum 20 = .ok (.invokestatic 24, 3) := by decide +kernel
theorem dX2_sum_23 : decode cX2_sum 23 = .ok (.invokestatic 27, 3) := by decide +kernel
theorem dX2_sum_26 : decode cX2_sum 26 = .ok (.aload_n 1, 1) := by decide +kernel
theorem dX2_sum_27 : decode cX2_sum 27 = .ok (.getfield 15, 3) := by decide +kernel
theorem dX2_sum_30 : decode cX2_sum 30 = .ok (.aload_n 2, 1) := by decide +kernel
theorem dX2_sum_31 : decode cX2_sum 31 = .ok (.getfield 15, 3) := by decide +kernel
theorem dX2_sum_34 : decode cX2_sum 34 = .ok (.invokestatic 24, 3) := by decide +kernel
theorem dX2_sum_37 : decode cX2_sum 37 = .ok (.invokevirtual 30, 3) := by decide +kernel
theorem dX2_sum_40 : decode cX2_sum 40 = .ok (.ireturn, 1) := by decide +kernel
theorem dX2_difference_0 : decode cX2_difference 0 = .ok (.aload_n 0, 1) := by decide +kernel
theorem dX2_difference_1 : decode cX2_difference 1 = .ok (.aload_n 1, 1) := by decide +kernel
theorem dX2_difference_2 : decode cX2_difference 2 = .ok (.getfield 9, 3) := by decide +kernel
theorem dX2_difference_5 : decode cX2_difference 5 = .ok (.aload_n 2, 1) := by decide +kernel
theorem dX2_difference_6 : decode cX2_difference 6 = .ok (.getfield 15, 3) := by decide +kernel
theorem dX2_difference_9 : decode cX2_difference 9 = .ok (.invokestatic 24, 3) := by decide +kernel
theorem dX2_difference_12 : decode cX2_difference 12 = .ok (.aload_n 2, 1) := by decide +kernel
theorem dX2_difference_13 : decode cX2_difference 13 = .ok (.getfield 9, 3) := by decide +kernel
theorem dX2_difference_16 : decode cX2_difference 16 = .ok (.aload_n 1, 1) := by decide +kernel
theorem dX2_difference_17 : decode cX2_difference 17 = .ok (.getfield 15, 3) := by decide +kernel
theorem dX2_difference_20 : decode cX2_difference 20 = .ok (.invokestatic 24, 3) := by decide +kernel
theorem dX2_difference_23 : decode cX2_difference 23 = .ok (.invokestatic 34, 3) := by decide +kernel
theorem dX2_difference_26 : decode cX2_difference 26 = .ok (.aload_n 1, 1) := by decide +kernel
theorem dX2_difference_27 : decode cX2_difference 27 = .ok (.getfield 15, 3) := by decide +kernel
theorem dX2_difference_30 : decode cX2_difference 30 = .ok (.aload_n 2, 1) := by decide +kernel
theorem dX2_difference_31 : decode cX2_difference 31 = .ok (.getfield 15, 3) := by decide +kernel
theorem dX2_difference_34 : decode cX2_difference 34 = .ok (.invokestatic 24, 3) := by decide +kernel
theorem dX2_difference_37 : decode cX2_difference 37 = .ok (.invokevirtual 30, 3) := by decide +kernel
theorem dX2_difference_40 : decode cX2_difference 40 = .ok (.ireturn, 1) := by decide +kernel
theorem dX2_product_0 : decode cX2_product 0 = .ok (.aload_n 0, 1) := by decide +kernel
theorem dX2_product_1 : decode cX2_product 1 = .ok (.aload_n 1, 1) := by decide +kernel
theorem dX2_product_2 : decode cX2_product 2 = .ok (.getfield 9, 3) := by decide +kernel
theorem dX2_product_5 : decode cX2_product 5 = .ok (.aload_n 2, 1) := by decide +kernel
theorem dX2_product_6 : decode cX2_product 6 = .ok (.getfield 9, 3) := by decide +kernel
theorem dX2_product_9 : decode cX2_product 9 = .ok (.invokestatic 24, 3) := by decide +kernel
theorem dX2_product_12 : decode cX2_product 12 = .ok (.aload_n 1, 1) := by decide +kernel
theorem dX2_product_13 : decode cX2_product 13 = .ok (.getfield 15, 3) := by decide +kernel
theorem dX2_product_16 : decode cX2_product 16 = .ok (.aload_n 2, 1) := by decide +kernel
theorem dX2_product_17 : decode cX2_product 17 = .ok (.getfield 15, 3) := by decide +kernel
theorem dX2_product_20 : decode cX2_product 20 = .ok (.invokestatic 24, 3) := by decide +kernel
theorem dX2_product_23 : decode cX2_product 23 = .ok (.invokevirtual 30, 3) := by decide +kernel
theorem dX2_product_26 : decode cX2_product 26 = .ok (.ireturn, 1) := by decide +kernel
theorem dX2_quotient_0 : decode cX2_quotient 0 = .ok (.aload_n 0, 1) := by decide +kernel
theorem dX2_quotient_1 : decode cX2_quotient 1 = .ok (.aload_n 1, 1) := by decide +kernel
theorem dX2_quotient_2 : decode cX2_quotient 2 = .ok (.getfield 9, 3) := by decide +kernel
theorem dX2_quotient_5 : decode cX2_quotient 5 = .ok (.aload_n 2, 1) := by decide +kernel
theorem dX2_quotient_6 : decode cX2_quotient 6 = .ok (.getfield 15, 3) := by decide +kernel
theorem dX2_quotient_9 : decode cX2_quotient 9 = .ok (.invokestatic 24, 3) := by decide +kernel
theorem dX2_quotient_12 : decode cX2_quotient 12 = .ok (.aload_n 1, 1) := by decide +kernel
theorem dX2_quotient_13 : decode cX2_quotient 13 = .ok (.getfield 15, 3) := by decide +kernel
theorem dX2_quotient_16 : decode cX2_quotient 16 = .ok (.aload_n 2, 1) := by decide +kernel
theorem dX2_quotient_17 : decode cX2_quotient 17 = .ok (.getfield 9, 3) := by decide +kernel
theorem dX2_quotient_20 : decode cX2_quotient 20 = .ok (.invokestatic 24, 3) := by decide +kernel
theorem dX2_quotient_23 : decode cX2_quotient 23 = .ok (.invokevirtual 30, 3) := by decide +kernel
theorem dX2_quotient_26 : decode cX2_quotient 26 = .ok (.ireturn, 1) := by decide +kernel
theorem dX2_sign_0 : decode cX2_sign 0 = .ok (.aload_n 0, 1) := by decide +kernel
theorem dX2_sign_1 : decode cX2_sign 1 = .ok (.getfield 9, 3) := by decide +kernel
theorem dX2_sign_4 : decode cX2_sign 4 = .ok (.lconst 0, 1) := by decide +kernel
theorem dX2_sign_5 : decode cX2_sign 5 = .ok (.invokestatic 37, 3) := by decide +kernel
theorem dX2_sign_8 : decode cX2_sign 8 = .ok (.ireturn, 1) := by decide +kernel
theorem dX2_isSame_0 : decode cX2_isSame 0 = .ok (.aload_n 0, 1) := by decide +kernel
theorem dX2_isSame_1 : decode cX2_isSame 1 = .ok (.getfield 9, 3) := by decide +kernel
theorem dX2_isSame_4 : decode cX2_isSame 4 = .ok (.aload_n 1, 1) := by decide +kernel
theorem dX2_isSame_5 : decode cX2_isSame 5 = .ok (.getfield 9, 3) := by decide +kernel
theorem dX2_isSame_8 : decode cX2_isSame 8 = .ok (.lcmp, 1) := by decide +kernel
theorem dX2_isSame_9 : decode cX2_isSame 9 = .ok (.ifCond .ne 19, 3) := by decide +kernel
theorem dX2_isSame_12 : decode cX2_isSame 12 = .ok (.aload_n 0, 1) := by decide +kernel
theorem dX2_isSame_13 : decode cX2_isSame 13 = .ok (.getfield 15, 3) := by decide +kernel
theorem dX2_isSame_16 : decode cX2_isSame 16 = .ok (.aload_n 1, 1) := by decide +kernel
theorem dX2_isSame_17 : decode cX2_isSame 17 = .ok (.getfield 15, 3) := by decide +kernel
theorem dX2_isSame_20 : decode cX2_isSame 20 = .ok (.lcmp, 1) := by decide +kernel
theorem dX2_isSame_21 : decode cX2_isSame 21 = .ok (.ifCond .ne 7, 3) := by decide +kernel
theorem dX2_isSame_24 : decode cX2_isSame 24 = .ok (.iconst 1, 1) := by decide +kernel
theorem dX2_isSame_25 : decode cX2_isSame 25 = .ok (.goto 4, 3) := by decide +kernel
theorem dX2_isSame_28 : decode cX2_isSame 28 = .ok (.iconst 0, 1) := by decide +kernel
theorem dX2_isSame_29 : decode cX2_isSame 29 = .ok (.ireturn, 1) := by decide +kernel
theorem dX2_part_0 : decode cX2_part 0 = .ok (.iload_n 1, 1) := by decide +kernel
theorem dX2_part_1 : decode cX2_part 1 = .ok (.ifCond .ne 10, 3) := by decide +kernel
theorem dX2_part_4 : decode cX2_part 4 = .ok (.aload_n 0, 1) := by decide +kernel
theorem dX2_part_5 : decode cX2_part 5 = .ok (.getfield 9, 3) := by decide +kernel
theorem dX2_part_8 : decode cX2_part 8 = .ok (.goto 7, 3) := by decide +kernel
theorem dX2_part_11 : decode cX2_part 11 = .ok (.aload_n 0, 1) := by decide +kernel
theorem dX2_part_12 : decode cX2_part 12 = .ok (.getfield 15, 3) := by decide +kernel
theorem dX2_part_15 : decode cX2_part 15 = .ok (.lreturn, 1) := by decide +kernel
theorem dX2_commonDivisor_0 : decode cX2_commonDivisor 0 = .ok (.lload_n 0, 1) := by decide +kernel
theorem dX2_commonDivisor_1 : decode cX2_commonDivisor 1 = .ok (.lconst 0, 1) := by decide +kernel
theorem dX2_commonDivisor_2 : decode cX2_commonDivisor 2 = .ok (.lcmp, 1) := by decide +kernel
theorem dX2_commonDivisor_3 : decode cX2_commonDivisor 3 = .ok (.ifCond .ge 8, 3) := by decide +kernel
theorem dX2_commonDivisor_6 : decode cX2_commonDivisor 6 = .ok (.lload_n 0, 1) := by decide +kernel
theorem dX2_commonDivisor_7 : decode cX2_commonDivisor 7 = .ok (.lneg, 1) := by decide +kernel
theorem dX2_commonDivisor_8 : decode cX2_commonDivisor 8 = .ok (.goto 4, 3) := by decide +kernel
theorem dX2_commonDivisor_11 : decode cX2_commonDivisor 11 = .ok (.lload_n 0, 1) := by decide +kernel
theorem dX2_commonDivisor_12 : decode cX2_commonDivisor 12 = .ok (.lstore 4, 2) := by decide +kernel
theorem dX2_commonDivisor_14 : decode cX2_commonDivisor 14 = .ok (.lload_n 2, 1) := by decide +kernel
theorem dX2_commonDivisor_15 : decode cX2_commonDivisor 15 = .ok (.lconst 0, 1) := by decide +kernel
theorem dX2_commonDivisor_16 : decode cX2_commonDivisor 16 = .ok (.lcmp, 1) := by decide +kernel
theorem dX2_commonDivisor_17 : decode cX2_commonDivisor 17 = .ok (.ifCond .ge 8, 3) := by decide +kernel
theorem dX2_commonDivisor_20 : decode cX2_commonDivisor 20 = .ok (.lload_n 2, 1) := by decide +kernel
theorem dX2_commonDivisor_21 : decode cX2_commonDivisor 21 = .ok (.lneg, 1) := by decide +kernel
theorem dX2_commonDivisor_22 : decode cX2_commonDivisor 22 = .ok (.goto 4, 3) := by decide +kernel
theorem dX2_commonDivisor_25 : decode cX2_commonDivisor 25 = .ok (.lload_n 2, 1) := by decide +kernel
theorem dX2_commonDivisor_26 : decode cX2_commonDivisor 26 = .ok (.lstore 6, 2) := by decide +kernel
theorem dX2_commonDivisor_28 : decode cX2_commonDivisor 28 = .ok (.iconst 0, 1) := by decide +kernel
theorem dX2_commonDivisor_29 : decode cX2_commonDivisor 29 = .ok (.istore 8, 2) := by decide +kernel
theorem dX2_commonDivisor_31 : decode cX2_commonDivisor 31 = .ok (.iload 8, 2) := by decide +kernel
theorem dX2_commonDivisor_33 : decode cX2_commonDivisor 33 = .ok (.sipush 200, 3) := by decide +kernel
theorem dX2_commonDivisor_36 : decode cX2_commonDivisor 36 = .ok (.if_icmp .ge 31, 3) := by decide +kernel
theorem dX2_commonDivisor_39 : decode cX2_commonDivisor 39 = .ok (.lload 6, 2) := by decide +kernel
theorem dX2_commonDivisor_41 : decode cX2_commonDivisor 41 = .ok (.lconst 0, 1) := by decide +kernel
theorem dX2_commonDivisor_42 : decode cX2_commonDivisor 42 = .ok (.lcmp, 1) := by decide +kernel
theorem dX2_commonDivisor_43 : decode cX2_commonDivisor 43 = .ok (.ifCond .eq 24, 3) := by decide +kernel
theorem dX2_commonDivisor_46 : decode cX2_commonDivisor 46 = .ok (.lload 4, 2) := by decide +kernel
theorem dX2_commonDivisor_48 : decode cX2_commonDivisor 48 = .ok (.lload 6, 2) := by decide +kernel
theorem dX2_commonDivisor_50 : decode cX2_commonDivisor 50 = .ok (.lrem, 1) := by decide +kernel
theorem dX2_commonDivisor_51 : decode cX2_commonDivisor 51 = .ok (.lstore 9, 2) := by decide +kernel
theorem dX2_commonDivisor_53 : decode cX2_commonDivisor 53 = .ok (.lload 6, 2) := by decide +kernel
theorem dX2_commonDivisor_55 : decode cX2_commonDivisor 55 = .ok (.lstore 4, 2) := by decide +kernel
theorem dX2_commonDivisor_57 : decode cX2_commonDivisor 57 = .ok (.lload 9, 2) := by decide +kernel
theorem dX2_commonDivisor_59 : decode cX2_commonDivisor 59 = .ok (.lstore 6, 2) := by decide +kernel
theorem dX2_commonDivisor_61 : decode cX2_commonDivisor 61 = .ok (.iinc 8 1, 3) := by decide +kernel
theorem dX2_commonDivisor_64 : decode cX2_commonDivisor 64 = .ok (.goto (-33), 3) := by decide +kernel
theorem dX2_commonDivisor_67 : decode cX2_commonDivisor 67 = .ok (.lload 4, 2) := by decide +kernel
theorem dX2_commonDivisor_69 : decode cX2_commonDivisor 69 = .ok (.lreturn, 1) := by decide +kernel
theorem dX2_times_0 : decode cX2_times 0 = .ok (.lload_n 0, 1) := by decide +kernel
theorem dX2_times_1 : decode cX2_times 1 = .ok (.lload_n 2, 1) := by decide +kernel
theorem dX2_times_2 : decode cX2_times 2 = .ok (.lmul, 1) := by decide +kernel
theorem dX2_times_3 : decode cX2_times 3 = .ok (.lstore 4, 2) := by decide +kernel
theorem dX2_times_5 : decode cX2_times 5 = .ok (.lload_n 0, 1) := by decide +kernel
theorem dX2_times_6 : decode cX2_times 6 = .ok (.lconst 0, 1) := by decide +kernel
theorem dX2_times_7 : decode cX2_times 7 = .ok (.lcmp, 1) := by decide +kernel
theorem dX2_times_8 : decode cX2_times 8 = .ok (.ifCond .eq 18, 3) := by decide +kernel
theorem dX2_times_11 : decode cX2_times 11 = .ok (.lload 4, 2) := by decide +kernel
theorem dX2_times_13 : decode cX2_times 13 = .ok (.lload_n 0, 1) := by decide +kernel
theorem dX2_times_14 : decode cX2_times 14 = .ok (.ldiv, 1) := by decide +kernel
theorem dX2_times_15 : decode cX2_times 15 = .ok (.lload_n 2, 1) := by decide +kernel
theorem dX2_times_16 : decode cX2_times 16 = .ok (.lcmp, 1) := by decide +kernel
theorem dX2_times_17 : decode cX2_times 17 = .ok (.ifCond .eq 9, 3) := by decide +kernel
theorem dX2_times_20 : decode cX2_times 20 = .ok (.ldc2_w 18, 3) := by decide +kernel
theorem dX2_times_23 : decode cX2_times 23 = .ok (.goto 5, 3) := by decide +kernel
theorem dX2_times_26 : decode cX2_times 26 = .ok (.lload 4, 2) := by decide +kernel
theorem dX2_times_28 : decode cX2_times 28 = .ok (.lreturn, 1) := by decide +kernel
theorem dX2_plus_0 : decode cX2_plus 0 = .ok (.lload_n 0, 1) := by decide +kernel
theorem dX2_plus_1 : decode cX2_plus 1 = .ok (.lload_n 2, 1) := by decide +kernel
theorem dX2_plus_2 : decode cX2_plus 2 = .ok (.ladd, 1) := by decide +kernel
theorem dX2_plus_3 : decode cX2_plus 3 = .ok (.lstore 4, 2) := by decide +kernel
theorem dX2_plus_5 : decode cX2_plus 5 = .ok (.lload_n 0, 1) := by decide +kernel
theorem dX2_plus_6 : decode cX2_plus 6 = .ok (.lload 4, 2) := by decide +kernel
theorem dX2_plus_8 : decode cX2_plus 8 = .ok (.lxor, 1) := by decide +kernel
theorem dX2_plus_9 : decode cX2_plus 9 = .ok (.lload_n 2, 1) := by decide +kernel
theorem dX2_plus_10 : decode cX2_plus 10 = .ok (.lload 4, 2) := by decide +kernel
theorem dX2_plus_12 : decode cX2_plus 12 = .ok (.lxor, 1) := by decide +kernel
theorem dX2_plus_13 : decode cX2_plus 13 = .ok (.land, 1) := by decide +kernel
theorem dX2_plus_14 : decode cX2_plus 14 = .ok (.lconst 0, 1) := by decide +kernel
theorem dX2_plus_15 : decode cX2_plus 15 = .ok (.lcmp, 1) := by decide +kernel
theorem dX2_plus_16 : decode cX2_plus 16 = .ok (.ifCond .ge 7, 3) := by decide +kernel
theorem dX2_plus_19 : decode cX2_plus 19 = .ok (.iconst 1, 1) := by decide +kernel
theorem dX2_plus_20 : decode cX2_plus 20 = .ok (.goto 4, 3) := by decide +kernel
theorem dX2_plus_23 : decode cX2_plus 23 = .ok (.iconst 0, 1) := by decide +kernel
theorem dX2_plus_24 : decode cX2_plus 24 = .ok (.istore 6, 2) := by decide +kernel
theorem dX2_plus_26 : decode cX2_plus 26 = .ok (.iload 6, 2) := by decide +kernel
theorem dX2_plus_28 : decode cX2_plus 28 = .ok (.ifCond .ne 19, 3) := by decide +kernel
theorem dX2_plus_31 : decode cX2_plus 31 = .ok (.lload_n 0, 1) := by decide +kernel
theorem dX2_plus_32 : decode cX2_plus 32 = .ok (.ldc2_w 18, 3) := by decide +kernel
theorem dX2_plus_35 : decode cX2_plus 35 = .ok (.lcmp, 1) := by decide +kernel
theorem dX2_plus_36 : decode cX2_plus 36 = .ok (.ifCond .eq 11, 3) := by decide +kernel
theorem dX2_plus_39 : decode cX2_plus 39 = .ok (.lload_n 2, 1) := by decide +kernel
theorem dX2_plus_40 : decode cX2_plus 40 = .ok (.ldc2_w 18, 3) := by decide +kernel
theorem dX2_plus_43 : decode cX2_plus 43 = .ok (.lcmp, 1) := by decide +kernel
theorem dX2_plus_44 : decode cX2_plus 44 = .ok (.ifCond .ne 9, 3) := by decide +kernel
theorem dX2_plus_47 : decode cX2_plus 47 = .ok (.ldc2_w 18, 3) := by decide +kernel
theorem dX2_plus_50 : decode cX2_plus 50 = .ok (.goto 5, 3) := by decide +kernel
theorem dX2_plus_53 : decode cX2_plus 53 = .ok (.lload 4, 2) := by decide +kernel
theorem dX2_plus_55 : decode cX2_plus 55 = .ok (.lreturn, 1) := by decide +kernel
theorem dX2_minus_0 : decode cX2_minus 0 = .ok (.lload_n 0, 1) := by decide +kernel
theorem dX2_minus_1 : decode cX2_minus 1 = .ok (.lload_n 2, 1) := by decide +kernel
theorem dX2_minus_2 : decode cX2_minus 2 = .ok (.lsub, 1) := by decide +kernel
theorem dX2_minus_3 : decode cX2_minus 3 = .ok (.lstore 4, 2) := by decide +kernel
theorem dX2_minus_5 : decode cX2_minus 5 = .ok (.lload_n 0, 1) := by decide +kernel
theorem dX2_minus_6 : decode cX2_minus 6 = .ok (.lload_n 2, 1) := by decide +kernel
theorem dX2_minus_7 : decode cX2_minus 7 = .ok (.lxor, 1) := by decide +kernel
theorem dX2_minus_8 : decode cX2_minus 8 = .ok (.lload_n 0, 1) := by decide +kernel
theorem dX2_minus_9 : decode cX2_minus 9 = .ok (.lload 4, 2) := by decide +kernel
theorem dX2_minus_11 : decode cX2_minus 11 = .ok (.lxor, 1) := by decide +kernel
theorem dX2_minus_12 : decode cX2_minus 12 = .ok (.land, 1) := by decide +kernel
theorem dX2_minus_13 : decode cX2_minus 13 = .ok (.lconst 0, 1) := by decide +kernel
theorem dX2_minus_14 : decode cX2_minus 14 = .ok (.lcmp, 1) := by decide +kernel
theorem dX2_minus_15 : decode cX2_minus 15 = .ok (.ifCond .ge 7, 3) := by decide +kernel
theorem dX2_minus_18 : decode cX2_minus 18 = .ok (.iconst 1, 1) := by decide +kernel
theorem dX2_minus_19 : decode cX2_minus 19 = .ok (.goto 4, 3) := by decide +kernel
theorem dX2_minus_22 : decode cX2_minus 22 = .ok (.iconst 0, 1) := by decide +kernel
theorem dX2_minus_23 : decode cX2_minus 23 = .ok (.istore 6, 2) := by decide +kernel
theorem dX2_minus_25 : decode cX2_minus 25 = .ok (.iload 6, 2) := by decide +kernel
theorem dX2_minus_27 : decode cX2_minus 27 = .ok (.ifCond .ne 19, 3) := by decide +kernel
theorem dX2_minus_30 : decode cX2_minus 30 = .ok (.lload_n 0, 1) := by decide +kernel
theorem dX2_minus_31 : decode cX2_minus 31 = .ok (.ldc2_w 18, 3) := by decide +kernel
theorem dX2_minus_34 : decode cX2_minus 34 = .ok (.lcmp, 1) := by decide +kernel
theorem dX2_minus_35 : decode cX2_minus 35 = .ok (.ifCond .eq 11, 3) := by decide +kernel
theorem dX2_minus_38 : decode cX2_minus 38 = .ok (.lload_n 2, 1) := by decide +kernel
theorem dX2_minus_39 : decode cX2_minus 39 = .ok (.ldc2_w 18, 3) := by decide +kernel
theorem dX2_minus_42 : decode cX2_minus 42 = .ok (.lcmp, 1) := by decide +kernel
theorem dX2_minus_43 : decode cX2_minus 43 = .ok (.ifCond .ne 9, 3) := by decide +kernel
theorem dX2_minus_46 : decode cX2_minus 46 = .ok (.ldc2_w 18, 3) := by decide +kernel
theorem dX2_minus_49 : decode cX2_minus 49 = .ok (.goto 5, 3) := by decide +kernel
theorem dX2_minus_52 : decode cX2_minus 52 = .ok (.lload 4, 2) := by decide +kernel
theorem dX2_minus_54 : decode cX2_minus 54 = .ok (.lreturn, 1) := by decide +kernel
theorem dX3_init_0 : decode cX3_init 0 = .ok (.aload_n 0, 1) := by decide +kernel
theorem dX3_init_1 : decode cX3_init 1 = .ok (.invokespecial 3, 3) := by decide +kernel
theorem dX3_init_4 : decode cX3_init 4 = .ok (.aload_n 0, 1) := by decide +kernel
theorem dX3_init_5 : decode cX3_init 5 = .ok (.bipush 25, 2) := by decide +kernel
theorem dX3_init_7 : decode cX3_init 7 = .ok (.invokestatic 9, 3) := by decide +kernel
theorem dX3_init_10 : decode cX3_init 10 = .ok (.putfield 13, 3) := by decide +kernel
theorem dX3_init_13 : decode cX3_init 13 = .ok (.aload_n 0, 1) := by decide +kernel
theorem dX3_init_14 : decode cX3_init 14 = .ok (.new 19, 3) := by decide +kernel
theorem dX3_init_17 : decode cX3_init 17 = .ok (.dup, 1) := by decide +kernel
theorem dX3_init_18 : decode cX3_init 18 = .ok (.invokespecial 21, 3) := by decide +kernel
theorem dX3_init_21 : decode cX3_init 21 = .ok (.putfield 22, 3) := by decide +kernel
theorem dX3_init_24 : decode cX3_init 24 = .ok (.return_, 1) := by decide +kernel
theorem dX3_at_0 : decode cX3_at 0 = .ok (.aload_n 0, 1) := by decide +kernel
theorem dX3_at_1 : decode cX3_at 1 = .ok (.getfield 13, 3) := by decide +kernel
theorem dX3_at_4 : decode cX3_at 4 = .ok (.iload_n 1, 1) := by decide +kernel
theorem dX3_at_5 : decode cX3_at 5 = .ok (.iconst 5, 1) := by decide +kernel
theorem dX3_at_6 : decode cX3_at 6 = .ok (.imul, 1) := by decide +kernel
theorem dX3_at_7 : decode cX3_at 7 = .ok (.iload_n 2, 1) := by decide +kernel
theorem dX3_at_8 : decode cX3_at 8 = .ok (.iadd, 1) := by decide +kernel
theorem dX3_at_9 : decode cX3_at 9 = .ok (.aaload, 1) := by decide +kernel
theorem dX3_at_10 : decode cX3_at 10 = .ok (.areturn, 1) := by decide +kernel
theorem dX3_take_0 : decode cX3_take 0 = .ok (.iconst 0, 1) := by decide +kernel
theorem dX3_take_1 : decode cX3_take 1 = .ok (.istore_n 3, 1) := by decide +kernel
theorem dX3_take_2 : decode cX3_take 2 = .ok (.iload_n 3, 1) := by decide +kernel
theorem dX3_take_3 : decode cX3_take 3 = .ok (.iload_n 2, 1) := by decide +kernel
theorem dX3_take_4 : decode cX3_take 4 = .ok (.if_icmp .gt 56, 3) := by decide +kernel
theorem dX3_take_7 : decode cX3_take 7 = .ok (.iconst 0, 1) := by decide +kernel
theorem dX3_take_8 : decode cX3_take 8 = .ok (.istore 4, 2) := by decide +kernel
theorem dX3_take_10 : decode cX3_take 10 = .ok (.iload 4, 2) := by decide +kernel
theorem dX3_take_12 : decode cX3_take 12 = .ok (.iload_n 2, 1) := by decide +kernel
theorem dX3_take_13 : decode cX3_take 13 = .ok (.if_icmp .gt 41, 3) := by decide +kernel
theorem dX3_take_16 : decode cX3_take 16 = .ok (.aload_n 0, 1) := by decide +kernel
theorem dX3_take_17 : decode cX3_take 17 = .ok (.iload_n 3, 1) := by decide +kernel
theorem dX3_take_18 : decode cX3_take 18 = .ok (.iload 4, 2) := by decide +kernel
theorem dX3_take_20 : decode cX3_take 20 = .ok (.invokevirtual 26, 3) := by decide +kernel
theorem dX3_take_23 : decode cX3_take 23 = .ok (.aload_n 1, 1) := by decide +kernel
theorem dX3_take_24 : decode cX3_take 24 = .ok (.iload_n 3, 1) := by decide +kernel
theorem dX3_take_25 : decode cX3_take 25 = .ok (.iload 4, 2) := by decide +kernel
theorem dX3_take_27 : decode cX3_take 27 = .ok (.invokevirtual 30, 3) := by decide +kernel
theorem dX3_take_30 : decode cX3_take 30 = .ok (.i2l, 1) := by decide +kernel
theorem dX3_take_31 : decode cX3_take 31 = .ok (.iload_n 3, 1) := by decide +kernel
theorem dX3_take_32 : decode cX3_take 32 = .ok (.iload 4, 2) := by decide +kernel
theorem dX3_take_34 : decode cX3_take 34 = .ok (.if_icmp .ne 7, 3) := by decide +kernel
theorem dX3_take_37 : decode cX3_take 37 = .ok (.lconst 1, 1) := by decide +kernel
theorem dX3_take_38 : decode cX3_take 38 = .ok (.goto 6, 3) := by decide +kernel
theorem dX3_take_41 : decode cX3_take 41 = .ok (.ldc2_w 36, 3) := by decide +kernel
theorem dX3_take_44 : decode cX3_take 44 = .ok (.invokevirtual 38, 3) := by decide +kernel
theorem dX3_take_47 : decode cX3_take 47 = .ok (.pop, 1) := by decide +kernel
theorem dX3_take_48 : decode cX3_take 48 = .ok (.iinc 4 1, 3) := by decide +kernel
theorem dX3_take_51 : decode cX3_take 51 = .ok (.goto (-41), 3) := by decide +kernel
theorem dX3_take_54 : decode cX3_take 54 = .ok (.iinc 3 1, 3) := by decide +kernel
theorem dX3_take_57 : decode cX3_take 57 = .ok (.goto (-55), 3) := by decide +kernel
theorem dX3_take_60 : decode cX3_take 60 = .ok (.return_, 1) := by decide +kernel
theorem dX3_takeLess_0 : decode cX3_takeLess 0 = .ok (.aload_n 0, 1) := by decide +kernel
theorem dX3_takeLess_1 : decode cX3_takeLess 1 = .ok (.aload_n 1, 1) := by decide +kernel
theorem dX3_takeLess_2 : decode cX3_takeLess 2 = .ok (.iload 4, 2) := by decide +kernel
theorem dX3_takeLess_4 : decode cX3_takeLess 4 = .ok (.invokevirtual 42, 3) := by decide +kernel
theorem dX3_takeLess_7 : decode cX3_takeLess 7 = .ok (.iconst 0, 1) := by decide +kernel
theorem dX3_takeLess_8 : decode cX3_takeLess 8 = .ok (.istore 5, 2) := by decide +kernel
theorem dX3_takeLess_10 : decode cX3_takeLess 10 = .ok (.iload 5, 2) := by decide +kernel
theorem dX3_takeLess_12 : decode cX3_takeLess 12 = .ok (.iload 4, 2) := by decide +kernel
theorem dX3_takeLess_14 : decode cX3_takeLess 14 = .ok (.if_icmp .gt 133, 3) := by decide +kernel
theorem dX3_takeLess_17 : decode cX3_takeLess 17 = .ok (.iload 5, 2) := by decide +kernel
theorem dX3_takeLess_19 : decode cX3_takeLess 19 = .ok (.istore 6, 2) := by decide +kernel
theorem dX3_takeLess_21 : decode cX3_takeLess 21 = .ok (.iload 6, 2) := by decide +kernel
theorem dX3_takeLess_23 : decode cX3_takeLess 23 = .ok (.iload 4, 2) := by decide +kernel
theorem dX3_takeLess_25 : decode cX3_takeLess 25 = .ok (.if_icmp .gt 116, 3) := by decide +kernel
theorem dX3_takeLess_28 : decode cX3_takeLess 28 = .ok (.aload_n 0, 1) := by decide +kernel
theorem dX3_takeLess_29 : decode cX3_takeLess 29 = .ok (.getfield 22, 3) := by decide +kernel
theorem dX3_takeLess_32 : decode cX3_takeLess 32 = .ok (.aload_n 2, 1) := by decide +kernel
theorem dX3_takeLess_33 : decode cX3_takeLess 33 = .ok (.iload 5, 2) := by decide +kernel
theorem dX3_takeLess_35 : decode cX3_takeLess 35 = .ok (.iload 6, 2) := by decide +kernel
theorem dX3_takeLess_37 : decode cX3_takeLess 37 = .ok (.invokevirtual 30, 3) := by decide +kernel
theorem dX3_takeLess_40 : decode cX3_takeLess 40 = .ok (.i2l, 1) := by decide +kernel
theorem dX3_takeLess_41 : decode cX3_takeLess 41 = .ok (.iload 5, 2) := by decide +kernel
theorem dX3_takeLess_43 : decode cX3_takeLess 43 = .ok (.iload 6, 2) := by decide +kernel
theorem dX3_takeLess_45 : decode cX3_takeLess 45 = .ok (.if_icmp .ne 7, 3) := by decide +kernel
theorem dX3_takeLess_48 : decode cX3_takeLess 48 = .ok (.lconst 1, 1) := by decide +kernel
theorem dX3_takeLess_49 : decode cX3_takeLess 49 = .ok (.goto 6, 3) := by decide +kernel
theorem dX3_takeLess_52 : decode cX3_takeLess 52 = .ok (.ldc2_w 36, 3) := by decide +kernel
theorem dX3_takeLess_55 : decode cX3_takeLess 55 = .ok (.invokevirtual 38, 3) := by decide +kernel
theorem dX3_takeLess_58 : decode cX3_takeLess 58 = .ok (.ifCond .eq 48, 3) := by decide +kernel
theorem dX3_takeLess_61 : decode cX3_takeLess 61 = .ok (.aload_n 0, 1) := by decide +kernel
theorem dX3_takeLess_62 : decode cX3_takeLess 62 = .ok (.getfield 22, 3) := by decide +kernel
theorem dX3_takeLess_65 : decode cX3_takeLess 65 = .ok (.aload_n 3, 1) := by decide +kernel
theorem dX3_takeLess_66 : decode cX3_takeLess 66 = .ok (.aload_n 0, 1) := by decide +kernel
theorem dX3_takeLess_67 : decode cX3_takeLess 67 = .ok (.getfield 22, 3) := by decide +kernel
theorem dX3_takeLess_70 : decode cX3_takeLess 70 = .ok (.invokevirtual 46, 3) := by decide +kernel
theorem dX3_takeLess_73 : decode cX3_takeLess 73 = .ok (.ifCond .eq 33, 3) := by decide +kernel
theorem dX3_takeLess_76 : decode cX3_takeLess 76 = .ok (.aload_n 0, 1) := by decide +kernel
theorem dX3_takeLess_77 : decode cX3_takeLess 77 = .ok (.iload 5, 2) := by decide +kernel
theorem dX3_takeLess_79 : decode cX3_takeLess 79 = .ok (.iload 6, 2) := by decide +kernel
theorem dX3_takeLess_81 : decode cX3_takeLess 81 = .ok (.invokevirtual 26, 3) := by decide +kernel
theorem dX3_takeLess_84 : decode cX3_takeLess 84 = .ok (.aload_n 0, 1) := by decide +kernel
theorem dX3_takeLess_85 : decode cX3_takeLess 85 = .ok (.iload 5, 2) := by decide +kernel
theorem dX3_takeLess_87 : decode cX3_takeLess 87 = .ok (.iload 6, 2) := by decide +kernel
theorem dX3_takeLess_89 : decode cX3_takeLess 89 = .ok (.invokevirtual 26, 3) := by decide +kernel
theorem dX3_takeLess_92 : decode cX3_takeLess 92 = .ok (.aload_n 0, 1) := by decide +kernel
theorem dX3_takeLess_93 : decode cX3_takeLess 93 = .ok (.getfield 22, 3) := by decide +kernel
theorem dX3_takeLess_96 : decode cX3_takeLess 96 = .ok (.invokevirtual 50, 3) := by decide +kernel
theorem dX3_takeLess_99 : decode cX3_takeLess 99 = .ok (.ifCond .eq 7, 3) := by decide +kernel
theorem dX3_takeLess_102 : decode cX3_takeLess 102 = .ok (.iconst 1, 1) := by decide +kernel
theorem dX3_takeLess_103 : decode cX3_takeLess 103 = .ok (.goto 4, 3) := by decide +kernel
theorem dX3_takeLess_106 : decode cX3_takeLess 106 = .ok (.iconst 0, 1) := by decide +kernel
theorem dX3_takeLess_107 : decode cX3_takeLess 107 = .ok (.istore 7, 2) := by decide +kernel
theorem dX3_takeLess_109 : decode cX3_takeLess 109 = .ok (.iload 7, 2) := by decide +kernel
theorem dX3_takeLess_111 : decode cX3_takeLess 111 = .ok (.ifCond .ne 5, 3) := by decide +kernel
theorem dX3_takeLess_114 : decode cX3_takeLess 114 = .ok (.iconst 0, 1) := by decide +kernel
theorem dX3_takeLess_115 : decode cX3_takeLess 115 = .ok (.ireturn, 1) := by decide +kernel
theorem dX3_takeLess_116 : decode cX3_takeLess 116 = .ok (.aload_n 0, 1) := by decide +kernel
theorem dX3_takeLess_117 : decode cX3_takeLess 117 = .ok (.iload 6, 2) := by decide +kernel
theorem dX3_takeLess_119 : decode cX3_takeLess 119 = .ok (.iload 5, 2) := by decide +kernel
theorem dX3_takeLess_121 : decode cX3_takeLess 121 = .ok (.invokevirtual 26, 3) := by decide +kernel
theorem dX3_takeLess_124 : decode cX3_takeLess 124 = .ok (.aload_n 0, 1) := by decide +kernel
theorem dX3_takeLess_125 : decode cX3_takeLess 125 = .ok (.iload 5, 2) := by decide +kernel
theorem dX3_takeLess_127 : decode cX3_takeLess 127 = .ok (.iload 6, 2) := by decide +kernel
theorem dX3_takeLess_129 : decode cX3_takeLess 129 = .ok (.invokevirtual 26, 3) := by decide +kernel
theorem dX3_takeLess_132 : decode cX3_takeLess 132 = .ok (.invokevirtual 53, 3) := by decide +kernel
theorem dX3_takeLess_135 : decode cX3_takeLess 135 = .ok (.iinc 6 1, 3) := by decide +kernel
theorem dX3_takeLess_138 : decode cX3_takeLess 138 = .ok (.goto (-117), 3) := by decide +kernel
theorem dX3_takeLess_141 : decode cX3_takeLess 141 = .ok (.iinc 5 1, 3) := by decide +kernel
theorem dX3_takeLess_144 : decode cX3_takeLess 144 = .ok (.goto (-134), 3) := by decide +kernel
theorem dX3_takeLess_147 : decode cX3_takeLess 147 = .ok (.iconst 1, 1) := by decide +kernel
theorem dX3_takeLess_148 : decode cX3_takeLess 148 = .ok (.ireturn, 1) := by decide +kernel
theorem dX3_copy_0 : decode cX3_copy 0 = .ok (.iconst 0, 1) := by decide +kernel
theorem dX3_copy_1 : decode cX3_copy 1 = .ok (.istore_n 2, 1) := by decide +kernel
theorem dX3_copy_2 : decode cX3_copy 2 = .ok (.iload_n 2, 1) := by decide +kernel
theorem dX3_copy_3 : decode cX3_copy 3 = .ok (.aload_n 0, 1) := by decide +kernel
theorem dX3_copy_4 : decode cX3_copy 4 = .ok (.getfield 13, 3) := by decide +kernel
theorem dX3_copy_7 : decode cX3_copy 7 = .ok (.arraylength, 1) := by decide +kernel
theorem dX3_copy_8 : decode cX3_copy 8 = .ok (.if_icmp .ge 24, 3) := by decide +kernel
theorem dX3_copy_11 : decode cX3_copy 11 = .ok (.aload_n 0, 1) := by decide +kernel
theorem dX3_copy_12 : decode cX3_copy 12 = .ok (.getfield 13, 3) := by decide +kernel
theorem dX3_copy_15 : decode cX3_copy 15 = .ok (.iload_n 2, 1) := by decide +kernel
theorem dX3_copy_16 : decode cX3_copy 16 = .ok (.aaload, 1) := by decide +kernel
theorem dX3_copy_17 : decode cX3_copy 17 = .ok (.aload_n 1, 1) := by decide +kernel
theorem dX3_copy_18 : decode cX3_copy 18 = .ok (.getfield 13, 3) := by decide +kernel
theorem dX3_copy_21 : decode cX3_copy 21 = .ok (.iload_n 2, 1) := by decide +kernel
theorem dX3_copy_22 : decode cX3_copy 22 = .ok (.aaload, 1) := by decide +kernel
theorem dX3_copy_23 : decode cX3_copy 23 = .ok (.invokevirtual 53, 3) := by decide +kernel
theorem dX3_copy_26 : decode cX3_copy 26 = .ok (.iinc 2 1, 3) := by decide +kernel
theorem dX3_copy_29 : decode cX3_copy 29 = .ok (.goto (-27), 3) := by decide +kernel
theorem dX3_copy_32 : decode cX3_copy 32 = .ok (.return_, 1) := by decide +kernel
theorem dX4_init_0 : decode cX4_init 0 = .ok (.aload_n 0, 1) := by decide +kernel
theorem dX4_init_1 : decode cX4_init 1 = .ok (.invokespecial 3, 3) := by decide +kernel
theorem dX4_init_4 : decode cX4_init 4 = .ok (.aload_n 0, 1) := by decide +kernel
theorem dX4_init_5 : decode cX4_init 5 = .ok (.iconst 5, 1) := by decide +kernel
theorem dX4_init_6 : decode cX4_init 6 = .ok (.invokestatic 9, 3) := by decide +kernel
theorem dX4_init_9 : decode cX4_init 9 = .ok (.putfield 13, 3) := by decide +kernel
theorem dX4_init_12 : decode cX4_init 12 = .ok (.aload_n 0, 1) := by decide +kernel
theorem dX4_init_13 : decode cX4_init 13 = .ok (.new 19, 3) := by decide +kernel
theorem dX4_init_16 : decode cX4_init 16 = .ok (.dup, 1) := by decide +kernel
theorem dX4_init_17 : decode cX4_init 17 = .ok (.invokespecial 21, 3) := by decide +kernel
theorem dX4_init_20 : decode cX4_init 20 = .ok (.putfield 22, 3) := by decide +kernel
theorem dX4_init_23 : decode cX4_init 23 = .ok (.aload_n 0, 1) := by decide +kernel
theorem dX4_init_24 : decode cX4_init 24 = .ok (.new 19, 3) := by decide +kernel
theorem dX4_init_27 : decode cX4_init 27 = .ok (.dup, 1) := by decide +kernel
theorem dX4_init_28 : decode cX4_init 28 = .ok (.invokespecial 21, 3) := by decide +kernel
theorem dX4_init_31 : decode cX4_init 31 = .ok (.putfield 26, 3) := by decide +kernel
theorem dX4_init_34 : decode cX4_init 34 = .ok (.aload_n 0, 1) := by decide +kernel
theorem dX4_init_35 : decode cX4_init 35 = .ok (.iconst 0, 1) := by decide +kernel
theorem dX4_init_36 : decode cX4_init 36 = .ok (.putfield 29, 3) := by decide +kernel
theorem dX4_init_39 : decode cX4_init 39 = .ok (.aload_n 0, 1) := by decide +kernel
theorem dX4_init_40 : decode cX4_init 40 = .ok (.getfield 13, 3) := by decide +kernel
theorem dX4_init_43 : decode cX4_init 43 = .ok (.iconst 0, 1) := by decide +kernel
theorem dX4_init_44 : decode cX4_init 44 = .ok (.aaload, 1) := by decide +kernel
theorem dX4_init_45 : decode cX4_init 45 = .ok (.lconst 1, 1) := by decide +kernel
theorem dX4_init_46 : decode cX4_init 46 = .ok (.lconst 1, 1) := by decide +kernel
theorem dX4_init_47 : decode cX4_init 47 = .ok (.invokevirtual 33, 3) := by decide +kernel
theorem dX4_init_50 : decode cX4_init 50 = .ok (.pop, 1) := by decide +kernel
theorem dX4_init_51 : decode cX4_init 51 = .ok (.return_, 1) := by decide +kernel
theorem dX4_byWitness_0 : decode cX4_byWitness 0 = .ok (.aload_n 1, 1) := by decide +kernel
theorem dX4_byWitness_1 : decode cX4_byWitness 1 = .ok (.iconst 0, 1) := by decide +kernel
theorem dX4_byWitness_2 : decode cX4_byWitness 2 = .ok (.aaload, 1) := by decide +kernel
theorem dX4_byWitness_3 : decode cX4_byWitness 3 = .ok (.invokevirtual 37, 3) := by decide +kernel
theorem dX4_byWitness_6 : decode cX4_byWitness 6 = .ok (.ifCond .eq 10, 3) := by decide +kernel
theorem dX4_byWitness_9 : decode cX4_byWitness 9 = .ok (.aload_n 0, 1) := by decide +kernel
theorem dX4_byWitness_10 : decode cX4_byWitness 10 = .ok (.aload_n 1, 1) := by decide +kernel
theorem dX4_byWitness_11 : decode cX4_byWitness 11 = .ok (.iload_n 3, 1) := by decide +kernel
theorem dX4_byWitness_12 : decode cX4_byWitness 12 = .ok (.invokevirtual 41, 3) := by decide +kernel
theorem dX4_byWitness_15 : decode cX4_byWitness 15 = .ok (.ireturn, 1) := by decide +kernel
theorem dX4_byWitness_16 : decode cX4_byWitness 16 = .ok (.iconst 0, 1) := by decide +kernel
theorem dX4_byWitness_17 : decode cX4_byWitness 17 = .ok (.istore 4, 2) := by decide +kernel
theorem dX4_byWitness_19 : decode cX4_byWitness 19 = .ok (.iload 4, 2) := by decide +kernel
theorem dX4_byWitness_21 : decode cX4_byWitness 21 = .ok (.bipush 40, 2) := by decide +kernel
theorem dX4_byWitness_23 : decode cX4_byWitness 23 = .ok (.if_icmp .gt 45, 3) := by decide +kernel
theorem dX4_byWitness_26 : decode cX4_byWitness 26 = .ok (.aload_n 0, 1) := by decide +kernel
theorem dX4_byWitness_27 : decode cX4_byWitness 27 = .ok (.aload_n 1, 1) := by decide +kernel
theorem dX4_byWitness_28 : decode cX4_byWitness 28 = .ok (.lconst 1, 1) := by decide +kernel
theorem dX4_byWitness_29 : decode cX4_byWitness 29 = .ok (.iload 4, 2) := by decide +kernel
theorem dX4_byWitness_31 : decode cX4_byWitness 31 = .ok (.lshl, 1) := by decide +kernel
theorem dX4_byWitness_32 : decode cX4_byWitness 32 = .ok (.iload_n 3, 1) := by decide +kernel
theorem dX4_byWitness_33 : decode cX4_byWitness 33 = .ok (.invokevirtual 45, 3) := by decide +kernel
theorem dX4_byWitness_36 : decode cX4_byWitness 36 = .ok (.ifCond .eq 12, 3) := by decide +kernel
theorem dX4_byWitness_39 : decode cX4_byWitness 39 = .ok (.aload_n 0, 1) := by decide +kernel
theorem dX4_byWitness_40 : decode cX4_byWitness 40 = .ok (.aload_n 2, 1) := by decide +kernel
theorem dX4_byWitness_41 : decode cX4_byWitness 41 = .ok (.iload_n 3, 1) := by decide +kernel
theorem dX4_byWitness_42 : decode cX4_byWitness 42 = .ok (.invokevirtual 49, 3) := by decide +kernel
theorem dX4_byWitness_45 : decode cX4_byWitness 45 = .ok (.ifCond .ne 5, 3) := by decide +kernel
theorem dX4_byWitness_48 : decode cX4_byWitness 48 = .ok (.iconst 0, 1) := by decide +kernel
theorem dX4_byWitness_49 : decode cX4_byWitness 49 = .ok (.ireturn, 1) := by decide +kernel
theorem dX4_byWitness_50 : decode cX4_byWitness 50 = .ok (.aload_n 0, 1) := by decide +kernel
theorem dX4_byWitness_51 : decode cX4_byWitness 51 = .ok (.getfield 26, 3) := by decide +kernel
theorem dX4_byWitness_54 : decode cX4_byWitness 54 = .ok (.invokevirtual 37, 3) := by decide +kernel
theorem dX4_byWitness_57 : decode cX4_byWitness 57 = .ok (.ifCond .ge 5, 3) := by decide +kernel
theorem dX4_byWitness_60 : decode cX4_byWitness 60 = .ok (.iconst 1, 1) := by decide +kernel
theorem dX4_byWitness_61 : decode cX4_byWitness 61 = .ok (.ireturn, 1) := by decide +kernel
theorem dX4_byWitness_62 : decode cX4_byWitness 62 = .ok (.iinc 4 1, 3) := by decide +kernel
theorem dX4_byWitness_65 : decode cX4_byWitness 65 = .ok (.goto (-46), 3) := by decide +kernel
theorem dX4_byWitness_68 : decode cX4_byWitness 68 = .ok (.iconst 0, 1) := by decide +kernel
theorem dX4_byWitness_69 : decode cX4_byWitness 69 = .ok (.ireturn, 1) := by decide +kernel
theorem dX4_byQuotients_0 : decode cX4_byQuotients 0 = .ok (.iconst 1, 1) := by decide +kernel
theorem dX4_byQuotients_1 : decode cX4_byQuotients 1 = .ok (.istore_n 3, 1) := by decide +kernel
theorem dX4_byQuotients_2 : decode cX4_byQuotients 2 = .ok (.iload_n 3, 1) := by decide +kernel
theorem dX4_byQuotients_3 : decode cX4_byQuotients 3 = .ok (.iload_n 2, 1) := by decide +kernel
theorem dX4_byQuotients_4 : decode cX4_byQuotients 4 = .ok (.if_icmp .gt 29, 3) := by decide +kernel
theorem dX4_byQuotients_7 : decode cX4_byQuotients 7 = .ok (.aload_n 0, 1) := by decide +kernel
theorem dX4_byQuotients_8 : decode cX4_byQuotients 8 = .ok (.getfield 13, 3) := by decide +kernel
theorem dX4_byQuotients_11 : decode cX4_byQuotients 11 = .ok (.iload_n 3, 1) := by decide +kernel
theorem dX4_byQuotients_12 : decode cX4_byQuotients 12 = .ok (.aaload, 1) := by decide +kernel
theorem dX4_byQuotients_13 : decode cX4_byQuotients 13 = .ok (.aload_n 1, 1) := by decide +kernel
theorem dX4_byQuotients_14 : decode cX4_byQuotients 14 = .ok (.iload_n 3, 1) := by decide +kernel
theorem dX4_byQuotients_15 : decode cX4_byQuotients 15 = .ok (.aaload, 1) := by decide +kernel
theorem dX4_byQuotients_16 : decode cX4_byQuotients 16 = .ok (.aload_n 1, 1) := by decide +kernel
theorem dX4_byQuotients_17 : decode cX4_byQuotients 17 = .ok (.iconst 0, 1) := by decide +kernel
theorem dX4_byQuotients_18 : decode cX4_byQuotients 18 = .ok (.aaload, 1) := by decide +kernel
theorem dX4_byQuotients_19 : decode cX4_byQuotients 19 = .ok (.invokevirtual 53, 3) := by decide +kernel
theorem dX4_byQuotients_22 : decode cX4_byQuotients 22 = .ok (.ifCond .ne 5, 3) := by decide +kernel
theorem dX4_byQuotients_25 : decode cX4_byQuotients 25 = .ok (.iconst 0, 1) := by decide +kernel
theorem dX4_byQuotients_26 : decode cX4_byQuotients 26 = .ok (.ireturn, 1) := by decide +kernel
theorem dX4_byQuotients_27 : decode cX4_byQuotients 27 = .ok (.iinc 3 1, 3) := by decide +kernel
theorem dX4_byQuotients_30 : decode cX4_byQuotients 30 = .ok (.goto (-28), 3) := by decide +kernel
theorem dX4_byQuotients_33 : decode cX4_byQuotients 33 = .ok (.iconst 1, 1) := by decide +kernel
theorem dX4_byQuotients_34 : decode cX4_byQuotients 34 = .ok (.ireturn, 1) := by decide +kernel
theorem dX4_takeWhole_0 : decode cX4_takeWhole 0 = .ok (.iconst 1, 1) := by decide +kernel
theorem dX4_takeWhole_1 : decode cX4_takeWhole 1 = .ok (.istore_n 3, 1) := by decide +kernel
theorem dX4_takeWhole_2 : decode cX4_takeWhole 2 = .ok (.iload_n 3, 1) := by decide +kernel
theorem dX4_takeWhole_3 : decode cX4_takeWhole 3 = .ok (.iload_n 2, 1) := by decide +kernel
theorem dX4_takeWhole_4 : decode cX4_takeWhole 4 = .ok (.if_icmp .gt 23, 3) := by decide +kernel
theorem dX4_takeWhole_7 : decode cX4_takeWhole 7 = .ok (.aload_n 0, 1) := by decide +kernel
theorem dX4_takeWhole_8 : decode cX4_takeWhole 8 = .ok (.getfield 13, 3) := by decide +kernel
theorem dX4_takeWhole_11 : decode cX4_takeWhole 11 = .ok (.iload_n 3, 1) := by decide +kernel
theorem dX4_takeWhole_12 : decode cX4_takeWhole 12 = .ok (.aaload, 1) := by decide +kernel
theorem dX4_takeWhole_13 : decode cX4_takeWhole 13 = .ok (.aload_n 1, 1) := by decide +kernel
theorem dX4_takeWhole_14 : decode cX4_takeWhole 14 = .ok (.iload_n 3, 1) := by decide +kernel
theorem dX4_takeWhole_15 : decode cX4_takeWhole 15 = .ok (.laload, 1) := by decide +kernel
theorem dX4_takeWhole_16 : decode cX4_takeWhole 16 = .ok (.lconst 1, 1) := by decide +kernel
theorem dX4_takeWhole_17 : decode cX4_takeWhole 17 = .ok (.invokevirtual 33, 3) := by decide +kernel
theorem dX4_takeWhole_20 : decode cX4_takeWhole 20 = .ok (.pop, 1) := by decide +kernel
theorem dX4_takeWhole_21 : decode cX4_takeWhole 21 = .ok (.iinc 3 1, 3) := by decide +kernel
theorem dX4_takeWhole_24 : decode cX4_takeWhole 24 = .ok (.goto (-22), 3) := by decide +kernel
theorem dX4_takeWhole_27 : decode cX4_takeWhole 27 = .ok (.return_, 1) := by decide +kernel
theorem dX4_takeMultiple_0 : decode cX4_takeMultiple 0 = .ok (.iconst 1, 1) := by decide +kernel
theorem dX4_takeMultiple_1 : decode cX4_takeMultiple 1 = .ok (.istore 5, 2) := by decide +kernel
theorem dX4_takeMultiple_3 : decode cX4_takeMultiple 3 = .ok (.iload 5, 2) := by decide +kernel
theorem dX4_takeMultiple_5 : decode cX4_takeMultiple 5 = .ok (.iload 4, 2) := by decide +kernel
theorem dX4_takeMultiple_7 : decode cX4_takeMultiple 7 = .ok (.if_icmp .gt 44, 3) := by decide +kernel
theorem dX4_takeMultiple_10 : decode cX4_takeMultiple 10 = .ok (.aload_n 0, 1) := by decide +kernel
theorem dX4_takeMultiple_11 : decode cX4_takeMultiple 11 = .ok (.getfield 22, 3) := by decide +kernel
theorem dX4_takeMultiple_14 : decode cX4_takeMultiple 14 = .ok (.lload_n 2, 1) := by decide +kernel
theorem dX4_takeMultiple_15 : decode cX4_takeMultiple 15 = .ok (.lconst 1, 1) := by decide +kernel
theorem dX4_takeMultiple_16 : decode cX4_takeMultiple 16 = .ok (.invokevirtual 33, 3) := by decide +kernel
theorem dX4_takeMultiple_19 : decode cX4_takeMultiple 19 = .ok (.ifCond .eq 24, 3) := by decide +kernel
theorem dX4_takeMultiple_22 : decode cX4_takeMultiple 22 = .ok (.aload_n 0, 1) := by decide +kernel
theorem dX4_takeMultiple_23 : decode cX4_takeMultiple 23 = .ok (.getfield 13, 3) := by decide +kernel
theorem dX4_takeMultiple_26 : decode cX4_takeMultiple 26 = .ok (.iload 5, 2) := by decide +kernel
theorem dX4_takeMultiple_28 : decode cX4_takeMultiple 28 = .ok (.aaload, 1) := by decide +kernel
theorem dX4_takeMultiple_29 : decode cX4_takeMultiple 29 = .ok (.aload_n 0, 1) := by decide +kernel
theorem dX4_takeMultiple_30 : decode cX4_takeMultiple 30 = .ok (.getfield 22, 3) := by decide +kernel
theorem dX4_takeMultiple_33 : decode cX4_takeMultiple 33 = .ok (.aload_n 1, 1) := by decide +kernel
theorem dX4_takeMultiple_34 : decode cX4_takeMultiple 34 = .ok (.iload 5, 2) := by decide +kernel
theorem dX4_takeMultiple_36 : decode cX4_takeMultiple 36 = .ok (.aaload, 1) := by decide +kernel
theorem dX4_takeMultiple_37 : decode cX4_takeMultiple 37 = .ok (.invokevirtual 57, 3) := by decide +kernel
theorem dX4_takeMultiple_40 : decode cX4_takeMultiple 40 = .ok (.ifCond .ne 5, 3) := by decide +kernel
theorem dX4_takeMultiple_43 : decode cX4_takeMultiple 43 = .ok (.iconst 0, 1) := by decide +kernel
theorem dX4_takeMultiple_44 : decode cX4_takeMultiple 44 = .ok (.ireturn, 1) := by decide +kernel
theorem dX4_takeMultiple_45 : decode cX4_takeMultiple 45 = .ok (.iinc 5 1, 3) := by decide +kernel
theorem dX4_takeMultiple_48 : decode cX4_takeMultiple 48 = .ok (.goto (-45), 3) := by decide +kernel
theorem dX4_takeMultiple_51 : decode cX4_takeMultiple 51 = .ok (.iconst 1, 1) := by decide +kernel
theorem dX4_takeMultiple_52 : decode cX4_takeMultiple 52 = .ok (.ireturn, 1) := by decide +kernel
theorem dX4_workOut_0 : decode cX4_workOut 0 = .ok (.aload_n 0, 1) := by decide +kernel
theorem dX4_workOut_1 : decode cX4_workOut 1 = .ok (.getfield 26, 3) := by decide +kernel
theorem dX4_workOut_4 : decode cX4_workOut 4 = .ok (.lconst 0, 1) := by decide +kernel
theorem dX4_workOut_5 : decode cX4_workOut 5 = .ok (.lconst 1, 1) := by decide +kernel
theorem dX4_workOut_6 : decode cX4_workOut 6 = .ok (.invokevirtual 33, 3) := by decide +kernel
theorem dX4_workOut_9 : decode cX4_workOut 9 = .ok (.pop, 1) := by decide +kernel
theorem dX4_workOut_10 : decode cX4_workOut 10 = .ok (.iconst 0, 1) := by decide +kernel
theorem dX4_workOut_11 : decode cX4_workOut 11 = .ok (.istore_n 3, 1) := by decide +kernel
theorem dX4_workOut_12 : decode cX4_workOut 12 = .ok (.iload_n 3, 1) := by decide +kernel
theorem dX4_workOut_13 : decode cX4_workOut 13 = .ok (.iload_n 2, 1) := by decide +kernel
theorem dX4_workOut_14 : decode cX4_workOut 14 = .ok (.if_icmp .gt 116, 3) := by decide +kernel
theorem dX4_workOut_17 : decode cX4_workOut 17 = .ok (.iload_n 3, 1) := by decide +kernel
theorem dX4_workOut_18 : decode cX4_workOut 18 = .ok (.istore 4, 2) := by decide +kernel
theorem dX4_workOut_20 : decode cX4_workOut 20 = .ok (.iload 4, 2) := by decide +kernel
theorem dX4_workOut_22 : decode cX4_workOut 22 = .ok (.iload_n 2, 1) := by decide +kernel
theorem dX4_workOut_23 : decode cX4_workOut 23 = .ok (.if_icmp .gt 101, 3) := by decide +kernel
theorem dX4_workOut_26 : decode cX4_workOut 26 = .ok (.aload_n 0, 1) := by decide +kernel
theorem dX4_workOut_27 : decode cX4_workOut 27 = .ok (.getfield 22, 3) := by decide +kernel
theorem dX4_workOut_30 : decode cX4_workOut 30 = .ok (.aload_n 1, 1) := by decide +kernel
theorem dX4_workOut_31 : decode cX4_workOut 31 = .ok (.iload_n 3, 1) := by decide +kernel
theorem dX4_workOut_32 : decode cX4_workOut 32 = .ok (.iload 4, 2) := by decide +kernel
theorem dX4_workOut_34 : decode cX4_workOut 34 = .ok (.invokevirtual 60, 3) := by decide +kernel
theorem dX4_workOut_37 : decode cX4_workOut 37 = .ok (.i2l, 1) := by decide +kernel
theorem dX4_workOut_38 : decode cX4_workOut 38 = .ok (.lconst 1, 1) := by decide +kernel
theorem dX4_workOut_39 : decode cX4_workOut 39 = .ok (.invokevirtual 33, 3) := by decide +kernel
theorem dX4_workOut_42 : decode cX4_workOut 42 = .ok (.ifCond .eq 66, 3) := by decide +kernel
theorem dX4_workOut_45 : decode cX4_workOut 45 = .ok (.aload_n 0, 1) := by decide +kernel
theorem dX4_workOut_46 : decode cX4_workOut 46 = .ok (.getfield 22, 3) := by decide +kernel
theorem dX4_workOut_49 : decode cX4_workOut 49 = .ok (.aload_n 0, 1) := by decide +kernel
theorem dX4_workOut_50 : decode cX4_workOut 50 = .ok (.getfield 22, 3) := by decide +kernel
theorem dX4_workOut_53 : decode cX4_workOut 53 = .ok (.aload_n 0, 1) := by decide +kernel
theorem dX4_workOut_54 : decode cX4_workOut 54 = .ok (.getfield 13, 3) := by decide +kernel
theorem dX4_workOut_57 : decode cX4_workOut 57 = .ok (.iload_n 3, 1) := by decide +kernel
theorem dX4_workOut_58 : decode cX4_workOut 58 = .ok (.aaload, 1) := by decide +kernel
theorem dX4_workOut_59 : decode cX4_workOut 59 = .ok (.invokevirtual 57, 3) := by decide +kernel
theorem dX4_workOut_62 : decode cX4_workOut 62 = .ok (.ifCond .eq 46, 3) := by decide +kernel
theorem dX4_workOut_65 : decode cX4_workOut 65 = .ok (.aload_n 0, 1) := by decide +kernel
theorem dX4_workOut_66 : decode cX4_workOut 66 = .ok (.getfield 22, 3) := by decide +kernel
theorem dX4_workOut_69 : decode cX4_workOut 69 = .ok (.aload_n 0, 1) := by decide +kernel
theorem dX4_workOut_70 : decode cX4_workOut 70 = .ok (.getfield 22, 3) := by decide +kernel
theorem dX4_workOut_73 : decode cX4_workOut 73 = .ok (.aload_n 0, 1) := by decide +kernel
theorem dX4_workOut_74 : decode cX4_workOut 74 = .ok (.getfield 13, 3) := by decide +kernel
theorem dX4_workOut_77 : decode cX4_workOut 77 = .ok (.iload 4, 2) := by decide +kernel
theorem dX4_workOut_79 : decode cX4_workOut 79 = .ok (.aaload, 1) := by decide +kernel
theorem dX4_workOut_80 : decode cX4_workOut 80 = .ok (.invokevirtual 57, 3) := by decide +kernel
theorem dX4_workOut_83 : decode cX4_workOut 83 = .ok (.ifCond .eq 25, 3) := by decide +kernel
theorem dX4_workOut_86 : decode cX4_workOut 86 = .ok (.aload_n 0, 1) := by decide +kernel
theorem dX4_workOut_87 : decode cX4_workOut 87 = .ok (.getfield 26, 3) := by decide +kernel
theorem dX4_workOut_90 : decode cX4_workOut 90 = .ok (.aload_n 0, 1) := by decide +kernel
theorem dX4_workOut_91 : decode cX4_workOut 91 = .ok (.getfield 26, 3) := by decide +kernel
theorem dX4_workOut_94 : decode cX4_workOut 94 = .ok (.aload_n 0, 1) := by decide +kernel
theorem dX4_workOut_95 : decode cX4_workOut 95 = .ok (.getfield 22, 3) := by decide +kernel
theorem dX4_workOut_98 : decode cX4_workOut 98 = .ok (.invokevirtual 66, 3) := by decide +kernel
theorem dX4_workOut_101 : decode cX4_workOut 101 = .ok (.ifCond .eq 7, 3) := by decide +kernel
theorem dX4_workOut_104 : decode cX4_workOut 104 = .ok (.iconst 1, 1) := by decide +kernel
theorem dX4_workOut_105 : decode cX4_workOut 105 = .ok (.goto 4, 3) := by decide +kernel
theorem dX4_workOut_108 : decode cX4_workOut 108 = .ok (.iconst 0, 1) := by decide +kernel
theorem dX4_workOut_109 : decode cX4_workOut 109 = .ok (.istore 5, 2) := by decide +kernel
theorem dX4_workOut_111 : decode cX4_workOut 111 = .ok (.iload 5, 2) := by decide +kernel
theorem dX4_workOut_113 : decode cX4_workOut 113 = .ok (.ifCond .ne 5, 3) := by decide +kernel
theorem dX4_workOut_116 : decode cX4_workOut 116 = .ok (.iconst 0, 1) := by decide +kernel
theorem dX4_workOut_117 : decode cX4_workOut 117 = .ok (.ireturn, 1) := by decide +kernel
theorem dX4_workOut_118 : decode cX4_workOut 118 = .ok (.iinc 4 1, 3) := by decide +kernel
theorem dX4_workOut_121 : decode cX4_workOut 121 = .ok (.goto (-101), 3) := by decide +kernel
theorem dX4_workOut_124 : decode cX4_workOut 124 = .ok (.iinc 3 1, 3) := by decide +kernel
theorem dX4_workOut_127 : decode cX4_workOut 127 = .ok (.goto (-115), 3) := by decide +kernel
theorem dX4_workOut_130 : decode cX4_workOut 130 = .ok (.iconst 1, 1) := by decide +kernel
theorem dX4_workOut_131 : decode cX4_workOut 131 = .ok (.ireturn, 1) := by decide +kernel
theorem dX5_init_0 : decode cX5_init 0 = .ok (.aload_n 0, 1) := by decide +kernel
theorem dX5_init_1 : decode cX5_init 1 = .ok (.invokespecial 3, 3) := by decide +kernel
theorem dX5_init_4 : decode cX5_init 4 = .ok (.aload_n 0, 1) := by decide +kernel
theorem dX5_init_5 : decode cX5_init 5 = .ok (.new 9, 3) := by decide +kernel
theorem dX5_init_8 : decode cX5_init 8 = .ok (.dup, 1) := by decide +kernel
theorem dX5_init_9 : decode cX5_init 9 = .ok (.invokespecial 11, 3) := by decide +kernel
theorem dX5_init_12 : decode cX5_init 12 = .ok (.putfield 12, 3) := by decide +kernel
theorem dX5_init_15 : decode cX5_init 15 = .ok (.aload_n 0, 1) := by decide +kernel
theorem dX5_init_16 : decode cX5_init 16 = .ok (.iconst 5, 1) := by decide +kernel
theorem dX5_init_17 : decode cX5_init 17 = .ok (.invokestatic 18, 3) := by decide +kernel
theorem dX5_init_20 : decode cX5_init 20 = .ok (.putfield 22, 3) := by decide +kernel
theorem dX5_init_23 : decode cX5_init 23 = .ok (.aload_n 0, 1) := by decide +kernel
theorem dX5_init_24 : decode cX5_init 24 = .ok (.iconst 0, 1) := by decide +kernel
theorem dX5_init_25 : decode cX5_init 25 = .ok (.putfield 26, 3) := by decide +kernel
theorem dX5_init_28 : decode cX5_init 28 = .ok (.return_, 1) := by decide +kernel
theorem dX5_start_0 : decode cX5_start 0 = .ok (.aload_n 0, 1) := by decide +kernel
theorem dX5_start_1 : decode cX5_start 1 = .ok (.iload_n 1, 1) := by decide +kernel
theorem dX5_start_2 : decode cX5_start 2 = .ok (.putfield 26, 3) := by decide +kernel
theorem dX5_start_5 : decode cX5_start 5 = .ok (.aload_n 0, 1) := by decide +kernel
theorem dX5_start_6 : decode cX5_start 6 = .ok (.getfield 12, 3) := by decide +kernel
theorem dX5_start_9 : decode cX5_start 9 = .ok (.aload_n 2, 1) := by decide +kernel
theorem dX5_start_10 : decode cX5_start 10 = .ok (.invokevirtual 30, 3) := by decide +kernel
theorem dX5_start_13 : decode cX5_start 13 = .ok (.iconst 0, 1) := by decide +kernel
theorem dX5_start_14 : decode cX5_start 14 = .ok (.istore_n 3, 1) := by decide +kernel
theorem dX5_start_15 : decode cX5_start 15 = .ok (.iload_n 3, 1) := by decide +kernel
theorem dX5_start_16 : decode cX5_start 16 = .ok (.iconst 5, 1) := by decide +kernel
theorem dX5_start_17 : decode cX5_start 17 = .ok (.if_icmp .ge 30, 3) := by decide +kernel
theorem dX5_start_20 : decode cX5_start 20 = .ok (.aload_n 0, 1) := by decide +kernel
theorem dX5_start_21 : decode cX5_start 21 = .ok (.getfield 22, 3) := by decide +kernel
theorem dX5_start_24 : decode cX5_start 24 = .ok (.iload_n 3, 1) := by decide +kernel
theorem dX5_start_25 : decode cX5_start 25 = .ok (.aaload, 1) := by decide +kernel
theorem dX5_start_26 : decode cX5_start 26 = .ok (.iload_n 3, 1) := by decide +kernel
theorem dX5_start_27 : decode cX5_start 27 = .ok (.iload_n 1, 1) := by decide +kernel
theorem dX5_start_28 : decode cX5_start 28 = .ok (.if_icmp .ne 7, 3) := by decide +kernel
theorem dX5_start_31 : decode cX5_start 31 = .ok (.lconst 1, 1) := by decide +kernel
theorem dX5_start_32 : decode cX5_start 32 = .ok (.goto 4, 3) := by decide +kernel
theorem dX5_start_35 : decode cX5_start 35 = .ok (.lconst 0, 1) := by decide +kernel
theorem dX5_start_36 : decode cX5_start 36 = .ok (.lconst 1, 1) := by decide +kernel
theorem dX5_start_37 : decode cX5_start 37 = .ok (.invokevirtual 34, 3) := by decide +kernel
theorem dX5_start_40 : decode cX5_start 40 = .ok (.pop, 1) := by decide +kernel
theorem dX5_start_41 : decode cX5_start 41 = .ok (.iinc 3 1, 3) := by decide +kernel
theorem dX5_start_44 : decode cX5_start 44 = .ok (.goto (-29), 3) := by decide +kernel
theorem dX5_start_47 : decode cX5_start 47 = .ok (.return_, 1) := by decide +kernel
theorem dX6_init_0 : decode cX6_init 0 = .ok (.aload_n 0, 1) := by decide +kernel
theorem dX6_init_1 : decode cX6_init 1 = .ok (.invokespecial 3, 3) := by decide +kernel
theorem dX6_init_4 : decode cX6_init 4 = .ok (.aload_n 0, 1) := by decide +kernel
theorem dX6_init_5 : decode cX6_init 5 = .ok (.bipush 12, 2) := by decide +kernel
theorem dX6_init_7 : decode cX6_init 7 = .ok (.anewarray 9, 3) := by decide +kernel
theorem dX6_init_10 : decode cX6_init 10 = .ok (.putfield 11, 3) := by decide +kernel
theorem dX6_init_13 : decode cX6_init 13 = .ok (.aload_n 0, 1) := by decide +kernel
theorem dX6_init_14 : decode cX6_init 14 = .ok (.bipush 7, 2) := by decide +kernel
theorem dX6_init_16 : decode cX6_init 16 = .ok (.newarray .int, 2) := by decide +kernel
theorem dX6_init_18 : decode cX6_init 18 = .ok (.putfield 15, 3) := by decide +kernel
theorem dX6_init_21 : decode cX6_init 21 = .ok (.aload_n 0, 1) := by decide +kernel
theorem dX6_init_22 : decode cX6_init 22 = .ok (.iconst 5, 1) := by decide +kernel
theorem dX6_init_23 : decode cX6_init 23 = .ok (.newarray .long, 2) := by decide +kernel
theorem dX6_init_25 : decode cX6_init 25 = .ok (.putfield 19, 3) := by decide +kernel
theorem dX6_init_28 : decode cX6_init 28 = .ok (.aload_n 0, 1) := by decide +kernel
theorem dX6_init_29 : decode cX6_init 29 = .ok (.new 23, 3) := by decide +kernel
theorem dX6_init_32 : decode cX6_init 32 = .ok (.dup, 1) := by decide +kernel
theorem dX6_init_33 : decode cX6_init 33 = .ok (.invokespecial 25, 3) := by decide +kernel
theorem dX6_init_36 : decode cX6_init 36 = .ok (.putfield 26, 3) := by decide +kernel
theorem dX6_init_39 : decode cX6_init 39 = .ok (.aload_n 0, 1) := by decide +kernel
theorem dX6_init_40 : decode cX6_init 40 = .ok (.new 30, 3) := by decide +kernel
theorem dX6_init_43 : decode cX6_init 43 = .ok (.dup, 1) := by decide +kernel
theorem dX6_init_44 : decode cX6_init 44 = .ok (.invokespecial 32, 3) := by decide +kernel
theorem dX6_init_47 : decode cX6_init 47 = .ok (.putfield 33, 3) := by decide +kernel
theorem dX6_init_50 : decode cX6_init 50 = .ok (.aload_n 0, 1) := by decide +kernel
theorem dX6_init_51 : decode cX6_init 51 = .ok (.new 30, 3) := by decide +kernel
theorem dX6_init_54 : decode cX6_init 54 = .ok (.dup, 1) := by decide +kernel
theorem dX6_init_55 : decode cX6_init 55 = .ok (.invokespecial 32, 3) := by decide +kernel
theorem dX6_init_58 : decode cX6_init 58 = .ok (.putfield 37, 3) := by decide +kernel
theorem dX6_init_61 : decode cX6_init 61 = .ok (.aload_n 0, 1) := by decide +kernel
theorem dX6_init_62 : decode cX6_init 62 = .ok (.new 40, 3) := by decide +kernel
theorem dX6_init_65 : decode cX6_init 65 = .ok (.dup, 1) := by decide +kernel
theorem dX6_init_66 : decode cX6_init 66 = .ok (.invokespecial 42, 3) := by decide +kernel
theorem dX6_init_69 : decode cX6_init 69 = .ok (.putfield 43, 3) := by decide +kernel
theorem dX6_init_72 : decode cX6_init 72 = .ok (.aload_n 0, 1) := by decide +kernel
theorem dX6_init_73 : decode cX6_init 73 = .ok (.new 47, 3) := by decide +kernel
theorem dX6_init_76 : decode cX6_init 76 = .ok (.dup, 1) := by decide +kernel
theorem dX6_init_77 : decode cX6_init 77 = .ok (.invokespecial 49, 3) := by decide +kernel
theorem dX6_init_80 : decode cX6_init 80 = .ok (.putfield 50, 3) := by decide +kernel
theorem dX6_init_83 : decode cX6_init 83 = .ok (.aload_n 0, 1) := by decide +kernel
theorem dX6_init_84 : decode cX6_init 84 = .ok (.new 47, 3) := by decide +kernel
theorem dX6_init_87 : decode cX6_init 87 = .ok (.dup, 1) := by decide +kernel
theorem dX6_init_88 : decode cX6_init 88 = .ok (.invokespecial 49, 3) := by decide +kernel
theorem dX6_init_91 : decode cX6_init 91 = .ok (.putfield 54, 3) := by decide +kernel
theorem dX6_init_94 : decode cX6_init 94 = .ok (.aload_n 0, 1) := by decide +kernel
theorem dX6_init_95 : decode cX6_init 95 = .ok (.new 47, 3) := by decide +kernel
theorem dX6_init_98 : decode cX6_init 98 = .ok (.dup, 1) := by decide +kernel
theorem dX6_init_99 : decode cX6_init 99 = .ok (.invokespecial 49, 3) := by decide +kernel
theorem dX6_init_102 : decode cX6_init 102 = .ok (.putfield 57, 3) := by decide +kernel
theorem dX6_init_105 : decode cX6_init 105 = .ok (.aload_n 0, 1) := by decide +kernel
theorem dX6_init_106 : decode cX6_init 106 = .ok (.iconst 2, 1) := by decide +kernel
theorem dX6_init_107 : decode cX6_init 107 = .ok (.putfield 60, 3) := by decide +kernel
theorem dX6_init_110 : decode cX6_init 110 = .ok (.aload_n 0, 1) := by decide +kernel
theorem dX6_init_111 : decode cX6_init 111 = .ok (.iconst 0, 1) := by decide +kernel
theorem dX6_init_112 : decode cX6_init 112 = .ok (.putfield 64, 3) := by decide +kernel
theorem dX6_init_115 : decode cX6_init 115 = .ok (.aload_n 0, 1) := by decide +kernel
theorem dX6_init_116 : decode cX6_init 116 = .ok (.iconst 0, 1) := by decide +kernel
theorem dX6_init_117 : decode cX6_init 117 = .ok (.putfield 67, 3) := by decide +kernel
theorem dX6_init_120 : decode cX6_init 120 = .ok (.iconst 0, 1) := by decide +kernel
theorem dX6_init_121 : decode cX6_init 121 = .ok (.istore_n 1, 1) := by decide +kernel
theorem dX6_init_122 : decode cX6_init 122 = .ok (.iload_n 1, 1) := by decide +kernel
theorem dX6_init_123 : decode cX6_init 123 = .ok (.bipush 12, 2) := by decide +kernel
theorem dX6_init_125 : decode cX6_init 125 = .ok (.if_icmp .ge 22, 3) := by decide +kernel
theorem dX6_init_128 : decode cX6_init 128 = .ok (.aload_n 0, 1) := by decide +kernel
theorem dX6_init_129 : decode cX6_init 129 = .ok (.getfield 11, 3) := by decide +kernel
theorem dX6_init_132 : decode cX6_init 132 = .ok (.iload_n 1, 1) := by decide +kernel
theorem dX6_init_133 : decode cX6_init 133 = .ok (.new 9, 3) := by decide +kernel
theorem dX6_init_136 : decode cX6_init 136 = .ok (.dup, 1) := by decide +kernel
theorem dX6_init_137 : decode cX6_init 137 = .ok (.invokespecial 70, 3) := by decide +kernel
theorem dX6_init_140 : decode cX6_init 140 = .ok (.aastore, 1) := by decide +kernel
theorem dX6_init_141 : decode cX6_init 141 = .ok (.iinc 1 1, 3) := by decide +kernel
theorem dX6_init_144 : decode cX6_init 144 = .ok (.goto (-22), 3) := by decide +kernel
theorem dX6_init_147 : decode cX6_init 147 = .ok (.return_, 1) := by decide +kernel
theorem dX6_variables_0 : decode cX6_variables 0 = .ok (.iload_n 1, 1) := by decide +kernel
theorem dX6_variables_1 : decode cX6_variables 1 = .ok (.iconst 1, 1) := by decide +kernel
theorem dX6_variables_2 : decode cX6_variables 2 = .ok (.if_icmp .lt 8, 3) := by decide +kernel
theorem dX6_variables_5 : decode cX6_variables 5 = .ok (.iload_n 1, 1) := by decide +kernel
theorem dX6_variables_6 : decode cX6_variables 6 = .ok (.iconst 4, 1) := by decide +kernel
theorem dX6_variables_7 : decode cX6_variables 7 = .ok (.if_icmp .le 5, 3) := by decide +kernel
theorem dX6_variables_10 : decode cX6_variables 10 = .ok (.iconst (-1), 1) := by decide +kernel
theorem dX6_variables_11 : decode cX6_variables 11 = .ok (.ireturn, 1) := by decide +kernel
theorem dX6_variables_12 : decode cX6_variables 12 = .ok (.aload_n 0, 1) := by decide +kernel
theorem dX6_variables_13 : decode cX6_variables 13 = .ok (.getfield 64, 3) := by decide +kernel
theorem dX6_variables_16 : decode cX6_variables 16 = .ok (.istore_n 2, 1) := by decide +kernel
theorem dX6_variables_17 : decode cX6_variables 17 = .ok (.aload_n 0, 1) := by decide +kernel
theorem dX6_variables_18 : decode cX6_variables 18 = .ok (.iload_n 1, 1) := by decide +kernel
theorem dX6_variables_19 : decode cX6_variables 19 = .ok (.putfield 60, 3) := by decide +kernel
theorem dX6_variables_22 : decode cX6_variables 22 = .ok (.aload_n 0, 1) := by decide +kernel
theorem dX6_variables_23 : decode cX6_variables 23 = .ok (.iconst 0, 1) := by decide +kernel
theorem dX6_variables_24 : decode cX6_variables 24 = .ok (.putfield 64, 3) := by decide +kernel
theorem dX6_variables_27 : decode cX6_variables 27 = .ok (.aload_n 0, 1) := by decide +kernel
theorem dX6_variables_28 : decode cX6_variables 28 = .ok (.iconst 0, 1) := by decide +kernel
theorem dX6_variables_29 : decode cX6_variables 29 = .ok (.putfield 67, 3) := by decide +kernel
theorem dX6_variables_32 : decode cX6_variables 32 = .ok (.aload_n 0, 1) := by decide +kernel
theorem dX6_variables_33 : decode cX6_variables 33 = .ok (.getfield 15, 3) := by decide +kernel
theorem dX6_variables_36 : decode cX6_variables 36 = .ok (.iconst 0, 1) := by decide +kernel
theorem dX6_variables_37 : decode cX6_variables 37 = .ok (.invokestatic 71, 3) := by decide +kernel
theorem dX6_variables_40 : decode cX6_variables 40 = .ok (.aload_n 0, 1) := by decide +kernel
theorem dX6_variables_41 : decode cX6_variables 41 = .ok (.getfield 43, 3) := by decide +kernel
theorem dX6_variables_44 : decode cX6_variables 44 = .ok (.iconst 0, 1) := by decide +kernel
theorem dX6_variables_45 : decode cX6_variables 45 = .ok (.putfield 77, 3) := by decide +kernel
theorem dX6_variables_48 : decode cX6_variables 48 = .ok (.iload_n 2, 1) := by decide +kernel
theorem dX6_variables_49 : decode cX6_variables 49 = .ok (.ireturn, 1) := by decide +kernel
theorem dX6_form_0 : decode cX6_form 0 = .ok (.aload_n 0, 1) := by decide +kernel
theorem dX6_form_1 : decode cX6_form 1 = .ok (.getfield 64, 3) := by decide +kernel
theorem dX6_form_4 : decode cX6_form 4 = .ok (.bipush 12, 2) := by decide +kernel
theorem dX6_form_6 : decode cX6_form 6 = .ok (.if_icmp .lt 6, 3) := by decide +kernel
theorem dX6_form_9 : decode cX6_form 9 = .ok (.bipush (-3), 2) := by decide +kernel
theorem dX6_form_11 : decode cX6_form 11 = .ok (.ireturn, 1) := by decide +kernel
theorem dX6_form_12 : decode cX6_form 12 = .ok (.aload_n 0, 1) := by decide +kernel
theorem dX6_form_13 : decode cX6_form 13 = .ok (.getfield 11, 3) := by decide +kernel
theorem dX6_form_16 : decode cX6_form 16 = .ok (.aload_n 0, 1) := by decide +kernel
theorem dX6_form_17 : decode cX6_form 17 = .ok (.getfield 64, 3) := by decide +kernel
theorem dX6_form_20 : decode cX6_form 20 = .ok (.aaload, 1) := by decide +kernel
theorem dX6_form_21 : decode cX6_form 21 = .ok (.invokevirtual 81, 3) := by decide +kernel
theorem dX6_form_24 : decode cX6_form 24 = .ok (.aload_n 0, 1) := by decide +kernel
theorem dX6_form_25 : decode cX6_form 25 = .ok (.dup, 1) := by decide +kernel
theorem dX6_form_26 : decode cX6_form 26 = .ok (.getfield 64, 3) := by decide +kernel
theorem dX6_form_29 : decode cX6_form 29 = .ok (.iconst 1, 1) := by decide +kernel
theorem dX6_form_30 : decode cX6_form 30 = .ok (.iadd, 1) := by decide +kernel
theorem dX6_form_31 : decode cX6_form 31 = .ok (.putfield 64, 3) := by decide +kernel
theorem dX6_form_34 : decode cX6_form 34 = .ok (.aload_n 0, 1) := by decide +kernel
theorem dX6_form_35 : decode cX6_form 35 = .ok (.getfield 64, 3) := by decide +kernel
theorem dX6_form_38 : decode cX6_form 38 = .ok (.iconst 1, 1) := by decide +kernel
theorem dX6_form_39 : decode cX6_form 39 = .ok (.isub, 1) := by decide +kernel
theorem dX6_form_40 : decode cX6_form 40 = .ok (.ireturn, 1) := by decide +kernel
theorem dX6_term_0 : decode cX6_term 0 = .ok (.aload_n 0, 1) := by decide +kernel
theorem dX6_term_1 : decode cX6_term 1 = .ok (.iload_n 1, 1) := by decide +kernel
theorem dX6_term_2 : decode cX6_term 2 = .ok (.invokevirtual 84, 3) := by decide +kernel
theorem dX6_term_5 : decode cX6_term 5 = .ok (.ifCond .eq 19, 3) := by decide +kernel
theorem dX6_term_8 : decode cX6_term 8 = .ok (.aload_n 0, 1) := by decide +kernel
theorem dX6_term_9 : decode cX6_term 9 = .ok (.iload_n 2, 1) := by decide +kernel
theorem dX6_term_10 : decode cX6_term 10 = .ok (.invokevirtual 88, 3) := by decide +kernel
theorem dX6_term_13 : decode cX6_term 13 = .ok (.ifCond .eq 11, 3) := by decide +kernel
theorem dX6_term_16 : decode cX6_term 16 = .ok (.aload_n 0, 1) := by decide +kernel
theorem dX6_term_17 : decode cX6_term 17 = .ok (.iload_n 3, 1) := by decide +kernel
theorem dX6_term_18 : decode cX6_term 18 = .ok (.invokevirtual 88, 3) := by decide +kernel
theorem dX6_term_21 : decode cX6_term 21 = .ok (.ifCond .ne 6, 3) := by decide +kernel
theorem dX6_term_24 : decode cX6_term 24 = .ok (.ldc 91, 2) := by decide +kernel
theorem dX6_term_26 : decode cX6_term 26 = .ok (.ireturn, 1) := by decide +kernel
theorem dX6_term_27 : decode cX6_term 27 = .ok (.iload 4, 2) := by decide +kernel
theorem dX6_term_29 : decode cX6_term 29 = .ok (.ldc 92, 2) := by decide +kernel
theorem dX6_term_31 : decode cX6_term 31 = .ok (.if_icmp .lt 10, 3) := by decide +kernel
theorem dX6_term_34 : decode cX6_term 34 = .ok (.iload 4, 2) := by decide +kernel
theorem dX6_term_36 : decode cX6_term 36 = .ok (.ldc 93, 2) := by decide +kernel
theorem dX6_term_38 : decode cX6_term 38 = .ok (.if_icmp .le 6, 3) := by decide +kernel
theorem dX6_term_41 : decode cX6_term 41 = .ok (.ldc 91, 2) := by decide +kernel
theorem dX6_term_43 : decode cX6_term 43 = .ok (.ireturn, 1) := by decide +kernel
theorem dX6_term_44 : decode cX6_term 44 = .ok (.aload_n 0, 1) := by decide +kernel
theorem dX6_term_45 : decode cX6_term 45 = .ok (.getfield 11, 3) := by decide +kernel
theorem dX6_term_48 : decode cX6_term 48 = .ok (.iload_n 1, 1) := by decide +kernel
theorem dX6_term_49 : decode cX6_term 49 = .ok (.aaload, 1) := by decide +kernel
theorem dX6_term_50 : decode cX6_term 50 = .ok (.iload_n 2, 1) := by decide +kernel
theorem dX6_term_51 : decode cX6_term 51 = .ok (.iload_n 3, 1) := by decide +kernel
theorem dX6_term_52 : decode cX6_term 52 = .ok (.iload 4, 2) := by decide +kernel
theorem dX6_term_54 : decode cX6_term 54 = .ok (.invokevirtual 94, 3) := by decide +kernel
theorem dX6_term_57 : decode cX6_term 57 = .ok (.ireturn, 1) := by decide +kernel
theorem dX6_value_0 : decode cX6_value 0 = .ok (.aload_n 0, 1) := by decide +kernel
theorem dX6_value_1 : decode cX6_value 1 = .ok (.iload_n 1, 1) := by decide +kernel
theorem dX6_value_2 : decode cX6_value 2 = .ok (.invokevirtual 84, 3) := by decide +kernel
theorem dX6_value_5 : decode cX6_value 5 = .ok (.ifCond .ne 7, 3) := by decide +kernel
theorem dX6_value_8 : decode cX6_value 8 = .ok (.ldc2_w 98, 3) := by decide +kernel
theorem dX6_value_11 : decode cX6_value 11 = .ok (.lreturn, 1) := by decide +kernel
theorem dX6_value_12 : decode cX6_value 12 = .ok (.aload_n 0, 1) := by decide +kernel
theorem dX6_value_13 : decode cX6_value 13 = .ok (.getfield 19, 3) := by decide +kernel
theorem dX6_value_16 : decode cX6_value 16 = .ok (.iconst 0, 1) := by decide +kernel
theorem dX6_value_17 : decode cX6_value 17 = .ok (.lconst 1, 1) := by decide +kernel
theorem dX6_value_18 : decode cX6_value 18 = .ok (.lastore, 1) := by decide +kernel
theorem dX6_value_19 : decode cX6_value 19 = .ok (.aload_n 0, 1) := by decide +kernel
theorem dX6_value_20 : decode cX6_value 20 = .ok (.getfield 19, 3) := by decide +kernel
theorem dX6_value_23 : decode cX6_value 23 = .ok (.iconst 1, 1) := by decide +kernel
theorem dX6_value_24 : decode cX6_value 24 = .ok (.iload_n 2, 1) := by decide +kernel
theorem dX6_value_25 : decode cX6_value 25 = .ok (.i2l, 1) := by decide +kernel
theorem dX6_value_26 : decode cX6_value 26 = .ok (.lastore, 1) := by decide +kernel
theorem dX6_value_27 : decode cX6_value 27 = .ok (.aload_n 0, 1) := by decide +kernel
theorem dX6_value_28 : decode cX6_value 28 = .ok (.getfield 19, 3) := by decide +kernel
theorem dX6_value_31 : decode cX6_value 31 = .ok (.iconst 2, 1) := by decide +kernel
theorem dX6_value_32 : decode cX6_value 32 = .ok (.iload_n 3, 1) := by decide +kernel
theorem dX6_value_33 : decode cX6_value 33 = .ok (.i2l, 1) := by decide +kernel
theorem dX6_value_34 : decode cX6_value 34 = .ok (.lastore, 1) := by decide +kernel
theorem dX6_value_35 : decode cX6_value 35 = .ok (.aload_n 0, 1) := by decide +kernel
theorem dX6_value_36 : decode cX6_value 36 = .ok (.getfield 19, 3) := by decide +kernel
theorem dX6_value_39 : decode cX6_value 39 = .ok (.iconst 3, 1) := by decide +kernel
theorem dX6_value_40 : decode cX6_value 40 = .ok (.iload 4, 2) := by decide +kernel
theorem dX6_value_42 : decode cX6_value 42 = .ok (.i2l, 1) := by decide +kernel
theorem dX6_value_43 : decode cX6_value 43 = .ok (.lastore, 1) := by decide +kernel
theorem dX6_value_44 : decode cX6_value 44 = .ok (.aload_n 0, 1) := by decide +kernel
theorem dX6_value_45 : decode cX6_value 45 = .ok (.getfield 19, 3) := by decide +kernel
theorem dX6_value_48 : decode cX6_value 48 = .ok (.iconst 4, 1) := by decide +kernel
theorem dX6_value_49 : decode cX6_value 49 = .ok (.iload 5, 2) := by decide +kernel
theorem dX6_value_51 : decode cX6_value 51 = .ok (.i2l, 1) := by decide +kernel
theorem dX6_value_52 : decode cX6_value 52 = .ok (.lastore, 1) := by decide +kernel
theorem dX6_value_53 : decode cX6_value 53 = .ok (.iconst 1, 1) := by decide +kernel
theorem dX6_value_54 : decode cX6_value 54 = .ok (.istore 6, 2) := by decide +kernel
theorem dX6_value_56 : decode cX6_value 56 = .ok (.iload 6, 2) := by decide +kernel
theorem dX6_value_58 : decode cX6_value 58 = .ok (.aload_n 0, 1) := by decide +kernel
theorem dX6_value_59 : decode cX6_value 59 = .ok (.getfield 60, 3) := by decide +kernel
theorem dX6_value_62 : decode cX6_value 62 = .ok (.if_icmp .gt 41, 3) := by decide +kernel
theorem dX6_value_65 : decode cX6_value 65 = .ok (.aload_n 0, 1) := by decide +kernel
theorem dX6_value_66 : decode cX6_value 66 = .ok (.getfield 19, 3) := by decide +kernel
theorem dX6_value_69 : decode cX6_value 69 = .ok (.iload 6, 2) := by decide +kernel
theorem dX6_value_71 : decode cX6_value 71 = .ok (.laload, 1) := by decide +kernel
theorem dX6_value_72 : decode cX6_value 72 = .ok (.ldc2_w 100, 3) := by decide +kernel
theorem dX6_value_75 : decode cX6_value 75 = .ok (.lcmp, 1) := by decide +kernel
theorem dX6_value_76 : decode cX6_value 76 = .ok (.ifCond .lt 17, 3) := by decide +kernel
theorem dX6_value_79 : decode cX6_value 79 = .ok (.aload_n 0, 1) := by decide +kernel
theorem dX6_value_80 : decode cX6_value 80 = .ok (.getfield 19, 3) := by decide +kernel
theorem dX6_value_83 : decode cX6_value 83 = .ok (.iload 6, 2) := by decide +kernel
theorem dX6_value_85 : decode cX6_value 85 = .ok (.laload, 1) := by decide +kernel
theorem dX6_value_86 : decode cX6_value 86 = .ok (.ldc2_w 102, 3) := by decide +kernel
theorem dX6_value_89 : decode cX6_value 89 = .ok (.lcmp, 1) := by decide +kernel
theorem dX6_value_90 : decode cX6_value 90 = .ok (.ifCond .le 7, 3) := by decide +kernel
theorem dX6_value_93 : decode cX6_value 93 = .ok (.ldc2_w 98, 3) := by decide +kernel
theorem dX6_value_96 : decode cX6_value 96 = .ok (.lreturn, 1) := by decide +kernel
theorem dX6_value_97 : decode cX6_value 97 = .ok (.iinc 6 1, 3) := by decide +kernel
theorem dX6_value_100 : decode cX6_value 100 = .ok (.goto (-44), 3) := by decide +kernel
theorem dX6_value_103 : decode cX6_value 103 = .ok (.aload_n 0, 1) := by decide +kernel
theorem dX6_value_104 : decode cX6_value 104 = .ok (.getfield 11, 3) := by decide +kernel
theorem dX6_value_107 : decode cX6_value 107 = .ok (.iload_n 1, 1) := by decide +kernel
theorem dX6_value_108 : decode cX6_value 108 = .ok (.aaload, 1) := by decide +kernel
theorem dX6_value_109 : decode cX6_value 109 = .ok (.aload_n 0, 1) := by decide +kernel
theorem dX6_value_110 : decode cX6_value 110 = .ok (.getfield 19, 3) := by decide +kernel
theorem dX6_value_113 : decode cX6_value 113 = .ok (.aload_n 0, 1) := by decide +kernel
theorem dX6_value_114 : decode cX6_value 114 = .ok (.getfield 60, 3) := by decide +kernel
theorem dX6_value_117 : decode cX6_value 117 = .ok (.invokevirtual 104, 3) := by decide +kernel
theorem dX6_value_120 : decode cX6_value 120 = .ok (.lreturn, 1) := by decide +kernel
theorem dX6_plain_0 : decode cX6_plain 0 = .ok (.aload_n 0, 1) := by decide +kernel
theorem dX6_plain_1 : decode cX6_plain 1 = .ok (.iload_n 1, 1) := by decide +kernel
theorem dX6_plain_2 : decode cX6_plain 2 = .ok (.invokevirtual 84, 3) := by decide +kernel
theorem dX6_plain_5 : decode cX6_plain 5 = .ok (.ifCond .ne 5, 3) := by decide +kernel
theorem dX6_plain_8 : decode cX6_plain 8 = .ok (.iconst (-1), 1) := by decide +kernel
theorem dX6_plain_9 : decode cX6_plain 9 = .ok (.ireturn, 1) := by decide +kernel
theorem dX6_plain_10 : decode cX6_plain 10 = .ok (.aload_n 0, 1) := by decide +kernel
theorem dX6_plain_11 : decode cX6_plain 11 = .ok (.getfield 37, 3) := by decide +kernel
theorem dX6_plain_14 : decode cX6_plain 14 = .ok (.aload_n 0, 1) := by decide +kernel
theorem dX6_plain_15 : decode cX6_plain 15 = .ok (.getfield 11, 3) := by decide +kernel
theorem dX6_plain_18 : decode cX6_plain 18 = .ok (.iload_n 1, 1) := by decide +kernel
theorem dX6_plain_19 : decode cX6_plain 19 = .ok (.aaload, 1) := by decide +kernel
theorem dX6_plain_20 : decode cX6_plain 20 = .ok (.aload_n 0, 1) := by decide +kernel
theorem dX6_plain_21 : decode cX6_plain 21 = .ok (.getfield 60, 3) := by decide +kernel
theorem dX6_plain_24 : decode cX6_plain 24 = .ok (.invokevirtual 108, 3) := by decide +kernel
theorem dX6_plain_27 : decode cX6_plain 27 = .ok (.ireturn, 1) := by decide +kernel
theorem dX6_prove_0 : decode cX6_prove 0 = .ok (.aload_n 0, 1) := by decide +kernel
theorem dX6_prove_1 : decode cX6_prove 1 = .ok (.iload_n 1, 1) := by decide +kernel
theorem dX6_prove_2 : decode cX6_prove 2 = .ok (.invokevirtual 84, 3) := by decide +kernel
theorem dX6_prove_5 : decode cX6_prove 5 = .ok (.ifCond .ne 5, 3) := by decide +kernel
theorem dX6_prove_8 : decode cX6_prove 8 = .ok (.iconst (-1), 1) := by decide +kernel
theorem dX6_prove_9 : decode cX6_prove 9 = .ok (.ireturn, 1) := by decide +kernel
theorem dX6_prove_10 : decode cX6_prove 10 = .ok (.aload_n 0, 1) := by decide +kernel
theorem dX6_prove_11 : decode cX6_prove 11 = .ok (.iload_n 1, 1) := by decide +kernel
theorem dX6_prove_12 : decode cX6_prove 12 = .ok (.iconst (-1), 1) := by decide +kernel
theorem dX6_prove_13 : decode cX6_prove 13 = .ok (.invokevirtual 112, 3) := by decide +kernel
theorem dX6_prove_16 : decode cX6_prove 16 = .ok (.aload_n 0, 1) := by decide +kernel
theorem dX6_prove_17 : decode cX6_prove 17 = .ok (.getfield 26, 3) := by decide +kernel
theorem dX6_prove_20 : decode cX6_prove 20 = .ok (.aload_n 0, 1) := by decide +kernel
theorem dX6_prove_21 : decode cX6_prove 21 = .ok (.getfield 11, 3) := by decide +kernel
theorem dX6_prove_24 : decode cX6_prove 24 = .ok (.iload_n 1, 1) := by decide +kernel
theorem dX6_prove_25 : decode cX6_prove 25 = .ok (.aaload, 1) := by decide +kernel
theorem dX6_prove_26 : decode cX6_prove 26 = .ok (.aload_n 0, 1) := by decide +kernel
theorem dX6_prove_27 : decode cX6_prove 27 = .ok (.getfield 60, 3) := by decide +kernel
theorem dX6_prove_30 : decode cX6_prove 30 = .ok (.invokevirtual 116, 3) := by decide +kernel
theorem dX6_prove_33 : decode cX6_prove 33 = .ok (.aload_n 0, 1) := by decide +kernel
theorem dX6_prove_34 : decode cX6_prove 34 = .ok (.getfield 33, 3) := by decide +kernel
theorem dX6_prove_37 : decode cX6_prove 37 = .ok (.aload_n 0, 1) := by decide +kernel
theorem dX6_prove_38 : decode cX6_prove 38 = .ok (.getfield 26, 3) := by decide +kernel
theorem dX6_prove_41 : decode cX6_prove 41 = .ok (.aload_n 0, 1) := by decide +kernel
theorem dX6_prove_42 : decode cX6_prove 42 = .ok (.getfield 60, 3) := by decide +kernel
theorem dX6_prove_45 : decode cX6_prove 45 = .ok (.invokevirtual 120, 3) := by decide +kernel
theorem dX6_prove_48 : decode cX6_prove 48 = .ok (.istore_n 2, 1) := by decide +kernel
theorem dX6_prove_49 : decode cX6_prove 49 = .ok (.iload_n 2, 1) := by decide +kernel
theorem dX6_prove_50 : decode cX6_prove 50 = .ok (.ifCond .ne 56, 3) := by decide +kernel
theorem dX6_prove_53 : decode cX6_prove 53 = .ok (.aload_n 0, 1) := by decide +kernel
theorem dX6_prove_54 : decode cX6_prove 54 = .ok (.getfield 33, 3) := by decide +kernel
theorem dX6_prove_57 : decode cX6_prove 57 = .ok (.invokevirtual 124, 3) := by decide +kernel
theorem dX6_prove_60 : decode cX6_prove 60 = .ok (.ifCond .eq 34, 3) := by decide +kernel
theorem dX6_prove_63 : decode cX6_prove 63 = .ok (.aload_n 0, 1) := by decide +kernel
theorem dX6_prove_64 : decode cX6_prove 64 = .ok (.getfield 43, 3) := by decide +kernel
theorem dX6_prove_67 : decode cX6_prove 67 = .ok (.aload_n 0, 1) := by decide +kernel
theorem dX6_prove_68 : decode cX6_prove 68 = .ok (.getfield 33, 3) := by decide +kernel
theorem dX6_prove_71 : decode cX6_prove 71 = .ok (.getfield 128, 3) := by decide +kernel
theorem dX6_prove_74 : decode cX6_prove 74 = .ok (.aload_n 0, 1) := by decide +kernel
theorem dX6_prove_75 : decode cX6_prove 75 = .ok (.getfield 11, 3) := by decide +kernel
theorem dX6_prove_78 : decode cX6_prove 78 = .ok (.iload_n 1, 1) := by decide +kernel
theorem dX6_prove_79 : decode cX6_prove 79 = .ok (.aaload, 1) := by decide +kernel
theorem dX6_prove_80 : decode cX6_prove 80 = .ok (.aload_n 0, 1) := by decide +kernel
theorem dX6_prove_81 : decode cX6_prove 81 = .ok (.getfield 60, 3) := by decide +kernel
theorem dX6_prove_84 : decode cX6_prove 84 = .ok (.invokevirtual 132, 3) := by decide +kernel
theorem dX6_prove_87 : decode cX6_prove 87 = .ok (.ifCond .eq 7, 3) := by decide +kernel
theorem dX6_prove_90 : decode cX6_prove 90 = .ok (.iconst 1, 1) := by decide +kernel
theorem dX6_prove_91 : decode cX6_prove 91 = .ok (.goto 4, 3) := by decide +kernel
theorem dX6_prove_94 : decode cX6_prove 94 = .ok (.iconst 0, 1) := by decide +kernel
theorem dX6_prove_95 : decode cX6_prove 95 = .ok (.istore_n 3, 1) := by decide +kernel
theorem dX6_prove_96 : decode cX6_prove 96 = .ok (.iload_n 3, 1) := by decide +kernel
theorem dX6_prove_97 : decode cX6_prove 97 = .ok (.ifCond .eq 7, 3) := by decide +kernel
theorem dX6_prove_100 : decode cX6_prove 100 = .ok (.iconst 0, 1) := by decide +kernel
theorem dX6_prove_101 : decode cX6_prove 101 = .ok (.goto 4, 3) := by decide +kernel
theorem dX6_prove_104 : decode cX6_prove 104 = .ok (.iconst 2, 1) := by decide +kernel
theorem dX6_prove_105 : decode cX6_prove 105 = .ok (.istore_n 2, 1) := by decide +kernel
theorem dX6_prove_106 : decode cX6_prove 106 = .ok (.aload_n 0, 1) := by decide +kernel
theorem dX6_prove_107 : decode cX6_prove 107 = .ok (.iload_n 2, 1) := by decide +kernel
theorem dX6_prove_108 : decode cX6_prove 108 = .ok (.invokevirtual 136, 3) := by decide +kernel
theorem dX6_prove_111 : decode cX6_prove 111 = .ok (.ireturn, 1) := by decide +kernel
theorem dX6_under_0 : decode cX6_under 0 = .ok (.aload_n 0, 1) := by decide +kernel
theorem dX6_under_1 : decode cX6_under 1 = .ok (.iload_n 1, 1) := by decide +kernel
theorem dX6_under_2 : decode cX6_under 2 = .ok (.invokevirtual 84, 3) := by decide +kernel
theorem dX6_under_5 : decode cX6_under 5 = .ok (.ifCond .eq 22, 3) := by decide +kernel
theorem dX6_under_8 : decode cX6_under 8 = .ok (.aload_n 0, 1) := by decide +kernel
theorem dX6_under_9 : decode cX6_under 9 = .ok (.iload_n 2, 1) := by decide +kernel
theorem dX6_under_10 : decode cX6_under 10 = .ok (.invokevirtual 84, 3) := by decide +kernel
theorem dX6_under_13 : decode cX6_under 13 = .ok (.ifCond .eq 14, 3) := by decide +kernel
theorem dX6_under_16 : decode cX6_under 16 = .ok (.iload_n 3, 1) := by decide +kernel
theorem dX6_under_17 : decode cX6_under 17 = .ok (.iconst 1, 1) := by decide +kernel
theorem dX6_under_18 : decode cX6_under 18 = .ok (.if_icmp .lt 9, 3) := by decide +kernel
theorem dX6_under_21 : decode cX6_under 21 = .ok (.iload_n 3, 1) := by decide +kernel
theorem dX6_under_22 : decode cX6_under 22 = .ok (.bipush 20, 2) := by decide +kernel
theorem dX6_under_24 : decode cX6_under 24 = .ok (.if_icmp .le 5, 3) := by decide +kernel
theorem dX6_under_27 : decode cX6_under 27 = .ok (.iconst (-1), 1) := by decide +kernel
theorem dX6_under_28 : decode cX6_under 28 = .ok (.ireturn, 1) := by decide +kernel
theorem dX6_under_29 : decode cX6_under 29 = .ok (.aload_n 0, 1) := by decide +kernel
theorem dX6_under_30 : decode cX6_under 30 = .ok (.iload_n 1, 1) := by decide +kernel
theorem dX6_under_31 : decode cX6_under 31 = .ok (.iload_n 2, 1) := by decide +kernel
theorem dX6_under_32 : decode cX6_under 32 = .ok (.invokevirtual 112, 3) := by decide +kernel
theorem dX6_under_35 : decode cX6_under 35 = .ok (.aload_n 0, 1) := by decide +kernel
theorem dX6_under_36 : decode cX6_under 36 = .ok (.aload_n 0, 1) := by decide +kernel
theorem dX6_under_37 : decode cX6_under 37 = .ok (.getfield 11, 3) := by decide +kernel
theorem dX6_under_40 : decode cX6_under 40 = .ok (.iload_n 1, 1) := by decide +kernel
theorem dX6_under_41 : decode cX6_under 41 = .ok (.aaload, 1) := by decide +kernel
theorem dX6_under_42 : decode cX6_under 42 = .ok (.aload_n 0, 1) := by decide +kernel
theorem dX6_under_43 : decode cX6_under 43 = .ok (.getfield 11, 3) := by decide +kernel
theorem dX6_under_46 : decode cX6_under 46 = .ok (.iload_n 2, 1) := by decide +kernel
theorem dX6_under_47 : decode cX6_under 47 = .ok (.aaload, 1) := by decide +kernel
theorem dX6_under_48 : decode cX6_under 48 = .ok (.iload_n 3, 1) := by decide +kernel
theorem dX6_under_49 : decode cX6_under 49 = .ok (.invokevirtual 140, 3) := by decide +kernel
theorem dX6_under_52 : decode cX6_under 52 = .ok (.ifCond .eq 9, 3) := by decide +kernel
theorem dX6_under_55 : decode cX6_under 55 = .ok (.aload_n 0, 1) := by decide +kernel
theorem dX6_under_56 : decode cX6_under 56 = .ok (.iconst 1, 1) := by decide +kernel
theorem dX6_under_57 : decode cX6_under 57 = .ok (.invokevirtual 136, 3) := by decide +kernel
theorem dX6_under_60 : decode cX6_under 60 = .ok (.ireturn, 1) := by decide +kernel
theorem dX6_under_61 : decode cX6_under 61 = .ok (.aload_n 0, 1) := by decide +kernel
theorem dX6_under_62 : decode cX6_under 62 = .ok (.aload_n 0, 1) := by decide +kernel
theorem dX6_under_63 : decode cX6_under 63 = .ok (.getfield 11, 3) := by decide +kernel
theorem dX6_under_66 : decode cX6_under 66 = .ok (.iload_n 1, 1) := by decide +kernel
theorem dX6_under_67 : decode cX6_under 67 = .ok (.aaload, 1) := by decide +kernel
theorem dX6_under_68 : decode cX6_under 68 = .ok (.aload_n 0, 1) := by decide +kernel
theorem dX6_under_69 : decode cX6_under 69 = .ok (.getfield 11, 3) := by decide +kernel
theorem dX6_under_72 : decode cX6_under 72 = .ok (.iload_n 2, 1) := by decide +kernel
theorem dX6_under_73 : decode cX6_under 73 = .ok (.aaload, 1) := by decide +kernel
theorem dX6_under_74 : decode cX6_under 74 = .ok (.invokevirtual 144, 3) := by decide +kernel
theorem dX6_under_77 : decode cX6_under 77 = .ok (.ifCond .eq 9, 3) := by decide +kernel
theorem dX6_under_80 : decode cX6_under 80 = .ok (.aload_n 0, 1) := by decide +kernel
theorem dX6_under_81 : decode cX6_under 81 = .ok (.iconst 0, 1) := by decide +kernel
theorem dX6_under_82 : decode cX6_under 82 = .ok (.invokevirtual 136, 3) := by decide +kernel
theorem dX6_under_85 : decode cX6_under 85 = .ok (.ireturn, 1) := by decide +kernel
theorem dX6_under_86 : decode cX6_under 86 = .ok (.aload_n 0, 1) := by decide +kernel
theorem dX6_under_87 : decode cX6_under 87 = .ok (.iconst 2, 1) := by decide +kernel
theorem dX6_under_88 : decode cX6_under 88 = .ok (.invokevirtual 136, 3) := by decide +kernel
theorem dX6_under_91 : decode cX6_under 91 = .ok (.ireturn, 1) := by decide +kernel
theorem dX6_told_0 : decode cX6_told 0 = .ok (.iload_n 1, 1) := by decide +kernel
theorem dX6_told_1 : decode cX6_told 1 = .ok (.ifCond .lt 9, 3) := by decide +kernel
theorem dX6_told_4 : decode cX6_told 4 = .ok (.iload_n 1, 1) := by decide +kernel
theorem dX6_told_5 : decode cX6_told 5 = .ok (.bipush 7, 2) := by decide +kernel
theorem dX6_told_7 : decode cX6_told 7 = .ok (.if_icmp .lt 5, 3) := by decide +kernel
theorem dX6_told_10 : decode cX6_told 10 = .ok (.iconst (-1), 1) := by decide +kernel
theorem dX6_told_11 : decode cX6_told 11 = .ok (.ireturn, 1) := by decide +kernel
theorem dX6_told_12 : decode cX6_told 12 = .ok (.aload_n 0, 1) := by decide +kernel
theorem dX6_told_13 : decode cX6_told 13 = .ok (.getfield 67, 3) := by decide +kernel
theorem dX6_told_16 : decode cX6_told 16 = .ok (.ifCond .ne 6, 3) := by decide +kernel
theorem dX6_told_19 : decode cX6_told 19 = .ok (.bipush (-2), 2) := by decide +kernel
theorem dX6_told_21 : decode cX6_told 21 = .ok (.ireturn, 1) := by decide +kernel
theorem dX6_told_22 : decode cX6_told 22 = .ok (.aload_n 0, 1) := by decide +kernel
theorem dX6_told_23 : decode cX6_told 23 = .ok (.getfield 15, 3) := by decide +kernel
theorem dX6_told_26 : decode cX6_told 26 = .ok (.iload_n 1, 1) := by decide +kernel
theorem dX6_told_27 : decode cX6_told 27 = .ok (.iaload, 1) := by decide +kernel
theorem dX6_told_28 : decode cX6_told 28 = .ok (.ireturn, 1) := by decide +kernel
theorem dX6_weight_0 : decode cX6_weight 0 = .ok (.aload_n 0, 1) := by decide +kernel
theorem dX6_weight_1 : decode cX6_weight 1 = .ok (.iload_n 1, 1) := by decide +kernel
theorem dX6_weight_2 : decode cX6_weight 2 = .ok (.invokevirtual 148, 3) := by decide +kernel
theorem dX6_weight_5 : decode cX6_weight 5 = .ok (.ifCond .eq 10, 3) := by decide +kernel
theorem dX6_weight_8 : decode cX6_weight 8 = .ok (.iload_n 2, 1) := by decide +kernel
theorem dX6_weight_9 : decode cX6_weight 9 = .ok (.invokestatic 151, 3) := by decide +kernel
theorem dX6_weight_12 : decode cX6_weight 12 = .ok (.ifCond .ne 5, 3) := by decide +kernel
theorem dX6_weight_15 : decode cX6_weight 15 = .ok (.lconst 0, 1) := by decide +kernel
theorem dX6_weight_16 : decode cX6_weight 16 = .ok (.lreturn, 1) := by decide +kernel
theorem dX6_weight_17 : decode cX6_weight 17 = .ok (.aload_n 0, 1) := by decide +kernel
theorem dX6_weight_18 : decode cX6_weight 18 = .ok (.getfield 33, 3) := by decide +kernel
theorem dX6_weight_21 : decode cX6_weight 21 = .ok (.getfield 154, 3) := by decide +kernel
theorem dX6_weight_24 : decode cX6_weight 24 = .ok (.iload_n 1, 1) := by decide +kernel
theorem dX6_weight_25 : decode cX6_weight 25 = .ok (.aaload, 1) := by decide +kernel
theorem dX6_weight_26 : decode cX6_weight 26 = .ok (.getfield 158, 3) := by decide +kernel
theorem dX6_weight_29 : decode cX6_weight 29 = .ok (.iload_n 2, 1) := by decide +kernel
theorem dX6_weight_30 : decode cX6_weight 30 = .ok (.invokevirtual 163, 3) := by decide +kernel
theorem dX6_weight_33 : decode cX6_weight 33 = .ok (.lreturn, 1) := by decide +kernel
theorem dX6_line_0 : decode cX6_line 0 = .ok (.aload_n 0, 1) := by decide +kernel
theorem dX6_line_1 : decode cX6_line 1 = .ok (.iload_n 1, 1) := by decide +kernel
theorem dX6_line_2 : decode cX6_line 2 = .ok (.invokevirtual 148, 3) := by decide +kernel
theorem dX6_line_5 : decode cX6_line 5 = .ok (.ifCond .eq 18, 3) := by decide +kernel
theorem dX6_line_8 : decode cX6_line 8 = .ok (.aload_n 0, 1) := by decide +kernel
theorem dX6_line_9 : decode cX6_line 9 = .ok (.iload_n 2, 1) := by decide +kernel
theorem dX6_line_10 : decode cX6_line 10 = .ok (.invokevirtual 88, 3) := by decide +kernel
theorem dX6_line_13 : decode cX6_line 13 = .ok (.ifCond .eq 10, 3) := by decide +kernel
theorem dX6_line_16 : decode cX6_line 16 = .ok (.iload_n 3, 1) := by decide +kernel
theorem dX6_line_17 : decode cX6_line 17 = .ok (.invokestatic 151, 3) := by decide +kernel
theorem dX6_line_20 : decode cX6_line 20 = .ok (.ifCond .ne 5, 3) := by decide +kernel
theorem dX6_line_23 : decode cX6_line 23 = .ok (.lconst 0, 1) := by decide +kernel
theorem dX6_line_24 : decode cX6_line 24 = .ok (.lreturn, 1) := by decide +kernel
theorem dX6_line_25 : decode cX6_line 25 = .ok (.aload_n 0, 1) := by decide +kernel
theorem dX6_line_26 : decode cX6_line 26 = .ok (.getfield 33, 3) := by decide +kernel
theorem dX6_line_29 : decode cX6_line 29 = .ok (.getfield 154, 3) := by decide +kernel
theorem dX6_line_32 : decode cX6_line 32 = .ok (.iload_n 1, 1) := by decide +kernel
theorem dX6_line_33 : decode cX6_line 33 = .ok (.aaload, 1) := by decide +kernel
theorem dX6_line_34 : decode cX6_line 34 = .ok (.getfield 167, 3) := by decide +kernel
theorem dX6_line_37 : decode cX6_line 37 = .ok (.iload_n 2, 1) := by decide +kernel
theorem dX6_line_38 : decode cX6_line 38 = .ok (.aaload, 1) := by decide +kernel
theorem dX6_line_39 : decode cX6_line 39 = .ok (.iload_n 3, 1) := by decide +kernel
theorem dX6_line_40 : decode cX6_line 40 = .ok (.invokevirtual 163, 3) := by decide +kernel
theorem dX6_line_43 : decode cX6_line 43 = .ok (.lreturn, 1) := by decide +kernel
theorem dX6_point_0 : decode cX6_point 0 = .ok (.aload_n 0, 1) := by decide +kernel
theorem dX6_point_1 : decode cX6_point 1 = .ok (.getfield 43, 3) := by decide +kernel
theorem dX6_point_4 : decode cX6_point 4 = .ok (.getfield 77, 3) := by decide +kernel
theorem dX6_point_7 : decode cX6_point 7 = .ok (.ifCond .eq 22, 3) := by decide +kernel
theorem dX6_point_10 : decode cX6_point 10 = .ok (.iload_n 1, 1) := by decide +kernel
theorem dX6_point_11 : decode cX6_point 11 = .ok (.ifCond .eq 18, 3) := by decide +kernel
theorem dX6_point_14 : decode cX6_point 14 = .ok (.aload_n 0, 1) := by decide +kernel
theorem dX6_point_15 : decode cX6_point 15 = .ok (.iload_n 1, 1) := by decide +kernel
theorem dX6_point_16 : decode cX6_point 16 = .ok (.invokevirtual 88, 3) := by decide +kernel
theorem dX6_point_19 : decode cX6_point 19 = .ok (.ifCond .eq 10, 3) := by decide +kernel
theorem dX6_point_22 : decode cX6_point 22 = .ok (.iload_n 2, 1) := by decide +kernel
theorem dX6_point_23 : decode cX6_point 23 = .ok (.invokestatic 151, 3) := by decide +kernel
theorem dX6_point_26 : decode cX6_point 26 = .ok (.ifCond .ne 5, 3) := by decide +kernel
theorem dX6_point_29 : decode cX6_point 29 = .ok (.lconst 0, 1) := by decide +kernel
theorem dX6_point_30 : decode cX6_point 30 = .ok (.lreturn, 1) := by decide +kernel
theorem dX6_point_31 : decode cX6_point 31 = .ok (.aload_n 0, 1) := by decide +kernel
theorem dX6_point_32 : decode cX6_point 32 = .ok (.getfield 43, 3) := by decide +kernel
theorem dX6_point_35 : decode cX6_point 35 = .ok (.getfield 170, 3) := by decide +kernel
theorem dX6_point_38 : decode cX6_point 38 = .ok (.iload_n 1, 1) := by decide +kernel
theorem dX6_point_39 : decode cX6_point 39 = .ok (.aaload, 1) := by decide +kernel
theorem dX6_point_40 : decode cX6_point 40 = .ok (.iload_n 2, 1) := by decide +kernel
theorem dX6_point_41 : decode cX6_point 41 = .ok (.invokevirtual 163, 3) := by decide +kernel
theorem dX6_point_44 : decode cX6_point 44 = .ok (.lreturn, 1) := by decide +kernel
theorem dX6_near_0 : decode cX6_near 0 = .ok (.aload_n 0, 1) := by decide +kernel
theorem dX6_near_1 : decode cX6_near 1 = .ok (.iload_n 1, 1) := by decide +kernel
theorem dX6_near_2 : decode cX6_near 2 = .ok (.invokevirtual 148, 3) := by decide +kernel
theorem dX6_near_5 : decode cX6_near 5 = .ok (.ifCond .ne 5, 3) := by decide +kernel
theorem dX6_near_8 : decode cX6_near 8 = .ok (.lconst 0, 1) := by decide +kernel
theorem dX6_near_9 : decode cX6_near 9 = .ok (.lreturn, 1) := by decide +kernel
theorem dX6_near_10 : decode cX6_near 10 = .ok (.aload_n 0, 1) := by decide +kernel
theorem dX6_near_11 : decode cX6_near 11 = .ok (.getfield 33, 3) := by decide +kernel
theorem dX6_near_14 : decode cX6_near 14 = .ok (.getfield 154, 3) := by decide +kernel
theorem dX6_near_17 : decode cX6_near 17 = .ok (.iload_n 1, 1) := by decide +kernel
theorem dX6_near_18 : decode cX6_near 18 = .ok (.aaload, 1) := by decide +kernel
theorem dX6_near_19 : decode cX6_near 19 = .ok (.getfield 158, 3) := by decide +kernel
theorem dX6_near_22 : decode cX6_near 22 = .ok (.astore_n 2, 1) := by decide +kernel
theorem dX6_near_23 : decode cX6_near 23 = .ok (.aload_n 2, 1) := by decide +kernel
theorem dX6_near_24 : decode cX6_near 24 = .ok (.getfield 173, 3) := by decide +kernel
theorem dX6_near_27 : decode cX6_near 27 = .ok (.l2d, 1) := by decide +kernel
theorem dX6_near_28 : decode cX6_near 28 = .ok (.aload_n 2, 1) := by decide +kernel
theorem dX6_near_29 : decode cX6_near 29 = .ok (.getfield 177, 3) := by decide +kernel
theorem dX6_near_32 : decode cX6_near 32 = .ok (.l2d, 1) := by decide +kernel
theorem dX6_near_33 : decode cX6_near 33 = .ok (.ddiv, 1) := by decide +kernel
theorem dX6_near_34 : decode cX6_near 34 = .ok (.invokestatic 180, 3) := by decide +kernel
theorem dX6_near_37 : decode cX6_near 37 = .ok (.lreturn, 1) := by decide +kernel
theorem dX6_plant_0 : decode cX6_plant 0 = .ok (.aload_n 0, 1) := by decide +kernel
theorem dX6_plant_1 : decode cX6_plant 1 = .ok (.iload_n 1, 1) := by decide +kernel
theorem dX6_plant_2 : decode cX6_plant 2 = .ok (.invokevirtual 148, 3) := by decide +kernel
theorem dX6_plant_5 : decode cX6_plant 5 = .ok (.ifCond .eq 10, 3) := by decide +kernel
theorem dX6_plant_8 : decode cX6_plant 8 = .ok (.lload 4, 2) := by decide +kernel
theorem dX6_plant_10 : decode cX6_plant 10 = .ok (.lconst 0, 1) := by decide +kernel
theorem dX6_plant_11 : decode cX6_plant 11 = .ok (.lcmp, 1) := by decide +kernel
theorem dX6_plant_12 : decode cX6_plant 12 = .ok (.ifCond .ne 5, 3) := by decide +kernel
theorem dX6_plant_15 : decode cX6_plant 15 = .ok (.iconst (-1), 1) := by decide +kernel
theorem dX6_plant_16 : decode cX6_plant 16 = .ok (.ireturn, 1) := by decide +kernel
theorem dX6_plant_17 : decode cX6_plant 17 = .ok (.aload_n 0, 1) := by decide +kernel
theorem dX6_plant_18 : decode cX6_plant 18 = .ok (.getfield 33, 3) := by decide +kernel
theorem dX6_plant_21 : decode cX6_plant 21 = .ok (.getfield 154, 3) := by decide +kernel
theorem dX6_plant_24 : decode cX6_plant 24 = .ok (.iload_n 1, 1) := by decide +kernel
theorem dX6_plant_25 : decode cX6_plant 25 = .ok (.aaload, 1) := by decide +kernel
theorem dX6_plant_26 : decode cX6_plant 26 = .ok (.getfield 158, 3) := by decide +kernel
theorem dX6_plant_29 : decode cX6_plant 29 = .ok (.lload_n 2, 1) := by decide +kernel
theorem dX6_plant_30 : decode cX6_plant 30 = .ok (.lload 4, 2) := by decide +kernel
theorem dX6_plant_32 : decode cX6_plant 32 = .ok (.invokevirtual 184, 3) := by decide +kernel
theorem dX6_plant_35 : decode cX6_plant 35 = .ok (.ifCond .eq 7, 3) := by decide +kernel
theorem dX6_plant_38 : decode cX6_plant 38 = .ok (.iconst 0, 1) := by decide +kernel
theorem dX6_plant_39 : decode cX6_plant 39 = .ok (.goto 5, 3) := by decide +kernel
theorem dX6_plant_42 : decode cX6_plant 42 = .ok (.bipush (-30), 2) := by decide +kernel
theorem dX6_plant_44 : decode cX6_plant 44 = .ok (.ireturn, 1) := by decide +kernel
theorem dX6_check_0 : decode cX6_check 0 = .ok (.aload_n 0, 1) := by decide +kernel
theorem dX6_check_1 : decode cX6_check 1 = .ok (.invokevirtual 188, 3) := by decide +kernel
theorem dX6_check_4 : decode cX6_check 4 = .ok (.ifCond .ne 6, 3) := by decide +kernel
theorem dX6_check_7 : decode cX6_check 7 = .ok (.bipush (-2), 2) := by decide +kernel
theorem dX6_check_9 : decode cX6_check 9 = .ok (.ireturn, 1) := by decide +kernel
theorem dX6_check_10 : decode cX6_check 10 = .ok (.iconst 1, 1) := by decide +kernel
theorem dX6_check_11 : decode cX6_check 11 = .ok (.istore_n 1, 1) := by decide +kernel
theorem dX6_check_12 : decode cX6_check 12 = .ok (.iconst 0, 1) := by decide +kernel
theorem dX6_check_13 : decode cX6_check 13 = .ok (.istore_n 2, 1) := by decide +kernel
theorem dX6_check_14 : decode cX6_check 14 = .ok (.iload_n 2, 1) := by decide +kernel
theorem dX6_check_15 : decode cX6_check 15 = .ok (.aload_n 0, 1) := by decide +kernel
theorem dX6_check_16 : decode cX6_check 16 = .ok (.getfield 60, 3) := by decide +kernel
theorem dX6_check_19 : decode cX6_check 19 = .ok (.if_icmp .gt 65, 3) := by decide +kernel
theorem dX6_check_22 : decode cX6_check 22 = .ok (.iconst 0, 1) := by decide +kernel
theorem dX6_check_23 : decode cX6_check 23 = .ok (.istore_n 3, 1) := by decide +kernel
theorem dX6_check_24 : decode cX6_check 24 = .ok (.iload_n 3, 1) := by decide +kernel
theorem dX6_check_25 : decode cX6_check 25 = .ok (.aload_n 0, 1) := by decide +kernel
theorem dX6_check_26 : decode cX6_check 26 = .ok (.getfield 60, 3) := by decide +kernel
theorem dX6_check_29 : decode cX6_check 29 = .ok (.if_icmp .gt 49, 3) := by decide +kernel
theorem dX6_check_32 : decode cX6_check 32 = .ok (.aload_n 0, 1) := by decide +kernel
theorem dX6_check_33 : decode cX6_check 33 = .ok (.iload_n 2, 1) := by decide +kernel
theorem dX6_check_34 : decode cX6_check 34 = .ok (.iload_n 3, 1) := by decide +kernel
theorem dX6_check_35 : decode cX6_check 35 = .ok (.invokevirtual 191, 3) := by decide +kernel
theorem dX6_check_38 : decode cX6_check 38 = .ok (.ifCond .ne 5, 3) := by decide +kernel
theorem dX6_check_41 : decode cX6_check 41 = .ok (.iconst 2, 1) := by decide +kernel
theorem dX6_check_42 : decode cX6_check 42 = .ok (.ireturn, 1) := by decide +kernel
theorem dX6_check_43 : decode cX6_check 43 = .ok (.iload_n 1, 1) := by decide +kernel
theorem dX6_check_44 : decode cX6_check 44 = .ok (.ifCond .eq 26, 3) := by decide +kernel
theorem dX6_check_47 : decode cX6_check 47 = .ok (.aload_n 0, 1) := by decide +kernel
theorem dX6_check_48 : decode cX6_check 48 = .ok (.getfield 54, 3) := by decide +kernel
theorem dX6_check_51 : decode cX6_check 51 = .ok (.aload_n 0, 1) := by decide +kernel
theorem dX6_check_52 : decode cX6_check 52 = .ok (.getfield 26, 3) := by decide +kernel
theorem dX6_check_55 : decode cX6_check 55 = .ok (.iload_n 2, 1) := by decide +kernel
theorem dX6_check_56 : decode cX6_check 56 = .ok (.iload_n 3, 1) := by decide +kernel
theorem dX6_check_57 : decode cX6_check 57 = .ok (.invokevirtual 195, 3) := by decide +kernel
theorem dX6_check_60 : decode cX6_check 60 = .ok (.invokevirtual 199, 3) := by decide +kernel
theorem dX6_check_63 : decode cX6_check 63 = .ok (.ifCond .eq 7, 3) := by decide +kernel
theorem dX6_check_66 : decode cX6_check 66 = .ok (.iconst 1, 1) := by decide +kernel
theorem dX6_check_67 : decode cX6_check 67 = .ok (.goto 4, 3) := by decide +kernel
theorem dX6_check_70 : decode cX6_check 70 = .ok (.iconst 0, 1) := by decide +kernel
theorem dX6_check_71 : decode cX6_check 71 = .ok (.istore_n 1, 1) := by decide +kernel
theorem dX6_check_72 : decode cX6_check 72 = .ok (.iinc 3 1, 3) := by decide +kernel
theorem dX6_check_75 : decode cX6_check 75 = .ok (.goto (-51), 3) := by decide +kernel
theorem dX6_check_78 : decode cX6_check 78 = .ok (.iinc 2 1, 3) := by decide +kernel
theorem dX6_check_81 : decode cX6_check 81 = .ok (.goto (-67), 3) := by decide +kernel
theorem dX6_check_84 : decode cX6_check 84 = .ok (.iload_n 1, 1) := by decide +kernel
theorem dX6_check_85 : decode cX6_check 85 = .ok (.ifCond .eq 7, 3) := by decide +kernel
theorem dX6_check_88 : decode cX6_check 88 = .ok (.iconst 1, 1) := by decide +kernel
theorem dX6_check_89 : decode cX6_check 89 = .ok (.goto 4, 3) := by decide +kernel
theorem dX6_check_92 : decode cX6_check 92 = .ok (.iconst 0, 1) := by decide +kernel
theorem dX6_check_93 : decode cX6_check 93 = .ok (.ireturn, 1) := by decide +kernel
theorem dX6_equal_0 : decode cX6_equal 0 = .ok (.aload_n 0, 1) := by decide +kernel
theorem dX6_equal_1 : decode cX6_equal 1 = .ok (.invokevirtual 188, 3) := by decide +kernel
theorem dX6_equal_4 : decode cX6_equal 4 = .ok (.ifCond .ne 6, 3) := by decide +kernel
theorem dX6_equal_7 : decode cX6_equal 7 = .ok (.bipush (-2), 2) := by decide +kernel
theorem dX6_equal_9 : decode cX6_equal 9 = .ok (.ireturn, 1) := by decide +kernel
theorem dX6_equal_10 : decode cX6_equal 10 = .ok (.aload_n 0, 1) := by decide +kernel
theorem dX6_equal_11 : decode cX6_equal 11 = .ok (.getfield 43, 3) := by decide +kernel
theorem dX6_equal_14 : decode cX6_equal 14 = .ok (.iconst 0, 1) := by decide +kernel
theorem dX6_equal_15 : decode cX6_equal 15 = .ok (.putfield 77, 3) := by decide +kernel
theorem dX6_equal_18 : decode cX6_equal 18 = .ok (.aload_n 0, 1) := by decide +kernel
theorem dX6_equal_19 : decode cX6_equal 19 = .ok (.getfield 33, 3) := by decide +kernel
theorem dX6_equal_22 : decode cX6_equal 22 = .ok (.getfield 203, 3) := by decide +kernel
theorem dX6_equal_25 : decode cX6_equal 25 = .ok (.iconst 0, 1) := by decide +kernel
theorem dX6_equal_26 : decode cX6_equal 26 = .ok (.baload, 1) := by decide +kernel
theorem dX6_equal_27 : decode cX6_equal 27 = .ok (.ifCond .ne 5, 3) := by decide +kernel
theorem dX6_equal_30 : decode cX6_equal 30 = .ok (.iconst 0, 1) := by decide +kernel
theorem dX6_equal_31 : decode cX6_equal 31 = .ok (.ireturn, 1) := by decide +kernel
theorem dX6_equal_32 : decode cX6_equal 32 = .ok (.aload_n 0, 1) := by decide +kernel
theorem dX6_equal_33 : decode cX6_equal 33 = .ok (.getfield 33, 3) := by decide +kernel
theorem dX6_equal_36 : decode cX6_equal 36 = .ok (.invokevirtual 207, 3) := by decide +kernel
theorem dX6_equal_39 : decode cX6_equal 39 = .ok (.ifCond .eq 24, 3) := by decide +kernel
theorem dX6_equal_42 : decode cX6_equal 42 = .ok (.aload_n 0, 1) := by decide +kernel
theorem dX6_equal_43 : decode cX6_equal 43 = .ok (.getfield 43, 3) := by decide +kernel
theorem dX6_equal_46 : decode cX6_equal 46 = .ok (.aload_n 0, 1) := by decide +kernel
theorem dX6_equal_47 : decode cX6_equal 47 = .ok (.getfield 33, 3) := by decide +kernel
theorem dX6_equal_50 : decode cX6_equal 50 = .ok (.getfield 128, 3) := by decide +kernel
theorem dX6_equal_53 : decode cX6_equal 53 = .ok (.aload_n 0, 1) := by decide +kernel
theorem dX6_equal_54 : decode cX6_equal 54 = .ok (.getfield 60, 3) := by decide +kernel
theorem dX6_equal_57 : decode cX6_equal 57 = .ok (.invokevirtual 210, 3) := by decide +kernel
theorem dX6_equal_60 : decode cX6_equal 60 = .ok (.ifCond .ne 5, 3) := by decide +kernel
theorem dX6_equal_63 : decode cX6_equal 63 = .ok (.iconst 2, 1) := by decide +kernel
theorem dX6_equal_64 : decode cX6_equal 64 = .ok (.ireturn, 1) := by decide +kernel
theorem dX6_equal_65 : decode cX6_equal 65 = .ok (.aload_n 0, 1) := by decide +kernel
theorem dX6_equal_66 : decode cX6_equal 66 = .ok (.getfield 43, 3) := by decide +kernel
theorem dX6_equal_69 : decode cX6_equal 69 = .ok (.iconst 1, 1) := by decide +kernel
theorem dX6_equal_70 : decode cX6_equal 70 = .ok (.putfield 77, 3) := by decide +kernel
theorem dX6_equal_73 : decode cX6_equal 73 = .ok (.iconst 1, 1) := by decide +kernel
theorem dX6_equal_74 : decode cX6_equal 74 = .ok (.ireturn, 1) := by decide +kernel
theorem dX6_pivot_0 : decode cX6_pivot 0 = .ok (.lload_n 3, 1) := by decide +kernel
theorem dX6_pivot_1 : decode cX6_pivot 1 = .ok (.lconst 0, 1) := by decide +kernel
theorem dX6_pivot_2 : decode cX6_pivot 2 = .ok (.lcmp, 1) := by decide +kernel
theorem dX6_pivot_3 : decode cX6_pivot 3 = .ok (.ifCond .ne 9, 3) := by decide +kernel
theorem dX6_pivot_6 : decode cX6_pivot 6 = .ok (.ldc2_w 214, 3) := by decide +kernel
theorem dX6_pivot_9 : decode cX6_pivot 9 = .ok (.goto 6, 3) := by decide +kernel
theorem dX6_pivot_12 : decode cX6_pivot 12 = .ok (.lload_n 1, 1) := by decide +kernel
theorem dX6_pivot_13 : decode cX6_pivot 13 = .ok (.lload_n 3, 1) := by decide +kernel
theorem dX6_pivot_14 : decode cX6_pivot 14 = .ok (.ldiv, 1) := by decide +kernel
theorem dX6_pivot_15 : decode cX6_pivot 15 = .ok (.lreturn, 1) := by decide +kernel
theorem dX6_count_0 : decode cX6_count 0 = .ok (.iload_n 1, 1) := by decide +kernel
theorem dX6_count_1 : decode cX6_count 1 = .ok (.tableswitch 42 0 2 #[27, 32, 37], 27) := by decide +kernel
theorem dX6_count_28 : decode cX6_count 28 = .ok (.aload_n 0, 1) := by decide +kernel
theorem dX6_count_29 : decode cX6_count 29 = .ok (.getfield 60, 3) := by decide +kernel
theorem dX6_count_32 : decode cX6_count 32 = .ok (.ireturn, 1) := by decide +kernel
theorem dX6_count_33 : decode cX6_count 33 = .ok (.aload_n 0, 1) := by decide +kernel
theorem dX6_count_34 : decode cX6_count 34 = .ok (.getfield 64, 3) := by decide +kernel
theorem dX6_count_37 : decode cX6_count 37 = .ok (.ireturn, 1) := by decide +kernel
theorem dX6_count_38 : decode cX6_count 38 = .ok (.aload_n 0, 1) := by decide +kernel
theorem dX6_count_39 : decode cX6_count 39 = .ok (.getfield 67, 3) := by decide +kernel
theorem dX6_count_42 : decode cX6_count 42 = .ok (.ireturn, 1) := by decide +kernel
theorem dX6_count_43 : decode cX6_count 43 = .ok (.iconst (-1), 1) := by decide +kernel
theorem dX6_count_44 : decode cX6_count 44 = .ok (.ireturn, 1) := by decide +kernel
theorem dX6_isForm_0 : decode cX6_isForm 0 = .ok (.iload_n 1, 1) := by decide +kernel
theorem dX6_isForm_1 : decode cX6_isForm 1 = .ok (.ifCond .lt 15, 3) := by decide +kernel
theorem dX6_isForm_4 : decode cX6_isForm 4 = .ok (.iload_n 1, 1) := by decide +kernel
theorem dX6_isForm_5 : decode cX6_isForm 5 = .ok (.aload_n 0, 1) := by decide +kernel
theorem dX6_isForm_6 : decode cX6_isForm 6 = .ok (.getfield 64, 3) := by decide +kernel
theorem dX6_isForm_9 : decode cX6_isForm 9 = .ok (.if_icmp .ge 7, 3) := by decide +kernel
theorem dX6_isForm_12 : decode cX6_isForm 12 = .ok (.iconst 1, 1) := by decide +kernel
theorem dX6_isForm_13 : decode cX6_isForm 13 = .ok (.goto 4, 3) := by decide +kernel
theorem dX6_isForm_16 : decode cX6_isForm 16 = .ok (.iconst 0, 1) := by decide +kernel
theorem dX6_isForm_17 : decode cX6_isForm 17 = .ok (.ireturn, 1) := by decide +kernel
theorem dX6_isIndex_0 : decode cX6_isIndex 0 = .ok (.iload_n 1, 1) := by decide +kernel
theorem dX6_isIndex_1 : decode cX6_isIndex 1 = .ok (.ifCond .lt 15, 3) := by decide +kernel
theorem dX6_isIndex_4 : decode cX6_isIndex 4 = .ok (.iload_n 1, 1) := by decide +kernel
theorem dX6_isIndex_5 : decode cX6_isIndex 5 = .ok (.aload_n 0, 1) := by decide +kernel
theorem dX6_isIndex_6 : decode cX6_isIndex 6 = .ok (.getfield 60, 3) := by decide +kernel
theorem dX6_isIndex_9 : decode cX6_isIndex 9 = .ok (.if_icmp .gt 7, 3) := by decide +kernel
theorem dX6_isIndex_12 : decode cX6_isIndex 12 = .ok (.iconst 1, 1) := by decide +kernel
theorem dX6_isIndex_13 : decode cX6_isIndex 13 = .ok (.goto 4, 3) := by decide +kernel
theorem dX6_isIndex_16 : decode cX6_isIndex 16 = .ok (.iconst 0, 1) := by decide +kernel
theorem dX6_isIndex_17 : decode cX6_isIndex 17 = .ok (.ireturn, 1) := by decide +kernel
theorem dX6_isSquare_0 : decode cX6_isSquare 0 = .ok (.iload_n 1, 1) := by decide +kernel
theorem dX6_isSquare_1 : decode cX6_isSquare 1 = .ok (.ifCond .lt 17, 3) := by decide +kernel
theorem dX6_isSquare_4 : decode cX6_isSquare 4 = .ok (.iload_n 1, 1) := by decide +kernel
theorem dX6_isSquare_5 : decode cX6_isSquare 5 = .ok (.aload_n 0, 1) := by decide +kernel
theorem dX6_isSquare_6 : decode cX6_isSquare 6 = .ok (.getfield 15, 3) := by decide +kernel
theorem dX6_isSquare_9 : decode cX6_isSquare 9 = .ok (.iconst 1, 1) := by decide +kernel
theorem dX6_isSquare_10 : decode cX6_isSquare 10 = .ok (.iaload, 1) := by decide +kernel
theorem dX6_isSquare_11 : decode cX6_isSquare 11 = .ok (.if_icmp .ge 7, 3) := by decide +kernel
theorem dX6_isSquare_14 : decode cX6_isSquare 14 = .ok (.iconst 1, 1) := by decide +kernel
theorem dX6_isSquare_15 : decode cX6_isSquare 15 = .ok (.goto 4, 3) := by decide +kernel
theorem dX6_isSquare_18 : decode cX6_isSquare 18 = .ok (.iconst 0, 1) := by decide +kernel
theorem dX6_isSquare_19 : decode cX6_isSquare 19 = .ok (.ireturn, 1) := by decide +kernel
theorem dX6_isPart_0 : decode cX6_isPart 0 = .ok (.iload_n 0, 1) := by decide +kernel
theorem dX6_isPart_1 : decode cX6_isPart 1 = .ok (.ifCond .eq 8, 3) := by decide +kernel
theorem dX6_isPart_4 : decode cX6_isPart 4 = .ok (.iload_n 0, 1) := by decide +kernel
theorem dX6_isPart_5 : decode cX6_isPart 5 = .ok (.iconst 1, 1) := by decide +kernel
theorem dX6_isPart_6 : decode cX6_isPart 6 = .ok (.if_icmp .ne 7, 3) := by decide +kernel
theorem dX6_isPart_9 : decode cX6_isPart 9 = .ok (.iconst 1, 1) := by decide +kernel
theorem dX6_isPart_10 : decode cX6_isPart 10 = .ok (.goto 4, 3) := by decide +kernel
theorem dX6_isPart_13 : decode cX6_isPart 13 = .ok (.iconst 0, 1) := by decide +kernel
theorem dX6_isPart_14 : decode cX6_isPart 14 = .ok (.ireturn, 1) := by decide +kernel
theorem dX6_isProved_0 : decode cX6_isProved 0 = .ok (.aload_n 0, 1) := by decide +kernel
theorem dX6_isProved_1 : decode cX6_isProved 1 = .ok (.getfield 15, 3) := by decide +kernel
theorem dX6_isProved_4 : decode cX6_isProved 4 = .ok (.iconst 0, 1) := by decide +kernel
theorem dX6_isProved_5 : decode cX6_isProved 5 = .ok (.iaload, 1) := by decide +kernel
theorem dX6_isProved_6 : decode cX6_isProved 6 = .ok (.iconst 1, 1) := by decide +kernel
theorem dX6_isProved_7 : decode cX6_isProved 7 = .ok (.if_icmp .ne 7, 3) := by decide +kernel
theorem dX6_isProved_10 : decode cX6_isProved 10 = .ok (.iconst 1, 1) := by decide +kernel
theorem dX6_isProved_11 : decode cX6_isProved 11 = .ok (.goto 4, 3) := by decide +kernel
theorem dX6_isProved_14 : decode cX6_isProved 14 = .ok (.iconst 0, 1) := by decide +kernel
theorem dX6_isProved_15 : decode cX6_isProved 15 = .ok (.ireturn, 1) := by decide +kernel
theorem dX6_startTelling_0 : decode cX6_startTelling 0 = .ok (.aload_n 0, 1) := by decide +kernel
theorem dX6_startTelling_1 : decode cX6_startTelling 1 = .ok (.getfield 15, 3) := by decide +kernel
theorem dX6_startTelling_4 : decode cX6_startTelling 4 = .ok (.iconst 0, 1) := by decide +kernel
theorem dX6_startTelling_5 : decode cX6_startTelling 5 = .ok (.invokestatic 71, 3) := by decide +kernel
theorem dX6_startTelling_8 : decode cX6_startTelling 8 = .ok (.aload_n 0, 1) := by decide +kernel
theorem dX6_startTelling_9 : decode cX6_startTelling 9 = .ok (.getfield 15, 3) := by decide +kernel
theorem dX6_startTelling_12 : decode cX6_startTelling 12 = .ok (.iconst 2, 1) := by decide +kernel
theorem dX6_startTelling_13 : decode cX6_startTelling 13 = .ok (.iload_n 1, 1) := by decide +kernel
theorem dX6_startTelling_14 : decode cX6_startTelling 14 = .ok (.iastore, 1) := by decide +kernel
theorem dX6_startTelling_15 : decode cX6_startTelling 15 = .ok (.aload_n 0, 1) := by decide +kernel
theorem dX6_startTelling_16 : decode cX6_startTelling 16 = .ok (.getfield 15, 3) := by decide +kernel
theorem dX6_startTelling_19 : decode cX6_startTelling 19 = .ok (.iconst 3, 1) := by decide +kernel
theorem dX6_startTelling_20 : decode cX6_startTelling 20 = .ok (.iload_n 2, 1) := by decide +kernel
theorem dX6_startTelling_21 : decode cX6_startTelling 21 = .ok (.iastore, 1) := by decide +kernel
theorem dX6_startTelling_22 : decode cX6_startTelling 22 = .ok (.aload_n 0, 1) := by decide +kernel
theorem dX6_startTelling_23 : decode cX6_startTelling 23 = .ok (.getfield 15, 3) := by decide +kernel
theorem dX6_startTelling_26 : decode cX6_startTelling 26 = .ok (.iconst 5, 1) := by decide +kernel
theorem dX6_startTelling_27 : decode cX6_startTelling 27 = .ok (.iconst 1, 1) := by decide +kernel
theorem dX6_startTelling_28 : decode cX6_startTelling 28 = .ok (.iastore, 1) := by decide +kernel
theorem dX6_startTelling_29 : decode cX6_startTelling 29 = .ok (.aload_n 0, 1) := by decide +kernel
theorem dX6_startTelling_30 : decode cX6_startTelling 30 = .ok (.dup, 1) := by decide +kernel
theorem dX6_startTelling_31 : decode cX6_startTelling 31 = .ok (.getfield 67, 3) := by decide +kernel
theorem dX6_startTelling_34 : decode cX6_startTelling 34 = .ok (.iconst 1, 1) := by decide +kernel
theorem dX6_startTelling_35 : decode cX6_startTelling 35 = .ok (.iadd, 1) := by decide +kernel
theorem dX6_startTelling_36 : decode cX6_startTelling 36 = .ok (.putfield 67, 3) := by decide +kernel
theorem dX6_startTelling_39 : decode cX6_startTelling 39 = .ok (.return_, 1) := by decide +kernel
theorem dX6_endTelling_0 : decode cX6_endTelling 0 = .ok (.aload_n 0, 1) := by decide +kernel
theorem dX6_endTelling_1 : decode cX6_endTelling 1 = .ok (.getfield 15, 3) := by decide +kernel
theorem dX6_endTelling_4 : decode cX6_endTelling 4 = .ok (.iconst 0, 1) := by decide +kernel
theorem dX6_endTelling_5 : decode cX6_endTelling 5 = .ok (.iload_n 1, 1) := by decide +kernel
theorem dX6_endTelling_6 : decode cX6_endTelling 6 = .ok (.iastore, 1) := by decide +kernel
theorem dX6_endTelling_7 : decode cX6_endTelling 7 = .ok (.aload_n 0, 1) := by decide +kernel
theorem dX6_endTelling_8 : decode cX6_endTelling 8 = .ok (.getfield 15, 3) := by decide +kernel
theorem dX6_endTelling_11 : decode cX6_endTelling 11 = .ok (.iconst 1, 1) := by decide +kernel
theorem dX6_endTelling_12 : decode cX6_endTelling 12 = .ok (.iload_n 1, 1) := by decide +kernel
theorem dX6_endTelling_13 : decode cX6_endTelling 13 = .ok (.iconst 1, 1) := by decide +kernel
theorem dX6_endTelling_14 : decode cX6_endTelling 14 = .ok (.if_icmp .ne 13, 3) := by decide +kernel
theorem dX6_endTelling_17 : decode cX6_endTelling 17 = .ok (.aload_n 0, 1) := by decide +kernel
theorem dX6_endTelling_18 : decode cX6_endTelling 18 = .ok (.getfield 33, 3) := by decide +kernel
theorem dX6_endTelling_21 : decode cX6_endTelling 21 = .ok (.getfield 216, 3) := by decide +kernel
theorem dX6_endTelling_24 : decode cX6_endTelling 24 = .ok (.goto 4, 3) := by decide +kernel
theorem dX6_endTelling_27 : decode cX6_endTelling 27 = .ok (.iconst 0, 1) := by decide +kernel
theorem dX6_endTelling_28 : decode cX6_endTelling 28 = .ok (.iastore, 1) := by decide +kernel
theorem dX6_endTelling_29 : decode cX6_endTelling 29 = .ok (.aload_n 0, 1) := by decide +kernel
theorem dX6_endTelling_30 : decode cX6_endTelling 30 = .ok (.getfield 43, 3) := by decide +kernel
theorem dX6_endTelling_33 : decode cX6_endTelling 33 = .ok (.iload_n 1, 1) := by decide +kernel
theorem dX6_endTelling_34 : decode cX6_endTelling 34 = .ok (.ifCond .ne 7, 3) := by decide +kernel
theorem dX6_endTelling_37 : decode cX6_endTelling 37 = .ok (.iconst 1, 1) := by decide +kernel
theorem dX6_endTelling_38 : decode cX6_endTelling 38 = .ok (.goto 4, 3) := by decide +kernel
theorem dX6_endTelling_41 : decode cX6_endTelling 41 = .ok (.iconst 0, 1) := by decide +kernel
theorem dX6_endTelling_42 : decode cX6_endTelling 42 = .ok (.putfield 77, 3) := by decide +kernel
theorem dX6_endTelling_45 : decode cX6_endTelling 45 = .ok (.iload_n 1, 1) := by decide +kernel
theorem dX6_endTelling_46 : decode cX6_endTelling 46 = .ok (.ireturn, 1) := by decide +kernel
theorem dX6_multiplierFound_0 : decode cX6_multiplierFound 0 = .ok (.iconst 1, 1) := by decide +kernel
theorem dX6_multiplierFound_1 : decode cX6_multiplierFound 1 = .ok (.istore 4, 2) := by decide +kernel
theorem dX6_multiplierFound_3 : decode cX6_multiplierFound 3 = .ok (.iload 4, 2) := by decide +kernel
theorem dX6_multiplierFound_5 : decode cX6_multiplierFound 5 = .ok (.iload_n 3, 1) := by decide +kernel
theorem dX6_multiplierFound_6 : decode cX6_multiplierFound 6 = .ok (.if_icmp .gt 145, 3) := by decide +kernel
theorem dX6_multiplierFound_9 : decode cX6_multiplierFound 9 = .ok (.iconst 1, 1) := by decide +kernel
theorem dX6_multiplierFound_10 : decode cX6_multiplierFound 10 = .ok (.istore 5, 2) := by decide +kernel
theorem dX6_multiplierFound_12 : decode cX6_multiplierFound 12 = .ok (.iload 5, 2) := by decide +kernel
theorem dX6_multiplierFound_14 : decode cX6_multiplierFound 14 = .ok (.iload 4, 2) := by decide +kernel
theorem dX6_multiplierFound_16 : decode cX6_multiplierFound 16 = .ok (.if_icmp .gt 129, 3) := by decide +kernel
theorem dX6_multiplierFound_19 : decode cX6_multiplierFound 19 = .ok (.iload 4, 2) := by decide +kernel
theorem dX6_multiplierFound_21 : decode cX6_multiplierFound 21 = .ok (.iload 5, 2) := by decide +kernel
theorem dX6_multiplierFound_23 : decode cX6_multiplierFound 23 = .ok (.isub, 1) := by decide +kernel
theorem dX6_multiplierFound_24 : decode cX6_multiplierFound 24 = .ok (.istore 6, 2) := by decide +kernel
theorem dX6_multiplierFound_26 : decode cX6_multiplierFound 26 = .ok (.iload 6, 2) := by decide +kernel
theorem dX6_multiplierFound_28 : decode cX6_multiplierFound 28 = .ok (.i2l, 1) := by decide +kernel
theorem dX6_multiplierFound_29 : decode cX6_multiplierFound 29 = .ok (.iload 5, 2) := by decide +kernel
theorem dX6_multiplierFound_31 : decode cX6_multiplierFound 31 = .ok (.i2l, 1) := by decide +kernel
theorem dX6_multiplierFound_32 : decode cX6_multiplierFound 32 = .ok (.invokestatic 219, 3) := by decide +kernel
theorem dX6_multiplierFound_35 : decode cX6_multiplierFound 35 = .ok (.lconst 1, 1) := by decide +kernel
theorem dX6_multiplierFound_36 : decode cX6_multiplierFound 36 = .ok (.lcmp, 1) := by decide +kernel
theorem dX6_multiplierFound_37 : decode cX6_multiplierFound 37 = .ok (.ifCond .eq 6, 3) := by decide +kernel
theorem dX6_multiplierFound_40 : decode cX6_multiplierFound 40 = .ok (.goto 99, 3) := by decide +kernel
theorem dX6_multiplierFound_43 : decode cX6_multiplierFound 43 = .ok (.aload_n 0, 1) := by decide +kernel
theorem dX6_multiplierFound_44 : decode cX6_multiplierFound 44 = .ok (.getfield 15, 3) := by decide +kernel
theorem dX6_multiplierFound_47 : decode cX6_multiplierFound 47 = .ok (.bipush 6, 2) := by decide +kernel
theorem dX6_multiplierFound_49 : decode cX6_multiplierFound 49 = .ok (.dup2, 1) := by decide +kernel
theorem dX6_multiplierFound_50 : decode cX6_multiplierFound 50 = .ok (.iaload, 1) := by decide +kernel
theorem dX6_multiplierFound_51 : decode cX6_multiplierFound 51 = .ok (.iconst 1, 1) := by decide +kernel
theorem dX6_multiplierFound_52 : decode cX6_multiplierFound 52 = .ok (.iadd, 1) := by decide +kernel
theorem dX6_multiplierFound_53 : decode cX6_multiplierFound 53 = .ok (.iastore, 1) := by decide +kernel
theorem dX6_multiplierFound_54 : decode cX6_multiplierFound 54 = .ok (.aload_n 0, 1) := by decide +kernel
theorem dX6_multiplierFound_55 : decode cX6_multiplierFound 55 = .ok (.getfield 50, 3) := by decide +kernel
theorem dX6_multiplierFound_58 : decode cX6_multiplierFound 58 = .ok (.iload 6, 2) := by decide +kernel
theorem dX6_multiplierFound_60 : decode cX6_multiplierFound 60 = .ok (.i2l, 1) := by decide +kernel
theorem dX6_multiplierFound_61 : decode cX6_multiplierFound 61 = .ok (.iload 5, 2) := by decide +kernel
theorem dX6_multiplierFound_63 : decode cX6_multiplierFound 63 = .ok (.i2l, 1) := by decide +kernel
theorem dX6_multiplierFound_64 : decode cX6_multiplierFound 64 = .ok (.invokevirtual 184, 3) := by decide +kernel
theorem dX6_multiplierFound_67 : decode cX6_multiplierFound 67 = .ok (.ifCond .eq 27, 3) := by decide +kernel
theorem dX6_multiplierFound_70 : decode cX6_multiplierFound 70 = .ok (.aload_n 0, 1) := by decide +kernel
theorem dX6_multiplierFound_71 : decode cX6_multiplierFound 71 = .ok (.getfield 26, 3) := by decide +kernel
theorem dX6_multiplierFound_74 : decode cX6_multiplierFound 74 = .ok (.aload_n 1, 1) := by decide +kernel
theorem dX6_multiplierFound_75 : decode cX6_multiplierFound 75 = .ok (.aload_n 2, 1) := by decide +kernel
theorem dX6_multiplierFound_76 : decode cX6_multiplierFound 76 = .ok (.aload_n 0, 1) := by decide +kernel
theorem dX6_multiplierFound_77 : decode cX6_multiplierFound 77 = .ok (.getfield 50, 3) := by decide +kernel
theorem dX6_multiplierFound_80 : decode cX6_multiplierFound 80 = .ok (.aload_n 0, 1) := by decide +kernel
theorem dX6_multiplierFound_81 : decode cX6_multiplierFound 81 = .ok (.getfield 60, 3) := by decide +kernel
theorem dX6_multiplierFound_84 : decode cX6_multiplierFound 84 = .ok (.invokevirtual 223, 3) := by decide +kernel
theorem dX6_multiplierFound_87 : decode cX6_multiplierFound 87 = .ok (.ifCond .eq 7, 3) := by decide +kernel
theorem dX6_multiplierFound_90 : decode cX6_multiplierFound 90 = .ok (.iconst 1, 1) := by decide +kernel
theorem dX6_multiplierFound_91 : decode cX6_multiplierFound 91 = .ok (.goto 4, 3) := by decide +kernel
theorem dX6_multiplierFound_94 : decode cX6_multiplierFound 94 = .ok (.iconst 0, 1) := by decide +kernel
theorem dX6_multiplierFound_95 : decode cX6_multiplierFound 95 = .ok (.istore 7, 2) := by decide +kernel
theorem dX6_multiplierFound_97 : decode cX6_multiplierFound 97 = .ok (.iload 7, 2) := by decide +kernel
theorem dX6_multiplierFound_99 : decode cX6_multiplierFound 99 = .ok (.ifCond .eq 40, 3) := by decide +kernel
theorem dX6_multiplierFound_102 : decode cX6_multiplierFound 102 = .ok (.aload_n 0, 1) := by decide +kernel
theorem dX6_multiplierFound_103 : decode cX6_multiplierFound 103 = .ok (.getfield 33, 3) := by decide +kernel
theorem dX6_multiplierFound_106 : decode cX6_multiplierFound 106 = .ok (.aload_n 0, 1) := by decide +kernel
theorem dX6_multiplierFound_107 : decode cX6_multiplierFound 107 = .ok (.getfield 26, 3) := by decide +kernel
theorem dX6_multiplierFound_110 : decode cX6_multiplierFound 110 = .ok (.aload_n 0, 1) := by decide +kernel
theorem dX6_multiplierFound_111 : decode cX6_multiplierFound 111 = .ok (.getfield 60, 3) := by decide +kernel
theorem dX6_multiplierFound_114 : decode cX6_multiplierFound 114 = .ok (.invokevirtual 120, 3) := by decide +kernel
theorem dX6_multiplierFound_117 : decode cX6_multiplierFound 117 = .ok (.iconst 1, 1) := by decide +kernel
theorem dX6_multiplierFound_118 : decode cX6_multiplierFound 118 = .ok (.if_icmp .ne 21, 3) := by decide +kernel
theorem dX6_multiplierFound_121 : decode cX6_multiplierFound 121 = .ok (.aload_n 0, 1) := by decide +kernel
theorem dX6_multiplierFound_122 : decode cX6_multiplierFound 122 = .ok (.getfield 15, 3) := by decide +kernel
theorem dX6_multiplierFound_125 : decode cX6_multiplierFound 125 = .ok (.iconst 4, 1) := by decide +kernel
theorem dX6_multiplierFound_126 : decode cX6_multiplierFound 126 = .ok (.iload 6, 2) := by decide +kernel
theorem dX6_multiplierFound_128 : decode cX6_multiplierFound 128 = .ok (.iastore, 1) := by decide +kernel
theorem dX6_multiplierFound_129 : decode cX6_multiplierFound 129 = .ok (.aload_n 0, 1) := by decide +kernel
theorem dX6_multiplierFound_130 : decode cX6_multiplierFound 130 = .ok (.getfield 15, 3) := by decide +kernel
theorem dX6_multiplierFound_133 : decode cX6_multiplierFound 133 = .ok (.iconst 5, 1) := by decide +kernel
theorem dX6_multiplierFound_134 : decode cX6_multiplierFound 134 = .ok (.iload 5, 2) := by decide +kernel
theorem dX6_multiplierFound_136 : decode cX6_multiplierFound 136 = .ok (.iastore, 1) := by decide +kernel
theorem dX6_multiplierFound_137 : decode cX6_multiplierFound 137 = .ok (.iconst 1, 1) := by decide +kernel
theorem dX6_multiplierFound_138 : decode cX6_multiplierFound 138 = .ok (.ireturn, 1) := by decide +kernel
theorem dX6_multiplierFound_139 : decode cX6_multiplierFound 139 = .ok (.iinc 5 1, 3) := by decide +kernel
theorem dX6_multiplierFound_142 : decode cX6_multiplierFound 142 = .ok (.goto (-130), 3) := by decide +kernel
theorem dX6_multiplierFound_145 : decode cX6_multiplierFound 145 = .ok (.iinc 4 1, 3) := by decide +kernel
theorem dX6_multiplierFound_148 : decode cX6_multiplierFound 148 = .ok (.goto (-145), 3) := by decide +kernel
theorem dX6_multiplierFound_151 : decode cX6_multiplierFound 151 = .ok (.iconst 0, 1) := by decide +kernel
theorem dX6_multiplierFound_152 : decode cX6_multiplierFound 152 = .ok (.ireturn, 1) := by decide +kernel
theorem dX6_wholePointFound_0 : decode cX6_wholePointFound 0 = .ok (.iconst 1, 1) := by decide +kernel
theorem dX6_wholePointFound_1 : decode cX6_wholePointFound 1 = .ok (.istore_n 3, 1) := by decide +kernel
theorem dX6_wholePointFound_2 : decode cX6_wholePointFound 2 = .ok (.aload_n 0, 1) := by decide +kernel
theorem dX6_wholePointFound_3 : decode cX6_wholePointFound 3 = .ok (.getfield 19, 3) := by decide +kernel
theorem dX6_wholePointFound_6 : decode cX6_wholePointFound 6 = .ok (.iconst 0, 1) := by decide +kernel
theorem dX6_wholePointFound_7 : decode cX6_wholePointFound 7 = .ok (.lconst 1, 1) := by decide +kernel
theorem dX6_wholePointFound_8 : decode cX6_wholePointFound 8 = .ok (.lastore, 1) := by decide +kernel
theorem dX6_wholePointFound_9 : decode cX6_wholePointFound 9 = .ok (.iconst 1, 1) := by decide +kernel
theorem dX6_wholePointFound_10 : decode cX6_wholePointFound 10 = .ok (.istore 4, 2) := by decide +kernel
theorem dX6_wholePointFound_12 : decode cX6_wholePointFound 12 = .ok (.iload 4, 2) := by decide +kernel
theorem dX6_wholePointFound_14 : decode cX6_wholePointFound 14 = .ok (.aload_n 0, 1) := by decide +kernel
theorem dX6_wholePointFound_15 : decode cX6_wholePointFound 15 = .ok (.getfield 60, 3) := by decide +kernel
theorem dX6_wholePointFound_18 : decode cX6_wholePointFound 18 = .ok (.if_icmp .gt 24, 3) := by decide +kernel
theorem dX6_wholePointFound_21 : decode cX6_wholePointFound 21 = .ok (.aload_n 0, 1) := by decide +kernel
theorem dX6_wholePointFound_22 : decode cX6_wholePointFound 22 = .ok (.getfield 19, 3) := by decide +kernel
theorem dX6_wholePointFound_25 : decode cX6_wholePointFound 25 = .ok (.iload 4, 2) := by decide +kernel
theorem dX6_wholePointFound_27 : decode cX6_wholePointFound 27 = .ok (.ldc2_w 227, 3) := by decide +kernel
theorem dX6_wholePointFound_30 : decode cX6_wholePointFound 30 = .ok (.lastore, 1) := by decide +kernel
theorem dX6_wholePointFound_31 : decode cX6_wholePointFound 31 = .ok (.iload_n 3, 1) := by decide +kernel
theorem dX6_wholePointFound_32 : decode cX6_wholePointFound 32 = .ok (.bipush 7, 2) := by decide +kernel
theorem dX6_wholePointFound_34 : decode cX6_wholePointFound 34 = .ok (.imul, 1) := by decide +kernel
theorem dX6_wholePointFound_35 : decode cX6_wholePointFound 35 = .ok (.istore_n 3, 1) := by decide +kernel
theorem dX6_wholePointFound_36 : decode cX6_wholePointFound 36 = .ok (.iinc 4 1, 3) := by decide +kernel
theorem dX6_wholePointFound_39 : decode cX6_wholePointFound 39 = .ok (.goto (-27), 3) := by decide +kernel
theorem dX6_wholePointFound_42 : decode cX6_wholePointFound 42 = .ok (.iconst 0, 1) := by decide +kernel
theorem dX6_wholePointFound_43 : decode cX6_wholePointFound 43 = .ok (.istore 4, 2) := by decide +kernel
theorem dX6_wholePointFound_45 : decode cX6_wholePointFound 45 = .ok (.iload 4, 2) := by decide +kernel
theorem dX6_wholePointFound_47 : decode cX6_wholePointFound 47 = .ok (.iload_n 3, 1) := by decide +kernel
theorem dX6_wholePointFound_48 : decode cX6_wholePointFound 48 = .ok (.if_icmp .ge 64, 3) := by decide +kernel
theorem dX6_wholePointFound_51 : decode cX6_wholePointFound 51 = .ok (.aload_n 2, 1) := by decide +kernel
theorem dX6_wholePointFound_52 : decode cX6_wholePointFound 52 = .ok (.aload_n 0, 1) := by decide +kernel
theorem dX6_wholePointFound_53 : decode cX6_wholePointFound 53 = .ok (.getfield 19, 3) := by decide +kernel
theorem dX6_wholePointFound_56 : decode cX6_wholePointFound 56 = .ok (.aload_n 0, 1) := by decide +kernel
theorem dX6_wholePointFound_57 : decode cX6_wholePointFound 57 = .ok (.getfield 60, 3) := by decide +kernel
theorem dX6_wholePointFound_60 : decode cX6_wholePointFound 60 = .ok (.invokevirtual 104, 3) := by decide +kernel
theorem dX6_wholePointFound_63 : decode cX6_wholePointFound 63 = .ok (.lconst 0, 1) := by decide +kernel
theorem dX6_wholePointFound_64 : decode cX6_wholePointFound 64 = .ok (.lcmp, 1) := by decide +kernel
theorem dX6_wholePointFound_65 : decode cX6_wholePointFound 65 = .ok (.ifCond .lt 37, 3) := by decide +kernel
theorem dX6_wholePointFound_68 : decode cX6_wholePointFound 68 = .ok (.aload_n 1, 1) := by decide +kernel
theorem dX6_wholePointFound_69 : decode cX6_wholePointFound 69 = .ok (.aload_n 0, 1) := by decide +kernel
theorem dX6_wholePointFound_70 : decode cX6_wholePointFound 70 = .ok (.getfield 19, 3) := by decide +kernel
theorem dX6_wholePointFound_73 : decode cX6_wholePointFound 73 = .ok (.aload_n 0, 1) := by decide +kernel
theorem dX6_wholePointFound_74 : decode cX6_wholePointFound 74 = .ok (.getfield 60, 3) := by decide +kernel
theorem dX6_wholePointFound_77 : decode cX6_wholePointFound 77 = .ok (.invokevirtual 104, 3) := by decide +kernel
theorem dX6_wholePointFound_80 : decode cX6_wholePointFound 80 = .ok (.lconst 0, 1) := by decide +kernel
theorem dX6_wholePointFound_81 : decode cX6_wholePointFound 81 = .ok (.lcmp, 1) := by decide +kernel
theorem dX6_wholePointFound_82 : decode cX6_wholePointFound 82 = .ok (.ifCond .ge 20, 3) := by decide +kernel
theorem dX6_wholePointFound_85 : decode cX6_wholePointFound 85 = .ok (.aload_n 0, 1) := by decide +kernel
theorem dX6_wholePointFound_86 : decode cX6_wholePointFound 86 = .ok (.getfield 43, 3) := by decide +kernel
theorem dX6_wholePointFound_89 : decode cX6_wholePointFound 89 = .ok (.aload_n 0, 1) := by decide +kernel
theorem dX6_wholePointFound_90 : decode cX6_wholePointFound 90 = .ok (.getfield 19, 3) := by decide +kernel
theorem dX6_wholePointFound_93 : decode cX6_wholePointFound 93 = .ok (.aload_n 0, 1) := by decide +kernel
theorem dX6_wholePointFound_94 : decode cX6_wholePointFound 94 = .ok (.getfield 60, 3) := by decide +kernel
theorem dX6_wholePointFound_97 : decode cX6_wholePointFound 97 = .ok (.invokevirtual 229, 3) := by decide +kernel
theorem dX6_wholePointFound_100 : decode cX6_wholePointFound 100 = .ok (.iconst 1, 1) := by decide +kernel
theorem dX6_wholePointFound_101 : decode cX6_wholePointFound 101 = .ok (.ireturn, 1) := by decide +kernel
theorem dX6_wholePointFound_102 : decode cX6_wholePointFound 102 = .ok (.aload_n 0, 1) := by decide +kernel
theorem dX6_wholePointFound_103 : decode cX6_wholePointFound 103 = .ok (.invokevirtual 233, 3) := by decide +kernel
theorem dX6_wholePointFound_106 : decode cX6_wholePointFound 106 = .ok (.iinc 4 1, 3) := by decide +kernel
theorem dX6_wholePointFound_109 : decode cX6_wholePointFound 109 = .ok (.goto (-64), 3) := by decide +kernel
theorem dX6_wholePointFound_112 : decode cX6_wholePointFound 112 = .ok (.iconst 0, 1) := by decide +kernel
theorem dX6_wholePointFound_113 : decode cX6_wholePointFound 113 = .ok (.ireturn, 1) := by decide +kernel
theorem dX6_nextOnGrid_0 : decode cX6_nextOnGrid 0 = .ok (.aload_n 0, 1) := by decide +kernel
theorem dX6_nextOnGrid_1 : decode cX6_nextOnGrid 1 = .ok (.getfield 60, 3) := by decide +kernel
theorem dX6_nextOnGrid_4 : decode cX6_nextOnGrid 4 = .ok (.istore_n 1, 1) := by decide +kernel
theorem dX6_nextOnGrid_5 : decode cX6_nextOnGrid 5 = .ok (.iload_n 1, 1) := by decide +kernel
theorem dX6_nextOnGrid_6 : decode cX6_nextOnGrid 6 = .ok (.iconst 1, 1) := by decide +kernel
theorem dX6_nextOnGrid_7 : decode cX6_nextOnGrid 7 = .ok (.if_icmp .lt 42, 3) := by decide +kernel
theorem dX6_nextOnGrid_10 : decode cX6_nextOnGrid 10 = .ok (.aload_n 0, 1) := by decide +kernel
theorem dX6_nextOnGrid_11 : decode cX6_nextOnGrid 11 = .ok (.getfield 19, 3) := by decide +kernel
theorem dX6_nextOnGrid_14 : decode cX6_nextOnGrid 14 = .ok (.iload_n 1, 1) := by decide +kernel
theorem dX6_nextOnGrid_15 : decode cX6_nextOnGrid 15 = .ok (.laload, 1) := by decide +kernel
theorem dX6_nextOnGrid_16 : decode cX6_nextOnGrid 16 = .ok (.ldc2_w 236, 3) := by decide +kernel
theorem dX6_nextOnGrid_19 : decode cX6_nextOnGrid 19 = .ok (.lcmp, 1) := by decide +kernel
theorem dX6_nextOnGrid_20 : decode cX6_nextOnGrid 20 = .ok (.ifCond .ge 14, 3) := by decide +kernel
theorem dX6_nextOnGrid_23 : decode cX6_nextOnGrid 23 = .ok (.aload_n 0, 1) := by decide +kernel
theorem dX6_nextOnGrid_24 : decode cX6_nextOnGrid 24 = .ok (.getfield 19, 3) := by decide +kernel
theorem dX6_nextOnGrid_27 : decode cX6_nextOnGrid 27 = .ok (.iload_n 1, 1) := by decide +kernel
theorem dX6_nextOnGrid_28 : decode cX6_nextOnGrid 28 = .ok (.dup2, 1) := by decide +kernel
theorem dX6_nextOnGrid_29 : decode cX6_nextOnGrid 29 = .ok (.laload, 1) := by decide +kernel
theorem dX6_nextOnGrid_30 : decode cX6_nextOnGrid 30 = .ok (.lconst 1, 1) := by decide +kernel
theorem dX6_nextOnGrid_31 : decode cX6_nextOnGrid 31 = .ok (.ladd, 1) := by decide +kernel
theorem dX6_nextOnGrid_32 : decode cX6_nextOnGrid 32 = .ok (.lastore, 1) := by decide +kernel
theorem dX6_nextOnGrid_33 : decode cX6_nextOnGrid 33 = .ok (.return_, 1) := by decide +kernel
theorem dX6_nextOnGrid_34 : decode cX6_nextOnGrid 34 = .ok (.aload_n 0, 1) := by decide +kernel
theorem dX6_nextOnGrid_35 : decode cX6_nextOnGrid 35 = .ok (.getfield 19, 3) := by decide +kernel
theorem dX6_nextOnGrid_38 : decode cX6_nextOnGrid 38 = .ok (.iload_n 1, 1) := by decide +kernel
theorem dX6_nextOnGrid_39 : decode cX6_nextOnGrid 39 = .ok (.ldc2_w 227, 3) := by decide +kernel
theorem dX6_nextOnGrid_42 : decode cX6_nextOnGrid 42 = .ok (.lastore, 1) := by decide +kernel
theorem dX6_nextOnGrid_43 : decode cX6_nextOnGrid 43 = .ok (.iinc 1 (-1), 3) := by decide +kernel
theorem dX6_nextOnGrid_46 : decode cX6_nextOnGrid 46 = .ok (.goto (-41), 3) := by decide +kernel
theorem dX6_nextOnGrid_49 : decode cX6_nextOnGrid 49 = .ok (.return_, 1) := by decide +kernel
theorem dX6_expand_0 : decode cX6_expand 0 = .ok (.aload_n 0, 1) := by decide +kernel
theorem dX6_expand_1 : decode cX6_expand 1 = .ok (.getfield 54, 3) := by decide +kernel
theorem dX6_expand_4 : decode cX6_expand 4 = .ok (.lconst 0, 1) := by decide +kernel
theorem dX6_expand_5 : decode cX6_expand 5 = .ok (.lconst 1, 1) := by decide +kernel
theorem dX6_expand_6 : decode cX6_expand 6 = .ok (.invokevirtual 184, 3) := by decide +kernel
theorem dX6_expand_9 : decode cX6_expand 9 = .ok (.pop, 1) := by decide +kernel
theorem dX6_expand_10 : decode cX6_expand 10 = .ok (.iconst 0, 1) := by decide +kernel
theorem dX6_expand_11 : decode cX6_expand 11 = .ok (.istore_n 3, 1) := by decide +kernel
theorem dX6_expand_12 : decode cX6_expand 12 = .ok (.iload_n 3, 1) := by decide +kernel
theorem dX6_expand_13 : decode cX6_expand 13 = .ok (.aload_n 0, 1) := by decide +kernel
theorem dX6_expand_14 : decode cX6_expand 14 = .ok (.getfield 15, 3) := by decide +kernel
theorem dX6_expand_17 : decode cX6_expand 17 = .ok (.iconst 1, 1) := by decide +kernel
theorem dX6_expand_18 : decode cX6_expand 18 = .ok (.iaload, 1) := by decide +kernel
theorem dX6_expand_19 : decode cX6_expand 19 = .ok (.if_icmp .ge 95, 3) := by decide +kernel
theorem dX6_expand_22 : decode cX6_expand 22 = .ok (.aload_n 0, 1) := by decide +kernel
theorem dX6_expand_23 : decode cX6_expand 23 = .ok (.getfield 33, 3) := by decide +kernel
theorem dX6_expand_26 : decode cX6_expand 26 = .ok (.getfield 154, 3) := by decide +kernel
theorem dX6_expand_29 : decode cX6_expand 29 = .ok (.iload_n 3, 1) := by decide +kernel
theorem dX6_expand_30 : decode cX6_expand 30 = .ok (.aaload, 1) := by decide +kernel
theorem dX6_expand_31 : decode cX6_expand 31 = .ok (.astore 4, 2) := by decide +kernel
theorem dX6_expand_33 : decode cX6_expand 33 = .ok (.aload_n 0, 1) := by decide +kernel
theorem dX6_expand_34 : decode cX6_expand 34 = .ok (.getfield 57, 3) := by decide +kernel
theorem dX6_expand_37 : decode cX6_expand 37 = .ok (.aload 4, 2) := by decide +kernel
theorem dX6_expand_39 : decode cX6_expand 39 = .ok (.getfield 158, 3) := by decide +kernel
theorem dX6_expand_42 : decode cX6_expand 42 = .ok (.aload 4, 2) := by decide +kernel
theorem dX6_expand_44 : decode cX6_expand 44 = .ok (.getfield 167, 3) := by decide +kernel
theorem dX6_expand_47 : decode cX6_expand 47 = .ok (.iload_n 1, 1) := by decide +kernel
theorem dX6_expand_48 : decode cX6_expand 48 = .ok (.aaload, 1) := by decide +kernel
theorem dX6_expand_49 : decode cX6_expand 49 = .ok (.invokevirtual 238, 3) := by decide +kernel
theorem dX6_expand_52 : decode cX6_expand 52 = .ok (.ifCond .eq 46, 3) := by decide +kernel
theorem dX6_expand_55 : decode cX6_expand 55 = .ok (.aload_n 0, 1) := by decide +kernel
theorem dX6_expand_56 : decode cX6_expand 56 = .ok (.getfield 57, 3) := by decide +kernel
theorem dX6_expand_59 : decode cX6_expand 59 = .ok (.aload_n 0, 1) := by decide +kernel
theorem dX6_expand_60 : decode cX6_expand 60 = .ok (.getfield 57, 3) := by decide +kernel
theorem dX6_expand_63 : decode cX6_expand 63 = .ok (.aload 4, 2) := by decide +kernel
theorem dX6_expand_65 : decode cX6_expand 65 = .ok (.getfield 167, 3) := by decide +kernel
theorem dX6_expand_68 : decode cX6_expand 68 = .ok (.iload_n 2, 1) := by decide +kernel
theorem dX6_expand_69 : decode cX6_expand 69 = .ok (.aaload, 1) := by decide +kernel
theorem dX6_expand_70 : decode cX6_expand 70 = .ok (.invokevirtual 238, 3) := by decide +kernel
theorem dX6_expand_73 : decode cX6_expand 73 = .ok (.ifCond .eq 25, 3) := by decide +kernel
theorem dX6_expand_76 : decode cX6_expand 76 = .ok (.aload_n 0, 1) := by decide +kernel
theorem dX6_expand_77 : decode cX6_expand 77 = .ok (.getfield 54, 3) := by decide +kernel
theorem dX6_expand_80 : decode cX6_expand 80 = .ok (.aload_n 0, 1) := by decide +kernel
theorem dX6_expand_81 : decode cX6_expand 81 = .ok (.getfield 54, 3) := by decide +kernel
theorem dX6_expand_84 : decode cX6_expand 84 = .ok (.aload_n 0, 1) := by decide +kernel
theorem dX6_expand_85 : decode cX6_expand 85 = .ok (.getfield 57, 3) := by decide +kernel
theorem dX6_expand_88 : decode cX6_expand 88 = .ok (.invokevirtual 242, 3) := by decide +kernel
theorem dX6_expand_91 : decode cX6_expand 91 = .ok (.ifCond .eq 7, 3) := by decide +kernel
theorem dX6_expand_94 : decode cX6_expand 94 = .ok (.iconst 1, 1) := by decide +kernel
theorem dX6_expand_95 : decode cX6_expand 95 = .ok (.goto 4, 3) := by decide +kernel
theorem dX6_expand_98 : decode cX6_expand 98 = .ok (.iconst 0, 1) := by decide +kernel
theorem dX6_expand_99 : decode cX6_expand 99 = .ok (.istore 5, 2) := by decide +kernel
theorem dX6_expand_101 : decode cX6_expand 101 = .ok (.iload 5, 2) := by decide +kernel
theorem dX6_expand_103 : decode cX6_expand 103 = .ok (.ifCond .ne 5, 3) := by decide +kernel
theorem dX6_expand_106 : decode cX6_expand 106 = .ok (.iconst 0, 1) := by decide +kernel
theorem dX6_expand_107 : decode cX6_expand 107 = .ok (.ireturn, 1) := by decide +kernel
theorem dX6_expand_108 : decode cX6_expand 108 = .ok (.iinc 3 1, 3) := by decide +kernel
theorem dX6_expand_111 : decode cX6_expand 111 = .ok (.goto (-99), 3) := by decide +kernel
theorem dX6_expand_114 : decode cX6_expand 114 = .ok (.iconst 1, 1) := by decide +kernel
theorem dX6_expand_115 : decode cX6_expand 115 = .ok (.ireturn, 1) := by decide +kernel
theorem dX6_bits_0 : decode cX6_bits 0 = .ok (.dload_n 0, 1) := by decide +kernel
theorem dX6_bits_1 : decode cX6_bits 1 = .ok (.dconst 0, 1) := by decide +kernel
theorem dX6_bits_2 : decode cX6_bits 2 = .ok (.dcmp .l, 1) := by decide +kernel
theorem dX6_bits_3 : decode cX6_bits 3 = .ok (.ifCond .ne 5, 3) := by decide +kernel
theorem dX6_bits_6 : decode cX6_bits 6 = .ok (.lconst 0, 1) := by decide +kernel
theorem dX6_bits_7 : decode cX6_bits 7 = .ok (.lreturn, 1) := by decide +kernel
theorem dX6_bits_8 : decode cX6_bits 8 = .ok (.dload_n 0, 1) := by decide +kernel
theorem dX6_bits_9 : decode cX6_bits 9 = .ok (.dconst 0, 1) := by decide +kernel
theorem dX6_bits_10 : decode cX6_bits 10 = .ok (.dcmp .g, 1) := by decide +kernel
theorem dX6_bits_11 : decode cX6_bits 11 = .ok (.ifCond .ge 8, 3) := by decide +kernel
theorem dX6_bits_14 : decode cX6_bits 14 = .ok (.dload_n 0, 1) := by decide +kernel
theorem dX6_bits_15 : decode cX6_bits 15 = .ok (.dneg, 1) := by decide +kernel
theorem dX6_bits_16 : decode cX6_bits 16 = .ok (.goto 4, 3) := by decide +kernel
theorem dX6_bits_19 : decode cX6_bits 19 = .ok (.dload_n 0, 1) := by decide +kernel
theorem dX6_bits_20 : decode cX6_bits 20 = .ok (.dstore_n 2, 1) := by decide +kernel
theorem dX6_bits_21 : decode cX6_bits 21 = .ok (.ldc2_w 245, 3) := by decide +kernel
theorem dX6_bits_24 : decode cX6_bits 24 = .ok (.lstore 4, 2) := by decide +kernel
theorem dX6_bits_26 : decode cX6_bits 26 = .ok (.iconst 0, 1) := by decide +kernel
theorem dX6_bits_27 : decode cX6_bits 27 = .ok (.istore 6, 2) := by decide +kernel
theorem dX6_bits_29 : decode cX6_bits 29 = .ok (.iload 6, 2) := by decide +kernel
theorem dX6_bits_31 : decode cX6_bits 31 = .ok (.bipush 64, 2) := by decide +kernel
theorem dX6_bits_33 : decode cX6_bits 33 = .ok (.if_icmp .ge 29, 3) := by decide +kernel
theorem dX6_bits_36 : decode cX6_bits 36 = .ok (.dload_n 2, 1) := by decide +kernel
theorem dX6_bits_37 : decode cX6_bits 37 = .ok (.ldc2_w 247, 3) := by decide +kernel
theorem dX6_bits_40 : decode cX6_bits 40 = .ok (.dcmp .l, 1) := by decide +kernel
theorem dX6_bits_41 : decode cX6_bits 41 = .ok (.ifCond .lt 21, 3) := by decide +kernel
theorem dX6_bits_44 : decode cX6_bits 44 = .ok (.dload_n 2, 1) := by decide +kernel
theorem dX6_bits_45 : decode cX6_bits 45 = .ok (.ldc2_w 247, 3) := by decide +kernel
theorem dX6_bits_48 : decode cX6_bits 48 = .ok (.ddiv, 1) := by decide +kernel
theorem dX6_bits_49 : decode cX6_bits 49 = .ok (.dstore_n 2, 1) := by decide +kernel
theorem dX6_bits_50 : decode cX6_bits 50 = .ok (.lload 4, 2) := by decide +kernel
theorem dX6_bits_52 : decode cX6_bits 52 = .ok (.lconst 1, 1) := by decide +kernel
theorem dX6_bits_53 : decode cX6_bits 53 = .ok (.ladd, 1) := by decide +kernel
theorem dX6_bits_54 : decode cX6_bits 54 = .ok (.lstore 4, 2) := by decide +kernel
theorem dX6_bits_56 : decode cX6_bits 56 = .ok (.iinc 6 1, 3) := by decide +kernel
theorem dX6_bits_59 : decode cX6_bits 59 = .ok (.goto (-30), 3) := by decide +kernel
theorem dX6_bits_62 : decode cX6_bits 62 = .ok (.iconst 0, 1) := by decide +kernel
theorem dX6_bits_63 : decode cX6_bits 63 = .ok (.istore 6, 2) := by decide +kernel
theorem dX6_bits_65 : decode cX6_bits 65 = .ok (.iload 6, 2) := by decide +kernel
theorem dX6_bits_67 : decode cX6_bits 67 = .ok (.bipush 64, 2) := by decide +kernel
theorem dX6_bits_69 : decode cX6_bits 69 = .ok (.if_icmp .ge 27, 3) := by decide +kernel
theorem dX6_bits_72 : decode cX6_bits 72 = .ok (.dload_n 2, 1) := by decide +kernel
theorem dX6_bits_73 : decode cX6_bits 73 = .ok (.dconst 1, 1) := by decide +kernel
theorem dX6_bits_74 : decode cX6_bits 74 = .ok (.dcmp .g, 1) := by decide +kernel
theorem dX6_bits_75 : decode cX6_bits 75 = .ok (.ifCond .ge 21, 3) := by decide +kernel
theorem dX6_bits_78 : decode cX6_bits 78 = .ok (.dload_n 2, 1) := by decide +kernel
theorem dX6_bits_79 : decode cX6_bits 79 = .ok (.ldc2_w 247, 3) := by decide +kernel
theorem dX6_bits_82 : decode cX6_bits 82 = .ok (.dmul, 1) := by decide +kernel
theorem dX6_bits_83 : decode cX6_bits 83 = .ok (.dstore_n 2, 1) := by decide +kernel
theorem dX6_bits_84 : decode cX6_bits 84 = .ok (.lload 4, 2) := by decide +kernel
theorem dX6_bits_86 : decode cX6_bits 86 = .ok (.lconst 1, 1) := by decide +kernel
theorem dX6_bits_87 : decode cX6_bits 87 = .ok (.lsub, 1) := by decide +kernel
theorem dX6_bits_88 : decode cX6_bits 88 = .ok (.lstore 4, 2) := by decide +kernel
theorem dX6_bits_90 : decode cX6_bits 90 = .ok (.iinc 6 1, 3) := by decide +kernel
theorem dX6_bits_93 : decode cX6_bits 93 = .ok (.goto (-28), 3) := by decide +kernel
theorem dX6_bits_96 : decode cX6_bits 96 = .ok (.ldc2_w 249, 3) := by decide +kernel
theorem dX6_bits_99 : decode cX6_bits 99 = .ok (.lstore 6, 2) := by decide +kernel
theorem dX6_bits_101 : decode cX6_bits 101 = .ok (.dload_n 2, 1) := by decide +kernel
theorem dX6_bits_102 : decode cX6_bits 102 = .ok (.lload 6, 2) := by decide +kernel
theorem dX6_bits_104 : decode cX6_bits 104 = .ok (.l2d, 1) := by decide +kernel
theorem dX6_bits_105 : decode cX6_bits 105 = .ok (.dmul, 1) := by decide +kernel
theorem dX6_bits_106 : decode cX6_bits 106 = .ok (.d2l, 1) := by decide +kernel
theorem dX6_bits_107 : decode cX6_bits 107 = .ok (.lload 6, 2) := by decide +kernel
theorem dX6_bits_109 : decode cX6_bits 109 = .ok (.lsub, 1) := by decide +kernel
theorem dX6_bits_110 : decode cX6_bits 110 = .ok (.lstore 8, 2) := by decide +kernel
theorem dX6_bits_112 : decode cX6_bits 112 = .ok (.dload_n 0, 1) := by decide +kernel
theorem dX6_bits_113 : decode cX6_bits 113 = .ok (.dconst 0, 1) := by decide +kernel
theorem dX6_bits_114 : decode cX6_bits 114 = .ok (.dcmp .g, 1) := by decide +kernel
theorem dX6_bits_115 : decode cX6_bits 115 = .ok (.ifCond .ge 9, 3) := by decide +kernel
theorem dX6_bits_118 : decode cX6_bits 118 = .ok (.ldc2_w 251, 3) := by decide +kernel
theorem dX6_bits_121 : decode cX6_bits 121 = .ok (.goto 4, 3) := by decide +kernel
theorem dX6_bits_124 : decode cX6_bits 124 = .ok (.lconst 0, 1) := by decide +kernel
theorem dX6_bits_125 : decode cX6_bits 125 = .ok (.lstore 10, 2) := by decide +kernel
theorem dX6_bits_127 : decode cX6_bits 127 = .ok (.lload 10, 2) := by decide +kernel
theorem dX6_bits_129 : decode cX6_bits 129 = .ok (.lload 4, 2) := by decide +kernel
theorem dX6_bits_131 : decode cX6_bits 131 = .ok (.bipush 52, 2) := by decide +kernel
theorem dX6_bits_133 : decode cX6_bits 133 = .ok (.lshl, 1) := by decide +kernel
theorem dX6_bits_134 : decode cX6_bits 134 = .ok (.lor, 1) := by decide +kernel
theorem dX6_bits_135 : decode cX6_bits 135 = .ok (.lload 8, 2) := by decide +kernel
theorem dX6_bits_137 : decode cX6_bits 137 = .ok (.lor, 1) := by decide +kernel
theorem dX6_bits_138 : decode cX6_bits 138 = .ok (.lreturn, 1) := by decide +kernel
theorem dX6_inOrder_0 : decode cX6_inOrder 0 = .ok (.iload_n 0, 1) := by decide +kernel
theorem dX6_inOrder_1 : decode cX6_inOrder 1 = .ok (.iload_n 1, 1) := by decide +kernel
theorem dX6_inOrder_2 : decode cX6_inOrder 2 = .ok (.if_icmp .ge 9, 3) := by decide +kernel
theorem dX6_inOrder_5 : decode cX6_inOrder 5 = .ok (.iload_n 0, 1) := by decide +kernel
theorem dX6_inOrder_6 : decode cX6_inOrder 6 = .ok (.iconst 1, 1) := by decide +kernel
theorem dX6_inOrder_7 : decode cX6_inOrder 7 = .ok (.iadd, 1) := by decide +kernel
theorem dX6_inOrder_8 : decode cX6_inOrder 8 = .ok (.goto 4, 3) := by decide +kernel
theorem dX6_inOrder_11 : decode cX6_inOrder 11 = .ok (.iconst 0, 1) := by decide +kernel
theorem dX6_inOrder_12 : decode cX6_inOrder 12 = .ok (.ireturn, 1) := by decide +kernel
theorem dX6_rowOfFractions_0 : decode cX6_rowOfFractions 0 = .ok (.iload_n 0, 1) := by decide +kernel
theorem dX6_rowOfFractions_1 : decode cX6_rowOfFractions 1 = .ok (.anewarray 47, 3) := by decide +kernel
theorem dX6_rowOfFractions_4 : decode cX6_rowOfFractions 4 = .ok (.astore_n 1, 1) := by decide +kernel
theorem dX6_rowOfFractions_5 : decode cX6_rowOfFractions 5 = .ok (.iconst 0, 1) := by decide +kernel
theorem dX6_rowOfFractions_6 : decode cX6_rowOfFractions 6 = .ok (.istore_n 2, 1) := by decide +kernel
theorem dX6_rowOfFractions_7 : decode cX6_rowOfFractions 7 = .ok (.iload_n 2, 1) := by decide +kernel
theorem dX6_rowOfFractions_8 : decode cX6_rowOfFractions 8 = .ok (.iload_n 0, 1) := by decide +kernel
theorem dX6_rowOfFractions_9 : decode cX6_rowOfFractions 9 = .ok (.if_icmp .ge 19, 3) := by decide +kernel
theorem dX6_rowOfFractions_12 : decode cX6_rowOfFractions 12 = .ok (.aload_n 1, 1) := by decide +kernel
theorem dX6_rowOfFractions_13 : decode cX6_rowOfFractions 13 = .ok (.iload_n 2, 1) := by decide +kernel
theorem dX6_rowOfFractions_14 : decode cX6_rowOfFractions 14 = .ok (.new 47, 3) := by decide +kernel
theorem dX6_rowOfFractions_17 : decode cX6_rowOfFractions 17 = .ok (.dup, 1) := by decide +kernel
theorem dX6_rowOfFractions_18 : decode cX6_rowOfFractions 18 = .ok (.invokespecial 49, 3) := by decide +kernel
theorem dX6_rowOfFractions_21 : decode cX6_rowOfFractions 21 = .ok (.aastore, 1) := by decide +kernel
theorem dX6_rowOfFractions_22 : decode cX6_rowOfFractions 22 = .ok (.iinc 2 1, 3) := by decide +kernel
theorem dX6_rowOfFractions_25 : decode cX6_rowOfFractions 25 = .ok (.goto (-18), 3) := by decide +kernel
theorem dX6_rowOfFractions_28 : decode cX6_rowOfFractions 28 = .ok (.aload_n 1, 1) := by decide +kernel
theorem dX6_rowOfFractions_29 : decode cX6_rowOfFractions 29 = .ok (.areturn, 1) := by decide +kernel
theorem dX7_init_0 : decode cX7_init 0 = .ok (.aload_n 0, 1) := by decide +kernel
theorem dX7_init_1 : decode cX7_init 1 = .ok (.invokespecial 1, 3) := by decide +kernel
theorem dX7_init_4 : decode cX7_init 4 = .ok (.aload_n 0, 1) := by decide +kernel
theorem dX7_init_5 : decode cX7_init 5 = .ok (.iconst 2, 1) := by decide +kernel
theorem dX7_init_6 : decode cX7_init 6 = .ok (.putfield 7, 3) := by decide +kernel
theorem dX7_init_9 : decode cX7_init 9 = .ok (.aload_n 0, 1) := by decide +kernel
theorem dX7_init_10 : decode cX7_init 10 = .ok (.sipush 300, 3) := by decide +kernel
theorem dX7_init_13 : decode cX7_init 13 = .ok (.newarray .int, 2) := by decide +kernel
theorem dX7_init_15 : decode cX7_init 15 = .ok (.putfield 13, 3) := by decide +kernel
theorem dX7_init_18 : decode cX7_init 18 = .ok (.aload_n 0, 1) := by decide +kernel
theorem dX7_init_19 : decode cX7_init 19 = .ok (.iconst 5, 1) := by decide +kernel
theorem dX7_init_20 : decode cX7_init 20 = .ok (.newarray .int, 2) := by decide +kernel
theorem dX7_init_22 : decode cX7_init 22 = .ok (.putfield 17, 3) := by decide +kernel
theorem dX7_init_25 : decode cX7_init 25 = .ok (.aload_n 0, 1) := by decide +kernel
theorem dX7_init_26 : decode cX7_init 26 = .ok (.bipush 25, 2) := by decide +kernel
theorem dX7_init_28 : decode cX7_init 28 = .ok (.newarray .long, 2) := by decide +kernel
theorem dX7_init_30 : decode cX7_init 30 = .ok (.putfield 20, 3) := by decide +kernel
theorem dX7_init_33 : decode cX7_init 33 = .ok (.aload_n 0, 1) := by decide +kernel
theorem dX7_init_34 : decode cX7_init 34 = .ok (.bipush 25, 2) := by decide +kernel
theorem dX7_init_36 : decode cX7_init 36 = .ok (.newarray .long, 2) := by decide +kernel
theorem dX7_init_38 : decode cX7_init 38 = .ok (.putfield 24, 3) := by decide +kernel
theorem dX7_init_41 : decode cX7_init 41 = .ok (.aload_n 0, 1) := by decide +kernel
theorem dX7_init_42 : decode cX7_init 42 = .ok (.bipush 25, 2) := by decide +kernel
theorem dX7_init_44 : decode cX7_init 44 = .ok (.newarray .long, 2) := by decide +kernel
theorem dX7_init_46 : decode cX7_init 46 = .ok (.putfield 27, 3) := by decide +kernel
theorem dX7_init_49 : decode cX7_init 49 = .ok (.aload_n 0, 1) := by decide +kernel
theorem dX7_init_50 : decode cX7_init 50 = .ok (.bipush 25, 2) := by decide +kernel
theorem dX7_init_52 : decode cX7_init 52 = .ok (.newarray .long, 2) := by decide +kernel
theorem dX7_init_54 : decode cX7_init 54 = .ok (.putfield 30, 3) := by decide +kernel
theorem dX7_init_57 : decode cX7_init 57 = .ok (.aload_n 0, 1) := by decide +kernel
theorem dX7_init_58 : decode cX7_init 58 = .ok (.iconst 5, 1) := by decide +kernel
theorem dX7_init_59 : decode cX7_init 59 = .ok (.newarray .boolean, 2) := by decide +kernel
theorem dX7_init_61 : decode cX7_init 61 = .ok (.putfield 33, 3) := by decide +kernel
theorem dX7_init_64 : decode cX7_init 64 = .ok (.aload_n 0, 1) := by decide +kernel
theorem dX7_init_65 : decode cX7_init 65 = .ok (.iconst 5, 1) := by decide +kernel
theorem dX7_init_66 : decode cX7_init 66 = .ok (.newarray .int, 2) := by decide +kernel
theorem dX7_init_68 : decode cX7_init 68 = .ok (.putfield 37, 3) := by decide +kernel
theorem dX7_init_71 : decode cX7_init 71 = .ok (.aload_n 0, 1) := by decide +kernel
theorem dX7_init_72 : decode cX7_init 72 = .ok (.iconst 5, 1) := by decide +kernel
theorem dX7_init_73 : decode cX7_init 73 = .ok (.newarray .long, 2) := by decide +kernel
theorem dX7_init_75 : decode cX7_init 75 = .ok (.putfield 40, 3) := by decide +kernel
theorem dX7_init_78 : decode cX7_init 78 = .ok (.aload_n 0, 1) := by decide +kernel
theorem dX7_init_79 : decode cX7_init 79 = .ok (.iconst 5, 1) := by decide +kernel
theorem dX7_init_80 : decode cX7_init 80 = .ok (.newarray .long, 2) := by decide +kernel
theorem dX7_init_82 : decode cX7_init 82 = .ok (.putfield 43, 3) := by decide +kernel
theorem dX7_init_85 : decode cX7_init 85 = .ok (.aload_n 0, 1) := by decide +kernel
theorem dX7_init_86 : decode cX7_init 86 = .ok (.bipush 25, 2) := by decide +kernel
theorem dX7_init_88 : decode cX7_init 88 = .ok (.newarray .long, 2) := by decide +kernel
theorem dX7_init_90 : decode cX7_init 90 = .ok (.putfield 46, 3) := by decide +kernel
theorem dX7_init_93 : decode cX7_init 93 = .ok (.aload_n 0, 1) := by decide +kernel
theorem dX7_init_94 : decode cX7_init 94 = .ok (.bipush 25, 2) := by decide +kernel
theorem dX7_init_96 : decode cX7_init 96 = .ok (.newarray .long, 2) := by decide +kernel
theorem dX7_init_98 : decode cX7_init 98 = .ok (.putfield 49, 3) := by decide +kernel
theorem dX7_init_101 : decode cX7_init 101 = .ok (.aload_n 0, 1) := by decide +kernel
theorem dX7_init_102 : decode cX7_init 102 = .ok (.iconst 5, 1) := by decide +kernel
theorem dX7_init_103 : decode cX7_init 103 = .ok (.newarray .int, 2) := by decide +kernel
theorem dX7_init_105 : decode cX7_init 105 = .ok (.putfield 52, 3) := by decide +kernel
theorem dX7_init_108 : decode cX7_init 108 = .ok (.aload_n 0, 1) := by decide +kernel
theorem dX7_init_109 : decode cX7_init 109 = .ok (.iconst 5, 1) := by decide +kernel
theorem dX7_init_110 : decode cX7_init 110 = .ok (.newarray .int, 2) := by decide +kernel
theorem dX7_init_112 : decode cX7_init 112 = .ok (.putfield 55, 3) := by decide +kernel
theorem dX7_init_115 : decode cX7_init 115 = .ok (.aload_n 0, 1) := by decide +kernel
theorem dX7_init_116 : decode cX7_init 116 = .ok (.iconst 5, 1) := by decide +kernel
theorem dX7_init_117 : decode cX7_init 117 = .ok (.newarray .int, 2) := by decide +kernel
theorem dX7_init_119 : decode cX7_init 119 = .ok (.putfield 58, 3) := by decide +kernel
theorem dX7_init_122 : decode cX7_init 122 = .ok (.aload_n 0, 1) := by decide +kernel
theorem dX7_init_123 : decode cX7_init 123 = .ok (.bipush 10, 2) := by decide +kernel
theorem dX7_init_125 : decode cX7_init 125 = .ok (.newarray .long, 2) := by decide +kernel
theorem dX7_init_127 : decode cX7_init 127 = .ok (.putfield 61, 3) := by decide +kernel
theorem dX7_init_130 : decode cX7_init 130 = .ok (.aload_n 0, 1) := by decide +kernel
theorem dX7_init_131 : decode cX7_init 131 = .ok (.bipush 50, 2) := by decide +kernel
theorem dX7_init_133 : decode cX7_init 133 = .ok (.newarray .long, 2) := by decide +kernel
theorem dX7_init_135 : decode cX7_init 135 = .ok (.putfield 64, 3) := by decide +kernel
theorem dX7_init_138 : decode cX7_init 138 = .ok (.aload_n 0, 1) := by decide +kernel
theorem dX7_init_139 : decode cX7_init 139 = .ok (.iconst 5, 1) := by decide +kernel
theorem dX7_init_140 : decode cX7_init 140 = .ok (.newarray .boolean, 2) := by decide +kernel
theorem dX7_init_142 : decode cX7_init 142 = .ok (.putfield 67, 3) := by decide +kernel
theorem dX7_init_145 : decode cX7_init 145 = .ok (.aload_n 0, 1) := by decide +kernel
theorem dX7_init_146 : decode cX7_init 146 = .ok (.iconst 5, 1) := by decide +kernel
theorem dX7_init_147 : decode cX7_init 147 = .ok (.newarray .long, 2) := by decide +kernel
theorem dX7_init_149 : decode cX7_init 149 = .ok (.putfield 70, 3) := by decide +kernel
theorem dX7_init_152 : decode cX7_init 152 = .ok (.aload_n 0, 1) := by decide +kernel
theorem dX7_init_153 : decode cX7_init 153 = .ok (.iconst 5, 1) := by decide +kernel
theorem dX7_init_154 : decode cX7_init 154 = .ok (.newarray .long, 2) := by decide +kernel
theorem dX7_init_156 : decode cX7_init 156 = .ok (.putfield 73, 3) := by decide +kernel
theorem dX7_init_159 : decode cX7_init 159 = .ok (.aload_n 0, 1) := by decide +kernel
theorem dX7_init_160 : decode cX7_init 160 = .ok (.iconst 5, 1) := by decide +kernel
theorem dX7_init_161 : decode cX7_init 161 = .ok (.newarray .long, 2) := by decide +kernel
theorem dX7_init_163 : decode cX7_init 163 = .ok (.putfield 76, 3) := by decide +kernel
theorem dX7_init_166 : decode cX7_init 166 = .ok (.aload_n 0, 1) := by decide +kernel
theorem dX7_init_167 : decode cX7_init 167 = .ok (.iconst 5, 1) := by decide +kernel
theorem dX7_init_168 : decode cX7_init 168 = .ok (.newarray .long, 2) := by decide +kernel
theorem dX7_init_170 : decode cX7_init 170 = .ok (.putfield 79, 3) := by decide +kernel
theorem dX7_init_173 : decode cX7_init 173 = .ok (.aload_n 0, 1) := by decide +kernel
theorem dX7_init_174 : decode cX7_init 174 = .ok (.bipush 25, 2) := by decide +kernel
theorem dX7_init_176 : decode cX7_init 176 = .ok (.newarray .long, 2) := by decide +kernel
theorem dX7_init_178 : decode cX7_init 178 = .ok (.putfield 82, 3) := by decide +kernel
theorem dX7_init_181 : decode cX7_init 181 = .ok (.aload_n 0, 1) := by decide +kernel
theorem dX7_init_182 : decode cX7_init 182 = .ok (.bipush 25, 2) := by decide +kernel
theorem dX7_init_184 : decode cX7_init 184 = .ok (.newarray .long, 2) := by decide +kernel
theorem dX7_init_186 : decode cX7_init 186 = .ok (.putfield 85, 3) := by decide +kernel
theorem dX7_init_189 : decode cX7_init 189 = .ok (.aload_n 0, 1) := by decide +kernel
theorem dX7_init_190 : decode cX7_init 190 = .ok (.bipush 25, 2) := by decide +kernel
theorem dX7_init_192 : decode cX7_init 192 = .ok (.newarray .long, 2) := by decide +kernel
theorem dX7_init_194 : decode cX7_init 194 = .ok (.putfield 88, 3) := by decide +kernel
theorem dX7_init_197 : decode cX7_init 197 = .ok (.aload_n 0, 1) := by decide +kernel
theorem dX7_init_198 : decode cX7_init 198 = .ok (.bipush 25, 2) := by decide +kernel
theorem dX7_init_200 : decode cX7_init 200 = .ok (.newarray .long, 2) := by decide +kernel
theorem dX7_init_202 : decode cX7_init 202 = .ok (.putfield 91, 3) := by decide +kernel
theorem dX7_init_205 : decode cX7_init 205 = .ok (.aload_n 0, 1) := by decide +kernel
theorem dX7_init_206 : decode cX7_init 206 = .ok (.iconst (-1), 1) := by decide +kernel
theorem dX7_init_207 : decode cX7_init 207 = .ok (.putfield 94, 3) := by decide +kernel
theorem dX7_init_210 : decode cX7_init 210 = .ok (.return_, 1) := by decide +kernel
theorem dX7_isIn_0 : decode cX7_isIn 0 = .ok (.lload_n 1, 1) := by decide +kernel
theorem dX7_isIn_1 : decode cX7_isIn 1 = .ok (.lload_n 3, 1) := by decide +kernel
theorem dX7_isIn_2 : decode cX7_isIn 2 = .ok (.lcmp, 1) := by decide +kernel
theorem dX7_isIn_3 : decode cX7_isIn 3 = .ok (.ifCond .lt 14, 3) := by decide +kernel
theorem dX7_isIn_6 : decode cX7_isIn 6 = .ok (.lload_n 1, 1) := by decide +kernel
theorem dX7_isIn_7 : decode cX7_isIn 7 = .ok (.lload 5, 2) := by decide +kernel
theorem dX7_isIn_9 : decode cX7_isIn 9 = .ok (.lcmp, 1) := by decide +kernel
theorem dX7_isIn_10 : decode cX7_isIn 10 = .ok (.ifCond .gt 7, 3) := by decide +kernel
theorem dX7_isIn_13 : decode cX7_isIn 13 = .ok (.iconst 1, 1) := by decide +kernel
theorem dX7_isIn_14 : decode cX7_isIn 14 = .ok (.goto 4, 3) := by decide +kernel
theorem dX7_isIn_17 : decode cX7_isIn 17 = .ok (.iconst 0, 1) := by decide +kernel
theorem dX7_isIn_18 : decode cX7_isIn 18 = .ok (.ireturn, 1) := by decide +kernel
theorem dX7_isForm_0 : decode cX7_isForm 0 = .ok (.aload_n 0, 1) := by decide +kernel
theorem dX7_isForm_1 : decode cX7_isForm 1 = .ok (.iload_n 1, 1) := by decide +kernel
theorem dX7_isForm_2 : decode cX7_isForm 2 = .ok (.i2l, 1) := by decide +kernel
theorem dX7_isForm_3 : decode cX7_isForm 3 = .ok (.lconst 0, 1) := by decide +kernel
theorem dX7_isForm_4 : decode cX7_isForm 4 = .ok (.aload_n 0, 1) := by decide +kernel
theorem dX7_isForm_5 : decode cX7_isForm 5 = .ok (.getfield 97, 3) := by decide +kernel
theorem dX7_isForm_8 : decode cX7_isForm 8 = .ok (.iconst 1, 1) := by decide +kernel
theorem dX7_isForm_9 : decode cX7_isForm 9 = .ok (.isub, 1) := by decide +kernel
theorem dX7_isForm_10 : decode cX7_isForm 10 = .ok (.i2l, 1) := by decide +kernel
theorem dX7_isForm_11 : decode cX7_isForm 11 = .ok (.invokevirtual 100, 3) := by decide +kernel
theorem dX7_isForm_14 : decode cX7_isForm 14 = .ok (.ireturn, 1) := by decide +kernel
theorem dX7_variables_0 : decode cX7_variables 0 = .ok (.aload_n 0, 1) := by decide +kernel
theorem dX7_variables_1 : decode cX7_variables 1 = .ok (.iload_n 1, 1) := by decide +kernel
theorem dX7_variables_2 : decode cX7_variables 2 = .ok (.i2l, 1) := by decide +kernel
theorem dX7_variables_3 : decode cX7_variables 3 = .ok (.lconst 1, 1) := by decide +kernel
theorem dX7_variables_4 : decode cX7_variables 4 = .ok (.ldc2_w 104, 3) := by decide +kernel
theorem dX7_variables_7 : decode cX7_variables 7 = .ok (.invokevirtual 100, 3) := by decide +kernel
theorem dX7_variables_10 : decode cX7_variables 10 = .ok (.ifCond .ne 5, 3) := by decide +kernel
theorem dX7_variables_13 : decode cX7_variables 13 = .ok (.iconst (-1), 1) := by decide +kernel
theorem dX7_variables_14 : decode cX7_variables 14 = .ok (.ireturn, 1) := by decide +kernel
theorem dX7_variables_15 : decode cX7_variables 15 = .ok (.aload_n 0, 1) := by decide +kernel
theorem dX7_variables_16 : decode cX7_variables 16 = .ok (.getfield 97, 3) := by decide +kernel
theorem dX7_variables_19 : decode cX7_variables 19 = .ok (.istore_n 2, 1) := by decide +kernel
theorem dX7_variables_20 : decode cX7_variables 20 = .ok (.aload_n 0, 1) := by decide +kernel
theorem dX7_variables_21 : decode cX7_variables 21 = .ok (.iload_n 1, 1) := by decide +kernel
theorem dX7_variables_22 : decode cX7_variables 22 = .ok (.putfield 7, 3) := by decide +kernel
theorem dX7_variables_25 : decode cX7_variables 25 = .ok (.aload_n 0, 1) := by decide +kernel
theorem dX7_variables_26 : decode cX7_variables 26 = .ok (.iconst 0, 1) := by decide +kernel
theorem dX7_variables_27 : decode cX7_variables 27 = .ok (.putfield 97, 3) := by decide +kernel
theorem dX7_variables_30 : decode cX7_variables 30 = .ok (.aload_n 0, 1) := by decide +kernel
theorem dX7_variables_31 : decode cX7_variables 31 = .ok (.iconst 0, 1) := by decide +kernel
theorem dX7_variables_32 : decode cX7_variables 32 = .ok (.putfield 106, 3) := by decide +kernel
theorem dX7_variables_35 : decode cX7_variables 35 = .ok (.aload_n 0, 1) := by decide +kernel
theorem dX7_variables_36 : decode cX7_variables 36 = .ok (.iconst (-1), 1) := by decide +kernel
theorem dX7_variables_37 : decode cX7_variables 37 = .ok (.putfield 94, 3) := by decide +kernel
theorem dX7_variables_40 : decode cX7_variables 40 = .ok (.aload_n 0, 1) := by decide +kernel
theorem dX7_variables_41 : decode cX7_variables 41 = .ok (.iconst 0, 1) := by decide +kernel
theorem dX7_variables_42 : decode cX7_variables 42 = .ok (.putfield 109, 3) := by decide +kernel
theorem dX7_variables_45 : decode cX7_variables 45 = .ok (.aload_n 0, 1) := by decide +kernel
theorem dX7_variables_46 : decode cX7_variables 46 = .ok (.iconst 0, 1) := by decide +kernel
theorem dX7_variables_47 : decode cX7_variables 47 = .ok (.putfield 112, 3) := by decide +kernel
theorem dX7_variables_50 : decode cX7_variables 50 = .ok (.iload_n 2, 1) := by decide +kernel
theorem dX7_variables_51 : decode cX7_variables 51 = .ok (.ireturn, 1) := by decide +kernel
theorem dX7_form_0 : decode cX7_form 0 = .ok (.aload_n 0, 1) := by decide +kernel
theorem dX7_form_1 : decode cX7_form 1 = .ok (.getfield 97, 3) := by decide +kernel
theorem dX7_form_4 : decode cX7_form 4 = .ok (.bipush 12, 2) := by decide +kernel
theorem dX7_form_6 : decode cX7_form 6 = .ok (.if_icmp .ne 6, 3) := by decide +kernel
theorem dX7_form_9 : decode cX7_form 9 = .ok (.bipush (-3), 2) := by decide +kernel
theorem dX7_form_11 : decode cX7_form 11 = .ok (.ireturn, 1) := by decide +kernel
theorem dX7_form_12 : decode cX7_form 12 = .ok (.iconst 0, 1) := by decide +kernel
theorem dX7_form_13 : decode cX7_form 13 = .ok (.istore_n 1, 1) := by decide +kernel
theorem dX7_form_14 : decode cX7_form 14 = .ok (.iload_n 1, 1) := by decide +kernel
theorem dX7_form_15 : decode cX7_form 15 = .ok (.bipush 25, 2) := by decide +kernel
theorem dX7_form_17 : decode cX7_form 17 = .ok (.if_icmp .ge 24, 3) := by decide +kernel
theorem dX7_form_20 : decode cX7_form 20 = .ok (.aload_n 0, 1) := by decide +kernel
theorem dX7_form_21 : decode cX7_form 21 = .ok (.getfield 13, 3) := by decide +kernel
theorem dX7_form_24 : decode cX7_form 24 = .ok (.bipush 25, 2) := by decide +kernel
theorem dX7_form_26 : decode cX7_form 26 = .ok (.aload_n 0, 1) := by decide +kernel
theorem dX7_form_27 : decode cX7_form 27 = .ok (.getfield 97, 3) := by decide +kernel
theorem dX7_form_30 : decode cX7_form 30 = .ok (.imul, 1) := by decide +kernel
theorem dX7_form_31 : decode cX7_form 31 = .ok (.iload_n 1, 1) := by decide +kernel
theorem dX7_form_32 : decode cX7_form 32 = .ok (.iadd, 1) := by decide +kernel
theorem dX7_form_33 : decode cX7_form 33 = .ok (.iconst 0, 1) := by decide +kernel
theorem dX7_form_34 : decode cX7_form 34 = .ok (.iastore, 1) := by decide +kernel
theorem dX7_form_35 : decode cX7_form 35 = .ok (.iinc 1 1, 3) := by decide +kernel
theorem dX7_form_38 : decode cX7_form 38 = .ok (.goto (-24), 3) := by decide +kernel
theorem dX7_form_41 : decode cX7_form 41 = .ok (.aload_n 0, 1) := by decide +kernel
theorem dX7_form_42 : decode cX7_form 42 = .ok (.dup, 1) := by decide +kernel
theorem dX7_form_43 : decode cX7_form 43 = .ok (.getfield 97, 3) := by decide +kernel
theorem dX7_form_46 : decode cX7_form 46 = .ok (.iconst 1, 1) := by decide +kernel
theorem dX7_form_47 : decode cX7_form 47 = .ok (.iadd, 1) := by decide +kernel
theorem dX7_form_48 : decode cX7_form 48 = .ok (.putfield 97, 3) := by decide +kernel
theorem dX7_form_51 : decode cX7_form 51 = .ok (.aload_n 0, 1) := by decide +kernel
theorem dX7_form_52 : decode cX7_form 52 = .ok (.getfield 97, 3) := by decide +kernel
theorem dX7_form_55 : decode cX7_form 55 = .ok (.iconst 1, 1) := by decide +kernel
theorem dX7_form_56 : decode cX7_form 56 = .ok (.isub, 1) := by decide +kernel
theorem dX7_form_57 : decode cX7_form 57 = .ok (.ireturn, 1) := by decide +kernel
theorem dX7_at_0 : decode cX7_at 0 = .ok (.iload_n 1, 1) := by decide +kernel
theorem dX7_at_1 : decode cX7_at 1 = .ok (.iload_n 2, 1) := by decide +kernel
theorem dX7_at_2 : decode cX7_at 2 = .ok (.if_icmp .ge 11, 3) := by decide +kernel
theorem dX7_at_5 : decode cX7_at 5 = .ok (.iconst 5, 1) := by decide +kernel
theorem dX7_at_6 : decode cX7_at 6 = .ok (.iload_n 1, 1) := by decide +kernel
theorem dX7_at_7 : decode cX7_at 7 = .ok (.imul, 1) := by decide +kernel
theorem dX7_at_8 : decode cX7_at 8 = .ok (.iload_n 2, 1) := by decide +kernel
theorem dX7_at_9 : decode cX7_at 9 = .ok (.iadd, 1) := by decide +kernel
theorem dX7_at_10 : decode cX7_at 10 = .ok (.goto 8, 3) := by decide +kernel
theorem dX7_at_13 : decode cX7_at 13 = .ok (.iconst 5, 1) := by decide +kernel
theorem dX7_at_14 : decode cX7_at 14 = .ok (.iload_n 2, 1) := by decide +kernel
theorem dX7_at_15 : decode cX7_at 15 = .ok (.imul, 1) := by decide +kernel
theorem dX7_at_16 : decode cX7_at 16 = .ok (.iload_n 1, 1) := by decide +kernel
theorem dX7_at_17 : decode cX7_at 17 = .ok (.iadd, 1) := by decide +kernel
theorem dX7_at_18 : decode cX7_at 18 = .ok (.ireturn, 1) := by decide +kernel
theorem dX7_term_0 : decode cX7_term 0 = .ok (.aload_n 0, 1) := by decide +kernel
theorem dX7_term_1 : decode cX7_term 1 = .ok (.iload_n 1, 1) := by decide +kernel
theorem dX7_term_2 : decode cX7_term 2 = .ok (.invokevirtual 116, 3) := by decide +kernel
theorem dX7_term_5 : decode cX7_term 5 = .ok (.ifCond .eq 49, 3) := by decide +kernel
theorem dX7_term_8 : decode cX7_term 8 = .ok (.aload_n 0, 1) := by decide +kernel
theorem dX7_term_9 : decode cX7_term 9 = .ok (.iload_n 2, 1) := by decide +kernel
theorem dX7_term_10 : decode cX7_term 10 = .ok (.i2l, 1) := by decide +kernel
theorem dX7_term_11 : decode cX7_term 11 = .ok (.lconst 0, 1) := by decide +kernel
theorem dX7_term_12 : decode cX7_term 12 = .ok (.aload_n 0, 1) := by decide +kernel
theorem dX7_term_13 : decode cX7_term 13 = .ok (.getfield 7, 3) := by decide +kernel
theorem dX7_term_16 : decode cX7_term 16 = .ok (.i2l, 1) := by decide +kernel
theorem dX7_term_17 : decode cX7_term 17 = .ok (.invokevirtual 100, 3) := by decide +kernel
theorem dX7_term_20 : decode cX7_term 20 = .ok (.ifCond .eq 34, 3) := by decide +kernel
theorem dX7_term_23 : decode cX7_term 23 = .ok (.aload_n 0, 1) := by decide +kernel
theorem dX7_term_24 : decode cX7_term 24 = .ok (.iload_n 3, 1) := by decide +kernel
theorem dX7_term_25 : decode cX7_term 25 = .ok (.i2l, 1) := by decide +kernel
theorem dX7_term_26 : decode cX7_term 26 = .ok (.lconst 0, 1) := by decide +kernel
theorem dX7_term_27 : decode cX7_term 27 = .ok (.aload_n 0, 1) := by decide +kernel
theorem dX7_term_28 : decode cX7_term 28 = .ok (.getfield 7, 3) := by decide +kernel
theorem dX7_term_31 : decode cX7_term 31 = .ok (.i2l, 1) := by decide +kernel
theorem dX7_term_32 : decode cX7_term 32 = .ok (.invokevirtual 100, 3) := by decide +kernel
theorem dX7_term_35 : decode cX7_term 35 = .ok (.ifCond .eq 19, 3) := by decide +kernel
theorem dX7_term_38 : decode cX7_term 38 = .ok (.aload_n 0, 1) := by decide +kernel
theorem dX7_term_39 : decode cX7_term 39 = .ok (.iload 4, 2) := by decide +kernel
theorem dX7_term_41 : decode cX7_term 41 = .ok (.i2l, 1) := by decide +kernel
theorem dX7_term_42 : decode cX7_term 42 = .ok (.ldc2_w 120, 3) := by decide +kernel
theorem dX7_term_45 : decode cX7_term 45 = .ok (.ldc2_w 122, 3) := by decide +kernel
theorem dX7_term_48 : decode cX7_term 48 = .ok (.invokevirtual 100, 3) := by decide +kernel
theorem dX7_term_51 : decode cX7_term 51 = .ok (.ifCond .ne 6, 3) := by decide +kernel
theorem dX7_term_54 : decode cX7_term 54 = .ok (.ldc 124, 2) := by decide +kernel
theorem dX7_term_56 : decode cX7_term 56 = .ok (.ireturn, 1) := by decide +kernel
theorem dX7_term_57 : decode cX7_term 57 = .ok (.bipush 25, 2) := by decide +kernel
theorem dX7_term_59 : decode cX7_term 59 = .ok (.iload_n 1, 1) := by decide +kernel
theorem dX7_term_60 : decode cX7_term 60 = .ok (.imul, 1) := by decide +kernel
theorem dX7_term_61 : decode cX7_term 61 = .ok (.aload_n 0, 1) := by decide +kernel
theorem dX7_term_62 : decode cX7_term 62 = .ok (.iload_n 2, 1) := by decide +kernel
theorem dX7_term_63 : decode cX7_term 63 = .ok (.iload_n 3, 1) := by decide +kernel
theorem dX7_term_64 : decode cX7_term 64 = .ok (.invokevirtual 125, 3) := by decide +kernel
theorem dX7_term_67 : decode cX7_term 67 = .ok (.iadd, 1) := by decide +kernel
theorem dX7_term_68 : decode cX7_term 68 = .ok (.istore 5, 2) := by decide +kernel
theorem dX7_term_70 : decode cX7_term 70 = .ok (.aload_n 0, 1) := by decide +kernel
theorem dX7_term_71 : decode cX7_term 71 = .ok (.getfield 13, 3) := by decide +kernel
theorem dX7_term_74 : decode cX7_term 74 = .ok (.iload 5, 2) := by decide +kernel
theorem dX7_term_76 : decode cX7_term 76 = .ok (.iaload, 1) := by decide +kernel
theorem dX7_term_77 : decode cX7_term 77 = .ok (.istore 6, 2) := by decide +kernel
theorem dX7_term_79 : decode cX7_term 79 = .ok (.aload_n 0, 1) := by decide +kernel
theorem dX7_term_80 : decode cX7_term 80 = .ok (.getfield 13, 3) := by decide +kernel
theorem dX7_term_83 : decode cX7_term 83 = .ok (.iload 5, 2) := by decide +kernel
theorem dX7_term_85 : decode cX7_term 85 = .ok (.iload 4, 2) := by decide +kernel
theorem dX7_term_87 : decode cX7_term 87 = .ok (.iastore, 1) := by decide +kernel
theorem dX7_term_88 : decode cX7_term 88 = .ok (.iload 6, 2) := by decide +kernel
theorem dX7_term_90 : decode cX7_term 90 = .ok (.ireturn, 1) := by decide +kernel
theorem dX7_worth_0 : decode cX7_worth 0 = .ok (.lconst 0, 1) := by decide +kernel
theorem dX7_worth_1 : decode cX7_worth 1 = .ok (.lstore_n 2, 1) := by decide +kernel
theorem dX7_worth_2 : decode cX7_worth 2 = .ok (.iconst 0, 1) := by decide +kernel
theorem dX7_worth_3 : decode cX7_worth 3 = .ok (.istore 4, 2) := by decide +kernel
theorem dX7_worth_5 : decode cX7_worth 5 = .ok (.iload 4, 2) := by decide +kernel
theorem dX7_worth_7 : decode cX7_worth 7 = .ok (.aload_n 0, 1) := by decide +kernel
theorem dX7_worth_8 : decode cX7_worth 8 = .ok (.getfield 7, 3) := by decide +kernel
theorem dX7_worth_11 : decode cX7_worth 11 = .ok (.if_icmp .gt 68, 3) := by decide +kernel
theorem dX7_worth_14 : decode cX7_worth 14 = .ok (.iload 4, 2) := by decide +kernel
theorem dX7_worth_16 : decode cX7_worth 16 = .ok (.istore 5, 2) := by decide +kernel
theorem dX7_worth_18 : decode cX7_worth 18 = .ok (.iload 5, 2) := by decide +kernel
theorem dX7_worth_20 : decode cX7_worth 20 = .ok (.aload_n 0, 1) := by decide +kernel
theorem dX7_worth_21 : decode cX7_worth 21 = .ok (.getfield 7, 3) := by decide +kernel
theorem dX7_worth_24 : decode cX7_worth 24 = .ok (.if_icmp .gt 49, 3) := by decide +kernel
theorem dX7_worth_27 : decode cX7_worth 27 = .ok (.lload_n 2, 1) := by decide +kernel
theorem dX7_worth_28 : decode cX7_worth 28 = .ok (.aload_n 0, 1) := by decide +kernel
theorem dX7_worth_29 : decode cX7_worth 29 = .ok (.getfield 13, 3) := by decide +kernel
theorem dX7_worth_32 : decode cX7_worth 32 = .ok (.bipush 25, 2) := by decide +kernel
theorem dX7_worth_34 : decode cX7_worth 34 = .ok (.iload_n 1, 1) := by decide +kernel
theorem dX7_worth_35 : decode cX7_worth 35 = .ok (.imul, 1) := by decide +kernel
theorem dX7_worth_36 : decode cX7_worth 36 = .ok (.aload_n 0, 1) := by decide +kernel
theorem dX7_worth_37 : decode cX7_worth 37 = .ok (.iload 4, 2) := by decide +kernel
theorem dX7_worth_39 : decode cX7_worth 39 = .ok (.iload 5, 2) := by decide +kernel
theorem dX7_worth_41 : decode cX7_worth 41 = .ok (.invokevirtual 125, 3) := by decide +kernel
theorem dX7_worth_44 : decode cX7_worth 44 = .ok (.iadd, 1) := by decide +kernel
theorem dX7_worth_45 : decode cX7_worth 45 = .ok (.iaload, 1) := by decide +kernel
theorem dX7_worth_46 : decode cX7_worth 46 = .ok (.i2l, 1) := by decide +kernel
theorem dX7_worth_47 : decode cX7_worth 47 = .ok (.aload_n 0, 1) := by decide +kernel
theorem dX7_worth_48 : decode cX7_worth 48 = .ok (.getfield 17, 3) := by decide +kernel
theorem dX7_worth_51 : decode cX7_worth 51 = .ok (.iload 4, 2) := by decide +kernel
theorem dX7_worth_53 : decode cX7_worth 53 = .ok (.iaload, 1) := by decide +kernel
theorem dX7_worth_54 : decode cX7_worth 54 = .ok (.i2l, 1) := by decide +kernel
theorem dX7_worth_55 : decode cX7_worth 55 = .ok (.lmul, 1) := by decide +kernel
theorem dX7_worth_56 : decode cX7_worth 56 = .ok (.aload_n 0, 1) := by decide +kernel
theorem dX7_worth_57 : decode cX7_worth 57 = .ok (.getfield 17, 3) := by decide +kernel
theorem dX7_worth_60 : decode cX7_worth 60 = .ok (.iload 5, 2) := by decide +kernel
theorem dX7_worth_62 : decode cX7_worth 62 = .ok (.iaload, 1) := by decide +kernel
theorem dX7_worth_63 : decode cX7_worth 63 = .ok (.i2l, 1) := by decide +kernel
theorem dX7_worth_64 : decode cX7_worth 64 = .ok (.lmul, 1) := by decide +kernel
theorem dX7_worth_65 : decode cX7_worth 65 = .ok (.ladd, 1) := by decide +kernel
theorem dX7_worth_66 : decode cX7_worth 66 = .ok (.lstore_n 2, 1) := by decide +kernel
theorem dX7_worth_67 : decode cX7_worth 67 = .ok (.iinc 5 1, 3) := by decide +kernel
theorem dX7_worth_70 : decode cX7_worth 70 = .ok (.goto (-52), 3) := by decide +kernel
theorem dX7_worth_73 : decode cX7_worth 73 = .ok (.iinc 4 1, 3) := by decide +kernel
theorem dX7_worth_76 : decode cX7_worth 76 = .ok (.goto (-71), 3) := by decide +kernel
theorem dX7_worth_79 : decode cX7_worth 79 = .ok (.lload_n 2, 1) := by decide +kernel
theorem dX7_worth_80 : decode cX7_worth 80 = .ok (.lreturn, 1) := by decide +kernel
theorem dX7_value_0 : decode cX7_value 0 = .ok (.aload_n 0, 1) := by decide +kernel
theorem dX7_value_1 : decode cX7_value 1 = .ok (.getfield 17, 3) := by decide +kernel
theorem dX7_value_4 : decode cX7_value 4 = .ok (.iconst 0, 1) := by decide +kernel
theorem dX7_value_5 : decode cX7_value 5 = .ok (.iconst 1, 1) := by decide +kernel
theorem dX7_value_6 : decode cX7_value 6 = .ok (.iastore, 1) := by decide +kernel
theorem dX7_value_7 : decode cX7_value 7 = .ok (.aload_n 0, 1) := by decide +kernel
theorem dX7_value_8 : decode cX7_value 8 = .ok (.getfield 17, 3) := by decide +kernel
theorem dX7_value_11 : decode cX7_value 11 = .ok (.iconst 1, 1) := by decide +kernel
theorem dX7_value_12 : decode cX7_value 12 = .ok (.iload_n 2, 1) := by decide +kernel
theorem dX7_value_13 : decode cX7_value 13 = .ok (.iastore, 1) := by decide +kernel
theorem dX7_value_14 : decode cX7_value 14 = .ok (.aload_n 0, 1) := by decide +kernel
theorem dX7_value_15 : decode cX7_value 15 = .ok (.getfield 17, 3) := by decide +kernel
theorem dX7_value_18 : decode cX7_value 18 = .ok (.iconst 2, 1) := by decide +kernel
theorem dX7_value_19 : decode cX7_value 19 = .ok (.iload_n 3, 1) := by decide +kernel
theorem dX7_value_20 : decode cX7_value 20 = .ok (.iastore, 1) := by decide +kernel
theorem dX7_value_21 : decode cX7_value 21 = .ok (.aload_n 0, 1) := by decide +kernel
theorem dX7_value_22 : decode cX7_value 22 = .ok (.getfield 17, 3) := by decide +kernel
theorem dX7_value_25 : decode cX7_value 25 = .ok (.iconst 3, 1) := by decide +kernel
theorem dX7_value_26 : decode cX7_value 26 = .ok (.iload 4, 2) := by decide +kernel
theorem dX7_value_28 : decode cX7_value 28 = .ok (.iastore, 1) := by decide +kernel
theorem dX7_value_29 : decode cX7_value 29 = .ok (.aload_n 0, 1) := by decide +kernel
theorem dX7_value_30 : decode cX7_value 30 = .ok (.getfield 17, 3) := by decide +kernel
theorem dX7_value_33 : decode cX7_value 33 = .ok (.iconst 4, 1) := by decide +kernel
theorem dX7_value_34 : decode cX7_value 34 = .ok (.iload 5, 2) := by decide +kernel
theorem dX7_value_36 : decode cX7_value 36 = .ok (.iastore, 1) := by decide +kernel
theorem dX7_value_37 : decode cX7_value 37 = .ok (.aload_n 0, 1) := by decide +kernel
theorem dX7_value_38 : decode cX7_value 38 = .ok (.iload_n 1, 1) := by decide +kernel
theorem dX7_value_39 : decode cX7_value 39 = .ok (.invokevirtual 116, 3) := by decide +kernel
theorem dX7_value_42 : decode cX7_value 42 = .ok (.istore 6, 2) := by decide +kernel
theorem dX7_value_44 : decode cX7_value 44 = .ok (.iconst 1, 1) := by decide +kernel
theorem dX7_value_45 : decode cX7_value 45 = .ok (.istore 7, 2) := by decide +kernel
theorem dX7_value_47 : decode cX7_value 47 = .ok (.iload 7, 2) := by decide +kernel
theorem dX7_value_49 : decode cX7_value 49 = .ok (.aload_n 0, 1) := by decide +kernel
theorem dX7_value_50 : decode cX7_value 50 = .ok (.getfield 7, 3) := by decide +kernel
theorem dX7_value_53 : decode cX7_value 53 = .ok (.if_icmp .gt 32, 3) := by decide +kernel
theorem dX7_value_56 : decode cX7_value 56 = .ok (.iload 6, 2) := by decide +kernel
theorem dX7_value_58 : decode cX7_value 58 = .ok (.aload_n 0, 1) := by decide +kernel
theorem dX7_value_59 : decode cX7_value 59 = .ok (.aload_n 0, 1) := by decide +kernel
theorem dX7_value_60 : decode cX7_value 60 = .ok (.getfield 17, 3) := by decide +kernel
theorem dX7_value_63 : decode cX7_value 63 = .ok (.iload 7, 2) := by decide +kernel
theorem dX7_value_65 : decode cX7_value 65 = .ok (.iaload, 1) := by decide +kernel
theorem dX7_value_66 : decode cX7_value 66 = .ok (.i2l, 1) := by decide +kernel
theorem dX7_value_67 : decode cX7_value 67 = .ok (.ldc2_w 129, 3) := by decide +kernel
theorem dX7_value_70 : decode cX7_value 70 = .ok (.ldc2_w 131, 3) := by decide +kernel
theorem dX7_value_73 : decode cX7_value 73 = .ok (.invokevirtual 100, 3) := by decide +kernel
theorem dX7_value_76 : decode cX7_value 76 = .ok (.iand, 1) := by decide +kernel
theorem dX7_value_77 : decode cX7_value 77 = .ok (.istore 6, 2) := by decide +kernel
theorem dX7_value_79 : decode cX7_value 79 = .ok (.iinc 7 1, 3) := by decide +kernel
theorem dX7_value_82 : decode cX7_value 82 = .ok (.goto (-35), 3) := by decide +kernel
theorem dX7_value_85 : decode cX7_value 85 = .ok (.iload 6, 2) := by decide +kernel
theorem dX7_value_87 : decode cX7_value 87 = .ok (.ifCond .eq 11, 3) := by decide +kernel
theorem dX7_value_90 : decode cX7_value 90 = .ok (.aload_n 0, 1) := by decide +kernel
theorem dX7_value_91 : decode cX7_value 91 = .ok (.iload_n 1, 1) := by decide +kernel
theorem dX7_value_92 : decode cX7_value 92 = .ok (.invokevirtual 133, 3) := by decide +kernel
theorem dX7_value_95 : decode cX7_value 95 = .ok (.goto 6, 3) := by decide +kernel
theorem dX7_value_98 : decode cX7_value 98 = .ok (.ldc2_w 137, 3) := by decide +kernel
theorem dX7_value_101 : decode cX7_value 101 = .ok (.lreturn, 1) := by decide +kernel
theorem dX7_begin_0 : decode cX7_begin 0 = .ok (.aload_n 0, 1) := by decide +kernel
theorem dX7_begin_1 : decode cX7_begin 1 = .ok (.iconst 0, 1) := by decide +kernel
theorem dX7_begin_2 : decode cX7_begin 2 = .ok (.putfield 139, 3) := by decide +kernel
theorem dX7_begin_5 : decode cX7_begin 5 = .ok (.aload_n 0, 1) := by decide +kernel
theorem dX7_begin_6 : decode cX7_begin 6 = .ok (.iconst 0, 1) := by decide +kernel
theorem dX7_begin_7 : decode cX7_begin 7 = .ok (.putfield 142, 3) := by decide +kernel
theorem dX7_begin_10 : decode cX7_begin 10 = .ok (.return_, 1) := by decide +kernel
theorem dX7_isWrong_0 : decode cX7_isWrong 0 = .ok (.aload_n 0, 1) := by decide +kernel
theorem dX7_isWrong_1 : decode cX7_isWrong 1 = .ok (.getfield 139, 3) := by decide +kernel
theorem dX7_isWrong_4 : decode cX7_isWrong 4 = .ok (.ifCond .ne 10, 3) := by decide +kernel
theorem dX7_isWrong_7 : decode cX7_isWrong 7 = .ok (.aload_n 0, 1) := by decide +kernel
theorem dX7_isWrong_8 : decode cX7_isWrong 8 = .ok (.getfield 142, 3) := by decide +kernel
theorem dX7_isWrong_11 : decode cX7_isWrong 11 = .ok (.ifCond .eq 7, 3) := by decide +kernel
theorem dX7_isWrong_14 : decode cX7_isWrong 14 = .ok (.iconst 1, 1) := by decide +kernel
theorem dX7_isWrong_15 : decode cX7_isWrong 15 = .ok (.goto 4, 3) := by decide +kernel
theorem dX7_isWrong_18 : decode cX7_isWrong 18 = .ok (.iconst 0, 1) := by decide +kernel
theorem dX7_isWrong_19 : decode cX7_isWrong 19 = .ok (.ireturn, 1) := by decide +kernel
theorem dX7_times_0 : decode cX7_times 0 = .ok (.lload_n 1, 1) := by decide +kernel
theorem dX7_times_1 : decode cX7_times 1 = .ok (.lconst 0, 1) := by decide +kernel
theorem dX7_times_2 : decode cX7_times 2 = .ok (.lcmp, 1) := by decide +kernel
theorem dX7_times_3 : decode cX7_times 3 = .ok (.ifCond .eq 9, 3) := by decide +kernel
theorem dX7_times_6 : decode cX7_times 6 = .ok (.lload_n 3, 1) := by decide +kernel
theorem dX7_times_7 : decode cX7_times 7 = .ok (.lconst 0, 1) := by decide +kernel
theorem dX7_times_8 : decode cX7_times 8 = .ok (.lcmp, 1) := by decide +kernel
theorem dX7_times_9 : decode cX7_times 9 = .ok (.ifCond .ne 5, 3) := by decide +kernel
theorem dX7_times_12 : decode cX7_times 12 = .ok (.lconst 0, 1) := by decide +kernel
theorem dX7_times_13 : decode cX7_times 13 = .ok (.lreturn, 1) := by decide +kernel
theorem dX7_times_14 : decode cX7_times 14 = .ok (.lload_n 1, 1) := by decide +kernel
theorem dX7_times_15 : decode cX7_times 15 = .ok (.lload_n 3, 1) := by decide +kernel
theorem dX7_times_16 : decode cX7_times 16 = .ok (.lmul, 1) := by decide +kernel
theorem dX7_times_17 : decode cX7_times 17 = .ok (.lstore 5, 2) := by decide +kernel
theorem dX7_times_19 : decode cX7_times 19 = .ok (.lload_n 1, 1) := by decide +kernel
theorem dX7_times_20 : decode cX7_times 20 = .ok (.ldc2_w 137, 3) := by decide +kernel
theorem dX7_times_23 : decode cX7_times 23 = .ok (.lcmp, 1) := by decide +kernel
theorem dX7_times_24 : decode cX7_times 24 = .ok (.ifCond .ne 11, 3) := by decide +kernel
theorem dX7_times_27 : decode cX7_times 27 = .ok (.lload_n 3, 1) := by decide +kernel
theorem dX7_times_28 : decode cX7_times 28 = .ok (.ldc2_w 145, 3) := by decide +kernel
theorem dX7_times_31 : decode cX7_times 31 = .ok (.lcmp, 1) := by decide +kernel
theorem dX7_times_32 : decode cX7_times 32 = .ok (.ifCond .eq 19, 3) := by decide +kernel
theorem dX7_times_35 : decode cX7_times 35 = .ok (.lload_n 3, 1) := by decide +kernel
theorem dX7_times_36 : decode cX7_times 36 = .ok (.ldc2_w 137, 3) := by decide +kernel
theorem dX7_times_39 : decode cX7_times 39 = .ok (.lcmp, 1) := by decide +kernel
theorem dX7_times_40 : decode cX7_times 40 = .ok (.ifCond .ne 15, 3) := by decide +kernel
theorem dX7_times_43 : decode cX7_times 43 = .ok (.lload_n 1, 1) := by decide +kernel
theorem dX7_times_44 : decode cX7_times 44 = .ok (.ldc2_w 145, 3) := by decide +kernel
theorem dX7_times_47 : decode cX7_times 47 = .ok (.lcmp, 1) := by decide +kernel
theorem dX7_times_48 : decode cX7_times 48 = .ok (.ifCond .ne 7, 3) := by decide +kernel
theorem dX7_times_51 : decode cX7_times 51 = .ok (.iconst 1, 1) := by decide +kernel
theorem dX7_times_52 : decode cX7_times 52 = .ok (.goto 4, 3) := by decide +kernel
theorem dX7_times_55 : decode cX7_times 55 = .ok (.iconst 0, 1) := by decide +kernel
theorem dX7_times_56 : decode cX7_times 56 = .ok (.istore 7, 2) := by decide +kernel
theorem dX7_times_58 : decode cX7_times 58 = .ok (.iload 7, 2) := by decide +kernel
theorem dX7_times_60 : decode cX7_times 60 = .ok (.ifCond .ne 21, 3) := by decide +kernel
theorem dX7_times_63 : decode cX7_times 63 = .ok (.lload 5, 2) := by decide +kernel
theorem dX7_times_65 : decode cX7_times 65 = .ok (.ldc2_w 145, 3) := by decide +kernel
theorem dX7_times_68 : decode cX7_times 68 = .ok (.lcmp, 1) := by decide +kernel
theorem dX7_times_69 : decode cX7_times 69 = .ok (.ifCond .eq 12, 3) := by decide +kernel
theorem dX7_times_72 : decode cX7_times 72 = .ok (.lload 5, 2) := by decide +kernel
theorem dX7_times_74 : decode cX7_times 74 = .ok (.lload_n 3, 1) := by decide +kernel
theorem dX7_times_75 : decode cX7_times 75 = .ok (.ldiv, 1) := by decide +kernel
theorem dX7_times_76 : decode cX7_times 76 = .ok (.lload_n 1, 1) := by decide +kernel
theorem dX7_times_77 : decode cX7_times 77 = .ok (.lcmp, 1) := by decide +kernel
theorem dX7_times_78 : decode cX7_times 78 = .ok (.ifCond .eq 26, 3) := by decide +kernel
theorem dX7_times_81 : decode cX7_times 81 = .ok (.aload_n 0, 1) := by decide +kernel
theorem dX7_times_82 : decode cX7_times 82 = .ok (.dup, 1) := by decide +kernel
theorem dX7_times_83 : decode cX7_times 83 = .ok (.getfield 139, 3) := by decide +kernel
theorem dX7_times_86 : decode cX7_times 86 = .ok (.aload_n 0, 1) := by decide +kernel
theorem dX7_times_87 : decode cX7_times 87 = .ok (.getfield 142, 3) := by decide +kernel
theorem dX7_times_90 : decode cX7_times 90 = .ok (.ifCond .ne 7, 3) := by decide +kernel
theorem dX7_times_93 : decode cX7_times 93 = .ok (.iconst 1, 1) := by decide +kernel
theorem dX7_times_94 : decode cX7_times 94 = .ok (.goto 4, 3) := by decide +kernel
theorem dX7_times_97 : decode cX7_times 97 = .ok (.iconst 0, 1) := by decide +kernel
theorem dX7_times_98 : decode cX7_times 98 = .ok (.ior, 1) := by decide +kernel
theorem dX7_times_99 : decode cX7_times 99 = .ok (.putfield 139, 3) := by decide +kernel
theorem dX7_times_102 : decode cX7_times 102 = .ok (.lconst 1, 1) := by decide +kernel
theorem dX7_times_103 : decode cX7_times 103 = .ok (.lreturn, 1) := by decide +kernel
theorem dX7_times_104 : decode cX7_times 104 = .ok (.lload 5, 2) := by decide +kernel
theorem dX7_times_106 : decode cX7_times 106 = .ok (.lreturn, 1) := by decide +kernel
theorem dX7_add_0 : decode cX7_add 0 = .ok (.lload_n 1, 1) := by decide +kernel
theorem dX7_add_1 : decode cX7_add 1 = .ok (.lload_n 3, 1) := by decide +kernel
theorem dX7_add_2 : decode cX7_add 2 = .ok (.ladd, 1) := by decide +kernel
theorem dX7_add_3 : decode cX7_add 3 = .ok (.lstore 5, 2) := by decide +kernel
theorem dX7_add_5 : decode cX7_add 5 = .ok (.lload_n 1, 1) := by decide +kernel
theorem dX7_add_6 : decode cX7_add 6 = .ok (.lload 5, 2) := by decide +kernel
theorem dX7_add_8 : decode cX7_add 8 = .ok (.lxor, 1) := by decide +kernel
theorem dX7_add_9 : decode cX7_add 9 = .ok (.lload_n 3, 1) := by decide +kernel
theorem dX7_add_10 : decode cX7_add 10 = .ok (.lload 5, 2) := by decide +kernel
theorem dX7_add_12 : decode cX7_add 12 = .ok (.lxor, 1) := by decide +kernel
theorem dX7_add_13 : decode cX7_add 13 = .ok (.land, 1) := by decide +kernel
theorem dX7_add_14 : decode cX7_add 14 = .ok (.lconst 0, 1) := by decide +kernel
theorem dX7_add_15 : decode cX7_add 15 = .ok (.lcmp, 1) := by decide +kernel
theorem dX7_add_16 : decode cX7_add 16 = .ok (.ifCond .lt 12, 3) := by decide +kernel
theorem dX7_add_19 : decode cX7_add 19 = .ok (.lload 5, 2) := by decide +kernel
theorem dX7_add_21 : decode cX7_add 21 = .ok (.ldc2_w 145, 3) := by decide +kernel
theorem dX7_add_24 : decode cX7_add 24 = .ok (.lcmp, 1) := by decide +kernel
theorem dX7_add_25 : decode cX7_add 25 = .ok (.ifCond .ne 26, 3) := by decide +kernel
theorem dX7_add_28 : decode cX7_add 28 = .ok (.aload_n 0, 1) := by decide +kernel
theorem dX7_add_29 : decode cX7_add 29 = .ok (.dup, 1) := by decide +kernel
theorem dX7_add_30 : decode cX7_add 30 = .ok (.getfield 139, 3) := by decide +kernel
theorem dX7_add_33 : decode cX7_add 33 = .ok (.aload_n 0, 1) := by decide +kernel
theorem dX7_add_34 : decode cX7_add 34 = .ok (.getfield 142, 3) := by decide +kernel
theorem dX7_add_37 : decode cX7_add 37 = .ok (.ifCond .ne 7, 3) := by decide +kernel
theorem dX7_add_40 : decode cX7_add 40 = .ok (.iconst 1, 1) := by decide +kernel
theorem dX7_add_41 : decode cX7_add 41 = .ok (.goto 4, 3) := by decide +kernel
theorem dX7_add_44 : decode cX7_add 44 = .ok (.iconst 0, 1) := by decide +kernel
theorem dX7_add_45 : decode cX7_add 45 = .ok (.ior, 1) := by decide +kernel
theorem dX7_add_46 : decode cX7_add 46 = .ok (.putfield 139, 3) := by decide +kernel
theorem dX7_add_49 : decode cX7_add 49 = .ok (.lconst 1, 1) := by decide +kernel
theorem dX7_add_50 : decode cX7_add 50 = .ok (.lreturn, 1) := by decide +kernel
theorem dX7_add_51 : decode cX7_add 51 = .ok (.lload 5, 2) := by decide +kernel
theorem dX7_add_53 : decode cX7_add 53 = .ok (.lreturn, 1) := by decide +kernel
theorem dX7_lowest_0 : decode cX7_lowest 0 = .ok (.aload_n 0, 1) := by decide +kernel
theorem dX7_lowest_1 : decode cX7_lowest 1 = .ok (.lconst 0, 1) := by decide +kernel
theorem dX7_lowest_2 : decode cX7_lowest 2 = .ok (.putfield 147, 3) := by decide +kernel
theorem dX7_lowest_5 : decode cX7_lowest 5 = .ok (.aload_n 0, 1) := by decide +kernel
theorem dX7_lowest_6 : decode cX7_lowest 6 = .ok (.lconst 1, 1) := by decide +kernel
theorem dX7_lowest_7 : decode cX7_lowest 7 = .ok (.putfield 151, 3) := by decide +kernel
theorem dX7_lowest_10 : decode cX7_lowest 10 = .ok (.aload_n 0, 1) := by decide +kernel
theorem dX7_lowest_11 : decode cX7_lowest 11 = .ok (.invokevirtual 154, 3) := by decide +kernel
theorem dX7_lowest_14 : decode cX7_lowest 14 = .ok (.ifCond .eq 4, 3) := by decide +kernel
theorem dX7_lowest_17 : decode cX7_lowest 17 = .ok (.return_, 1) := by decide +kernel
theorem dX7_lowest_18 : decode cX7_lowest 18 = .ok (.lload_n 1, 1) := by decide +kernel
theorem dX7_lowest_19 : decode cX7_lowest 19 = .ok (.lconst 0, 1) := by decide +kernel
theorem dX7_lowest_20 : decode cX7_lowest 20 = .ok (.lcmp, 1) := by decide +kernel
theorem dX7_lowest_21 : decode cX7_lowest 21 = .ok (.ifCond .ge 8, 3) := by decide +kernel
theorem dX7_lowest_24 : decode cX7_lowest 24 = .ok (.lload_n 1, 1) := by decide +kernel
theorem dX7_lowest_25 : decode cX7_lowest 25 = .ok (.lneg, 1) := by decide +kernel
theorem dX7_lowest_26 : decode cX7_lowest 26 = .ok (.goto 4, 3) := by decide +kernel
theorem dX7_lowest_29 : decode cX7_lowest 29 = .ok (.lload_n 1, 1) := by decide +kernel
theorem dX7_lowest_30 : decode cX7_lowest 30 = .ok (.lstore 5, 2) := by decide +kernel
theorem dX7_lowest_32 : decode cX7_lowest 32 = .ok (.lload_n 3, 1) := by decide +kernel
theorem dX7_lowest_33 : decode cX7_lowest 33 = .ok (.lconst 0, 1) := by decide +kernel
theorem dX7_lowest_34 : decode cX7_lowest 34 = .ok (.lcmp, 1) := by decide +kernel
theorem dX7_lowest_35 : decode cX7_lowest 35 = .ok (.ifCond .ge 8, 3) := by decide +kernel
theorem dX7_lowest_38 : decode cX7_lowest 38 = .ok (.lload_n 3, 1) := by decide +kernel
theorem dX7_lowest_39 : decode cX7_lowest 39 = .ok (.lneg, 1) := by decide +kernel
theorem dX7_lowest_40 : decode cX7_lowest 40 = .ok (.goto 4, 3) := by decide +kernel
theorem dX7_lowest_43 : decode cX7_lowest 43 = .ok (.lload_n 3, 1) := by decide +kernel
theorem dX7_lowest_44 : decode cX7_lowest 44 = .ok (.lstore 7, 2) := by decide +kernel
theorem dX7_lowest_46 : decode cX7_lowest 46 = .ok (.lload 7, 2) := by decide +kernel
theorem dX7_lowest_48 : decode cX7_lowest 48 = .ok (.lconst 0, 1) := by decide +kernel
theorem dX7_lowest_49 : decode cX7_lowest 49 = .ok (.lcmp, 1) := by decide +kernel
theorem dX7_lowest_50 : decode cX7_lowest 50 = .ok (.ifCond .eq 21, 3) := by decide +kernel
theorem dX7_lowest_53 : decode cX7_lowest 53 = .ok (.lload 5, 2) := by decide +kernel
theorem dX7_lowest_55 : decode cX7_lowest 55 = .ok (.lload 7, 2) := by decide +kernel
theorem dX7_lowest_57 : decode cX7_lowest 57 = .ok (.lrem, 1) := by decide +kernel
theorem dX7_lowest_58 : decode cX7_lowest 58 = .ok (.lstore 9, 2) := by decide +kernel
theorem dX7_lowest_60 : decode cX7_lowest 60 = .ok (.lload 7, 2) := by decide +kernel
theorem dX7_lowest_62 : decode cX7_lowest 62 = .ok (.lstore 5, 2) := by decide +kernel
theorem dX7_lowest_64 : decode cX7_lowest 64 = .ok (.lload 9, 2) := by decide +kernel
theorem dX7_lowest_66 : decode cX7_lowest 66 = .ok (.lstore 7, 2) := by decide +kernel
theorem dX7_lowest_68 : decode cX7_lowest 68 = .ok (.goto (-22), 3) := by decide +kernel
theorem dX7_lowest_71 : decode cX7_lowest 71 = .ok (.aload_n 0, 1) := by decide +kernel
theorem dX7_lowest_72 : decode cX7_lowest 72 = .ok (.lload_n 3, 1) := by decide +kernel
theorem dX7_lowest_73 : decode cX7_lowest 73 = .ok (.lconst 0, 1) := by decide +kernel
theorem dX7_lowest_74 : decode cX7_lowest 74 = .ok (.lcmp, 1) := by decide +kernel
theorem dX7_lowest_75 : decode cX7_lowest 75 = .ok (.ifCond .ge 11, 3) := by decide +kernel
theorem dX7_lowest_78 : decode cX7_lowest 78 = .ok (.lload_n 1, 1) := by decide +kernel
theorem dX7_lowest_79 : decode cX7_lowest 79 = .ok (.lneg, 1) := by decide +kernel
theorem dX7_lowest_80 : decode cX7_lowest 80 = .ok (.lload 5, 2) := by decide +kernel
theorem dX7_lowest_82 : decode cX7_lowest 82 = .ok (.ldiv, 1) := by decide +kernel
theorem dX7_lowest_83 : decode cX7_lowest 83 = .ok (.goto 7, 3) := by decide +kernel
theorem dX7_lowest_86 : decode cX7_lowest 86 = .ok (.lload_n 1, 1) := by decide +kernel
theorem dX7_lowest_87 : decode cX7_lowest 87 = .ok (.lload 5, 2) := by decide +kernel
theorem dX7_lowest_89 : decode cX7_lowest 89 = .ok (.ldiv, 1) := by decide +kernel
theorem dX7_lowest_90 : decode cX7_lowest 90 = .ok (.putfield 147, 3) := by decide +kernel
theorem dX7_lowest_93 : decode cX7_lowest 93 = .ok (.aload_n 0, 1) := by decide +kernel
theorem dX7_lowest_94 : decode cX7_lowest 94 = .ok (.lload_n 3, 1) := by decide +kernel
theorem dX7_lowest_95 : decode cX7_lowest 95 = .ok (.lconst 0, 1) := by decide +kernel
theorem dX7_lowest_96 : decode cX7_lowest 96 = .ok (.lcmp, 1) := by decide +kernel
theorem dX7_lowest_97 : decode cX7_lowest 97 = .ok (.ifCond .ge 11, 3) := by decide +kernel
theorem dX7_lowest_100 : decode cX7_lowest 100 = .ok (.lload_n 3, 1) := by decide +kernel
theorem dX7_lowest_101 : decode cX7_lowest 101 = .ok (.lneg, 1) := by decide +kernel
theorem dX7_lowest_102 : decode cX7_lowest 102 = .ok (.lload 5, 2) := by decide +kernel
theorem dX7_lowest_104 : decode cX7_lowest 104 = .ok (.ldiv, 1) := by decide +kernel
theorem dX7_lowest_105 : decode cX7_lowest 105 = .ok (.goto 7, 3) := by decide +kernel
theorem dX7_lowest_108 : decode cX7_lowest 108 = .ok (.lload_n 3, 1) := by decide +kernel
theorem dX7_lowest_109 : decode cX7_lowest 109 = .ok (.lload 5, 2) := by decide +kernel
theorem dX7_lowest_111 : decode cX7_lowest 111 = .ok (.ldiv, 1) := by decide +kernel
theorem dX7_lowest_112 : decode cX7_lowest 112 = .ok (.putfield 151, 3) := by decide +kernel
theorem dX7_lowest_115 : decode cX7_lowest 115 = .ok (.return_, 1) := by decide +kernel
theorem dX7_sum_0 : decode cX7_sum 0 = .ok (.aload_n 0, 1) := by decide +kernel
theorem dX7_sum_1 : decode cX7_sum 1 = .ok (.lload_n 1, 1) := by decide +kernel
theorem dX7_sum_2 : decode cX7_sum 2 = .ok (.lload 7, 2) := by decide +kernel
theorem dX7_sum_4 : decode cX7_sum 4 = .ok (.invokevirtual 158, 3) := by decide +kernel
theorem dX7_sum_7 : decode cX7_sum 7 = .ok (.lstore 9, 2) := by decide +kernel
theorem dX7_sum_9 : decode cX7_sum 9 = .ok (.aload_n 0, 1) := by decide +kernel
theorem dX7_sum_10 : decode cX7_sum 10 = .ok (.lload 5, 2) := by decide +kernel
theorem dX7_sum_12 : decode cX7_sum 12 = .ok (.lload_n 3, 1) := by decide +kernel
theorem dX7_sum_13 : decode cX7_sum 13 = .ok (.invokevirtual 158, 3) := by decide +kernel
theorem dX7_sum_16 : decode cX7_sum 16 = .ok (.lstore 11, 2) := by decide +kernel
theorem dX7_sum_18 : decode cX7_sum 18 = .ok (.aload_n 0, 1) := by decide +kernel
theorem dX7_sum_19 : decode cX7_sum 19 = .ok (.lload 9, 2) := by decide +kernel
theorem dX7_sum_21 : decode cX7_sum 21 = .ok (.lload 11, 2) := by decide +kernel
theorem dX7_sum_23 : decode cX7_sum 23 = .ok (.invokevirtual 162, 3) := by decide +kernel
theorem dX7_sum_26 : decode cX7_sum 26 = .ok (.lstore 13, 2) := by decide +kernel
theorem dX7_sum_28 : decode cX7_sum 28 = .ok (.aload_n 0, 1) := by decide +kernel
theorem dX7_sum_29 : decode cX7_sum 29 = .ok (.lload 13, 2) := by decide +kernel
theorem dX7_sum_31 : decode cX7_sum 31 = .ok (.aload_n 0, 1) := by decide +kernel
theorem dX7_sum_32 : decode cX7_sum 32 = .ok (.lload_n 3, 1) := by decide +kernel
theorem dX7_sum_33 : decode cX7_sum 33 = .ok (.lload 7, 2) := by decide +kernel
theorem dX7_sum_35 : decode cX7_sum 35 = .ok (.invokevirtual 158, 3) := by decide +kernel
theorem dX7_sum_38 : decode cX7_sum 38 = .ok (.invokevirtual 165, 3) := by decide +kernel
theorem dX7_sum_41 : decode cX7_sum 41 = .ok (.return_, 1) := by decide +kernel
theorem dX7_difference_0 : decode cX7_difference 0 = .ok (.aload_n 0, 1) := by decide +kernel
theorem dX7_difference_1 : decode cX7_difference 1 = .ok (.lload_n 1, 1) := by decide +kernel
theorem dX7_difference_2 : decode cX7_difference 2 = .ok (.lload 7, 2) := by decide +kernel
theorem dX7_difference_4 : decode cX7_difference 4 = .ok (.invokevirtual 158, 3) := by decide +kernel
theorem dX7_difference_7 : decode cX7_difference 7 = .ok (.lstore 9, 2) := by decide +kernel
theorem dX7_difference_9 : decode cX7_difference 9 = .ok (.aload_n 0, 1) := by decide +kernel
theorem dX7_difference_10 : decode cX7_difference 10 = .ok (.lload 5, 2) := by decide +kernel
theorem dX7_difference_12 : decode cX7_difference 12 = .ok (.lload_n 3, 1) := by decide +kernel
theorem dX7_difference_13 : decode cX7_difference 13 = .ok (.invokevirtual 158, 3) := by decide +kernel
theorem dX7_difference_16 : decode cX7_difference 16 = .ok (.lstore 11, 2) := by decide +kernel
theorem dX7_difference_18 : decode cX7_difference 18 = .ok (.aload_n 0, 1) := by decide +kernel
theorem dX7_difference_19 : decode cX7_difference 19 = .ok (.lload 9, 2) := by decide +kernel
theorem dX7_difference_21 : decode cX7_difference 21 = .ok (.lload 11, 2) := by decide +kernel
theorem dX7_difference_23 : decode cX7_difference 23 = .ok (.lneg, 1) := by decide +kernel
theorem dX7_difference_24 : decode cX7_difference 24 = .ok (.invokevirtual 162, 3) := by decide +kernel
theorem dX7_difference_27 : decode cX7_difference 27 = .ok (.lstore 13, 2) := by decide +kernel
theorem dX7_difference_29 : decode cX7_difference 29 = .ok (.aload_n 0, 1) := by decide +kernel
theorem dX7_difference_30 : decode cX7_difference 30 = .ok (.lload 13, 2) := by decide +kernel
theorem dX7_difference_32 : decode cX7_difference 32 = .ok (.aload_n 0, 1) := by decide +kernel
theorem dX7_difference_33 : decode cX7_difference 33 = .ok (.lload_n 3, 1) := by decide +kernel
theorem dX7_difference_34 : decode cX7_difference 34 = .ok (.lload 7, 2) := by decide +kernel
theorem dX7_difference_36 : decode cX7_difference 36 = .ok (.invokevirtual 158, 3) := by decide +kernel
theorem dX7_difference_39 : decode cX7_difference 39 = .ok (.invokevirtual 165, 3) := by decide +kernel
theorem dX7_difference_42 : decode cX7_difference 42 = .ok (.return_, 1) := by decide +kernel
theorem dX7_product_0 : decode cX7_product 0 = .ok (.aload_n 0, 1) := by decide +kernel
theorem dX7_product_1 : decode cX7_product 1 = .ok (.lload_n 1, 1) := by decide +kernel
theorem dX7_product_2 : decode cX7_product 2 = .ok (.lload 5, 2) := by decide +kernel
theorem dX7_product_4 : decode cX7_product 4 = .ok (.invokevirtual 158, 3) := by decide +kernel
theorem dX7_product_7 : decode cX7_product 7 = .ok (.lstore 9, 2) := by decide +kernel
theorem dX7_product_9 : decode cX7_product 9 = .ok (.aload_n 0, 1) := by decide +kernel
theorem dX7_product_10 : decode cX7_product 10 = .ok (.lload 9, 2) := by decide +kernel
theorem dX7_product_12 : decode cX7_product 12 = .ok (.aload_n 0, 1) := by decide +kernel
theorem dX7_product_13 : decode cX7_product 13 = .ok (.lload_n 3, 1) := by decide +kernel
theorem dX7_product_14 : decode cX7_product 14 = .ok (.lload 7, 2) := by decide +kernel
theorem dX7_product_16 : decode cX7_product 16 = .ok (.invokevirtual 158, 3) := by decide +kernel
theorem dX7_product_19 : decode cX7_product 19 = .ok (.invokevirtual 165, 3) := by decide +kernel
theorem dX7_product_22 : decode cX7_product 22 = .ok (.return_, 1) := by decide +kernel
theorem dX7_quotient_0 : decode cX7_quotient 0 = .ok (.aload_n 0, 1) := by decide +kernel
theorem dX7_quotient_1 : decode cX7_quotient 1 = .ok (.dup, 1) := by decide +kernel
theorem dX7_quotient_2 : decode cX7_quotient 2 = .ok (.getfield 142, 3) := by decide +kernel
theorem dX7_quotient_5 : decode cX7_quotient 5 = .ok (.lload 5, 2) := by decide +kernel
theorem dX7_quotient_7 : decode cX7_quotient 7 = .ok (.lconst 0, 1) := by decide +kernel
theorem dX7_quotient_8 : decode cX7_quotient 8 = .ok (.lcmp, 1) := by decide +kernel
theorem dX7_quotient_9 : decode cX7_quotient 9 = .ok (.ifCond .ne 14, 3) := by decide +kernel
theorem dX7_quotient_12 : decode cX7_quotient 12 = .ok (.aload_n 0, 1) := by decide +kernel
theorem dX7_quotient_13 : decode cX7_quotient 13 = .ok (.getfield 139, 3) := by decide +kernel
theorem dX7_quotient_16 : decode cX7_quotient 16 = .ok (.ifCond .ne 7, 3) := by decide +kernel
theorem dX7_quotient_19 : decode cX7_quotient 19 = .ok (.iconst 1, 1) := by decide +kernel
theorem dX7_quotient_20 : decode cX7_quotient 20 = .ok (.goto 4, 3) := by decide +kernel
theorem dX7_quotient_23 : decode cX7_quotient 23 = .ok (.iconst 0, 1) := by decide +kernel
theorem dX7_quotient_24 : decode cX7_quotient 24 = .ok (.ior, 1) := by decide +kernel
theorem dX7_quotient_25 : decode cX7_quotient 25 = .ok (.putfield 142, 3) := by decide +kernel
theorem dX7_quotient_28 : decode cX7_quotient 28 = .ok (.aload_n 0, 1) := by decide +kernel
theorem dX7_quotient_29 : decode cX7_quotient 29 = .ok (.lload_n 1, 1) := by decide +kernel
theorem dX7_quotient_30 : decode cX7_quotient 30 = .ok (.lload 7, 2) := by decide +kernel
theorem dX7_quotient_32 : decode cX7_quotient 32 = .ok (.invokevirtual 158, 3) := by decide +kernel
theorem dX7_quotient_35 : decode cX7_quotient 35 = .ok (.lstore 9, 2) := by decide +kernel
theorem dX7_quotient_37 : decode cX7_quotient 37 = .ok (.aload_n 0, 1) := by decide +kernel
theorem dX7_quotient_38 : decode cX7_quotient 38 = .ok (.lload 9, 2) := by decide +kernel
theorem dX7_quotient_40 : decode cX7_quotient 40 = .ok (.aload_n 0, 1) := by decide +kernel
theorem dX7_quotient_41 : decode cX7_quotient 41 = .ok (.lload_n 3, 1) := by decide +kernel
theorem dX7_quotient_42 : decode cX7_quotient 42 = .ok (.lload 5, 2) := by decide +kernel
theorem dX7_quotient_44 : decode cX7_quotient 44 = .ok (.invokevirtual 158, 3) := by decide +kernel
theorem dX7_quotient_47 : decode cX7_quotient 47 = .ok (.invokevirtual 165, 3) := by decide +kernel
theorem dX7_quotient_50 : decode cX7_quotient 50 = .ok (.return_, 1) := by decide +kernel
theorem dX7_inOrder_0 : decode cX7_inOrder 0 = .ok (.iload_n 1, 1) := by decide +kernel
theorem dX7_inOrder_1 : decode cX7_inOrder 1 = .ok (.aload_n 0, 1) := by decide +kernel
theorem dX7_inOrder_2 : decode cX7_inOrder 2 = .ok (.getfield 7, 3) := by decide +kernel
theorem dX7_inOrder_5 : decode cX7_inOrder 5 = .ok (.if_icmp .ge 9, 3) := by decide +kernel
theorem dX7_inOrder_8 : decode cX7_inOrder 8 = .ok (.iload_n 1, 1) := by decide +kernel
theorem dX7_inOrder_9 : decode cX7_inOrder 9 = .ok (.iconst 1, 1) := by decide +kernel
theorem dX7_inOrder_10 : decode cX7_inOrder 10 = .ok (.iadd, 1) := by decide +kernel
theorem dX7_inOrder_11 : decode cX7_inOrder 11 = .ok (.goto 4, 3) := by decide +kernel
theorem dX7_inOrder_14 : decode cX7_inOrder 14 = .ok (.iconst 0, 1) := by decide +kernel
theorem dX7_inOrder_15 : decode cX7_inOrder 15 = .ok (.ireturn, 1) := by decide +kernel
theorem dX7_matrix_0 : decode cX7_matrix 0 = .ok (.iconst 0, 1) := by decide +kernel
theorem dX7_matrix_1 : decode cX7_matrix 1 = .ok (.istore_n 2, 1) := by decide +kernel
theorem dX7_matrix_2 : decode cX7_matrix 2 = .ok (.iload_n 2, 1) := by decide +kernel
theorem dX7_matrix_3 : decode cX7_matrix 3 = .ok (.aload_n 0, 1) := by decide +kernel
theorem dX7_matrix_4 : decode cX7_matrix 4 = .ok (.getfield 7, 3) := by decide +kernel
theorem dX7_matrix_7 : decode cX7_matrix 7 = .ok (.if_icmp .gt 127, 3) := by decide +kernel
theorem dX7_matrix_10 : decode cX7_matrix 10 = .ok (.aload_n 0, 1) := by decide +kernel
theorem dX7_matrix_11 : decode cX7_matrix 11 = .ok (.getfield 33, 3) := by decide +kernel
theorem dX7_matrix_14 : decode cX7_matrix 14 = .ok (.iload_n 2, 1) := by decide +kernel
theorem dX7_matrix_15 : decode cX7_matrix 15 = .ok (.iconst 1, 1) := by decide +kernel
theorem dX7_matrix_16 : decode cX7_matrix 16 = .ok (.bastore, 1) := by decide +kernel
theorem dX7_matrix_17 : decode cX7_matrix 17 = .ok (.iconst 0, 1) := by decide +kernel
theorem dX7_matrix_18 : decode cX7_matrix 18 = .ok (.istore_n 3, 1) := by decide +kernel
theorem dX7_matrix_19 : decode cX7_matrix 19 = .ok (.iload_n 3, 1) := by decide +kernel
theorem dX7_matrix_20 : decode cX7_matrix 20 = .ok (.aload_n 0, 1) := by decide +kernel
theorem dX7_matrix_21 : decode cX7_matrix 21 = .ok (.getfield 7, 3) := by decide +kernel
theorem dX7_matrix_24 : decode cX7_matrix 24 = .ok (.if_icmp .gt 104, 3) := by decide +kernel
theorem dX7_matrix_27 : decode cX7_matrix 27 = .ok (.aload_n 0, 1) := by decide +kernel
theorem dX7_matrix_28 : decode cX7_matrix 28 = .ok (.getfield 13, 3) := by decide +kernel
theorem dX7_matrix_31 : decode cX7_matrix 31 = .ok (.bipush 25, 2) := by decide +kernel
theorem dX7_matrix_33 : decode cX7_matrix 33 = .ok (.iload_n 1, 1) := by decide +kernel
theorem dX7_matrix_34 : decode cX7_matrix 34 = .ok (.imul, 1) := by decide +kernel
theorem dX7_matrix_35 : decode cX7_matrix 35 = .ok (.aload_n 0, 1) := by decide +kernel
theorem dX7_matrix_36 : decode cX7_matrix 36 = .ok (.iload_n 2, 1) := by decide +kernel
theorem dX7_matrix_37 : decode cX7_matrix 37 = .ok (.iload_n 3, 1) := by decide +kernel
theorem dX7_matrix_38 : decode cX7_matrix 38 = .ok (.invokevirtual 125, 3) := by decide +kernel
theorem dX7_matrix_41 : decode cX7_matrix 41 = .ok (.iadd, 1) := by decide +kernel
theorem dX7_matrix_42 : decode cX7_matrix 42 = .ok (.iaload, 1) := by decide +kernel
theorem dX7_matrix_43 : decode cX7_matrix 43 = .ok (.i2l, 1) := by decide +kernel
theorem dX7_matrix_44 : decode cX7_matrix 44 = .ok (.lstore 4, 2) := by decide +kernel
theorem dX7_matrix_46 : decode cX7_matrix 46 = .ok (.iload_n 2, 1) := by decide +kernel
theorem dX7_matrix_47 : decode cX7_matrix 47 = .ok (.iload_n 3, 1) := by decide +kernel
theorem dX7_matrix_48 : decode cX7_matrix 48 = .ok (.if_icmp .eq 18, 3) := by decide +kernel
theorem dX7_matrix_51 : decode cX7_matrix 51 = .ok (.lload 4, 2) := by decide +kernel
theorem dX7_matrix_53 : decode cX7_matrix 53 = .ok (.ldc2_w 169, 3) := by decide +kernel
theorem dX7_matrix_56 : decode cX7_matrix 56 = .ok (.lrem, 1) := by decide +kernel
theorem dX7_matrix_57 : decode cX7_matrix 57 = .ok (.lconst 0, 1) := by decide +kernel
theorem dX7_matrix_58 : decode cX7_matrix 58 = .ok (.lcmp, 1) := by decide +kernel
theorem dX7_matrix_59 : decode cX7_matrix 59 = .ok (.ifCond .eq 7, 3) := by decide +kernel
theorem dX7_matrix_62 : decode cX7_matrix 62 = .ok (.iconst 1, 1) := by decide +kernel
theorem dX7_matrix_63 : decode cX7_matrix 63 = .ok (.goto 4, 3) := by decide +kernel
theorem dX7_matrix_66 : decode cX7_matrix 66 = .ok (.iconst 0, 1) := by decide +kernel
theorem dX7_matrix_67 : decode cX7_matrix 67 = .ok (.istore 6, 2) := by decide +kernel
theorem dX7_matrix_69 : decode cX7_matrix 69 = .ok (.aload_n 0, 1) := by decide +kernel
theorem dX7_matrix_70 : decode cX7_matrix 70 = .ok (.getfield 20, 3) := by decide +kernel
theorem dX7_matrix_73 : decode cX7_matrix 73 = .ok (.iconst 5, 1) := by decide +kernel
theorem dX7_matrix_74 : decode cX7_matrix 74 = .ok (.iload_n 2, 1) := by decide +kernel
theorem dX7_matrix_75 : decode cX7_matrix 75 = .ok (.imul, 1) := by decide +kernel
theorem dX7_matrix_76 : decode cX7_matrix 76 = .ok (.iload_n 3, 1) := by decide +kernel
theorem dX7_matrix_77 : decode cX7_matrix 77 = .ok (.iadd, 1) := by decide +kernel
theorem dX7_matrix_78 : decode cX7_matrix 78 = .ok (.iload_n 2, 1) := by decide +kernel
theorem dX7_matrix_79 : decode cX7_matrix 79 = .ok (.iload_n 3, 1) := by decide +kernel
theorem dX7_matrix_80 : decode cX7_matrix 80 = .ok (.if_icmp .eq 8, 3) := by decide +kernel
theorem dX7_matrix_83 : decode cX7_matrix 83 = .ok (.iload 6, 2) := by decide +kernel
theorem dX7_matrix_85 : decode cX7_matrix 85 = .ok (.ifCond .eq 8, 3) := by decide +kernel
theorem dX7_matrix_88 : decode cX7_matrix 88 = .ok (.lload 4, 2) := by decide +kernel
theorem dX7_matrix_90 : decode cX7_matrix 90 = .ok (.goto 9, 3) := by decide +kernel
theorem dX7_matrix_93 : decode cX7_matrix 93 = .ok (.lload 4, 2) := by decide +kernel
theorem dX7_matrix_95 : decode cX7_matrix 95 = .ok (.ldc2_w 169, 3) := by decide +kernel
theorem dX7_matrix_98 : decode cX7_matrix 98 = .ok (.ldiv, 1) := by decide +kernel
theorem dX7_matrix_99 : decode cX7_matrix 99 = .ok (.lastore, 1) := by decide +kernel
theorem dX7_matrix_100 : decode cX7_matrix 100 = .ok (.aload_n 0, 1) := by decide +kernel
theorem dX7_matrix_101 : decode cX7_matrix 101 = .ok (.getfield 24, 3) := by decide +kernel
theorem dX7_matrix_104 : decode cX7_matrix 104 = .ok (.iconst 5, 1) := by decide +kernel
theorem dX7_matrix_105 : decode cX7_matrix 105 = .ok (.iload_n 2, 1) := by decide +kernel
theorem dX7_matrix_106 : decode cX7_matrix 106 = .ok (.imul, 1) := by decide +kernel
theorem dX7_matrix_107 : decode cX7_matrix 107 = .ok (.iload_n 3, 1) := by decide +kernel
theorem dX7_matrix_108 : decode cX7_matrix 108 = .ok (.iadd, 1) := by decide +kernel
theorem dX7_matrix_109 : decode cX7_matrix 109 = .ok (.iload 6, 2) := by decide +kernel
theorem dX7_matrix_111 : decode cX7_matrix 111 = .ok (.ifCond .eq 9, 3) := by decide +kernel
theorem dX7_matrix_114 : decode cX7_matrix 114 = .ok (.ldc2_w 169, 3) := by decide +kernel
theorem dX7_matrix_117 : decode cX7_matrix 117 = .ok (.goto 4, 3) := by decide +kernel
theorem dX7_matrix_120 : decode cX7_matrix 120 = .ok (.lconst 1, 1) := by decide +kernel
theorem dX7_matrix_121 : decode cX7_matrix 121 = .ok (.lastore, 1) := by decide +kernel
theorem dX7_matrix_122 : decode cX7_matrix 122 = .ok (.iinc 3 1, 3) := by decide +kernel
theorem dX7_matrix_125 : decode cX7_matrix 125 = .ok (.goto (-106), 3) := by decide +kernel
theorem dX7_matrix_128 : decode cX7_matrix 128 = .ok (.iinc 2 1, 3) := by decide +kernel
theorem dX7_matrix_131 : decode cX7_matrix 131 = .ok (.goto (-129), 3) := by decide +kernel
theorem dX7_matrix_134 : decode cX7_matrix 134 = .ok (.return_, 1) := by decide +kernel
theorem dX7_keepMatrix_0 : decode cX7_keepMatrix 0 = .ok (.iconst 0, 1) := by decide +kernel
theorem dX7_keepMatrix_1 : decode cX7_keepMatrix 1 = .ok (.istore_n 1, 1) := by decide +kernel
theorem dX7_keepMatrix_2 : decode cX7_keepMatrix 2 = .ok (.iload_n 1, 1) := by decide +kernel
theorem dX7_keepMatrix_3 : decode cX7_keepMatrix 3 = .ok (.bipush 25, 2) := by decide +kernel
theorem dX7_keepMatrix_5 : decode cX7_keepMatrix 5 = .ok (.if_icmp .ge 33, 3) := by decide +kernel
theorem dX7_keepMatrix_8 : decode cX7_keepMatrix 8 = .ok (.aload_n 0, 1) := by decide +kernel
theorem dX7_keepMatrix_9 : decode cX7_keepMatrix 9 = .ok (.getfield 27, 3) := by decide +kernel
theorem dX7_keepMatrix_12 : decode cX7_keepMatrix 12 = .ok (.iload_n 1, 1) := by decide +kernel
theorem dX7_keepMatrix_13 : decode cX7_keepMatrix 13 = .ok (.aload_n 0, 1) := by decide +kernel
theorem dX7_keepMatrix_14 : decode cX7_keepMatrix 14 = .ok (.getfield 20, 3) := by decide +kernel
theorem dX7_keepMatrix_17 : decode cX7_keepMatrix 17 = .ok (.iload_n 1, 1) := by decide +kernel
theorem dX7_keepMatrix_18 : decode cX7_keepMatrix 18 = .ok (.laload, 1) := by decide +kernel
theorem dX7_keepMatrix_19 : decode cX7_keepMatrix 19 = .ok (.lastore, 1) := by decide +kernel
theorem dX7_keepMatrix_20 : decode cX7_keepMatrix 20 = .ok (.aload_n 0, 1) := by decide +kernel
theorem dX7_keepMatrix_21 : decode cX7_keepMatrix 21 = .ok (.getfield 30, 3) := by decide +kernel
theorem dX7_keepMatrix_24 : decode cX7_keepMatrix 24 = .ok (.iload_n 1, 1) := by decide +kernel
theorem dX7_keepMatrix_25 : decode cX7_keepMatrix 25 = .ok (.aload_n 0, 1) := by decide +kernel
theorem dX7_keepMatrix_26 : decode cX7_keepMatrix 26 = .ok (.getfield 24, 3) := by decide +kernel
theorem dX7_keepMatrix_29 : decode cX7_keepMatrix 29 = .ok (.iload_n 1, 1) := by decide +kernel
theorem dX7_keepMatrix_30 : decode cX7_keepMatrix 30 = .ok (.laload, 1) := by decide +kernel
theorem dX7_keepMatrix_31 : decode cX7_keepMatrix 31 = .ok (.lastore, 1) := by decide +kernel
theorem dX7_keepMatrix_32 : decode cX7_keepMatrix 32 = .ok (.iinc 1 1, 3) := by decide +kernel
theorem dX7_keepMatrix_35 : decode cX7_keepMatrix 35 = .ok (.goto (-33), 3) := by decide +kernel
theorem dX7_keepMatrix_38 : decode cX7_keepMatrix 38 = .ok (.return_, 1) := by decide +kernel
theorem dX7_into_0 : decode cX7_into 0 = .ok (.aload_n 0, 1) := by decide +kernel
theorem dX7_into_1 : decode cX7_into 1 = .ok (.getfield 20, 3) := by decide +kernel
theorem dX7_into_4 : decode cX7_into 4 = .ok (.iconst 5, 1) := by decide +kernel
theorem dX7_into_5 : decode cX7_into 5 = .ok (.iload_n 1, 1) := by decide +kernel
theorem dX7_into_6 : decode cX7_into 6 = .ok (.imul, 1) := by decide +kernel
theorem dX7_into_7 : decode cX7_into 7 = .ok (.iload_n 2, 1) := by decide +kernel
theorem dX7_into_8 : decode cX7_into 8 = .ok (.iadd, 1) := by decide +kernel
theorem dX7_into_9 : decode cX7_into 9 = .ok (.aload_n 0, 1) := by decide +kernel
theorem dX7_into_10 : decode cX7_into 10 = .ok (.getfield 147, 3) := by decide +kernel
theorem dX7_into_13 : decode cX7_into 13 = .ok (.lastore, 1) := by decide +kernel
theorem dX7_into_14 : decode cX7_into 14 = .ok (.aload_n 0, 1) := by decide +kernel
theorem dX7_into_15 : decode cX7_into 15 = .ok (.getfield 24, 3) := by decide +kernel
theorem dX7_into_18 : decode cX7_into 18 = .ok (.iconst 5, 1) := by decide +kernel
theorem dX7_into_19 : decode cX7_into 19 = .ok (.iload_n 1, 1) := by decide +kernel
theorem dX7_into_20 : decode cX7_into 20 = .ok (.imul, 1) := by decide +kernel
theorem dX7_into_21 : decode cX7_into 21 = .ok (.iload_n 2, 1) := by decide +kernel
theorem dX7_into_22 : decode cX7_into 22 = .ok (.iadd, 1) := by decide +kernel
theorem dX7_into_23 : decode cX7_into 23 = .ok (.aload_n 0, 1) := by decide +kernel
theorem dX7_into_24 : decode cX7_into 24 = .ok (.getfield 151, 3) := by decide +kernel
theorem dX7_into_27 : decode cX7_into 27 = .ok (.lastore, 1) := by decide +kernel
theorem dX7_into_28 : decode cX7_into 28 = .ok (.aload_n 0, 1) := by decide +kernel
theorem dX7_into_29 : decode cX7_into 29 = .ok (.getfield 20, 3) := by decide +kernel
theorem dX7_into_32 : decode cX7_into 32 = .ok (.iconst 5, 1) := by decide +kernel
theorem dX7_into_33 : decode cX7_into 33 = .ok (.iload_n 2, 1) := by decide +kernel
theorem dX7_into_34 : decode cX7_into 34 = .ok (.imul, 1) := by decide +kernel
theorem dX7_into_35 : decode cX7_into 35 = .ok (.iload_n 1, 1) := by decide +kernel
theorem dX7_into_36 : decode cX7_into 36 = .ok (.iadd, 1) := by decide +kernel
theorem dX7_into_37 : decode cX7_into 37 = .ok (.aload_n 0, 1) := by decide +kernel
theorem dX7_into_38 : decode cX7_into 38 = .ok (.getfield 147, 3) := by decide +kernel
theorem dX7_into_41 : decode cX7_into 41 = .ok (.lastore, 1) := by decide +kernel
theorem dX7_into_42 : decode cX7_into 42 = .ok (.aload_n 0, 1) := by decide +kernel
theorem dX7_into_43 : decode cX7_into 43 = .ok (.getfield 24, 3) := by decide +kernel
theorem dX7_into_46 : decode cX7_into 46 = .ok (.iconst 5, 1) := by decide +kernel
theorem dX7_into_47 : decode cX7_into 47 = .ok (.iload_n 2, 1) := by decide +kernel
theorem dX7_into_48 : decode cX7_into 48 = .ok (.imul, 1) := by decide +kernel
theorem dX7_into_49 : decode cX7_into 49 = .ok (.iload_n 1, 1) := by decide +kernel
theorem dX7_into_50 : decode cX7_into 50 = .ok (.iadd, 1) := by decide +kernel
theorem dX7_into_51 : decode cX7_into 51 = .ok (.aload_n 0, 1) := by decide +kernel
theorem dX7_into_52 : decode cX7_into 52 = .ok (.getfield 151, 3) := by decide +kernel
theorem dX7_into_55 : decode cX7_into 55 = .ok (.lastore, 1) := by decide +kernel
theorem dX7_into_56 : decode cX7_into 56 = .ok (.return_, 1) := by decide +kernel
theorem dX7_divide_0 : decode cX7_divide 0 = .ok (.aload_n 0, 1) := by decide +kernel
theorem dX7_divide_1 : decode cX7_divide 1 = .ok (.getfield 109, 3) := by decide +kernel
theorem dX7_divide_4 : decode cX7_divide 4 = .ok (.istore_n 2, 1) := by decide +kernel
theorem dX7_divide_5 : decode cX7_divide 5 = .ok (.aload_n 0, 1) := by decide +kernel
theorem dX7_divide_6 : decode cX7_divide 6 = .ok (.getfield 37, 3) := by decide +kernel
theorem dX7_divide_9 : decode cX7_divide 9 = .ok (.iload_n 2, 1) := by decide +kernel
theorem dX7_divide_10 : decode cX7_divide 10 = .ok (.iload_n 1, 1) := by decide +kernel
theorem dX7_divide_11 : decode cX7_divide 11 = .ok (.iastore, 1) := by decide +kernel
theorem dX7_divide_12 : decode cX7_divide 12 = .ok (.aload_n 0, 1) := by decide +kernel
theorem dX7_divide_13 : decode cX7_divide 13 = .ok (.getfield 40, 3) := by decide +kernel
theorem dX7_divide_16 : decode cX7_divide 16 = .ok (.iload_n 2, 1) := by decide +kernel
theorem dX7_divide_17 : decode cX7_divide 17 = .ok (.aload_n 0, 1) := by decide +kernel
theorem dX7_divide_18 : decode cX7_divide 18 = .ok (.getfield 20, 3) := by decide +kernel
theorem dX7_divide_21 : decode cX7_divide 21 = .ok (.bipush 6, 2) := by decide +kernel
theorem dX7_divide_23 : decode cX7_divide 23 = .ok (.iload_n 1, 1) := by decide +kernel
theorem dX7_divide_24 : decode cX7_divide 24 = .ok (.imul, 1) := by decide +kernel
theorem dX7_divide_25 : decode cX7_divide 25 = .ok (.laload, 1) := by decide +kernel
theorem dX7_divide_26 : decode cX7_divide 26 = .ok (.lastore, 1) := by decide +kernel
theorem dX7_divide_27 : decode cX7_divide 27 = .ok (.aload_n 0, 1) := by decide +kernel
theorem dX7_divide_28 : decode cX7_divide 28 = .ok (.getfield 43, 3) := by decide +kernel
theorem dX7_divide_31 : decode cX7_divide 31 = .ok (.iload_n 2, 1) := by decide +kernel
theorem dX7_divide_32 : decode cX7_divide 32 = .ok (.aload_n 0, 1) := by decide +kernel
theorem dX7_divide_33 : decode cX7_divide 33 = .ok (.getfield 24, 3) := by decide +kernel
theorem dX7_divide_36 : decode cX7_divide 36 = .ok (.bipush 6, 2) := by decide +kernel
theorem dX7_divide_38 : decode cX7_divide 38 = .ok (.iload_n 1, 1) := by decide +kernel
theorem dX7_divide_39 : decode cX7_divide 39 = .ok (.imul, 1) := by decide +kernel
theorem dX7_divide_40 : decode cX7_divide 40 = .ok (.laload, 1) := by decide +kernel
theorem dX7_divide_41 : decode cX7_divide 41 = .ok (.lastore, 1) := by decide +kernel
theorem dX7_divide_42 : decode cX7_divide 42 = .ok (.aload_n 0, 1) := by decide +kernel
theorem dX7_divide_43 : decode cX7_divide 43 = .ok (.getfield 33, 3) := by decide +kernel
theorem dX7_divide_46 : decode cX7_divide 46 = .ok (.iload_n 1, 1) := by decide +kernel
theorem dX7_divide_47 : decode cX7_divide 47 = .ok (.iconst 0, 1) := by decide +kernel
theorem dX7_divide_48 : decode cX7_divide 48 = .ok (.bastore, 1) := by decide +kernel
theorem dX7_divide_49 : decode cX7_divide 49 = .ok (.aload_n 0, 1) := by decide +kernel
theorem dX7_divide_50 : decode cX7_divide 50 = .ok (.getfield 52, 3) := by decide +kernel
theorem dX7_divide_53 : decode cX7_divide 53 = .ok (.iload_n 2, 1) := by decide +kernel
theorem dX7_divide_54 : decode cX7_divide 54 = .ok (.iconst 0, 1) := by decide +kernel
theorem dX7_divide_55 : decode cX7_divide 55 = .ok (.iastore, 1) := by decide +kernel
theorem dX7_divide_56 : decode cX7_divide 56 = .ok (.iconst 0, 1) := by decide +kernel
theorem dX7_divide_57 : decode cX7_divide 57 = .ok (.istore_n 3, 1) := by decide +kernel
theorem dX7_divide_58 : decode cX7_divide 58 = .ok (.iload_n 3, 1) := by decide +kernel
theorem dX7_divide_59 : decode cX7_divide 59 = .ok (.iconst 5, 1) := by decide +kernel
theorem dX7_divide_60 : decode cX7_divide 60 = .ok (.if_icmp .ge 40, 3) := by decide +kernel
theorem dX7_divide_63 : decode cX7_divide 63 = .ok (.aload_n 0, 1) := by decide +kernel
theorem dX7_divide_64 : decode cX7_divide 64 = .ok (.getfield 46, 3) := by decide +kernel
theorem dX7_divide_67 : decode cX7_divide 67 = .ok (.iconst 5, 1) := by decide +kernel
theorem dX7_divide_68 : decode cX7_divide 68 = .ok (.iload_n 2, 1) := by decide +kernel
theorem dX7_divide_69 : decode cX7_divide 69 = .ok (.imul, 1) := by decide +kernel
theorem dX7_divide_70 : decode cX7_divide 70 = .ok (.iload_n 3, 1) := by decide +kernel
theorem dX7_divide_71 : decode cX7_divide 71 = .ok (.iadd, 1) := by decide +kernel
theorem dX7_divide_72 : decode cX7_divide 72 = .ok (.iload_n 3, 1) := by decide +kernel
theorem dX7_divide_73 : decode cX7_divide 73 = .ok (.iload_n 1, 1) := by decide +kernel
theorem dX7_divide_74 : decode cX7_divide 74 = .ok (.if_icmp .ne 7, 3) := by decide +kernel
theorem dX7_divide_77 : decode cX7_divide 77 = .ok (.lconst 1, 1) := by decide +kernel
theorem dX7_divide_78 : decode cX7_divide 78 = .ok (.goto 4, 3) := by decide +kernel
theorem dX7_divide_81 : decode cX7_divide 81 = .ok (.lconst 0, 1) := by decide +kernel
theorem dX7_divide_82 : decode cX7_divide 82 = .ok (.lastore, 1) := by decide +kernel
theorem dX7_divide_83 : decode cX7_divide 83 = .ok (.aload_n 0, 1) := by decide +kernel
theorem dX7_divide_84 : decode cX7_divide 84 = .ok (.getfield 49, 3) := by decide +kernel
theorem dX7_divide_87 : decode cX7_divide 87 = .ok (.iconst 5, 1) := by decide +kernel
theorem dX7_divide_88 : decode cX7_divide 88 = .ok (.iload_n 2, 1) := by decide +kernel
theorem dX7_divide_89 : decode cX7_divide 89 = .ok (.imul, 1) := by decide +kernel
theorem dX7_divide_90 : decode cX7_divide 90 = .ok (.iload_n 3, 1) := by decide +kernel
theorem dX7_divide_91 : decode cX7_divide 91 = .ok (.iadd, 1) := by decide +kernel
theorem dX7_divide_92 : decode cX7_divide 92 = .ok (.lconst 1, 1) := by decide +kernel
theorem dX7_divide_93 : decode cX7_divide 93 = .ok (.lastore, 1) := by decide +kernel
theorem dX7_divide_94 : decode cX7_divide 94 = .ok (.iinc 3 1, 3) := by decide +kernel
theorem dX7_divide_97 : decode cX7_divide 97 = .ok (.goto (-39), 3) := by decide +kernel
theorem dX7_divide_100 : decode cX7_divide 100 = .ok (.iconst 0, 1) := by decide +kernel
theorem dX7_divide_101 : decode cX7_divide 101 = .ok (.istore_n 3, 1) := by decide +kernel
theorem dX7_divide_102 : decode cX7_divide 102 = .ok (.iload_n 3, 1) := by decide +kernel
theorem dX7_divide_103 : decode cX7_divide 103 = .ok (.aload_n 0, 1) := by decide +kernel
theorem dX7_divide_104 : decode cX7_divide 104 = .ok (.getfield 7, 3) := by decide +kernel
theorem dX7_divide_107 : decode cX7_divide 107 = .ok (.if_icmp .gt 114, 3) := by decide +kernel
theorem dX7_divide_110 : decode cX7_divide 110 = .ok (.aload_n 0, 1) := by decide +kernel
theorem dX7_divide_111 : decode cX7_divide 111 = .ok (.invokevirtual 154, 3) := by decide +kernel
theorem dX7_divide_114 : decode cX7_divide 114 = .ok (.ifCond .ne 107, 3) := by decide +kernel
theorem dX7_divide_117 : decode cX7_divide 117 = .ok (.aload_n 0, 1) := by decide +kernel
theorem dX7_divide_118 : decode cX7_divide 118 = .ok (.iload_n 3, 1) := by decide +kernel
theorem dX7_divide_119 : decode cX7_divide 119 = .ok (.invokevirtual 171, 3) := by decide +kernel
theorem dX7_divide_122 : decode cX7_divide 122 = .ok (.istore 4, 2) := by decide +kernel
theorem dX7_divide_124 : decode cX7_divide 124 = .ok (.aload_n 0, 1) := by decide +kernel
theorem dX7_divide_125 : decode cX7_divide 125 = .ok (.getfield 33, 3) := by decide +kernel
theorem dX7_divide_128 : decode cX7_divide 128 = .ok (.iload 4, 2) := by decide +kernel
theorem dX7_divide_130 : decode cX7_divide 130 = .ok (.baload, 1) := by decide +kernel
theorem dX7_divide_131 : decode cX7_divide 131 = .ok (.ifCond .eq 84, 3) := by decide +kernel
theorem dX7_divide_134 : decode cX7_divide 134 = .ok (.aload_n 0, 1) := by decide +kernel
theorem dX7_divide_135 : decode cX7_divide 135 = .ok (.getfield 52, 3) := by decide +kernel
theorem dX7_divide_138 : decode cX7_divide 138 = .ok (.iload_n 2, 1) := by decide +kernel
theorem dX7_divide_139 : decode cX7_divide 139 = .ok (.dup2, 1) := by decide +kernel
theorem dX7_divide_140 : decode cX7_divide 140 = .ok (.iaload, 1) := by decide +kernel
theorem dX7_divide_141 : decode cX7_divide 141 = .ok (.iconst 1, 1) := by decide +kernel
theorem dX7_divide_142 : decode cX7_divide 142 = .ok (.iload 4, 2) := by decide +kernel
theorem dX7_divide_144 : decode cX7_divide 144 = .ok (.ishl, 1) := by decide +kernel
theorem dX7_divide_145 : decode cX7_divide 145 = .ok (.ior, 1) := by decide +kernel
theorem dX7_divide_146 : decode cX7_divide 146 = .ok (.iastore, 1) := by decide +kernel
theorem dX7_divide_147 : decode cX7_divide 147 = .ok (.aload_n 0, 1) := by decide +kernel
theorem dX7_divide_148 : decode cX7_divide 148 = .ok (.aload_n 0, 1) := by decide +kernel
theorem dX7_divide_149 : decode cX7_divide 149 = .ok (.getfield 20, 3) := by decide +kernel
theorem dX7_divide_152 : decode cX7_divide 152 = .ok (.iconst 5, 1) := by decide +kernel
theorem dX7_divide_153 : decode cX7_divide 153 = .ok (.iload_n 1, 1) := by decide +kernel
theorem dX7_divide_154 : decode cX7_divide 154 = .ok (.imul, 1) := by decide +kernel
theorem dX7_divide_155 : decode cX7_divide 155 = .ok (.iload 4, 2) := by decide +kernel
theorem dX7_divide_157 : decode cX7_divide 157 = .ok (.iadd, 1) := by decide +kernel
theorem dX7_divide_158 : decode cX7_divide 158 = .ok (.laload, 1) := by decide +kernel
theorem dX7_divide_159 : decode cX7_divide 159 = .ok (.aload_n 0, 1) := by decide +kernel
theorem dX7_divide_160 : decode cX7_divide 160 = .ok (.getfield 24, 3) := by decide +kernel
theorem dX7_divide_163 : decode cX7_divide 163 = .ok (.iconst 5, 1) := by decide +kernel
theorem dX7_divide_164 : decode cX7_divide 164 = .ok (.iload_n 1, 1) := by decide +kernel
theorem dX7_divide_165 : decode cX7_divide 165 = .ok (.imul, 1) := by decide +kernel
theorem dX7_divide_166 : decode cX7_divide 166 = .ok (.iload 4, 2) := by decide +kernel
theorem dX7_divide_168 : decode cX7_divide 168 = .ok (.iadd, 1) := by decide +kernel
theorem dX7_divide_169 : decode cX7_divide 169 = .ok (.laload, 1) := by decide +kernel
theorem dX7_divide_170 : decode cX7_divide 170 = .ok (.aload_n 0, 1) := by decide +kernel
theorem dX7_divide_171 : decode cX7_divide 171 = .ok (.getfield 40, 3) := by decide +kernel
theorem dX7_divide_174 : decode cX7_divide 174 = .ok (.iload_n 2, 1) := by decide +kernel
theorem dX7_divide_175 : decode cX7_divide 175 = .ok (.laload, 1) := by decide +kernel
theorem dX7_divide_176 : decode cX7_divide 176 = .ok (.aload_n 0, 1) := by decide +kernel
theorem dX7_divide_177 : decode cX7_divide 177 = .ok (.getfield 43, 3) := by decide +kernel
theorem dX7_divide_180 : decode cX7_divide 180 = .ok (.iload_n 2, 1) := by decide +kernel
theorem dX7_divide_181 : decode cX7_divide 181 = .ok (.laload, 1) := by decide +kernel
theorem dX7_divide_182 : decode cX7_divide 182 = .ok (.invokevirtual 175, 3) := by decide +kernel
theorem dX7_divide_185 : decode cX7_divide 185 = .ok (.aload_n 0, 1) := by decide +kernel
theorem dX7_divide_186 : decode cX7_divide 186 = .ok (.getfield 46, 3) := by decide +kernel
theorem dX7_divide_189 : decode cX7_divide 189 = .ok (.iconst 5, 1) := by decide +kernel
theorem dX7_divide_190 : decode cX7_divide 190 = .ok (.iload_n 2, 1) := by decide +kernel
theorem dX7_divide_191 : decode cX7_divide 191 = .ok (.imul, 1) := by decide +kernel
theorem dX7_divide_192 : decode cX7_divide 192 = .ok (.iload 4, 2) := by decide +kernel
theorem dX7_divide_194 : decode cX7_divide 194 = .ok (.iadd, 1) := by decide +kernel
theorem dX7_divide_195 : decode cX7_divide 195 = .ok (.aload_n 0, 1) := by decide +kernel
theorem dX7_divide_196 : decode cX7_divide 196 = .ok (.getfield 147, 3) := by decide +kernel
theorem dX7_divide_199 : decode cX7_divide 199 = .ok (.lastore, 1) := by decide +kernel
theorem dX7_divide_200 : decode cX7_divide 200 = .ok (.aload_n 0, 1) := by decide +kernel
theorem dX7_divide_201 : decode cX7_divide 201 = .ok (.getfield 49, 3) := by decide +kernel
theorem dX7_divide_204 : decode cX7_divide 204 = .ok (.iconst 5, 1) := by decide +kernel
theorem dX7_divide_205 : decode cX7_divide 205 = .ok (.iload_n 2, 1) := by decide +kernel
theorem dX7_divide_206 : decode cX7_divide 206 = .ok (.imul, 1) := by decide +kernel
theorem dX7_divide_207 : decode cX7_divide 207 = .ok (.iload 4, 2) := by decide +kernel
theorem dX7_divide_209 : decode cX7_divide 209 = .ok (.iadd, 1) := by decide +kernel
theorem dX7_divide_210 : decode cX7_divide 210 = .ok (.aload_n 0, 1) := by decide +kernel
theorem dX7_divide_211 : decode cX7_divide 211 = .ok (.getfield 151, 3) := by decide +kernel
theorem dX7_divide_214 : decode cX7_divide 214 = .ok (.lastore, 1) := by decide +kernel
theorem dX7_divide_215 : decode cX7_divide 215 = .ok (.iinc 3 1, 3) := by decide +kernel
theorem dX7_divide_218 : decode cX7_divide 218 = .ok (.goto (-116), 3) := by decide +kernel
theorem dX7_divide_221 : decode cX7_divide 221 = .ok (.iconst 0, 1) := by decide +kernel
theorem dX7_divide_222 : decode cX7_divide 222 = .ok (.istore_n 3, 1) := by decide +kernel
theorem dX7_divide_223 : decode cX7_divide 223 = .ok (.iload_n 3, 1) := by decide +kernel
theorem dX7_divide_224 : decode cX7_divide 224 = .ok (.aload_n 0, 1) := by decide +kernel
theorem dX7_divide_225 : decode cX7_divide 225 = .ok (.getfield 7, 3) := by decide +kernel
theorem dX7_divide_228 : decode cX7_divide 228 = .ok (.if_icmp .gt 168, 3) := by decide +kernel
theorem dX7_divide_231 : decode cX7_divide 231 = .ok (.aload_n 0, 1) := by decide +kernel
theorem dX7_divide_232 : decode cX7_divide 232 = .ok (.invokevirtual 154, 3) := by decide +kernel
theorem dX7_divide_235 : decode cX7_divide 235 = .ok (.ifCond .ne 161, 3) := by decide +kernel
theorem dX7_divide_238 : decode cX7_divide 238 = .ok (.iload_n 3, 1) := by decide +kernel
theorem dX7_divide_239 : decode cX7_divide 239 = .ok (.istore 4, 2) := by decide +kernel
theorem dX7_divide_241 : decode cX7_divide 241 = .ok (.iload 4, 2) := by decide +kernel
theorem dX7_divide_243 : decode cX7_divide 243 = .ok (.aload_n 0, 1) := by decide +kernel
theorem dX7_divide_244 : decode cX7_divide 244 = .ok (.getfield 7, 3) := by decide +kernel
theorem dX7_divide_247 : decode cX7_divide 247 = .ok (.if_icmp .gt 143, 3) := by decide +kernel
theorem dX7_divide_250 : decode cX7_divide 250 = .ok (.aload_n 0, 1) := by decide +kernel
theorem dX7_divide_251 : decode cX7_divide 251 = .ok (.invokevirtual 154, 3) := by decide +kernel
theorem dX7_divide_254 : decode cX7_divide 254 = .ok (.ifCond .ne 136, 3) := by decide +kernel
theorem dX7_divide_257 : decode cX7_divide 257 = .ok (.aload_n 0, 1) := by decide +kernel
theorem dX7_divide_258 : decode cX7_divide 258 = .ok (.iload_n 3, 1) := by decide +kernel
theorem dX7_divide_259 : decode cX7_divide 259 = .ok (.invokevirtual 171, 3) := by decide +kernel
theorem dX7_divide_262 : decode cX7_divide 262 = .ok (.istore 5, 2) := by decide +kernel
theorem dX7_divide_264 : decode cX7_divide 264 = .ok (.aload_n 0, 1) := by decide +kernel
theorem dX7_divide_265 : decode cX7_divide 265 = .ok (.iload 4, 2) := by decide +kernel
theorem dX7_divide_267 : decode cX7_divide 267 = .ok (.invokevirtual 171, 3) := by decide +kernel
theorem dX7_divide_270 : decode cX7_divide 270 = .ok (.istore 6, 2) := by decide +kernel
theorem dX7_divide_272 : decode cX7_divide 272 = .ok (.aload_n 0, 1) := by decide +kernel
theorem dX7_divide_273 : decode cX7_divide 273 = .ok (.getfield 33, 3) := by decide +kernel
theorem dX7_divide_276 : decode cX7_divide 276 = .ok (.iload 5, 2) := by decide +kernel
theorem dX7_divide_278 : decode cX7_divide 278 = .ok (.baload, 1) := by decide +kernel
theorem dX7_divide_279 : decode cX7_divide 279 = .ok (.ifCond .eq 105, 3) := by decide +kernel
theorem dX7_divide_282 : decode cX7_divide 282 = .ok (.aload_n 0, 1) := by decide +kernel
theorem dX7_divide_283 : decode cX7_divide 283 = .ok (.getfield 33, 3) := by decide +kernel
theorem dX7_divide_286 : decode cX7_divide 286 = .ok (.iload 6, 2) := by decide +kernel
theorem dX7_divide_288 : decode cX7_divide 288 = .ok (.baload, 1) := by decide +kernel
theorem dX7_divide_289 : decode cX7_divide 289 = .ok (.ifCond .eq 95, 3) := by decide +kernel
theorem dX7_divide_292 : decode cX7_divide 292 = .ok (.aload_n 0, 1) := by decide +kernel
theorem dX7_divide_293 : decode cX7_divide 293 = .ok (.aload_n 0, 1) := by decide +kernel
theorem dX7_divide_294 : decode cX7_divide 294 = .ok (.getfield 20, 3) := by decide +kernel
theorem dX7_divide_297 : decode cX7_divide 297 = .ok (.iconst 5, 1) := by decide +kernel
theorem dX7_divide_298 : decode cX7_divide 298 = .ok (.iload 5, 2) := by decide +kernel
theorem dX7_divide_300 : decode cX7_divide 300 = .ok (.imul, 1) := by decide +kernel
theorem dX7_divide_301 : decode cX7_divide 301 = .ok (.iload_n 1, 1) := by decide +kernel
theorem dX7_divide_302 : decode cX7_divide 302 = .ok (.iadd, 1) := by decide +kernel
theorem dX7_divide_303 : decode cX7_divide 303 = .ok (.laload, 1) := by decide +kernel
theorem dX7_divide_304 : decode cX7_divide 304 = .ok (.aload_n 0, 1) := by decide +kernel
theorem dX7_divide_305 : decode cX7_divide 305 = .ok (.getfield 24, 3) := by decide +kernel
theorem dX7_divide_308 : decode cX7_divide 308 = .ok (.iconst 5, 1) := by decide +kernel
theorem dX7_divide_309 : decode cX7_divide 309 = .ok (.iload 5, 2) := by decide +kernel
theorem dX7_divide_311 : decode cX7_divide 311 = .ok (.imul, 1) := by decide +kernel
theorem dX7_divide_312 : decode cX7_divide 312 = .ok (.iload_n 1, 1) := by decide +kernel
theorem dX7_divide_313 : decode cX7_divide 313 = .ok (.iadd, 1) := by decide +kernel
theorem dX7_divide_314 : decode cX7_divide 314 = .ok (.laload, 1) := by decide +kernel
theorem dX7_divide_315 : decode cX7_divide 315 = .ok (.aload_n 0, 1) := by decide +kernel
theorem dX7_divide_316 : decode cX7_divide 316 = .ok (.getfield 46, 3) := by decide +kernel
theorem dX7_divide_319 : decode cX7_divide 319 = .ok (.iconst 5, 1) := by decide +kernel
theorem dX7_divide_320 : decode cX7_divide 320 = .ok (.iload_n 2, 1) := by decide +kernel
theorem dX7_divide_321 : decode cX7_divide 321 = .ok (.imul, 1) := by decide +kernel
theorem dX7_divide_322 : decode cX7_divide 322 = .ok (.iload 6, 2) := by decide +kernel
theorem dX7_divide_324 : decode cX7_divide 324 = .ok (.iadd, 1) := by decide +kernel
theorem dX7_divide_325 : decode cX7_divide 325 = .ok (.laload, 1) := by decide +kernel
theorem dX7_divide_326 : decode cX7_divide 326 = .ok (.aload_n 0, 1) := by decide +kernel
theorem dX7_divide_327 : decode cX7_divide 327 = .ok (.getfield 49, 3) := by decide +kernel
theorem dX7_divide_330 : decode cX7_divide 330 = .ok (.iconst 5, 1) := by decide +kernel
theorem dX7_divide_331 : decode cX7_divide 331 = .ok (.iload_n 2, 1) := by decide +kernel
theorem dX7_divide_332 : decode cX7_divide 332 = .ok (.imul, 1) := by decide +kernel
theorem dX7_divide_333 : decode cX7_divide 333 = .ok (.iload 6, 2) := by decide +kernel
theorem dX7_divide_335 : decode cX7_divide 335 = .ok (.iadd, 1) := by decide +kernel
theorem dX7_divide_336 : decode cX7_divide 336 = .ok (.laload, 1) := by decide +kernel
theorem dX7_divide_337 : decode cX7_divide 337 = .ok (.invokevirtual 179, 3) := by decide +kernel
theorem dX7_divide_340 : decode cX7_divide 340 = .ok (.aload_n 0, 1) := by decide +kernel
theorem dX7_divide_341 : decode cX7_divide 341 = .ok (.aload_n 0, 1) := by decide +kernel
theorem dX7_divide_342 : decode cX7_divide 342 = .ok (.getfield 20, 3) := by decide +kernel
theorem dX7_divide_345 : decode cX7_divide 345 = .ok (.iconst 5, 1) := by decide +kernel
theorem dX7_divide_346 : decode cX7_divide 346 = .ok (.iload 5, 2) := by decide +kernel
theorem dX7_divide_348 : decode cX7_divide 348 = .ok (.imul, 1) := by decide +kernel
theorem dX7_divide_349 : decode cX7_divide 349 = .ok (.iload 6, 2) := by decide +kernel
theorem dX7_divide_351 : decode cX7_divide 351 = .ok (.iadd, 1) := by decide +kernel
theorem dX7_divide_352 : decode cX7_divide 352 = .ok (.laload, 1) := by decide +kernel
theorem dX7_divide_353 : decode cX7_divide 353 = .ok (.aload_n 0, 1) := by decide +kernel
theorem dX7_divide_354 : decode cX7_divide 354 = .ok (.getfield 24, 3) := by decide +kernel
theorem dX7_divide_357 : decode cX7_divide 357 = .ok (.iconst 5, 1) := by decide +kernel
theorem dX7_divide_358 : decode cX7_divide 358 = .ok (.iload 5, 2) := by decide +kernel
theorem dX7_divide_360 : decode cX7_divide 360 = .ok (.imul, 1) := by decide +kernel
theorem dX7_divide_361 : decode cX7_divide 361 = .ok (.iload 6, 2) := by decide +kernel
theorem dX7_divide_363 : decode cX7_divide 363 = .ok (.iadd, 1) := by decide +kernel
theorem dX7_divide_364 : decode cX7_divide 364 = .ok (.laload, 1) := by decide +kernel
theorem dX7_divide_365 : decode cX7_divide 365 = .ok (.aload_n 0, 1) := by decide +kernel
theorem dX7_divide_366 : decode cX7_divide 366 = .ok (.getfield 147, 3) := by decide +kernel
theorem dX7_divide_369 : decode cX7_divide 369 = .ok (.aload_n 0, 1) := by decide +kernel
theorem dX7_divide_370 : decode cX7_divide 370 = .ok (.getfield 151, 3) := by decide +kernel
theorem dX7_divide_373 : decode cX7_divide 373 = .ok (.invokevirtual 182, 3) := by decide +kernel
theorem dX7_divide_376 : decode cX7_divide 376 = .ok (.aload_n 0, 1) := by decide +kernel
theorem dX7_divide_377 : decode cX7_divide 377 = .ok (.iload 5, 2) := by decide +kernel
theorem dX7_divide_379 : decode cX7_divide 379 = .ok (.iload 6, 2) := by decide +kernel
theorem dX7_divide_381 : decode cX7_divide 381 = .ok (.invokevirtual 185, 3) := by decide +kernel
theorem dX7_divide_384 : decode cX7_divide 384 = .ok (.iinc 4 1, 3) := by decide +kernel
theorem dX7_divide_387 : decode cX7_divide 387 = .ok (.goto (-146), 3) := by decide +kernel
theorem dX7_divide_390 : decode cX7_divide 390 = .ok (.iinc 3 1, 3) := by decide +kernel
theorem dX7_divide_393 : decode cX7_divide 393 = .ok (.goto (-170), 3) := by decide +kernel
theorem dX7_divide_396 : decode cX7_divide 396 = .ok (.aload_n 0, 1) := by decide +kernel
theorem dX7_divide_397 : decode cX7_divide 397 = .ok (.dup, 1) := by decide +kernel
theorem dX7_divide_398 : decode cX7_divide 398 = .ok (.getfield 109, 3) := by decide +kernel
theorem dX7_divide_401 : decode cX7_divide 401 = .ok (.iconst 1, 1) := by decide +kernel
theorem dX7_divide_402 : decode cX7_divide 402 = .ok (.iadd, 1) := by decide +kernel
theorem dX7_divide_403 : decode cX7_divide 403 = .ok (.putfield 109, 3) := by decide +kernel
theorem dX7_divide_406 : decode cX7_divide 406 = .ok (.return_, 1) := by decide +kernel
theorem dX7_firstDiagonal_0 : decode cX7_firstDiagonal 0 = .ok (.iconst (-1), 1) := by decide +kernel
theorem dX7_firstDiagonal_1 : decode cX7_firstDiagonal 1 = .ok (.istore_n 2, 1) := by decide +kernel
theorem dX7_firstDiagonal_2 : decode cX7_firstDiagonal 2 = .ok (.aload_n 0, 1) := by decide +kernel
theorem dX7_firstDiagonal_3 : decode cX7_firstDiagonal 3 = .ok (.getfield 7, 3) := by decide +kernel
theorem dX7_firstDiagonal_6 : decode cX7_firstDiagonal 6 = .ok (.istore_n 3, 1) := by decide +kernel
theorem dX7_firstDiagonal_7 : decode cX7_firstDiagonal 7 = .ok (.iload_n 3, 1) := by decide +kernel
theorem dX7_firstDiagonal_8 : decode cX7_firstDiagonal 8 = .ok (.ifCond .lt 87, 3) := by decide +kernel
theorem dX7_firstDiagonal_11 : decode cX7_firstDiagonal 11 = .ok (.aload_n 0, 1) := by decide +kernel
theorem dX7_firstDiagonal_12 : decode cX7_firstDiagonal 12 = .ok (.iload_n 3, 1) := by decide +kernel
theorem dX7_firstDiagonal_13 : decode cX7_firstDiagonal 13 = .ok (.invokevirtual 171, 3) := by decide +kernel
theorem dX7_firstDiagonal_16 : decode cX7_firstDiagonal 16 = .ok (.istore 4, 2) := by decide +kernel
theorem dX7_firstDiagonal_18 : decode cX7_firstDiagonal 18 = .ok (.iload_n 1, 1) := by decide +kernel
theorem dX7_firstDiagonal_19 : decode cX7_firstDiagonal 19 = .ok (.ifCond .eq 26, 3) := by decide +kernel
theorem dX7_firstDiagonal_22 : decode cX7_firstDiagonal 22 = .ok (.aload_n 0, 1) := by decide +kernel
theorem dX7_firstDiagonal_23 : decode cX7_firstDiagonal 23 = .ok (.getfield 20, 3) := by decide +kernel
theorem dX7_firstDiagonal_26 : decode cX7_firstDiagonal 26 = .ok (.bipush 6, 2) := by decide +kernel
theorem dX7_firstDiagonal_28 : decode cX7_firstDiagonal 28 = .ok (.iload 4, 2) := by decide +kernel
theorem dX7_firstDiagonal_30 : decode cX7_firstDiagonal 30 = .ok (.imul, 1) := by decide +kernel
theorem dX7_firstDiagonal_31 : decode cX7_firstDiagonal 31 = .ok (.laload, 1) := by decide +kernel
theorem dX7_firstDiagonal_32 : decode cX7_firstDiagonal 32 = .ok (.lconst 0, 1) := by decide +kernel
theorem dX7_firstDiagonal_33 : decode cX7_firstDiagonal 33 = .ok (.lcmp, 1) := by decide +kernel
theorem dX7_firstDiagonal_34 : decode cX7_firstDiagonal 34 = .ok (.ifCond .ge 7, 3) := by decide +kernel
theorem dX7_firstDiagonal_37 : decode cX7_firstDiagonal 37 = .ok (.iconst 1, 1) := by decide +kernel
theorem dX7_firstDiagonal_38 : decode cX7_firstDiagonal 38 = .ok (.goto 27, 3) := by decide +kernel
theorem dX7_firstDiagonal_41 : decode cX7_firstDiagonal 41 = .ok (.iconst 0, 1) := by decide +kernel
theorem dX7_firstDiagonal_42 : decode cX7_firstDiagonal 42 = .ok (.goto 23, 3) := by decide +kernel
theorem dX7_firstDiagonal_45 : decode cX7_firstDiagonal 45 = .ok (.aload_n 0, 1) := by decide +kernel
theorem dX7_firstDiagonal_46 : decode cX7_firstDiagonal 46 = .ok (.getfield 20, 3) := by decide +kernel
theorem dX7_firstDiagonal_49 : decode cX7_firstDiagonal 49 = .ok (.bipush 6, 2) := by decide +kernel
theorem dX7_firstDiagonal_51 : decode cX7_firstDiagonal 51 = .ok (.iload 4, 2) := by decide +kernel
theorem dX7_firstDiagonal_53 : decode cX7_firstDiagonal 53 = .ok (.imul, 1) := by decide +kernel
theorem dX7_firstDiagonal_54 : decode cX7_firstDiagonal 54 = .ok (.laload, 1) := by decide +kernel
theorem dX7_firstDiagonal_55 : decode cX7_firstDiagonal 55 = .ok (.lconst 0, 1) := by decide +kernel
theorem dX7_firstDiagonal_56 : decode cX7_firstDiagonal 56 = .ok (.lcmp, 1) := by decide +kernel
theorem dX7_firstDiagonal_57 : decode cX7_firstDiagonal 57 = .ok (.ifCond .le 7, 3) := by decide +kernel
theorem dX7_firstDiagonal_60 : decode cX7_firstDiagonal 60 = .ok (.iconst 1, 1) := by decide +kernel
theorem dX7_firstDiagonal_61 : decode cX7_firstDiagonal 61 = .ok (.goto 4, 3) := by decide +kernel
theorem dX7_firstDiagonal_64 : decode cX7_firstDiagonal 64 = .ok (.iconst 0, 1) := by decide +kernel
theorem dX7_firstDiagonal_65 : decode cX7_firstDiagonal 65 = .ok (.istore 5, 2) := by decide +kernel
theorem dX7_firstDiagonal_67 : decode cX7_firstDiagonal 67 = .ok (.aload_n 0, 1) := by decide +kernel
theorem dX7_firstDiagonal_68 : decode cX7_firstDiagonal 68 = .ok (.getfield 33, 3) := by decide +kernel
theorem dX7_firstDiagonal_71 : decode cX7_firstDiagonal 71 = .ok (.iload 4, 2) := by decide +kernel
theorem dX7_firstDiagonal_73 : decode cX7_firstDiagonal 73 = .ok (.baload, 1) := by decide +kernel
theorem dX7_firstDiagonal_74 : decode cX7_firstDiagonal 74 = .ok (.ifCond .eq 13, 3) := by decide +kernel
theorem dX7_firstDiagonal_77 : decode cX7_firstDiagonal 77 = .ok (.iload 5, 2) := by decide +kernel
theorem dX7_firstDiagonal_79 : decode cX7_firstDiagonal 79 = .ok (.ifCond .eq 8, 3) := by decide +kernel
theorem dX7_firstDiagonal_82 : decode cX7_firstDiagonal 82 = .ok (.iload 4, 2) := by decide +kernel
theorem dX7_firstDiagonal_84 : decode cX7_firstDiagonal 84 = .ok (.goto 4, 3) := by decide +kernel
theorem dX7_firstDiagonal_87 : decode cX7_firstDiagonal 87 = .ok (.iload_n 2, 1) := by decide +kernel
theorem dX7_firstDiagonal_88 : decode cX7_firstDiagonal 88 = .ok (.istore_n 2, 1) := by decide +kernel
theorem dX7_firstDiagonal_89 : decode cX7_firstDiagonal 89 = .ok (.iinc 3 (-1), 3) := by decide +kernel
theorem dX7_firstDiagonal_92 : decode cX7_firstDiagonal 92 = .ok (.goto (-85), 3) := by decide +kernel
theorem dX7_firstDiagonal_95 : decode cX7_firstDiagonal 95 = .ok (.iload_n 2, 1) := by decide +kernel
theorem dX7_firstDiagonal_96 : decode cX7_firstDiagonal 96 = .ok (.ireturn, 1) := by decide +kernel
theorem dX7_findPair_0 : decode cX7_findPair 0 = .ok (.aload_n 0, 1) := by decide +kernel
theorem dX7_findPair_1 : decode cX7_findPair 1 = .ok (.iconst (-1), 1) := by decide +kernel
theorem dX7_findPair_2 : decode cX7_findPair 2 = .ok (.putfield 189, 3) := by decide +kernel
theorem dX7_findPair_5 : decode cX7_findPair 5 = .ok (.iconst 0, 1) := by decide +kernel
theorem dX7_findPair_6 : decode cX7_findPair 6 = .ok (.istore_n 1, 1) := by decide +kernel
theorem dX7_findPair_7 : decode cX7_findPair 7 = .ok (.iload_n 1, 1) := by decide +kernel
theorem dX7_findPair_8 : decode cX7_findPair 8 = .ok (.aload_n 0, 1) := by decide +kernel
theorem dX7_findPair_9 : decode cX7_findPair 9 = .ok (.getfield 7, 3) := by decide +kernel
theorem dX7_findPair_12 : decode cX7_findPair 12 = .ok (.if_icmp .gt 100, 3) := by decide +kernel
theorem dX7_findPair_15 : decode cX7_findPair 15 = .ok (.aload_n 0, 1) := by decide +kernel
theorem dX7_findPair_16 : decode cX7_findPair 16 = .ok (.getfield 189, 3) := by decide +kernel
theorem dX7_findPair_19 : decode cX7_findPair 19 = .ok (.ifCond .ge 93, 3) := by decide +kernel
theorem dX7_findPair_22 : decode cX7_findPair 22 = .ok (.iload_n 1, 1) := by decide +kernel
theorem dX7_findPair_23 : decode cX7_findPair 23 = .ok (.iconst 1, 1) := by decide +kernel
theorem dX7_findPair_24 : decode cX7_findPair 24 = .ok (.iadd, 1) := by decide +kernel
theorem dX7_findPair_25 : decode cX7_findPair 25 = .ok (.istore_n 2, 1) := by decide +kernel
theorem dX7_findPair_26 : decode cX7_findPair 26 = .ok (.iload_n 2, 1) := by decide +kernel
theorem dX7_findPair_27 : decode cX7_findPair 27 = .ok (.aload_n 0, 1) := by decide +kernel
theorem dX7_findPair_28 : decode cX7_findPair 28 = .ok (.getfield 7, 3) := by decide +kernel
theorem dX7_findPair_31 : decode cX7_findPair 31 = .ok (.if_icmp .gt 75, 3) := by decide +kernel
theorem dX7_findPair_34 : decode cX7_findPair 34 = .ok (.aload_n 0, 1) := by decide +kernel
theorem dX7_findPair_35 : decode cX7_findPair 35 = .ok (.getfield 189, 3) := by decide +kernel
theorem dX7_findPair_38 : decode cX7_findPair 38 = .ok (.ifCond .ge 68, 3) := by decide +kernel
theorem dX7_findPair_41 : decode cX7_findPair 41 = .ok (.aload_n 0, 1) := by decide +kernel
theorem dX7_findPair_42 : decode cX7_findPair 42 = .ok (.iload_n 1, 1) := by decide +kernel
theorem dX7_findPair_43 : decode cX7_findPair 43 = .ok (.invokevirtual 171, 3) := by decide +kernel
theorem dX7_findPair_46 : decode cX7_findPair 46 = .ok (.istore_n 3, 1) := by decide +kernel
theorem dX7_findPair_47 : decode cX7_findPair 47 = .ok (.aload_n 0, 1) := by decide +kernel
theorem dX7_findPair_48 : decode cX7_findPair 48 = .ok (.iload_n 2, 1) := by decide +kernel
theorem dX7_findPair_49 : decode cX7_findPair 49 = .ok (.invokevirtual 171, 3) := by decide +kernel
theorem dX7_findPair_52 : decode cX7_findPair 52 = .ok (.istore 4, 2) := by decide +kernel
theorem dX7_findPair_54 : decode cX7_findPair 54 = .ok (.aload_n 0, 1) := by decide +kernel
theorem dX7_findPair_55 : decode cX7_findPair 55 = .ok (.getfield 33, 3) := by decide +kernel
theorem dX7_findPair_58 : decode cX7_findPair 58 = .ok (.iload_n 3, 1) := by decide +kernel
theorem dX7_findPair_59 : decode cX7_findPair 59 = .ok (.baload, 1) := by decide +kernel
theorem dX7_findPair_60 : decode cX7_findPair 60 = .ok (.ifCond .eq 40, 3) := by decide +kernel
theorem dX7_findPair_63 : decode cX7_findPair 63 = .ok (.aload_n 0, 1) := by decide +kernel
theorem dX7_findPair_64 : decode cX7_findPair 64 = .ok (.getfield 33, 3) := by decide +kernel
theorem dX7_findPair_67 : decode cX7_findPair 67 = .ok (.iload 4, 2) := by decide +kernel
theorem dX7_findPair_69 : decode cX7_findPair 69 = .ok (.baload, 1) := by decide +kernel
theorem dX7_findPair_70 : decode cX7_findPair 70 = .ok (.ifCond .eq 30, 3) := by decide +kernel
theorem dX7_findPair_73 : decode cX7_findPair 73 = .ok (.aload_n 0, 1) := by decide +kernel
theorem dX7_findPair_74 : decode cX7_findPair 74 = .ok (.getfield 20, 3) := by decide +kernel
theorem dX7_findPair_77 : decode cX7_findPair 77 = .ok (.iconst 5, 1) := by decide +kernel
theorem dX7_findPair_78 : decode cX7_findPair 78 = .ok (.iload_n 3, 1) := by decide +kernel
theorem dX7_findPair_79 : decode cX7_findPair 79 = .ok (.imul, 1) := by decide +kernel
theorem dX7_findPair_80 : decode cX7_findPair 80 = .ok (.iload 4, 2) := by decide +kernel
theorem dX7_findPair_82 : decode cX7_findPair 82 = .ok (.iadd, 1) := by decide +kernel
theorem dX7_findPair_83 : decode cX7_findPair 83 = .ok (.laload, 1) := by decide +kernel
theorem dX7_findPair_84 : decode cX7_findPair 84 = .ok (.lconst 0, 1) := by decide +kernel
theorem dX7_findPair_85 : decode cX7_findPair 85 = .ok (.lcmp, 1) := by decide +kernel
theorem dX7_findPair_86 : decode cX7_findPair 86 = .ok (.ifCond .eq 14, 3) := by decide +kernel
theorem dX7_findPair_89 : decode cX7_findPair 89 = .ok (.aload_n 0, 1) := by decide +kernel
theorem dX7_findPair_90 : decode cX7_findPair 90 = .ok (.iload_n 3, 1) := by decide +kernel
theorem dX7_findPair_91 : decode cX7_findPair 91 = .ok (.putfield 189, 3) := by decide +kernel
theorem dX7_findPair_94 : decode cX7_findPair 94 = .ok (.aload_n 0, 1) := by decide +kernel
theorem dX7_findPair_95 : decode cX7_findPair 95 = .ok (.iload 4, 2) := by decide +kernel
theorem dX7_findPair_97 : decode cX7_findPair 97 = .ok (.putfield 192, 3) := by decide +kernel
theorem dX7_findPair_100 : decode cX7_findPair 100 = .ok (.iinc 2 1, 3) := by decide +kernel
theorem dX7_findPair_103 : decode cX7_findPair 103 = .ok (.goto (-77), 3) := by decide +kernel
theorem dX7_findPair_106 : decode cX7_findPair 106 = .ok (.iinc 1 1, 3) := by decide +kernel
theorem dX7_findPair_109 : decode cX7_findPair 109 = .ok (.goto (-102), 3) := by decide +kernel
theorem dX7_findPair_112 : decode cX7_findPair 112 = .ok (.aload_n 0, 1) := by decide +kernel
theorem dX7_findPair_113 : decode cX7_findPair 113 = .ok (.getfield 189, 3) := by decide +kernel
theorem dX7_findPair_116 : decode cX7_findPair 116 = .ok (.ifCond .lt 7, 3) := by decide +kernel
theorem dX7_findPair_119 : decode cX7_findPair 119 = .ok (.iconst 1, 1) := by decide +kernel
theorem dX7_findPair_120 : decode cX7_findPair 120 = .ok (.goto 4, 3) := by decide +kernel
theorem dX7_findPair_123 : decode cX7_findPair 123 = .ok (.iconst 0, 1) := by decide +kernel
theorem dX7_findPair_124 : decode cX7_findPair 124 = .ok (.ireturn, 1) := by decide +kernel
theorem dX7_eliminate_0 : decode cX7_eliminate 0 = .ok (.aload_n 0, 1) := by decide +kernel
theorem dX7_eliminate_1 : decode cX7_eliminate 1 = .ok (.iconst 0, 1) := by decide +kernel
theorem dX7_eliminate_2 : decode cX7_eliminate 2 = .ok (.putfield 109, 3) := by decide +kernel
theorem dX7_eliminate_5 : decode cX7_eliminate 5 = .ok (.aload_n 0, 1) := by decide +kernel
theorem dX7_eliminate_6 : decode cX7_eliminate 6 = .ok (.invokevirtual 195, 3) := by decide +kernel
theorem dX7_eliminate_9 : decode cX7_eliminate 9 = .ok (.aload_n 0, 1) := by decide +kernel
theorem dX7_eliminate_10 : decode cX7_eliminate 10 = .ok (.aload_n 0, 1) := by decide +kernel
theorem dX7_eliminate_11 : decode cX7_eliminate 11 = .ok (.iconst 1, 1) := by decide +kernel
theorem dX7_eliminate_12 : decode cX7_eliminate 12 = .ok (.invokevirtual 198, 3) := by decide +kernel
theorem dX7_eliminate_15 : decode cX7_eliminate 15 = .ok (.putfield 202, 3) := by decide +kernel
theorem dX7_eliminate_18 : decode cX7_eliminate 18 = .ok (.aload_n 0, 1) := by decide +kernel
theorem dX7_eliminate_19 : decode cX7_eliminate 19 = .ok (.getfield 202, 3) := by decide +kernel
theorem dX7_eliminate_22 : decode cX7_eliminate 22 = .ok (.ifCond .lt 5, 3) := by decide +kernel
theorem dX7_eliminate_25 : decode cX7_eliminate 25 = .ok (.iconst 0, 1) := by decide +kernel
theorem dX7_eliminate_26 : decode cX7_eliminate 26 = .ok (.ireturn, 1) := by decide +kernel
theorem dX7_eliminate_27 : decode cX7_eliminate 27 = .ok (.aload_n 0, 1) := by decide +kernel
theorem dX7_eliminate_28 : decode cX7_eliminate 28 = .ok (.iconst 0, 1) := by decide +kernel
theorem dX7_eliminate_29 : decode cX7_eliminate 29 = .ok (.invokevirtual 198, 3) := by decide +kernel
theorem dX7_eliminate_32 : decode cX7_eliminate 32 = .ok (.istore_n 1, 1) := by decide +kernel
theorem dX7_eliminate_33 : decode cX7_eliminate 33 = .ok (.iload_n 1, 1) := by decide +kernel
theorem dX7_eliminate_34 : decode cX7_eliminate 34 = .ok (.ifCond .ge 16, 3) := by decide +kernel
theorem dX7_eliminate_37 : decode cX7_eliminate 37 = .ok (.aload_n 0, 1) := by decide +kernel
theorem dX7_eliminate_38 : decode cX7_eliminate 38 = .ok (.invokevirtual 205, 3) := by decide +kernel
theorem dX7_eliminate_41 : decode cX7_eliminate 41 = .ok (.ifCond .eq 7, 3) := by decide +kernel
theorem dX7_eliminate_44 : decode cX7_eliminate 44 = .ok (.iconst 0, 1) := by decide +kernel
theorem dX7_eliminate_45 : decode cX7_eliminate 45 = .ok (.goto 4, 3) := by decide +kernel
theorem dX7_eliminate_48 : decode cX7_eliminate 48 = .ok (.iconst 1, 1) := by decide +kernel
theorem dX7_eliminate_49 : decode cX7_eliminate 49 = .ok (.ireturn, 1) := by decide +kernel
theorem dX7_eliminate_50 : decode cX7_eliminate 50 = .ok (.aload_n 0, 1) := by decide +kernel
theorem dX7_eliminate_51 : decode cX7_eliminate 51 = .ok (.iload_n 1, 1) := by decide +kernel
theorem dX7_eliminate_52 : decode cX7_eliminate 52 = .ok (.invokevirtual 208, 3) := by decide +kernel
theorem dX7_eliminate_55 : decode cX7_eliminate 55 = .ok (.aload_n 0, 1) := by decide +kernel
theorem dX7_eliminate_56 : decode cX7_eliminate 56 = .ok (.invokevirtual 154, 3) := by decide +kernel
theorem dX7_eliminate_59 : decode cX7_eliminate 59 = .ok (.ifCond .eq 5, 3) := by decide +kernel
theorem dX7_eliminate_62 : decode cX7_eliminate 62 = .ok (.iconst 2, 1) := by decide +kernel
theorem dX7_eliminate_63 : decode cX7_eliminate 63 = .ok (.ireturn, 1) := by decide +kernel
theorem dX7_eliminate_64 : decode cX7_eliminate 64 = .ok (.goto (-55), 3) := by decide +kernel
theorem dX7_plain_0 : decode cX7_plain 0 = .ok (.aload_n 0, 1) := by decide +kernel
theorem dX7_plain_1 : decode cX7_plain 1 = .ok (.iload_n 1, 1) := by decide +kernel
theorem dX7_plain_2 : decode cX7_plain 2 = .ok (.invokevirtual 116, 3) := by decide +kernel
theorem dX7_plain_5 : decode cX7_plain 5 = .ok (.ifCond .ne 5, 3) := by decide +kernel
theorem dX7_plain_8 : decode cX7_plain 8 = .ok (.iconst (-1), 1) := by decide +kernel
theorem dX7_plain_9 : decode cX7_plain 9 = .ok (.ireturn, 1) := by decide +kernel
theorem dX7_plain_10 : decode cX7_plain 10 = .ok (.aload_n 0, 1) := by decide +kernel
theorem dX7_plain_11 : decode cX7_plain 11 = .ok (.invokevirtual 212, 3) := by decide +kernel
theorem dX7_plain_14 : decode cX7_plain 14 = .ok (.aload_n 0, 1) := by decide +kernel
theorem dX7_plain_15 : decode cX7_plain 15 = .ok (.iload_n 1, 1) := by decide +kernel
theorem dX7_plain_16 : decode cX7_plain 16 = .ok (.invokevirtual 215, 3) := by decide +kernel
theorem dX7_plain_19 : decode cX7_plain 19 = .ok (.aload_n 0, 1) := by decide +kernel
theorem dX7_plain_20 : decode cX7_plain 20 = .ok (.iconst 0, 1) := by decide +kernel
theorem dX7_plain_21 : decode cX7_plain 21 = .ok (.putfield 109, 3) := by decide +kernel
theorem dX7_plain_24 : decode cX7_plain 24 = .ok (.aload_n 0, 1) := by decide +kernel
theorem dX7_plain_25 : decode cX7_plain 25 = .ok (.invokevirtual 195, 3) := by decide +kernel
theorem dX7_plain_28 : decode cX7_plain 28 = .ok (.iconst 0, 1) := by decide +kernel
theorem dX7_plain_29 : decode cX7_plain 29 = .ok (.istore_n 2, 1) := by decide +kernel
theorem dX7_plain_30 : decode cX7_plain 30 = .ok (.iconst 0, 1) := by decide +kernel
theorem dX7_plain_31 : decode cX7_plain 31 = .ok (.istore_n 3, 1) := by decide +kernel
theorem dX7_plain_32 : decode cX7_plain 32 = .ok (.iconst 0, 1) := by decide +kernel
theorem dX7_plain_33 : decode cX7_plain 33 = .ok (.istore 4, 2) := by decide +kernel
theorem dX7_plain_35 : decode cX7_plain 35 = .ok (.iload 4, 2) := by decide +kernel
theorem dX7_plain_37 : decode cX7_plain 37 = .ok (.aload_n 0, 1) := by decide +kernel
theorem dX7_plain_38 : decode cX7_plain 38 = .ok (.getfield 7, 3) := by decide +kernel
theorem dX7_plain_41 : decode cX7_plain 41 = .ok (.if_icmp .gt 88, 3) := by decide +kernel
theorem dX7_plain_44 : decode cX7_plain 44 = .ok (.iload_n 3, 1) := by decide +kernel
theorem dX7_plain_45 : decode cX7_plain 45 = .ok (.ifCond .ne 84, 3) := by decide +kernel
theorem dX7_plain_48 : decode cX7_plain 48 = .ok (.aload_n 0, 1) := by decide +kernel
theorem dX7_plain_49 : decode cX7_plain 49 = .ok (.iload 4, 2) := by decide +kernel
theorem dX7_plain_51 : decode cX7_plain 51 = .ok (.invokevirtual 171, 3) := by decide +kernel
theorem dX7_plain_54 : decode cX7_plain 54 = .ok (.istore 5, 2) := by decide +kernel
theorem dX7_plain_56 : decode cX7_plain 56 = .ok (.iload_n 2, 1) := by decide +kernel
theorem dX7_plain_57 : decode cX7_plain 57 = .ok (.aload_n 0, 1) := by decide +kernel
theorem dX7_plain_58 : decode cX7_plain 58 = .ok (.getfield 20, 3) := by decide +kernel
theorem dX7_plain_61 : decode cX7_plain 61 = .ok (.bipush 6, 2) := by decide +kernel
theorem dX7_plain_63 : decode cX7_plain 63 = .ok (.iload 5, 2) := by decide +kernel
theorem dX7_plain_65 : decode cX7_plain 65 = .ok (.imul, 1) := by decide +kernel
theorem dX7_plain_66 : decode cX7_plain 66 = .ok (.laload, 1) := by decide +kernel
theorem dX7_plain_67 : decode cX7_plain 67 = .ok (.lconst 0, 1) := by decide +kernel
theorem dX7_plain_68 : decode cX7_plain 68 = .ok (.lcmp, 1) := by decide +kernel
theorem dX7_plain_69 : decode cX7_plain 69 = .ok (.ifCond .le 7, 3) := by decide +kernel
theorem dX7_plain_72 : decode cX7_plain 72 = .ok (.iconst 1, 1) := by decide +kernel
theorem dX7_plain_73 : decode cX7_plain 73 = .ok (.goto 4, 3) := by decide +kernel
theorem dX7_plain_76 : decode cX7_plain 76 = .ok (.iconst 0, 1) := by decide +kernel
theorem dX7_plain_77 : decode cX7_plain 77 = .ok (.iadd, 1) := by decide +kernel
theorem dX7_plain_78 : decode cX7_plain 78 = .ok (.istore_n 2, 1) := by decide +kernel
theorem dX7_plain_79 : decode cX7_plain 79 = .ok (.aload_n 0, 1) := by decide +kernel
theorem dX7_plain_80 : decode cX7_plain 80 = .ok (.getfield 20, 3) := by decide +kernel
theorem dX7_plain_83 : decode cX7_plain 83 = .ok (.bipush 6, 2) := by decide +kernel
theorem dX7_plain_85 : decode cX7_plain 85 = .ok (.iload 5, 2) := by decide +kernel
theorem dX7_plain_87 : decode cX7_plain 87 = .ok (.imul, 1) := by decide +kernel
theorem dX7_plain_88 : decode cX7_plain 88 = .ok (.laload, 1) := by decide +kernel
theorem dX7_plain_89 : decode cX7_plain 89 = .ok (.lconst 0, 1) := by decide +kernel
theorem dX7_plain_90 : decode cX7_plain 90 = .ok (.lcmp, 1) := by decide +kernel
theorem dX7_plain_91 : decode cX7_plain 91 = .ok (.ifCond .ne 12, 3) := by decide +kernel
theorem dX7_plain_94 : decode cX7_plain 94 = .ok (.bipush (-10), 2) := by decide +kernel
theorem dX7_plain_96 : decode cX7_plain 96 = .ok (.iload 4, 2) := by decide +kernel
theorem dX7_plain_98 : decode cX7_plain 98 = .ok (.isub, 1) := by decide +kernel
theorem dX7_plain_99 : decode cX7_plain 99 = .ok (.istore_n 3, 1) := by decide +kernel
theorem dX7_plain_100 : decode cX7_plain 100 = .ok (.goto 23, 3) := by decide +kernel
theorem dX7_plain_103 : decode cX7_plain 103 = .ok (.aload_n 0, 1) := by decide +kernel
theorem dX7_plain_104 : decode cX7_plain 104 = .ok (.iload 5, 2) := by decide +kernel
theorem dX7_plain_106 : decode cX7_plain 106 = .ok (.invokevirtual 208, 3) := by decide +kernel
theorem dX7_plain_109 : decode cX7_plain 109 = .ok (.aload_n 0, 1) := by decide +kernel
theorem dX7_plain_110 : decode cX7_plain 110 = .ok (.getfield 139, 3) := by decide +kernel
theorem dX7_plain_113 : decode cX7_plain 113 = .ok (.ifCond .eq 8, 3) := by decide +kernel
theorem dX7_plain_116 : decode cX7_plain 116 = .ok (.bipush (-30), 2) := by decide +kernel
theorem dX7_plain_118 : decode cX7_plain 118 = .ok (.goto 4, 3) := by decide +kernel
theorem dX7_plain_121 : decode cX7_plain 121 = .ok (.iconst 0, 1) := by decide +kernel
theorem dX7_plain_122 : decode cX7_plain 122 = .ok (.istore_n 3, 1) := by decide +kernel
theorem dX7_plain_123 : decode cX7_plain 123 = .ok (.iinc 4 1, 3) := by decide +kernel
theorem dX7_plain_126 : decode cX7_plain 126 = .ok (.goto (-91), 3) := by decide +kernel
theorem dX7_plain_129 : decode cX7_plain 129 = .ok (.aload_n 0, 1) := by decide +kernel
theorem dX7_plain_130 : decode cX7_plain 130 = .ok (.invokevirtual 218, 3) := by decide +kernel
theorem dX7_plain_133 : decode cX7_plain 133 = .ok (.iload_n 3, 1) := by decide +kernel
theorem dX7_plain_134 : decode cX7_plain 134 = .ok (.ifCond .eq 7, 3) := by decide +kernel
theorem dX7_plain_137 : decode cX7_plain 137 = .ok (.iload_n 3, 1) := by decide +kernel
theorem dX7_plain_138 : decode cX7_plain 138 = .ok (.goto 4, 3) := by decide +kernel
theorem dX7_plain_141 : decode cX7_plain 141 = .ok (.iload_n 2, 1) := by decide +kernel
theorem dX7_plain_142 : decode cX7_plain 142 = .ok (.ireturn, 1) := by decide +kernel
theorem dX7_save_0 : decode cX7_save 0 = .ok (.aload_n 0, 1) := by decide +kernel
theorem dX7_save_1 : decode cX7_save 1 = .ok (.aload_n 0, 1) := by decide +kernel
theorem dX7_save_2 : decode cX7_save 2 = .ok (.getfield 109, 3) := by decide +kernel
theorem dX7_save_5 : decode cX7_save 5 = .ok (.putfield 221, 3) := by decide +kernel
theorem dX7_save_8 : decode cX7_save 8 = .ok (.iconst 0, 1) := by decide +kernel
theorem dX7_save_9 : decode cX7_save 9 = .ok (.istore_n 1, 1) := by decide +kernel
theorem dX7_save_10 : decode cX7_save 10 = .ok (.iload_n 1, 1) := by decide +kernel
theorem dX7_save_11 : decode cX7_save 11 = .ok (.iconst 5, 1) := by decide +kernel
theorem dX7_save_12 : decode cX7_save 12 = .ok (.if_icmp .ge 71, 3) := by decide +kernel
theorem dX7_save_15 : decode cX7_save 15 = .ok (.aload_n 0, 1) := by decide +kernel
theorem dX7_save_16 : decode cX7_save 16 = .ok (.getfield 55, 3) := by decide +kernel
theorem dX7_save_19 : decode cX7_save 19 = .ok (.iload_n 1, 1) := by decide +kernel
theorem dX7_save_20 : decode cX7_save 20 = .ok (.aload_n 0, 1) := by decide +kernel
theorem dX7_save_21 : decode cX7_save 21 = .ok (.getfield 37, 3) := by decide +kernel
theorem dX7_save_24 : decode cX7_save 24 = .ok (.iload_n 1, 1) := by decide +kernel
theorem dX7_save_25 : decode cX7_save 25 = .ok (.iaload, 1) := by decide +kernel
theorem dX7_save_26 : decode cX7_save 26 = .ok (.iastore, 1) := by decide +kernel
theorem dX7_save_27 : decode cX7_save 27 = .ok (.aload_n 0, 1) := by decide +kernel
theorem dX7_save_28 : decode cX7_save 28 = .ok (.getfield 58, 3) := by decide +kernel
theorem dX7_save_31 : decode cX7_save 31 = .ok (.iload_n 1, 1) := by decide +kernel
theorem dX7_save_32 : decode cX7_save 32 = .ok (.aload_n 0, 1) := by decide +kernel
theorem dX7_save_33 : decode cX7_save 33 = .ok (.getfield 52, 3) := by decide +kernel
theorem dX7_save_36 : decode cX7_save 36 = .ok (.iload_n 1, 1) := by decide +kernel
theorem dX7_save_37 : decode cX7_save 37 = .ok (.iaload, 1) := by decide +kernel
theorem dX7_save_38 : decode cX7_save 38 = .ok (.iastore, 1) := by decide +kernel
theorem dX7_save_39 : decode cX7_save 39 = .ok (.aload_n 0, 1) := by decide +kernel
theorem dX7_save_40 : decode cX7_save 40 = .ok (.getfield 67, 3) := by decide +kernel
theorem dX7_save_43 : decode cX7_save 43 = .ok (.iload_n 1, 1) := by decide +kernel
theorem dX7_save_44 : decode cX7_save 44 = .ok (.aload_n 0, 1) := by decide +kernel
theorem dX7_save_45 : decode cX7_save 45 = .ok (.getfield 33, 3) := by decide +kernel
theorem dX7_save_48 : decode cX7_save 48 = .ok (.iload_n 1, 1) := by decide +kernel
theorem dX7_save_49 : decode cX7_save 49 = .ok (.baload, 1) := by decide +kernel
theorem dX7_save_50 : decode cX7_save 50 = .ok (.bastore, 1) := by decide +kernel
theorem dX7_save_51 : decode cX7_save 51 = .ok (.aload_n 0, 1) := by decide +kernel
theorem dX7_save_52 : decode cX7_save 52 = .ok (.getfield 61, 3) := by decide +kernel
theorem dX7_save_55 : decode cX7_save 55 = .ok (.iload_n 1, 1) := by decide +kernel
theorem dX7_save_56 : decode cX7_save 56 = .ok (.aload_n 0, 1) := by decide +kernel
theorem dX7_save_57 : decode cX7_save 57 = .ok (.getfield 40, 3) := by decide +kernel
theorem dX7_save_60 : decode cX7_save 60 = .ok (.iload_n 1, 1) := by decide +kernel
theorem dX7_save_61 : decode cX7_save 61 = .ok (.laload, 1) := by decide +kernel
theorem dX7_save_62 : decode cX7_save 62 = .ok (.lastore, 1) := by decide +kernel
theorem dX7_save_63 : decode cX7_save 63 = .ok (.aload_n 0, 1) := by decide +kernel
theorem dX7_save_64 : decode cX7_save 64 = .ok (.getfield 61, 3) := by decide +kernel
theorem dX7_save_67 : decode cX7_save 67 = .ok (.iconst 5, 1) := by decide +kernel
theorem dX7_save_68 : decode cX7_save 68 = .ok (.iload_n 1, 1) := by decide +kernel
theorem dX7_save_69 : decode cX7_save 69 = .ok (.iadd, 1) := by decide +kernel
theorem dX7_save_70 : decode cX7_save 70 = .ok (.aload_n 0, 1) := by decide +kernel
theorem dX7_save_71 : decode cX7_save 71 = .ok (.getfield 43, 3) := by decide +kernel
theorem dX7_save_74 : decode cX7_save 74 = .ok (.iload_n 1, 1) := by decide +kernel
theorem dX7_save_75 : decode cX7_save 75 = .ok (.laload, 1) := by decide +kernel
theorem dX7_save_76 : decode cX7_save 76 = .ok (.lastore, 1) := by decide +kernel
theorem dX7_save_77 : decode cX7_save 77 = .ok (.iinc 1 1, 3) := by decide +kernel
theorem dX7_save_80 : decode cX7_save 80 = .ok (.goto (-70), 3) := by decide +kernel
theorem dX7_save_83 : decode cX7_save 83 = .ok (.iconst 0, 1) := by decide +kernel
theorem dX7_save_84 : decode cX7_save 84 = .ok (.istore_n 1, 1) := by decide +kernel
theorem dX7_save_85 : decode cX7_save 85 = .ok (.iload_n 1, 1) := by decide +kernel
theorem dX7_save_86 : decode cX7_save 86 = .ok (.bipush 25, 2) := by decide +kernel
theorem dX7_save_88 : decode cX7_save 88 = .ok (.if_icmp .ge 36, 3) := by decide +kernel
theorem dX7_save_91 : decode cX7_save 91 = .ok (.aload_n 0, 1) := by decide +kernel
theorem dX7_save_92 : decode cX7_save 92 = .ok (.getfield 64, 3) := by decide +kernel
theorem dX7_save_95 : decode cX7_save 95 = .ok (.iload_n 1, 1) := by decide +kernel
theorem dX7_save_96 : decode cX7_save 96 = .ok (.aload_n 0, 1) := by decide +kernel
theorem dX7_save_97 : decode cX7_save 97 = .ok (.getfield 46, 3) := by decide +kernel
theorem dX7_save_100 : decode cX7_save 100 = .ok (.iload_n 1, 1) := by decide +kernel
theorem dX7_save_101 : decode cX7_save 101 = .ok (.laload, 1) := by decide +kernel
theorem dX7_save_102 : decode cX7_save 102 = .ok (.lastore, 1) := by decide +kernel
theorem dX7_save_103 : decode cX7_save 103 = .ok (.aload_n 0, 1) := by decide +kernel
theorem dX7_save_104 : decode cX7_save 104 = .ok (.getfield 64, 3) := by decide +kernel
theorem dX7_save_107 : decode cX7_save 107 = .ok (.bipush 25, 2) := by decide +kernel
theorem dX7_save_109 : decode cX7_save 109 = .ok (.iload_n 1, 1) := by decide +kernel
theorem dX7_save_110 : decode cX7_save 110 = .ok (.iadd, 1) := by decide +kernel
theorem dX7_save_111 : decode cX7_save 111 = .ok (.aload_n 0, 1) := by decide +kernel
theorem dX7_save_112 : decode cX7_save 112 = .ok (.getfield 49, 3) := by decide +kernel
theorem dX7_save_115 : decode cX7_save 115 = .ok (.iload_n 1, 1) := by decide +kernel
theorem dX7_save_116 : decode cX7_save 116 = .ok (.laload, 1) := by decide +kernel
theorem dX7_save_117 : decode cX7_save 117 = .ok (.lastore, 1) := by decide +kernel
theorem dX7_save_118 : decode cX7_save 118 = .ok (.iinc 1 1, 3) := by decide +kernel
theorem dX7_save_121 : decode cX7_save 121 = .ok (.goto (-36), 3) := by decide +kernel
theorem dX7_save_124 : decode cX7_save 124 = .ok (.return_, 1) := by decide +kernel
theorem dX7_restore_0 : decode cX7_restore 0 = .ok (.aload_n 0, 1) := by decide +kernel
theorem dX7_restore_1 : decode cX7_restore 1 = .ok (.aload_n 0, 1) := by decide +kernel
theorem dX7_restore_2 : decode cX7_restore 2 = .ok (.getfield 221, 3) := by decide +kernel
theorem dX7_restore_5 : decode cX7_restore 5 = .ok (.putfield 109, 3) := by decide +kernel
theorem dX7_restore_8 : decode cX7_restore 8 = .ok (.iconst 0, 1) := by decide +kernel
theorem dX7_restore_9 : decode cX7_restore 9 = .ok (.istore_n 1, 1) := by decide +kernel
theorem dX7_restore_10 : decode cX7_restore 10 = .ok (.iload_n 1, 1) := by decide +kernel
theorem dX7_restore_11 : decode cX7_restore 11 = .ok (.iconst 5, 1) := by decide +kernel
theorem dX7_restore_12 : decode cX7_restore 12 = .ok (.if_icmp .ge 71, 3) := by decide +kernel
theorem dX7_restore_15 : decode cX7_restore 15 = .ok (.aload_n 0, 1) := by decide +kernel
theorem dX7_restore_16 : decode cX7_restore 16 = .ok (.getfield 37, 3) := by decide +kernel
theorem dX7_restore_19 : decode cX7_restore 19 = .ok (.iload_n 1, 1) := by decide +kernel
theorem dX7_restore_20 : decode cX7_restore 20 = .ok (.aload_n 0, 1) := by decide +kernel
theorem dX7_restore_21 : decode cX7_restore 21 = .ok (.getfield 55, 3) := by decide +kernel
theorem dX7_restore_24 : decode cX7_restore 24 = .ok (.iload_n 1, 1) := by decide +kernel
theorem dX7_restore_25 : decode cX7_restore 25 = .ok (.iaload, 1) := by decide +kernel
theorem dX7_restore_26 : decode cX7_restore 26 = .ok (.iastore, 1) := by decide +kernel
theorem dX7_restore_27 : decode cX7_restore 27 = .ok (.aload_n 0, 1) := by decide +kernel
theorem dX7_restore_28 : decode cX7_restore 28 = .ok (.getfield 52, 3) := by decide +kernel
theorem dX7_restore_31 : decode cX7_restore 31 = .ok (.iload_n 1, 1) := by decide +kernel
theorem dX7_restore_32 : decode cX7_restore 32 = .ok (.aload_n 0, 1) := by decide +kernel
theorem dX7_restore_33 : decode cX7_restore 33 = .ok (.getfield 58, 3) := by decide +kernel
theorem dX7_restore_36 : decode cX7_restore 36 = .ok (.iload_n 1, 1) := by decide +kernel
theorem dX7_restore_37 : decode cX7_restore 37 = .ok (.iaload, 1) := by decide +kernel
theorem dX7_restore_38 : decode cX7_restore 38 = .ok (.iastore, 1) := by decide +kernel
theorem dX7_restore_39 : decode cX7_restore 39 = .ok (.aload_n 0, 1) := by decide +kernel
theorem dX7_restore_40 : decode cX7_restore 40 = .ok (.getfield 33, 3) := by decide +kernel
theorem dX7_restore_43 : decode cX7_restore 43 = .ok (.iload_n 1, 1) := by decide +kernel
theorem dX7_restore_44 : decode cX7_restore 44 = .ok (.aload_n 0, 1) := by decide +kernel
theorem dX7_restore_45 : decode cX7_restore 45 = .ok (.getfield 67, 3) := by decide +kernel
theorem dX7_restore_48 : decode cX7_restore 48 = .ok (.iload_n 1, 1) := by decide +kernel
theorem dX7_restore_49 : decode cX7_restore 49 = .ok (.baload, 1) := by decide +kernel
theorem dX7_restore_50 : decode cX7_restore 50 = .ok (.bastore, 1) := by decide +kernel
theorem dX7_restore_51 : decode cX7_restore 51 = .ok (.aload_n 0, 1) := by decide +kernel
theorem dX7_restore_52 : decode cX7_restore 52 = .ok (.getfield 40, 3) := by decide +kernel
theorem dX7_restore_55 : decode cX7_restore 55 = .ok (.iload_n 1, 1) := by decide +kernel
theorem dX7_restore_56 : decode cX7_restore 56 = .ok (.aload_n 0, 1) := by decide +kernel
theorem dX7_restore_57 : decode cX7_restore 57 = .ok (.getfield 61, 3) := by decide +kernel
theorem dX7_restore_60 : decode cX7_restore 60 = .ok (.iload_n 1, 1) := by decide +kernel
theorem dX7_restore_61 : decode cX7_restore 61 = .ok (.laload, 1) := by decide +kernel
theorem dX7_restore_62 : decode cX7_restore 62 = .ok (.lastore, 1) := by decide +kernel
theorem dX7_restore_63 : decode cX7_restore 63 = .ok (.aload_n 0, 1) := by decide +kernel
theorem dX7_restore_64 : decode cX7_restore 64 = .ok (.getfield 43, 3) := by decide +kernel
theorem dX7_restore_67 : decode cX7_restore 67 = .ok (.iload_n 1, 1) := by decide +kernel
theorem dX7_restore_68 : decode cX7_restore 68 = .ok (.aload_n 0, 1) := by decide +kernel
theorem dX7_restore_69 : decode cX7_restore 69 = .ok (.getfield 61, 3) := by decide +kernel
theorem dX7_restore_72 : decode cX7_restore 72 = .ok (.iconst 5, 1) := by decide +kernel
theorem dX7_restore_73 : decode cX7_restore 73 = .ok (.iload_n 1, 1) := by decide +kernel
theorem dX7_restore_74 : decode cX7_restore 74 = .ok (.iadd, 1) := by decide +kernel
theorem dX7_restore_75 : decode cX7_restore 75 = .ok (.laload, 1) := by decide +kernel
theorem dX7_restore_76 : decode cX7_restore 76 = .ok (.lastore, 1) := by decide +kernel
theorem dX7_restore_77 : decode cX7_restore 77 = .ok (.iinc 1 1, 3) := by decide +kernel
theorem dX7_restore_80 : decode cX7_restore 80 = .ok (.goto (-70), 3) := by decide +kernel
theorem dX7_restore_83 : decode cX7_restore 83 = .ok (.iconst 0, 1) := by decide +kernel
theorem dX7_restore_84 : decode cX7_restore 84 = .ok (.istore_n 1, 1) := by decide +kernel
theorem dX7_restore_85 : decode cX7_restore 85 = .ok (.iload_n 1, 1) := by decide +kernel
theorem dX7_restore_86 : decode cX7_restore 86 = .ok (.bipush 25, 2) := by decide +kernel
theorem dX7_restore_88 : decode cX7_restore 88 = .ok (.if_icmp .ge 36, 3) := by decide +kernel
theorem dX7_restore_91 : decode cX7_restore 91 = .ok (.aload_n 0, 1) := by decide +kernel
theorem dX7_restore_92 : decode cX7_restore 92 = .ok (.getfield 46, 3) := by decide +kernel
theorem dX7_restore_95 : decode cX7_restore 95 = .ok (.iload_n 1, 1) := by decide +kernel
theorem dX7_restore_96 : decode cX7_restore 96 = .ok (.aload_n 0, 1) := by decide +kernel
theorem dX7_restore_97 : decode cX7_restore 97 = .ok (.getfield 64, 3) := by decide +kernel
theorem dX7_restore_100 : decode cX7_restore 100 = .ok (.iload_n 1, 1) := by decide +kernel
theorem dX7_restore_101 : decode cX7_restore 101 = .ok (.laload, 1) := by decide +kernel
theorem dX7_restore_102 : decode cX7_restore 102 = .ok (.lastore, 1) := by decide +kernel
theorem dX7_restore_103 : decode cX7_restore 103 = .ok (.aload_n 0, 1) := by decide +kernel
theorem dX7_restore_104 : decode cX7_restore 104 = .ok (.getfield 49, 3) := by decide +kernel
theorem dX7_restore_107 : decode cX7_restore 107 = .ok (.iload_n 1, 1) := by decide +kernel
theorem dX7_restore_108 : decode cX7_restore 108 = .ok (.aload_n 0, 1) := by decide +kernel
theorem dX7_restore_109 : decode cX7_restore 109 = .ok (.getfield 64, 3) := by decide +kernel
theorem dX7_restore_112 : decode cX7_restore 112 = .ok (.bipush 25, 2) := by decide +kernel
theorem dX7_restore_114 : decode cX7_restore 114 = .ok (.iload_n 1, 1) := by decide +kernel
theorem dX7_restore_115 : decode cX7_restore 115 = .ok (.iadd, 1) := by decide +kernel
theorem dX7_restore_116 : decode cX7_restore 116 = .ok (.laload, 1) := by decide +kernel
theorem dX7_restore_117 : decode cX7_restore 117 = .ok (.lastore, 1) := by decide +kernel
theorem dX7_restore_118 : decode cX7_restore 118 = .ok (.iinc 1 1, 3) := by decide +kernel
theorem dX7_restore_121 : decode cX7_restore 121 = .ok (.goto (-36), 3) := by decide +kernel
theorem dX7_restore_124 : decode cX7_restore 124 = .ok (.return_, 1) := by decide +kernel
theorem dX7_noWitness_0 : decode cX7_noWitness 0 = .ok (.iconst 0, 1) := by decide +kernel
theorem dX7_noWitness_1 : decode cX7_noWitness 1 = .ok (.istore_n 1, 1) := by decide +kernel
theorem dX7_noWitness_2 : decode cX7_noWitness 2 = .ok (.iload_n 1, 1) := by decide +kernel
theorem dX7_noWitness_3 : decode cX7_noWitness 3 = .ok (.iconst 5, 1) := by decide +kernel
theorem dX7_noWitness_4 : decode cX7_noWitness 4 = .ok (.if_icmp .ge 23, 3) := by decide +kernel
theorem dX7_noWitness_7 : decode cX7_noWitness 7 = .ok (.aload_n 0, 1) := by decide +kernel
theorem dX7_noWitness_8 : decode cX7_noWitness 8 = .ok (.getfield 70, 3) := by decide +kernel
theorem dX7_noWitness_11 : decode cX7_noWitness 11 = .ok (.iload_n 1, 1) := by decide +kernel
theorem dX7_noWitness_12 : decode cX7_noWitness 12 = .ok (.lconst 0, 1) := by decide +kernel
theorem dX7_noWitness_13 : decode cX7_noWitness 13 = .ok (.lastore, 1) := by decide +kernel
theorem dX7_noWitness_14 : decode cX7_noWitness 14 = .ok (.aload_n 0, 1) := by decide +kernel
theorem dX7_noWitness_15 : decode cX7_noWitness 15 = .ok (.getfield 73, 3) := by decide +kernel
theorem dX7_noWitness_18 : decode cX7_noWitness 18 = .ok (.iload_n 1, 1) := by decide +kernel
theorem dX7_noWitness_19 : decode cX7_noWitness 19 = .ok (.lconst 1, 1) := by decide +kernel
theorem dX7_noWitness_20 : decode cX7_noWitness 20 = .ok (.lastore, 1) := by decide +kernel
theorem dX7_noWitness_21 : decode cX7_noWitness 21 = .ok (.iinc 1 1, 3) := by decide +kernel
theorem dX7_noWitness_24 : decode cX7_noWitness 24 = .ok (.goto (-22), 3) := by decide +kernel
theorem dX7_noWitness_27 : decode cX7_noWitness 27 = .ok (.return_, 1) := by decide +kernel
theorem dX7_goBack_0 : decode cX7_goBack 0 = .ok (.aload_n 0, 1) := by decide +kernel
theorem dX7_goBack_1 : decode cX7_goBack 1 = .ok (.getfield 109, 3) := by decide +kernel
theorem dX7_goBack_4 : decode cX7_goBack 4 = .ok (.iconst 1, 1) := by decide +kernel
theorem dX7_goBack_5 : decode cX7_goBack 5 = .ok (.isub, 1) := by decide +kernel
theorem dX7_goBack_6 : decode cX7_goBack 6 = .ok (.istore_n 1, 1) := by decide +kernel
theorem dX7_goBack_7 : decode cX7_goBack 7 = .ok (.iload_n 1, 1) := by decide +kernel
theorem dX7_goBack_8 : decode cX7_goBack 8 = .ok (.ifCond .lt 167, 3) := by decide +kernel
theorem dX7_goBack_11 : decode cX7_goBack 11 = .ok (.aload_n 0, 1) := by decide +kernel
theorem dX7_goBack_12 : decode cX7_goBack 12 = .ok (.invokevirtual 154, 3) := by decide +kernel
theorem dX7_goBack_15 : decode cX7_goBack 15 = .ok (.ifCond .ne 160, 3) := by decide +kernel
theorem dX7_goBack_18 : decode cX7_goBack 18 = .ok (.lconst 0, 1) := by decide +kernel
theorem dX7_goBack_19 : decode cX7_goBack 19 = .ok (.lstore_n 2, 1) := by decide +kernel
theorem dX7_goBack_20 : decode cX7_goBack 20 = .ok (.lconst 1, 1) := by decide +kernel
theorem dX7_goBack_21 : decode cX7_goBack 21 = .ok (.lstore 4, 2) := by decide +kernel
theorem dX7_goBack_23 : decode cX7_goBack 23 = .ok (.iconst 0, 1) := by decide +kernel
theorem dX7_goBack_24 : decode cX7_goBack 24 = .ok (.istore 6, 2) := by decide +kernel
theorem dX7_goBack_26 : decode cX7_goBack 26 = .ok (.iload 6, 2) := by decide +kernel
theorem dX7_goBack_28 : decode cX7_goBack 28 = .ok (.aload_n 0, 1) := by decide +kernel
theorem dX7_goBack_29 : decode cX7_goBack 29 = .ok (.getfield 7, 3) := by decide +kernel
theorem dX7_goBack_32 : decode cX7_goBack 32 = .ok (.if_icmp .gt 98, 3) := by decide +kernel
theorem dX7_goBack_35 : decode cX7_goBack 35 = .ok (.aload_n 0, 1) := by decide +kernel
theorem dX7_goBack_36 : decode cX7_goBack 36 = .ok (.iload 6, 2) := by decide +kernel
theorem dX7_goBack_38 : decode cX7_goBack 38 = .ok (.invokevirtual 171, 3) := by decide +kernel
theorem dX7_goBack_41 : decode cX7_goBack 41 = .ok (.istore 7, 2) := by decide +kernel
theorem dX7_goBack_43 : decode cX7_goBack 43 = .ok (.aload_n 0, 1) := by decide +kernel
theorem dX7_goBack_44 : decode cX7_goBack 44 = .ok (.getfield 52, 3) := by decide +kernel
theorem dX7_goBack_47 : decode cX7_goBack 47 = .ok (.iload_n 1, 1) := by decide +kernel
theorem dX7_goBack_48 : decode cX7_goBack 48 = .ok (.iaload, 1) := by decide +kernel
theorem dX7_goBack_49 : decode cX7_goBack 49 = .ok (.iload 7, 2) := by decide +kernel
theorem dX7_goBack_51 : decode cX7_goBack 51 = .ok (.ishr, 1) := by decide +kernel
theorem dX7_goBack_52 : decode cX7_goBack 52 = .ok (.iconst 1, 1) := by decide +kernel
theorem dX7_goBack_53 : decode cX7_goBack 53 = .ok (.iand, 1) := by decide +kernel
theorem dX7_goBack_54 : decode cX7_goBack 54 = .ok (.iconst 1, 1) := by decide +kernel
theorem dX7_goBack_55 : decode cX7_goBack 55 = .ok (.if_icmp .ne 69, 3) := by decide +kernel
theorem dX7_goBack_58 : decode cX7_goBack 58 = .ok (.aload_n 0, 1) := by decide +kernel
theorem dX7_goBack_59 : decode cX7_goBack 59 = .ok (.aload_n 0, 1) := by decide +kernel
theorem dX7_goBack_60 : decode cX7_goBack 60 = .ok (.getfield 46, 3) := by decide +kernel
theorem dX7_goBack_63 : decode cX7_goBack 63 = .ok (.iconst 5, 1) := by decide +kernel
theorem dX7_goBack_64 : decode cX7_goBack 64 = .ok (.iload_n 1, 1) := by decide +kernel
theorem dX7_goBack_65 : decode cX7_goBack 65 = .ok (.imul, 1) := by decide +kernel
theorem dX7_goBack_66 : decode cX7_goBack 66 = .ok (.iload 7, 2) := by decide +kernel
theorem dX7_goBack_68 : decode cX7_goBack 68 = .ok (.iadd, 1) := by decide +kernel
theorem dX7_goBack_69 : decode cX7_goBack 69 = .ok (.laload, 1) := by decide +kernel
theorem dX7_goBack_70 : decode cX7_goBack 70 = .ok (.aload_n 0, 1) := by decide +kernel
theorem dX7_goBack_71 : decode cX7_goBack 71 = .ok (.getfield 49, 3) := by decide +kernel
theorem dX7_goBack_74 : decode cX7_goBack 74 = .ok (.iconst 5, 1) := by decide +kernel
theorem dX7_goBack_75 : decode cX7_goBack 75 = .ok (.iload_n 1, 1) := by decide +kernel
theorem dX7_goBack_76 : decode cX7_goBack 76 = .ok (.imul, 1) := by decide +kernel
theorem dX7_goBack_77 : decode cX7_goBack 77 = .ok (.iload 7, 2) := by decide +kernel
theorem dX7_goBack_79 : decode cX7_goBack 79 = .ok (.iadd, 1) := by decide +kernel
theorem dX7_goBack_80 : decode cX7_goBack 80 = .ok (.laload, 1) := by decide +kernel
theorem dX7_goBack_81 : decode cX7_goBack 81 = .ok (.aload_n 0, 1) := by decide +kernel
theorem dX7_goBack_82 : decode cX7_goBack 82 = .ok (.getfield 70, 3) := by decide +kernel
theorem dX7_goBack_85 : decode cX7_goBack 85 = .ok (.iload 7, 2) := by decide +kernel
theorem dX7_goBack_87 : decode cX7_goBack 87 = .ok (.laload, 1) := by decide +kernel
theorem dX7_goBack_88 : decode cX7_goBack 88 = .ok (.aload_n 0, 1) := by decide +kernel
theorem dX7_goBack_89 : decode cX7_goBack 89 = .ok (.getfield 73, 3) := by decide +kernel
theorem dX7_goBack_92 : decode cX7_goBack 92 = .ok (.iload 7, 2) := by decide +kernel
theorem dX7_goBack_94 : decode cX7_goBack 94 = .ok (.laload, 1) := by decide +kernel
theorem dX7_goBack_95 : decode cX7_goBack 95 = .ok (.invokevirtual 179, 3) := by decide +kernel
theorem dX7_goBack_98 : decode cX7_goBack 98 = .ok (.aload_n 0, 1) := by decide +kernel
theorem dX7_goBack_99 : decode cX7_goBack 99 = .ok (.lload_n 2, 1) := by decide +kernel
theorem dX7_goBack_100 : decode cX7_goBack 100 = .ok (.lload 4, 2) := by decide +kernel
theorem dX7_goBack_102 : decode cX7_goBack 102 = .ok (.aload_n 0, 1) := by decide +kernel
theorem dX7_goBack_103 : decode cX7_goBack 103 = .ok (.getfield 147, 3) := by decide +kernel
theorem dX7_goBack_106 : decode cX7_goBack 106 = .ok (.aload_n 0, 1) := by decide +kernel
theorem dX7_goBack_107 : decode cX7_goBack 107 = .ok (.getfield 151, 3) := by decide +kernel
theorem dX7_goBack_110 : decode cX7_goBack 110 = .ok (.invokevirtual 224, 3) := by decide +kernel
theorem dX7_goBack_113 : decode cX7_goBack 113 = .ok (.aload_n 0, 1) := by decide +kernel
theorem dX7_goBack_114 : decode cX7_goBack 114 = .ok (.getfield 147, 3) := by decide +kernel
theorem dX7_goBack_117 : decode cX7_goBack 117 = .ok (.lstore_n 2, 1) := by decide +kernel
theorem dX7_goBack_118 : decode cX7_goBack 118 = .ok (.aload_n 0, 1) := by decide +kernel
theorem dX7_goBack_119 : decode cX7_goBack 119 = .ok (.getfield 151, 3) := by decide +kernel
theorem dX7_goBack_122 : decode cX7_goBack 122 = .ok (.lstore 4, 2) := by decide +kernel
theorem dX7_goBack_124 : decode cX7_goBack 124 = .ok (.iinc 6 1, 3) := by decide +kernel
theorem dX7_goBack_127 : decode cX7_goBack 127 = .ok (.goto (-101), 3) := by decide +kernel
theorem dX7_goBack_130 : decode cX7_goBack 130 = .ok (.aload_n 0, 1) := by decide +kernel
theorem dX7_goBack_131 : decode cX7_goBack 131 = .ok (.lconst 0, 1) := by decide +kernel
theorem dX7_goBack_132 : decode cX7_goBack 132 = .ok (.lconst 1, 1) := by decide +kernel
theorem dX7_goBack_133 : decode cX7_goBack 133 = .ok (.lload_n 2, 1) := by decide +kernel
theorem dX7_goBack_134 : decode cX7_goBack 134 = .ok (.lload 4, 2) := by decide +kernel
theorem dX7_goBack_136 : decode cX7_goBack 136 = .ok (.invokevirtual 182, 3) := by decide +kernel
theorem dX7_goBack_139 : decode cX7_goBack 139 = .ok (.aload_n 0, 1) := by decide +kernel
theorem dX7_goBack_140 : decode cX7_goBack 140 = .ok (.getfield 70, 3) := by decide +kernel
theorem dX7_goBack_143 : decode cX7_goBack 143 = .ok (.aload_n 0, 1) := by decide +kernel
theorem dX7_goBack_144 : decode cX7_goBack 144 = .ok (.getfield 37, 3) := by decide +kernel
theorem dX7_goBack_147 : decode cX7_goBack 147 = .ok (.iload_n 1, 1) := by decide +kernel
theorem dX7_goBack_148 : decode cX7_goBack 148 = .ok (.iaload, 1) := by decide +kernel
theorem dX7_goBack_149 : decode cX7_goBack 149 = .ok (.aload_n 0, 1) := by decide +kernel
theorem dX7_goBack_150 : decode cX7_goBack 150 = .ok (.getfield 147, 3) := by decide +kernel
theorem dX7_goBack_153 : decode cX7_goBack 153 = .ok (.lastore, 1) := by decide +kernel
theorem dX7_goBack_154 : decode cX7_goBack 154 = .ok (.aload_n 0, 1) := by decide +kernel
theorem dX7_goBack_155 : decode cX7_goBack 155 = .ok (.getfield 73, 3) := by decide +kernel
theorem dX7_goBack_158 : decode cX7_goBack 158 = .ok (.aload_n 0, 1) := by decide +kernel
theorem dX7_goBack_159 : decode cX7_goBack 159 = .ok (.getfield 37, 3) := by decide +kernel
theorem dX7_goBack_162 : decode cX7_goBack 162 = .ok (.iload_n 1, 1) := by decide +kernel
theorem dX7_goBack_163 : decode cX7_goBack 163 = .ok (.iaload, 1) := by decide +kernel
theorem dX7_goBack_164 : decode cX7_goBack 164 = .ok (.aload_n 0, 1) := by decide +kernel
theorem dX7_goBack_165 : decode cX7_goBack 165 = .ok (.getfield 151, 3) := by decide +kernel
theorem dX7_goBack_168 : decode cX7_goBack 168 = .ok (.lastore, 1) := by decide +kernel
theorem dX7_goBack_169 : decode cX7_goBack 169 = .ok (.iinc 1 (-1), 3) := by decide +kernel
theorem dX7_goBack_172 : decode cX7_goBack 172 = .ok (.goto (-165), 3) := by decide +kernel
theorem dX7_goBack_175 : decode cX7_goBack 175 = .ok (.return_, 1) := by decide +kernel
theorem dX7_pointBy_0 : decode cX7_pointBy 0 = .ok (.aload_n 0, 1) := by decide +kernel
theorem dX7_pointBy_1 : decode cX7_pointBy 1 = .ok (.invokevirtual 227, 3) := by decide +kernel
theorem dX7_pointBy_4 : decode cX7_pointBy 4 = .ok (.aload_n 0, 1) := by decide +kernel
theorem dX7_pointBy_5 : decode cX7_pointBy 5 = .ok (.getfield 202, 3) := by decide +kernel
theorem dX7_pointBy_8 : decode cX7_pointBy 8 = .ok (.ifCond .lt 16, 3) := by decide +kernel
theorem dX7_pointBy_11 : decode cX7_pointBy 11 = .ok (.aload_n 0, 1) := by decide +kernel
theorem dX7_pointBy_12 : decode cX7_pointBy 12 = .ok (.getfield 70, 3) := by decide +kernel
theorem dX7_pointBy_15 : decode cX7_pointBy 15 = .ok (.aload_n 0, 1) := by decide +kernel
theorem dX7_pointBy_16 : decode cX7_pointBy 16 = .ok (.getfield 202, 3) := by decide +kernel
theorem dX7_pointBy_19 : decode cX7_pointBy 19 = .ok (.lconst 1, 1) := by decide +kernel
theorem dX7_pointBy_20 : decode cX7_pointBy 20 = .ok (.lastore, 1) := by decide +kernel
theorem dX7_pointBy_21 : decode cX7_pointBy 21 = .ok (.goto 50, 3) := by decide +kernel
theorem dX7_pointBy_24 : decode cX7_pointBy 24 = .ok (.aload_n 0, 1) := by decide +kernel
theorem dX7_pointBy_25 : decode cX7_pointBy 25 = .ok (.getfield 70, 3) := by decide +kernel
theorem dX7_pointBy_28 : decode cX7_pointBy 28 = .ok (.aload_n 0, 1) := by decide +kernel
theorem dX7_pointBy_29 : decode cX7_pointBy 29 = .ok (.getfield 189, 3) := by decide +kernel
theorem dX7_pointBy_32 : decode cX7_pointBy 32 = .ok (.lconst 1, 1) := by decide +kernel
theorem dX7_pointBy_33 : decode cX7_pointBy 33 = .ok (.lastore, 1) := by decide +kernel
theorem dX7_pointBy_34 : decode cX7_pointBy 34 = .ok (.aload_n 0, 1) := by decide +kernel
theorem dX7_pointBy_35 : decode cX7_pointBy 35 = .ok (.getfield 70, 3) := by decide +kernel
theorem dX7_pointBy_38 : decode cX7_pointBy 38 = .ok (.aload_n 0, 1) := by decide +kernel
theorem dX7_pointBy_39 : decode cX7_pointBy 39 = .ok (.getfield 192, 3) := by decide +kernel
theorem dX7_pointBy_42 : decode cX7_pointBy 42 = .ok (.aload_n 0, 1) := by decide +kernel
theorem dX7_pointBy_43 : decode cX7_pointBy 43 = .ok (.getfield 20, 3) := by decide +kernel
theorem dX7_pointBy_46 : decode cX7_pointBy 46 = .ok (.iconst 5, 1) := by decide +kernel
theorem dX7_pointBy_47 : decode cX7_pointBy 47 = .ok (.aload_n 0, 1) := by decide +kernel
theorem dX7_pointBy_48 : decode cX7_pointBy 48 = .ok (.getfield 189, 3) := by decide +kernel
theorem dX7_pointBy_51 : decode cX7_pointBy 51 = .ok (.imul, 1) := by decide +kernel
theorem dX7_pointBy_52 : decode cX7_pointBy 52 = .ok (.aload_n 0, 1) := by decide +kernel
theorem dX7_pointBy_53 : decode cX7_pointBy 53 = .ok (.getfield 192, 3) := by decide +kernel
theorem dX7_pointBy_56 : decode cX7_pointBy 56 = .ok (.iadd, 1) := by decide +kernel
theorem dX7_pointBy_57 : decode cX7_pointBy 57 = .ok (.laload, 1) := by decide +kernel
theorem dX7_pointBy_58 : decode cX7_pointBy 58 = .ok (.lconst 0, 1) := by decide +kernel
theorem dX7_pointBy_59 : decode cX7_pointBy 59 = .ok (.lcmp, 1) := by decide +kernel
theorem dX7_pointBy_60 : decode cX7_pointBy 60 = .ok (.ifCond .le 9, 3) := by decide +kernel
theorem dX7_pointBy_63 : decode cX7_pointBy 63 = .ok (.ldc2_w 137, 3) := by decide +kernel
theorem dX7_pointBy_66 : decode cX7_pointBy 66 = .ok (.goto 4, 3) := by decide +kernel
theorem dX7_pointBy_69 : decode cX7_pointBy 69 = .ok (.lconst 1, 1) := by decide +kernel
theorem dX7_pointBy_70 : decode cX7_pointBy 70 = .ok (.lastore, 1) := by decide +kernel
theorem dX7_pointBy_71 : decode cX7_pointBy 71 = .ok (.aload_n 0, 1) := by decide +kernel
theorem dX7_pointBy_72 : decode cX7_pointBy 72 = .ok (.invokevirtual 230, 3) := by decide +kernel
theorem dX7_pointBy_75 : decode cX7_pointBy 75 = .ok (.aload_n 0, 1) := by decide +kernel
theorem dX7_pointBy_76 : decode cX7_pointBy 76 = .ok (.invokevirtual 154, 3) := by decide +kernel
theorem dX7_pointBy_79 : decode cX7_pointBy 79 = .ok (.ifCond .eq 5, 3) := by decide +kernel
theorem dX7_pointBy_82 : decode cX7_pointBy 82 = .ok (.iconst 0, 1) := by decide +kernel
theorem dX7_pointBy_83 : decode cX7_pointBy 83 = .ok (.ireturn, 1) := by decide +kernel
theorem dX7_pointBy_84 : decode cX7_pointBy 84 = .ok (.aload_n 0, 1) := by decide +kernel
theorem dX7_pointBy_85 : decode cX7_pointBy 85 = .ok (.getfield 70, 3) := by decide +kernel
theorem dX7_pointBy_88 : decode cX7_pointBy 88 = .ok (.iconst 0, 1) := by decide +kernel
theorem dX7_pointBy_89 : decode cX7_pointBy 89 = .ok (.laload, 1) := by decide +kernel
theorem dX7_pointBy_90 : decode cX7_pointBy 90 = .ok (.lconst 0, 1) := by decide +kernel
theorem dX7_pointBy_91 : decode cX7_pointBy 91 = .ok (.lcmp, 1) := by decide +kernel
theorem dX7_pointBy_92 : decode cX7_pointBy 92 = .ok (.ifCond .eq 80, 3) := by decide +kernel
theorem dX7_pointBy_95 : decode cX7_pointBy 95 = .ok (.iconst 1, 1) := by decide +kernel
theorem dX7_pointBy_96 : decode cX7_pointBy 96 = .ok (.istore_n 2, 1) := by decide +kernel
theorem dX7_pointBy_97 : decode cX7_pointBy 97 = .ok (.iload_n 2, 1) := by decide +kernel
theorem dX7_pointBy_98 : decode cX7_pointBy 98 = .ok (.aload_n 0, 1) := by decide +kernel
theorem dX7_pointBy_99 : decode cX7_pointBy 99 = .ok (.getfield 7, 3) := by decide +kernel
theorem dX7_pointBy_102 : decode cX7_pointBy 102 = .ok (.if_icmp .gt 57, 3) := by decide +kernel
theorem dX7_pointBy_105 : decode cX7_pointBy 105 = .ok (.aload_n 0, 1) := by decide +kernel
theorem dX7_pointBy_106 : decode cX7_pointBy 106 = .ok (.aload_n 0, 1) := by decide +kernel
theorem dX7_pointBy_107 : decode cX7_pointBy 107 = .ok (.getfield 70, 3) := by decide +kernel
theorem dX7_pointBy_110 : decode cX7_pointBy 110 = .ok (.iload_n 2, 1) := by decide +kernel
theorem dX7_pointBy_111 : decode cX7_pointBy 111 = .ok (.laload, 1) := by decide +kernel
theorem dX7_pointBy_112 : decode cX7_pointBy 112 = .ok (.aload_n 0, 1) := by decide +kernel
theorem dX7_pointBy_113 : decode cX7_pointBy 113 = .ok (.getfield 73, 3) := by decide +kernel
theorem dX7_pointBy_116 : decode cX7_pointBy 116 = .ok (.iload_n 2, 1) := by decide +kernel
theorem dX7_pointBy_117 : decode cX7_pointBy 117 = .ok (.laload, 1) := by decide +kernel
theorem dX7_pointBy_118 : decode cX7_pointBy 118 = .ok (.aload_n 0, 1) := by decide +kernel
theorem dX7_pointBy_119 : decode cX7_pointBy 119 = .ok (.getfield 70, 3) := by decide +kernel
theorem dX7_pointBy_122 : decode cX7_pointBy 122 = .ok (.iconst 0, 1) := by decide +kernel
theorem dX7_pointBy_123 : decode cX7_pointBy 123 = .ok (.laload, 1) := by decide +kernel
theorem dX7_pointBy_124 : decode cX7_pointBy 124 = .ok (.aload_n 0, 1) := by decide +kernel
theorem dX7_pointBy_125 : decode cX7_pointBy 125 = .ok (.getfield 73, 3) := by decide +kernel
theorem dX7_pointBy_128 : decode cX7_pointBy 128 = .ok (.iconst 0, 1) := by decide +kernel
theorem dX7_pointBy_129 : decode cX7_pointBy 129 = .ok (.laload, 1) := by decide +kernel
theorem dX7_pointBy_130 : decode cX7_pointBy 130 = .ok (.invokevirtual 175, 3) := by decide +kernel
theorem dX7_pointBy_133 : decode cX7_pointBy 133 = .ok (.aload_n 0, 1) := by decide +kernel
theorem dX7_pointBy_134 : decode cX7_pointBy 134 = .ok (.getfield 76, 3) := by decide +kernel
theorem dX7_pointBy_137 : decode cX7_pointBy 137 = .ok (.iload_n 2, 1) := by decide +kernel
theorem dX7_pointBy_138 : decode cX7_pointBy 138 = .ok (.aload_n 0, 1) := by decide +kernel
theorem dX7_pointBy_139 : decode cX7_pointBy 139 = .ok (.getfield 147, 3) := by decide +kernel
theorem dX7_pointBy_142 : decode cX7_pointBy 142 = .ok (.lastore, 1) := by decide +kernel
theorem dX7_pointBy_143 : decode cX7_pointBy 143 = .ok (.aload_n 0, 1) := by decide +kernel
theorem dX7_pointBy_144 : decode cX7_pointBy 144 = .ok (.getfield 79, 3) := by decide +kernel
theorem dX7_pointBy_147 : decode cX7_pointBy 147 = .ok (.iload_n 2, 1) := by decide +kernel
theorem dX7_pointBy_148 : decode cX7_pointBy 148 = .ok (.aload_n 0, 1) := by decide +kernel
theorem dX7_pointBy_149 : decode cX7_pointBy 149 = .ok (.getfield 151, 3) := by decide +kernel
theorem dX7_pointBy_152 : decode cX7_pointBy 152 = .ok (.lastore, 1) := by decide +kernel
theorem dX7_pointBy_153 : decode cX7_pointBy 153 = .ok (.iinc 2 1, 3) := by decide +kernel
theorem dX7_pointBy_156 : decode cX7_pointBy 156 = .ok (.goto (-59), 3) := by decide +kernel
theorem dX7_pointBy_159 : decode cX7_pointBy 159 = .ok (.aload_n 0, 1) := by decide +kernel
theorem dX7_pointBy_160 : decode cX7_pointBy 160 = .ok (.invokevirtual 154, 3) := by decide +kernel
theorem dX7_pointBy_163 : decode cX7_pointBy 163 = .ok (.ifCond .ne 7, 3) := by decide +kernel
theorem dX7_pointBy_166 : decode cX7_pointBy 166 = .ok (.iconst 1, 1) := by decide +kernel
theorem dX7_pointBy_167 : decode cX7_pointBy 167 = .ok (.goto 4, 3) := by decide +kernel
theorem dX7_pointBy_170 : decode cX7_pointBy 170 = .ok (.iconst 0, 1) := by decide +kernel
theorem dX7_pointBy_171 : decode cX7_pointBy 171 = .ok (.ireturn, 1) := by decide +kernel
theorem dX7_pointBy_172 : decode cX7_pointBy 172 = .ok (.iconst 0, 1) := by decide +kernel
theorem dX7_pointBy_173 : decode cX7_pointBy 173 = .ok (.istore_n 2, 1) := by decide +kernel
theorem dX7_pointBy_174 : decode cX7_pointBy 174 = .ok (.iload_n 2, 1) := by decide +kernel
theorem dX7_pointBy_175 : decode cX7_pointBy 175 = .ok (.bipush 40, 2) := by decide +kernel
theorem dX7_pointBy_177 : decode cX7_pointBy 177 = .ok (.if_icmp .gt 86, 3) := by decide +kernel
theorem dX7_pointBy_180 : decode cX7_pointBy 180 = .ok (.iconst 1, 1) := by decide +kernel
theorem dX7_pointBy_181 : decode cX7_pointBy 181 = .ok (.istore_n 3, 1) := by decide +kernel
theorem dX7_pointBy_182 : decode cX7_pointBy 182 = .ok (.iload_n 3, 1) := by decide +kernel
theorem dX7_pointBy_183 : decode cX7_pointBy 183 = .ok (.aload_n 0, 1) := by decide +kernel
theorem dX7_pointBy_184 : decode cX7_pointBy 184 = .ok (.getfield 7, 3) := by decide +kernel
theorem dX7_pointBy_187 : decode cX7_pointBy 187 = .ok (.if_icmp .gt 49, 3) := by decide +kernel
theorem dX7_pointBy_190 : decode cX7_pointBy 190 = .ok (.aload_n 0, 1) := by decide +kernel
theorem dX7_pointBy_191 : decode cX7_pointBy 191 = .ok (.lconst 1, 1) := by decide +kernel
theorem dX7_pointBy_192 : decode cX7_pointBy 192 = .ok (.iload_n 2, 1) := by decide +kernel
theorem dX7_pointBy_193 : decode cX7_pointBy 193 = .ok (.lshl, 1) := by decide +kernel
theorem dX7_pointBy_194 : decode cX7_pointBy 194 = .ok (.lconst 1, 1) := by decide +kernel
theorem dX7_pointBy_195 : decode cX7_pointBy 195 = .ok (.aload_n 0, 1) := by decide +kernel
theorem dX7_pointBy_196 : decode cX7_pointBy 196 = .ok (.getfield 70, 3) := by decide +kernel
theorem dX7_pointBy_199 : decode cX7_pointBy 199 = .ok (.iload_n 3, 1) := by decide +kernel
theorem dX7_pointBy_200 : decode cX7_pointBy 200 = .ok (.laload, 1) := by decide +kernel
theorem dX7_pointBy_201 : decode cX7_pointBy 201 = .ok (.aload_n 0, 1) := by decide +kernel
theorem dX7_pointBy_202 : decode cX7_pointBy 202 = .ok (.getfield 73, 3) := by decide +kernel
theorem dX7_pointBy_205 : decode cX7_pointBy 205 = .ok (.iload_n 3, 1) := by decide +kernel
theorem dX7_pointBy_206 : decode cX7_pointBy 206 = .ok (.laload, 1) := by decide +kernel
theorem dX7_pointBy_207 : decode cX7_pointBy 207 = .ok (.invokevirtual 179, 3) := by decide +kernel
theorem dX7_pointBy_210 : decode cX7_pointBy 210 = .ok (.aload_n 0, 1) := by decide +kernel
theorem dX7_pointBy_211 : decode cX7_pointBy 211 = .ok (.getfield 76, 3) := by decide +kernel
theorem dX7_pointBy_214 : decode cX7_pointBy 214 = .ok (.iload_n 3, 1) := by decide +kernel
theorem dX7_pointBy_215 : decode cX7_pointBy 215 = .ok (.aload_n 0, 1) := by decide +kernel
theorem dX7_pointBy_216 : decode cX7_pointBy 216 = .ok (.getfield 147, 3) := by decide +kernel
theorem dX7_pointBy_219 : decode cX7_pointBy 219 = .ok (.lastore, 1) := by decide +kernel
theorem dX7_pointBy_220 : decode cX7_pointBy 220 = .ok (.aload_n 0, 1) := by decide +kernel
theorem dX7_pointBy_221 : decode cX7_pointBy 221 = .ok (.getfield 79, 3) := by decide +kernel
theorem dX7_pointBy_224 : decode cX7_pointBy 224 = .ok (.iload_n 3, 1) := by decide +kernel
theorem dX7_pointBy_225 : decode cX7_pointBy 225 = .ok (.aload_n 0, 1) := by decide +kernel
theorem dX7_pointBy_226 : decode cX7_pointBy 226 = .ok (.getfield 151, 3) := by decide +kernel
theorem dX7_pointBy_229 : decode cX7_pointBy 229 = .ok (.lastore, 1) := by decide +kernel
theorem dX7_pointBy_230 : decode cX7_pointBy 230 = .ok (.iinc 3 1, 3) := by decide +kernel
theorem dX7_pointBy_233 : decode cX7_pointBy 233 = .ok (.goto (-51), 3) := by decide +kernel
theorem dX7_pointBy_236 : decode cX7_pointBy 236 = .ok (.aload_n 0, 1) := by decide +kernel
theorem dX7_pointBy_237 : decode cX7_pointBy 237 = .ok (.iload_n 1, 1) := by decide +kernel
theorem dX7_pointBy_238 : decode cX7_pointBy 238 = .ok (.invokevirtual 233, 3) := by decide +kernel
theorem dX7_pointBy_241 : decode cX7_pointBy 241 = .ok (.istore_n 3, 1) := by decide +kernel
theorem dX7_pointBy_242 : decode cX7_pointBy 242 = .ok (.aload_n 0, 1) := by decide +kernel
theorem dX7_pointBy_243 : decode cX7_pointBy 243 = .ok (.invokevirtual 154, 3) := by decide +kernel
theorem dX7_pointBy_246 : decode cX7_pointBy 246 = .ok (.ifCond .eq 5, 3) := by decide +kernel
theorem dX7_pointBy_249 : decode cX7_pointBy 249 = .ok (.iconst 0, 1) := by decide +kernel
theorem dX7_pointBy_250 : decode cX7_pointBy 250 = .ok (.ireturn, 1) := by decide +kernel
theorem dX7_pointBy_251 : decode cX7_pointBy 251 = .ok (.iload_n 3, 1) := by decide +kernel
theorem dX7_pointBy_252 : decode cX7_pointBy 252 = .ok (.ifCond .eq 5, 3) := by decide +kernel
theorem dX7_pointBy_255 : decode cX7_pointBy 255 = .ok (.iconst 1, 1) := by decide +kernel
theorem dX7_pointBy_256 : decode cX7_pointBy 256 = .ok (.ireturn, 1) := by decide +kernel
theorem dX7_pointBy_257 : decode cX7_pointBy 257 = .ok (.iinc 2 1, 3) := by decide +kernel
theorem dX7_pointBy_260 : decode cX7_pointBy 260 = .ok (.goto (-86), 3) := by decide +kernel
theorem dX7_pointBy_263 : decode cX7_pointBy 263 = .ok (.iconst 0, 1) := by decide +kernel
theorem dX7_pointBy_264 : decode cX7_pointBy 264 = .ok (.ireturn, 1) := by decide +kernel
theorem dX7_isBelow_0 : decode cX7_isBelow 0 = .ok (.aload_n 0, 1) := by decide +kernel
theorem dX7_isBelow_1 : decode cX7_isBelow 1 = .ok (.getfield 76, 3) := by decide +kernel
theorem dX7_isBelow_4 : decode cX7_isBelow 4 = .ok (.iconst 0, 1) := by decide +kernel
theorem dX7_isBelow_5 : decode cX7_isBelow 5 = .ok (.lconst 1, 1) := by decide +kernel
theorem dX7_isBelow_6 : decode cX7_isBelow 6 = .ok (.lastore, 1) := by decide +kernel
theorem dX7_isBelow_7 : decode cX7_isBelow 7 = .ok (.aload_n 0, 1) := by decide +kernel
theorem dX7_isBelow_8 : decode cX7_isBelow 8 = .ok (.getfield 79, 3) := by decide +kernel
theorem dX7_isBelow_11 : decode cX7_isBelow 11 = .ok (.iconst 0, 1) := by decide +kernel
theorem dX7_isBelow_12 : decode cX7_isBelow 12 = .ok (.lconst 1, 1) := by decide +kernel
theorem dX7_isBelow_13 : decode cX7_isBelow 13 = .ok (.lastore, 1) := by decide +kernel
theorem dX7_isBelow_14 : decode cX7_isBelow 14 = .ok (.lconst 0, 1) := by decide +kernel
theorem dX7_isBelow_15 : decode cX7_isBelow 15 = .ok (.lstore_n 2, 1) := by decide +kernel
theorem dX7_isBelow_16 : decode cX7_isBelow 16 = .ok (.lconst 1, 1) := by decide +kernel
theorem dX7_isBelow_17 : decode cX7_isBelow 17 = .ok (.lstore 4, 2) := by decide +kernel
theorem dX7_isBelow_19 : decode cX7_isBelow 19 = .ok (.iconst 0, 1) := by decide +kernel
theorem dX7_isBelow_20 : decode cX7_isBelow 20 = .ok (.istore 6, 2) := by decide +kernel
theorem dX7_isBelow_22 : decode cX7_isBelow 22 = .ok (.iload 6, 2) := by decide +kernel
theorem dX7_isBelow_24 : decode cX7_isBelow 24 = .ok (.aload_n 0, 1) := by decide +kernel
theorem dX7_isBelow_25 : decode cX7_isBelow 25 = .ok (.getfield 7, 3) := by decide +kernel
theorem dX7_isBelow_28 : decode cX7_isBelow 28 = .ok (.if_icmp .gt 118, 3) := by decide +kernel
theorem dX7_isBelow_31 : decode cX7_isBelow 31 = .ok (.iload 6, 2) := by decide +kernel
theorem dX7_isBelow_33 : decode cX7_isBelow 33 = .ok (.istore 7, 2) := by decide +kernel
theorem dX7_isBelow_35 : decode cX7_isBelow 35 = .ok (.iload 7, 2) := by decide +kernel
theorem dX7_isBelow_37 : decode cX7_isBelow 37 = .ok (.aload_n 0, 1) := by decide +kernel
theorem dX7_isBelow_38 : decode cX7_isBelow 38 = .ok (.getfield 7, 3) := by decide +kernel
theorem dX7_isBelow_41 : decode cX7_isBelow 41 = .ok (.if_icmp .gt 99, 3) := by decide +kernel
theorem dX7_isBelow_44 : decode cX7_isBelow 44 = .ok (.aload_n 0, 1) := by decide +kernel
theorem dX7_isBelow_45 : decode cX7_isBelow 45 = .ok (.aload_n 0, 1) := by decide +kernel
theorem dX7_isBelow_46 : decode cX7_isBelow 46 = .ok (.getfield 13, 3) := by decide +kernel
theorem dX7_isBelow_49 : decode cX7_isBelow 49 = .ok (.bipush 25, 2) := by decide +kernel
theorem dX7_isBelow_51 : decode cX7_isBelow 51 = .ok (.iload_n 1, 1) := by decide +kernel
theorem dX7_isBelow_52 : decode cX7_isBelow 52 = .ok (.imul, 1) := by decide +kernel
theorem dX7_isBelow_53 : decode cX7_isBelow 53 = .ok (.aload_n 0, 1) := by decide +kernel
theorem dX7_isBelow_54 : decode cX7_isBelow 54 = .ok (.iload 6, 2) := by decide +kernel
theorem dX7_isBelow_56 : decode cX7_isBelow 56 = .ok (.iload 7, 2) := by decide +kernel
theorem dX7_isBelow_58 : decode cX7_isBelow 58 = .ok (.invokevirtual 125, 3) := by decide +kernel
theorem dX7_isBelow_61 : decode cX7_isBelow 61 = .ok (.iadd, 1) := by decide +kernel
theorem dX7_isBelow_62 : decode cX7_isBelow 62 = .ok (.iaload, 1) := by decide +kernel
theorem dX7_isBelow_63 : decode cX7_isBelow 63 = .ok (.i2l, 1) := by decide +kernel
theorem dX7_isBelow_64 : decode cX7_isBelow 64 = .ok (.lconst 1, 1) := by decide +kernel
theorem dX7_isBelow_65 : decode cX7_isBelow 65 = .ok (.aload_n 0, 1) := by decide +kernel
theorem dX7_isBelow_66 : decode cX7_isBelow 66 = .ok (.getfield 76, 3) := by decide +kernel
theorem dX7_isBelow_69 : decode cX7_isBelow 69 = .ok (.iload 6, 2) := by decide +kernel
theorem dX7_isBelow_71 : decode cX7_isBelow 71 = .ok (.laload, 1) := by decide +kernel
theorem dX7_isBelow_72 : decode cX7_isBelow 72 = .ok (.aload_n 0, 1) := by decide +kernel
theorem dX7_isBelow_73 : decode cX7_isBelow 73 = .ok (.getfield 79, 3) := by decide +kernel
theorem dX7_isBelow_76 : decode cX7_isBelow 76 = .ok (.iload 6, 2) := by decide +kernel
theorem dX7_isBelow_78 : decode cX7_isBelow 78 = .ok (.laload, 1) := by decide +kernel
theorem dX7_isBelow_79 : decode cX7_isBelow 79 = .ok (.invokevirtual 179, 3) := by decide +kernel
theorem dX7_isBelow_82 : decode cX7_isBelow 82 = .ok (.aload_n 0, 1) := by decide +kernel
theorem dX7_isBelow_83 : decode cX7_isBelow 83 = .ok (.aload_n 0, 1) := by decide +kernel
theorem dX7_isBelow_84 : decode cX7_isBelow 84 = .ok (.getfield 147, 3) := by decide +kernel
theorem dX7_isBelow_87 : decode cX7_isBelow 87 = .ok (.aload_n 0, 1) := by decide +kernel
theorem dX7_isBelow_88 : decode cX7_isBelow 88 = .ok (.getfield 151, 3) := by decide +kernel
theorem dX7_isBelow_91 : decode cX7_isBelow 91 = .ok (.aload_n 0, 1) := by decide +kernel
theorem dX7_isBelow_92 : decode cX7_isBelow 92 = .ok (.getfield 76, 3) := by decide +kernel
theorem dX7_isBelow_95 : decode cX7_isBelow 95 = .ok (.iload 7, 2) := by decide +kernel
theorem dX7_isBelow_97 : decode cX7_isBelow 97 = .ok (.laload, 1) := by decide +kernel
theorem dX7_isBelow_98 : decode cX7_isBelow 98 = .ok (.aload_n 0, 1) := by decide +kernel
theorem dX7_isBelow_99 : decode cX7_isBelow 99 = .ok (.getfield 79, 3) := by decide +kernel
theorem dX7_isBelow_102 : decode cX7_isBelow 102 = .ok (.iload 7, 2) := by decide +kernel
theorem dX7_isBelow_104 : decode cX7_isBelow 104 = .ok (.laload, 1) := by decide +kernel
theorem dX7_isBelow_105 : decode cX7_isBelow 105 = .ok (.invokevirtual 179, 3) := by decide +kernel
theorem dX7_isBelow_108 : decode cX7_isBelow 108 = .ok (.aload_n 0, 1) := by decide +kernel
theorem dX7_isBelow_109 : decode cX7_isBelow 109 = .ok (.lload_n 2, 1) := by decide +kernel
theorem dX7_isBelow_110 : decode cX7_isBelow 110 = .ok (.lload 4, 2) := by decide +kernel
theorem dX7_isBelow_112 : decode cX7_isBelow 112 = .ok (.aload_n 0, 1) := by decide +kernel
theorem dX7_isBelow_113 : decode cX7_isBelow 113 = .ok (.getfield 147, 3) := by decide +kernel
theorem dX7_isBelow_116 : decode cX7_isBelow 116 = .ok (.aload_n 0, 1) := by decide +kernel
theorem dX7_isBelow_117 : decode cX7_isBelow 117 = .ok (.getfield 151, 3) := by decide +kernel
theorem dX7_isBelow_120 : decode cX7_isBelow 120 = .ok (.invokevirtual 224, 3) := by decide +kernel
theorem dX7_isBelow_123 : decode cX7_isBelow 123 = .ok (.aload_n 0, 1) := by decide +kernel
theorem dX7_isBelow_124 : decode cX7_isBelow 124 = .ok (.getfield 147, 3) := by decide +kernel
theorem dX7_isBelow_127 : decode cX7_isBelow 127 = .ok (.lstore_n 2, 1) := by decide +kernel
theorem dX7_isBelow_128 : decode cX7_isBelow 128 = .ok (.aload_n 0, 1) := by decide +kernel
theorem dX7_isBelow_129 : decode cX7_isBelow 129 = .ok (.getfield 151, 3) := by decide +kernel
theorem dX7_isBelow_132 : decode cX7_isBelow 132 = .ok (.lstore 4, 2) := by decide +kernel
theorem dX7_isBelow_134 : decode cX7_isBelow 134 = .ok (.iinc 7 1, 3) := by decide +kernel
theorem dX7_isBelow_137 : decode cX7_isBelow 137 = .ok (.goto (-102), 3) := by decide +kernel
theorem dX7_isBelow_140 : decode cX7_isBelow 140 = .ok (.iinc 6 1, 3) := by decide +kernel
theorem dX7_isBelow_143 : decode cX7_isBelow 143 = .ok (.goto (-121), 3) := by decide +kernel
theorem dX7_isBelow_146 : decode cX7_isBelow 146 = .ok (.lload_n 2, 1) := by decide +kernel
theorem dX7_isBelow_147 : decode cX7_isBelow 147 = .ok (.lconst 0, 1) := by decide +kernel
theorem dX7_isBelow_148 : decode cX7_isBelow 148 = .ok (.lcmp, 1) := by decide +kernel
theorem dX7_isBelow_149 : decode cX7_isBelow 149 = .ok (.ifCond .ge 7, 3) := by decide +kernel
theorem dX7_isBelow_152 : decode cX7_isBelow 152 = .ok (.iconst 1, 1) := by decide +kernel
theorem dX7_isBelow_153 : decode cX7_isBelow 153 = .ok (.goto 4, 3) := by decide +kernel
theorem dX7_isBelow_156 : decode cX7_isBelow 156 = .ok (.iconst 0, 1) := by decide +kernel
theorem dX7_isBelow_157 : decode cX7_isBelow 157 = .ok (.ireturn, 1) := by decide +kernel
theorem dX7_beginProof_0 : decode cX7_beginProof 0 = .ok (.aload_n 0, 1) := by decide +kernel
theorem dX7_beginProof_1 : decode cX7_beginProof 1 = .ok (.dup, 1) := by decide +kernel
theorem dX7_beginProof_2 : decode cX7_beginProof 2 = .ok (.getfield 106, 3) := by decide +kernel
theorem dX7_beginProof_5 : decode cX7_beginProof 5 = .ok (.iconst 1, 1) := by decide +kernel
theorem dX7_beginProof_6 : decode cX7_beginProof 6 = .ok (.iadd, 1) := by decide +kernel
theorem dX7_beginProof_7 : decode cX7_beginProof 7 = .ok (.putfield 106, 3) := by decide +kernel
theorem dX7_beginProof_10 : decode cX7_beginProof 10 = .ok (.aload_n 0, 1) := by decide +kernel
theorem dX7_beginProof_11 : decode cX7_beginProof 11 = .ok (.iload_n 1, 1) := by decide +kernel
theorem dX7_beginProof_12 : decode cX7_beginProof 12 = .ok (.putfield 236, 3) := by decide +kernel
theorem dX7_beginProof_15 : decode cX7_beginProof 15 = .ok (.aload_n 0, 1) := by decide +kernel
theorem dX7_beginProof_16 : decode cX7_beginProof 16 = .ok (.iload_n 2, 1) := by decide +kernel
theorem dX7_beginProof_17 : decode cX7_beginProof 17 = .ok (.putfield 239, 3) := by decide +kernel
theorem dX7_beginProof_20 : decode cX7_beginProof 20 = .ok (.aload_n 0, 1) := by decide +kernel
theorem dX7_beginProof_21 : decode cX7_beginProof 21 = .ok (.iconst 0, 1) := by decide +kernel
theorem dX7_beginProof_22 : decode cX7_beginProof 22 = .ok (.putfield 242, 3) := by decide +kernel
theorem dX7_beginProof_25 : decode cX7_beginProof 25 = .ok (.aload_n 0, 1) := by decide +kernel
theorem dX7_beginProof_26 : decode cX7_beginProof 26 = .ok (.iconst 1, 1) := by decide +kernel
theorem dX7_beginProof_27 : decode cX7_beginProof 27 = .ok (.putfield 245, 3) := by decide +kernel
theorem dX7_beginProof_30 : decode cX7_beginProof 30 = .ok (.aload_n 0, 1) := by decide +kernel
theorem dX7_beginProof_31 : decode cX7_beginProof 31 = .ok (.iconst 0, 1) := by decide +kernel
theorem dX7_beginProof_32 : decode cX7_beginProof 32 = .ok (.putfield 248, 3) := by decide +kernel
theorem dX7_beginProof_35 : decode cX7_beginProof 35 = .ok (.aload_n 0, 1) := by decide +kernel
theorem dX7_beginProof_36 : decode cX7_beginProof 36 = .ok (.iconst 0, 1) := by decide +kernel
theorem dX7_beginProof_37 : decode cX7_beginProof 37 = .ok (.putfield 112, 3) := by decide +kernel
theorem dX7_beginProof_40 : decode cX7_beginProof 40 = .ok (.return_, 1) := by decide +kernel
theorem dX7_end_0 : decode cX7_end 0 = .ok (.aload_n 0, 1) := by decide +kernel
theorem dX7_end_1 : decode cX7_end 1 = .ok (.iload_n 1, 1) := by decide +kernel
theorem dX7_end_2 : decode cX7_end 2 = .ok (.putfield 94, 3) := by decide +kernel
theorem dX7_end_5 : decode cX7_end 5 = .ok (.aload_n 0, 1) := by decide +kernel
theorem dX7_end_6 : decode cX7_end 6 = .ok (.iload_n 1, 1) := by decide +kernel
theorem dX7_end_7 : decode cX7_end 7 = .ok (.iconst 1, 1) := by decide +kernel
theorem dX7_end_8 : decode cX7_end 8 = .ok (.if_icmp .ne 10, 3) := by decide +kernel
theorem dX7_end_11 : decode cX7_end 11 = .ok (.aload_n 0, 1) := by decide +kernel
theorem dX7_end_12 : decode cX7_end 12 = .ok (.getfield 109, 3) := by decide +kernel
theorem dX7_end_15 : decode cX7_end 15 = .ok (.goto 4, 3) := by decide +kernel
theorem dX7_end_18 : decode cX7_end 18 = .ok (.iconst 0, 1) := by decide +kernel
theorem dX7_end_19 : decode cX7_end 19 = .ok (.putfield 109, 3) := by decide +kernel
theorem dX7_end_22 : decode cX7_end 22 = .ok (.aload_n 0, 1) := by decide +kernel
theorem dX7_end_23 : decode cX7_end 23 = .ok (.iload_n 1, 1) := by decide +kernel
theorem dX7_end_24 : decode cX7_end 24 = .ok (.ifCond .ne 7, 3) := by decide +kernel
theorem dX7_end_27 : decode cX7_end 27 = .ok (.iconst 1, 1) := by decide +kernel
theorem dX7_end_28 : decode cX7_end 28 = .ok (.goto 4, 3) := by decide +kernel
theorem dX7_end_31 : decode cX7_end 31 = .ok (.iconst 0, 1) := by decide +kernel
theorem dX7_end_32 : decode cX7_end 32 = .ok (.putfield 112, 3) := by decide +kernel
theorem dX7_end_35 : decode cX7_end 35 = .ok (.iload_n 1, 1) := by decide +kernel
theorem dX7_end_36 : decode cX7_end 36 = .ok (.ireturn, 1) := by decide +kernel
theorem dX7_prove_0 : decode cX7_prove 0 = .ok (.aload_n 0, 1) := by decide +kernel
theorem dX7_prove_1 : decode cX7_prove 1 = .ok (.iload_n 1, 1) := by decide +kernel
theorem dX7_prove_2 : decode cX7_prove 2 = .ok (.invokevirtual 116, 3) := by decide +kernel
theorem dX7_prove_5 : decode cX7_prove 5 = .ok (.ifCond .ne 5, 3) := by decide +kernel
theorem dX7_prove_8 : decode cX7_prove 8 = .ok (.iconst (-1), 1) := by decide +kernel
theorem dX7_prove_9 : decode cX7_prove 9 = .ok (.ireturn, 1) := by decide +kernel
theorem dX7_prove_10 : decode cX7_prove 10 = .ok (.aload_n 0, 1) := by decide +kernel
theorem dX7_prove_11 : decode cX7_prove 11 = .ok (.iload_n 1, 1) := by decide +kernel
theorem dX7_prove_12 : decode cX7_prove 12 = .ok (.iconst (-1), 1) := by decide +kernel
theorem dX7_prove_13 : decode cX7_prove 13 = .ok (.invokevirtual 251, 3) := by decide +kernel
theorem dX7_prove_16 : decode cX7_prove 16 = .ok (.aload_n 0, 1) := by decide +kernel
theorem dX7_prove_17 : decode cX7_prove 17 = .ok (.iload_n 1, 1) := by decide +kernel
theorem dX7_prove_18 : decode cX7_prove 18 = .ok (.invokevirtual 215, 3) := by decide +kernel
theorem dX7_prove_21 : decode cX7_prove 21 = .ok (.aload_n 0, 1) := by decide +kernel
theorem dX7_prove_22 : decode cX7_prove 22 = .ok (.invokevirtual 254, 3) := by decide +kernel
theorem dX7_prove_25 : decode cX7_prove 25 = .ok (.aload_n 0, 1) := by decide +kernel
theorem dX7_prove_26 : decode cX7_prove 26 = .ok (.invokevirtual 257, 3) := by decide +kernel
theorem dX7_prove_29 : decode cX7_prove 29 = .ok (.istore_n 2, 1) := by decide +kernel
theorem dX7_prove_30 : decode cX7_prove 30 = .ok (.iload_n 2, 1) := by decide +kernel
theorem dX7_prove_31 : decode cX7_prove 31 = .ok (.ifCond .ne 17, 3) := by decide +kernel
theorem dX7_prove_34 : decode cX7_prove 34 = .ok (.aload_n 0, 1) := by decide +kernel
theorem dX7_prove_35 : decode cX7_prove 35 = .ok (.iload_n 1, 1) := by decide +kernel
theorem dX7_prove_36 : decode cX7_prove 36 = .ok (.invokevirtual 261, 3) := by decide +kernel
theorem dX7_prove_39 : decode cX7_prove 39 = .ok (.ifCond .eq 7, 3) := by decide +kernel
theorem dX7_prove_42 : decode cX7_prove 42 = .ok (.iconst 0, 1) := by decide +kernel
theorem dX7_prove_43 : decode cX7_prove 43 = .ok (.goto 4, 3) := by decide +kernel
theorem dX7_prove_46 : decode cX7_prove 46 = .ok (.iconst 2, 1) := by decide +kernel
theorem dX7_prove_47 : decode cX7_prove 47 = .ok (.istore_n 2, 1) := by decide +kernel
theorem dX7_prove_48 : decode cX7_prove 48 = .ok (.aload_n 0, 1) := by decide +kernel
theorem dX7_prove_49 : decode cX7_prove 49 = .ok (.iload_n 2, 1) := by decide +kernel
theorem dX7_prove_50 : decode cX7_prove 50 = .ok (.invokevirtual 264, 3) := by decide +kernel
theorem dX7_prove_53 : decode cX7_prove 53 = .ok (.ireturn, 1) := by decide +kernel
theorem dX7_isLowest_0 : decode cX7_isLowest 0 = .ok (.iload_n 1, 1) := by decide +kernel
theorem dX7_isLowest_1 : decode cX7_isLowest 1 = .ok (.istore_n 3, 1) := by decide +kernel
theorem dX7_isLowest_2 : decode cX7_isLowest 2 = .ok (.iload_n 2, 1) := by decide +kernel
theorem dX7_isLowest_3 : decode cX7_isLowest 3 = .ok (.istore 4, 2) := by decide +kernel
theorem dX7_isLowest_5 : decode cX7_isLowest 5 = .ok (.iload 4, 2) := by decide +kernel
theorem dX7_isLowest_7 : decode cX7_isLowest 7 = .ok (.ifCond .eq 19, 3) := by decide +kernel
theorem dX7_isLowest_10 : decode cX7_isLowest 10 = .ok (.iload_n 3, 1) := by decide +kernel
theorem dX7_isLowest_11 : decode cX7_isLowest 11 = .ok (.iload 4, 2) := by decide +kernel
theorem dX7_isLowest_13 : decode cX7_isLowest 13 = .ok (.irem, 1) := by decide +kernel
theorem dX7_isLowest_14 : decode cX7_isLowest 14 = .ok (.istore 5, 2) := by decide +kernel
theorem dX7_isLowest_16 : decode cX7_isLowest 16 = .ok (.iload 4, 2) := by decide +kernel
theorem dX7_isLowest_18 : decode cX7_isLowest 18 = .ok (.istore_n 3, 1) := by decide +kernel
theorem dX7_isLowest_19 : decode cX7_isLowest 19 = .ok (.iload 5, 2) := by decide +kernel
theorem dX7_isLowest_21 : decode cX7_isLowest 21 = .ok (.istore 4, 2) := by decide +kernel
theorem dX7_isLowest_23 : decode cX7_isLowest 23 = .ok (.goto (-18), 3) := by decide +kernel
theorem dX7_isLowest_26 : decode cX7_isLowest 26 = .ok (.iload_n 3, 1) := by decide +kernel
theorem dX7_isLowest_27 : decode cX7_isLowest 27 = .ok (.iconst 1, 1) := by decide +kernel
theorem dX7_isLowest_28 : decode cX7_isLowest 28 = .ok (.if_icmp .ne 7, 3) := by decide +kernel
theorem dX7_isLowest_31 : decode cX7_isLowest 31 = .ok (.iconst 1, 1) := by decide +kernel
theorem dX7_isLowest_32 : decode cX7_isLowest 32 = .ok (.goto 4, 3) := by decide +kernel
theorem dX7_isLowest_35 : decode cX7_isLowest 35 = .ok (.iconst 0, 1) := by decide +kernel
theorem dX7_isLowest_36 : decode cX7_isLowest 36 = .ok (.ireturn, 1) := by decide +kernel
theorem dX7_isDoneBy_0 : decode cX7_isDoneBy 0 = .ok (.aload_n 0, 1) := by decide +kernel
theorem dX7_isDoneBy_1 : decode cX7_isDoneBy 1 = .ok (.aload_n 0, 1) := by decide +kernel
theorem dX7_isDoneBy_2 : decode cX7_isDoneBy 2 = .ok (.getfield 239, 3) := by decide +kernel
theorem dX7_isDoneBy_5 : decode cX7_isDoneBy 5 = .ok (.invokevirtual 215, 3) := by decide +kernel
theorem dX7_isDoneBy_8 : decode cX7_isDoneBy 8 = .ok (.iconst 0, 1) := by decide +kernel
theorem dX7_isDoneBy_9 : decode cX7_isDoneBy 9 = .ok (.istore_n 3, 1) := by decide +kernel
theorem dX7_isDoneBy_10 : decode cX7_isDoneBy 10 = .ok (.iload_n 3, 1) := by decide +kernel
theorem dX7_isDoneBy_11 : decode cX7_isDoneBy 11 = .ok (.bipush 25, 2) := by decide +kernel
theorem dX7_isDoneBy_13 : decode cX7_isDoneBy 13 = .ok (.if_icmp .ge 33, 3) := by decide +kernel
theorem dX7_isDoneBy_16 : decode cX7_isDoneBy 16 = .ok (.aload_n 0, 1) := by decide +kernel
theorem dX7_isDoneBy_17 : decode cX7_isDoneBy 17 = .ok (.getfield 82, 3) := by decide +kernel
theorem dX7_isDoneBy_20 : decode cX7_isDoneBy 20 = .ok (.iload_n 3, 1) := by decide +kernel
theorem dX7_isDoneBy_21 : decode cX7_isDoneBy 21 = .ok (.aload_n 0, 1) := by decide +kernel
theorem dX7_isDoneBy_22 : decode cX7_isDoneBy 22 = .ok (.getfield 20, 3) := by decide +kernel
theorem dX7_isDoneBy_25 : decode cX7_isDoneBy 25 = .ok (.iload_n 3, 1) := by decide +kernel
theorem dX7_isDoneBy_26 : decode cX7_isDoneBy 26 = .ok (.laload, 1) := by decide +kernel
theorem dX7_isDoneBy_27 : decode cX7_isDoneBy 27 = .ok (.lastore, 1) := by decide +kernel
theorem dX7_isDoneBy_28 : decode cX7_isDoneBy 28 = .ok (.aload_n 0, 1) := by decide +kernel
theorem dX7_isDoneBy_29 : decode cX7_isDoneBy 29 = .ok (.getfield 85, 3) := by decide +kernel
theorem dX7_isDoneBy_32 : decode cX7_isDoneBy 32 = .ok (.iload_n 3, 1) := by decide +kernel
theorem dX7_isDoneBy_33 : decode cX7_isDoneBy 33 = .ok (.aload_n 0, 1) := by decide +kernel
theorem dX7_isDoneBy_34 : decode cX7_isDoneBy 34 = .ok (.getfield 24, 3) := by decide +kernel
theorem dX7_isDoneBy_37 : decode cX7_isDoneBy 37 = .ok (.iload_n 3, 1) := by decide +kernel
theorem dX7_isDoneBy_38 : decode cX7_isDoneBy 38 = .ok (.laload, 1) := by decide +kernel
theorem dX7_isDoneBy_39 : decode cX7_isDoneBy 39 = .ok (.lastore, 1) := by decide +kernel
theorem dX7_isDoneBy_40 : decode cX7_isDoneBy 40 = .ok (.iinc 3 1, 3) := by decide +kernel
theorem dX7_isDoneBy_43 : decode cX7_isDoneBy 43 = .ok (.goto (-33), 3) := by decide +kernel
theorem dX7_isDoneBy_46 : decode cX7_isDoneBy 46 = .ok (.aload_n 0, 1) := by decide +kernel
theorem dX7_isDoneBy_47 : decode cX7_isDoneBy 47 = .ok (.aload_n 0, 1) := by decide +kernel
theorem dX7_isDoneBy_48 : decode cX7_isDoneBy 48 = .ok (.getfield 236, 3) := by decide +kernel
theorem dX7_isDoneBy_51 : decode cX7_isDoneBy 51 = .ok (.invokevirtual 215, 3) := by decide +kernel
theorem dX7_isDoneBy_54 : decode cX7_isDoneBy 54 = .ok (.aload_n 0, 1) := by decide +kernel
theorem dX7_isDoneBy_55 : decode cX7_isDoneBy 55 = .ok (.invokevirtual 195, 3) := by decide +kernel
theorem dX7_isDoneBy_58 : decode cX7_isDoneBy 58 = .ok (.iconst 0, 1) := by decide +kernel
theorem dX7_isDoneBy_59 : decode cX7_isDoneBy 59 = .ok (.istore_n 3, 1) := by decide +kernel
theorem dX7_isDoneBy_60 : decode cX7_isDoneBy 60 = .ok (.iload_n 3, 1) := by decide +kernel
theorem dX7_isDoneBy_61 : decode cX7_isDoneBy 61 = .ok (.aload_n 0, 1) := by decide +kernel
theorem dX7_isDoneBy_62 : decode cX7_isDoneBy 62 = .ok (.getfield 7, 3) := by decide +kernel
theorem dX7_isDoneBy_65 : decode cX7_isDoneBy 65 = .ok (.if_icmp .gt 90, 3) := by decide +kernel
theorem dX7_isDoneBy_68 : decode cX7_isDoneBy 68 = .ok (.iload_n 3, 1) := by decide +kernel
theorem dX7_isDoneBy_69 : decode cX7_isDoneBy 69 = .ok (.istore 4, 2) := by decide +kernel
theorem dX7_isDoneBy_71 : decode cX7_isDoneBy 71 = .ok (.iload 4, 2) := by decide +kernel
theorem dX7_isDoneBy_73 : decode cX7_isDoneBy 73 = .ok (.aload_n 0, 1) := by decide +kernel
theorem dX7_isDoneBy_74 : decode cX7_isDoneBy 74 = .ok (.getfield 7, 3) := by decide +kernel
theorem dX7_isDoneBy_77 : decode cX7_isDoneBy 77 = .ok (.if_icmp .gt 72, 3) := by decide +kernel
theorem dX7_isDoneBy_80 : decode cX7_isDoneBy 80 = .ok (.iconst 5, 1) := by decide +kernel
theorem dX7_isDoneBy_81 : decode cX7_isDoneBy 81 = .ok (.iload_n 3, 1) := by decide +kernel
theorem dX7_isDoneBy_82 : decode cX7_isDoneBy 82 = .ok (.imul, 1) := by decide +kernel
theorem dX7_isDoneBy_83 : decode cX7_isDoneBy 83 = .ok (.iload 4, 2) := by decide +kernel
theorem dX7_isDoneBy_85 : decode cX7_isDoneBy 85 = .ok (.iadd, 1) := by decide +kernel
theorem dX7_isDoneBy_86 : decode cX7_isDoneBy 86 = .ok (.istore 5, 2) := by decide +kernel
theorem dX7_isDoneBy_88 : decode cX7_isDoneBy 88 = .ok (.aload_n 0, 1) := by decide +kernel
theorem dX7_isDoneBy_89 : decode cX7_isDoneBy 89 = .ok (.iload_n 1, 1) := by decide +kernel
theorem dX7_isDoneBy_90 : decode cX7_isDoneBy 90 = .ok (.i2l, 1) := by decide +kernel
theorem dX7_isDoneBy_91 : decode cX7_isDoneBy 91 = .ok (.iload_n 2, 1) := by decide +kernel
theorem dX7_isDoneBy_92 : decode cX7_isDoneBy 92 = .ok (.i2l, 1) := by decide +kernel
theorem dX7_isDoneBy_93 : decode cX7_isDoneBy 93 = .ok (.aload_n 0, 1) := by decide +kernel
theorem dX7_isDoneBy_94 : decode cX7_isDoneBy 94 = .ok (.getfield 82, 3) := by decide +kernel
theorem dX7_isDoneBy_97 : decode cX7_isDoneBy 97 = .ok (.iload 5, 2) := by decide +kernel
theorem dX7_isDoneBy_99 : decode cX7_isDoneBy 99 = .ok (.laload, 1) := by decide +kernel
theorem dX7_isDoneBy_100 : decode cX7_isDoneBy 100 = .ok (.aload_n 0, 1) := by decide +kernel
theorem dX7_isDoneBy_101 : decode cX7_isDoneBy 101 = .ok (.getfield 85, 3) := by decide +kernel
theorem dX7_isDoneBy_104 : decode cX7_isDoneBy 104 = .ok (.iload 5, 2) := by decide +kernel
theorem dX7_isDoneBy_106 : decode cX7_isDoneBy 106 = .ok (.laload, 1) := by decide +kernel
theorem dX7_isDoneBy_107 : decode cX7_isDoneBy 107 = .ok (.invokevirtual 179, 3) := by decide +kernel
theorem dX7_isDoneBy_110 : decode cX7_isDoneBy 110 = .ok (.aload_n 0, 1) := by decide +kernel
theorem dX7_isDoneBy_111 : decode cX7_isDoneBy 111 = .ok (.aload_n 0, 1) := by decide +kernel
theorem dX7_isDoneBy_112 : decode cX7_isDoneBy 112 = .ok (.getfield 20, 3) := by decide +kernel
theorem dX7_isDoneBy_115 : decode cX7_isDoneBy 115 = .ok (.iload 5, 2) := by decide +kernel
theorem dX7_isDoneBy_117 : decode cX7_isDoneBy 117 = .ok (.laload, 1) := by decide +kernel
theorem dX7_isDoneBy_118 : decode cX7_isDoneBy 118 = .ok (.aload_n 0, 1) := by decide +kernel
theorem dX7_isDoneBy_119 : decode cX7_isDoneBy 119 = .ok (.getfield 24, 3) := by decide +kernel
theorem dX7_isDoneBy_122 : decode cX7_isDoneBy 122 = .ok (.iload 5, 2) := by decide +kernel
theorem dX7_isDoneBy_124 : decode cX7_isDoneBy 124 = .ok (.laload, 1) := by decide +kernel
theorem dX7_isDoneBy_125 : decode cX7_isDoneBy 125 = .ok (.aload_n 0, 1) := by decide +kernel
theorem dX7_isDoneBy_126 : decode cX7_isDoneBy 126 = .ok (.getfield 147, 3) := by decide +kernel
theorem dX7_isDoneBy_129 : decode cX7_isDoneBy 129 = .ok (.aload_n 0, 1) := by decide +kernel
theorem dX7_isDoneBy_130 : decode cX7_isDoneBy 130 = .ok (.getfield 151, 3) := by decide +kernel
theorem dX7_isDoneBy_133 : decode cX7_isDoneBy 133 = .ok (.invokevirtual 182, 3) := by decide +kernel
theorem dX7_isDoneBy_136 : decode cX7_isDoneBy 136 = .ok (.aload_n 0, 1) := by decide +kernel
theorem dX7_isDoneBy_137 : decode cX7_isDoneBy 137 = .ok (.iload_n 3, 1) := by decide +kernel
theorem dX7_isDoneBy_138 : decode cX7_isDoneBy 138 = .ok (.iload 4, 2) := by decide +kernel
theorem dX7_isDoneBy_140 : decode cX7_isDoneBy 140 = .ok (.invokevirtual 185, 3) := by decide +kernel
theorem dX7_isDoneBy_143 : decode cX7_isDoneBy 143 = .ok (.iinc 4 1, 3) := by decide +kernel
theorem dX7_isDoneBy_146 : decode cX7_isDoneBy 146 = .ok (.goto (-75), 3) := by decide +kernel
theorem dX7_isDoneBy_149 : decode cX7_isDoneBy 149 = .ok (.iinc 3 1, 3) := by decide +kernel
theorem dX7_isDoneBy_152 : decode cX7_isDoneBy 152 = .ok (.goto (-92), 3) := by decide +kernel
theorem dX7_isDoneBy_155 : decode cX7_isDoneBy 155 = .ok (.aload_n 0, 1) := by decide +kernel
theorem dX7_isDoneBy_156 : decode cX7_isDoneBy 156 = .ok (.invokevirtual 154, 3) := by decide +kernel
theorem dX7_isDoneBy_159 : decode cX7_isDoneBy 159 = .ok (.ifCond .eq 5, 3) := by decide +kernel
theorem dX7_isDoneBy_162 : decode cX7_isDoneBy 162 = .ok (.iconst 0, 1) := by decide +kernel
theorem dX7_isDoneBy_163 : decode cX7_isDoneBy 163 = .ok (.ireturn, 1) := by decide +kernel
theorem dX7_isDoneBy_164 : decode cX7_isDoneBy 164 = .ok (.aload_n 0, 1) := by decide +kernel
theorem dX7_isDoneBy_165 : decode cX7_isDoneBy 165 = .ok (.invokevirtual 254, 3) := by decide +kernel
theorem dX7_isDoneBy_168 : decode cX7_isDoneBy 168 = .ok (.aload_n 0, 1) := by decide +kernel
theorem dX7_isDoneBy_169 : decode cX7_isDoneBy 169 = .ok (.invokevirtual 257, 3) := by decide +kernel
theorem dX7_isDoneBy_172 : decode cX7_isDoneBy 172 = .ok (.iconst 1, 1) := by decide +kernel
theorem dX7_isDoneBy_173 : decode cX7_isDoneBy 173 = .ok (.if_icmp .ne 7, 3) := by decide +kernel
theorem dX7_isDoneBy_176 : decode cX7_isDoneBy 176 = .ok (.iconst 1, 1) := by decide +kernel
theorem dX7_isDoneBy_177 : decode cX7_isDoneBy 177 = .ok (.goto 4, 3) := by decide +kernel
theorem dX7_isDoneBy_180 : decode cX7_isDoneBy 180 = .ok (.iconst 0, 1) := by decide +kernel
theorem dX7_isDoneBy_181 : decode cX7_isDoneBy 181 = .ok (.ireturn, 1) := by decide +kernel
theorem dX7_under_0 : decode cX7_under 0 = .ok (.aload_n 0, 1) := by decide +kernel
theorem dX7_under_1 : decode cX7_under 1 = .ok (.iload_n 1, 1) := by decide +kernel
theorem dX7_under_2 : decode cX7_under 2 = .ok (.invokevirtual 116, 3) := by decide +kernel
theorem dX7_under_5 : decode cX7_under 5 = .ok (.ifCond .eq 24, 3) := by decide +kernel
theorem dX7_under_8 : decode cX7_under 8 = .ok (.aload_n 0, 1) := by decide +kernel
theorem dX7_under_9 : decode cX7_under 9 = .ok (.iload_n 2, 1) := by decide +kernel
theorem dX7_under_10 : decode cX7_under 10 = .ok (.invokevirtual 116, 3) := by decide +kernel
theorem dX7_under_13 : decode cX7_under 13 = .ok (.ifCond .eq 16, 3) := by decide +kernel
theorem dX7_under_16 : decode cX7_under 16 = .ok (.aload_n 0, 1) := by decide +kernel
theorem dX7_under_17 : decode cX7_under 17 = .ok (.iload_n 3, 1) := by decide +kernel
theorem dX7_under_18 : decode cX7_under 18 = .ok (.i2l, 1) := by decide +kernel
theorem dX7_under_19 : decode cX7_under 19 = .ok (.lconst 1, 1) := by decide +kernel
theorem dX7_under_20 : decode cX7_under 20 = .ok (.ldc2_w 267, 3) := by decide +kernel
theorem dX7_under_23 : decode cX7_under 23 = .ok (.invokevirtual 100, 3) := by decide +kernel
theorem dX7_under_26 : decode cX7_under 26 = .ok (.ifCond .ne 5, 3) := by decide +kernel
theorem dX7_under_29 : decode cX7_under 29 = .ok (.iconst (-1), 1) := by decide +kernel
theorem dX7_under_30 : decode cX7_under 30 = .ok (.ireturn, 1) := by decide +kernel
theorem dX7_under_31 : decode cX7_under 31 = .ok (.aload_n 0, 1) := by decide +kernel
theorem dX7_under_32 : decode cX7_under 32 = .ok (.iload_n 1, 1) := by decide +kernel
theorem dX7_under_33 : decode cX7_under 33 = .ok (.iload_n 2, 1) := by decide +kernel
theorem dX7_under_34 : decode cX7_under 34 = .ok (.invokevirtual 251, 3) := by decide +kernel
theorem dX7_under_37 : decode cX7_under 37 = .ok (.iconst 1, 1) := by decide +kernel
theorem dX7_under_38 : decode cX7_under 38 = .ok (.istore 4, 2) := by decide +kernel
theorem dX7_under_40 : decode cX7_under 40 = .ok (.iload 4, 2) := by decide +kernel
theorem dX7_under_42 : decode cX7_under 42 = .ok (.iload_n 3, 1) := by decide +kernel
theorem dX7_under_43 : decode cX7_under 43 = .ok (.if_icmp .gt 84, 3) := by decide +kernel
theorem dX7_under_46 : decode cX7_under 46 = .ok (.iconst 1, 1) := by decide +kernel
theorem dX7_under_47 : decode cX7_under 47 = .ok (.istore 5, 2) := by decide +kernel
theorem dX7_under_49 : decode cX7_under 49 = .ok (.iload 5, 2) := by decide +kernel
theorem dX7_under_51 : decode cX7_under 51 = .ok (.iload 4, 2) := by decide +kernel
theorem dX7_under_53 : decode cX7_under 53 = .ok (.if_icmp .gt 68, 3) := by decide +kernel
theorem dX7_under_56 : decode cX7_under 56 = .ok (.aload_n 0, 1) := by decide +kernel
theorem dX7_under_57 : decode cX7_under 57 = .ok (.iload 4, 2) := by decide +kernel
theorem dX7_under_59 : decode cX7_under 59 = .ok (.iload 5, 2) := by decide +kernel
theorem dX7_under_61 : decode cX7_under 61 = .ok (.isub, 1) := by decide +kernel
theorem dX7_under_62 : decode cX7_under 62 = .ok (.iload 5, 2) := by decide +kernel
theorem dX7_under_64 : decode cX7_under 64 = .ok (.invokevirtual 269, 3) := by decide +kernel
theorem dX7_under_67 : decode cX7_under 67 = .ok (.ifCond .eq 48, 3) := by decide +kernel
theorem dX7_under_70 : decode cX7_under 70 = .ok (.aload_n 0, 1) := by decide +kernel
theorem dX7_under_71 : decode cX7_under 71 = .ok (.dup, 1) := by decide +kernel
theorem dX7_under_72 : decode cX7_under 72 = .ok (.getfield 248, 3) := by decide +kernel
theorem dX7_under_75 : decode cX7_under 75 = .ok (.iconst 1, 1) := by decide +kernel
theorem dX7_under_76 : decode cX7_under 76 = .ok (.iadd, 1) := by decide +kernel
theorem dX7_under_77 : decode cX7_under 77 = .ok (.putfield 248, 3) := by decide +kernel
theorem dX7_under_80 : decode cX7_under 80 = .ok (.aload_n 0, 1) := by decide +kernel
theorem dX7_under_81 : decode cX7_under 81 = .ok (.iload 4, 2) := by decide +kernel
theorem dX7_under_83 : decode cX7_under 83 = .ok (.iload 5, 2) := by decide +kernel
theorem dX7_under_85 : decode cX7_under 85 = .ok (.isub, 1) := by decide +kernel
theorem dX7_under_86 : decode cX7_under 86 = .ok (.iload 5, 2) := by decide +kernel
theorem dX7_under_88 : decode cX7_under 88 = .ok (.invokevirtual 273, 3) := by decide +kernel
theorem dX7_under_91 : decode cX7_under 91 = .ok (.ifCond .eq 24, 3) := by decide +kernel
theorem dX7_under_94 : decode cX7_under 94 = .ok (.aload_n 0, 1) := by decide +kernel
theorem dX7_under_95 : decode cX7_under 95 = .ok (.iload 4, 2) := by decide +kernel
theorem dX7_under_97 : decode cX7_under 97 = .ok (.iload 5, 2) := by decide +kernel
theorem dX7_under_99 : decode cX7_under 99 = .ok (.isub, 1) := by decide +kernel
theorem dX7_under_100 : decode cX7_under 100 = .ok (.putfield 242, 3) := by decide +kernel
theorem dX7_under_103 : decode cX7_under 103 = .ok (.aload_n 0, 1) := by decide +kernel
theorem dX7_under_104 : decode cX7_under 104 = .ok (.iload 5, 2) := by decide +kernel
theorem dX7_under_106 : decode cX7_under 106 = .ok (.putfield 245, 3) := by decide +kernel
theorem dX7_under_109 : decode cX7_under 109 = .ok (.aload_n 0, 1) := by decide +kernel
theorem dX7_under_110 : decode cX7_under 110 = .ok (.iconst 1, 1) := by decide +kernel
theorem dX7_under_111 : decode cX7_under 111 = .ok (.invokevirtual 264, 3) := by decide +kernel
theorem dX7_under_114 : decode cX7_under 114 = .ok (.ireturn, 1) := by decide +kernel
theorem dX7_under_115 : decode cX7_under 115 = .ok (.iinc 5 1, 3) := by decide +kernel
theorem dX7_under_118 : decode cX7_under 118 = .ok (.goto (-69), 3) := by decide +kernel
theorem dX7_under_121 : decode cX7_under 121 = .ok (.iinc 4 1, 3) := by decide +kernel
theorem dX7_under_124 : decode cX7_under 124 = .ok (.goto (-84), 3) := by decide +kernel
theorem dX7_under_127 : decode cX7_under 127 = .ok (.aload_n 0, 1) := by decide +kernel
theorem dX7_under_128 : decode cX7_under 128 = .ok (.aload_n 0, 1) := by decide +kernel
theorem dX7_under_129 : decode cX7_under 129 = .ok (.invokevirtual 276, 3) := by decide +kernel
theorem dX7_under_132 : decode cX7_under 132 = .ok (.ifCond .eq 7, 3) := by decide +kernel
theorem dX7_under_135 : decode cX7_under 135 = .ok (.iconst 0, 1) := by decide +kernel
theorem dX7_under_136 : decode cX7_under 136 = .ok (.goto 4, 3) := by decide +kernel
theorem dX7_under_139 : decode cX7_under 139 = .ok (.iconst 2, 1) := by decide +kernel
theorem dX7_under_140 : decode cX7_under 140 = .ok (.invokevirtual 264, 3) := by decide +kernel
theorem dX7_under_143 : decode cX7_under 143 = .ok (.ireturn, 1) := by decide +kernel
theorem dX7_isThere_0 : decode cX7_isThere 0 = .ok (.aload_n 0, 1) := by decide +kernel
theorem dX7_isThere_1 : decode cX7_isThere 1 = .ok (.getfield 17, 3) := by decide +kernel
theorem dX7_isThere_4 : decode cX7_isThere 4 = .ok (.iconst 0, 1) := by decide +kernel
theorem dX7_isThere_5 : decode cX7_isThere 5 = .ok (.iconst 1, 1) := by decide +kernel
theorem dX7_isThere_6 : decode cX7_isThere 6 = .ok (.iastore, 1) := by decide +kernel
theorem dX7_isThere_7 : decode cX7_isThere 7 = .ok (.aload_n 0, 1) := by decide +kernel
theorem dX7_isThere_8 : decode cX7_isThere 8 = .ok (.getfield 7, 3) := by decide +kernel
theorem dX7_isThere_11 : decode cX7_isThere 11 = .ok (.iconst 1, 1) := by decide +kernel
theorem dX7_isThere_12 : decode cX7_isThere 12 = .ok (.if_icmp .ne 8, 3) := by decide +kernel
theorem dX7_isThere_15 : decode cX7_isThere 15 = .ok (.bipush 7, 2) := by decide +kernel
theorem dX7_isThere_17 : decode cX7_isThere 17 = .ok (.goto 33, 3) := by decide +kernel
theorem dX7_isThere_20 : decode cX7_isThere 20 = .ok (.aload_n 0, 1) := by decide +kernel
theorem dX7_isThere_21 : decode cX7_isThere 21 = .ok (.getfield 7, 3) := by decide +kernel
theorem dX7_isThere_24 : decode cX7_isThere 24 = .ok (.iconst 2, 1) := by decide +kernel
theorem dX7_isThere_25 : decode cX7_isThere 25 = .ok (.if_icmp .ne 8, 3) := by decide +kernel
theorem dX7_isThere_28 : decode cX7_isThere 28 = .ok (.bipush 49, 2) := by decide +kernel
theorem dX7_isThere_30 : decode cX7_isThere 30 = .ok (.goto 20, 3) := by decide +kernel
theorem dX7_isThere_33 : decode cX7_isThere 33 = .ok (.aload_n 0, 1) := by decide +kernel
theorem dX7_isThere_34 : decode cX7_isThere 34 = .ok (.getfield 7, 3) := by decide +kernel
theorem dX7_isThere_37 : decode cX7_isThere 37 = .ok (.iconst 3, 1) := by decide +kernel
theorem dX7_isThere_38 : decode cX7_isThere 38 = .ok (.if_icmp .ne 9, 3) := by decide +kernel
theorem dX7_isThere_41 : decode cX7_isThere 41 = .ok (.sipush 343, 3) := by decide +kernel
theorem dX7_isThere_44 : decode cX7_isThere 44 = .ok (.goto 6, 3) := by decide +kernel
theorem dX7_isThere_47 : decode cX7_isThere 47 = .ok (.sipush 2401, 3) := by decide +kernel
theorem dX7_isThere_50 : decode cX7_isThere 50 = .ok (.istore_n 1, 1) := by decide +kernel
theorem dX7_isThere_51 : decode cX7_isThere 51 = .ok (.iconst 0, 1) := by decide +kernel
theorem dX7_isThere_52 : decode cX7_isThere 52 = .ok (.istore_n 2, 1) := by decide +kernel
theorem dX7_isThere_53 : decode cX7_isThere 53 = .ok (.iload_n 2, 1) := by decide +kernel
theorem dX7_isThere_54 : decode cX7_isThere 54 = .ok (.iload_n 1, 1) := by decide +kernel
theorem dX7_isThere_55 : decode cX7_isThere 55 = .ok (.if_icmp .ge 115, 3) := by decide +kernel
theorem dX7_isThere_58 : decode cX7_isThere 58 = .ok (.iload_n 2, 1) := by decide +kernel
theorem dX7_isThere_59 : decode cX7_isThere 59 = .ok (.istore_n 3, 1) := by decide +kernel
theorem dX7_isThere_60 : decode cX7_isThere 60 = .ok (.aload_n 0, 1) := by decide +kernel
theorem dX7_isThere_61 : decode cX7_isThere 61 = .ok (.getfield 7, 3) := by decide +kernel
theorem dX7_isThere_64 : decode cX7_isThere 64 = .ok (.istore 4, 2) := by decide +kernel
theorem dX7_isThere_66 : decode cX7_isThere 66 = .ok (.iload 4, 2) := by decide +kernel
theorem dX7_isThere_68 : decode cX7_isThere 68 = .ok (.ifCond .le 27, 3) := by decide +kernel
theorem dX7_isThere_71 : decode cX7_isThere 71 = .ok (.aload_n 0, 1) := by decide +kernel
theorem dX7_isThere_72 : decode cX7_isThere 72 = .ok (.getfield 17, 3) := by decide +kernel
theorem dX7_isThere_75 : decode cX7_isThere 75 = .ok (.iload 4, 2) := by decide +kernel
theorem dX7_isThere_77 : decode cX7_isThere 77 = .ok (.iload_n 3, 1) := by decide +kernel
theorem dX7_isThere_78 : decode cX7_isThere 78 = .ok (.bipush 7, 2) := by decide +kernel
theorem dX7_isThere_80 : decode cX7_isThere 80 = .ok (.irem, 1) := by decide +kernel
theorem dX7_isThere_81 : decode cX7_isThere 81 = .ok (.iconst 3, 1) := by decide +kernel
theorem dX7_isThere_82 : decode cX7_isThere 82 = .ok (.isub, 1) := by decide +kernel
theorem dX7_isThere_83 : decode cX7_isThere 83 = .ok (.iastore, 1) := by decide +kernel
theorem dX7_isThere_84 : decode cX7_isThere 84 = .ok (.iload_n 3, 1) := by decide +kernel
theorem dX7_isThere_85 : decode cX7_isThere 85 = .ok (.bipush 7, 2) := by decide +kernel
theorem dX7_isThere_87 : decode cX7_isThere 87 = .ok (.idiv, 1) := by decide +kernel
theorem dX7_isThere_88 : decode cX7_isThere 88 = .ok (.istore_n 3, 1) := by decide +kernel
theorem dX7_isThere_89 : decode cX7_isThere 89 = .ok (.iinc 4 (-1), 3) := by decide +kernel
theorem dX7_isThere_92 : decode cX7_isThere 92 = .ok (.goto (-26), 3) := by decide +kernel
theorem dX7_isThere_95 : decode cX7_isThere 95 = .ok (.aload_n 0, 1) := by decide +kernel
theorem dX7_isThere_96 : decode cX7_isThere 96 = .ok (.aload_n 0, 1) := by decide +kernel
theorem dX7_isThere_97 : decode cX7_isThere 97 = .ok (.getfield 239, 3) := by decide +kernel
theorem dX7_isThere_100 : decode cX7_isThere 100 = .ok (.invokevirtual 133, 3) := by decide +kernel
theorem dX7_isThere_103 : decode cX7_isThere 103 = .ok (.lconst 0, 1) := by decide +kernel
theorem dX7_isThere_104 : decode cX7_isThere 104 = .ok (.lcmp, 1) := by decide +kernel
theorem dX7_isThere_105 : decode cX7_isThere 105 = .ok (.ifCond .lt 59, 3) := by decide +kernel
theorem dX7_isThere_108 : decode cX7_isThere 108 = .ok (.aload_n 0, 1) := by decide +kernel
theorem dX7_isThere_109 : decode cX7_isThere 109 = .ok (.aload_n 0, 1) := by decide +kernel
theorem dX7_isThere_110 : decode cX7_isThere 110 = .ok (.getfield 236, 3) := by decide +kernel
theorem dX7_isThere_113 : decode cX7_isThere 113 = .ok (.invokevirtual 133, 3) := by decide +kernel
theorem dX7_isThere_116 : decode cX7_isThere 116 = .ok (.lconst 0, 1) := by decide +kernel
theorem dX7_isThere_117 : decode cX7_isThere 117 = .ok (.lcmp, 1) := by decide +kernel
theorem dX7_isThere_118 : decode cX7_isThere 118 = .ok (.ifCond .ge 46, 3) := by decide +kernel
theorem dX7_isThere_121 : decode cX7_isThere 121 = .ok (.iconst 1, 1) := by decide +kernel
theorem dX7_isThere_122 : decode cX7_isThere 122 = .ok (.istore 4, 2) := by decide +kernel
theorem dX7_isThere_124 : decode cX7_isThere 124 = .ok (.iload 4, 2) := by decide +kernel
theorem dX7_isThere_126 : decode cX7_isThere 126 = .ok (.aload_n 0, 1) := by decide +kernel
theorem dX7_isThere_127 : decode cX7_isThere 127 = .ok (.getfield 7, 3) := by decide +kernel
theorem dX7_isThere_130 : decode cX7_isThere 130 = .ok (.if_icmp .gt 32, 3) := by decide +kernel
theorem dX7_isThere_133 : decode cX7_isThere 133 = .ok (.aload_n 0, 1) := by decide +kernel
theorem dX7_isThere_134 : decode cX7_isThere 134 = .ok (.getfield 76, 3) := by decide +kernel
theorem dX7_isThere_137 : decode cX7_isThere 137 = .ok (.iload 4, 2) := by decide +kernel
theorem dX7_isThere_139 : decode cX7_isThere 139 = .ok (.aload_n 0, 1) := by decide +kernel
theorem dX7_isThere_140 : decode cX7_isThere 140 = .ok (.getfield 17, 3) := by decide +kernel
theorem dX7_isThere_143 : decode cX7_isThere 143 = .ok (.iload 4, 2) := by decide +kernel
theorem dX7_isThere_145 : decode cX7_isThere 145 = .ok (.iaload, 1) := by decide +kernel
theorem dX7_isThere_146 : decode cX7_isThere 146 = .ok (.i2l, 1) := by decide +kernel
theorem dX7_isThere_147 : decode cX7_isThere 147 = .ok (.lastore, 1) := by decide +kernel
theorem dX7_isThere_148 : decode cX7_isThere 148 = .ok (.aload_n 0, 1) := by decide +kernel
theorem dX7_isThere_149 : decode cX7_isThere 149 = .ok (.getfield 79, 3) := by decide +kernel
theorem dX7_isThere_152 : decode cX7_isThere 152 = .ok (.iload 4, 2) := by decide +kernel
theorem dX7_isThere_154 : decode cX7_isThere 154 = .ok (.lconst 1, 1) := by decide +kernel
theorem dX7_isThere_155 : decode cX7_isThere 155 = .ok (.lastore, 1) := by decide +kernel
theorem dX7_isThere_156 : decode cX7_isThere 156 = .ok (.iinc 4 1, 3) := by decide +kernel
theorem dX7_isThere_159 : decode cX7_isThere 159 = .ok (.goto (-35), 3) := by decide +kernel
theorem dX7_isThere_162 : decode cX7_isThere 162 = .ok (.iconst 1, 1) := by decide +kernel
theorem dX7_isThere_163 : decode cX7_isThere 163 = .ok (.ireturn, 1) := by decide +kernel
theorem dX7_isThere_164 : decode cX7_isThere 164 = .ok (.iinc 2 1, 3) := by decide +kernel
theorem dX7_isThere_167 : decode cX7_isThere 167 = .ok (.goto (-114), 3) := by decide +kernel
theorem dX7_isThere_170 : decode cX7_isThere 170 = .ok (.iconst 0, 1) := by decide +kernel
theorem dX7_isThere_171 : decode cX7_isThere 171 = .ok (.ireturn, 1) := by decide +kernel
theorem dX7_told_0 : decode cX7_told 0 = .ok (.aload_n 0, 1) := by decide +kernel
theorem dX7_told_1 : decode cX7_told 1 = .ok (.iload_n 1, 1) := by decide +kernel
theorem dX7_told_2 : decode cX7_told 2 = .ok (.i2l, 1) := by decide +kernel
theorem dX7_told_3 : decode cX7_told 3 = .ok (.lconst 0, 1) := by decide +kernel
theorem dX7_told_4 : decode cX7_told 4 = .ok (.ldc2_w 279, 3) := by decide +kernel
theorem dX7_told_7 : decode cX7_told 7 = .ok (.invokevirtual 100, 3) := by decide +kernel
theorem dX7_told_10 : decode cX7_told 10 = .ok (.ifCond .ne 5, 3) := by decide +kernel
theorem dX7_told_13 : decode cX7_told 13 = .ok (.iconst (-1), 1) := by decide +kernel
theorem dX7_told_14 : decode cX7_told 14 = .ok (.ireturn, 1) := by decide +kernel
theorem dX7_told_15 : decode cX7_told 15 = .ok (.aload_n 0, 1) := by decide +kernel
theorem dX7_told_16 : decode cX7_told 16 = .ok (.getfield 94, 3) := by decide +kernel
theorem dX7_told_19 : decode cX7_told 19 = .ok (.ifCond .ge 6, 3) := by decide +kernel
theorem dX7_told_22 : decode cX7_told 22 = .ok (.bipush (-2), 2) := by decide +kernel
theorem dX7_told_24 : decode cX7_told 24 = .ok (.ireturn, 1) := by decide +kernel
theorem dX7_told_25 : decode cX7_told 25 = .ok (.iload_n 1, 1) := by decide +kernel
theorem dX7_told_26 : decode cX7_told 26 = .ok (.tableswitch 68 0 5 #[38, 43, 48, 53, 58, 63], 38) := by decide +kernel
theorem dX7_told_64 : decode cX7_told 64 = .ok (.aload_n 0, 1) := by decide +kernel
theorem dX7_told_65 : decode cX7_told 65 = .ok (.getfield 94, 3) := by decide +kernel
theorem dX7_told_68 : decode cX7_told 68 = .ok (.ireturn, 1) := by decide +kernel
theorem dX7_told_69 : decode cX7_told 69 = .ok (.aload_n 0, 1) := by decide +kernel
theorem dX7_told_70 : decode cX7_told 70 = .ok (.getfield 109, 3) := by decide +kernel
theorem dX7_told_73 : decode cX7_told 73 = .ok (.ireturn, 1) := by decide +kernel
theorem dX7_told_74 : decode cX7_told 74 = .ok (.aload_n 0, 1) := by decide +kernel
theorem dX7_told_75 : decode cX7_told 75 = .ok (.getfield 236, 3) := by decide +kernel
theorem dX7_told_78 : decode cX7_told 78 = .ok (.ireturn, 1) := by decide +kernel
theorem dX7_told_79 : decode cX7_told 79 = .ok (.aload_n 0, 1) := by decide +kernel
theorem dX7_told_80 : decode cX7_told 80 = .ok (.getfield 239, 3) := by decide +kernel
theorem dX7_told_83 : decode cX7_told 83 = .ok (.ireturn, 1) := by decide +kernel
theorem dX7_told_84 : decode cX7_told 84 = .ok (.aload_n 0, 1) := by decide +kernel
theorem dX7_told_85 : decode cX7_told 85 = .ok (.getfield 242, 3) := by decide +kernel
theorem dX7_told_88 : decode cX7_told 88 = .ok (.ireturn, 1) := by decide +kernel
theorem dX7_told_89 : decode cX7_told 89 = .ok (.aload_n 0, 1) := by decide +kernel
theorem dX7_told_90 : decode cX7_told 90 = .ok (.getfield 245, 3) := by decide +kernel
theorem dX7_told_93 : decode cX7_told 93 = .ok (.ireturn, 1) := by decide +kernel
theorem dX7_told_94 : decode cX7_told 94 = .ok (.aload_n 0, 1) := by decide +kernel
theorem dX7_told_95 : decode cX7_told 95 = .ok (.getfield 248, 3) := by decide +kernel
theorem dX7_told_98 : decode cX7_told 98 = .ok (.ireturn, 1) := by decide +kernel
theorem dX7_isSquare_0 : decode cX7_isSquare 0 = .ok (.aload_n 0, 1) := by decide +kernel
theorem dX7_isSquare_1 : decode cX7_isSquare 1 = .ok (.iload_n 1, 1) := by decide +kernel
theorem dX7_isSquare_2 : decode cX7_isSquare 2 = .ok (.i2l, 1) := by decide +kernel
theorem dX7_isSquare_3 : decode cX7_isSquare 3 = .ok (.lconst 0, 1) := by decide +kernel
theorem dX7_isSquare_4 : decode cX7_isSquare 4 = .ok (.aload_n 0, 1) := by decide +kernel
theorem dX7_isSquare_5 : decode cX7_isSquare 5 = .ok (.getfield 109, 3) := by decide +kernel
theorem dX7_isSquare_8 : decode cX7_isSquare 8 = .ok (.iconst 1, 1) := by decide +kernel
theorem dX7_isSquare_9 : decode cX7_isSquare 9 = .ok (.isub, 1) := by decide +kernel
theorem dX7_isSquare_10 : decode cX7_isSquare 10 = .ok (.i2l, 1) := by decide +kernel
theorem dX7_isSquare_11 : decode cX7_isSquare 11 = .ok (.invokevirtual 100, 3) := by decide +kernel
theorem dX7_isSquare_14 : decode cX7_isSquare 14 = .ok (.ireturn, 1) := by decide +kernel
theorem dX7_weight_0 : decode cX7_weight 0 = .ok (.aload_n 0, 1) := by decide +kernel
theorem dX7_weight_1 : decode cX7_weight 1 = .ok (.iload_n 1, 1) := by decide +kernel
theorem dX7_weight_2 : decode cX7_weight 2 = .ok (.invokevirtual 281, 3) := by decide +kernel
theorem dX7_weight_5 : decode cX7_weight 5 = .ok (.ifCond .eq 14, 3) := by decide +kernel
theorem dX7_weight_8 : decode cX7_weight 8 = .ok (.aload_n 0, 1) := by decide +kernel
theorem dX7_weight_9 : decode cX7_weight 9 = .ok (.iload_n 2, 1) := by decide +kernel
theorem dX7_weight_10 : decode cX7_weight 10 = .ok (.i2l, 1) := by decide +kernel
theorem dX7_weight_11 : decode cX7_weight 11 = .ok (.lconst 0, 1) := by decide +kernel
theorem dX7_weight_12 : decode cX7_weight 12 = .ok (.lconst 1, 1) := by decide +kernel
theorem dX7_weight_13 : decode cX7_weight 13 = .ok (.invokevirtual 100, 3) := by decide +kernel
theorem dX7_weight_16 : decode cX7_weight 16 = .ok (.ifCond .ne 7, 3) := by decide +kernel
theorem dX7_weight_19 : decode cX7_weight 19 = .ok (.lconst 0, 1) := by decide +kernel
theorem dX7_weight_20 : decode cX7_weight 20 = .ok (.goto 22, 3) := by decide +kernel
theorem dX7_weight_23 : decode cX7_weight 23 = .ok (.iload_n 2, 1) := by decide +kernel
theorem dX7_weight_24 : decode cX7_weight 24 = .ok (.ifCond .ne 12, 3) := by decide +kernel
theorem dX7_weight_27 : decode cX7_weight 27 = .ok (.aload_n 0, 1) := by decide +kernel
theorem dX7_weight_28 : decode cX7_weight 28 = .ok (.getfield 40, 3) := by decide +kernel
theorem dX7_weight_31 : decode cX7_weight 31 = .ok (.iload_n 1, 1) := by decide +kernel
theorem dX7_weight_32 : decode cX7_weight 32 = .ok (.laload, 1) := by decide +kernel
theorem dX7_weight_33 : decode cX7_weight 33 = .ok (.goto 9, 3) := by decide +kernel
theorem dX7_weight_36 : decode cX7_weight 36 = .ok (.aload_n 0, 1) := by decide +kernel
theorem dX7_weight_37 : decode cX7_weight 37 = .ok (.getfield 43, 3) := by decide +kernel
theorem dX7_weight_40 : decode cX7_weight 40 = .ok (.iload_n 1, 1) := by decide +kernel
theorem dX7_weight_41 : decode cX7_weight 41 = .ok (.laload, 1) := by decide +kernel
theorem dX7_weight_42 : decode cX7_weight 42 = .ok (.lreturn, 1) := by decide +kernel
theorem dX7_line_0 : decode cX7_line 0 = .ok (.aload_n 0, 1) := by decide +kernel
theorem dX7_line_1 : decode cX7_line 1 = .ok (.iload_n 1, 1) := by decide +kernel
theorem dX7_line_2 : decode cX7_line 2 = .ok (.invokevirtual 281, 3) := by decide +kernel
theorem dX7_line_5 : decode cX7_line 5 = .ok (.ifCond .eq 29, 3) := by decide +kernel
theorem dX7_line_8 : decode cX7_line 8 = .ok (.aload_n 0, 1) := by decide +kernel
theorem dX7_line_9 : decode cX7_line 9 = .ok (.iload_n 2, 1) := by decide +kernel
theorem dX7_line_10 : decode cX7_line 10 = .ok (.i2l, 1) := by decide +kernel
theorem dX7_line_11 : decode cX7_line 11 = .ok (.lconst 0, 1) := by decide +kernel
theorem dX7_line_12 : decode cX7_line 12 = .ok (.aload_n 0, 1) := by decide +kernel
theorem dX7_line_13 : decode cX7_line 13 = .ok (.getfield 7, 3) := by decide +kernel
theorem dX7_line_16 : decode cX7_line 16 = .ok (.i2l, 1) := by decide +kernel
theorem dX7_line_17 : decode cX7_line 17 = .ok (.invokevirtual 100, 3) := by decide +kernel
theorem dX7_line_20 : decode cX7_line 20 = .ok (.ifCond .eq 14, 3) := by decide +kernel
theorem dX7_line_23 : decode cX7_line 23 = .ok (.aload_n 0, 1) := by decide +kernel
theorem dX7_line_24 : decode cX7_line 24 = .ok (.iload_n 3, 1) := by decide +kernel
theorem dX7_line_25 : decode cX7_line 25 = .ok (.i2l, 1) := by decide +kernel
theorem dX7_line_26 : decode cX7_line 26 = .ok (.lconst 0, 1) := by decide +kernel
theorem dX7_line_27 : decode cX7_line 27 = .ok (.lconst 1, 1) := by decide +kernel
theorem dX7_line_28 : decode cX7_line 28 = .ok (.invokevirtual 100, 3) := by decide +kernel
theorem dX7_line_31 : decode cX7_line 31 = .ok (.ifCond .ne 5, 3) := by decide +kernel
theorem dX7_line_34 : decode cX7_line 34 = .ok (.lconst 0, 1) := by decide +kernel
theorem dX7_line_35 : decode cX7_line 35 = .ok (.lreturn, 1) := by decide +kernel
theorem dX7_line_36 : decode cX7_line 36 = .ok (.iload_n 3, 1) := by decide +kernel
theorem dX7_line_37 : decode cX7_line 37 = .ok (.ifCond .ne 16, 3) := by decide +kernel
theorem dX7_line_40 : decode cX7_line 40 = .ok (.aload_n 0, 1) := by decide +kernel
theorem dX7_line_41 : decode cX7_line 41 = .ok (.getfield 46, 3) := by decide +kernel
theorem dX7_line_44 : decode cX7_line 44 = .ok (.iconst 5, 1) := by decide +kernel
theorem dX7_line_45 : decode cX7_line 45 = .ok (.iload_n 1, 1) := by decide +kernel
theorem dX7_line_46 : decode cX7_line 46 = .ok (.imul, 1) := by decide +kernel
theorem dX7_line_47 : decode cX7_line 47 = .ok (.iload_n 2, 1) := by decide +kernel
theorem dX7_line_48 : decode cX7_line 48 = .ok (.iadd, 1) := by decide +kernel
theorem dX7_line_49 : decode cX7_line 49 = .ok (.laload, 1) := by decide +kernel
theorem dX7_line_50 : decode cX7_line 50 = .ok (.goto 13, 3) := by decide +kernel
theorem dX7_line_53 : decode cX7_line 53 = .ok (.aload_n 0, 1) := by decide +kernel
theorem dX7_line_54 : decode cX7_line 54 = .ok (.getfield 49, 3) := by decide +kernel
theorem dX7_line_57 : decode cX7_line 57 = .ok (.iconst 5, 1) := by decide +kernel
theorem dX7_line_58 : decode cX7_line 58 = .ok (.iload_n 1, 1) := by decide +kernel
theorem dX7_line_59 : decode cX7_line 59 = .ok (.imul, 1) := by decide +kernel
theorem dX7_line_60 : decode cX7_line 60 = .ok (.iload_n 2, 1) := by decide +kernel
theorem dX7_line_61 : decode cX7_line 61 = .ok (.iadd, 1) := by decide +kernel
theorem dX7_line_62 : decode cX7_line 62 = .ok (.laload, 1) := by decide +kernel
theorem dX7_line_63 : decode cX7_line 63 = .ok (.lreturn, 1) := by decide +kernel
theorem dX7_point_0 : decode cX7_point 0 = .ok (.aload_n 0, 1) := by decide +kernel
theorem dX7_point_1 : decode cX7_point 1 = .ok (.getfield 112, 3) := by decide +kernel
theorem dX7_point_4 : decode cX7_point 4 = .ok (.ifCond .eq 29, 3) := by decide +kernel
theorem dX7_point_7 : decode cX7_point 7 = .ok (.aload_n 0, 1) := by decide +kernel
theorem dX7_point_8 : decode cX7_point 8 = .ok (.iload_n 1, 1) := by decide +kernel
theorem dX7_point_9 : decode cX7_point 9 = .ok (.i2l, 1) := by decide +kernel
theorem dX7_point_10 : decode cX7_point 10 = .ok (.lconst 1, 1) := by decide +kernel
theorem dX7_point_11 : decode cX7_point 11 = .ok (.aload_n 0, 1) := by decide +kernel
theorem dX7_point_12 : decode cX7_point 12 = .ok (.getfield 7, 3) := by decide +kernel
theorem dX7_point_15 : decode cX7_point 15 = .ok (.i2l, 1) := by decide +kernel
theorem dX7_point_16 : decode cX7_point 16 = .ok (.invokevirtual 100, 3) := by decide +kernel
theorem dX7_point_19 : decode cX7_point 19 = .ok (.ifCond .eq 14, 3) := by decide +kernel
theorem dX7_point_22 : decode cX7_point 22 = .ok (.aload_n 0, 1) := by decide +kernel
theorem dX7_point_23 : decode cX7_point 23 = .ok (.iload_n 2, 1) := by decide +kernel
theorem dX7_point_24 : decode cX7_point 24 = .ok (.i2l, 1) := by decide +kernel
theorem dX7_point_25 : decode cX7_point 25 = .ok (.lconst 0, 1) := by decide +kernel
theorem dX7_point_26 : decode cX7_point 26 = .ok (.lconst 1, 1) := by decide +kernel
theorem dX7_point_27 : decode cX7_point 27 = .ok (.invokevirtual 100, 3) := by decide +kernel
theorem dX7_point_30 : decode cX7_point 30 = .ok (.ifCond .ne 5, 3) := by decide +kernel
theorem dX7_point_33 : decode cX7_point 33 = .ok (.lconst 0, 1) := by decide +kernel
theorem dX7_point_34 : decode cX7_point 34 = .ok (.lreturn, 1) := by decide +kernel
theorem dX7_point_35 : decode cX7_point 35 = .ok (.iload_n 2, 1) := by decide +kernel
theorem dX7_point_36 : decode cX7_point 36 = .ok (.ifCond .ne 12, 3) := by decide +kernel
theorem dX7_point_39 : decode cX7_point 39 = .ok (.aload_n 0, 1) := by decide +kernel
theorem dX7_point_40 : decode cX7_point 40 = .ok (.getfield 76, 3) := by decide +kernel
theorem dX7_point_43 : decode cX7_point 43 = .ok (.iload_n 1, 1) := by decide +kernel
theorem dX7_point_44 : decode cX7_point 44 = .ok (.laload, 1) := by decide +kernel
theorem dX7_point_45 : decode cX7_point 45 = .ok (.goto 9, 3) := by decide +kernel
theorem dX7_point_48 : decode cX7_point 48 = .ok (.aload_n 0, 1) := by decide +kernel
theorem dX7_point_49 : decode cX7_point 49 = .ok (.getfield 79, 3) := by decide +kernel
theorem dX7_point_52 : decode cX7_point 52 = .ok (.iload_n 1, 1) := by decide +kernel
theorem dX7_point_53 : decode cX7_point 53 = .ok (.laload, 1) := by decide +kernel
theorem dX7_point_54 : decode cX7_point 54 = .ok (.lreturn, 1) := by decide +kernel
theorem dX7_near_0 : decode cX7_near 0 = .ok (.aload_n 0, 1) := by decide +kernel
theorem dX7_near_1 : decode cX7_near 1 = .ok (.iload_n 1, 1) := by decide +kernel
theorem dX7_near_2 : decode cX7_near 2 = .ok (.invokevirtual 281, 3) := by decide +kernel
theorem dX7_near_5 : decode cX7_near 5 = .ok (.ifCond .eq 24, 3) := by decide +kernel
theorem dX7_near_8 : decode cX7_near 8 = .ok (.aload_n 0, 1) := by decide +kernel
theorem dX7_near_9 : decode cX7_near 9 = .ok (.getfield 40, 3) := by decide +kernel
theorem dX7_near_12 : decode cX7_near 12 = .ok (.iload_n 1, 1) := by decide +kernel
theorem dX7_near_13 : decode cX7_near 13 = .ok (.laload, 1) := by decide +kernel
theorem dX7_near_14 : decode cX7_near 14 = .ok (.l2d, 1) := by decide +kernel
theorem dX7_near_15 : decode cX7_near 15 = .ok (.aload_n 0, 1) := by decide +kernel
theorem dX7_near_16 : decode cX7_near 16 = .ok (.getfield 43, 3) := by decide +kernel
theorem dX7_near_19 : decode cX7_near 19 = .ok (.iload_n 1, 1) := by decide +kernel
theorem dX7_near_20 : decode cX7_near 20 = .ok (.laload, 1) := by decide +kernel
theorem dX7_near_21 : decode cX7_near 21 = .ok (.l2d, 1) := by decide +kernel
theorem dX7_near_22 : decode cX7_near 22 = .ok (.ddiv, 1) := by decide +kernel
theorem dX7_near_23 : decode cX7_near 23 = .ok (.invokestatic 284, 3) := by decide +kernel
theorem dX7_near_26 : decode cX7_near 26 = .ok (.goto 4, 3) := by decide +kernel
theorem dX7_near_29 : decode cX7_near 29 = .ok (.lconst 0, 1) := by decide +kernel
theorem dX7_near_30 : decode cX7_near 30 = .ok (.lreturn, 1) := by decide +kernel
theorem dX7_plant_0 : decode cX7_plant 0 = .ok (.aload_n 0, 1) := by decide +kernel
theorem dX7_plant_1 : decode cX7_plant 1 = .ok (.iload_n 1, 1) := by decide +kernel
theorem dX7_plant_2 : decode cX7_plant 2 = .ok (.invokevirtual 281, 3) := by decide +kernel
theorem dX7_plant_5 : decode cX7_plant 5 = .ok (.ifCond .eq 10, 3) := by decide +kernel
theorem dX7_plant_8 : decode cX7_plant 8 = .ok (.lload 4, 2) := by decide +kernel
theorem dX7_plant_10 : decode cX7_plant 10 = .ok (.lconst 0, 1) := by decide +kernel
theorem dX7_plant_11 : decode cX7_plant 11 = .ok (.lcmp, 1) := by decide +kernel
theorem dX7_plant_12 : decode cX7_plant 12 = .ok (.ifCond .ne 5, 3) := by decide +kernel
theorem dX7_plant_15 : decode cX7_plant 15 = .ok (.iconst (-1), 1) := by decide +kernel
theorem dX7_plant_16 : decode cX7_plant 16 = .ok (.ireturn, 1) := by decide +kernel
theorem dX7_plant_17 : decode cX7_plant 17 = .ok (.lload_n 2, 1) := by decide +kernel
theorem dX7_plant_18 : decode cX7_plant 18 = .ok (.ldc2_w 145, 3) := by decide +kernel
theorem dX7_plant_21 : decode cX7_plant 21 = .ok (.lcmp, 1) := by decide +kernel
theorem dX7_plant_22 : decode cX7_plant 22 = .ok (.ifCond .eq 12, 3) := by decide +kernel
theorem dX7_plant_25 : decode cX7_plant 25 = .ok (.lload 4, 2) := by decide +kernel
theorem dX7_plant_27 : decode cX7_plant 27 = .ok (.ldc2_w 145, 3) := by decide +kernel
theorem dX7_plant_30 : decode cX7_plant 30 = .ok (.lcmp, 1) := by decide +kernel
theorem dX7_plant_31 : decode cX7_plant 31 = .ok (.ifCond .ne 6, 3) := by decide +kernel
theorem dX7_plant_34 : decode cX7_plant 34 = .ok (.bipush (-30), 2) := by decide +kernel
theorem dX7_plant_36 : decode cX7_plant 36 = .ok (.ireturn, 1) := by decide +kernel
theorem dX7_plant_37 : decode cX7_plant 37 = .ok (.aload_n 0, 1) := by decide +kernel
theorem dX7_plant_38 : decode cX7_plant 38 = .ok (.invokevirtual 195, 3) := by decide +kernel
theorem dX7_plant_41 : decode cX7_plant 41 = .ok (.aload_n 0, 1) := by decide +kernel
theorem dX7_plant_42 : decode cX7_plant 42 = .ok (.lload_n 2, 1) := by decide +kernel
theorem dX7_plant_43 : decode cX7_plant 43 = .ok (.lload 4, 2) := by decide +kernel
theorem dX7_plant_45 : decode cX7_plant 45 = .ok (.invokevirtual 165, 3) := by decide +kernel
theorem dX7_plant_48 : decode cX7_plant 48 = .ok (.aload_n 0, 1) := by decide +kernel
theorem dX7_plant_49 : decode cX7_plant 49 = .ok (.getfield 40, 3) := by decide +kernel
theorem dX7_plant_52 : decode cX7_plant 52 = .ok (.iload_n 1, 1) := by decide +kernel
theorem dX7_plant_53 : decode cX7_plant 53 = .ok (.aload_n 0, 1) := by decide +kernel
theorem dX7_plant_54 : decode cX7_plant 54 = .ok (.getfield 147, 3) := by decide +kernel
theorem dX7_plant_57 : decode cX7_plant 57 = .ok (.lastore, 1) := by decide +kernel
theorem dX7_plant_58 : decode cX7_plant 58 = .ok (.aload_n 0, 1) := by decide +kernel
theorem dX7_plant_59 : decode cX7_plant 59 = .ok (.getfield 43, 3) := by decide +kernel
theorem dX7_plant_62 : decode cX7_plant 62 = .ok (.iload_n 1, 1) := by decide +kernel
theorem dX7_plant_63 : decode cX7_plant 63 = .ok (.aload_n 0, 1) := by decide +kernel
theorem dX7_plant_64 : decode cX7_plant 64 = .ok (.getfield 151, 3) := by decide +kernel
theorem dX7_plant_67 : decode cX7_plant 67 = .ok (.lastore, 1) := by decide +kernel
theorem dX7_plant_68 : decode cX7_plant 68 = .ok (.iconst 0, 1) := by decide +kernel
theorem dX7_plant_69 : decode cX7_plant 69 = .ok (.ireturn, 1) := by decide +kernel
theorem dX7_check_0 : decode cX7_check 0 = .ok (.aload_n 0, 1) := by decide +kernel
theorem dX7_check_1 : decode cX7_check 1 = .ok (.getfield 94, 3) := by decide +kernel
theorem dX7_check_4 : decode cX7_check 4 = .ok (.iconst 1, 1) := by decide +kernel
theorem dX7_check_5 : decode cX7_check 5 = .ok (.if_icmp .eq 6, 3) := by decide +kernel
theorem dX7_check_8 : decode cX7_check 8 = .ok (.bipush (-2), 2) := by decide +kernel
theorem dX7_check_10 : decode cX7_check 10 = .ok (.ireturn, 1) := by decide +kernel
theorem dX7_check_11 : decode cX7_check 11 = .ok (.aload_n 0, 1) := by decide +kernel
theorem dX7_check_12 : decode cX7_check 12 = .ok (.invokevirtual 195, 3) := by decide +kernel
theorem dX7_check_15 : decode cX7_check 15 = .ok (.iconst 0, 1) := by decide +kernel
theorem dX7_check_16 : decode cX7_check 16 = .ok (.istore_n 1, 1) := by decide +kernel
theorem dX7_check_17 : decode cX7_check 17 = .ok (.iload_n 1, 1) := by decide +kernel
theorem dX7_check_18 : decode cX7_check 18 = .ok (.bipush 25, 2) := by decide +kernel
theorem dX7_check_20 : decode cX7_check 20 = .ok (.if_icmp .ge 23, 3) := by decide +kernel
theorem dX7_check_23 : decode cX7_check 23 = .ok (.aload_n 0, 1) := by decide +kernel
theorem dX7_check_24 : decode cX7_check 24 = .ok (.getfield 88, 3) := by decide +kernel
theorem dX7_check_27 : decode cX7_check 27 = .ok (.iload_n 1, 1) := by decide +kernel
theorem dX7_check_28 : decode cX7_check 28 = .ok (.lconst 0, 1) := by decide +kernel
theorem dX7_check_29 : decode cX7_check 29 = .ok (.lastore, 1) := by decide +kernel
theorem dX7_check_30 : decode cX7_check 30 = .ok (.aload_n 0, 1) := by decide +kernel
theorem dX7_check_31 : decode cX7_check 31 = .ok (.getfield 91, 3) := by decide +kernel
theorem dX7_check_34 : decode cX7_check 34 = .ok (.iload_n 1, 1) := by decide +kernel
theorem dX7_check_35 : decode cX7_check 35 = .ok (.lconst 1, 1) := by decide +kernel
theorem dX7_check_36 : decode cX7_check 36 = .ok (.lastore, 1) := by decide +kernel
theorem dX7_check_37 : decode cX7_check 37 = .ok (.iinc 1 1, 3) := by decide +kernel
theorem dX7_check_40 : decode cX7_check 40 = .ok (.goto (-23), 3) := by decide +kernel
theorem dX7_check_43 : decode cX7_check 43 = .ok (.iconst 0, 1) := by decide +kernel
theorem dX7_check_44 : decode cX7_check 44 = .ok (.istore_n 1, 1) := by decide +kernel
theorem dX7_check_45 : decode cX7_check 45 = .ok (.iload_n 1, 1) := by decide +kernel
theorem dX7_check_46 : decode cX7_check 46 = .ok (.aload_n 0, 1) := by decide +kernel
theorem dX7_check_47 : decode cX7_check 47 = .ok (.getfield 109, 3) := by decide +kernel
theorem dX7_check_50 : decode cX7_check 50 = .ok (.if_icmp .ge 164, 3) := by decide +kernel
theorem dX7_check_53 : decode cX7_check 53 = .ok (.iconst 0, 1) := by decide +kernel
theorem dX7_check_54 : decode cX7_check 54 = .ok (.istore_n 2, 1) := by decide +kernel
theorem dX7_check_55 : decode cX7_check 55 = .ok (.iload_n 2, 1) := by decide +kernel
theorem dX7_check_56 : decode cX7_check 56 = .ok (.aload_n 0, 1) := by decide +kernel
theorem dX7_check_57 : decode cX7_check 57 = .ok (.getfield 7, 3) := by decide +kernel
theorem dX7_check_60 : decode cX7_check 60 = .ok (.if_icmp .gt 148, 3) := by decide +kernel
theorem dX7_check_63 : decode cX7_check 63 = .ok (.iconst 0, 1) := by decide +kernel
theorem dX7_check_64 : decode cX7_check 64 = .ok (.istore_n 3, 1) := by decide +kernel
theorem dX7_check_65 : decode cX7_check 65 = .ok (.iload_n 3, 1) := by decide +kernel
theorem dX7_check_66 : decode cX7_check 66 = .ok (.aload_n 0, 1) := by decide +kernel
theorem dX7_check_67 : decode cX7_check 67 = .ok (.getfield 7, 3) := by decide +kernel
theorem dX7_check_70 : decode cX7_check 70 = .ok (.if_icmp .gt 132, 3) := by decide +kernel
theorem dX7_check_73 : decode cX7_check 73 = .ok (.iconst 5, 1) := by decide +kernel
theorem dX7_check_74 : decode cX7_check 74 = .ok (.iload_n 2, 1) := by decide +kernel
theorem dX7_check_75 : decode cX7_check 75 = .ok (.imul, 1) := by decide +kernel
theorem dX7_check_76 : decode cX7_check 76 = .ok (.iload_n 3, 1) := by decide +kernel
theorem dX7_check_77 : decode cX7_check 77 = .ok (.iadd, 1) := by decide +kernel
theorem dX7_check_78 : decode cX7_check 78 = .ok (.istore 4, 2) := by decide +kernel
theorem dX7_check_80 : decode cX7_check 80 = .ok (.aload_n 0, 1) := by decide +kernel
theorem dX7_check_81 : decode cX7_check 81 = .ok (.aload_n 0, 1) := by decide +kernel
theorem dX7_check_82 : decode cX7_check 82 = .ok (.getfield 40, 3) := by decide +kernel
theorem dX7_check_85 : decode cX7_check 85 = .ok (.iload_n 1, 1) := by decide +kernel
theorem dX7_check_86 : decode cX7_check 86 = .ok (.laload, 1) := by decide +kernel
theorem dX7_check_87 : decode cX7_check 87 = .ok (.aload_n 0, 1) := by decide +kernel
theorem dX7_check_88 : decode cX7_check 88 = .ok (.getfield 43, 3) := by decide +kernel
theorem dX7_check_91 : decode cX7_check 91 = .ok (.iload_n 1, 1) := by decide +kernel
theorem dX7_check_92 : decode cX7_check 92 = .ok (.laload, 1) := by decide +kernel
theorem dX7_check_93 : decode cX7_check 93 = .ok (.aload_n 0, 1) := by decide +kernel
theorem dX7_check_94 : decode cX7_check 94 = .ok (.getfield 46, 3) := by decide +kernel
theorem dX7_check_97 : decode cX7_check 97 = .ok (.iconst 5, 1) := by decide +kernel
theorem dX7_check_98 : decode cX7_check 98 = .ok (.iload_n 1, 1) := by decide +kernel
theorem dX7_check_99 : decode cX7_check 99 = .ok (.imul, 1) := by decide +kernel
theorem dX7_check_100 : decode cX7_check 100 = .ok (.iload_n 2, 1) := by decide +kernel
theorem dX7_check_101 : decode cX7_check 101 = .ok (.iadd, 1) := by decide +kernel
theorem dX7_check_102 : decode cX7_check 102 = .ok (.laload, 1) := by decide +kernel
theorem dX7_check_103 : decode cX7_check 103 = .ok (.aload_n 0, 1) := by decide +kernel
theorem dX7_check_104 : decode cX7_check 104 = .ok (.getfield 49, 3) := by decide +kernel
theorem dX7_check_107 : decode cX7_check 107 = .ok (.iconst 5, 1) := by decide +kernel
theorem dX7_check_108 : decode cX7_check 108 = .ok (.iload_n 1, 1) := by decide +kernel
theorem dX7_check_109 : decode cX7_check 109 = .ok (.imul, 1) := by decide +kernel
theorem dX7_check_110 : decode cX7_check 110 = .ok (.iload_n 2, 1) := by decide +kernel
theorem dX7_check_111 : decode cX7_check 111 = .ok (.iadd, 1) := by decide +kernel
theorem dX7_check_112 : decode cX7_check 112 = .ok (.laload, 1) := by decide +kernel
theorem dX7_check_113 : decode cX7_check 113 = .ok (.invokevirtual 179, 3) := by decide +kernel
theorem dX7_check_116 : decode cX7_check 116 = .ok (.aload_n 0, 1) := by decide +kernel
theorem dX7_check_117 : decode cX7_check 117 = .ok (.aload_n 0, 1) := by decide +kernel
theorem dX7_check_118 : decode cX7_check 118 = .ok (.getfield 147, 3) := by decide +kernel
theorem dX7_check_121 : decode cX7_check 121 = .ok (.aload_n 0, 1) := by decide +kernel
theorem dX7_check_122 : decode cX7_check 122 = .ok (.getfield 151, 3) := by decide +kernel
theorem dX7_check_125 : decode cX7_check 125 = .ok (.aload_n 0, 1) := by decide +kernel
theorem dX7_check_126 : decode cX7_check 126 = .ok (.getfield 46, 3) := by decide +kernel
theorem dX7_check_129 : decode cX7_check 129 = .ok (.iconst 5, 1) := by decide +kernel
theorem dX7_check_130 : decode cX7_check 130 = .ok (.iload_n 1, 1) := by decide +kernel
theorem dX7_check_131 : decode cX7_check 131 = .ok (.imul, 1) := by decide +kernel
theorem dX7_check_132 : decode cX7_check 132 = .ok (.iload_n 3, 1) := by decide +kernel
theorem dX7_check_133 : decode cX7_check 133 = .ok (.iadd, 1) := by decide +kernel
theorem dX7_check_134 : decode cX7_check 134 = .ok (.laload, 1) := by decide +kernel
theorem dX7_check_135 : decode cX7_check 135 = .ok (.aload_n 0, 1) := by decide +kernel
theorem dX7_check_136 : decode cX7_check 136 = .ok (.getfield 49, 3) := by decide +kernel
theorem dX7_check_139 : decode cX7_check 139 = .ok (.iconst 5, 1) := by decide +kernel
theorem dX7_check_140 : decode cX7_check 140 = .ok (.iload_n 1, 1) := by decide +kernel
theorem dX7_check_141 : decode cX7_check 141 = .ok (.imul, 1) := by decide +kernel
theorem dX7_check_142 : decode cX7_check 142 = .ok (.iload_n 3, 1) := by decide +kernel
theorem dX7_check_143 : decode cX7_check 143 = .ok (.iadd, 1) := by decide +kernel
theorem dX7_check_144 : decode cX7_check 144 = .ok (.laload, 1) := by decide +kernel
theorem dX7_check_145 : decode cX7_check 145 = .ok (.invokevirtual 179, 3) := by decide +kernel
theorem dX7_check_148 : decode cX7_check 148 = .ok (.aload_n 0, 1) := by decide +kernel
theorem dX7_check_149 : decode cX7_check 149 = .ok (.aload_n 0, 1) := by decide +kernel
theorem dX7_check_150 : decode cX7_check 150 = .ok (.getfield 88, 3) := by decide +kernel
theorem dX7_check_153 : decode cX7_check 153 = .ok (.iload 4, 2) := by decide +kernel
theorem dX7_check_155 : decode cX7_check 155 = .ok (.laload, 1) := by decide +kernel
theorem dX7_check_156 : decode cX7_check 156 = .ok (.aload_n 0, 1) := by decide +kernel
theorem dX7_check_157 : decode cX7_check 157 = .ok (.getfield 91, 3) := by decide +kernel
theorem dX7_check_160 : decode cX7_check 160 = .ok (.iload 4, 2) := by decide +kernel
theorem dX7_check_162 : decode cX7_check 162 = .ok (.laload, 1) := by decide +kernel
theorem dX7_check_163 : decode cX7_check 163 = .ok (.aload_n 0, 1) := by decide +kernel
theorem dX7_check_164 : decode cX7_check 164 = .ok (.getfield 147, 3) := by decide +kernel
theorem dX7_check_167 : decode cX7_check 167 = .ok (.aload_n 0, 1) := by decide +kernel
theorem dX7_check_168 : decode cX7_check 168 = .ok (.getfield 151, 3) := by decide +kernel
theorem dX7_check_171 : decode cX7_check 171 = .ok (.invokevirtual 224, 3) := by decide +kernel
theorem dX7_check_174 : decode cX7_check 174 = .ok (.aload_n 0, 1) := by decide +kernel
theorem dX7_check_175 : decode cX7_check 175 = .ok (.getfield 88, 3) := by decide +kernel
theorem dX7_check_178 : decode cX7_check 178 = .ok (.iload 4, 2) := by decide +kernel
theorem dX7_check_180 : decode cX7_check 180 = .ok (.aload_n 0, 1) := by decide +kernel
theorem dX7_check_181 : decode cX7_check 181 = .ok (.getfield 147, 3) := by decide +kernel
theorem dX7_check_184 : decode cX7_check 184 = .ok (.lastore, 1) := by decide +kernel
theorem dX7_check_185 : decode cX7_check 185 = .ok (.aload_n 0, 1) := by decide +kernel
theorem dX7_check_186 : decode cX7_check 186 = .ok (.getfield 91, 3) := by decide +kernel
theorem dX7_check_189 : decode cX7_check 189 = .ok (.iload 4, 2) := by decide +kernel
theorem dX7_check_191 : decode cX7_check 191 = .ok (.aload_n 0, 1) := by decide +kernel
theorem dX7_check_192 : decode cX7_check 192 = .ok (.getfield 151, 3) := by decide +kernel
theorem dX7_check_195 : decode cX7_check 195 = .ok (.lastore, 1) := by decide +kernel
theorem dX7_check_196 : decode cX7_check 196 = .ok (.iinc 3 1, 3) := by decide +kernel
theorem dX7_check_199 : decode cX7_check 199 = .ok (.goto (-134), 3) := by decide +kernel
theorem dX7_check_202 : decode cX7_check 202 = .ok (.iinc 2 1, 3) := by decide +kernel
theorem dX7_check_205 : decode cX7_check 205 = .ok (.goto (-150), 3) := by decide +kernel
theorem dX7_check_208 : decode cX7_check 208 = .ok (.iinc 1 1, 3) := by decide +kernel
theorem dX7_check_211 : decode cX7_check 211 = .ok (.goto (-166), 3) := by decide +kernel
theorem dX7_check_214 : decode cX7_check 214 = .ok (.aload_n 0, 1) := by decide +kernel
theorem dX7_check_215 : decode cX7_check 215 = .ok (.invokevirtual 154, 3) := by decide +kernel
theorem dX7_check_218 : decode cX7_check 218 = .ok (.ifCond .eq 5, 3) := by decide +kernel
theorem dX7_check_221 : decode cX7_check 221 = .ok (.iconst 2, 1) := by decide +kernel
theorem dX7_check_222 : decode cX7_check 222 = .ok (.ireturn, 1) := by decide +kernel
theorem dX7_check_223 : decode cX7_check 223 = .ok (.iconst 1, 1) := by decide +kernel
theorem dX7_check_224 : decode cX7_check 224 = .ok (.istore_n 1, 1) := by decide +kernel
theorem dX7_check_225 : decode cX7_check 225 = .ok (.iconst 0, 1) := by decide +kernel
theorem dX7_check_226 : decode cX7_check 226 = .ok (.istore_n 2, 1) := by decide +kernel
theorem dX7_check_227 : decode cX7_check 227 = .ok (.iload_n 2, 1) := by decide +kernel
theorem dX7_check_228 : decode cX7_check 228 = .ok (.aload_n 0, 1) := by decide +kernel
theorem dX7_check_229 : decode cX7_check 229 = .ok (.getfield 7, 3) := by decide +kernel
theorem dX7_check_232 : decode cX7_check 232 = .ok (.if_icmp .gt 76, 3) := by decide +kernel
theorem dX7_check_235 : decode cX7_check 235 = .ok (.iconst 0, 1) := by decide +kernel
theorem dX7_check_236 : decode cX7_check 236 = .ok (.istore_n 3, 1) := by decide +kernel
theorem dX7_check_237 : decode cX7_check 237 = .ok (.iload_n 3, 1) := by decide +kernel
theorem dX7_check_238 : decode cX7_check 238 = .ok (.aload_n 0, 1) := by decide +kernel
theorem dX7_check_239 : decode cX7_check 239 = .ok (.getfield 7, 3) := by decide +kernel
theorem dX7_check_242 : decode cX7_check 242 = .ok (.if_icmp .gt 60, 3) := by decide +kernel
theorem dX7_check_245 : decode cX7_check 245 = .ok (.iconst 5, 1) := by decide +kernel
theorem dX7_check_246 : decode cX7_check 246 = .ok (.iload_n 2, 1) := by decide +kernel
theorem dX7_check_247 : decode cX7_check 247 = .ok (.imul, 1) := by decide +kernel
theorem dX7_check_248 : decode cX7_check 248 = .ok (.iload_n 3, 1) := by decide +kernel
theorem dX7_check_249 : decode cX7_check 249 = .ok (.iadd, 1) := by decide +kernel
theorem dX7_check_250 : decode cX7_check 250 = .ok (.istore 4, 2) := by decide +kernel
theorem dX7_check_252 : decode cX7_check 252 = .ok (.iload_n 1, 1) := by decide +kernel
theorem dX7_check_253 : decode cX7_check 253 = .ok (.aload_n 0, 1) := by decide +kernel
theorem dX7_check_254 : decode cX7_check 254 = .ok (.getfield 88, 3) := by decide +kernel
theorem dX7_check_257 : decode cX7_check 257 = .ok (.iload 4, 2) := by decide +kernel
theorem dX7_check_259 : decode cX7_check 259 = .ok (.laload, 1) := by decide +kernel
theorem dX7_check_260 : decode cX7_check 260 = .ok (.aload_n 0, 1) := by decide +kernel
theorem dX7_check_261 : decode cX7_check 261 = .ok (.getfield 27, 3) := by decide +kernel
theorem dX7_check_264 : decode cX7_check 264 = .ok (.iload 4, 2) := by decide +kernel
theorem dX7_check_266 : decode cX7_check 266 = .ok (.laload, 1) := by decide +kernel
theorem dX7_check_267 : decode cX7_check 267 = .ok (.lcmp, 1) := by decide +kernel
theorem dX7_check_268 : decode cX7_check 268 = .ok (.ifCond .ne 25, 3) := by decide +kernel
theorem dX7_check_271 : decode cX7_check 271 = .ok (.aload_n 0, 1) := by decide +kernel
theorem dX7_check_272 : decode cX7_check 272 = .ok (.getfield 91, 3) := by decide +kernel
theorem dX7_check_275 : decode cX7_check 275 = .ok (.iload 4, 2) := by decide +kernel
theorem dX7_check_277 : decode cX7_check 277 = .ok (.laload, 1) := by decide +kernel
theorem dX7_check_278 : decode cX7_check 278 = .ok (.aload_n 0, 1) := by decide +kernel
theorem dX7_check_279 : decode cX7_check 279 = .ok (.getfield 30, 3) := by decide +kernel
theorem dX7_check_282 : decode cX7_check 282 = .ok (.iload 4, 2) := by decide +kernel
theorem dX7_check_284 : decode cX7_check 284 = .ok (.laload, 1) := by decide +kernel
theorem dX7_check_285 : decode cX7_check 285 = .ok (.lcmp, 1) := by decide +kernel
theorem dX7_check_286 : decode cX7_check 286 = .ok (.ifCond .ne 7, 3) := by decide +kernel
theorem dX7_check_289 : decode cX7_check 289 = .ok (.iconst 1, 1) := by decide +kernel
theorem dX7_check_290 : decode cX7_check 290 = .ok (.goto 4, 3) := by decide +kernel
theorem dX7_check_293 : decode cX7_check 293 = .ok (.iconst 0, 1) := by decide +kernel
theorem dX7_check_294 : decode cX7_check 294 = .ok (.iand, 1) := by decide +kernel
theorem dX7_check_295 : decode cX7_check 295 = .ok (.istore_n 1, 1) := by decide +kernel
theorem dX7_check_296 : decode cX7_check 296 = .ok (.iinc 3 1, 3) := by decide +kernel
theorem dX7_check_299 : decode cX7_check 299 = .ok (.goto (-62), 3) := by decide +kernel
theorem dX7_check_302 : decode cX7_check 302 = .ok (.iinc 2 1, 3) := by decide +kernel
theorem dX7_check_305 : decode cX7_check 305 = .ok (.goto (-78), 3) := by decide +kernel
theorem dX7_check_308 : decode cX7_check 308 = .ok (.iload_n 1, 1) := by decide +kernel
theorem dX7_check_309 : decode cX7_check 309 = .ok (.ifCond .eq 7, 3) := by decide +kernel
theorem dX7_check_312 : decode cX7_check 312 = .ok (.iconst 1, 1) := by decide +kernel
theorem dX7_check_313 : decode cX7_check 313 = .ok (.goto 4, 3) := by decide +kernel
theorem dX7_check_316 : decode cX7_check 316 = .ok (.iconst 0, 1) := by decide +kernel
theorem dX7_check_317 : decode cX7_check 317 = .ok (.ireturn, 1) := by decide +kernel
theorem dX7_equal_0 : decode cX7_equal 0 = .ok (.aload_n 0, 1) := by decide +kernel
theorem dX7_equal_1 : decode cX7_equal 1 = .ok (.getfield 94, 3) := by decide +kernel
theorem dX7_equal_4 : decode cX7_equal 4 = .ok (.iconst 1, 1) := by decide +kernel
theorem dX7_equal_5 : decode cX7_equal 5 = .ok (.if_icmp .eq 6, 3) := by decide +kernel
theorem dX7_equal_8 : decode cX7_equal 8 = .ok (.bipush (-2), 2) := by decide +kernel
theorem dX7_equal_10 : decode cX7_equal 10 = .ok (.ireturn, 1) := by decide +kernel
theorem dX7_equal_11 : decode cX7_equal 11 = .ok (.aload_n 0, 1) := by decide +kernel
theorem dX7_equal_12 : decode cX7_equal 12 = .ok (.iconst 0, 1) := by decide +kernel
theorem dX7_equal_13 : decode cX7_equal 13 = .ok (.putfield 112, 3) := by decide +kernel
theorem dX7_equal_16 : decode cX7_equal 16 = .ok (.iconst 1, 1) := by decide +kernel
theorem dX7_equal_17 : decode cX7_equal 17 = .ok (.istore_n 1, 1) := by decide +kernel
theorem dX7_equal_18 : decode cX7_equal 18 = .ok (.iconst 0, 1) := by decide +kernel
theorem dX7_equal_19 : decode cX7_equal 19 = .ok (.istore_n 2, 1) := by decide +kernel
theorem dX7_equal_20 : decode cX7_equal 20 = .ok (.iload_n 2, 1) := by decide +kernel
theorem dX7_equal_21 : decode cX7_equal 21 = .ok (.aload_n 0, 1) := by decide +kernel
theorem dX7_equal_22 : decode cX7_equal 22 = .ok (.getfield 109, 3) := by decide +kernel
theorem dX7_equal_25 : decode cX7_equal 25 = .ok (.if_icmp .ge 26, 3) := by decide +kernel
theorem dX7_equal_28 : decode cX7_equal 28 = .ok (.iload_n 1, 1) := by decide +kernel
theorem dX7_equal_29 : decode cX7_equal 29 = .ok (.aload_n 0, 1) := by decide +kernel
theorem dX7_equal_30 : decode cX7_equal 30 = .ok (.getfield 37, 3) := by decide +kernel
theorem dX7_equal_33 : decode cX7_equal 33 = .ok (.iload_n 2, 1) := by decide +kernel
theorem dX7_equal_34 : decode cX7_equal 34 = .ok (.iaload, 1) := by decide +kernel
theorem dX7_equal_35 : decode cX7_equal 35 = .ok (.ifCond .eq 7, 3) := by decide +kernel
theorem dX7_equal_38 : decode cX7_equal 38 = .ok (.iconst 1, 1) := by decide +kernel
theorem dX7_equal_39 : decode cX7_equal 39 = .ok (.goto 4, 3) := by decide +kernel
theorem dX7_equal_42 : decode cX7_equal 42 = .ok (.iconst 0, 1) := by decide +kernel
theorem dX7_equal_43 : decode cX7_equal 43 = .ok (.iand, 1) := by decide +kernel
theorem dX7_equal_44 : decode cX7_equal 44 = .ok (.istore_n 1, 1) := by decide +kernel
theorem dX7_equal_45 : decode cX7_equal 45 = .ok (.iinc 2 1, 3) := by decide +kernel
theorem dX7_equal_48 : decode cX7_equal 48 = .ok (.goto (-28), 3) := by decide +kernel
theorem dX7_equal_51 : decode cX7_equal 51 = .ok (.iload_n 1, 1) := by decide +kernel
theorem dX7_equal_52 : decode cX7_equal 52 = .ok (.ifCond .ne 5, 3) := by decide +kernel
theorem dX7_equal_55 : decode cX7_equal 55 = .ok (.iconst 0, 1) := by decide +kernel
theorem dX7_equal_56 : decode cX7_equal 56 = .ok (.ireturn, 1) := by decide +kernel
theorem dX7_equal_57 : decode cX7_equal 57 = .ok (.aload_n 0, 1) := by decide +kernel
theorem dX7_equal_58 : decode cX7_equal 58 = .ok (.invokevirtual 195, 3) := by decide +kernel
theorem dX7_equal_61 : decode cX7_equal 61 = .ok (.aload_n 0, 1) := by decide +kernel
theorem dX7_equal_62 : decode cX7_equal 62 = .ok (.invokevirtual 227, 3) := by decide +kernel
theorem dX7_equal_65 : decode cX7_equal 65 = .ok (.aload_n 0, 1) := by decide +kernel
theorem dX7_equal_66 : decode cX7_equal 66 = .ok (.getfield 70, 3) := by decide +kernel
theorem dX7_equal_69 : decode cX7_equal 69 = .ok (.iconst 0, 1) := by decide +kernel
theorem dX7_equal_70 : decode cX7_equal 70 = .ok (.lconst 1, 1) := by decide +kernel
theorem dX7_equal_71 : decode cX7_equal 71 = .ok (.lastore, 1) := by decide +kernel
theorem dX7_equal_72 : decode cX7_equal 72 = .ok (.aload_n 0, 1) := by decide +kernel
theorem dX7_equal_73 : decode cX7_equal 73 = .ok (.invokevirtual 230, 3) := by decide +kernel
theorem dX7_equal_76 : decode cX7_equal 76 = .ok (.aload_n 0, 1) := by decide +kernel
theorem dX7_equal_77 : decode cX7_equal 77 = .ok (.invokevirtual 154, 3) := by decide +kernel
theorem dX7_equal_80 : decode cX7_equal 80 = .ok (.ifCond .eq 5, 3) := by decide +kernel
theorem dX7_equal_83 : decode cX7_equal 83 = .ok (.iconst 2, 1) := by decide +kernel
theorem dX7_equal_84 : decode cX7_equal 84 = .ok (.ireturn, 1) := by decide +kernel
theorem dX7_equal_85 : decode cX7_equal 85 = .ok (.iconst 1, 1) := by decide +kernel
theorem dX7_equal_86 : decode cX7_equal 86 = .ok (.istore_n 2, 1) := by decide +kernel
theorem dX7_equal_87 : decode cX7_equal 87 = .ok (.iload_n 2, 1) := by decide +kernel
theorem dX7_equal_88 : decode cX7_equal 88 = .ok (.aload_n 0, 1) := by decide +kernel
theorem dX7_equal_89 : decode cX7_equal 89 = .ok (.getfield 7, 3) := by decide +kernel
theorem dX7_equal_92 : decode cX7_equal 92 = .ok (.if_icmp .gt 33, 3) := by decide +kernel
theorem dX7_equal_95 : decode cX7_equal 95 = .ok (.aload_n 0, 1) := by decide +kernel
theorem dX7_equal_96 : decode cX7_equal 96 = .ok (.getfield 76, 3) := by decide +kernel
theorem dX7_equal_99 : decode cX7_equal 99 = .ok (.iload_n 2, 1) := by decide +kernel
theorem dX7_equal_100 : decode cX7_equal 100 = .ok (.aload_n 0, 1) := by decide +kernel
theorem dX7_equal_101 : decode cX7_equal 101 = .ok (.getfield 70, 3) := by decide +kernel
theorem dX7_equal_104 : decode cX7_equal 104 = .ok (.iload_n 2, 1) := by decide +kernel
theorem dX7_equal_105 : decode cX7_equal 105 = .ok (.laload, 1) := by decide +kernel
theorem dX7_equal_106 : decode cX7_equal 106 = .ok (.lastore, 1) := by decide +kernel
theorem dX7_equal_107 : decode cX7_equal 107 = .ok (.aload_n 0, 1) := by decide +kernel
theorem dX7_equal_108 : decode cX7_equal 108 = .ok (.getfield 79, 3) := by decide +kernel
theorem dX7_equal_111 : decode cX7_equal 111 = .ok (.iload_n 2, 1) := by decide +kernel
theorem dX7_equal_112 : decode cX7_equal 112 = .ok (.aload_n 0, 1) := by decide +kernel
theorem dX7_equal_113 : decode cX7_equal 113 = .ok (.getfield 73, 3) := by decide +kernel
theorem dX7_equal_116 : decode cX7_equal 116 = .ok (.iload_n 2, 1) := by decide +kernel
theorem dX7_equal_117 : decode cX7_equal 117 = .ok (.laload, 1) := by decide +kernel
theorem dX7_equal_118 : decode cX7_equal 118 = .ok (.lastore, 1) := by decide +kernel
theorem dX7_equal_119 : decode cX7_equal 119 = .ok (.iinc 2 1, 3) := by decide +kernel
theorem dX7_equal_122 : decode cX7_equal 122 = .ok (.goto (-35), 3) := by decide +kernel
theorem dX7_equal_125 : decode cX7_equal 125 = .ok (.aload_n 0, 1) := by decide +kernel
theorem dX7_equal_126 : decode cX7_equal 126 = .ok (.iconst 1, 1) := by decide +kernel
theorem dX7_equal_127 : decode cX7_equal 127 = .ok (.putfield 112, 3) := by decide +kernel
theorem dX7_equal_130 : decode cX7_equal 130 = .ok (.iconst 1, 1) := by decide +kernel
theorem dX7_equal_131 : decode cX7_equal 131 = .ok (.ireturn, 1) := by decide +kernel
theorem dX7_pivot_0 : decode cX7_pivot 0 = .ok (.lload_n 3, 1) := by decide +kernel
theorem dX7_pivot_1 : decode cX7_pivot 1 = .ok (.lconst 0, 1) := by decide +kernel
theorem dX7_pivot_2 : decode cX7_pivot 2 = .ok (.lcmp, 1) := by decide +kernel
theorem dX7_pivot_3 : decode cX7_pivot 3 = .ok (.ifCond .ne 9, 3) := by decide +kernel
theorem dX7_pivot_6 : decode cX7_pivot 6 = .ok (.ldc2_w 290, 3) := by decide +kernel
theorem dX7_pivot_9 : decode cX7_pivot 9 = .ok (.goto 6, 3) := by decide +kernel
theorem dX7_pivot_12 : decode cX7_pivot 12 = .ok (.lload_n 1, 1) := by decide +kernel
theorem dX7_pivot_13 : decode cX7_pivot 13 = .ok (.lload_n 3, 1) := by decide +kernel
theorem dX7_pivot_14 : decode cX7_pivot 14 = .ok (.ldiv, 1) := by decide +kernel
theorem dX7_pivot_15 : decode cX7_pivot 15 = .ok (.lreturn, 1) := by decide +kernel
theorem dX7_count_0 : decode cX7_count 0 = .ok (.iload_n 1, 1) := by decide +kernel
theorem dX7_count_1 : decode cX7_count 1 = .ok (.ifCond .ne 10, 3) := by decide +kernel
theorem dX7_count_4 : decode cX7_count 4 = .ok (.aload_n 0, 1) := by decide +kernel
theorem dX7_count_5 : decode cX7_count 5 = .ok (.getfield 7, 3) := by decide +kernel
theorem dX7_count_8 : decode cX7_count 8 = .ok (.goto 28, 3) := by decide +kernel
theorem dX7_count_11 : decode cX7_count 11 = .ok (.iload_n 1, 1) := by decide +kernel
theorem dX7_count_12 : decode cX7_count 12 = .ok (.iconst 1, 1) := by decide +kernel
theorem dX7_count_13 : decode cX7_count 13 = .ok (.if_icmp .ne 10, 3) := by decide +kernel
theorem dX7_count_16 : decode cX7_count 16 = .ok (.aload_n 0, 1) := by decide +kernel
theorem dX7_count_17 : decode cX7_count 17 = .ok (.getfield 97, 3) := by decide +kernel
theorem dX7_count_20 : decode cX7_count 20 = .ok (.goto 16, 3) := by decide +kernel
theorem dX7_count_23 : decode cX7_count 23 = .ok (.iload_n 1, 1) := by decide +kernel
theorem dX7_count_24 : decode cX7_count 24 = .ok (.iconst 2, 1) := by decide +kernel
theorem dX7_count_25 : decode cX7_count 25 = .ok (.if_icmp .ne 10, 3) := by decide +kernel
theorem dX7_count_28 : decode cX7_count 28 = .ok (.aload_n 0, 1) := by decide +kernel
theorem dX7_count_29 : decode cX7_count 29 = .ok (.getfield 106, 3) := by decide +kernel
theorem dX7_count_32 : decode cX7_count 32 = .ok (.goto 4, 3) := by decide +kernel
theorem dX7_count_35 : decode cX7_count 35 = .ok (.iconst (-1), 1) := by decide +kernel
theorem dX7_count_36 : decode cX7_count 36 = .ok (.ireturn, 1) := by decide +kernel
theorem dJxe99ae_isNaN_b9ae7_0 : decode cJxe99ae_isNaN_b9ae7 0 = .ok (.dload_n 0, 1) := by decide +kernel
theorem dJxe99ae_isNaN_b9ae7_1 : decode cJxe99ae_isNaN_b9ae7 1 = .ok (.dload_n 0, 1) := by decide +kernel
theorem dJxe99ae_isNaN_b9ae7_2 : decode cJxe99ae_isNaN_b9ae7 2 = .ok (.dcmp .l, 1) := by decide +kernel
theorem dJxe99ae_isNaN_b9ae7_3 : decode cJxe99ae_isNaN_b9ae7 3 = .ok (.ifCond .eq 7, 3) := by decide +kernel
theorem dJxe99ae_isNaN_b9ae7_6 : decode cJxe99ae_isNaN_b9ae7 6 = .ok (.iconst 1, 1) := by decide +kernel
theorem dJxe99ae_isNaN_b9ae7_7 : decode cJxe99ae_isNaN_b9ae7 7 = .ok (.goto 4, 3) := by decide +kernel
theorem dJxe99ae_isNaN_b9ae7_10 : decode cJxe99ae_isNaN_b9ae7 10 = .ok (.iconst 0, 1) := by decide +kernel
theorem dJxe99ae_isNaN_b9ae7_11 : decode cJxe99ae_isNaN_b9ae7 11 = .ok (.ireturn, 1) := by decide +kernel
theorem dJxe99ae_doubleToLongBits_ccdee_0 : decode cJxe99ae_doubleToLongBits_ccdee 0 = .ok (.dload_n 0, 1) := by decide +kernel
theorem dJxe99ae_doubleToLongBits_ccdee_1 : decode cJxe99ae_doubleToLongBits_ccdee 1 = .ok (.invokestatic 122, 3) := by decide +kernel
theorem dJxe99ae_doubleToLongBits_ccdee_4 : decode cJxe99ae_doubleToLongBits_ccdee 4 = .ok (.ifCond .ne 8, 3) := by decide +kernel
theorem dJxe99ae_doubleToLongBits_ccdee_7 : decode cJxe99ae_doubleToLongBits_ccdee 7 = .ok (.dload_n 0, 1) := by decide +kernel
theorem dJxe99ae_doubleToLongBits_ccdee_8 : decode cJxe99ae_doubleToLongBits_ccdee 8 = .ok (.invokestatic 134, 3) := by decide +kernel
theorem dJxe99ae_doubleToLongBits_ccdee_11 : decode cJxe99ae_doubleToLongBits_ccdee 11 = .ok (.lreturn, 1) := by decide +kernel
theorem dJxe99ae_doubleToLongBits_ccdee_12 : decode cJxe99ae_doubleToLongBits_ccdee 12 = .ok (.ldc2_w 137, 3) := by decide +kernel
theorem dJxe99ae_doubleToLongBits_ccdee_15 : decode cJxe99ae_doubleToLongBits_ccdee 15 = .ok (.lreturn, 1) := by decide +kernel
theorem dJ13_compare_74951_0 : decode cJ13_compare_74951 0 = .ok (.lload_n 0, 1) := by decide +kernel
theorem dJ13_compare_74951_1 : decode cJ13_compare_74951 1 = .ok (.lload_n 2, 1) := by decide +kernel
theorem dJ13_compare_74951_2 : decode cJ13_compare_74951 2 = .ok (.lcmp, 1) := by decide +kernel
theorem dJ13_compare_74951_3 : decode cJ13_compare_74951 3 = .ok (.ifCond .ge 7, 3) := by decide +kernel
theorem dJ13_compare_74951_6 : decode cJ13_compare_74951 6 = .ok (.iconst (-1), 1) := by decide +kernel
theorem dJ13_compare_74951_7 : decode cJ13_compare_74951 7 = .ok (.goto 14, 3) := by decide +kernel
theorem dJ13_compare_74951_10 : decode cJ13_compare_74951 10 = .ok (.lload_n 0, 1) := by decide +kernel
theorem dJ13_compare_74951_11 : decode cJ13_compare_74951 11 = .ok (.lload_n 2, 1) := by decide +kernel
theorem dJ13_compare_74951_12 : decode cJ13_compare_74951 12 = .ok (.lcmp, 1) := by decide +kernel
theorem dJ13_compare_74951_13 : decode cJ13_compare_74951 13 = .ok (.ifCond .ne 7, 3) := by decide +kernel
theorem dJ13_compare_74951_16 : decode cJ13_compare_74951 16 = .ok (.iconst 0, 1) := by decide +kernel
theorem dJ13_compare_74951_17 : decode cJ13_compare_74951 17 = .ok (.goto 4, 3) := by decide +kernel
theorem dJ13_compare_74951_20 : decode cJ13_compare_74951 20 = .ok (.iconst 1, 1) := by decide +kernel
theorem dJ13_compare_74951_21 : decode cJ13_compare_74951 21 = .ok (.ireturn, 1) := by decide +kernel
theorem dJ9_max_7cf53_0 : decode cJ9_max_7cf53 0 = .ok (.iload_n 0, 1) := by decide +kernel
theorem dJ9_max_7cf53_1 : decode cJ9_max_7cf53 1 = .ok (.iload_n 1, 1) := by decide +kernel
theorem dJ9_max_7cf53_2 : decode cJ9_max_7cf53 2 = .ok (.if_icmp .lt 7, 3) := by decide +kernel
theorem dJ9_max_7cf53_5 : decode cJ9_max_7cf53 5 = .ok (.iload_n 0, 1) := by decide +kernel
theorem dJ9_max_7cf53_6 : decode cJ9_max_7cf53 6 = .ok (.goto 4, 3) := by decide +kernel
theorem dJ9_max_7cf53_9 : decode cJ9_max_7cf53 9 = .ok (.iload_n 1, 1) := by decide +kernel
theorem dJ9_max_7cf53_10 : decode cJ9_max_7cf53 10 = .ok (.ireturn, 1) := by decide +kernel
theorem dJ9_min_7cf53_0 : decode cJ9_min_7cf53 0 = .ok (.iload_n 0, 1) := by decide +kernel
theorem dJ9_min_7cf53_1 : decode cJ9_min_7cf53 1 = .ok (.iload_n 1, 1) := by decide +kernel
theorem dJ9_min_7cf53_2 : decode cJ9_min_7cf53 2 = .ok (.if_icmp .gt 7, 3) := by decide +kernel
theorem dJ9_min_7cf53_5 : decode cJ9_min_7cf53 5 = .ok (.iload_n 0, 1) := by decide +kernel
theorem dJ9_min_7cf53_6 : decode cJ9_min_7cf53 6 = .ok (.goto 4, 3) := by decide +kernel
theorem dJ9_min_7cf53_9 : decode cJ9_min_7cf53 9 = .ok (.iload_n 1, 1) := by decide +kernel
theorem dJ9_min_7cf53_10 : decode cJ9_min_7cf53 10 = .ok (.ireturn, 1) := by decide +kernel
theorem dJ7_fill_53178_0 : decode cJ7_fill_53178 0 = .ok (.iconst 0, 1) := by decide +kernel
theorem dJ7_fill_53178_1 : decode cJ7_fill_53178 1 = .ok (.istore_n 2, 1) := by decide +kernel
theorem dJ7_fill_53178_2 : decode cJ7_fill_53178 2 = .ok (.aload_n 0, 1) := by decide +kernel
theorem dJ7_fill_53178_3 : decode cJ7_fill_53178 3 = .ok (.arraylength, 1) := by decide +kernel
theorem dJ7_fill_53178_4 : decode cJ7_fill_53178 4 = .ok (.istore_n 3, 1) := by decide +kernel
theorem dJ7_fill_53178_5 : decode cJ7_fill_53178 5 = .ok (.iload_n 2, 1) := by decide +kernel
theorem dJ7_fill_53178_6 : decode cJ7_fill_53178 6 = .ok (.iload_n 3, 1) := by decide +kernel
theorem dJ7_fill_53178_7 : decode cJ7_fill_53178 7 = .ok (.if_icmp .ge 13, 3) := by decide +kernel
theorem dJ7_fill_53178_10 : decode cJ7_fill_53178 10 = .ok (.aload_n 0, 1) := by decide +kernel
theorem dJ7_fill_53178_11 : decode cJ7_fill_53178 11 = .ok (.iload_n 2, 1) := by decide +kernel
theorem dJ7_fill_53178_12 : decode cJ7_fill_53178 12 = .ok (.iload_n 1, 1) := by decide +kernel
theorem dJ7_fill_53178_13 : decode cJ7_fill_53178 13 = .ok (.iastore, 1) := by decide +kernel
theorem dJ7_fill_53178_14 : decode cJ7_fill_53178 14 = .ok (.iinc 2 1, 3) := by decide +kernel
theorem dJ7_fill_53178_17 : decode cJ7_fill_53178 17 = .ok (.goto (-12), 3) := by decide +kernel
theorem dJ7_fill_53178_20 : decode cJ7_fill_53178 20 = .ok (.return_, 1) := by decide +kernel
theorem dL_law_0 : decode cL_law 0 = .ok (.new 7, 3) := by decide +kernel
theorem dL_law_3 : decode cL_law 3 = .ok (.dup, 1) := by decide +kernel
theorem dL_law_4 : decode cL_law 4 = .ok (.invokespecial 9, 3) := by decide +kernel
theorem dL_law_7 : decode cL_law 7 = .ok (.astore_n 1, 1) := by decide +kernel
theorem dL_law_8 : decode cL_law 8 = .ok (.new 10, 3) := by decide +kernel
theorem dL_law_11 : decode cL_law 11 = .ok (.dup, 1) := by decide +kernel
theorem dL_law_12 : decode cL_law 12 = .ok (.invokespecial 12, 3) := by decide +kernel
theorem dL_law_15 : decode cL_law 15 = .ok (.astore_n 2, 1) := by decide +kernel
theorem dL_law_16 : decode cL_law 16 = .ok (.iconst 0, 1) := by decide +kernel
theorem dL_law_17 : decode cL_law 17 = .ok (.istore_n 3, 1) := by decide +kernel
theorem dL_law_18 : decode cL_law 18 = .ok (.iload_n 3, 1) := by decide +kernel
theorem dL_law_19 : decode cL_law 19 = .ok (.aload_n 0, 1) := by decide +kernel
theorem dL_law_20 : decode cL_law 20 = .ok (.arraylength, 1) := by decide +kernel
theorem dL_law_21 : decode cL_law 21 = .ok (.bipush 6, 2) := by decide +kernel
theorem dL_law_23 : decode cL_law 23 = .ok (.isub, 1) := by decide +kernel
theorem dL_law_24 : decode cL_law 24 = .ok (.if_icmp .gt 745, 3) := by decide +kernel
theorem dL_law_27 : decode cL_law 27 = .ok (.aload_n 0, 1) := by decide +kernel
theorem dL_law_28 : decode cL_law 28 = .ok (.iload_n 3, 1) := by decide +kernel
theorem dL_law_29 : decode cL_law 29 = .ok (.iaload, 1) := by decide +kernel
theorem dL_law_30 : decode cL_law 30 = .ok (.bipush 31, 2) := by decide +kernel
theorem dL_law_32 : decode cL_law 32 = .ok (.iand, 1) := by decide +kernel
theorem dL_law_33 : decode cL_law 33 = .ok (.tableswitch 730 0 16 #[83, 106, 119, 172, 236, 259, 282, 325, 348, 382, 426, 460, 484, 587, 600, 613, 707], 83) := by decide +kernel
theorem dL_law_116 : decode cL_law 116 = .ok (.aload_n 1, 1) := by decide +kernel
theorem dL_law_117 : decode cL_law 117 = .ok (.aload_n 0, 1) := by decide +kernel
theorem dL_law_118 : decode cL_law 118 = .ok (.iload_n 3, 1) := by decide +kernel
theorem dL_law_119 : decode cL_law 119 = .ok (.iconst 1, 1) := by decide +kernel
theorem dL_law_120 : decode cL_law 120 = .ok (.iadd, 1) := by decide +kernel
theorem dL_law_121 : decode cL_law 121 = .ok (.iaload, 1) := by decide +kernel
theorem dL_law_122 : decode cL_law 122 = .ok (.invokevirtual 13, 3) := by decide +kernel
theorem dL_law_125 : decode cL_law 125 = .ok (.aload_n 2, 1) := by decide +kernel
theorem dL_law_126 : decode cL_law 126 = .ok (.aload_n 0, 1) := by decide +kernel
theorem dL_law_127 : decode cL_law 127 = .ok (.iload_n 3, 1) := by decide +kernel
theorem dL_law_128 : decode cL_law 128 = .ok (.iconst 1, 1) := by decide +kernel
theorem dL_law_129 : decode cL_law 129 = .ok (.iadd, 1) := by decide +kernel
theorem dL_law_130 : decode cL_law 130 = .ok (.iaload, 1) := by decide +kernel
theorem dL_law_131 : decode cL_law 131 = .ok (.invokevirtual 17, 3) := by decide +kernel
theorem dL_law_134 : decode cL_law 134 = .ok (.if_icmp .eq 629, 3) := by decide +kernel
theorem dL_law_137 : decode cL_law 137 = .ok (.iconst 0, 1) := by decide +kernel
theorem dL_law_138 : decode cL_law 138 = .ok (.ireturn, 1) := by decide +kernel
theorem dL_law_139 : decode cL_law 139 = .ok (.aload_n 1, 1) := by decide +kernel
theorem dL_law_140 : decode cL_law 140 = .ok (.invokevirtual 18, 3) := by decide +kernel
theorem dL_law_143 : decode cL_law 143 = .ok (.aload_n 2, 1) := by decide +kernel
theorem dL_law_144 : decode cL_law 144 = .ok (.invokevirtual 22, 3) := by decide +kernel
theorem dL_law_147 : decode cL_law 147 = .ok (.if_icmp .eq 616, 3) := by decide +kernel
theorem dL_law_150 : decode cL_law 150 = .ok (.iconst 0, 1) := by decide +kernel
theorem dL_law_151 : decode cL_law 151 = .ok (.ireturn, 1) := by decide +kernel
theorem dL_law_152 : decode cL_law 152 = .ok (.aload_n 1, 1) := by decide +kernel
theorem dL_law_153 : decode cL_law 153 = .ok (.aload_n 0, 1) := by decide +kernel
theorem dL_law_154 : decode cL_law 154 = .ok (.iload_n 3, 1) := by decide +kernel
theorem dL_law_155 : decode cL_law 155 = .ok (.iconst 1, 1) := by decide +kernel
theorem dL_law_156 : decode cL_law 156 = .ok (.iadd, 1) := by decide +kernel
theorem dL_law_157 : decode cL_law 157 = .ok (.iaload, 1) := by decide +kernel
theorem dL_law_158 : decode cL_law 158 = .ok (.aload_n 0, 1) := by decide +kernel
theorem dL_law_159 : decode cL_law 159 = .ok (.iload_n 3, 1) := by decide +kernel
theorem dL_law_160 : decode cL_law 160 = .ok (.iconst 2, 1) := by decide +kernel
theorem dL_law_161 : decode cL_law 161 = .ok (.iadd, 1) := by decide +kernel
theorem dL_law_162 : decode cL_law 162 = .ok (.iaload, 1) := by decide +kernel
theorem dL_law_163 : decode cL_law 163 = .ok (.aload_n 0, 1) := by decide +kernel
theorem dL_law_164 : decode cL_law 164 = .ok (.iload_n 3, 1) := by decide +kernel
theorem dL_law_165 : decode cL_law 165 = .ok (.iconst 3, 1) := by decide +kernel
theorem dL_law_166 : decode cL_law 166 = .ok (.iadd, 1) := by decide +kernel
theorem dL_law_167 : decode cL_law 167 = .ok (.iaload, 1) := by decide +kernel
theorem dL_law_168 : decode cL_law 168 = .ok (.aload_n 0, 1) := by decide +kernel
theorem dL_law_169 : decode cL_law 169 = .ok (.iload_n 3, 1) := by decide +kernel
theorem dL_law_170 : decode cL_law 170 = .ok (.iconst 4, 1) := by decide +kernel
theorem dL_law_171 : decode cL_law 171 = .ok (.iadd, 1) := by decide +kernel
theorem dL_law_172 : decode cL_law 172 = .ok (.iaload, 1) := by decide +kernel
theorem dL_law_173 : decode cL_law 173 = .ok (.invokevirtual 23, 3) := by decide +kernel
theorem dL_law_176 : decode cL_law 176 = .ok (.aload_n 2, 1) := by decide +kernel
theorem dL_law_177 : decode cL_law 177 = .ok (.aload_n 0, 1) := by decide +kernel
theorem dL_law_178 : decode cL_law 178 = .ok (.iload_n 3, 1) := by decide +kernel
theorem dL_law_179 : decode cL_law 179 = .ok (.iconst 1, 1) := by decide +kernel
theorem dL_law_180 : decode cL_law 180 = .ok (.iadd, 1) := by decide +kernel
theorem dL_law_181 : decode cL_law 181 = .ok (.iaload, 1) := by decide +kernel
theorem dL_law_182 : decode cL_law 182 = .ok (.aload_n 0, 1) := by decide +kernel
theorem dL_law_183 : decode cL_law 183 = .ok (.iload_n 3, 1) := by decide +kernel
theorem dL_law_184 : decode cL_law 184 = .ok (.iconst 2, 1) := by decide +kernel
theorem dL_law_185 : decode cL_law 185 = .ok (.iadd, 1) := by decide +kernel
theorem dL_law_186 : decode cL_law 186 = .ok (.iaload, 1) := by decide +kernel
theorem dL_law_187 : decode cL_law 187 = .ok (.aload_n 0, 1) := by decide +kernel
theorem dL_law_188 : decode cL_law 188 = .ok (.iload_n 3, 1) := by decide +kernel
theorem dL_law_189 : decode cL_law 189 = .ok (.iconst 3, 1) := by decide +kernel
theorem dL_law_190 : decode cL_law 190 = .ok (.iadd, 1) := by decide +kernel
theorem dL_law_191 : decode cL_law 191 = .ok (.iaload, 1) := by decide +kernel
theorem dL_law_192 : decode cL_law 192 = .ok (.aload_n 0, 1) := by decide +kernel
theorem dL_law_193 : decode cL_law 193 = .ok (.iload_n 3, 1) := by decide +kernel
theorem dL_law_194 : decode cL_law 194 = .ok (.iconst 4, 1) := by decide +kernel
theorem dL_law_195 : decode cL_law 195 = .ok (.iadd, 1) := by decide +kernel
theorem dL_law_196 : decode cL_law 196 = .ok (.iaload, 1) := by decide +kernel
theorem dL_law_197 : decode cL_law 197 = .ok (.invokevirtual 27, 3) := by decide +kernel
theorem dL_law_200 : decode cL_law 200 = .ok (.if_icmp .eq 563, 3) := by decide +kernel
theorem dL_law_203 : decode cL_law 203 = .ok (.iconst 0, 1) := by decide +kernel
theorem dL_law_204 : decode cL_law 204 = .ok (.ireturn, 1) := by decide +kernel
theorem dL_law_205 : decode cL_law 205 = .ok (.aload_n 1, 1) := by decide +kernel
theorem dL_law_206 : decode cL_law 206 = .ok (.aload_n 0, 1) := by decide +kernel
theorem dL_law_207 : decode cL_law 207 = .ok (.iload_n 3, 1) := by decide +kernel
theorem dL_law_208 : decode cL_law 208 = .ok (.iconst 1, 1) := by decide +kernel
theorem dL_law_209 : decode cL_law 209 = .ok (.iadd, 1) := by decide +kernel
theorem dL_law_210 : decode cL_law 210 = .ok (.iaload, 1) := by decide +kernel
theorem dL_law_211 : decode cL_law 211 = .ok (.aload_n 0, 1) := by decide +kernel
theorem dL_law_212 : decode cL_law 212 = .ok (.iload_n 3, 1) := by decide +kernel
theorem dL_law_213 : decode cL_law 213 = .ok (.iconst 2, 1) := by decide +kernel
theorem dL_law_214 : decode cL_law 214 = .ok (.iadd, 1) := by decide +kernel
theorem dL_law_215 : decode cL_law 215 = .ok (.iaload, 1) := by decide +kernel
theorem dL_law_216 : decode cL_law 216 = .ok (.aload_n 0, 1) := by decide +kernel
theorem dL_law_217 : decode cL_law 217 = .ok (.iload_n 3, 1) := by decide +kernel
theorem dL_law_218 : decode cL_law 218 = .ok (.iconst 3, 1) := by decide +kernel
theorem dL_law_219 : decode cL_law 219 = .ok (.iadd, 1) := by decide +kernel
theorem dL_law_220 : decode cL_law 220 = .ok (.iaload, 1) := by decide +kernel
theorem dL_law_221 : decode cL_law 221 = .ok (.aload_n 0, 1) := by decide +kernel
theorem dL_law_222 : decode cL_law 222 = .ok (.iload_n 3, 1) := by decide +kernel
theorem dL_law_223 : decode cL_law 223 = .ok (.iconst 4, 1) := by decide +kernel
theorem dL_law_224 : decode cL_law 224 = .ok (.iadd, 1) := by decide +kernel
theorem dL_law_225 : decode cL_law 225 = .ok (.iaload, 1) := by decide +kernel
theorem dL_law_226 : decode cL_law 226 = .ok (.aload_n 0, 1) := by decide +kernel
theorem dL_law_227 : decode cL_law 227 = .ok (.iload_n 3, 1) := by decide +kernel
theorem dL_law_228 : decode cL_law 228 = .ok (.iconst 5, 1) := by decide +kernel
theorem dL_law_229 : decode cL_law 229 = .ok (.iadd, 1) := by decide +kernel
theorem dL_law_230 : decode cL_law 230 = .ok (.iaload, 1) := by decide +kernel
theorem dL_law_231 : decode cL_law 231 = .ok (.invokevirtual 28, 3) := by decide +kernel
theorem dL_law_234 : decode cL_law 234 = .ok (.aload_n 2, 1) := by decide +kernel
theorem dL_law_235 : decode cL_law 235 = .ok (.aload_n 0, 1) := by decide +kernel
theorem dL_law_236 : decode cL_law 236 = .ok (.iload_n 3, 1) := by decide +kernel
theorem dL_law_237 : decode cL_law 237 = .ok (.iconst 1, 1) := by decide +kernel
theorem dL_law_238 : decode cL_law 238 = .ok (.iadd, 1) := by decide +kernel
theorem dL_law_239 : decode cL_law 239 = .ok (.iaload, 1) := by decide +kernel
theorem dL_law_240 : decode cL_law 240 = .ok (.aload_n 0, 1) := by decide +kernel
theorem dL_law_241 : decode cL_law 241 = .ok (.iload_n 3, 1) := by decide +kernel
theorem dL_law_242 : decode cL_law 242 = .ok (.iconst 2, 1) := by decide +kernel
theorem dL_law_243 : decode cL_law 243 = .ok (.iadd, 1) := by decide +kernel
theorem dL_law_244 : decode cL_law 244 = .ok (.iaload, 1) := by decide +kernel
theorem dL_law_245 : decode cL_law 245 = .ok (.aload_n 0, 1) := by decide +kernel
theorem dL_law_246 : decode cL_law 246 = .ok (.iload_n 3, 1) := by decide +kernel
theorem dL_law_247 : decode cL_law 247 = .ok (.iconst 3, 1) := by decide +kernel
theorem dL_law_248 : decode cL_law 248 = .ok (.iadd, 1) := by decide +kernel
theorem dL_law_249 : decode cL_law 249 = .ok (.iaload, 1) := by decide +kernel
theorem dL_law_250 : decode cL_law 250 = .ok (.aload_n 0, 1) := by decide +kernel
theorem dL_law_251 : decode cL_law 251 = .ok (.iload_n 3, 1) := by decide +kernel
theorem dL_law_252 : decode cL_law 252 = .ok (.iconst 4, 1) := by decide +kernel
theorem dL_law_253 : decode cL_law 253 = .ok (.iadd, 1) := by decide +kernel
theorem dL_law_254 : decode cL_law 254 = .ok (.iaload, 1) := by decide +kernel
theorem dL_law_255 : decode cL_law 255 = .ok (.aload_n 0, 1) := by decide +kernel
theorem dL_law_256 : decode cL_law 256 = .ok (.iload_n 3, 1) := by decide +kernel
theorem dL_law_257 : decode cL_law 257 = .ok (.iconst 5, 1) := by decide +kernel
theorem dL_law_258 : decode cL_law 258 = .ok (.iadd, 1) := by decide +kernel
theorem dL_law_259 : decode cL_law 259 = .ok (.iaload, 1) := by decide +kernel
theorem dL_law_260 : decode cL_law 260 = .ok (.invokevirtual 32, 3) := by decide +kernel
theorem dL_law_263 : decode cL_law 263 = .ok (.lcmp, 1) := by decide +kernel
theorem dL_law_264 : decode cL_law 264 = .ok (.ifCond .eq 499, 3) := by decide +kernel
theorem dL_law_267 : decode cL_law 267 = .ok (.iconst 0, 1) := by decide +kernel
theorem dL_law_268 : decode cL_law 268 = .ok (.ireturn, 1) := by decide +kernel
theorem dL_law_269 : decode cL_law 269 = .ok (.aload_n 1, 1) := by decide +kernel
theorem dL_law_270 : decode cL_law 270 = .ok (.aload_n 0, 1) := by decide +kernel
theorem dL_law_271 : decode cL_law 271 = .ok (.iload_n 3, 1) := by decide +kernel
theorem dL_law_272 : decode cL_law 272 = .ok (.iconst 1, 1) := by decide +kernel
theorem dL_law_273 : decode cL_law 273 = .ok (.iadd, 1) := by decide +kernel
theorem dL_law_274 : decode cL_law 274 = .ok (.iaload, 1) := by decide +kernel
theorem dL_law_275 : decode cL_law 275 = .ok (.invokevirtual 33, 3) := by decide +kernel
theorem dL_law_278 : decode cL_law 278 = .ok (.aload_n 2, 1) := by decide +kernel
theorem dL_law_279 : decode cL_law 279 = .ok (.aload_n 0, 1) := by decide +kernel
theorem dL_law_280 : decode cL_law 280 = .ok (.iload_n 3, 1) := by decide +kernel
theorem dL_law_281 : decode cL_law 281 = .ok (.iconst 1, 1) := by decide +kernel
theorem dL_law_282 : decode cL_law 282 = .ok (.iadd, 1) := by decide +kernel
theorem dL_law_283 : decode cL_law 283 = .ok (.iaload, 1) := by decide +kernel
theorem dL_law_284 : decode cL_law 284 = .ok (.invokevirtual 36, 3) := by decide +kernel
theorem dL_law_287 : decode cL_law 287 = .ok (.if_icmp .eq 476, 3) := by decide +kernel
theorem dL_law_290 : decode cL_law 290 = .ok (.iconst 0, 1) := by decide +kernel
theorem dL_law_291 : decode cL_law 291 = .ok (.ireturn, 1) := by decide +kernel
theorem dL_law_292 : decode cL_law 292 = .ok (.aload_n 1, 1) := by decide +kernel
theorem dL_law_293 : decode cL_law 293 = .ok (.aload_n 0, 1) := by decide +kernel
theorem dL_law_294 : decode cL_law 294 = .ok (.iload_n 3, 1) := by decide +kernel
theorem dL_law_295 : decode cL_law 295 = .ok (.iconst 1, 1) := by decide +kernel
theorem dL_law_296 : decode cL_law 296 = .ok (.iadd, 1) := by decide +kernel
theorem dL_law_297 : decode cL_law 297 = .ok (.iaload, 1) := by decide +kernel
theorem dL_law_298 : decode cL_law 298 = .ok (.invokevirtual 37, 3) := by decide +kernel
theorem dL_law_301 : decode cL_law 301 = .ok (.aload_n 2, 1) := by decide +kernel
theorem dL_law_302 : decode cL_law 302 = .ok (.aload_n 0, 1) := by decide +kernel
theorem dL_law_303 : decode cL_law 303 = .ok (.iload_n 3, 1) := by decide +kernel
theorem dL_law_304 : decode cL_law 304 = .ok (.iconst 1, 1) := by decide +kernel
theorem dL_law_305 : decode cL_law 305 = .ok (.iadd, 1) := by decide +kernel
theorem dL_law_306 : decode cL_law 306 = .ok (.iaload, 1) := by decide +kernel
theorem dL_law_307 : decode cL_law 307 = .ok (.invokevirtual 40, 3) := by decide +kernel
theorem dL_law_310 : decode cL_law 310 = .ok (.if_icmp .eq 453, 3) := by decide +kernel
theorem dL_law_313 : decode cL_law 313 = .ok (.iconst 0, 1) := by decide +kernel
theorem dL_law_314 : decode cL_law 314 = .ok (.ireturn, 1) := by decide +kernel
theorem dL_law_315 : decode cL_law 315 = .ok (.aload_n 1, 1) := by decide +kernel
theorem dL_law_316 : decode cL_law 316 = .ok (.aload_n 0, 1) := by decide +kernel
theorem dL_law_317 : decode cL_law 317 = .ok (.iload_n 3, 1) := by decide +kernel
theorem dL_law_318 : decode cL_law 318 = .ok (.iconst 1, 1) := by decide +kernel
theorem dL_law_319 : decode cL_law 319 = .ok (.iadd, 1) := by decide +kernel
theorem dL_law_320 : decode cL_law 320 = .ok (.iaload, 1) := by decide +kernel
theorem dL_law_321 : decode cL_law 321 = .ok (.aload_n 0, 1) := by decide +kernel
theorem dL_law_322 : decode cL_law 322 = .ok (.iload_n 3, 1) := by decide +kernel
theorem dL_law_323 : decode cL_law 323 = .ok (.iconst 2, 1) := by decide +kernel
theorem dL_law_324 : decode cL_law 324 = .ok (.iadd, 1) := by decide +kernel
theorem dL_law_325 : decode cL_law 325 = .ok (.iaload, 1) := by decide +kernel
theorem dL_law_326 : decode cL_law 326 = .ok (.aload_n 0, 1) := by decide +kernel
theorem dL_law_327 : decode cL_law 327 = .ok (.iload_n 3, 1) := by decide +kernel
theorem dL_law_328 : decode cL_law 328 = .ok (.iconst 3, 1) := by decide +kernel
theorem dL_law_329 : decode cL_law 329 = .ok (.iadd, 1) := by decide +kernel
theorem dL_law_330 : decode cL_law 330 = .ok (.iaload, 1) := by decide +kernel
theorem dL_law_331 : decode cL_law 331 = .ok (.invokevirtual 41, 3) := by decide +kernel
theorem dL_law_334 : decode cL_law 334 = .ok (.aload_n 2, 1) := by decide +kernel
theorem dL_law_335 : decode cL_law 335 = .ok (.aload_n 0, 1) := by decide +kernel
theorem dL_law_336 : decode cL_law 336 = .ok (.iload_n 3, 1) := by decide +kernel
theorem dL_law_337 : decode cL_law 337 = .ok (.iconst 1, 1) := by decide +kernel
theorem dL_law_338 : decode cL_law 338 = .ok (.iadd, 1) := by decide +kernel
theorem dL_law_339 : decode cL_law 339 = .ok (.iaload, 1) := by decide +kernel
theorem dL_law_340 : decode cL_law 340 = .ok (.aload_n 0, 1) := by decide +kernel
theorem dL_law_341 : decode cL_law 341 = .ok (.iload_n 3, 1) := by decide +kernel
theorem dL_law_342 : decode cL_law 342 = .ok (.iconst 2, 1) := by decide +kernel
theorem dL_law_343 : decode cL_law 343 = .ok (.iadd, 1) := by decide +kernel
theorem dL_law_344 : decode cL_law 344 = .ok (.iaload, 1) := by decide +kernel
theorem dL_law_345 : decode cL_law 345 = .ok (.aload_n 0, 1) := by decide +kernel
theorem dL_law_346 : decode cL_law 346 = .ok (.iload_n 3, 1) := by decide +kernel
theorem dL_law_347 : decode cL_law 347 = .ok (.iconst 3, 1) := by decide +kernel
theorem dL_law_348 : decode cL_law 348 = .ok (.iadd, 1) := by decide +kernel
theorem dL_law_349 : decode cL_law 349 = .ok (.iaload, 1) := by decide +kernel
theorem dL_law_350 : decode cL_law 350 = .ok (.invokevirtual 45, 3) := by decide +kernel
theorem dL_law_353 : decode cL_law 353 = .ok (.if_icmp .eq 410, 3) := by decide +kernel
theorem dL_law_356 : decode cL_law 356 = .ok (.iconst 0, 1) := by decide +kernel
theorem dL_law_357 : decode cL_law 357 = .ok (.ireturn, 1) := by decide +kernel
theorem dL_law_358 : decode cL_law 358 = .ok (.aload_n 1, 1) := by decide +kernel
theorem dL_law_359 : decode cL_law 359 = .ok (.aload_n 0, 1) := by decide +kernel
theorem dL_law_360 : decode cL_law 360 = .ok (.iload_n 3, 1) := by decide +kernel
theorem dL_law_361 : decode cL_law 361 = .ok (.iconst 1, 1) := by decide +kernel
theorem dL_law_362 : decode cL_law 362 = .ok (.iadd, 1) := by decide +kernel
theorem dL_law_363 : decode cL_law 363 = .ok (.iaload, 1) := by decide +kernel
theorem dL_law_364 : decode cL_law 364 = .ok (.invokevirtual 46, 3) := by decide +kernel
theorem dL_law_367 : decode cL_law 367 = .ok (.aload_n 2, 1) := by decide +kernel
theorem dL_law_368 : decode cL_law 368 = .ok (.aload_n 0, 1) := by decide +kernel
theorem dL_law_369 : decode cL_law 369 = .ok (.iload_n 3, 1) := by decide +kernel
theorem dL_law_370 : decode cL_law 370 = .ok (.iconst 1, 1) := by decide +kernel
theorem dL_law_371 : decode cL_law 371 = .ok (.iadd, 1) := by decide +kernel
theorem dL_law_372 : decode cL_law 372 = .ok (.iaload, 1) := by decide +kernel
theorem dL_law_373 : decode cL_law 373 = .ok (.invokevirtual 49, 3) := by decide +kernel
theorem dL_law_376 : decode cL_law 376 = .ok (.if_icmp .eq 387, 3) := by decide +kernel
theorem dL_law_379 : decode cL_law 379 = .ok (.iconst 0, 1) := by decide +kernel
theorem dL_law_380 : decode cL_law 380 = .ok (.ireturn, 1) := by decide +kernel
theorem dL_law_381 : decode cL_law 381 = .ok (.aload_n 1, 1) := by decide +kernel
theorem dL_law_382 : decode cL_law 382 = .ok (.aload_n 0, 1) := by decide +kernel
theorem dL_law_383 : decode cL_law 383 = .ok (.iload_n 3, 1) := by decide +kernel
theorem dL_law_384 : decode cL_law 384 = .ok (.iconst 1, 1) := by decide +kernel
theorem dL_law_385 : decode cL_law 385 = .ok (.iadd, 1) := by decide +kernel
theorem dL_law_386 : decode cL_law 386 = .ok (.iaload, 1) := by decide +kernel
theorem dL_law_387 : decode cL_law 387 = .ok (.aload_n 0, 1) := by decide +kernel
theorem dL_law_388 : decode cL_law 388 = .ok (.iload_n 3, 1) := by decide +kernel
theorem dL_law_389 : decode cL_law 389 = .ok (.iconst 2, 1) := by decide +kernel
theorem dL_law_390 : decode cL_law 390 = .ok (.iadd, 1) := by decide +kernel
theorem dL_law_391 : decode cL_law 391 = .ok (.iaload, 1) := by decide +kernel
theorem dL_law_392 : decode cL_law 392 = .ok (.invokevirtual 50, 3) := by decide +kernel
theorem dL_law_395 : decode cL_law 395 = .ok (.aload_n 2, 1) := by decide +kernel
theorem dL_law_396 : decode cL_law 396 = .ok (.aload_n 0, 1) := by decide +kernel
theorem dL_law_397 : decode cL_law 397 = .ok (.iload_n 3, 1) := by decide +kernel
theorem dL_law_398 : decode cL_law 398 = .ok (.iconst 1, 1) := by decide +kernel
theorem dL_law_399 : decode cL_law 399 = .ok (.iadd, 1) := by decide +kernel
theorem dL_law_400 : decode cL_law 400 = .ok (.iaload, 1) := by decide +kernel
theorem dL_law_401 : decode cL_law 401 = .ok (.aload_n 0, 1) := by decide +kernel
theorem dL_law_402 : decode cL_law 402 = .ok (.iload_n 3, 1) := by decide +kernel
theorem dL_law_403 : decode cL_law 403 = .ok (.iconst 2, 1) := by decide +kernel
theorem dL_law_404 : decode cL_law 404 = .ok (.iadd, 1) := by decide +kernel
theorem dL_law_405 : decode cL_law 405 = .ok (.iaload, 1) := by decide +kernel
theorem dL_law_406 : decode cL_law 406 = .ok (.invokevirtual 54, 3) := by decide +kernel
theorem dL_law_409 : decode cL_law 409 = .ok (.lcmp, 1) := by decide +kernel
theorem dL_law_410 : decode cL_law 410 = .ok (.ifCond .eq 353, 3) := by decide +kernel
theorem dL_law_413 : decode cL_law 413 = .ok (.iconst 0, 1) := by decide +kernel
theorem dL_law_414 : decode cL_law 414 = .ok (.ireturn, 1) := by decide +kernel
theorem dL_law_415 : decode cL_law 415 = .ok (.aload_n 1, 1) := by decide +kernel
theorem dL_law_416 : decode cL_law 416 = .ok (.aload_n 0, 1) := by decide +kernel
theorem dL_law_417 : decode cL_law 417 = .ok (.iload_n 3, 1) := by decide +kernel
theorem dL_law_418 : decode cL_law 418 = .ok (.iconst 1, 1) := by decide +kernel
theorem dL_law_419 : decode cL_law 419 = .ok (.iadd, 1) := by decide +kernel
theorem dL_law_420 : decode cL_law 420 = .ok (.iaload, 1) := by decide +kernel
theorem dL_law_421 : decode cL_law 421 = .ok (.aload_n 0, 1) := by decide +kernel
theorem dL_law_422 : decode cL_law 422 = .ok (.iload_n 3, 1) := by decide +kernel
theorem dL_law_423 : decode cL_law 423 = .ok (.iconst 2, 1) := by decide +kernel
theorem dL_law_424 : decode cL_law 424 = .ok (.iadd, 1) := by decide +kernel
theorem dL_law_425 : decode cL_law 425 = .ok (.iaload, 1) := by decide +kernel
theorem dL_law_426 : decode cL_law 426 = .ok (.aload_n 0, 1) := by decide +kernel
theorem dL_law_427 : decode cL_law 427 = .ok (.iload_n 3, 1) := by decide +kernel
theorem dL_law_428 : decode cL_law 428 = .ok (.iconst 3, 1) := by decide +kernel
theorem dL_law_429 : decode cL_law 429 = .ok (.iadd, 1) := by decide +kernel
theorem dL_law_430 : decode cL_law 430 = .ok (.iaload, 1) := by decide +kernel
theorem dL_law_431 : decode cL_law 431 = .ok (.invokevirtual 55, 3) := by decide +kernel
theorem dL_law_434 : decode cL_law 434 = .ok (.aload_n 2, 1) := by decide +kernel
theorem dL_law_435 : decode cL_law 435 = .ok (.aload_n 0, 1) := by decide +kernel
theorem dL_law_436 : decode cL_law 436 = .ok (.iload_n 3, 1) := by decide +kernel
theorem dL_law_437 : decode cL_law 437 = .ok (.iconst 1, 1) := by decide +kernel
theorem dL_law_438 : decode cL_law 438 = .ok (.iadd, 1) := by decide +kernel
theorem dL_law_439 : decode cL_law 439 = .ok (.iaload, 1) := by decide +kernel
theorem dL_law_440 : decode cL_law 440 = .ok (.aload_n 0, 1) := by decide +kernel
theorem dL_law_441 : decode cL_law 441 = .ok (.iload_n 3, 1) := by decide +kernel
theorem dL_law_442 : decode cL_law 442 = .ok (.iconst 2, 1) := by decide +kernel
theorem dL_law_443 : decode cL_law 443 = .ok (.iadd, 1) := by decide +kernel
theorem dL_law_444 : decode cL_law 444 = .ok (.iaload, 1) := by decide +kernel
theorem dL_law_445 : decode cL_law 445 = .ok (.aload_n 0, 1) := by decide +kernel
theorem dL_law_446 : decode cL_law 446 = .ok (.iload_n 3, 1) := by decide +kernel
theorem dL_law_447 : decode cL_law 447 = .ok (.iconst 3, 1) := by decide +kernel
theorem dL_law_448 : decode cL_law 448 = .ok (.iadd, 1) := by decide +kernel
theorem dL_law_449 : decode cL_law 449 = .ok (.iaload, 1) := by decide +kernel
theorem dL_law_450 : decode cL_law 450 = .ok (.invokevirtual 59, 3) := by decide +kernel
theorem dL_law_453 : decode cL_law 453 = .ok (.lcmp, 1) := by decide +kernel
theorem dL_law_454 : decode cL_law 454 = .ok (.ifCond .eq 309, 3) := by decide +kernel
theorem dL_law_457 : decode cL_law 457 = .ok (.iconst 0, 1) := by decide +kernel
theorem dL_law_458 : decode cL_law 458 = .ok (.ireturn, 1) := by decide +kernel
theorem dL_law_459 : decode cL_law 459 = .ok (.aload_n 1, 1) := by decide +kernel
theorem dL_law_460 : decode cL_law 460 = .ok (.aload_n 0, 1) := by decide +kernel
theorem dL_law_461 : decode cL_law 461 = .ok (.iload_n 3, 1) := by decide +kernel
theorem dL_law_462 : decode cL_law 462 = .ok (.iconst 1, 1) := by decide +kernel
theorem dL_law_463 : decode cL_law 463 = .ok (.iadd, 1) := by decide +kernel
theorem dL_law_464 : decode cL_law 464 = .ok (.iaload, 1) := by decide +kernel
theorem dL_law_465 : decode cL_law 465 = .ok (.aload_n 0, 1) := by decide +kernel
theorem dL_law_466 : decode cL_law 466 = .ok (.iload_n 3, 1) := by decide +kernel
theorem dL_law_467 : decode cL_law 467 = .ok (.iconst 2, 1) := by decide +kernel
theorem dL_law_468 : decode cL_law 468 = .ok (.iadd, 1) := by decide +kernel
theorem dL_law_469 : decode cL_law 469 = .ok (.iaload, 1) := by decide +kernel
theorem dL_law_470 : decode cL_law 470 = .ok (.invokevirtual 60, 3) := by decide +kernel
theorem dL_law_473 : decode cL_law 473 = .ok (.aload_n 2, 1) := by decide +kernel
theorem dL_law_474 : decode cL_law 474 = .ok (.aload_n 0, 1) := by decide +kernel
theorem dL_law_475 : decode cL_law 475 = .ok (.iload_n 3, 1) := by decide +kernel
theorem dL_law_476 : decode cL_law 476 = .ok (.iconst 1, 1) := by decide +kernel
theorem dL_law_477 : decode cL_law 477 = .ok (.iadd, 1) := by decide +kernel
theorem dL_law_478 : decode cL_law 478 = .ok (.iaload, 1) := by decide +kernel
theorem dL_law_479 : decode cL_law 479 = .ok (.aload_n 0, 1) := by decide +kernel
theorem dL_law_480 : decode cL_law 480 = .ok (.iload_n 3, 1) := by decide +kernel
theorem dL_law_481 : decode cL_law 481 = .ok (.iconst 2, 1) := by decide +kernel
theorem dL_law_482 : decode cL_law 482 = .ok (.iadd, 1) := by decide +kernel
theorem dL_law_483 : decode cL_law 483 = .ok (.iaload, 1) := by decide +kernel
theorem dL_law_484 : decode cL_law 484 = .ok (.invokevirtual 63, 3) := by decide +kernel
theorem dL_law_487 : decode cL_law 487 = .ok (.lcmp, 1) := by decide +kernel
theorem dL_law_488 : decode cL_law 488 = .ok (.ifCond .eq 275, 3) := by decide +kernel
theorem dL_law_491 : decode cL_law 491 = .ok (.iconst 0, 1) := by decide +kernel
theorem dL_law_492 : decode cL_law 492 = .ok (.ireturn, 1) := by decide +kernel
theorem dL_law_493 : decode cL_law 493 = .ok (.aload_n 1, 1) := by decide +kernel
theorem dL_law_494 : decode cL_law 494 = .ok (.aload_n 0, 1) := by decide +kernel
theorem dL_law_495 : decode cL_law 495 = .ok (.iload_n 3, 1) := by decide +kernel
theorem dL_law_496 : decode cL_law 496 = .ok (.iconst 1, 1) := by decide +kernel
theorem dL_law_497 : decode cL_law 497 = .ok (.iadd, 1) := by decide +kernel
theorem dL_law_498 : decode cL_law 498 = .ok (.iaload, 1) := by decide +kernel
theorem dL_law_499 : decode cL_law 499 = .ok (.invokevirtual 64, 3) := by decide +kernel
theorem dL_law_502 : decode cL_law 502 = .ok (.aload_n 2, 1) := by decide +kernel
theorem dL_law_503 : decode cL_law 503 = .ok (.aload_n 0, 1) := by decide +kernel
theorem dL_law_504 : decode cL_law 504 = .ok (.iload_n 3, 1) := by decide +kernel
theorem dL_law_505 : decode cL_law 505 = .ok (.iconst 1, 1) := by decide +kernel
theorem dL_law_506 : decode cL_law 506 = .ok (.iadd, 1) := by decide +kernel
theorem dL_law_507 : decode cL_law 507 = .ok (.iaload, 1) := by decide +kernel
theorem dL_law_508 : decode cL_law 508 = .ok (.invokevirtual 68, 3) := by decide +kernel
theorem dL_law_511 : decode cL_law 511 = .ok (.lcmp, 1) := by decide +kernel
theorem dL_law_512 : decode cL_law 512 = .ok (.ifCond .eq 251, 3) := by decide +kernel
theorem dL_law_515 : decode cL_law 515 = .ok (.iconst 0, 1) := by decide +kernel
theorem dL_law_516 : decode cL_law 516 = .ok (.ireturn, 1) := by decide +kernel
theorem dL_law_517 : decode cL_law 517 = .ok (.aload_n 1, 1) := by decide +kernel
theorem dL_law_518 : decode cL_law 518 = .ok (.aload_n 0, 1) := by decide +kernel
theorem dL_law_519 : decode cL_law 519 = .ok (.iload_n 3, 1) := by decide +kernel
theorem dL_law_520 : decode cL_law 520 = .ok (.iconst 1, 1) := by decide +kernel
theorem dL_law_521 : decode cL_law 521 = .ok (.iadd, 1) := by decide +kernel
theorem dL_law_522 : decode cL_law 522 = .ok (.iaload, 1) := by decide +kernel
theorem dL_law_523 : decode cL_law 523 = .ok (.aload_n 0, 1) := by decide +kernel
theorem dL_law_524 : decode cL_law 524 = .ok (.iload_n 3, 1) := by decide +kernel
theorem dL_law_525 : decode cL_law 525 = .ok (.iconst 2, 1) := by decide +kernel
theorem dL_law_526 : decode cL_law 526 = .ok (.iadd, 1) := by decide +kernel
theorem dL_law_527 : decode cL_law 527 = .ok (.iaload, 1) := by decide +kernel
theorem dL_law_528 : decode cL_law 528 = .ok (.i2l, 1) := by decide +kernel
theorem dL_law_529 : decode cL_law 529 = .ok (.bipush 32, 2) := by decide +kernel
theorem dL_law_531 : decode cL_law 531 = .ok (.lshl, 1) := by decide +kernel
theorem dL_law_532 : decode cL_law 532 = .ok (.aload_n 0, 1) := by decide +kernel
theorem dL_law_533 : decode cL_law 533 = .ok (.iload_n 3, 1) := by decide +kernel
theorem dL_law_534 : decode cL_law 534 = .ok (.iconst 3, 1) := by decide +kernel
theorem dL_law_535 : decode cL_law 535 = .ok (.iadd, 1) := by decide +kernel
theorem dL_law_536 : decode cL_law 536 = .ok (.iaload, 1) := by decide +kernel
theorem dL_law_537 : decode cL_law 537 = .ok (.i2l, 1) := by decide +kernel
theorem dL_law_538 : decode cL_law 538 = .ok (.ldc2_w 69, 3) := by decide +kernel
theorem dL_law_541 : decode cL_law 541 = .ok (.land, 1) := by decide +kernel
theorem dL_law_542 : decode cL_law 542 = .ok (.lor, 1) := by decide +kernel
theorem dL_law_543 : decode cL_law 543 = .ok (.aload_n 0, 1) := by decide +kernel
theorem dL_law_544 : decode cL_law 544 = .ok (.iload_n 3, 1) := by decide +kernel
theorem dL_law_545 : decode cL_law 545 = .ok (.iconst 4, 1) := by decide +kernel
theorem dL_law_546 : decode cL_law 546 = .ok (.iadd, 1) := by decide +kernel
theorem dL_law_547 : decode cL_law 547 = .ok (.iaload, 1) := by decide +kernel
theorem dL_law_548 : decode cL_law 548 = .ok (.i2l, 1) := by decide +kernel
theorem dL_law_549 : decode cL_law 549 = .ok (.bipush 32, 2) := by decide +kernel
theorem dL_law_551 : decode cL_law 551 = .ok (.lshl, 1) := by decide +kernel
theorem dL_law_552 : decode cL_law 552 = .ok (.aload_n 0, 1) := by decide +kernel
theorem dL_law_553 : decode cL_law 553 = .ok (.iload_n 3, 1) := by decide +kernel
theorem dL_law_554 : decode cL_law 554 = .ok (.iconst 5, 1) := by decide +kernel
theorem dL_law_555 : decode cL_law 555 = .ok (.iadd, 1) := by decide +kernel
theorem dL_law_556 : decode cL_law 556 = .ok (.iaload, 1) := by decide +kernel
theorem dL_law_557 : decode cL_law 557 = .ok (.i2l, 1) := by decide +kernel
theorem dL_law_558 : decode cL_law 558 = .ok (.ldc2_w 69, 3) := by decide +kernel
theorem dL_law_561 : decode cL_law 561 = .ok (.land, 1) := by decide +kernel
theorem dL_law_562 : decode cL_law 562 = .ok (.lor, 1) := by decide +kernel
theorem dL_law_563 : decode cL_law 563 = .ok (.invokevirtual 71, 3) := by decide +kernel
theorem dL_law_566 : decode cL_law 566 = .ok (.aload_n 2, 1) := by decide +kernel
theorem dL_law_567 : decode cL_law 567 = .ok (.aload_n 0, 1) := by decide +kernel
theorem dL_law_568 : decode cL_law 568 = .ok (.iload_n 3, 1) := by decide +kernel
theorem dL_law_569 : decode cL_law 569 = .ok (.iconst 1, 1) := by decide +kernel
theorem dL_law_570 : decode cL_law 570 = .ok (.iadd, 1) := by decide +kernel
theorem dL_law_571 : decode cL_law 571 = .ok (.iaload, 1) := by decide +kernel
theorem dL_law_572 : decode cL_law 572 = .ok (.aload_n 0, 1) := by decide +kernel
theorem dL_law_573 : decode cL_law 573 = .ok (.iload_n 3, 1) := by decide +kernel
theorem dL_law_574 : decode cL_law 574 = .ok (.iconst 2, 1) := by decide +kernel
theorem dL_law_575 : decode cL_law 575 = .ok (.iadd, 1) := by decide +kernel
theorem dL_law_576 : decode cL_law 576 = .ok (.iaload, 1) := by decide +kernel
theorem dL_law_577 : decode cL_law 577 = .ok (.i2l, 1) := by decide +kernel
theorem dL_law_578 : decode cL_law 578 = .ok (.bipush 32, 2) := by decide +kernel
theorem dL_law_580 : decode cL_law 580 = .ok (.lshl, 1) := by decide +kernel
theorem dL_law_581 : decode cL_law 581 = .ok (.aload_n 0, 1) := by decide +kernel
theorem dL_law_582 : decode cL_law 582 = .ok (.iload_n 3, 1) := by decide +kernel
theorem dL_law_583 : decode cL_law 583 = .ok (.iconst 3, 1) := by decide +kernel
theorem dL_law_584 : decode cL_law 584 = .ok (.iadd, 1) := by decide +kernel
theorem dL_law_585 : decode cL_law 585 = .ok (.iaload, 1) := by decide +kernel
theorem dL_law_586 : decode cL_law 586 = .ok (.i2l, 1) := by decide +kernel
theorem dL_law_587 : decode cL_law 587 = .ok (.ldc2_w 69, 3) := by decide +kernel
theorem dL_law_590 : decode cL_law 590 = .ok (.land, 1) := by decide +kernel
theorem dL_law_591 : decode cL_law 591 = .ok (.lor, 1) := by decide +kernel
theorem dL_law_592 : decode cL_law 592 = .ok (.aload_n 0, 1) := by decide +kernel
theorem dL_law_593 : decode cL_law 593 = .ok (.iload_n 3, 1) := by decide +kernel
theorem dL_law_594 : decode cL_law 594 = .ok (.iconst 4, 1) := by decide +kernel
theorem dL_law_595 : decode cL_law 595 = .ok (.iadd, 1) := by decide +kernel
theorem dL_law_596 : decode cL_law 596 = .ok (.iaload, 1) := by decide +kernel
theorem dL_law_597 : decode cL_law 597 = .ok (.i2l, 1) := by decide +kernel
theorem dL_law_598 : decode cL_law 598 = .ok (.bipush 32, 2) := by decide +kernel
theorem dL_law_600 : decode cL_law 600 = .ok (.lshl, 1) := by decide +kernel
theorem dL_law_601 : decode cL_law 601 = .ok (.aload_n 0, 1) := by decide +kernel
theorem dL_law_602 : decode cL_law 602 = .ok (.iload_n 3, 1) := by decide +kernel
theorem dL_law_603 : decode cL_law 603 = .ok (.iconst 5, 1) := by decide +kernel
theorem dL_law_604 : decode cL_law 604 = .ok (.iadd, 1) := by decide +kernel
theorem dL_law_605 : decode cL_law 605 = .ok (.iaload, 1) := by decide +kernel
theorem dL_law_606 : decode cL_law 606 = .ok (.i2l, 1) := by decide +kernel
theorem dL_law_607 : decode cL_law 607 = .ok (.ldc2_w 69, 3) := by decide +kernel
theorem dL_law_610 : decode cL_law 610 = .ok (.land, 1) := by decide +kernel
theorem dL_law_611 : decode cL_law 611 = .ok (.lor, 1) := by decide +kernel
theorem dL_law_612 : decode cL_law 612 = .ok (.invokevirtual 75, 3) := by decide +kernel
theorem dL_law_615 : decode cL_law 615 = .ok (.if_icmp .eq 148, 3) := by decide +kernel
theorem dL_law_618 : decode cL_law 618 = .ok (.iconst 0, 1) := by decide +kernel
theorem dL_law_619 : decode cL_law 619 = .ok (.ireturn, 1) := by decide +kernel
theorem dL_law_620 : decode cL_law 620 = .ok (.aload_n 1, 1) := by decide +kernel
theorem dL_law_621 : decode cL_law 621 = .ok (.invokevirtual 76, 3) := by decide +kernel
theorem dL_law_624 : decode cL_law 624 = .ok (.aload_n 2, 1) := by decide +kernel
theorem dL_law_625 : decode cL_law 625 = .ok (.invokevirtual 79, 3) := by decide +kernel
theorem dL_law_628 : decode cL_law 628 = .ok (.if_icmp .eq 135, 3) := by decide +kernel
theorem dL_law_631 : decode cL_law 631 = .ok (.iconst 0, 1) := by decide +kernel
theorem dL_law_632 : decode cL_law 632 = .ok (.ireturn, 1) := by decide +kernel
theorem dL_law_633 : decode cL_law 633 = .ok (.aload_n 1, 1) := by decide +kernel
theorem dL_law_634 : decode cL_law 634 = .ok (.invokevirtual 80, 3) := by decide +kernel
theorem dL_law_637 : decode cL_law 637 = .ok (.aload_n 2, 1) := by decide +kernel
theorem dL_law_638 : decode cL_law 638 = .ok (.invokevirtual 83, 3) := by decide +kernel
theorem dL_law_641 : decode cL_law 641 = .ok (.if_icmp .eq 122, 3) := by decide +kernel
theorem dL_law_644 : decode cL_law 644 = .ok (.iconst 0, 1) := by decide +kernel
theorem dL_law_645 : decode cL_law 645 = .ok (.ireturn, 1) := by decide +kernel
theorem dL_law_646 : decode cL_law 646 = .ok (.aload_n 1, 1) := by decide +kernel
theorem dL_law_647 : decode cL_law 647 = .ok (.aload_n 0, 1) := by decide +kernel
theorem dL_law_648 : decode cL_law 648 = .ok (.iload_n 3, 1) := by decide +kernel
theorem dL_law_649 : decode cL_law 649 = .ok (.iconst 1, 1) := by decide +kernel
theorem dL_law_650 : decode cL_law 650 = .ok (.iadd, 1) := by decide +kernel
theorem dL_law_651 : decode cL_law 651 = .ok (.iaload, 1) := by decide +kernel
theorem dL_law_652 : decode cL_law 652 = .ok (.i2l, 1) := by decide +kernel
theorem dL_law_653 : decode cL_law 653 = .ok (.bipush 32, 2) := by decide +kernel
theorem dL_law_655 : decode cL_law 655 = .ok (.lshl, 1) := by decide +kernel
theorem dL_law_656 : decode cL_law 656 = .ok (.aload_n 0, 1) := by decide +kernel
theorem dL_law_657 : decode cL_law 657 = .ok (.iload_n 3, 1) := by decide +kernel
theorem dL_law_658 : decode cL_law 658 = .ok (.iconst 2, 1) := by decide +kernel
theorem dL_law_659 : decode cL_law 659 = .ok (.iadd, 1) := by decide +kernel
theorem dL_law_660 : decode cL_law 660 = .ok (.iaload, 1) := by decide +kernel
theorem dL_law_661 : decode cL_law 661 = .ok (.i2l, 1) := by decide +kernel
theorem dL_law_662 : decode cL_law 662 = .ok (.ldc2_w 69, 3) := by decide +kernel
theorem dL_law_665 : decode cL_law 665 = .ok (.land, 1) := by decide +kernel
theorem dL_law_666 : decode cL_law 666 = .ok (.lor, 1) := by decide +kernel
theorem dL_law_667 : decode cL_law 667 = .ok (.aload_n 0, 1) := by decide +kernel
theorem dL_law_668 : decode cL_law 668 = .ok (.iload_n 3, 1) := by decide +kernel
theorem dL_law_669 : decode cL_law 669 = .ok (.iconst 3, 1) := by decide +kernel
theorem dL_law_670 : decode cL_law 670 = .ok (.iadd, 1) := by decide +kernel
theorem dL_law_671 : decode cL_law 671 = .ok (.iaload, 1) := by decide +kernel
theorem dL_law_672 : decode cL_law 672 = .ok (.i2l, 1) := by decide +kernel
theorem dL_law_673 : decode cL_law 673 = .ok (.bipush 32, 2) := by decide +kernel
theorem dL_law_675 : decode cL_law 675 = .ok (.lshl, 1) := by decide +kernel
theorem dL_law_676 : decode cL_law 676 = .ok (.aload_n 0, 1) := by decide +kernel
theorem dL_law_677 : decode cL_law 677 = .ok (.iload_n 3, 1) := by decide +kernel
theorem dL_law_678 : decode cL_law 678 = .ok (.iconst 4, 1) := by decide +kernel
theorem dL_law_679 : decode cL_law 679 = .ok (.iadd, 1) := by decide +kernel
theorem dL_law_680 : decode cL_law 680 = .ok (.iaload, 1) := by decide +kernel
theorem dL_law_681 : decode cL_law 681 = .ok (.i2l, 1) := by decide +kernel
theorem dL_law_682 : decode cL_law 682 = .ok (.ldc2_w 69, 3) := by decide +kernel
theorem dL_law_685 : decode cL_law 685 = .ok (.land, 1) := by decide +kernel
theorem dL_law_686 : decode cL_law 686 = .ok (.lor, 1) := by decide +kernel
theorem dL_law_687 : decode cL_law 687 = .ok (.invokevirtual 84, 3) := by decide +kernel
theorem dL_law_690 : decode cL_law 690 = .ok (.aload_n 2, 1) := by decide +kernel
theorem dL_law_691 : decode cL_law 691 = .ok (.aload_n 0, 1) := by decide +kernel
theorem dL_law_692 : decode cL_law 692 = .ok (.iload_n 3, 1) := by decide +kernel
theorem dL_law_693 : decode cL_law 693 = .ok (.iconst 1, 1) := by decide +kernel
theorem dL_law_694 : decode cL_law 694 = .ok (.iadd, 1) := by decide +kernel
theorem dL_law_695 : decode cL_law 695 = .ok (.iaload, 1) := by decide +kernel
theorem dL_law_696 : decode cL_law 696 = .ok (.i2l, 1) := by decide +kernel
theorem dL_law_697 : decode cL_law 697 = .ok (.bipush 32, 2) := by decide +kernel
theorem dL_law_699 : decode cL_law 699 = .ok (.lshl, 1) := by decide +kernel
theorem dL_law_700 : decode cL_law 700 = .ok (.aload_n 0, 1) := by decide +kernel
theorem dL_law_701 : decode cL_law 701 = .ok (.iload_n 3, 1) := by decide +kernel
theorem dL_law_702 : decode cL_law 702 = .ok (.iconst 2, 1) := by decide +kernel
theorem dL_law_703 : decode cL_law 703 = .ok (.iadd, 1) := by decide +kernel
theorem dL_law_704 : decode cL_law 704 = .ok (.iaload, 1) := by decide +kernel
theorem dL_law_705 : decode cL_law 705 = .ok (.i2l, 1) := by decide +kernel
theorem dL_law_706 : decode cL_law 706 = .ok (.ldc2_w 69, 3) := by decide +kernel
theorem dL_law_709 : decode cL_law 709 = .ok (.land, 1) := by decide +kernel
theorem dL_law_710 : decode cL_law 710 = .ok (.lor, 1) := by decide +kernel
theorem dL_law_711 : decode cL_law 711 = .ok (.aload_n 0, 1) := by decide +kernel
theorem dL_law_712 : decode cL_law 712 = .ok (.iload_n 3, 1) := by decide +kernel
theorem dL_law_713 : decode cL_law 713 = .ok (.iconst 3, 1) := by decide +kernel
theorem dL_law_714 : decode cL_law 714 = .ok (.iadd, 1) := by decide +kernel
theorem dL_law_715 : decode cL_law 715 = .ok (.iaload, 1) := by decide +kernel
theorem dL_law_716 : decode cL_law 716 = .ok (.i2l, 1) := by decide +kernel
theorem dL_law_717 : decode cL_law 717 = .ok (.bipush 32, 2) := by decide +kernel
theorem dL_law_719 : decode cL_law 719 = .ok (.lshl, 1) := by decide +kernel
theorem dL_law_720 : decode cL_law 720 = .ok (.aload_n 0, 1) := by decide +kernel
theorem dL_law_721 : decode cL_law 721 = .ok (.iload_n 3, 1) := by decide +kernel
theorem dL_law_722 : decode cL_law 722 = .ok (.iconst 4, 1) := by decide +kernel
theorem dL_law_723 : decode cL_law 723 = .ok (.iadd, 1) := by decide +kernel
theorem dL_law_724 : decode cL_law 724 = .ok (.iaload, 1) := by decide +kernel
theorem dL_law_725 : decode cL_law 725 = .ok (.i2l, 1) := by decide +kernel
theorem dL_law_726 : decode cL_law 726 = .ok (.ldc2_w 69, 3) := by decide +kernel
theorem dL_law_729 : decode cL_law 729 = .ok (.land, 1) := by decide +kernel
theorem dL_law_730 : decode cL_law 730 = .ok (.lor, 1) := by decide +kernel
theorem dL_law_731 : decode cL_law 731 = .ok (.invokevirtual 88, 3) := by decide +kernel
theorem dL_law_734 : decode cL_law 734 = .ok (.lcmp, 1) := by decide +kernel
theorem dL_law_735 : decode cL_law 735 = .ok (.ifCond .eq 28, 3) := by decide +kernel
theorem dL_law_738 : decode cL_law 738 = .ok (.iconst 0, 1) := by decide +kernel
theorem dL_law_739 : decode cL_law 739 = .ok (.ireturn, 1) := by decide +kernel
theorem dL_law_740 : decode cL_law 740 = .ok (.aload_n 1, 1) := by decide +kernel
theorem dL_law_741 : decode cL_law 741 = .ok (.aload_n 0, 1) := by decide +kernel
theorem dL_law_742 : decode cL_law 742 = .ok (.iload_n 3, 1) := by decide +kernel
theorem dL_law_743 : decode cL_law 743 = .ok (.iconst 1, 1) := by decide +kernel
theorem dL_law_744 : decode cL_law 744 = .ok (.iadd, 1) := by decide +kernel
theorem dL_law_745 : decode cL_law 745 = .ok (.iaload, 1) := by decide +kernel
theorem dL_law_746 : decode cL_law 746 = .ok (.invokevirtual 89, 3) := by decide +kernel
theorem dL_law_749 : decode cL_law 749 = .ok (.aload_n 2, 1) := by decide +kernel
theorem dL_law_750 : decode cL_law 750 = .ok (.aload_n 0, 1) := by decide +kernel
theorem dL_law_751 : decode cL_law 751 = .ok (.iload_n 3, 1) := by decide +kernel
theorem dL_law_752 : decode cL_law 752 = .ok (.iconst 1, 1) := by decide +kernel
theorem dL_law_753 : decode cL_law 753 = .ok (.iadd, 1) := by decide +kernel
theorem dL_law_754 : decode cL_law 754 = .ok (.iaload, 1) := by decide +kernel
theorem dL_law_755 : decode cL_law 755 = .ok (.invokevirtual 92, 3) := by decide +kernel
theorem dL_law_758 : decode cL_law 758 = .ok (.if_icmp .eq 5, 3) := by decide +kernel
theorem dL_law_761 : decode cL_law 761 = .ok (.iconst 0, 1) := by decide +kernel
theorem dL_law_762 : decode cL_law 762 = .ok (.ireturn, 1) := by decide +kernel
theorem dL_law_763 : decode cL_law 763 = .ok (.iinc 3 6, 3) := by decide +kernel
theorem dL_law_766 : decode cL_law 766 = .ok (.goto (-748), 3) := by decide +kernel
theorem dL_law_769 : decode cL_law 769 = .ok (.iconst 1, 1) := by decide +kernel
theorem dL_law_770 : decode cL_law 770 = .ok (.ireturn, 1) := by decide +kernel
