theorem dX0_init_0 : decode cX0_init 0 = .ok (.aload_n 0, 1) := by decide +kernel
theorem dX0_init_1 : decode cX0_init 1 = .ok (.invokespecial 3, 3) := by decide +kernel
theorem dX0_init_4 : decode cX0_init 4 = .ok (.aload_n 0, 1) := by decide +kernel
theorem dX0_init_5 : decode cX0_init 5 = .ok (.sipush 192, 3) := by decide +kernel
theorem dX0_init_8 : decode cX0_init 8 = .ok (.newarray .int, 2) := by decide +kernel
theorem dX0_init_10 : decode cX0_init 10 = .ok (.putfield 9, 3) := by decide +kernel
theorem dX0_init_13 : decode cX0_init 13 = .ok (.aload_n 0, 1) := by decide +kernel
theorem dX0_init_14 : decode cX0_init 14 = .ok (.sipush 192, 3) := by decide +kernel
theorem dX0_init_17 : decode cX0_init 17 = .ok (.newarray .int, 2) := by decide +kernel
theorem dX0_init_19 : decode cX0_init 19 = .ok (.putfield 15, 3) := by decide +kernel
theorem dX0_init_22 : decode cX0_init 22 = .ok (.return_, 1) := by decide +kernel
theorem dX0_renew_0 : decode cX0_renew 0 = .ok (.aload_n 0, 1) := by decide +kernel
theorem dX0_renew_1 : decode cX0_renew 1 = .ok (.getfield 9, 3) := by decide +kernel
theorem dX0_renew_4 : decode cX0_renew 4 = .ok (.iconst 0, 1) := by decide +kernel
theorem dX0_renew_5 : decode cX0_renew 5 = .ok (.invokestatic 18, 3) := by decide +kernel
theorem dX0_renew_8 : decode cX0_renew 8 = .ok (.aload_n 0, 1) := by decide +kernel
theorem dX0_renew_9 : decode cX0_renew 9 = .ok (.getfield 15, 3) := by decide +kernel
theorem dX0_renew_12 : decode cX0_renew 12 = .ok (.iconst 0, 1) := by decide +kernel
theorem dX0_renew_13 : decode cX0_renew 13 = .ok (.invokestatic 18, 3) := by decide +kernel
theorem dX0_renew_16 : decode cX0_renew 16 = .ok (.return_, 1) := by decide +kernel
theorem dX0_path_0 : decode cX0_path 0 = .ok (.iload_n 0, 1) := by decide +kernel
theorem dX0_path_1 : decode cX0_path 1 = .ok (.bipush 8, 2) := by decide +kernel
theorem dX0_path_3 : decode cX0_path 3 = .ok (.imul, 1) := by decide +kernel
theorem dX0_path_4 : decode cX0_path 4 = .ok (.iload_n 1, 1) := by decide +kernel
theorem dX0_path_5 : decode cX0_path 5 = .ok (.iadd, 1) := by decide +kernel
theorem dX0_path_6 : decode cX0_path 6 = .ok (.bipush 6, 2) := by decide +kernel
theorem dX0_path_8 : decode cX0_path 8 = .ok (.imul, 1) := by decide +kernel
theorem dX0_path_9 : decode cX0_path 9 = .ok (.iload_n 2, 1) := by decide +kernel
theorem dX0_path_10 : decode cX0_path 10 = .ok (.iadd, 1) := by decide +kernel
theorem dX0_path_11 : decode cX0_path 11 = .ok (.ireturn, 1) := by decide +kernel
theorem dX0_add_0 : decode cX0_add 0 = .ok (.iload_n 1, 1) := by decide +kernel
theorem dX0_add_1 : decode cX0_add 1 = .ok (.iload_n 2, 1) := by decide +kernel
theorem dX0_add_2 : decode cX0_add 2 = .ok (.iload_n 3, 1) := by decide +kernel
theorem dX0_add_3 : decode cX0_add 3 = .ok (.invokestatic 24, 3) := by decide +kernel
theorem dX0_add_6 : decode cX0_add 6 = .ok (.istore 5, 2) := by decide +kernel
theorem dX0_add_8 : decode cX0_add 8 = .ok (.aload_n 0, 1) := by decide +kernel
theorem dX0_add_9 : decode cX0_add 9 = .ok (.getfield 9, 3) := by decide +kernel
theorem dX0_add_12 : decode cX0_add 12 = .ok (.iload 5, 2) := by decide +kernel
theorem dX0_add_14 : decode cX0_add 14 = .ok (.dup2, 1) := by decide +kernel
theorem dX0_add_15 : decode cX0_add 15 = .ok (.iaload, 1) := by decide +kernel
theorem dX0_add_16 : decode cX0_add 16 = .ok (.iload 4, 2) := by decide +kernel
theorem dX0_add_18 : decode cX0_add 18 = .ok (.iadd, 1) := by decide +kernel
theorem dX0_add_19 : decode cX0_add 19 = .ok (.iastore, 1) := by decide +kernel
theorem dX0_add_20 : decode cX0_add 20 = .ok (.aload_n 0, 1) := by decide +kernel
theorem dX0_add_21 : decode cX0_add 21 = .ok (.getfield 15, 3) := by decide +kernel
theorem dX0_add_24 : decode cX0_add 24 = .ok (.iload 5, 2) := by decide +kernel
theorem dX0_add_26 : decode cX0_add 26 = .ok (.dup2, 1) := by decide +kernel
theorem dX0_add_27 : decode cX0_add 27 = .ok (.iaload, 1) := by decide +kernel
theorem dX0_add_28 : decode cX0_add 28 = .ok (.iconst 1, 1) := by decide +kernel
theorem dX0_add_29 : decode cX0_add 29 = .ok (.iadd, 1) := by decide +kernel
theorem dX0_add_30 : decode cX0_add 30 = .ok (.iastore, 1) := by decide +kernel
theorem dX0_add_31 : decode cX0_add 31 = .ok (.return_, 1) := by decide +kernel
theorem dX0_mean_0 : decode cX0_mean 0 = .ok (.iload_n 1, 1) := by decide +kernel
theorem dX0_mean_1 : decode cX0_mean 1 = .ok (.iload_n 2, 1) := by decide +kernel
theorem dX0_mean_2 : decode cX0_mean 2 = .ok (.iload_n 3, 1) := by decide +kernel
theorem dX0_mean_3 : decode cX0_mean 3 = .ok (.invokestatic 24, 3) := by decide +kernel
theorem dX0_mean_6 : decode cX0_mean 6 = .ok (.istore 4, 2) := by decide +kernel
theorem dX0_mean_8 : decode cX0_mean 8 = .ok (.aload_n 0, 1) := by decide +kernel
theorem dX0_mean_9 : decode cX0_mean 9 = .ok (.getfield 15, 3) := by decide +kernel
theorem dX0_mean_12 : decode cX0_mean 12 = .ok (.iload 4, 2) := by decide +kernel
theorem dX0_mean_14 : decode cX0_mean 14 = .ok (.iaload, 1) := by decide +kernel
theorem dX0_mean_15 : decode cX0_mean 15 = .ok (.ifCond .ne 7, 3) := by decide +kernel
theorem dX0_mean_18 : decode cX0_mean 18 = .ok (.iconst 0, 1) := by decide +kernel
theorem dX0_mean_19 : decode cX0_mean 19 = .ok (.goto 20, 3) := by decide +kernel
theorem dX0_mean_22 : decode cX0_mean 22 = .ok (.aload_n 0, 1) := by decide +kernel
theorem dX0_mean_23 : decode cX0_mean 23 = .ok (.getfield 9, 3) := by decide +kernel
theorem dX0_mean_26 : decode cX0_mean 26 = .ok (.iload 4, 2) := by decide +kernel
theorem dX0_mean_28 : decode cX0_mean 28 = .ok (.iaload, 1) := by decide +kernel
theorem dX0_mean_29 : decode cX0_mean 29 = .ok (.aload_n 0, 1) := by decide +kernel
theorem dX0_mean_30 : decode cX0_mean 30 = .ok (.getfield 15, 3) := by decide +kernel
theorem dX0_mean_33 : decode cX0_mean 33 = .ok (.iload 4, 2) := by decide +kernel
theorem dX0_mean_35 : decode cX0_mean 35 = .ok (.iaload, 1) := by decide +kernel
theorem dX0_mean_36 : decode cX0_mean 36 = .ok (.invokestatic 28, 3) := by decide +kernel
theorem dX0_mean_39 : decode cX0_mean 39 = .ok (.ireturn, 1) := by decide +kernel
theorem dX1_init_0 : decode cX1_init 0 = .ok (.aload_n 0, 1) := by decide +kernel
theorem dX1_init_1 : decode cX1_init 1 = .ok (.invokespecial 3, 3) := by decide +kernel
theorem dX1_init_4 : decode cX1_init 4 = .ok (.aload_n 0, 1) := by decide +kernel
theorem dX1_init_5 : decode cX1_init 5 = .ok (.sipush 300, 3) := by decide +kernel
theorem dX1_init_8 : decode cX1_init 8 = .ok (.newarray .int, 2) := by decide +kernel
theorem dX1_init_10 : decode cX1_init 10 = .ok (.putfield 9, 3) := by decide +kernel
theorem dX1_init_13 : decode cX1_init 13 = .ok (.aload_n 0, 1) := by decide +kernel
theorem dX1_init_14 : decode cX1_init 14 = .ok (.sipush 300, 3) := by decide +kernel
theorem dX1_init_17 : decode cX1_init 17 = .ok (.newarray .int, 2) := by decide +kernel
theorem dX1_init_19 : decode cX1_init 19 = .ok (.putfield 15, 3) := by decide +kernel
theorem dX1_init_22 : decode cX1_init 22 = .ok (.aload_n 0, 1) := by decide +kernel
theorem dX1_init_23 : decode cX1_init 23 = .ok (.sipush 300, 3) := by decide +kernel
theorem dX1_init_26 : decode cX1_init 26 = .ok (.newarray .int, 2) := by decide +kernel
theorem dX1_init_28 : decode cX1_init 28 = .ok (.putfield 18, 3) := by decide +kernel
theorem dX1_init_31 : decode cX1_init 31 = .ok (.aload_n 0, 1) := by decide +kernel
theorem dX1_init_32 : decode cX1_init 32 = .ok (.sipush 300, 3) := by decide +kernel
theorem dX1_init_35 : decode cX1_init 35 = .ok (.newarray .int, 2) := by decide +kernel
theorem dX1_init_37 : decode cX1_init 37 = .ok (.putfield 21, 3) := by decide +kernel
theorem dX1_init_40 : decode cX1_init 40 = .ok (.aload_n 0, 1) := by decide +kernel
theorem dX1_init_41 : decode cX1_init 41 = .ok (.sipush 300, 3) := by decide +kernel
theorem dX1_init_44 : decode cX1_init 44 = .ok (.newarray .int, 2) := by decide +kernel
theorem dX1_init_46 : decode cX1_init 46 = .ok (.putfield 24, 3) := by decide +kernel
theorem dX1_init_49 : decode cX1_init 49 = .ok (.aload_n 0, 1) := by decide +kernel
theorem dX1_init_50 : decode cX1_init 50 = .ok (.sipush 300, 3) := by decide +kernel
theorem dX1_init_53 : decode cX1_init 53 = .ok (.newarray .int, 2) := by decide +kernel
theorem dX1_init_55 : decode cX1_init 55 = .ok (.putfield 27, 3) := by decide +kernel
theorem dX1_init_58 : decode cX1_init 58 = .ok (.aload_n 0, 1) := by decide +kernel
theorem dX1_init_59 : decode cX1_init 59 = .ok (.sipush 300, 3) := by decide +kernel
theorem dX1_init_62 : decode cX1_init 62 = .ok (.newarray .int, 2) := by decide +kernel
theorem dX1_init_64 : decode cX1_init 64 = .ok (.putfield 30, 3) := by decide +kernel
theorem dX1_init_67 : decode cX1_init 67 = .ok (.aload_n 0, 1) := by decide +kernel
theorem dX1_init_68 : decode cX1_init 68 = .ok (.sipush 1800, 3) := by decide +kernel
theorem dX1_init_71 : decode cX1_init 71 = .ok (.newarray .int, 2) := by decide +kernel
theorem dX1_init_73 : decode cX1_init 73 = .ok (.putfield 33, 3) := by decide +kernel
theorem dX1_init_76 : decode cX1_init 76 = .ok (.aload_n 0, 1) := by decide +kernel
theorem dX1_init_77 : decode cX1_init 77 = .ok (.bipush 6, 2) := by decide +kernel
theorem dX1_init_79 : decode cX1_init 79 = .ok (.newarray .int, 2) := by decide +kernel
theorem dX1_init_81 : decode cX1_init 81 = .ok (.putfield 36, 3) := by decide +kernel
theorem dX1_init_84 : decode cX1_init 84 = .ok (.aload_n 0, 1) := by decide +kernel
theorem dX1_init_85 : decode cX1_init 85 = .ok (.iconst 0, 1) := by decide +kernel
theorem dX1_init_86 : decode cX1_init 86 = .ok (.putfield 39, 3) := by decide +kernel
theorem dX1_init_89 : decode cX1_init 89 = .ok (.return_, 1) := by decide +kernel
theorem dX1_addReport_0 : decode cX1_addReport 0 = .ok (.aload_n 0, 1) := by decide +kernel
theorem dX1_addReport_1 : decode cX1_addReport 1 = .ok (.getfield 39, 3) := by decide +kernel
theorem dX1_addReport_4 : decode cX1_addReport 4 = .ok (.sipush 300, 3) := by decide +kernel
theorem dX1_addReport_7 : decode cX1_addReport 7 = .ok (.if_icmp .lt 5, 3) := by decide +kernel
theorem dX1_addReport_10 : decode cX1_addReport 10 = .ok (.iconst (-1), 1) := by decide +kernel
theorem dX1_addReport_11 : decode cX1_addReport 11 = .ok (.ireturn, 1) := by decide +kernel
theorem dX1_addReport_12 : decode cX1_addReport 12 = .ok (.aload_n 0, 1) := by decide +kernel
theorem dX1_addReport_13 : decode cX1_addReport 13 = .ok (.getfield 9, 3) := by decide +kernel
theorem dX1_addReport_16 : decode cX1_addReport 16 = .ok (.aload_n 0, 1) := by decide +kernel
theorem dX1_addReport_17 : decode cX1_addReport 17 = .ok (.getfield 39, 3) := by decide +kernel
theorem dX1_addReport_20 : decode cX1_addReport 20 = .ok (.iload_n 1, 1) := by decide +kernel
theorem dX1_addReport_21 : decode cX1_addReport 21 = .ok (.iastore, 1) := by decide +kernel
theorem dX1_addReport_22 : decode cX1_addReport 22 = .ok (.aload_n 0, 1) := by decide +kernel
theorem dX1_addReport_23 : decode cX1_addReport 23 = .ok (.getfield 30, 3) := by decide +kernel
theorem dX1_addReport_26 : decode cX1_addReport 26 = .ok (.aload_n 0, 1) := by decide +kernel
theorem dX1_addReport_27 : decode cX1_addReport 27 = .ok (.getfield 39, 3) := by decide +kernel
theorem dX1_addReport_30 : decode cX1_addReport 30 = .ok (.iload 5, 2) := by decide +kernel
theorem dX1_addReport_32 : decode cX1_addReport 32 = .ok (.iastore, 1) := by decide +kernel
theorem dX1_addReport_33 : decode cX1_addReport 33 = .ok (.aload_n 0, 1) := by decide +kernel
theorem dX1_addReport_34 : decode cX1_addReport 34 = .ok (.iload_n 3, 1) := by decide +kernel
theorem dX1_addReport_35 : decode cX1_addReport 35 = .ok (.iload 4, 2) := by decide +kernel
theorem dX1_addReport_37 : decode cX1_addReport 37 = .ok (.iload 4, 2) := by decide +kernel
theorem dX1_addReport_39 : decode cX1_addReport 39 = .ok (.iconst 1, 1) := by decide +kernel
theorem dX1_addReport_40 : decode cX1_addReport 40 = .ok (.iadd, 1) := by decide +kernel
theorem dX1_addReport_41 : decode cX1_addReport 41 = .ok (.iload_n 2, 1) := by decide +kernel
theorem dX1_addReport_42 : decode cX1_addReport 42 = .ok (.iload 6, 2) := by decide +kernel
theorem dX1_addReport_44 : decode cX1_addReport 44 = .ok (.invokevirtual 43, 3) := by decide +kernel
theorem dX1_addReport_47 : decode cX1_addReport 47 = .ok (.ireturn, 1) := by decide +kernel
theorem dX1_addNotice_0 : decode cX1_addNotice 0 = .ok (.aload_n 0, 1) := by decide +kernel
theorem dX1_addNotice_1 : decode cX1_addNotice 1 = .ok (.getfield 39, 3) := by decide +kernel
theorem dX1_addNotice_4 : decode cX1_addNotice 4 = .ok (.sipush 300, 3) := by decide +kernel
theorem dX1_addNotice_7 : decode cX1_addNotice 7 = .ok (.if_icmp .lt 5, 3) := by decide +kernel
theorem dX1_addNotice_10 : decode cX1_addNotice 10 = .ok (.iconst (-1), 1) := by decide +kernel
theorem dX1_addNotice_11 : decode cX1_addNotice 11 = .ok (.ireturn, 1) := by decide +kernel
theorem dX1_addNotice_12 : decode cX1_addNotice 12 = .ok (.aload_n 0, 1) := by decide +kernel
theorem dX1_addNotice_13 : decode cX1_addNotice 13 = .ok (.getfield 9, 3) := by decide +kernel
theorem dX1_addNotice_16 : decode cX1_addNotice 16 = .ok (.aload_n 0, 1) := by decide +kernel
theorem dX1_addNotice_17 : decode cX1_addNotice 17 = .ok (.getfield 39, 3) := by decide +kernel
theorem dX1_addNotice_20 : decode cX1_addNotice 20 = .ok (.iconst (-1), 1) := by decide +kernel
theorem dX1_addNotice_21 : decode cX1_addNotice 21 = .ok (.iastore, 1) := by decide +kernel
theorem dX1_addNotice_22 : decode cX1_addNotice 22 = .ok (.aload_n 0, 1) := by decide +kernel
theorem dX1_addNotice_23 : decode cX1_addNotice 23 = .ok (.getfield 33, 3) := by decide +kernel
theorem dX1_addNotice_26 : decode cX1_addNotice 26 = .ok (.iload_n 1, 1) := by decide +kernel
theorem dX1_addNotice_27 : decode cX1_addNotice 27 = .ok (.sipush 300, 3) := by decide +kernel
theorem dX1_addNotice_30 : decode cX1_addNotice 30 = .ok (.imul, 1) := by decide +kernel
theorem dX1_addNotice_31 : decode cX1_addNotice 31 = .ok (.aload_n 0, 1) := by decide +kernel
theorem dX1_addNotice_32 : decode cX1_addNotice 32 = .ok (.getfield 36, 3) := by decide +kernel
theorem dX1_addNotice_35 : decode cX1_addNotice 35 = .ok (.iload_n 1, 1) := by decide +kernel
theorem dX1_addNotice_36 : decode cX1_addNotice 36 = .ok (.iaload, 1) := by decide +kernel
theorem dX1_addNotice_37 : decode cX1_addNotice 37 = .ok (.iadd, 1) := by decide +kernel
theorem dX1_addNotice_38 : decode cX1_addNotice 38 = .ok (.aload_n 0, 1) := by decide +kernel
theorem dX1_addNotice_39 : decode cX1_addNotice 39 = .ok (.getfield 39, 3) := by decide +kernel
theorem dX1_addNotice_42 : decode cX1_addNotice 42 = .ok (.iastore, 1) := by decide +kernel
theorem dX1_addNotice_43 : decode cX1_addNotice 43 = .ok (.aload_n 0, 1) := by decide +kernel
theorem dX1_addNotice_44 : decode cX1_addNotice 44 = .ok (.getfield 36, 3) := by decide +kernel
theorem dX1_addNotice_47 : decode cX1_addNotice 47 = .ok (.iload_n 1, 1) := by decide +kernel
theorem dX1_addNotice_48 : decode cX1_addNotice 48 = .ok (.dup2, 1) := by decide +kernel
theorem dX1_addNotice_49 : decode cX1_addNotice 49 = .ok (.iaload, 1) := by decide +kernel
theorem dX1_addNotice_50 : decode cX1_addNotice 50 = .ok (.iconst 1, 1) := by decide +kernel
theorem dX1_addNotice_51 : decode cX1_addNotice 51 = .ok (.iadd, 1) := by decide +kernel
theorem dX1_addNotice_52 : decode cX1_addNotice 52 = .ok (.iastore, 1) := by decide +kernel
theorem dX1_addNotice_53 : decode cX1_addNotice 53 = .ok (.aload_n 0, 1) := by decide +kernel
theorem dX1_addNotice_54 : decode cX1_addNotice 54 = .ok (.iload_n 1, 1) := by decide +kernel
theorem dX1_addNotice_55 : decode cX1_addNotice 55 = .ok (.iload_n 2, 1) := by decide +kernel
theorem dX1_addNotice_56 : decode cX1_addNotice 56 = .ok (.iload_n 3, 1) := by decide +kernel
theorem dX1_addNotice_57 : decode cX1_addNotice 57 = .ok (.iload 4, 2) := by decide +kernel
theorem dX1_addNotice_59 : decode cX1_addNotice 59 = .ok (.iload 5, 2) := by decide +kernel
theorem dX1_addNotice_61 : decode cX1_addNotice 61 = .ok (.invokevirtual 43, 3) := by decide +kernel
theorem dX1_addNotice_64 : decode cX1_addNotice 64 = .ok (.ireturn, 1) := by decide +kernel
theorem dX1_add_0 : decode cX1_add 0 = .ok (.aload_n 0, 1) := by decide +kernel
theorem dX1_add_1 : decode cX1_add 1 = .ok (.getfield 18, 3) := by decide +kernel
theorem dX1_add_4 : decode cX1_add 4 = .ok (.aload_n 0, 1) := by decide +kernel
theorem dX1_add_5 : decode cX1_add 5 = .ok (.getfield 39, 3) := by decide +kernel
theorem dX1_add_8 : decode cX1_add 8 = .ok (.iload_n 1, 1) := by decide +kernel
theorem dX1_add_9 : decode cX1_add 9 = .ok (.iastore, 1) := by decide +kernel
theorem dX1_add_10 : decode cX1_add 10 = .ok (.aload_n 0, 1) := by decide +kernel
theorem dX1_add_11 : decode cX1_add 11 = .ok (.getfield 21, 3) := by decide +kernel
theorem dX1_add_14 : decode cX1_add 14 = .ok (.aload_n 0, 1) := by decide +kernel
theorem dX1_add_15 : decode cX1_add 15 = .ok (.getfield 39, 3) := by decide +kernel
theorem dX1_add_18 : decode cX1_add 18 = .ok (.iload_n 2, 1) := by decide +kernel
theorem dX1_add_19 : decode cX1_add 19 = .ok (.iastore, 1) := by decide +kernel
theorem dX1_add_20 : decode cX1_add 20 = .ok (.aload_n 0, 1) := by decide +kernel
theorem dX1_add_21 : decode cX1_add 21 = .ok (.getfield 24, 3) := by decide +kernel
theorem dX1_add_24 : decode cX1_add 24 = .ok (.aload_n 0, 1) := by decide +kernel
theorem dX1_add_25 : decode cX1_add 25 = .ok (.getfield 39, 3) := by decide +kernel
theorem dX1_add_28 : decode cX1_add 28 = .ok (.iload_n 3, 1) := by decide +kernel
theorem dX1_add_29 : decode cX1_add 29 = .ok (.iastore, 1) := by decide +kernel
theorem dX1_add_30 : decode cX1_add 30 = .ok (.aload_n 0, 1) := by decide +kernel
theorem dX1_add_31 : decode cX1_add 31 = .ok (.getfield 15, 3) := by decide +kernel
theorem dX1_add_34 : decode cX1_add 34 = .ok (.aload_n 0, 1) := by decide +kernel
theorem dX1_add_35 : decode cX1_add 35 = .ok (.getfield 39, 3) := by decide +kernel
theorem dX1_add_38 : decode cX1_add 38 = .ok (.iload 4, 2) := by decide +kernel
theorem dX1_add_40 : decode cX1_add 40 = .ok (.iastore, 1) := by decide +kernel
theorem dX1_add_41 : decode cX1_add 41 = .ok (.aload_n 0, 1) := by decide +kernel
theorem dX1_add_42 : decode cX1_add 42 = .ok (.getfield 27, 3) := by decide +kernel
theorem dX1_add_45 : decode cX1_add 45 = .ok (.aload_n 0, 1) := by decide +kernel
theorem dX1_add_46 : decode cX1_add 46 = .ok (.getfield 39, 3) := by decide +kernel
theorem dX1_add_49 : decode cX1_add 49 = .ok (.iload 5, 2) := by decide +kernel
theorem dX1_add_51 : decode cX1_add 51 = .ok (.iastore, 1) := by decide +kernel
theorem dX1_add_52 : decode cX1_add 52 = .ok (.aload_n 0, 1) := by decide +kernel
theorem dX1_add_53 : decode cX1_add 53 = .ok (.dup, 1) := by decide +kernel
theorem dX1_add_54 : decode cX1_add 54 = .ok (.getfield 39, 3) := by decide +kernel
theorem dX1_add_57 : decode cX1_add 57 = .ok (.iconst 1, 1) := by decide +kernel
theorem dX1_add_58 : decode cX1_add 58 = .ok (.iadd, 1) := by decide +kernel
theorem dX1_add_59 : decode cX1_add 59 = .ok (.putfield 39, 3) := by decide +kernel
theorem dX1_add_62 : decode cX1_add 62 = .ok (.aload_n 0, 1) := by decide +kernel
theorem dX1_add_63 : decode cX1_add 63 = .ok (.getfield 39, 3) := by decide +kernel
theorem dX1_add_66 : decode cX1_add 66 = .ok (.iconst 1, 1) := by decide +kernel
theorem dX1_add_67 : decode cX1_add 67 = .ok (.isub, 1) := by decide +kernel
theorem dX1_add_68 : decode cX1_add 68 = .ok (.ireturn, 1) := by decide +kernel
theorem dX1_canKnow_0 : decode cX1_canKnow 0 = .ok (.iload_n 1, 1) := by decide +kernel
theorem dX1_canKnow_1 : decode cX1_canKnow 1 = .ok (.ifCond .lt 15, 3) := by decide +kernel
theorem dX1_canKnow_4 : decode cX1_canKnow 4 = .ok (.iload_n 1, 1) := by decide +kernel
theorem dX1_canKnow_5 : decode cX1_canKnow 5 = .ok (.aload_n 0, 1) := by decide +kernel
theorem dX1_canKnow_6 : decode cX1_canKnow 6 = .ok (.getfield 39, 3) := by decide +kernel
theorem dX1_canKnow_9 : decode cX1_canKnow 9 = .ok (.if_icmp .gt 7, 3) := by decide +kernel
theorem dX1_canKnow_12 : decode cX1_canKnow 12 = .ok (.iconst 1, 1) := by decide +kernel
theorem dX1_canKnow_13 : decode cX1_canKnow 13 = .ok (.goto 4, 3) := by decide +kernel
theorem dX1_canKnow_16 : decode cX1_canKnow 16 = .ok (.iconst 0, 1) := by decide +kernel
theorem dX1_canKnow_17 : decode cX1_canKnow 17 = .ok (.ireturn, 1) := by decide +kernel
theorem dX1_isNotice_0 : decode cX1_isNotice 0 = .ok (.iload_n 1, 1) := by decide +kernel
theorem dX1_isNotice_1 : decode cX1_isNotice 1 = .ok (.ifCond .lt 25, 3) := by decide +kernel
theorem dX1_isNotice_4 : decode cX1_isNotice 4 = .ok (.iload_n 1, 1) := by decide +kernel
theorem dX1_isNotice_5 : decode cX1_isNotice 5 = .ok (.aload_n 0, 1) := by decide +kernel
theorem dX1_isNotice_6 : decode cX1_isNotice 6 = .ok (.getfield 39, 3) := by decide +kernel
theorem dX1_isNotice_9 : decode cX1_isNotice 9 = .ok (.if_icmp .ge 17, 3) := by decide +kernel
theorem dX1_isNotice_12 : decode cX1_isNotice 12 = .ok (.aload_n 0, 1) := by decide +kernel
theorem dX1_isNotice_13 : decode cX1_isNotice 13 = .ok (.getfield 9, 3) := by decide +kernel
theorem dX1_isNotice_16 : decode cX1_isNotice 16 = .ok (.iload_n 1, 1) := by decide +kernel
theorem dX1_isNotice_17 : decode cX1_isNotice 17 = .ok (.iaload, 1) := by decide +kernel
theorem dX1_isNotice_18 : decode cX1_isNotice 18 = .ok (.iconst (-1), 1) := by decide +kernel
theorem dX1_isNotice_19 : decode cX1_isNotice 19 = .ok (.if_icmp .ne 7, 3) := by decide +kernel
theorem dX1_isNotice_22 : decode cX1_isNotice 22 = .ok (.iconst 1, 1) := by decide +kernel
theorem dX1_isNotice_23 : decode cX1_isNotice 23 = .ok (.goto 4, 3) := by decide +kernel
theorem dX1_isNotice_26 : decode cX1_isNotice 26 = .ok (.iconst 0, 1) := by decide +kernel
theorem dX1_isNotice_27 : decode cX1_isNotice 27 = .ok (.ireturn, 1) := by decide +kernel
theorem dX1_holdsAt_0 : decode cX1_holdsAt 0 = .ok (.aload_n 0, 1) := by decide +kernel
theorem dX1_holdsAt_1 : decode cX1_holdsAt 1 = .ok (.getfield 18, 3) := by decide +kernel
theorem dX1_holdsAt_4 : decode cX1_holdsAt 4 = .ok (.iload_n 1, 1) := by decide +kernel
theorem dX1_holdsAt_5 : decode cX1_holdsAt 5 = .ok (.iaload, 1) := by decide +kernel
theorem dX1_holdsAt_6 : decode cX1_holdsAt 6 = .ok (.iload_n 2, 1) := by decide +kernel
theorem dX1_holdsAt_7 : decode cX1_holdsAt 7 = .ok (.if_icmp .ne 39, 3) := by decide +kernel
theorem dX1_holdsAt_10 : decode cX1_holdsAt 10 = .ok (.iload_n 3, 1) := by decide +kernel
theorem dX1_holdsAt_11 : decode cX1_holdsAt 11 = .ok (.aload_n 0, 1) := by decide +kernel
theorem dX1_holdsAt_12 : decode cX1_holdsAt 12 = .ok (.getfield 27, 3) := by decide +kernel
theorem dX1_holdsAt_15 : decode cX1_holdsAt 15 = .ok (.iload_n 1, 1) := by decide +kernel
theorem dX1_holdsAt_16 : decode cX1_holdsAt 16 = .ok (.iaload, 1) := by decide +kernel
theorem dX1_holdsAt_17 : decode cX1_holdsAt 17 = .ok (.if_icmp .lt 29, 3) := by decide +kernel
theorem dX1_holdsAt_20 : decode cX1_holdsAt 20 = .ok (.iload 4, 2) := by decide +kernel
theorem dX1_holdsAt_22 : decode cX1_holdsAt 22 = .ok (.aload_n 0, 1) := by decide +kernel
theorem dX1_holdsAt_23 : decode cX1_holdsAt 23 = .ok (.getfield 21, 3) := by decide +kernel
theorem dX1_holdsAt_26 : decode cX1_holdsAt 26 = .ok (.iload_n 1, 1) := by decide +kernel
theorem dX1_holdsAt_27 : decode cX1_holdsAt 27 = .ok (.iaload, 1) := by decide +kernel
theorem dX1_holdsAt_28 : decode cX1_holdsAt 28 = .ok (.if_icmp .lt 18, 3) := by decide +kernel
theorem dX1_holdsAt_31 : decode cX1_holdsAt 31 = .ok (.iload 4, 2) := by decide +kernel
theorem dX1_holdsAt_33 : decode cX1_holdsAt 33 = .ok (.aload_n 0, 1) := by decide +kernel
theorem dX1_holdsAt_34 : decode cX1_holdsAt 34 = .ok (.getfield 24, 3) := by decide +kernel
theorem dX1_holdsAt_37 : decode cX1_holdsAt 37 = .ok (.iload_n 1, 1) := by decide +kernel
theorem dX1_holdsAt_38 : decode cX1_holdsAt 38 = .ok (.iaload, 1) := by decide +kernel
theorem dX1_holdsAt_39 : decode cX1_holdsAt 39 = .ok (.if_icmp .ge 7, 3) := by decide +kernel
theorem dX1_holdsAt_42 : decode cX1_holdsAt 42 = .ok (.iconst 1, 1) := by decide +kernel
theorem dX1_holdsAt_43 : decode cX1_holdsAt 43 = .ok (.goto 4, 3) := by decide +kernel
theorem dX1_holdsAt_46 : decode cX1_holdsAt 46 = .ok (.iconst 0, 1) := by decide +kernel
theorem dX1_holdsAt_47 : decode cX1_holdsAt 47 = .ok (.ireturn, 1) := by decide +kernel
theorem dX1_noticesOn_0 : decode cX1_noticesOn 0 = .ok (.aload_n 0, 1) := by decide +kernel
theorem dX1_noticesOn_1 : decode cX1_noticesOn 1 = .ok (.getfield 36, 3) := by decide +kernel
theorem dX1_noticesOn_4 : decode cX1_noticesOn 4 = .ok (.iload_n 1, 1) := by decide +kernel
theorem dX1_noticesOn_5 : decode cX1_noticesOn 5 = .ok (.iaload, 1) := by decide +kernel
theorem dX1_noticesOn_6 : decode cX1_noticesOn 6 = .ok (.ireturn, 1) := by decide +kernel
theorem dX1_noticeOn_0 : decode cX1_noticeOn 0 = .ok (.aload_n 0, 1) := by decide +kernel
theorem dX1_noticeOn_1 : decode cX1_noticeOn 1 = .ok (.getfield 33, 3) := by decide +kernel
theorem dX1_noticeOn_4 : decode cX1_noticeOn 4 = .ok (.iload_n 1, 1) := by decide +kernel
theorem dX1_noticeOn_5 : decode cX1_noticeOn 5 = .ok (.sipush 300, 3) := by decide +kernel
theorem dX1_noticeOn_8 : decode cX1_noticeOn 8 = .ok (.imul, 1) := by decide +kernel
theorem dX1_noticeOn_9 : decode cX1_noticeOn 9 = .ok (.iload_n 2, 1) := by decide +kernel
theorem dX1_noticeOn_10 : decode cX1_noticeOn 10 = .ok (.iadd, 1) := by decide +kernel
theorem dX1_noticeOn_11 : decode cX1_noticeOn 11 = .ok (.iaload, 1) := by decide +kernel
theorem dX1_noticeOn_12 : decode cX1_noticeOn 12 = .ok (.ireturn, 1) := by decide +kernel
theorem dX1_siteOf_0 : decode cX1_siteOf 0 = .ok (.aload_n 0, 1) := by decide +kernel
theorem dX1_siteOf_1 : decode cX1_siteOf 1 = .ok (.getfield 9, 3) := by decide +kernel
theorem dX1_siteOf_4 : decode cX1_siteOf 4 = .ok (.iload_n 1, 1) := by decide +kernel
theorem dX1_siteOf_5 : decode cX1_siteOf 5 = .ok (.iaload, 1) := by decide +kernel
theorem dX1_siteOf_6 : decode cX1_siteOf 6 = .ok (.ireturn, 1) := by decide +kernel
theorem dX1_landOf_0 : decode cX1_landOf 0 = .ok (.aload_n 0, 1) := by decide +kernel
theorem dX1_landOf_1 : decode cX1_landOf 1 = .ok (.getfield 15, 3) := by decide +kernel
theorem dX1_landOf_4 : decode cX1_landOf 4 = .ok (.iload_n 1, 1) := by decide +kernel
theorem dX1_landOf_5 : decode cX1_landOf 5 = .ok (.iaload, 1) := by decide +kernel
theorem dX1_landOf_6 : decode cX1_landOf 6 = .ok (.ireturn, 1) := by decide +kernel
theorem dX1_bandOf_0 : decode cX1_bandOf 0 = .ok (.aload_n 0, 1) := by decide +kernel
theorem dX1_bandOf_1 : decode cX1_bandOf 1 = .ok (.getfield 18, 3) := by decide +kernel
theorem dX1_bandOf_4 : decode cX1_bandOf 4 = .ok (.iload_n 1, 1) := by decide +kernel
theorem dX1_bandOf_5 : decode cX1_bandOf 5 = .ok (.iaload, 1) := by decide +kernel
theorem dX1_bandOf_6 : decode cX1_bandOf 6 = .ok (.ireturn, 1) := by decide +kernel
theorem dX1_fromOf_0 : decode cX1_fromOf 0 = .ok (.aload_n 0, 1) := by decide +kernel
theorem dX1_fromOf_1 : decode cX1_fromOf 1 = .ok (.getfield 21, 3) := by decide +kernel
theorem dX1_fromOf_4 : decode cX1_fromOf 4 = .ok (.iload_n 1, 1) := by decide +kernel
theorem dX1_fromOf_5 : decode cX1_fromOf 5 = .ok (.iaload, 1) := by decide +kernel
theorem dX1_fromOf_6 : decode cX1_fromOf 6 = .ok (.ireturn, 1) := by decide +kernel
theorem dX1_dayOf_0 : decode cX1_dayOf 0 = .ok (.aload_n 0, 1) := by decide +kernel
theorem dX1_dayOf_1 : decode cX1_dayOf 1 = .ok (.getfield 27, 3) := by decide +kernel
theorem dX1_dayOf_4 : decode cX1_dayOf 4 = .ok (.iload_n 1, 1) := by decide +kernel
theorem dX1_dayOf_5 : decode cX1_dayOf 5 = .ok (.iaload, 1) := by decide +kernel
theorem dX1_dayOf_6 : decode cX1_dayOf 6 = .ok (.ireturn, 1) := by decide +kernel
theorem dX1_heardOf_0 : decode cX1_heardOf 0 = .ok (.aload_n 0, 1) := by decide +kernel
theorem dX1_heardOf_1 : decode cX1_heardOf 1 = .ok (.getfield 30, 3) := by decide +kernel
theorem dX1_heardOf_4 : decode cX1_heardOf 4 = .ok (.iload_n 1, 1) := by decide +kernel
theorem dX1_heardOf_5 : decode cX1_heardOf 5 = .ok (.iaload, 1) := by decide +kernel
theorem dX1_heardOf_6 : decode cX1_heardOf 6 = .ok (.ireturn, 1) := by decide +kernel
theorem dX2_init_0 : decode cX2_init 0 = .ok (.aload_n 0, 1) := by decide +kernel
theorem dX2_init_1 : decode cX2_init 1 = .ok (.invokespecial 3, 3) := by decide +kernel
theorem dX2_init_4 : decode cX2_init 4 = .ok (.aload_n 0, 1) := by decide +kernel
theorem dX2_init_5 : decode cX2_init 5 = .ok (.bipush 6, 2) := by decide +kernel
theorem dX2_init_7 : decode cX2_init 7 = .ok (.newarray .int, 2) := by decide +kernel
theorem dX2_init_9 : decode cX2_init 9 = .ok (.putfield 9, 3) := by decide +kernel
theorem dX2_init_12 : decode cX2_init 12 = .ok (.aload_n 0, 1) := by decide +kernel
theorem dX2_init_13 : decode cX2_init 13 = .ok (.bipush 6, 2) := by decide +kernel
theorem dX2_init_15 : decode cX2_init 15 = .ok (.newarray .int, 2) := by decide +kernel
theorem dX2_init_17 : decode cX2_init 17 = .ok (.putfield 15, 3) := by decide +kernel
theorem dX2_init_20 : decode cX2_init 20 = .ok (.aload_n 0, 1) := by decide +kernel
theorem dX2_init_21 : decode cX2_init 21 = .ok (.iconst 0, 1) := by decide +kernel
theorem dX2_init_22 : decode cX2_init 22 = .ok (.putfield 18, 3) := by decide +kernel
theorem dX2_init_25 : decode cX2_init 25 = .ok (.return_, 1) := by decide +kernel
theorem dX2_add_0 : decode cX2_add 0 = .ok (.aload_n 0, 1) := by decide +kernel
theorem dX2_add_1 : decode cX2_add 1 = .ok (.getfield 18, 3) := by decide +kernel
theorem dX2_add_4 : decode cX2_add 4 = .ok (.bipush 6, 2) := by decide +kernel
theorem dX2_add_6 : decode cX2_add 6 = .ok (.if_icmp .lt 5, 3) := by decide +kernel
theorem dX2_add_9 : decode cX2_add 9 = .ok (.iconst (-1), 1) := by decide +kernel
theorem dX2_add_10 : decode cX2_add 10 = .ok (.ireturn, 1) := by decide +kernel
theorem dX2_add_11 : decode cX2_add 11 = .ok (.aload_n 0, 1) := by decide +kernel
theorem dX2_add_12 : decode cX2_add 12 = .ok (.getfield 9, 3) := by decide +kernel
theorem dX2_add_15 : decode cX2_add 15 = .ok (.aload_n 0, 1) := by decide +kernel
theorem dX2_add_16 : decode cX2_add 16 = .ok (.getfield 18, 3) := by decide +kernel
theorem dX2_add_19 : decode cX2_add 19 = .ok (.iload_n 1, 1) := by decide +kernel
theorem dX2_add_20 : decode cX2_add 20 = .ok (.iastore, 1) := by decide +kernel
theorem dX2_add_21 : decode cX2_add 21 = .ok (.aload_n 0, 1) := by decide +kernel
theorem dX2_add_22 : decode cX2_add 22 = .ok (.getfield 15, 3) := by decide +kernel
theorem dX2_add_25 : decode cX2_add 25 = .ok (.aload_n 0, 1) := by decide +kernel
theorem dX2_add_26 : decode cX2_add 26 = .ok (.getfield 18, 3) := by decide +kernel
theorem dX2_add_29 : decode cX2_add 29 = .ok (.iload_n 2, 1) := by decide +kernel
theorem dX2_add_30 : decode cX2_add 30 = .ok (.iastore, 1) := by decide +kernel
theorem dX2_add_31 : decode cX2_add 31 = .ok (.aload_n 0, 1) := by decide +kernel
theorem dX2_add_32 : decode cX2_add 32 = .ok (.dup, 1) := by decide +kernel
theorem dX2_add_33 : decode cX2_add 33 = .ok (.getfield 18, 3) := by decide +kernel
theorem dX2_add_36 : decode cX2_add 36 = .ok (.iconst 1, 1) := by decide +kernel
theorem dX2_add_37 : decode cX2_add 37 = .ok (.iadd, 1) := by decide +kernel
theorem dX2_add_38 : decode cX2_add 38 = .ok (.putfield 18, 3) := by decide +kernel
theorem dX2_add_41 : decode cX2_add 41 = .ok (.aload_n 0, 1) := by decide +kernel
theorem dX2_add_42 : decode cX2_add 42 = .ok (.getfield 18, 3) := by decide +kernel
theorem dX2_add_45 : decode cX2_add 45 = .ok (.iconst 1, 1) := by decide +kernel
theorem dX2_add_46 : decode cX2_add 46 = .ok (.isub, 1) := by decide +kernel
theorem dX2_add_47 : decode cX2_add 47 = .ok (.ireturn, 1) := by decide +kernel
theorem dX2_has_0 : decode cX2_has 0 = .ok (.iload_n 1, 1) := by decide +kernel
theorem dX2_has_1 : decode cX2_has 1 = .ok (.ifCond .lt 15, 3) := by decide +kernel
theorem dX2_has_4 : decode cX2_has 4 = .ok (.iload_n 1, 1) := by decide +kernel
theorem dX2_has_5 : decode cX2_has 5 = .ok (.aload_n 0, 1) := by decide +kernel
theorem dX2_has_6 : decode cX2_has 6 = .ok (.getfield 18, 3) := by decide +kernel
theorem dX2_has_9 : decode cX2_has 9 = .ok (.if_icmp .ge 7, 3) := by decide +kernel
theorem dX2_has_12 : decode cX2_has 12 = .ok (.iconst 1, 1) := by decide +kernel
theorem dX2_has_13 : decode cX2_has 13 = .ok (.goto 4, 3) := by decide +kernel
theorem dX2_has_16 : decode cX2_has 16 = .ok (.iconst 0, 1) := by decide +kernel
theorem dX2_has_17 : decode cX2_has 17 = .ok (.ireturn, 1) := by decide +kernel
theorem dX2_siteOf_0 : decode cX2_siteOf 0 = .ok (.aload_n 0, 1) := by decide +kernel
theorem dX2_siteOf_1 : decode cX2_siteOf 1 = .ok (.getfield 9, 3) := by decide +kernel
theorem dX2_siteOf_4 : decode cX2_siteOf 4 = .ok (.iload_n 1, 1) := by decide +kernel
theorem dX2_siteOf_5 : decode cX2_siteOf 5 = .ok (.iaload, 1) := by decide +kernel
theorem dX2_siteOf_6 : decode cX2_siteOf 6 = .ok (.ireturn, 1) := by decide +kernel
theorem dX2_powerOf_0 : decode cX2_powerOf 0 = .ok (.aload_n 0, 1) := by decide +kernel
theorem dX2_powerOf_1 : decode cX2_powerOf 1 = .ok (.getfield 15, 3) := by decide +kernel
theorem dX2_powerOf_4 : decode cX2_powerOf 4 = .ok (.iload_n 1, 1) := by decide +kernel
theorem dX2_powerOf_5 : decode cX2_powerOf 5 = .ok (.iaload, 1) := by decide +kernel
theorem dX2_powerOf_6 : decode cX2_powerOf 6 = .ok (.ireturn, 1) := by decide +kernel
theorem dX3_init_0 : decode cX3_init 0 = .ok (.aload_n 0, 1) := by decide +kernel
theorem dX3_init_1 : decode cX3_init 1 = .ok (.invokespecial 3, 3) := by decide +kernel
theorem dX3_init_4 : decode cX3_init 4 = .ok (.aload_n 0, 1) := by decide +kernel
theorem dX3_init_5 : decode cX3_init 5 = .ok (.bipush 60, 2) := by decide +kernel
theorem dX3_init_7 : decode cX3_init 7 = .ok (.newarray .int, 2) := by decide +kernel
theorem dX3_init_9 : decode cX3_init 9 = .ok (.putfield 9, 3) := by decide +kernel
theorem dX3_init_12 : decode cX3_init 12 = .ok (.aload_n 0, 1) := by decide +kernel
theorem dX3_init_13 : decode cX3_init 13 = .ok (.bipush 60, 2) := by decide +kernel
theorem dX3_init_15 : decode cX3_init 15 = .ok (.newarray .int, 2) := by decide +kernel
theorem dX3_init_17 : decode cX3_init 17 = .ok (.putfield 15, 3) := by decide +kernel
theorem dX3_init_20 : decode cX3_init 20 = .ok (.aload_n 0, 1) := by decide +kernel
theorem dX3_init_21 : decode cX3_init 21 = .ok (.bipush 60, 2) := by decide +kernel
theorem dX3_init_23 : decode cX3_init 23 = .ok (.newarray .int, 2) := by decide +kernel
theorem dX3_init_25 : decode cX3_init 25 = .ok (.putfield 18, 3) := by decide +kernel
theorem dX3_init_28 : decode cX3_init 28 = .ok (.aload_n 0, 1) := by decide +kernel
theorem dX3_init_29 : decode cX3_init 29 = .ok (.bipush 10, 2) := by decide +kernel
theorem dX3_init_31 : decode cX3_init 31 = .ok (.newarray .int, 2) := by decide +kernel
theorem dX3_init_33 : decode cX3_init 33 = .ok (.putfield 21, 3) := by decide +kernel
theorem dX3_init_36 : decode cX3_init 36 = .ok (.aload_n 0, 1) := by decide +kernel
theorem dX3_init_37 : decode cX3_init 37 = .ok (.bipush 10, 2) := by decide +kernel
theorem dX3_init_39 : decode cX3_init 39 = .ok (.newarray .int, 2) := by decide +kernel
theorem dX3_init_41 : decode cX3_init 41 = .ok (.putfield 24, 3) := by decide +kernel
theorem dX3_init_44 : decode cX3_init 44 = .ok (.aload_n 0, 1) := by decide +kernel
theorem dX3_init_45 : decode cX3_init 45 = .ok (.iconst 0, 1) := by decide +kernel
theorem dX3_init_46 : decode cX3_init 46 = .ok (.putfield 27, 3) := by decide +kernel
theorem dX3_init_49 : decode cX3_init 49 = .ok (.aload_n 0, 1) := by decide +kernel
theorem dX3_init_50 : decode cX3_init 50 = .ok (.sipush 704, 3) := by decide +kernel
theorem dX3_init_53 : decode cX3_init 53 = .ok (.newarray .int, 2) := by decide +kernel
theorem dX3_init_55 : decode cX3_init 55 = .ok (.putfield 31, 3) := by decide +kernel
theorem dX3_init_58 : decode cX3_init 58 = .ok (.return_, 1) := by decide +kernel
theorem dX3_renew_0 : decode cX3_renew 0 = .ok (.aload_n 0, 1) := by decide +kernel
theorem dX3_renew_1 : decode cX3_renew 1 = .ok (.getfield 9, 3) := by decide +kernel
theorem dX3_renew_4 : decode cX3_renew 4 = .ok (.iconst 0, 1) := by decide +kernel
theorem dX3_renew_5 : decode cX3_renew 5 = .ok (.invokestatic 34, 3) := by decide +kernel
theorem dX3_renew_8 : decode cX3_renew 8 = .ok (.aload_n 0, 1) := by decide +kernel
theorem dX3_renew_9 : decode cX3_renew 9 = .ok (.getfield 21, 3) := by decide +kernel
theorem dX3_renew_12 : decode cX3_renew 12 = .ok (.iconst (-1), 1) := by decide +kernel
theorem dX3_renew_13 : decode cX3_renew 13 = .ok (.invokestatic 34, 3) := by decide +kernel
theorem dX3_renew_16 : decode cX3_renew 16 = .ok (.aload_n 0, 1) := by decide +kernel
theorem dX3_renew_17 : decode cX3_renew 17 = .ok (.iconst 0, 1) := by decide +kernel
theorem dX3_renew_18 : decode cX3_renew 18 = .ok (.putfield 27, 3) := by decide +kernel
theorem dX3_renew_21 : decode cX3_renew 21 = .ok (.return_, 1) := by decide +kernel
theorem dX3_offer_0 : decode cX3_offer 0 = .ok (.iload_n 1, 1) := by decide +kernel
theorem dX3_offer_1 : decode cX3_offer 1 = .ok (.bipush 6, 2) := by decide +kernel
theorem dX3_offer_3 : decode cX3_offer 3 = .ok (.imul, 1) := by decide +kernel
theorem dX3_offer_4 : decode cX3_offer 4 = .ok (.iload_n 2, 1) := by decide +kernel
theorem dX3_offer_5 : decode cX3_offer 5 = .ok (.iadd, 1) := by decide +kernel
theorem dX3_offer_6 : decode cX3_offer 6 = .ok (.istore 6, 2) := by decide +kernel
theorem dX3_offer_8 : decode cX3_offer 8 = .ok (.aload_n 0, 1) := by decide +kernel
theorem dX3_offer_9 : decode cX3_offer 9 = .ok (.getfield 9, 3) := by decide +kernel
theorem dX3_offer_12 : decode cX3_offer 12 = .ok (.iload 6, 2) := by decide +kernel
theorem dX3_offer_14 : decode cX3_offer 14 = .ok (.iload 5, 2) := by decide +kernel
theorem dX3_offer_16 : decode cX3_offer 16 = .ok (.sipush 4096, 3) := by decide +kernel
theorem dX3_offer_19 : decode cX3_offer 19 = .ok (.imul, 1) := by decide +kernel
theorem dX3_offer_20 : decode cX3_offer 20 = .ok (.iload 4, 2) := by decide +kernel
theorem dX3_offer_22 : decode cX3_offer 22 = .ok (.iadd, 1) := by decide +kernel
theorem dX3_offer_23 : decode cX3_offer 23 = .ok (.iastore, 1) := by decide +kernel
theorem dX3_offer_24 : decode cX3_offer 24 = .ok (.aload_n 0, 1) := by decide +kernel
theorem dX3_offer_25 : decode cX3_offer 25 = .ok (.getfield 15, 3) := by decide +kernel
theorem dX3_offer_28 : decode cX3_offer 28 = .ok (.iload 6, 2) := by decide +kernel
theorem dX3_offer_30 : decode cX3_offer 30 = .ok (.iload_n 3, 1) := by decide +kernel
theorem dX3_offer_31 : decode cX3_offer 31 = .ok (.iastore, 1) := by decide +kernel
theorem dX3_offer_32 : decode cX3_offer 32 = .ok (.aload_n 0, 1) := by decide +kernel
theorem dX3_offer_33 : decode cX3_offer 33 = .ok (.getfield 18, 3) := by decide +kernel
theorem dX3_offer_36 : decode cX3_offer 36 = .ok (.iload 6, 2) := by decide +kernel
theorem dX3_offer_38 : decode cX3_offer 38 = .ok (.iload 4, 2) := by decide +kernel
theorem dX3_offer_40 : decode cX3_offer 40 = .ok (.iastore, 1) := by decide +kernel
theorem dX3_offer_41 : decode cX3_offer 41 = .ok (.aload_n 0, 1) := by decide +kernel
theorem dX3_offer_42 : decode cX3_offer 42 = .ok (.getfield 27, 3) := by decide +kernel
theorem dX3_offer_45 : decode cX3_offer 45 = .ok (.ifCond .le 22, 3) := by decide +kernel
theorem dX3_offer_48 : decode cX3_offer 48 = .ok (.aload_n 0, 1) := by decide +kernel
theorem dX3_offer_49 : decode cX3_offer 49 = .ok (.getfield 24, 3) := by decide +kernel
theorem dX3_offer_52 : decode cX3_offer 52 = .ok (.aload_n 0, 1) := by decide +kernel
theorem dX3_offer_53 : decode cX3_offer 53 = .ok (.getfield 27, 3) := by decide +kernel
theorem dX3_offer_56 : decode cX3_offer 56 = .ok (.iconst 1, 1) := by decide +kernel
theorem dX3_offer_57 : decode cX3_offer 57 = .ok (.isub, 1) := by decide +kernel
theorem dX3_offer_58 : decode cX3_offer 58 = .ok (.iaload, 1) := by decide +kernel
theorem dX3_offer_59 : decode cX3_offer 59 = .ok (.iload_n 1, 1) := by decide +kernel
theorem dX3_offer_60 : decode cX3_offer 60 = .ok (.if_icmp .ne 7, 3) := by decide +kernel
theorem dX3_offer_63 : decode cX3_offer 63 = .ok (.iconst 1, 1) := by decide +kernel
theorem dX3_offer_64 : decode cX3_offer 64 = .ok (.goto 4, 3) := by decide +kernel
theorem dX3_offer_67 : decode cX3_offer 67 = .ok (.iconst 0, 1) := by decide +kernel
theorem dX3_offer_68 : decode cX3_offer 68 = .ok (.istore 7, 2) := by decide +kernel
theorem dX3_offer_70 : decode cX3_offer 70 = .ok (.iload 7, 2) := by decide +kernel
theorem dX3_offer_72 : decode cX3_offer 72 = .ok (.ifCond .ne 32, 3) := by decide +kernel
theorem dX3_offer_75 : decode cX3_offer 75 = .ok (.aload_n 0, 1) := by decide +kernel
theorem dX3_offer_76 : decode cX3_offer 76 = .ok (.getfield 27, 3) := by decide +kernel
theorem dX3_offer_79 : decode cX3_offer 79 = .ok (.bipush 10, 2) := by decide +kernel
theorem dX3_offer_81 : decode cX3_offer 81 = .ok (.if_icmp .ge 23, 3) := by decide +kernel
theorem dX3_offer_84 : decode cX3_offer 84 = .ok (.aload_n 0, 1) := by decide +kernel
theorem dX3_offer_85 : decode cX3_offer 85 = .ok (.getfield 24, 3) := by decide +kernel
theorem dX3_offer_88 : decode cX3_offer 88 = .ok (.aload_n 0, 1) := by decide +kernel
theorem dX3_offer_89 : decode cX3_offer 89 = .ok (.getfield 27, 3) := by decide +kernel
theorem dX3_offer_92 : decode cX3_offer 92 = .ok (.iload_n 1, 1) := by decide +kernel
theorem dX3_offer_93 : decode cX3_offer 93 = .ok (.iastore, 1) := by decide +kernel
theorem dX3_offer_94 : decode cX3_offer 94 = .ok (.aload_n 0, 1) := by decide +kernel
theorem dX3_offer_95 : decode cX3_offer 95 = .ok (.dup, 1) := by decide +kernel
theorem dX3_offer_96 : decode cX3_offer 96 = .ok (.getfield 27, 3) := by decide +kernel
theorem dX3_offer_99 : decode cX3_offer 99 = .ok (.iconst 1, 1) := by decide +kernel
theorem dX3_offer_100 : decode cX3_offer 100 = .ok (.iadd, 1) := by decide +kernel
theorem dX3_offer_101 : decode cX3_offer 101 = .ok (.putfield 27, 3) := by decide +kernel
theorem dX3_offer_104 : decode cX3_offer 104 = .ok (.return_, 1) := by decide +kernel
theorem dX3_solve_0 : decode cX3_solve 0 = .ok (.iconst 1, 1) := by decide +kernel
theorem dX3_solve_1 : decode cX3_solve 1 = .ok (.iload_n 1, 1) := by decide +kernel
theorem dX3_solve_2 : decode cX3_solve 2 = .ok (.ishl, 1) := by decide +kernel
theorem dX3_solve_3 : decode cX3_solve 3 = .ok (.istore_n 2, 1) := by decide +kernel
theorem dX3_solve_4 : decode cX3_solve 4 = .ok (.iconst 0, 1) := by decide +kernel
theorem dX3_solve_5 : decode cX3_solve 5 = .ok (.istore_n 3, 1) := by decide +kernel
theorem dX3_solve_6 : decode cX3_solve 6 = .ok (.iload_n 3, 1) := by decide +kernel
theorem dX3_solve_7 : decode cX3_solve 7 = .ok (.iload_n 2, 1) := by decide +kernel
theorem dX3_solve_8 : decode cX3_solve 8 = .ok (.if_icmp .ge 24, 3) := by decide +kernel
theorem dX3_solve_11 : decode cX3_solve 11 = .ok (.aload_n 0, 1) := by decide +kernel
theorem dX3_solve_12 : decode cX3_solve 12 = .ok (.getfield 31, 3) := by decide +kernel
theorem dX3_solve_15 : decode cX3_solve 15 = .ok (.aload_n 0, 1) := by decide +kernel
theorem dX3_solve_16 : decode cX3_solve 16 = .ok (.getfield 27, 3) := by decide +kernel
theorem dX3_solve_19 : decode cX3_solve 19 = .ok (.bipush 6, 2) := by decide +kernel
theorem dX3_solve_21 : decode cX3_solve 21 = .ok (.ishl, 1) := by decide +kernel
theorem dX3_solve_22 : decode cX3_solve 22 = .ok (.iload_n 3, 1) := by decide +kernel
theorem dX3_solve_23 : decode cX3_solve 23 = .ok (.iadd, 1) := by decide +kernel
theorem dX3_solve_24 : decode cX3_solve 24 = .ok (.iconst 0, 1) := by decide +kernel
theorem dX3_solve_25 : decode cX3_solve 25 = .ok (.iastore, 1) := by decide +kernel
theorem dX3_solve_26 : decode cX3_solve 26 = .ok (.iinc 3 1, 3) := by decide +kernel
theorem dX3_solve_29 : decode cX3_solve 29 = .ok (.goto (-23), 3) := by decide +kernel
theorem dX3_solve_32 : decode cX3_solve 32 = .ok (.aload_n 0, 1) := by decide +kernel
theorem dX3_solve_33 : decode cX3_solve 33 = .ok (.getfield 27, 3) := by decide +kernel
theorem dX3_solve_36 : decode cX3_solve 36 = .ok (.iconst 1, 1) := by decide +kernel
theorem dX3_solve_37 : decode cX3_solve 37 = .ok (.isub, 1) := by decide +kernel
theorem dX3_solve_38 : decode cX3_solve 38 = .ok (.istore_n 3, 1) := by decide +kernel
theorem dX3_solve_39 : decode cX3_solve 39 = .ok (.iload_n 3, 1) := by decide +kernel
theorem dX3_solve_40 : decode cX3_solve 40 = .ok (.ifCond .lt 44, 3) := by decide +kernel
theorem dX3_solve_43 : decode cX3_solve 43 = .ok (.iconst 0, 1) := by decide +kernel
theorem dX3_solve_44 : decode cX3_solve 44 = .ok (.istore 4, 2) := by decide +kernel
theorem dX3_solve_46 : decode cX3_solve 46 = .ok (.iload 4, 2) := by decide +kernel
theorem dX3_solve_48 : decode cX3_solve 48 = .ok (.iload_n 2, 1) := by decide +kernel
theorem dX3_solve_49 : decode cX3_solve 49 = .ok (.if_icmp .ge 29, 3) := by decide +kernel
theorem dX3_solve_52 : decode cX3_solve 52 = .ok (.aload_n 0, 1) := by decide +kernel
theorem dX3_solve_53 : decode cX3_solve 53 = .ok (.getfield 31, 3) := by decide +kernel
theorem dX3_solve_56 : decode cX3_solve 56 = .ok (.iload_n 3, 1) := by decide +kernel
theorem dX3_solve_57 : decode cX3_solve 57 = .ok (.bipush 6, 2) := by decide +kernel
theorem dX3_solve_59 : decode cX3_solve 59 = .ok (.ishl, 1) := by decide +kernel
theorem dX3_solve_60 : decode cX3_solve 60 = .ok (.iload 4, 2) := by decide +kernel
theorem dX3_solve_62 : decode cX3_solve 62 = .ok (.iadd, 1) := by decide +kernel
theorem dX3_solve_63 : decode cX3_solve 63 = .ok (.aload_n 0, 1) := by decide +kernel
theorem dX3_solve_64 : decode cX3_solve 64 = .ok (.iload_n 3, 1) := by decide +kernel
theorem dX3_solve_65 : decode cX3_solve 65 = .ok (.iload 4, 2) := by decide +kernel
theorem dX3_solve_67 : decode cX3_solve 67 = .ok (.iload_n 1, 1) := by decide +kernel
theorem dX3_solve_68 : decode cX3_solve 68 = .ok (.invokevirtual 40, 3) := by decide +kernel
theorem dX3_solve_71 : decode cX3_solve 71 = .ok (.iastore, 1) := by decide +kernel
theorem dX3_solve_72 : decode cX3_solve 72 = .ok (.iinc 4 1, 3) := by decide +kernel
theorem dX3_solve_75 : decode cX3_solve 75 = .ok (.goto (-29), 3) := by decide +kernel
theorem dX3_solve_78 : decode cX3_solve 78 = .ok (.iinc 3 (-1), 3) := by decide +kernel
theorem dX3_solve_81 : decode cX3_solve 81 = .ok (.goto (-42), 3) := by decide +kernel
theorem dX3_solve_84 : decode cX3_solve 84 = .ok (.aload_n 0, 1) := by decide +kernel
theorem dX3_solve_85 : decode cX3_solve 85 = .ok (.iload_n 1, 1) := by decide +kernel
theorem dX3_solve_86 : decode cX3_solve 86 = .ok (.invokevirtual 44, 3) := by decide +kernel
theorem dX3_solve_89 : decode cX3_solve 89 = .ok (.return_, 1) := by decide +kernel
theorem dX3_bestFrom_0 : decode cX3_bestFrom 0 = .ok (.aload_n 0, 1) := by decide +kernel
theorem dX3_bestFrom_1 : decode cX3_bestFrom 1 = .ok (.getfield 31, 3) := by decide +kernel
theorem dX3_bestFrom_4 : decode cX3_bestFrom 4 = .ok (.iload_n 1, 1) := by decide +kernel
theorem dX3_bestFrom_5 : decode cX3_bestFrom 5 = .ok (.iconst 1, 1) := by decide +kernel
theorem dX3_bestFrom_6 : decode cX3_bestFrom 6 = .ok (.iadd, 1) := by decide +kernel
theorem dX3_bestFrom_7 : decode cX3_bestFrom 7 = .ok (.bipush 6, 2) := by decide +kernel
theorem dX3_bestFrom_9 : decode cX3_bestFrom 9 = .ok (.ishl, 1) := by decide +kernel
theorem dX3_bestFrom_10 : decode cX3_bestFrom 10 = .ok (.iload_n 2, 1) := by decide +kernel
theorem dX3_bestFrom_11 : decode cX3_bestFrom 11 = .ok (.iadd, 1) := by decide +kernel
theorem dX3_bestFrom_12 : decode cX3_bestFrom 12 = .ok (.iaload, 1) := by decide +kernel
theorem dX3_bestFrom_13 : decode cX3_bestFrom 13 = .ok (.istore 4, 2) := by decide +kernel
theorem dX3_bestFrom_15 : decode cX3_bestFrom 15 = .ok (.iconst 0, 1) := by decide +kernel
theorem dX3_bestFrom_16 : decode cX3_bestFrom 16 = .ok (.istore 5, 2) := by decide +kernel
theorem dX3_bestFrom_18 : decode cX3_bestFrom 18 = .ok (.iload 5, 2) := by decide +kernel
theorem dX3_bestFrom_20 : decode cX3_bestFrom 20 = .ok (.iload_n 3, 1) := by decide +kernel
theorem dX3_bestFrom_21 : decode cX3_bestFrom 21 = .ok (.if_icmp .ge 24, 3) := by decide +kernel
theorem dX3_bestFrom_24 : decode cX3_bestFrom 24 = .ok (.iload 4, 2) := by decide +kernel
theorem dX3_bestFrom_26 : decode cX3_bestFrom 26 = .ok (.aload_n 0, 1) := by decide +kernel
theorem dX3_bestFrom_27 : decode cX3_bestFrom 27 = .ok (.iload_n 1, 1) := by decide +kernel
theorem dX3_bestFrom_28 : decode cX3_bestFrom 28 = .ok (.iload_n 2, 1) := by decide +kernel
theorem dX3_bestFrom_29 : decode cX3_bestFrom 29 = .ok (.iload 5, 2) := by decide +kernel
theorem dX3_bestFrom_31 : decode cX3_bestFrom 31 = .ok (.invokevirtual 48, 3) := by decide +kernel
theorem dX3_bestFrom_34 : decode cX3_bestFrom 34 = .ok (.invokestatic 51, 3) := by decide +kernel
theorem dX3_bestFrom_37 : decode cX3_bestFrom 37 = .ok (.istore 4, 2) := by decide +kernel
theorem dX3_bestFrom_39 : decode cX3_bestFrom 39 = .ok (.iinc 5 1, 3) := by decide +kernel
theorem dX3_bestFrom_42 : decode cX3_bestFrom 42 = .ok (.goto (-24), 3) := by decide +kernel
theorem dX3_bestFrom_45 : decode cX3_bestFrom 45 = .ok (.iload 4, 2) := by decide +kernel
theorem dX3_bestFrom_47 : decode cX3_bestFrom 47 = .ok (.ireturn, 1) := by decide +kernel
theorem dX3_gainBy_0 : decode cX3_gainBy 0 = .ok (.aload_n 0, 1) := by decide +kernel
theorem dX3_gainBy_1 : decode cX3_gainBy 1 = .ok (.getfield 9, 3) := by decide +kernel
theorem dX3_gainBy_4 : decode cX3_gainBy 4 = .ok (.aload_n 0, 1) := by decide +kernel
theorem dX3_gainBy_5 : decode cX3_gainBy 5 = .ok (.getfield 24, 3) := by decide +kernel
theorem dX3_gainBy_8 : decode cX3_gainBy 8 = .ok (.iload_n 1, 1) := by decide +kernel
theorem dX3_gainBy_9 : decode cX3_gainBy 9 = .ok (.iaload, 1) := by decide +kernel
theorem dX3_gainBy_10 : decode cX3_gainBy 10 = .ok (.bipush 6, 2) := by decide +kernel
theorem dX3_gainBy_12 : decode cX3_gainBy 12 = .ok (.imul, 1) := by decide +kernel
theorem dX3_gainBy_13 : decode cX3_gainBy 13 = .ok (.iload_n 3, 1) := by decide +kernel
theorem dX3_gainBy_14 : decode cX3_gainBy 14 = .ok (.iadd, 1) := by decide +kernel
theorem dX3_gainBy_15 : decode cX3_gainBy 15 = .ok (.iaload, 1) := by decide +kernel
theorem dX3_gainBy_16 : decode cX3_gainBy 16 = .ok (.istore 4, 2) := by decide +kernel
theorem dX3_gainBy_18 : decode cX3_gainBy 18 = .ok (.iload 4, 2) := by decide +kernel
theorem dX3_gainBy_20 : decode cX3_gainBy 20 = .ok (.ifCond .eq 12, 3) := by decide +kernel
theorem dX3_gainBy_23 : decode cX3_gainBy 23 = .ok (.iload_n 2, 1) := by decide +kernel
theorem dX3_gainBy_24 : decode cX3_gainBy 24 = .ok (.iload_n 3, 1) := by decide +kernel
theorem dX3_gainBy_25 : decode cX3_gainBy 25 = .ok (.ishr, 1) := by decide +kernel
theorem dX3_gainBy_26 : decode cX3_gainBy 26 = .ok (.iconst 1, 1) := by decide +kernel
theorem dX3_gainBy_27 : decode cX3_gainBy 27 = .ok (.iand, 1) := by decide +kernel
theorem dX3_gainBy_28 : decode cX3_gainBy 28 = .ok (.iconst 1, 1) := by decide +kernel
theorem dX3_gainBy_29 : decode cX3_gainBy 29 = .ok (.if_icmp .ne 5, 3) := by decide +kernel
theorem dX3_gainBy_32 : decode cX3_gainBy 32 = .ok (.iconst (-1), 1) := by decide +kernel
theorem dX3_gainBy_33 : decode cX3_gainBy 33 = .ok (.ireturn, 1) := by decide +kernel
theorem dX3_gainBy_34 : decode cX3_gainBy 34 = .ok (.iload 4, 2) := by decide +kernel
theorem dX3_gainBy_36 : decode cX3_gainBy 36 = .ok (.aload_n 0, 1) := by decide +kernel
theorem dX3_gainBy_37 : decode cX3_gainBy 37 = .ok (.getfield 31, 3) := by decide +kernel
theorem dX3_gainBy_40 : decode cX3_gainBy 40 = .ok (.iload_n 1, 1) := by decide +kernel
theorem dX3_gainBy_41 : decode cX3_gainBy 41 = .ok (.iconst 1, 1) := by decide +kernel
theorem dX3_gainBy_42 : decode cX3_gainBy 42 = .ok (.iadd, 1) := by decide +kernel
theorem dX3_gainBy_43 : decode cX3_gainBy 43 = .ok (.bipush 6, 2) := by decide +kernel
theorem dX3_gainBy_45 : decode cX3_gainBy 45 = .ok (.ishl, 1) := by decide +kernel
theorem dX3_gainBy_46 : decode cX3_gainBy 46 = .ok (.iload_n 2, 1) := by decide +kernel
theorem dX3_gainBy_47 : decode cX3_gainBy 47 = .ok (.iconst 1, 1) := by decide +kernel
theorem dX3_gainBy_48 : decode cX3_gainBy 48 = .ok (.iload_n 3, 1) := by decide +kernel
theorem dX3_gainBy_49 : decode cX3_gainBy 49 = .ok (.ishl, 1) := by decide +kernel
theorem dX3_gainBy_50 : decode cX3_gainBy 50 = .ok (.ior, 1) := by decide +kernel
theorem dX3_gainBy_51 : decode cX3_gainBy 51 = .ok (.iadd, 1) := by decide +kernel
theorem dX3_gainBy_52 : decode cX3_gainBy 52 = .ok (.iaload, 1) := by decide +kernel
theorem dX3_gainBy_53 : decode cX3_gainBy 53 = .ok (.iadd, 1) := by decide +kernel
theorem dX3_gainBy_54 : decode cX3_gainBy 54 = .ok (.ireturn, 1) := by decide +kernel
theorem dX3_choose_0 : decode cX3_choose 0 = .ok (.iconst 0, 1) := by decide +kernel
theorem dX3_choose_1 : decode cX3_choose 1 = .ok (.istore_n 2, 1) := by decide +kernel
theorem dX3_choose_2 : decode cX3_choose 2 = .ok (.iconst 0, 1) := by decide +kernel
theorem dX3_choose_3 : decode cX3_choose 3 = .ok (.istore_n 3, 1) := by decide +kernel
theorem dX3_choose_4 : decode cX3_choose 4 = .ok (.iload_n 3, 1) := by decide +kernel
theorem dX3_choose_5 : decode cX3_choose 5 = .ok (.aload_n 0, 1) := by decide +kernel
theorem dX3_choose_6 : decode cX3_choose 6 = .ok (.getfield 27, 3) := by decide +kernel
theorem dX3_choose_9 : decode cX3_choose 9 = .ok (.if_icmp .ge 93, 3) := by decide +kernel
theorem dX3_choose_12 : decode cX3_choose 12 = .ok (.aload_n 0, 1) := by decide +kernel
theorem dX3_choose_13 : decode cX3_choose 13 = .ok (.getfield 31, 3) := by decide +kernel
theorem dX3_choose_16 : decode cX3_choose 16 = .ok (.iload_n 3, 1) := by decide +kernel
theorem dX3_choose_17 : decode cX3_choose 17 = .ok (.bipush 6, 2) := by decide +kernel
theorem dX3_choose_19 : decode cX3_choose 19 = .ok (.ishl, 1) := by decide +kernel
theorem dX3_choose_20 : decode cX3_choose 20 = .ok (.iload_n 2, 1) := by decide +kernel
theorem dX3_choose_21 : decode cX3_choose 21 = .ok (.iadd, 1) := by decide +kernel
theorem dX3_choose_22 : decode cX3_choose 22 = .ok (.iaload, 1) := by decide +kernel
theorem dX3_choose_23 : decode cX3_choose 23 = .ok (.istore 4, 2) := by decide +kernel
theorem dX3_choose_25 : decode cX3_choose 25 = .ok (.iconst (-1), 1) := by decide +kernel
theorem dX3_choose_26 : decode cX3_choose 26 = .ok (.istore 5, 2) := by decide +kernel
theorem dX3_choose_28 : decode cX3_choose 28 = .ok (.iconst 0, 1) := by decide +kernel
theorem dX3_choose_29 : decode cX3_choose 29 = .ok (.istore 6, 2) := by decide +kernel
theorem dX3_choose_31 : decode cX3_choose 31 = .ok (.iload 6, 2) := by decide +kernel
theorem dX3_choose_33 : decode cX3_choose 33 = .ok (.iload_n 1, 1) := by decide +kernel
theorem dX3_choose_34 : decode cX3_choose 34 = .ok (.if_icmp .ge 36, 3) := by decide +kernel
theorem dX3_choose_37 : decode cX3_choose 37 = .ok (.iload 5, 2) := by decide +kernel
theorem dX3_choose_39 : decode cX3_choose 39 = .ok (.iconst (-1), 1) := by decide +kernel
theorem dX3_choose_40 : decode cX3_choose 40 = .ok (.if_icmp .ne 30, 3) := by decide +kernel
theorem dX3_choose_43 : decode cX3_choose 43 = .ok (.aload_n 0, 1) := by decide +kernel
theorem dX3_choose_44 : decode cX3_choose 44 = .ok (.iload_n 3, 1) := by decide +kernel
theorem dX3_choose_45 : decode cX3_choose 45 = .ok (.iload_n 2, 1) := by decide +kernel
theorem dX3_choose_46 : decode cX3_choose 46 = .ok (.iload 6, 2) := by decide +kernel
theorem dX3_choose_48 : decode cX3_choose 48 = .ok (.invokevirtual 48, 3) := by decide +kernel
theorem dX3_choose_51 : decode cX3_choose 51 = .ok (.iload 4, 2) := by decide +kernel
theorem dX3_choose_53 : decode cX3_choose 53 = .ok (.if_icmp .ne 8, 3) := by decide +kernel
theorem dX3_choose_56 : decode cX3_choose 56 = .ok (.iload 6, 2) := by decide +kernel
theorem dX3_choose_58 : decode cX3_choose 58 = .ok (.goto 4, 3) := by decide +kernel
theorem dX3_choose_61 : decode cX3_choose 61 = .ok (.iconst (-1), 1) := by decide +kernel
theorem dX3_choose_62 : decode cX3_choose 62 = .ok (.istore 5, 2) := by decide +kernel
theorem dX3_choose_64 : decode cX3_choose 64 = .ok (.iinc 6 1, 3) := by decide +kernel
theorem dX3_choose_67 : decode cX3_choose 67 = .ok (.goto (-36), 3) := by decide +kernel
theorem dX3_choose_70 : decode cX3_choose 70 = .ok (.iload 5, 2) := by decide +kernel
theorem dX3_choose_72 : decode cX3_choose 72 = .ok (.iconst (-1), 1) := by decide +kernel
theorem dX3_choose_73 : decode cX3_choose 73 = .ok (.if_icmp .eq 23, 3) := by decide +kernel
theorem dX3_choose_76 : decode cX3_choose 76 = .ok (.aload_n 0, 1) := by decide +kernel
theorem dX3_choose_77 : decode cX3_choose 77 = .ok (.getfield 21, 3) := by decide +kernel
theorem dX3_choose_80 : decode cX3_choose 80 = .ok (.aload_n 0, 1) := by decide +kernel
theorem dX3_choose_81 : decode cX3_choose 81 = .ok (.getfield 24, 3) := by decide +kernel
theorem dX3_choose_84 : decode cX3_choose 84 = .ok (.iload_n 3, 1) := by decide +kernel
theorem dX3_choose_85 : decode cX3_choose 85 = .ok (.iaload, 1) := by decide +kernel
theorem dX3_choose_86 : decode cX3_choose 86 = .ok (.iload 5, 2) := by decide +kernel
theorem dX3_choose_88 : decode cX3_choose 88 = .ok (.iastore, 1) := by decide +kernel
theorem dX3_choose_89 : decode cX3_choose 89 = .ok (.iload_n 2, 1) := by decide +kernel
theorem dX3_choose_90 : decode cX3_choose 90 = .ok (.iconst 1, 1) := by decide +kernel
theorem dX3_choose_91 : decode cX3_choose 91 = .ok (.iload 5, 2) := by decide +kernel
theorem dX3_choose_93 : decode cX3_choose 93 = .ok (.ishl, 1) := by decide +kernel
theorem dX3_choose_94 : decode cX3_choose 94 = .ok (.ior, 1) := by decide +kernel
theorem dX3_choose_95 : decode cX3_choose 95 = .ok (.istore_n 2, 1) := by decide +kernel
theorem dX3_choose_96 : decode cX3_choose 96 = .ok (.iinc 3 1, 3) := by decide +kernel
theorem dX3_choose_99 : decode cX3_choose 99 = .ok (.goto (-95), 3) := by decide +kernel
theorem dX3_choose_102 : decode cX3_choose 102 = .ok (.return_, 1) := by decide +kernel
theorem dX3_mastFor_0 : decode cX3_mastFor 0 = .ok (.aload_n 0, 1) := by decide +kernel
theorem dX3_mastFor_1 : decode cX3_mastFor 1 = .ok (.getfield 21, 3) := by decide +kernel
theorem dX3_mastFor_4 : decode cX3_mastFor 4 = .ok (.iload_n 1, 1) := by decide +kernel
theorem dX3_mastFor_5 : decode cX3_mastFor 5 = .ok (.iaload, 1) := by decide +kernel
theorem dX3_mastFor_6 : decode cX3_mastFor 6 = .ok (.ireturn, 1) := by decide +kernel
theorem dX3_bandOf_0 : decode cX3_bandOf 0 = .ok (.aload_n 0, 1) := by decide +kernel
theorem dX3_bandOf_1 : decode cX3_bandOf 1 = .ok (.getfield 15, 3) := by decide +kernel
theorem dX3_bandOf_4 : decode cX3_bandOf 4 = .ok (.iload_n 1, 1) := by decide +kernel
theorem dX3_bandOf_5 : decode cX3_bandOf 5 = .ok (.bipush 6, 2) := by decide +kernel
theorem dX3_bandOf_7 : decode cX3_bandOf 7 = .ok (.imul, 1) := by decide +kernel
theorem dX3_bandOf_8 : decode cX3_bandOf 8 = .ok (.iload_n 2, 1) := by decide +kernel
theorem dX3_bandOf_9 : decode cX3_bandOf 9 = .ok (.iadd, 1) := by decide +kernel
theorem dX3_bandOf_10 : decode cX3_bandOf 10 = .ok (.iaload, 1) := by decide +kernel
theorem dX3_bandOf_11 : decode cX3_bandOf 11 = .ok (.ireturn, 1) := by decide +kernel
theorem dX3_strengthOf_0 : decode cX3_strengthOf 0 = .ok (.aload_n 0, 1) := by decide +kernel
theorem dX3_strengthOf_1 : decode cX3_strengthOf 1 = .ok (.getfield 18, 3) := by decide +kernel
theorem dX3_strengthOf_4 : decode cX3_strengthOf 4 = .ok (.iload_n 1, 1) := by decide +kernel
theorem dX3_strengthOf_5 : decode cX3_strengthOf 5 = .ok (.bipush 6, 2) := by decide +kernel
theorem dX3_strengthOf_7 : decode cX3_strengthOf 7 = .ok (.imul, 1) := by decide +kernel
theorem dX3_strengthOf_8 : decode cX3_strengthOf 8 = .ok (.iload_n 2, 1) := by decide +kernel
theorem dX3_strengthOf_9 : decode cX3_strengthOf 9 = .ok (.iadd, 1) := by decide +kernel
theorem dX3_strengthOf_10 : decode cX3_strengthOf 10 = .ok (.iaload, 1) := by decide +kernel
theorem dX3_strengthOf_11 : decode cX3_strengthOf 11 = .ok (.ireturn, 1) := by decide +kernel
theorem dX5_init_0 : decode cX5_init 0 = .ok (.aload_n 0, 1) := by decide +kernel
theorem dX5_init_1 : decode cX5_init 1 = .ok (.invokespecial 3, 3) := by decide +kernel
theorem dX5_init_4 : decode cX5_init 4 = .ok (.aload_n 0, 1) := by decide +kernel
theorem dX5_init_5 : decode cX5_init 5 = .ok (.sipush 240, 3) := by decide +kernel
theorem dX5_init_8 : decode cX5_init 8 = .ok (.newarray .int, 2) := by decide +kernel
theorem dX5_init_10 : decode cX5_init 10 = .ok (.putfield 9, 3) := by decide +kernel
theorem dX5_init_13 : decode cX5_init 13 = .ok (.aload_n 0, 1) := by decide +kernel
theorem dX5_init_14 : decode cX5_init 14 = .ok (.sipush 240, 3) := by decide +kernel
theorem dX5_init_17 : decode cX5_init 17 = .ok (.newarray .int, 2) := by decide +kernel
theorem dX5_init_19 : decode cX5_init 19 = .ok (.putfield 15, 3) := by decide +kernel
theorem dX5_init_22 : decode cX5_init 22 = .ok (.aload_n 0, 1) := by decide +kernel
theorem dX5_init_23 : decode cX5_init 23 = .ok (.sipush 240, 3) := by decide +kernel
theorem dX5_init_26 : decode cX5_init 26 = .ok (.newarray .int, 2) := by decide +kernel
theorem dX5_init_28 : decode cX5_init 28 = .ok (.putfield 18, 3) := by decide +kernel
theorem dX5_init_31 : decode cX5_init 31 = .ok (.aload_n 0, 1) := by decide +kernel
theorem dX5_init_32 : decode cX5_init 32 = .ok (.sipush 240, 3) := by decide +kernel
theorem dX5_init_35 : decode cX5_init 35 = .ok (.newarray .int, 2) := by decide +kernel
theorem dX5_init_37 : decode cX5_init 37 = .ok (.putfield 21, 3) := by decide +kernel
theorem dX5_init_40 : decode cX5_init 40 = .ok (.aload_n 0, 1) := by decide +kernel
theorem dX5_init_41 : decode cX5_init 41 = .ok (.sipush 144, 3) := by decide +kernel
theorem dX5_init_44 : decode cX5_init 44 = .ok (.newarray .int, 2) := by decide +kernel
theorem dX5_init_46 : decode cX5_init 46 = .ok (.putfield 24, 3) := by decide +kernel
theorem dX5_init_49 : decode cX5_init 49 = .ok (.aload_n 0, 1) := by decide +kernel
theorem dX5_init_50 : decode cX5_init 50 = .ok (.bipush 24, 2) := by decide +kernel
theorem dX5_init_52 : decode cX5_init 52 = .ok (.newarray .int, 2) := by decide +kernel
theorem dX5_init_54 : decode cX5_init 54 = .ok (.putfield 27, 3) := by decide +kernel
theorem dX5_init_57 : decode cX5_init 57 = .ok (.aload_n 0, 1) := by decide +kernel
theorem dX5_init_58 : decode cX5_init 58 = .ok (.iconst 0, 1) := by decide +kernel
theorem dX5_init_59 : decode cX5_init 59 = .ok (.putfield 30, 3) := by decide +kernel
theorem dX5_init_62 : decode cX5_init 62 = .ok (.aload_n 0, 1) := by decide +kernel
theorem dX5_init_63 : decode cX5_init 63 = .ok (.iconst 0, 1) := by decide +kernel
theorem dX5_init_64 : decode cX5_init 64 = .ok (.putfield 34, 3) := by decide +kernel
theorem dX5_init_67 : decode cX5_init 67 = .ok (.return_, 1) := by decide +kernel
theorem dX5_renew_0 : decode cX5_renew 0 = .ok (.aload_n 0, 1) := by decide +kernel
theorem dX5_renew_1 : decode cX5_renew 1 = .ok (.iconst 1, 1) := by decide +kernel
theorem dX5_renew_2 : decode cX5_renew 2 = .ok (.putfield 34, 3) := by decide +kernel
theorem dX5_renew_5 : decode cX5_renew 5 = .ok (.aload_n 0, 1) := by decide +kernel
theorem dX5_renew_6 : decode cX5_renew 6 = .ok (.iload_n 1, 1) := by decide +kernel
theorem dX5_renew_7 : decode cX5_renew 7 = .ok (.putfield 30, 3) := by decide +kernel
theorem dX5_renew_10 : decode cX5_renew 10 = .ok (.aload_n 0, 1) := by decide +kernel
theorem dX5_renew_11 : decode cX5_renew 11 = .ok (.getfield 9, 3) := by decide +kernel
theorem dX5_renew_14 : decode cX5_renew 14 = .ok (.iconst (-1), 1) := by decide +kernel
theorem dX5_renew_15 : decode cX5_renew 15 = .ok (.invokestatic 38, 3) := by decide +kernel
theorem dX5_renew_18 : decode cX5_renew 18 = .ok (.aload_n 0, 1) := by decide +kernel
theorem dX5_renew_19 : decode cX5_renew 19 = .ok (.getfield 15, 3) := by decide +kernel
theorem dX5_renew_22 : decode cX5_renew 22 = .ok (.iconst (-1), 1) := by decide +kernel
theorem dX5_renew_23 : decode cX5_renew 23 = .ok (.invokestatic 38, 3) := by decide +kernel
theorem dX5_renew_26 : decode cX5_renew 26 = .ok (.aload_n 0, 1) := by decide +kernel
theorem dX5_renew_27 : decode cX5_renew 27 = .ok (.getfield 18, 3) := by decide +kernel
theorem dX5_renew_30 : decode cX5_renew 30 = .ok (.iconst (-1), 1) := by decide +kernel
theorem dX5_renew_31 : decode cX5_renew 31 = .ok (.invokestatic 38, 3) := by decide +kernel
theorem dX5_renew_34 : decode cX5_renew 34 = .ok (.aload_n 0, 1) := by decide +kernel
theorem dX5_renew_35 : decode cX5_renew 35 = .ok (.getfield 21, 3) := by decide +kernel
theorem dX5_renew_38 : decode cX5_renew 38 = .ok (.iconst 0, 1) := by decide +kernel
theorem dX5_renew_39 : decode cX5_renew 39 = .ok (.invokestatic 38, 3) := by decide +kernel
theorem dX5_renew_42 : decode cX5_renew 42 = .ok (.aload_n 0, 1) := by decide +kernel
theorem dX5_renew_43 : decode cX5_renew 43 = .ok (.getfield 24, 3) := by decide +kernel
theorem dX5_renew_46 : decode cX5_renew 46 = .ok (.iconst (-1), 1) := by decide +kernel
theorem dX5_renew_47 : decode cX5_renew 47 = .ok (.invokestatic 38, 3) := by decide +kernel
theorem dX5_renew_50 : decode cX5_renew 50 = .ok (.aload_n 0, 1) := by decide +kernel
theorem dX5_renew_51 : decode cX5_renew 51 = .ok (.getfield 27, 3) := by decide +kernel
theorem dX5_renew_54 : decode cX5_renew 54 = .ok (.iconst 0, 1) := by decide +kernel
theorem dX5_renew_55 : decode cX5_renew 55 = .ok (.invokestatic 38, 3) := by decide +kernel
theorem dX5_renew_58 : decode cX5_renew 58 = .ok (.return_, 1) := by decide +kernel
theorem dX5_hasProgramme_0 : decode cX5_hasProgramme 0 = .ok (.iload_n 1, 1) := by decide +kernel
theorem dX5_hasProgramme_1 : decode cX5_hasProgramme 1 = .ok (.ifCond .lt 15, 3) := by decide +kernel
theorem dX5_hasProgramme_4 : decode cX5_hasProgramme 4 = .ok (.iload_n 1, 1) := by decide +kernel
theorem dX5_hasProgramme_5 : decode cX5_hasProgramme 5 = .ok (.aload_n 0, 1) := by decide +kernel
theorem dX5_hasProgramme_6 : decode cX5_hasProgramme 6 = .ok (.getfield 30, 3) := by decide +kernel
theorem dX5_hasProgramme_9 : decode cX5_hasProgramme 9 = .ok (.if_icmp .ge 7, 3) := by decide +kernel
theorem dX5_hasProgramme_12 : decode cX5_hasProgramme 12 = .ok (.iconst 1, 1) := by decide +kernel
theorem dX5_hasProgramme_13 : decode cX5_hasProgramme 13 = .ok (.goto 4, 3) := by decide +kernel
theorem dX5_hasProgramme_16 : decode cX5_hasProgramme 16 = .ok (.iconst 0, 1) := by decide +kernel
theorem dX5_hasProgramme_17 : decode cX5_hasProgramme 17 = .ok (.ireturn, 1) := by decide +kernel
theorem dX5_put_0 : decode cX5_put 0 = .ok (.iload_n 1, 1) := by decide +kernel
theorem dX5_put_1 : decode cX5_put 1 = .ok (.bipush 10, 2) := by decide +kernel
theorem dX5_put_3 : decode cX5_put 3 = .ok (.imul, 1) := by decide +kernel
theorem dX5_put_4 : decode cX5_put 4 = .ok (.iload_n 2, 1) := by decide +kernel
theorem dX5_put_5 : decode cX5_put 5 = .ok (.iadd, 1) := by decide +kernel
theorem dX5_put_6 : decode cX5_put 6 = .ok (.istore 7, 2) := by decide +kernel
theorem dX5_put_8 : decode cX5_put 8 = .ok (.aload_n 0, 1) := by decide +kernel
theorem dX5_put_9 : decode cX5_put 9 = .ok (.getfield 9, 3) := by decide +kernel
theorem dX5_put_12 : decode cX5_put 12 = .ok (.iload 7, 2) := by decide +kernel
theorem dX5_put_14 : decode cX5_put 14 = .ok (.iload_n 3, 1) := by decide +kernel
theorem dX5_put_15 : decode cX5_put 15 = .ok (.iastore, 1) := by decide +kernel
theorem dX5_put_16 : decode cX5_put 16 = .ok (.aload_n 0, 1) := by decide +kernel
theorem dX5_put_17 : decode cX5_put 17 = .ok (.getfield 15, 3) := by decide +kernel
theorem dX5_put_20 : decode cX5_put 20 = .ok (.iload 7, 2) := by decide +kernel
theorem dX5_put_22 : decode cX5_put 22 = .ok (.iload 4, 2) := by decide +kernel
theorem dX5_put_24 : decode cX5_put 24 = .ok (.iastore, 1) := by decide +kernel
theorem dX5_put_25 : decode cX5_put 25 = .ok (.aload_n 0, 1) := by decide +kernel
theorem dX5_put_26 : decode cX5_put 26 = .ok (.getfield 18, 3) := by decide +kernel
theorem dX5_put_29 : decode cX5_put 29 = .ok (.iload 7, 2) := by decide +kernel
theorem dX5_put_31 : decode cX5_put 31 = .ok (.iload 5, 2) := by decide +kernel
theorem dX5_put_33 : decode cX5_put 33 = .ok (.iastore, 1) := by decide +kernel
theorem dX5_put_34 : decode cX5_put 34 = .ok (.aload_n 0, 1) := by decide +kernel
theorem dX5_put_35 : decode cX5_put 35 = .ok (.getfield 21, 3) := by decide +kernel
theorem dX5_put_38 : decode cX5_put 38 = .ok (.iload 7, 2) := by decide +kernel
theorem dX5_put_40 : decode cX5_put 40 = .ok (.iload 6, 2) := by decide +kernel
theorem dX5_put_42 : decode cX5_put 42 = .ok (.iastore, 1) := by decide +kernel
theorem dX5_put_43 : decode cX5_put 43 = .ok (.aload_n 0, 1) := by decide +kernel
theorem dX5_put_44 : decode cX5_put 44 = .ok (.getfield 24, 3) := by decide +kernel
theorem dX5_put_47 : decode cX5_put 47 = .ok (.iload_n 1, 1) := by decide +kernel
theorem dX5_put_48 : decode cX5_put 48 = .ok (.bipush 6, 2) := by decide +kernel
theorem dX5_put_50 : decode cX5_put 50 = .ok (.imul, 1) := by decide +kernel
theorem dX5_put_51 : decode cX5_put 51 = .ok (.iload_n 3, 1) := by decide +kernel
theorem dX5_put_52 : decode cX5_put 52 = .ok (.iadd, 1) := by decide +kernel
theorem dX5_put_53 : decode cX5_put 53 = .ok (.iload 5, 2) := by decide +kernel
theorem dX5_put_55 : decode cX5_put 55 = .ok (.iastore, 1) := by decide +kernel
theorem dX5_put_56 : decode cX5_put 56 = .ok (.return_, 1) := by decide +kernel
theorem dX5_addListeners_0 : decode cX5_addListeners 0 = .ok (.aload_n 0, 1) := by decide +kernel
theorem dX5_addListeners_1 : decode cX5_addListeners 1 = .ok (.getfield 27, 3) := by decide +kernel
theorem dX5_addListeners_4 : decode cX5_addListeners 4 = .ok (.iload_n 1, 1) := by decide +kernel
theorem dX5_addListeners_5 : decode cX5_addListeners 5 = .ok (.dup2, 1) := by decide +kernel
theorem dX5_addListeners_6 : decode cX5_addListeners 6 = .ok (.iaload, 1) := by decide +kernel
theorem dX5_addListeners_7 : decode cX5_addListeners 7 = .ok (.iload_n 2, 1) := by decide +kernel
theorem dX5_addListeners_8 : decode cX5_addListeners 8 = .ok (.iadd, 1) := by decide +kernel
theorem dX5_addListeners_9 : decode cX5_addListeners 9 = .ok (.iastore, 1) := by decide +kernel
theorem dX5_addListeners_10 : decode cX5_addListeners 10 = .ok (.return_, 1) := by decide +kernel
theorem dX5_listenersIn_0 : decode cX5_listenersIn 0 = .ok (.aload_n 0, 1) := by decide +kernel
theorem dX5_listenersIn_1 : decode cX5_listenersIn 1 = .ok (.getfield 27, 3) := by decide +kernel
theorem dX5_listenersIn_4 : decode cX5_listenersIn 4 = .ok (.iload_n 1, 1) := by decide +kernel
theorem dX5_listenersIn_5 : decode cX5_listenersIn 5 = .ok (.iaload, 1) := by decide +kernel
theorem dX5_listenersIn_6 : decode cX5_listenersIn 6 = .ok (.ireturn, 1) := by decide +kernel
theorem dX5_aimOfMast_0 : decode cX5_aimOfMast 0 = .ok (.iload_n 1, 1) := by decide +kernel
theorem dX5_aimOfMast_1 : decode cX5_aimOfMast 1 = .ok (.ifCond .ge 7, 3) := by decide +kernel
theorem dX5_aimOfMast_4 : decode cX5_aimOfMast 4 = .ok (.iconst (-1), 1) := by decide +kernel
theorem dX5_aimOfMast_5 : decode cX5_aimOfMast 5 = .ok (.goto 14, 3) := by decide +kernel
theorem dX5_aimOfMast_8 : decode cX5_aimOfMast 8 = .ok (.aload_n 0, 1) := by decide +kernel
theorem dX5_aimOfMast_9 : decode cX5_aimOfMast 9 = .ok (.getfield 24, 3) := by decide +kernel
theorem dX5_aimOfMast_12 : decode cX5_aimOfMast 12 = .ok (.iload_n 1, 1) := by decide +kernel
theorem dX5_aimOfMast_13 : decode cX5_aimOfMast 13 = .ok (.bipush 6, 2) := by decide +kernel
theorem dX5_aimOfMast_15 : decode cX5_aimOfMast 15 = .ok (.imul, 1) := by decide +kernel
theorem dX5_aimOfMast_16 : decode cX5_aimOfMast 16 = .ok (.iload_n 2, 1) := by decide +kernel
theorem dX5_aimOfMast_17 : decode cX5_aimOfMast 17 = .ok (.iadd, 1) := by decide +kernel
theorem dX5_aimOfMast_18 : decode cX5_aimOfMast 18 = .ok (.iaload, 1) := by decide +kernel
theorem dX5_aimOfMast_19 : decode cX5_aimOfMast 19 = .ok (.ireturn, 1) := by decide +kernel
theorem dX5_mastIn_0 : decode cX5_mastIn 0 = .ok (.aload_n 0, 1) := by decide +kernel
theorem dX5_mastIn_1 : decode cX5_mastIn 1 = .ok (.getfield 9, 3) := by decide +kernel
theorem dX5_mastIn_4 : decode cX5_mastIn 4 = .ok (.iload_n 1, 1) := by decide +kernel
theorem dX5_mastIn_5 : decode cX5_mastIn 5 = .ok (.bipush 10, 2) := by decide +kernel
theorem dX5_mastIn_7 : decode cX5_mastIn 7 = .ok (.imul, 1) := by decide +kernel
theorem dX5_mastIn_8 : decode cX5_mastIn 8 = .ok (.iload_n 2, 1) := by decide +kernel
theorem dX5_mastIn_9 : decode cX5_mastIn 9 = .ok (.iadd, 1) := by decide +kernel
theorem dX5_mastIn_10 : decode cX5_mastIn 10 = .ok (.iaload, 1) := by decide +kernel
theorem dX5_mastIn_11 : decode cX5_mastIn 11 = .ok (.ireturn, 1) := by decide +kernel
theorem dX5_bandIn_0 : decode cX5_bandIn 0 = .ok (.aload_n 0, 1) := by decide +kernel
theorem dX5_bandIn_1 : decode cX5_bandIn 1 = .ok (.getfield 15, 3) := by decide +kernel
theorem dX5_bandIn_4 : decode cX5_bandIn 4 = .ok (.iload_n 1, 1) := by decide +kernel
theorem dX5_bandIn_5 : decode cX5_bandIn 5 = .ok (.bipush 10, 2) := by decide +kernel
theorem dX5_bandIn_7 : decode cX5_bandIn 7 = .ok (.imul, 1) := by decide +kernel
theorem dX5_bandIn_8 : decode cX5_bandIn 8 = .ok (.iload_n 2, 1) := by decide +kernel
theorem dX5_bandIn_9 : decode cX5_bandIn 9 = .ok (.iadd, 1) := by decide +kernel
theorem dX5_bandIn_10 : decode cX5_bandIn 10 = .ok (.iaload, 1) := by decide +kernel
theorem dX5_bandIn_11 : decode cX5_bandIn 11 = .ok (.ireturn, 1) := by decide +kernel
theorem dX5_aimIn_0 : decode cX5_aimIn 0 = .ok (.aload_n 0, 1) := by decide +kernel
theorem dX5_aimIn_1 : decode cX5_aimIn 1 = .ok (.getfield 18, 3) := by decide +kernel
theorem dX5_aimIn_4 : decode cX5_aimIn 4 = .ok (.iload_n 1, 1) := by decide +kernel
theorem dX5_aimIn_5 : decode cX5_aimIn 5 = .ok (.bipush 10, 2) := by decide +kernel
theorem dX5_aimIn_7 : decode cX5_aimIn 7 = .ok (.imul, 1) := by decide +kernel
theorem dX5_aimIn_8 : decode cX5_aimIn 8 = .ok (.iload_n 2, 1) := by decide +kernel
theorem dX5_aimIn_9 : decode cX5_aimIn 9 = .ok (.iadd, 1) := by decide +kernel
theorem dX5_aimIn_10 : decode cX5_aimIn 10 = .ok (.iaload, 1) := by decide +kernel
theorem dX5_aimIn_11 : decode cX5_aimIn 11 = .ok (.ireturn, 1) := by decide +kernel
theorem dX5_strengthIn_0 : decode cX5_strengthIn 0 = .ok (.aload_n 0, 1) := by decide +kernel
theorem dX5_strengthIn_1 : decode cX5_strengthIn 1 = .ok (.getfield 21, 3) := by decide +kernel
theorem dX5_strengthIn_4 : decode cX5_strengthIn 4 = .ok (.iload_n 1, 1) := by decide +kernel
theorem dX5_strengthIn_5 : decode cX5_strengthIn 5 = .ok (.bipush 10, 2) := by decide +kernel
theorem dX5_strengthIn_7 : decode cX5_strengthIn 7 = .ok (.imul, 1) := by decide +kernel
theorem dX5_strengthIn_8 : decode cX5_strengthIn 8 = .ok (.iload_n 2, 1) := by decide +kernel
theorem dX5_strengthIn_9 : decode cX5_strengthIn 9 = .ok (.iadd, 1) := by decide +kernel
theorem dX5_strengthIn_10 : decode cX5_strengthIn 10 = .ok (.iaload, 1) := by decide +kernel
theorem dX5_strengthIn_11 : decode cX5_strengthIn 11 = .ok (.ireturn, 1) := by decide +kernel
theorem dX6_init_0 : decode cX6_init 0 = .ok (.aload_n 0, 1) := by decide +kernel
theorem dX6_init_1 : decode cX6_init 1 = .ok (.invokespecial 3, 3) := by decide +kernel
theorem dX6_init_4 : decode cX6_init 4 = .ok (.aload_n 0, 1) := by decide +kernel
theorem dX6_init_5 : decode cX6_init 5 = .ok (.bipush 10, 2) := by decide +kernel
theorem dX6_init_7 : decode cX6_init 7 = .ok (.newarray .int, 2) := by decide +kernel
theorem dX6_init_9 : decode cX6_init 9 = .ok (.putfield 9, 3) := by decide +kernel
theorem dX6_init_12 : decode cX6_init 12 = .ok (.aload_n 0, 1) := by decide +kernel
theorem dX6_init_13 : decode cX6_init 13 = .ok (.bipush 10, 2) := by decide +kernel
theorem dX6_init_15 : decode cX6_init 15 = .ok (.newarray .int, 2) := by decide +kernel
theorem dX6_init_17 : decode cX6_init 17 = .ok (.putfield 15, 3) := by decide +kernel
theorem dX6_init_20 : decode cX6_init 20 = .ok (.aload_n 0, 1) := by decide +kernel
theorem dX6_init_21 : decode cX6_init 21 = .ok (.bipush 10, 2) := by decide +kernel
theorem dX6_init_23 : decode cX6_init 23 = .ok (.newarray .int, 2) := by decide +kernel
theorem dX6_init_25 : decode cX6_init 25 = .ok (.putfield 18, 3) := by decide +kernel
theorem dX6_init_28 : decode cX6_init 28 = .ok (.aload_n 0, 1) := by decide +kernel
theorem dX6_init_29 : decode cX6_init 29 = .ok (.iconst 0, 1) := by decide +kernel
theorem dX6_init_30 : decode cX6_init 30 = .ok (.putfield 21, 3) := by decide +kernel
theorem dX6_init_33 : decode cX6_init 33 = .ok (.return_, 1) := by decide +kernel
theorem dX6_add_0 : decode cX6_add 0 = .ok (.aload_n 0, 1) := by decide +kernel
theorem dX6_add_1 : decode cX6_add 1 = .ok (.getfield 21, 3) := by decide +kernel
theorem dX6_add_4 : decode cX6_add 4 = .ok (.bipush 10, 2) := by decide +kernel
theorem dX6_add_6 : decode cX6_add 6 = .ok (.if_icmp .lt 5, 3) := by decide +kernel
theorem dX6_add_9 : decode cX6_add 9 = .ok (.iconst (-1), 1) := by decide +kernel
theorem dX6_add_10 : decode cX6_add 10 = .ok (.ireturn, 1) := by decide +kernel
theorem dX6_add_11 : decode cX6_add 11 = .ok (.aload_n 0, 1) := by decide +kernel
theorem dX6_add_12 : decode cX6_add 12 = .ok (.getfield 9, 3) := by decide +kernel
theorem dX6_add_15 : decode cX6_add 15 = .ok (.aload_n 0, 1) := by decide +kernel
theorem dX6_add_16 : decode cX6_add 16 = .ok (.getfield 21, 3) := by decide +kernel
theorem dX6_add_19 : decode cX6_add 19 = .ok (.iload_n 1, 1) := by decide +kernel
theorem dX6_add_20 : decode cX6_add 20 = .ok (.iastore, 1) := by decide +kernel
theorem dX6_add_21 : decode cX6_add 21 = .ok (.aload_n 0, 1) := by decide +kernel
theorem dX6_add_22 : decode cX6_add 22 = .ok (.getfield 15, 3) := by decide +kernel
theorem dX6_add_25 : decode cX6_add 25 = .ok (.aload_n 0, 1) := by decide +kernel
theorem dX6_add_26 : decode cX6_add 26 = .ok (.getfield 21, 3) := by decide +kernel
theorem dX6_add_29 : decode cX6_add 29 = .ok (.iload_n 2, 1) := by decide +kernel
theorem dX6_add_30 : decode cX6_add 30 = .ok (.iastore, 1) := by decide +kernel
theorem dX6_add_31 : decode cX6_add 31 = .ok (.aload_n 0, 1) := by decide +kernel
theorem dX6_add_32 : decode cX6_add 32 = .ok (.getfield 18, 3) := by decide +kernel
theorem dX6_add_35 : decode cX6_add 35 = .ok (.aload_n 0, 1) := by decide +kernel
theorem dX6_add_36 : decode cX6_add 36 = .ok (.getfield 21, 3) := by decide +kernel
theorem dX6_add_39 : decode cX6_add 39 = .ok (.iload_n 3, 1) := by decide +kernel
theorem dX6_add_40 : decode cX6_add 40 = .ok (.iastore, 1) := by decide +kernel
theorem dX6_add_41 : decode cX6_add 41 = .ok (.aload_n 0, 1) := by decide +kernel
theorem dX6_add_42 : decode cX6_add 42 = .ok (.dup, 1) := by decide +kernel
theorem dX6_add_43 : decode cX6_add 43 = .ok (.getfield 21, 3) := by decide +kernel
theorem dX6_add_46 : decode cX6_add 46 = .ok (.iconst 1, 1) := by decide +kernel
theorem dX6_add_47 : decode cX6_add 47 = .ok (.iadd, 1) := by decide +kernel
theorem dX6_add_48 : decode cX6_add 48 = .ok (.putfield 21, 3) := by decide +kernel
theorem dX6_add_51 : decode cX6_add 51 = .ok (.aload_n 0, 1) := by decide +kernel
theorem dX6_add_52 : decode cX6_add 52 = .ok (.getfield 21, 3) := by decide +kernel
theorem dX6_add_55 : decode cX6_add 55 = .ok (.iconst 1, 1) := by decide +kernel
theorem dX6_add_56 : decode cX6_add 56 = .ok (.isub, 1) := by decide +kernel
theorem dX6_add_57 : decode cX6_add 57 = .ok (.ireturn, 1) := by decide +kernel
theorem dX6_landOf_0 : decode cX6_landOf 0 = .ok (.aload_n 0, 1) := by decide +kernel
theorem dX6_landOf_1 : decode cX6_landOf 1 = .ok (.getfield 9, 3) := by decide +kernel
theorem dX6_landOf_4 : decode cX6_landOf 4 = .ok (.iload_n 1, 1) := by decide +kernel
theorem dX6_landOf_5 : decode cX6_landOf 5 = .ok (.iaload, 1) := by decide +kernel
theorem dX6_landOf_6 : decode cX6_landOf 6 = .ok (.ireturn, 1) := by decide +kernel
theorem dX6_isOn_0 : decode cX6_isOn 0 = .ok (.iload_n 2, 1) := by decide +kernel
theorem dX6_isOn_1 : decode cX6_isOn 1 = .ok (.aload_n 0, 1) := by decide +kernel
theorem dX6_isOn_2 : decode cX6_isOn 2 = .ok (.getfield 15, 3) := by decide +kernel
theorem dX6_isOn_5 : decode cX6_isOn 5 = .ok (.iload_n 1, 1) := by decide +kernel
theorem dX6_isOn_6 : decode cX6_isOn 6 = .ok (.iaload, 1) := by decide +kernel
theorem dX6_isOn_7 : decode cX6_isOn 7 = .ok (.if_icmp .lt 17, 3) := by decide +kernel
theorem dX6_isOn_10 : decode cX6_isOn 10 = .ok (.iload_n 2, 1) := by decide +kernel
theorem dX6_isOn_11 : decode cX6_isOn 11 = .ok (.aload_n 0, 1) := by decide +kernel
theorem dX6_isOn_12 : decode cX6_isOn 12 = .ok (.getfield 18, 3) := by decide +kernel
theorem dX6_isOn_15 : decode cX6_isOn 15 = .ok (.iload_n 1, 1) := by decide +kernel
theorem dX6_isOn_16 : decode cX6_isOn 16 = .ok (.iaload, 1) := by decide +kernel
theorem dX6_isOn_17 : decode cX6_isOn 17 = .ok (.if_icmp .ge 7, 3) := by decide +kernel
theorem dX6_isOn_20 : decode cX6_isOn 20 = .ok (.iconst 1, 1) := by decide +kernel
theorem dX6_isOn_21 : decode cX6_isOn 21 = .ok (.goto 4, 3) := by decide +kernel
theorem dX6_isOn_24 : decode cX6_isOn 24 = .ok (.iconst 0, 1) := by decide +kernel
theorem dX6_isOn_25 : decode cX6_isOn 25 = .ok (.ireturn, 1) := by decide +kernel
theorem dX8_init_0 : decode cX8_init 0 = .ok (.aload_n 0, 1) := by decide +kernel
theorem dX8_init_1 : decode cX8_init 1 = .ok (.invokespecial 3, 3) := by decide +kernel
theorem dX8_init_4 : decode cX8_init 4 = .ok (.aload_n 0, 1) := by decide +kernel
theorem dX8_init_5 : decode cX8_init 5 = .ok (.sipush 1080, 3) := by decide +kernel
theorem dX8_init_8 : decode cX8_init 8 = .ok (.newarray .short, 2) := by decide +kernel
theorem dX8_init_10 : decode cX8_init 10 = .ok (.putfield 9, 3) := by decide +kernel
theorem dX8_init_13 : decode cX8_init 13 = .ok (.aload_n 0, 1) := by decide +kernel
theorem dX8_init_14 : decode cX8_init 14 = .ok (.iconst 4, 1) := by decide +kernel
theorem dX8_init_15 : decode cX8_init 15 = .ok (.newarray .int, 2) := by decide +kernel
theorem dX8_init_17 : decode cX8_init 17 = .ok (.putfield 15, 3) := by decide +kernel
theorem dX8_init_20 : decode cX8_init 20 = .ok (.return_, 1) := by decide +kernel
theorem dX8_renew_0 : decode cX8_renew 0 = .ok (.aload_n 0, 1) := by decide +kernel
theorem dX8_renew_1 : decode cX8_renew 1 = .ok (.getfield 15, 3) := by decide +kernel
theorem dX8_renew_4 : decode cX8_renew 4 = .ok (.iload_n 1, 1) := by decide +kernel
theorem dX8_renew_5 : decode cX8_renew 5 = .ok (.iload_n 2, 1) := by decide +kernel
theorem dX8_renew_6 : decode cX8_renew 6 = .ok (.iconst 0, 1) := by decide +kernel
theorem dX8_renew_7 : decode cX8_renew 7 = .ok (.invokestatic 19, 3) := by decide +kernel
theorem dX8_renew_10 : decode cX8_renew 10 = .ok (.iastore, 1) := by decide +kernel
theorem dX8_renew_11 : decode cX8_renew 11 = .ok (.iconst 0, 1) := by decide +kernel
theorem dX8_renew_12 : decode cX8_renew 12 = .ok (.istore_n 3, 1) := by decide +kernel
theorem dX8_renew_13 : decode cX8_renew 13 = .ok (.iload_n 3, 1) := by decide +kernel
theorem dX8_renew_14 : decode cX8_renew 14 = .ok (.aload_n 0, 1) := by decide +kernel
theorem dX8_renew_15 : decode cX8_renew 15 = .ok (.getfield 15, 3) := by decide +kernel
theorem dX8_renew_18 : decode cX8_renew 18 = .ok (.iload_n 1, 1) := by decide +kernel
theorem dX8_renew_19 : decode cX8_renew 19 = .ok (.iaload, 1) := by decide +kernel
theorem dX8_renew_20 : decode cX8_renew 20 = .ok (.if_icmp .ge 22, 3) := by decide +kernel
theorem dX8_renew_23 : decode cX8_renew 23 = .ok (.aload_n 0, 1) := by decide +kernel
theorem dX8_renew_24 : decode cX8_renew 24 = .ok (.getfield 9, 3) := by decide +kernel
theorem dX8_renew_27 : decode cX8_renew 27 = .ok (.iload_n 1, 1) := by decide +kernel
theorem dX8_renew_28 : decode cX8_renew 28 = .ok (.sipush 270, 3) := by decide +kernel
theorem dX8_renew_31 : decode cX8_renew 31 = .ok (.imul, 1) := by decide +kernel
theorem dX8_renew_32 : decode cX8_renew 32 = .ok (.iload_n 3, 1) := by decide +kernel
theorem dX8_renew_33 : decode cX8_renew 33 = .ok (.iadd, 1) := by decide +kernel
theorem dX8_renew_34 : decode cX8_renew 34 = .ok (.iconst 0, 1) := by decide +kernel
theorem dX8_renew_35 : decode cX8_renew 35 = .ok (.sastore, 1) := by decide +kernel
theorem dX8_renew_36 : decode cX8_renew 36 = .ok (.iinc 3 1, 3) := by decide +kernel
theorem dX8_renew_39 : decode cX8_renew 39 = .ok (.goto (-26), 3) := by decide +kernel
theorem dX8_renew_42 : decode cX8_renew 42 = .ok (.return_, 1) := by decide +kernel
theorem dX8_has_0 : decode cX8_has 0 = .ok (.iload_n 2, 1) := by decide +kernel
theorem dX8_has_1 : decode cX8_has 1 = .ok (.ifCond .lt 17, 3) := by decide +kernel
theorem dX8_has_4 : decode cX8_has 4 = .ok (.iload_n 2, 1) := by decide +kernel
theorem dX8_has_5 : decode cX8_has 5 = .ok (.aload_n 0, 1) := by decide +kernel
theorem dX8_has_6 : decode cX8_has 6 = .ok (.getfield 15, 3) := by decide +kernel
theorem dX8_has_9 : decode cX8_has 9 = .ok (.iload_n 1, 1) := by decide +kernel
theorem dX8_has_10 : decode cX8_has 10 = .ok (.iaload, 1) := by decide +kernel
theorem dX8_has_11 : decode cX8_has 11 = .ok (.if_icmp .ge 7, 3) := by decide +kernel
theorem dX8_has_14 : decode cX8_has 14 = .ok (.iconst 1, 1) := by decide +kernel
theorem dX8_has_15 : decode cX8_has 15 = .ok (.goto 4, 3) := by decide +kernel
theorem dX8_has_18 : decode cX8_has 18 = .ok (.iconst 0, 1) := by decide +kernel
theorem dX8_has_19 : decode cX8_has 19 = .ok (.ireturn, 1) := by decide +kernel
theorem dX8_put_0 : decode cX8_put 0 = .ok (.aload_n 0, 1) := by decide +kernel
theorem dX8_put_1 : decode cX8_put 1 = .ok (.getfield 9, 3) := by decide +kernel
theorem dX8_put_4 : decode cX8_put 4 = .ok (.iload_n 1, 1) := by decide +kernel
theorem dX8_put_5 : decode cX8_put 5 = .ok (.sipush 270, 3) := by decide +kernel
theorem dX8_put_8 : decode cX8_put 8 = .ok (.imul, 1) := by decide +kernel
theorem dX8_put_9 : decode cX8_put 9 = .ok (.iload_n 2, 1) := by decide +kernel
theorem dX8_put_10 : decode cX8_put 10 = .ok (.iadd, 1) := by decide +kernel
theorem dX8_put_11 : decode cX8_put 11 = .ok (.iload_n 3, 1) := by decide +kernel
theorem dX8_put_12 : decode cX8_put 12 = .ok (.i2s, 1) := by decide +kernel
theorem dX8_put_13 : decode cX8_put 13 = .ok (.sastore, 1) := by decide +kernel
theorem dX8_put_14 : decode cX8_put 14 = .ok (.return_, 1) := by decide +kernel
theorem dX8_numberAt_0 : decode cX8_numberAt 0 = .ok (.aload_n 0, 1) := by decide +kernel
theorem dX8_numberAt_1 : decode cX8_numberAt 1 = .ok (.iload_n 1, 1) := by decide +kernel
theorem dX8_numberAt_2 : decode cX8_numberAt 2 = .ok (.iload_n 2, 1) := by decide +kernel
theorem dX8_numberAt_3 : decode cX8_numberAt 3 = .ok (.invokevirtual 25, 3) := by decide +kernel
theorem dX8_numberAt_6 : decode cX8_numberAt 6 = .ok (.ifCond .eq 18, 3) := by decide +kernel
theorem dX8_numberAt_9 : decode cX8_numberAt 9 = .ok (.aload_n 0, 1) := by decide +kernel
theorem dX8_numberAt_10 : decode cX8_numberAt 10 = .ok (.getfield 9, 3) := by decide +kernel
theorem dX8_numberAt_13 : decode cX8_numberAt 13 = .ok (.iload_n 1, 1) := by decide +kernel
theorem dX8_numberAt_14 : decode cX8_numberAt 14 = .ok (.sipush 270, 3) := by decide +kernel
theorem dX8_numberAt_17 : decode cX8_numberAt 17 = .ok (.imul, 1) := by decide +kernel
theorem dX8_numberAt_18 : decode cX8_numberAt 18 = .ok (.iload_n 2, 1) := by decide +kernel
theorem dX8_numberAt_19 : decode cX8_numberAt 19 = .ok (.iadd, 1) := by decide +kernel
theorem dX8_numberAt_20 : decode cX8_numberAt 20 = .ok (.saload, 1) := by decide +kernel
theorem dX8_numberAt_21 : decode cX8_numberAt 21 = .ok (.goto 5, 3) := by decide +kernel
theorem dX8_numberAt_24 : decode cX8_numberAt 24 = .ok (.ldc 29, 2) := by decide +kernel
theorem dX8_numberAt_26 : decode cX8_numberAt 26 = .ok (.ireturn, 1) := by decide +kernel
theorem dX9_init_0 : decode cX9_init 0 = .ok (.aload_n 0, 1) := by decide +kernel
theorem dX9_init_1 : decode cX9_init 1 = .ok (.invokespecial 3, 3) := by decide +kernel
theorem dX9_init_4 : decode cX9_init 4 = .ok (.aload_n 0, 1) := by decide +kernel
theorem dX9_init_5 : decode cX9_init 5 = .ok (.iconst 0, 1) := by decide +kernel
theorem dX9_init_6 : decode cX9_init 6 = .ok (.putfield 9, 3) := by decide +kernel
theorem dX9_init_9 : decode cX9_init 9 = .ok (.aload_n 0, 1) := by decide +kernel
theorem dX9_init_10 : decode cX9_init 10 = .ok (.iload_n 1, 1) := by decide +kernel
theorem dX9_init_11 : decode cX9_init 11 = .ok (.newarray .int, 2) := by decide +kernel
theorem dX9_init_13 : decode cX9_init 13 = .ok (.putfield 15, 3) := by decide +kernel
theorem dX9_init_16 : decode cX9_init 16 = .ok (.aload_n 0, 1) := by decide +kernel
theorem dX9_init_17 : decode cX9_init 17 = .ok (.iload_n 1, 1) := by decide +kernel
theorem dX9_init_18 : decode cX9_init 18 = .ok (.newarray .int, 2) := by decide +kernel
theorem dX9_init_20 : decode cX9_init 20 = .ok (.putfield 19, 3) := by decide +kernel
theorem dX9_init_23 : decode cX9_init 23 = .ok (.aload_n 0, 1) := by decide +kernel
theorem dX9_init_24 : decode cX9_init 24 = .ok (.iload_n 1, 1) := by decide +kernel
theorem dX9_init_25 : decode cX9_init 25 = .ok (.newarray .int, 2) := by decide +kernel
theorem dX9_init_27 : decode cX9_init 27 = .ok (.putfield 22, 3) := by decide +kernel
theorem dX9_init_30 : decode cX9_init 30 = .ok (.return_, 1) := by decide +kernel
theorem dX9_add_0 : decode cX9_add 0 = .ok (.aload_n 0, 1) := by decide +kernel
theorem dX9_add_1 : decode cX9_add 1 = .ok (.getfield 9, 3) := by decide +kernel
theorem dX9_add_4 : decode cX9_add 4 = .ok (.aload_n 0, 1) := by decide +kernel
theorem dX9_add_5 : decode cX9_add 5 = .ok (.getfield 15, 3) := by decide +kernel
theorem dX9_add_8 : decode cX9_add 8 = .ok (.arraylength, 1) := by decide +kernel
theorem dX9_add_9 : decode cX9_add 9 = .ok (.if_icmp .lt 5, 3) := by decide +kernel
theorem dX9_add_12 : decode cX9_add 12 = .ok (.iconst (-1), 1) := by decide +kernel
theorem dX9_add_13 : decode cX9_add 13 = .ok (.ireturn, 1) := by decide +kernel
theorem dX9_add_14 : decode cX9_add 14 = .ok (.aload_n 0, 1) := by decide +kernel
theorem dX9_add_15 : decode cX9_add 15 = .ok (.getfield 15, 3) := by decide +kernel
theorem dX9_add_18 : decode cX9_add 18 = .ok (.aload_n 0, 1) := by decide +kernel
theorem dX9_add_19 : decode cX9_add 19 = .ok (.getfield 9, 3) := by decide +kernel
theorem dX9_add_22 : decode cX9_add 22 = .ok (.iload_n 1, 1) := by decide +kernel
theorem dX9_add_23 : decode cX9_add 23 = .ok (.iastore, 1) := by decide +kernel
theorem dX9_add_24 : decode cX9_add 24 = .ok (.aload_n 0, 1) := by decide +kernel
theorem dX9_add_25 : decode cX9_add 25 = .ok (.getfield 19, 3) := by decide +kernel
theorem dX9_add_28 : decode cX9_add 28 = .ok (.aload_n 0, 1) := by decide +kernel
theorem dX9_add_29 : decode cX9_add 29 = .ok (.getfield 9, 3) := by decide +kernel
theorem dX9_add_32 : decode cX9_add 32 = .ok (.iload_n 2, 1) := by decide +kernel
theorem dX9_add_33 : decode cX9_add 33 = .ok (.iastore, 1) := by decide +kernel
theorem dX9_add_34 : decode cX9_add 34 = .ok (.aload_n 0, 1) := by decide +kernel
theorem dX9_add_35 : decode cX9_add 35 = .ok (.getfield 22, 3) := by decide +kernel
theorem dX9_add_38 : decode cX9_add 38 = .ok (.aload_n 0, 1) := by decide +kernel
theorem dX9_add_39 : decode cX9_add 39 = .ok (.getfield 9, 3) := by decide +kernel
theorem dX9_add_42 : decode cX9_add 42 = .ok (.iload_n 3, 1) := by decide +kernel
theorem dX9_add_43 : decode cX9_add 43 = .ok (.iastore, 1) := by decide +kernel
theorem dX9_add_44 : decode cX9_add 44 = .ok (.aload_n 0, 1) := by decide +kernel
theorem dX9_add_45 : decode cX9_add 45 = .ok (.dup, 1) := by decide +kernel
theorem dX9_add_46 : decode cX9_add 46 = .ok (.getfield 9, 3) := by decide +kernel
theorem dX9_add_49 : decode cX9_add 49 = .ok (.iconst 1, 1) := by decide +kernel
theorem dX9_add_50 : decode cX9_add 50 = .ok (.iadd, 1) := by decide +kernel
theorem dX9_add_51 : decode cX9_add 51 = .ok (.putfield 9, 3) := by decide +kernel
theorem dX9_add_54 : decode cX9_add 54 = .ok (.aload_n 0, 1) := by decide +kernel
theorem dX9_add_55 : decode cX9_add 55 = .ok (.getfield 9, 3) := by decide +kernel
theorem dX9_add_58 : decode cX9_add 58 = .ok (.iconst 1, 1) := by decide +kernel
theorem dX9_add_59 : decode cX9_add 59 = .ok (.isub, 1) := by decide +kernel
theorem dX9_add_60 : decode cX9_add 60 = .ok (.ireturn, 1) := by decide +kernel
theorem dX9_has_0 : decode cX9_has 0 = .ok (.iload_n 1, 1) := by decide +kernel
theorem dX9_has_1 : decode cX9_has 1 = .ok (.ifCond .lt 15, 3) := by decide +kernel
theorem dX9_has_4 : decode cX9_has 4 = .ok (.iload_n 1, 1) := by decide +kernel
theorem dX9_has_5 : decode cX9_has 5 = .ok (.aload_n 0, 1) := by decide +kernel
theorem dX9_has_6 : decode cX9_has 6 = .ok (.getfield 9, 3) := by decide +kernel
theorem dX9_has_9 : decode cX9_has 9 = .ok (.if_icmp .ge 7, 3) := by decide +kernel
theorem dX9_has_12 : decode cX9_has 12 = .ok (.iconst 1, 1) := by decide +kernel
theorem dX9_has_13 : decode cX9_has 13 = .ok (.goto 4, 3) := by decide +kernel
theorem dX9_has_16 : decode cX9_has 16 = .ok (.iconst 0, 1) := by decide +kernel
theorem dX9_has_17 : decode cX9_has 17 = .ok (.ireturn, 1) := by decide +kernel
theorem dX9_listenersOf_0 : decode cX9_listenersOf 0 = .ok (.aload_n 0, 1) := by decide +kernel
theorem dX9_listenersOf_1 : decode cX9_listenersOf 1 = .ok (.getfield 22, 3) := by decide +kernel
theorem dX9_listenersOf_4 : decode cX9_listenersOf 4 = .ok (.iload_n 1, 1) := by decide +kernel
theorem dX9_listenersOf_5 : decode cX9_listenersOf 5 = .ok (.iaload, 1) := by decide +kernel
theorem dX9_listenersOf_6 : decode cX9_listenersOf 6 = .ok (.ireturn, 1) := by decide +kernel
theorem dX9_sunAt_0 : decode cX9_sunAt 0 = .ok (.iload_n 3, 1) := by decide +kernel
theorem dX9_sunAt_1 : decode cX9_sunAt 1 = .ok (.aload_n 0, 1) := by decide +kernel
theorem dX9_sunAt_2 : decode cX9_sunAt 2 = .ok (.getfield 15, 3) := by decide +kernel
theorem dX9_sunAt_5 : decode cX9_sunAt 5 = .ok (.iload_n 1, 1) := by decide +kernel
theorem dX9_sunAt_6 : decode cX9_sunAt 6 = .ok (.iaload, 1) := by decide +kernel
theorem dX9_sunAt_7 : decode cX9_sunAt 7 = .ok (.iadd, 1) := by decide +kernel
theorem dX9_sunAt_8 : decode cX9_sunAt 8 = .ok (.bipush 24, 2) := by decide +kernel
theorem dX9_sunAt_10 : decode cX9_sunAt 10 = .ok (.irem, 1) := by decide +kernel
theorem dX9_sunAt_11 : decode cX9_sunAt 11 = .ok (.istore 4, 2) := by decide +kernel
theorem dX9_sunAt_13 : decode cX9_sunAt 13 = .ok (.iload_n 2, 1) := by decide +kernel
theorem dX9_sunAt_14 : decode cX9_sunAt 14 = .ok (.invokestatic 25, 3) := by decide +kernel
theorem dX9_sunAt_17 : decode cX9_sunAt 17 = .ok (.istore 5, 2) := by decide +kernel
theorem dX9_sunAt_19 : decode cX9_sunAt 19 = .ok (.aload_n 0, 1) := by decide +kernel
theorem dX9_sunAt_20 : decode cX9_sunAt 20 = .ok (.getfield 19, 3) := by decide +kernel
theorem dX9_sunAt_23 : decode cX9_sunAt 23 = .ok (.iload_n 1, 1) := by decide +kernel
theorem dX9_sunAt_24 : decode cX9_sunAt 24 = .ok (.iaload, 1) := by decide +kernel
theorem dX9_sunAt_25 : decode cX9_sunAt 25 = .ok (.iconst 2, 1) := by decide +kernel
theorem dX9_sunAt_26 : decode cX9_sunAt 26 = .ok (.if_icmp .gt 7, 3) := by decide +kernel
theorem dX9_sunAt_29 : decode cX9_sunAt 29 = .ok (.iconst 1, 1) := by decide +kernel
theorem dX9_sunAt_30 : decode cX9_sunAt 30 = .ok (.goto 4, 3) := by decide +kernel
theorem dX9_sunAt_33 : decode cX9_sunAt 33 = .ok (.iconst 0, 1) := by decide +kernel
theorem dX9_sunAt_34 : decode cX9_sunAt 34 = .ok (.istore 6, 2) := by decide +kernel
theorem dX9_sunAt_36 : decode cX9_sunAt 36 = .ok (.aload_n 0, 1) := by decide +kernel
theorem dX9_sunAt_37 : decode cX9_sunAt 37 = .ok (.getfield 19, 3) := by decide +kernel
theorem dX9_sunAt_40 : decode cX9_sunAt 40 = .ok (.iload_n 1, 1) := by decide +kernel
theorem dX9_sunAt_41 : decode cX9_sunAt 41 = .ok (.iaload, 1) := by decide +kernel
theorem dX9_sunAt_42 : decode cX9_sunAt 42 = .ok (.iconst 4, 1) := by decide +kernel
theorem dX9_sunAt_43 : decode cX9_sunAt 43 = .ok (.if_icmp .lt 7, 3) := by decide +kernel
theorem dX9_sunAt_46 : decode cX9_sunAt 46 = .ok (.iconst 1, 1) := by decide +kernel
theorem dX9_sunAt_47 : decode cX9_sunAt 47 = .ok (.goto 4, 3) := by decide +kernel
theorem dX9_sunAt_50 : decode cX9_sunAt 50 = .ok (.iconst 0, 1) := by decide +kernel
theorem dX9_sunAt_51 : decode cX9_sunAt 51 = .ok (.istore 7, 2) := by decide +kernel
theorem dX9_sunAt_53 : decode cX9_sunAt 53 = .ok (.iload 5, 2) := by decide +kernel
theorem dX9_sunAt_55 : decode cX9_sunAt 55 = .ok (.iconst 1, 1) := by decide +kernel
theorem dX9_sunAt_56 : decode cX9_sunAt 56 = .ok (.if_icmp .ne 8, 3) := by decide +kernel
theorem dX9_sunAt_59 : decode cX9_sunAt 59 = .ok (.iload 6, 2) := by decide +kernel
theorem dX9_sunAt_61 : decode cX9_sunAt 61 = .ok (.ifCond .ne 14, 3) := by decide +kernel
theorem dX9_sunAt_64 : decode cX9_sunAt 64 = .ok (.iload 5, 2) := by decide +kernel
theorem dX9_sunAt_66 : decode cX9_sunAt 66 = .ok (.iconst 3, 1) := by decide +kernel
theorem dX9_sunAt_67 : decode cX9_sunAt 67 = .ok (.if_icmp .ne 18, 3) := by decide +kernel
theorem dX9_sunAt_70 : decode cX9_sunAt 70 = .ok (.iload 7, 2) := by decide +kernel
theorem dX9_sunAt_72 : decode cX9_sunAt 72 = .ok (.ifCond .eq 13, 3) := by decide +kernel
theorem dX9_sunAt_75 : decode cX9_sunAt 75 = .ok (.iload 4, 2) := by decide +kernel
theorem dX9_sunAt_77 : decode cX9_sunAt 77 = .ok (.iconst 5, 1) := by decide +kernel
theorem dX9_sunAt_78 : decode cX9_sunAt 78 = .ok (.bipush 18, 2) := by decide +kernel
theorem dX9_sunAt_80 : decode cX9_sunAt 80 = .ok (.iconst 1, 1) := by decide +kernel
theorem dX9_sunAt_81 : decode cX9_sunAt 81 = .ok (.invokestatic 29, 3) := by decide +kernel
theorem dX9_sunAt_84 : decode cX9_sunAt 84 = .ok (.ireturn, 1) := by decide +kernel
theorem dX9_sunAt_85 : decode cX9_sunAt 85 = .ok (.iload 5, 2) := by decide +kernel
theorem dX9_sunAt_87 : decode cX9_sunAt 87 = .ok (.iconst 1, 1) := by decide +kernel
theorem dX9_sunAt_88 : decode cX9_sunAt 88 = .ok (.if_icmp .ne 8, 3) := by decide +kernel
theorem dX9_sunAt_91 : decode cX9_sunAt 91 = .ok (.iload 7, 2) := by decide +kernel
theorem dX9_sunAt_93 : decode cX9_sunAt 93 = .ok (.ifCond .ne 14, 3) := by decide +kernel
theorem dX9_sunAt_96 : decode cX9_sunAt 96 = .ok (.iload 5, 2) := by decide +kernel
theorem dX9_sunAt_98 : decode cX9_sunAt 98 = .ok (.iconst 3, 1) := by decide +kernel
theorem dX9_sunAt_99 : decode cX9_sunAt 99 = .ok (.if_icmp .ne 19, 3) := by decide +kernel
theorem dX9_sunAt_102 : decode cX9_sunAt 102 = .ok (.iload 6, 2) := by decide +kernel
theorem dX9_sunAt_104 : decode cX9_sunAt 104 = .ok (.ifCond .eq 14, 3) := by decide +kernel
theorem dX9_sunAt_107 : decode cX9_sunAt 107 = .ok (.iload 4, 2) := by decide +kernel
theorem dX9_sunAt_109 : decode cX9_sunAt 109 = .ok (.bipush 8, 2) := by decide +kernel
theorem dX9_sunAt_111 : decode cX9_sunAt 111 = .ok (.bipush 15, 2) := by decide +kernel
theorem dX9_sunAt_113 : decode cX9_sunAt 113 = .ok (.iconst 1, 1) := by decide +kernel
theorem dX9_sunAt_114 : decode cX9_sunAt 114 = .ok (.invokestatic 29, 3) := by decide +kernel
theorem dX9_sunAt_117 : decode cX9_sunAt 117 = .ok (.ireturn, 1) := by decide +kernel
theorem dX9_sunAt_118 : decode cX9_sunAt 118 = .ok (.iload 4, 2) := by decide +kernel
theorem dX9_sunAt_120 : decode cX9_sunAt 120 = .ok (.bipush 7, 2) := by decide +kernel
theorem dX9_sunAt_122 : decode cX9_sunAt 122 = .ok (.bipush 16, 2) := by decide +kernel
theorem dX9_sunAt_124 : decode cX9_sunAt 124 = .ok (.iconst 2, 1) := by decide +kernel
theorem dX9_sunAt_125 : decode cX9_sunAt 125 = .ok (.invokestatic 29, 3) := by decide +kernel
theorem dX9_sunAt_128 : decode cX9_sunAt 128 = .ok (.ireturn, 1) := by decide +kernel
theorem dX9_light_0 : decode cX9_light 0 = .ok (.iload_n 0, 1) := by decide +kernel
theorem dX9_light_1 : decode cX9_light 1 = .ok (.iload_n 1, 1) := by decide +kernel
theorem dX9_light_2 : decode cX9_light 2 = .ok (.if_icmp .lt 10, 3) := by decide +kernel
theorem dX9_light_5 : decode cX9_light 5 = .ok (.iload_n 0, 1) := by decide +kernel
theorem dX9_light_6 : decode cX9_light 6 = .ok (.iload_n 2, 1) := by decide +kernel
theorem dX9_light_7 : decode cX9_light 7 = .ok (.if_icmp .gt 5, 3) := by decide +kernel
theorem dX9_light_10 : decode cX9_light 10 = .ok (.iconst 2, 1) := by decide +kernel
theorem dX9_light_11 : decode cX9_light 11 = .ok (.ireturn, 1) := by decide +kernel
theorem dX9_light_12 : decode cX9_light 12 = .ok (.iload_n 0, 1) := by decide +kernel
theorem dX9_light_13 : decode cX9_light 13 = .ok (.iload_n 1, 1) := by decide +kernel
theorem dX9_light_14 : decode cX9_light 14 = .ok (.iload_n 3, 1) := by decide +kernel
theorem dX9_light_15 : decode cX9_light 15 = .ok (.isub, 1) := by decide +kernel
theorem dX9_light_16 : decode cX9_light 16 = .ok (.if_icmp .lt 14, 3) := by decide +kernel
theorem dX9_light_19 : decode cX9_light 19 = .ok (.iload_n 0, 1) := by decide +kernel
theorem dX9_light_20 : decode cX9_light 20 = .ok (.iload_n 2, 1) := by decide +kernel
theorem dX9_light_21 : decode cX9_light 21 = .ok (.iload_n 3, 1) := by decide +kernel
theorem dX9_light_22 : decode cX9_light 22 = .ok (.iadd, 1) := by decide +kernel
theorem dX9_light_23 : decode cX9_light 23 = .ok (.if_icmp .gt 7, 3) := by decide +kernel
theorem dX9_light_26 : decode cX9_light 26 = .ok (.iconst 1, 1) := by decide +kernel
theorem dX9_light_27 : decode cX9_light 27 = .ok (.goto 4, 3) := by decide +kernel
theorem dX9_light_30 : decode cX9_light 30 = .ok (.iconst 0, 1) := by decide +kernel
theorem dX9_light_31 : decode cX9_light 31 = .ok (.ireturn, 1) := by decide +kernel
theorem dX9_eastward_0 : decode cX9_eastward 0 = .ok (.aload_n 2, 1) := by decide +kernel
theorem dX9_eastward_1 : decode cX9_eastward 1 = .ok (.getfield 15, 3) := by decide +kernel
theorem dX9_eastward_4 : decode cX9_eastward 4 = .ok (.iload_n 3, 1) := by decide +kernel
theorem dX9_eastward_5 : decode cX9_eastward 5 = .ok (.iaload, 1) := by decide +kernel
theorem dX9_eastward_6 : decode cX9_eastward 6 = .ok (.aload_n 0, 1) := by decide +kernel
theorem dX9_eastward_7 : decode cX9_eastward 7 = .ok (.getfield 15, 3) := by decide +kernel
theorem dX9_eastward_10 : decode cX9_eastward 10 = .ok (.iload_n 1, 1) := by decide +kernel
theorem dX9_eastward_11 : decode cX9_eastward 11 = .ok (.iaload, 1) := by decide +kernel
theorem dX9_eastward_12 : decode cX9_eastward 12 = .ok (.isub, 1) := by decide +kernel
theorem dX9_eastward_13 : decode cX9_eastward 13 = .ok (.bipush 24, 2) := by decide +kernel
theorem dX9_eastward_15 : decode cX9_eastward 15 = .ok (.iadd, 1) := by decide +kernel
theorem dX9_eastward_16 : decode cX9_eastward 16 = .ok (.bipush 24, 2) := by decide +kernel
theorem dX9_eastward_18 : decode cX9_eastward 18 = .ok (.irem, 1) := by decide +kernel
theorem dX9_eastward_19 : decode cX9_eastward 19 = .ok (.ireturn, 1) := by decide +kernel
theorem dX9_shortest_0 : decode cX9_shortest 0 = .ok (.aload_n 0, 1) := by decide +kernel
theorem dX9_shortest_1 : decode cX9_shortest 1 = .ok (.iload_n 1, 1) := by decide +kernel
theorem dX9_shortest_2 : decode cX9_shortest 2 = .ok (.aload_n 2, 1) := by decide +kernel
theorem dX9_shortest_3 : decode cX9_shortest 3 = .ok (.iload_n 3, 1) := by decide +kernel
theorem dX9_shortest_4 : decode cX9_shortest 4 = .ok (.invokevirtual 33, 3) := by decide +kernel
theorem dX9_shortest_7 : decode cX9_shortest 7 = .ok (.istore 4, 2) := by decide +kernel
theorem dX9_shortest_9 : decode cX9_shortest 9 = .ok (.iload 4, 2) := by decide +kernel
theorem dX9_shortest_11 : decode cX9_shortest 11 = .ok (.bipush 24, 2) := by decide +kernel
theorem dX9_shortest_13 : decode cX9_shortest 13 = .ok (.iload 4, 2) := by decide +kernel
theorem dX9_shortest_15 : decode cX9_shortest 15 = .ok (.isub, 1) := by decide +kernel
theorem dX9_shortest_16 : decode cX9_shortest 16 = .ok (.invokestatic 37, 3) := by decide +kernel
theorem dX9_shortest_19 : decode cX9_shortest 19 = .ok (.istore 5, 2) := by decide +kernel
theorem dX9_shortest_21 : decode cX9_shortest 21 = .ok (.iload 5, 2) := by decide +kernel
theorem dX9_shortest_23 : decode cX9_shortest 23 = .ok (.aload_n 2, 1) := by decide +kernel
theorem dX9_shortest_24 : decode cX9_shortest 24 = .ok (.getfield 19, 3) := by decide +kernel
theorem dX9_shortest_27 : decode cX9_shortest 27 = .ok (.iload_n 3, 1) := by decide +kernel
theorem dX9_shortest_28 : decode cX9_shortest 28 = .ok (.iaload, 1) := by decide +kernel
theorem dX9_shortest_29 : decode cX9_shortest 29 = .ok (.aload_n 0, 1) := by decide +kernel
theorem dX9_shortest_30 : decode cX9_shortest 30 = .ok (.getfield 19, 3) := by decide +kernel
theorem dX9_shortest_33 : decode cX9_shortest 33 = .ok (.iload_n 1, 1) := by decide +kernel
theorem dX9_shortest_34 : decode cX9_shortest 34 = .ok (.iaload, 1) := by decide +kernel
theorem dX9_shortest_35 : decode cX9_shortest 35 = .ok (.isub, 1) := by decide +kernel
theorem dX9_shortest_36 : decode cX9_shortest 36 = .ok (.invokestatic 43, 3) := by decide +kernel
theorem dX9_shortest_39 : decode cX9_shortest 39 = .ok (.iadd, 1) := by decide +kernel
theorem dX9_shortest_40 : decode cX9_shortest 40 = .ok (.istore 6, 2) := by decide +kernel
theorem dX9_shortest_42 : decode cX9_shortest 42 = .ok (.bipush 13, 2) := by decide +kernel
theorem dX9_shortest_44 : decode cX9_shortest 44 = .ok (.iload 5, 2) := by decide +kernel
theorem dX9_shortest_46 : decode cX9_shortest 46 = .ok (.isub, 1) := by decide +kernel
theorem dX9_shortest_47 : decode cX9_shortest 47 = .ok (.istore 7, 2) := by decide +kernel
theorem dX9_shortest_49 : decode cX9_shortest 49 = .ok (.aload_n 0, 1) := by decide +kernel
theorem dX9_shortest_50 : decode cX9_shortest 50 = .ok (.getfield 19, 3) := by decide +kernel
theorem dX9_shortest_53 : decode cX9_shortest 53 = .ok (.iload_n 1, 1) := by decide +kernel
theorem dX9_shortest_54 : decode cX9_shortest 54 = .ok (.iaload, 1) := by decide +kernel
theorem dX9_shortest_55 : decode cX9_shortest 55 = .ok (.aload_n 2, 1) := by decide +kernel
theorem dX9_shortest_56 : decode cX9_shortest 56 = .ok (.getfield 19, 3) := by decide +kernel
theorem dX9_shortest_59 : decode cX9_shortest 59 = .ok (.iload_n 3, 1) := by decide +kernel
theorem dX9_shortest_60 : decode cX9_shortest 60 = .ok (.iaload, 1) := by decide +kernel
theorem dX9_shortest_61 : decode cX9_shortest 61 = .ok (.iadd, 1) := by decide +kernel
theorem dX9_shortest_62 : decode cX9_shortest 62 = .ok (.istore 8, 2) := by decide +kernel
theorem dX9_shortest_64 : decode cX9_shortest 64 = .ok (.iload 8, 2) := by decide +kernel
theorem dX9_shortest_66 : decode cX9_shortest 66 = .ok (.iload 7, 2) := by decide +kernel
theorem dX9_shortest_68 : decode cX9_shortest 68 = .ok (.iadd, 1) := by decide +kernel
theorem dX9_shortest_69 : decode cX9_shortest 69 = .ok (.istore 9, 2) := by decide +kernel
theorem dX9_shortest_71 : decode cX9_shortest 71 = .ok (.bipush 12, 2) := by decide +kernel
theorem dX9_shortest_73 : decode cX9_shortest 73 = .ok (.iload 8, 2) := by decide +kernel
theorem dX9_shortest_75 : decode cX9_shortest 75 = .ok (.isub, 1) := by decide +kernel
theorem dX9_shortest_76 : decode cX9_shortest 76 = .ok (.iload 7, 2) := by decide +kernel
theorem dX9_shortest_78 : decode cX9_shortest 78 = .ok (.iadd, 1) := by decide +kernel
theorem dX9_shortest_79 : decode cX9_shortest 79 = .ok (.istore 10, 2) := by decide +kernel
theorem dX9_shortest_81 : decode cX9_shortest 81 = .ok (.iload 6, 2) := by decide +kernel
theorem dX9_shortest_83 : decode cX9_shortest 83 = .ok (.iconst 4, 1) := by decide +kernel
theorem dX9_shortest_84 : decode cX9_shortest 84 = .ok (.imul, 1) := by decide +kernel
theorem dX9_shortest_85 : decode cX9_shortest 85 = .ok (.iconst 0, 1) := by decide +kernel
theorem dX9_shortest_86 : decode cX9_shortest 86 = .ok (.iadd, 1) := by decide +kernel
theorem dX9_shortest_87 : decode cX9_shortest 87 = .ok (.iload 9, 2) := by decide +kernel
theorem dX9_shortest_89 : decode cX9_shortest 89 = .ok (.iconst 4, 1) := by decide +kernel
theorem dX9_shortest_90 : decode cX9_shortest 90 = .ok (.imul, 1) := by decide +kernel
theorem dX9_shortest_91 : decode cX9_shortest 91 = .ok (.iconst 1, 1) := by decide +kernel
theorem dX9_shortest_92 : decode cX9_shortest 92 = .ok (.iadd, 1) := by decide +kernel
theorem dX9_shortest_93 : decode cX9_shortest 93 = .ok (.iload 10, 2) := by decide +kernel
theorem dX9_shortest_95 : decode cX9_shortest 95 = .ok (.iconst 4, 1) := by decide +kernel
theorem dX9_shortest_96 : decode cX9_shortest 96 = .ok (.imul, 1) := by decide +kernel
theorem dX9_shortest_97 : decode cX9_shortest 97 = .ok (.iconst 2, 1) := by decide +kernel
theorem dX9_shortest_98 : decode cX9_shortest 98 = .ok (.iadd, 1) := by decide +kernel
theorem dX9_shortest_99 : decode cX9_shortest 99 = .ok (.invokestatic 37, 3) := by decide +kernel
theorem dX9_shortest_102 : decode cX9_shortest 102 = .ok (.invokestatic 37, 3) := by decide +kernel
theorem dX9_shortest_105 : decode cX9_shortest 105 = .ok (.ireturn, 1) := by decide +kernel
theorem dX9_lengthTo_0 : decode cX9_lengthTo 0 = .ok (.aload_n 0, 1) := by decide +kernel
theorem dX9_lengthTo_1 : decode cX9_lengthTo 1 = .ok (.iload_n 1, 1) := by decide +kernel
theorem dX9_lengthTo_2 : decode cX9_lengthTo 2 = .ok (.aload_n 2, 1) := by decide +kernel
theorem dX9_lengthTo_3 : decode cX9_lengthTo 3 = .ok (.iload_n 3, 1) := by decide +kernel
theorem dX9_lengthTo_4 : decode cX9_lengthTo 4 = .ok (.invokevirtual 46, 3) := by decide +kernel
theorem dX9_lengthTo_7 : decode cX9_lengthTo 7 = .ok (.iconst 4, 1) := by decide +kernel
theorem dX9_lengthTo_8 : decode cX9_lengthTo 8 = .ok (.idiv, 1) := by decide +kernel
theorem dX9_lengthTo_9 : decode cX9_lengthTo 9 = .ok (.ireturn, 1) := by decide +kernel
theorem dX9_kindTo_0 : decode cX9_kindTo 0 = .ok (.aload_n 0, 1) := by decide +kernel
theorem dX9_kindTo_1 : decode cX9_kindTo 1 = .ok (.iload_n 1, 1) := by decide +kernel
theorem dX9_kindTo_2 : decode cX9_kindTo 2 = .ok (.aload_n 2, 1) := by decide +kernel
theorem dX9_kindTo_3 : decode cX9_kindTo 3 = .ok (.iload_n 3, 1) := by decide +kernel
theorem dX9_kindTo_4 : decode cX9_kindTo 4 = .ok (.invokevirtual 46, 3) := by decide +kernel
theorem dX9_kindTo_7 : decode cX9_kindTo 7 = .ok (.iconst 4, 1) := by decide +kernel
theorem dX9_kindTo_8 : decode cX9_kindTo 8 = .ok (.irem, 1) := by decide +kernel
theorem dX9_kindTo_9 : decode cX9_kindTo 9 = .ok (.ireturn, 1) := by decide +kernel
theorem dX9_farTo_0 : decode cX9_farTo 0 = .ok (.aload_n 0, 1) := by decide +kernel
theorem dX9_farTo_1 : decode cX9_farTo 1 = .ok (.iload_n 1, 1) := by decide +kernel
theorem dX9_farTo_2 : decode cX9_farTo 2 = .ok (.aload_n 2, 1) := by decide +kernel
theorem dX9_farTo_3 : decode cX9_farTo 3 = .ok (.iload_n 3, 1) := by decide +kernel
theorem dX9_farTo_4 : decode cX9_farTo 4 = .ok (.invokevirtual 46, 3) := by decide +kernel
theorem dX9_farTo_7 : decode cX9_farTo 7 = .ok (.iconst 4, 1) := by decide +kernel
theorem dX9_farTo_8 : decode cX9_farTo 8 = .ok (.idiv, 1) := by decide +kernel
theorem dX9_farTo_9 : decode cX9_farTo 9 = .ok (.iconst 5, 1) := by decide +kernel
theorem dX9_farTo_10 : decode cX9_farTo 10 = .ok (.idiv, 1) := by decide +kernel
theorem dX9_farTo_11 : decode cX9_farTo 11 = .ok (.iconst 4, 1) := by decide +kernel
theorem dX9_farTo_12 : decode cX9_farTo 12 = .ok (.invokestatic 37, 3) := by decide +kernel
theorem dX9_farTo_15 : decode cX9_farTo 15 = .ok (.ireturn, 1) := by decide +kernel
theorem dX9_aimTo_0 : decode cX9_aimTo 0 = .ok (.aload_n 0, 1) := by decide +kernel
theorem dX9_aimTo_1 : decode cX9_aimTo 1 = .ok (.iload_n 1, 1) := by decide +kernel
theorem dX9_aimTo_2 : decode cX9_aimTo 2 = .ok (.aload_n 2, 1) := by decide +kernel
theorem dX9_aimTo_3 : decode cX9_aimTo 3 = .ok (.iload_n 3, 1) := by decide +kernel
theorem dX9_aimTo_4 : decode cX9_aimTo 4 = .ok (.invokevirtual 49, 3) := by decide +kernel
theorem dX9_aimTo_7 : decode cX9_aimTo 7 = .ok (.istore 4, 2) := by decide +kernel
theorem dX9_aimTo_9 : decode cX9_aimTo 9 = .ok (.iload 4, 2) := by decide +kernel
theorem dX9_aimTo_11 : decode cX9_aimTo 11 = .ok (.iconst 1, 1) := by decide +kernel
theorem dX9_aimTo_12 : decode cX9_aimTo 12 = .ok (.if_icmp .ne 5, 3) := by decide +kernel
theorem dX9_aimTo_15 : decode cX9_aimTo 15 = .ok (.iconst 0, 1) := by decide +kernel
theorem dX9_aimTo_16 : decode cX9_aimTo 16 = .ok (.ireturn, 1) := by decide +kernel
theorem dX9_aimTo_17 : decode cX9_aimTo 17 = .ok (.iload 4, 2) := by decide +kernel
theorem dX9_aimTo_19 : decode cX9_aimTo 19 = .ok (.iconst 2, 1) := by decide +kernel
theorem dX9_aimTo_20 : decode cX9_aimTo 20 = .ok (.if_icmp .ne 5, 3) := by decide +kernel
theorem dX9_aimTo_23 : decode cX9_aimTo 23 = .ok (.iconst 4, 1) := by decide +kernel
theorem dX9_aimTo_24 : decode cX9_aimTo 24 = .ok (.ireturn, 1) := by decide +kernel
theorem dX9_aimTo_25 : decode cX9_aimTo 25 = .ok (.aload_n 0, 1) := by decide +kernel
theorem dX9_aimTo_26 : decode cX9_aimTo 26 = .ok (.iload_n 1, 1) := by decide +kernel
theorem dX9_aimTo_27 : decode cX9_aimTo 27 = .ok (.aload_n 2, 1) := by decide +kernel
theorem dX9_aimTo_28 : decode cX9_aimTo 28 = .ok (.iload_n 3, 1) := by decide +kernel
theorem dX9_aimTo_29 : decode cX9_aimTo 29 = .ok (.invokevirtual 33, 3) := by decide +kernel
theorem dX9_aimTo_32 : decode cX9_aimTo 32 = .ok (.istore 5, 2) := by decide +kernel
theorem dX9_aimTo_34 : decode cX9_aimTo 34 = .ok (.iload 5, 2) := by decide +kernel
theorem dX9_aimTo_36 : decode cX9_aimTo 36 = .ok (.ifCond .ne 7, 3) := by decide +kernel
theorem dX9_aimTo_39 : decode cX9_aimTo 39 = .ok (.iconst 0, 1) := by decide +kernel
theorem dX9_aimTo_40 : decode cX9_aimTo 40 = .ok (.goto 15, 3) := by decide +kernel
theorem dX9_aimTo_43 : decode cX9_aimTo 43 = .ok (.iload 5, 2) := by decide +kernel
theorem dX9_aimTo_45 : decode cX9_aimTo 45 = .ok (.bipush 12, 2) := by decide +kernel
theorem dX9_aimTo_47 : decode cX9_aimTo 47 = .ok (.if_icmp .gt 7, 3) := by decide +kernel
theorem dX9_aimTo_50 : decode cX9_aimTo 50 = .ok (.iconst 1, 1) := by decide +kernel
theorem dX9_aimTo_51 : decode cX9_aimTo 51 = .ok (.goto 4, 3) := by decide +kernel
theorem dX9_aimTo_54 : decode cX9_aimTo 54 = .ok (.iconst (-1), 1) := by decide +kernel
theorem dX9_aimTo_55 : decode cX9_aimTo 55 = .ok (.istore 6, 2) := by decide +kernel
theorem dX9_aimTo_57 : decode cX9_aimTo 57 = .ok (.aload_n 2, 1) := by decide +kernel
theorem dX9_aimTo_58 : decode cX9_aimTo 58 = .ok (.getfield 19, 3) := by decide +kernel
theorem dX9_aimTo_61 : decode cX9_aimTo 61 = .ok (.iload_n 3, 1) := by decide +kernel
theorem dX9_aimTo_62 : decode cX9_aimTo 62 = .ok (.iaload, 1) := by decide +kernel
theorem dX9_aimTo_63 : decode cX9_aimTo 63 = .ok (.aload_n 0, 1) := by decide +kernel
theorem dX9_aimTo_64 : decode cX9_aimTo 64 = .ok (.getfield 19, 3) := by decide +kernel
theorem dX9_aimTo_67 : decode cX9_aimTo 67 = .ok (.iload_n 1, 1) := by decide +kernel
theorem dX9_aimTo_68 : decode cX9_aimTo 68 = .ok (.iaload, 1) := by decide +kernel
theorem dX9_aimTo_69 : decode cX9_aimTo 69 = .ok (.invokestatic 52, 3) := by decide +kernel
theorem dX9_aimTo_72 : decode cX9_aimTo 72 = .ok (.istore 7, 2) := by decide +kernel
theorem dX9_aimTo_74 : decode cX9_aimTo 74 = .ok (.getstatic 57, 3) := by decide +kernel
theorem dX9_aimTo_77 : decode cX9_aimTo 77 = .ok (.iload 7, 2) := by decide +kernel
theorem dX9_aimTo_79 : decode cX9_aimTo 79 = .ok (.iconst 1, 1) := by decide +kernel
theorem dX9_aimTo_80 : decode cX9_aimTo 80 = .ok (.iadd, 1) := by decide +kernel
theorem dX9_aimTo_81 : decode cX9_aimTo 81 = .ok (.iconst 3, 1) := by decide +kernel
theorem dX9_aimTo_82 : decode cX9_aimTo 82 = .ok (.imul, 1) := by decide +kernel
theorem dX9_aimTo_83 : decode cX9_aimTo 83 = .ok (.iload 6, 2) := by decide +kernel
theorem dX9_aimTo_85 : decode cX9_aimTo 85 = .ok (.iadd, 1) := by decide +kernel
theorem dX9_aimTo_86 : decode cX9_aimTo 86 = .ok (.iconst 1, 1) := by decide +kernel
theorem dX9_aimTo_87 : decode cX9_aimTo 87 = .ok (.iadd, 1) := by decide +kernel
theorem dX9_aimTo_88 : decode cX9_aimTo 88 = .ok (.iaload, 1) := by decide +kernel
theorem dX9_aimTo_89 : decode cX9_aimTo 89 = .ok (.ireturn, 1) := by decide +kernel
theorem dX10_init_0 : decode cX10_init 0 = .ok (.aload_n 0, 1) := by decide +kernel
theorem dX10_init_1 : decode cX10_init 1 = .ok (.invokespecial 3, 3) := by decide +kernel
theorem dX10_init_4 : decode cX10_init 4 = .ok (.aload_n 0, 1) := by decide +kernel
theorem dX10_init_5 : decode cX10_init 5 = .ok (.bipush 20, 2) := by decide +kernel
theorem dX10_init_7 : decode cX10_init 7 = .ok (.newarray .boolean, 2) := by decide +kernel
theorem dX10_init_9 : decode cX10_init 9 = .ok (.putfield 9, 3) := by decide +kernel
theorem dX10_init_12 : decode cX10_init 12 = .ok (.aload_n 0, 1) := by decide +kernel
theorem dX10_init_13 : decode cX10_init 13 = .ok (.bipush 20, 2) := by decide +kernel
theorem dX10_init_15 : decode cX10_init 15 = .ok (.newarray .int, 2) := by decide +kernel
theorem dX10_init_17 : decode cX10_init 17 = .ok (.putfield 15, 3) := by decide +kernel
theorem dX10_init_20 : decode cX10_init 20 = .ok (.aload_n 0, 1) := by decide +kernel
theorem dX10_init_21 : decode cX10_init 21 = .ok (.bipush 20, 2) := by decide +kernel
theorem dX10_init_23 : decode cX10_init 23 = .ok (.newarray .int, 2) := by decide +kernel
theorem dX10_init_25 : decode cX10_init 25 = .ok (.putfield 19, 3) := by decide +kernel
theorem dX10_init_28 : decode cX10_init 28 = .ok (.aload_n 0, 1) := by decide +kernel
theorem dX10_init_29 : decode cX10_init 29 = .ok (.bipush 20, 2) := by decide +kernel
theorem dX10_init_31 : decode cX10_init 31 = .ok (.newarray .int, 2) := by decide +kernel
theorem dX10_init_33 : decode cX10_init 33 = .ok (.putfield 22, 3) := by decide +kernel
theorem dX10_init_36 : decode cX10_init 36 = .ok (.aload_n 0, 1) := by decide +kernel
theorem dX10_init_37 : decode cX10_init 37 = .ok (.sipush 400, 3) := by decide +kernel
theorem dX10_init_40 : decode cX10_init 40 = .ok (.newarray .int, 2) := by decide +kernel
theorem dX10_init_42 : decode cX10_init 42 = .ok (.putfield 25, 3) := by decide +kernel
theorem dX10_init_45 : decode cX10_init 45 = .ok (.aload_n 0, 1) := by decide +kernel
theorem dX10_init_46 : decode cX10_init 46 = .ok (.sipush 400, 3) := by decide +kernel
theorem dX10_init_49 : decode cX10_init 49 = .ok (.newarray .int, 2) := by decide +kernel
theorem dX10_init_51 : decode cX10_init 51 = .ok (.putfield 28, 3) := by decide +kernel
theorem dX10_init_54 : decode cX10_init 54 = .ok (.aload_n 0, 1) := by decide +kernel
theorem dX10_init_55 : decode cX10_init 55 = .ok (.bipush 16, 2) := by decide +kernel
theorem dX10_init_57 : decode cX10_init 57 = .ok (.newarray .int, 2) := by decide +kernel
theorem dX10_init_59 : decode cX10_init 59 = .ok (.putfield 31, 3) := by decide +kernel
theorem dX10_init_62 : decode cX10_init 62 = .ok (.aload_n 0, 1) := by decide +kernel
theorem dX10_init_63 : decode cX10_init 63 = .ok (.iconst 0, 1) := by decide +kernel
theorem dX10_init_64 : decode cX10_init 64 = .ok (.putfield 34, 3) := by decide +kernel
theorem dX10_init_67 : decode cX10_init 67 = .ok (.aload_n 0, 1) := by decide +kernel
theorem dX10_init_68 : decode cX10_init 68 = .ok (.iconst 0, 1) := by decide +kernel
theorem dX10_init_69 : decode cX10_init 69 = .ok (.putfield 38, 3) := by decide +kernel
theorem dX10_init_72 : decode cX10_init 72 = .ok (.return_, 1) := by decide +kernel
theorem dX10_renew_0 : decode cX10_renew 0 = .ok (.aload_n 0, 1) := by decide +kernel
theorem dX10_renew_1 : decode cX10_renew 1 = .ok (.iconst 0, 1) := by decide +kernel
theorem dX10_renew_2 : decode cX10_renew 2 = .ok (.putfield 38, 3) := by decide +kernel
theorem dX10_renew_5 : decode cX10_renew 5 = .ok (.aload_n 0, 1) := by decide +kernel
theorem dX10_renew_6 : decode cX10_renew 6 = .ok (.iconst 0, 1) := by decide +kernel
theorem dX10_renew_7 : decode cX10_renew 7 = .ok (.putfield 34, 3) := by decide +kernel
theorem dX10_renew_10 : decode cX10_renew 10 = .ok (.return_, 1) := by decide +kernel
theorem dX10_addStep_0 : decode cX10_addStep 0 = .ok (.aload_n 0, 1) := by decide +kernel
theorem dX10_addStep_1 : decode cX10_addStep 1 = .ok (.getfield 34, 3) := by decide +kernel
theorem dX10_addStep_4 : decode cX10_addStep 4 = .ok (.sipush 400, 3) := by decide +kernel
theorem dX10_addStep_7 : decode cX10_addStep 7 = .ok (.if_icmp .ge 33, 3) := by decide +kernel
theorem dX10_addStep_10 : decode cX10_addStep 10 = .ok (.aload_n 0, 1) := by decide +kernel
theorem dX10_addStep_11 : decode cX10_addStep 11 = .ok (.getfield 25, 3) := by decide +kernel
theorem dX10_addStep_14 : decode cX10_addStep 14 = .ok (.aload_n 0, 1) := by decide +kernel
theorem dX10_addStep_15 : decode cX10_addStep 15 = .ok (.getfield 34, 3) := by decide +kernel
theorem dX10_addStep_18 : decode cX10_addStep 18 = .ok (.iload_n 1, 1) := by decide +kernel
theorem dX10_addStep_19 : decode cX10_addStep 19 = .ok (.iastore, 1) := by decide +kernel
theorem dX10_addStep_20 : decode cX10_addStep 20 = .ok (.aload_n 0, 1) := by decide +kernel
theorem dX10_addStep_21 : decode cX10_addStep 21 = .ok (.getfield 28, 3) := by decide +kernel
theorem dX10_addStep_24 : decode cX10_addStep 24 = .ok (.aload_n 0, 1) := by decide +kernel
theorem dX10_addStep_25 : decode cX10_addStep 25 = .ok (.getfield 34, 3) := by decide +kernel
theorem dX10_addStep_28 : decode cX10_addStep 28 = .ok (.iload_n 2, 1) := by decide +kernel
theorem dX10_addStep_29 : decode cX10_addStep 29 = .ok (.iastore, 1) := by decide +kernel
theorem dX10_addStep_30 : decode cX10_addStep 30 = .ok (.aload_n 0, 1) := by decide +kernel
theorem dX10_addStep_31 : decode cX10_addStep 31 = .ok (.dup, 1) := by decide +kernel
theorem dX10_addStep_32 : decode cX10_addStep 32 = .ok (.getfield 34, 3) := by decide +kernel
theorem dX10_addStep_35 : decode cX10_addStep 35 = .ok (.iconst 1, 1) := by decide +kernel
theorem dX10_addStep_36 : decode cX10_addStep 36 = .ok (.iadd, 1) := by decide +kernel
theorem dX10_addStep_37 : decode cX10_addStep 37 = .ok (.putfield 34, 3) := by decide +kernel
theorem dX10_addStep_40 : decode cX10_addStep 40 = .ok (.return_, 1) := by decide +kernel
theorem dX10_addRule_0 : decode cX10_addRule 0 = .ok (.aload_n 0, 1) := by decide +kernel
theorem dX10_addRule_1 : decode cX10_addRule 1 = .ok (.getfield 38, 3) := by decide +kernel
theorem dX10_addRule_4 : decode cX10_addRule 4 = .ok (.bipush 20, 2) := by decide +kernel
theorem dX10_addRule_6 : decode cX10_addRule 6 = .ok (.if_icmp .ge 56, 3) := by decide +kernel
theorem dX10_addRule_9 : decode cX10_addRule 9 = .ok (.aload_n 0, 1) := by decide +kernel
theorem dX10_addRule_10 : decode cX10_addRule 10 = .ok (.getfield 9, 3) := by decide +kernel
theorem dX10_addRule_13 : decode cX10_addRule 13 = .ok (.aload_n 0, 1) := by decide +kernel
theorem dX10_addRule_14 : decode cX10_addRule 14 = .ok (.getfield 38, 3) := by decide +kernel
theorem dX10_addRule_17 : decode cX10_addRule 17 = .ok (.iload_n 1, 1) := by decide +kernel
theorem dX10_addRule_18 : decode cX10_addRule 18 = .ok (.bastore, 1) := by decide +kernel
theorem dX10_addRule_19 : decode cX10_addRule 19 = .ok (.aload_n 0, 1) := by decide +kernel
theorem dX10_addRule_20 : decode cX10_addRule 20 = .ok (.getfield 15, 3) := by decide +kernel
theorem dX10_addRule_23 : decode cX10_addRule 23 = .ok (.aload_n 0, 1) := by decide +kernel
theorem dX10_addRule_24 : decode cX10_addRule 24 = .ok (.getfield 38, 3) := by decide +kernel
theorem dX10_addRule_27 : decode cX10_addRule 27 = .ok (.iload_n 2, 1) := by decide +kernel
theorem dX10_addRule_28 : decode cX10_addRule 28 = .ok (.iastore, 1) := by decide +kernel
theorem dX10_addRule_29 : decode cX10_addRule 29 = .ok (.aload_n 0, 1) := by decide +kernel
theorem dX10_addRule_30 : decode cX10_addRule 30 = .ok (.getfield 19, 3) := by decide +kernel
theorem dX10_addRule_33 : decode cX10_addRule 33 = .ok (.aload_n 0, 1) := by decide +kernel
theorem dX10_addRule_34 : decode cX10_addRule 34 = .ok (.getfield 38, 3) := by decide +kernel
theorem dX10_addRule_37 : decode cX10_addRule 37 = .ok (.iload_n 3, 1) := by decide +kernel
theorem dX10_addRule_38 : decode cX10_addRule 38 = .ok (.iastore, 1) := by decide +kernel
theorem dX10_addRule_39 : decode cX10_addRule 39 = .ok (.aload_n 0, 1) := by decide +kernel
theorem dX10_addRule_40 : decode cX10_addRule 40 = .ok (.getfield 22, 3) := by decide +kernel
theorem dX10_addRule_43 : decode cX10_addRule 43 = .ok (.aload_n 0, 1) := by decide +kernel
theorem dX10_addRule_44 : decode cX10_addRule 44 = .ok (.getfield 38, 3) := by decide +kernel
theorem dX10_addRule_47 : decode cX10_addRule 47 = .ok (.aload_n 0, 1) := by decide +kernel
theorem dX10_addRule_48 : decode cX10_addRule 48 = .ok (.getfield 34, 3) := by decide +kernel
theorem dX10_addRule_51 : decode cX10_addRule 51 = .ok (.iastore, 1) := by decide +kernel
theorem dX10_addRule_52 : decode cX10_addRule 52 = .ok (.aload_n 0, 1) := by decide +kernel
theorem dX10_addRule_53 : decode cX10_addRule 53 = .ok (.dup, 1) := by decide +kernel
theorem dX10_addRule_54 : decode cX10_addRule 54 = .ok (.getfield 38, 3) := by decide +kernel
theorem dX10_addRule_57 : decode cX10_addRule 57 = .ok (.iconst 1, 1) := by decide +kernel
theorem dX10_addRule_58 : decode cX10_addRule 58 = .ok (.iadd, 1) := by decide +kernel
theorem dX10_addRule_59 : decode cX10_addRule 59 = .ok (.putfield 38, 3) := by decide +kernel
theorem dX10_addRule_62 : decode cX10_addRule 62 = .ok (.return_, 1) := by decide +kernel
theorem dX10_weYieldBy_0 : decode cX10_weYieldBy 0 = .ok (.iload_n 1, 1) := by decide +kernel
theorem dX10_weYieldBy_1 : decode cX10_weYieldBy 1 = .ok (.ifCond .lt 20, 3) := by decide +kernel
theorem dX10_weYieldBy_4 : decode cX10_weYieldBy 4 = .ok (.iload_n 1, 1) := by decide +kernel
theorem dX10_weYieldBy_5 : decode cX10_weYieldBy 5 = .ok (.aload_n 0, 1) := by decide +kernel
theorem dX10_weYieldBy_6 : decode cX10_weYieldBy 6 = .ok (.getfield 38, 3) := by decide +kernel
theorem dX10_weYieldBy_9 : decode cX10_weYieldBy 9 = .ok (.if_icmp .ge 12, 3) := by decide +kernel
theorem dX10_weYieldBy_12 : decode cX10_weYieldBy 12 = .ok (.aload_n 0, 1) := by decide +kernel
theorem dX10_weYieldBy_13 : decode cX10_weYieldBy 13 = .ok (.getfield 9, 3) := by decide +kernel
theorem dX10_weYieldBy_16 : decode cX10_weYieldBy 16 = .ok (.iload_n 1, 1) := by decide +kernel
theorem dX10_weYieldBy_17 : decode cX10_weYieldBy 17 = .ok (.baload, 1) := by decide +kernel
theorem dX10_weYieldBy_18 : decode cX10_weYieldBy 18 = .ok (.ifCond .ne 7, 3) := by decide +kernel
theorem dX10_weYieldBy_21 : decode cX10_weYieldBy 21 = .ok (.iconst 1, 1) := by decide +kernel
theorem dX10_weYieldBy_22 : decode cX10_weYieldBy 22 = .ok (.goto 4, 3) := by decide +kernel
theorem dX10_weYieldBy_25 : decode cX10_weYieldBy 25 = .ok (.iconst 0, 1) := by decide +kernel
theorem dX10_weYieldBy_26 : decode cX10_weYieldBy 26 = .ok (.ireturn, 1) := by decide +kernel
theorem dX10_firstHolding_0 : decode cX10_firstHolding 0 = .ok (.iconst 0, 1) := by decide +kernel
theorem dX10_firstHolding_1 : decode cX10_firstHolding 1 = .ok (.istore_n 3, 1) := by decide +kernel
theorem dX10_firstHolding_2 : decode cX10_firstHolding 2 = .ok (.iload_n 3, 1) := by decide +kernel
theorem dX10_firstHolding_3 : decode cX10_firstHolding 3 = .ok (.aload_n 0, 1) := by decide +kernel
theorem dX10_firstHolding_4 : decode cX10_firstHolding 4 = .ok (.getfield 38, 3) := by decide +kernel
theorem dX10_firstHolding_7 : decode cX10_firstHolding 7 = .ok (.if_icmp .ge 40, 3) := by decide +kernel
theorem dX10_firstHolding_10 : decode cX10_firstHolding 10 = .ok (.iload_n 1, 1) := by decide +kernel
theorem dX10_firstHolding_11 : decode cX10_firstHolding 11 = .ok (.aload_n 0, 1) := by decide +kernel
theorem dX10_firstHolding_12 : decode cX10_firstHolding 12 = .ok (.getfield 15, 3) := by decide +kernel
theorem dX10_firstHolding_15 : decode cX10_firstHolding 15 = .ok (.iload_n 3, 1) := by decide +kernel
theorem dX10_firstHolding_16 : decode cX10_firstHolding 16 = .ok (.iaload, 1) := by decide +kernel
theorem dX10_firstHolding_17 : decode cX10_firstHolding 17 = .ok (.if_icmp .lt 24, 3) := by decide +kernel
theorem dX10_firstHolding_20 : decode cX10_firstHolding 20 = .ok (.iload_n 1, 1) := by decide +kernel
theorem dX10_firstHolding_21 : decode cX10_firstHolding 21 = .ok (.aload_n 0, 1) := by decide +kernel
theorem dX10_firstHolding_22 : decode cX10_firstHolding 22 = .ok (.getfield 19, 3) := by decide +kernel
theorem dX10_firstHolding_25 : decode cX10_firstHolding 25 = .ok (.iload_n 3, 1) := by decide +kernel
theorem dX10_firstHolding_26 : decode cX10_firstHolding 26 = .ok (.iaload, 1) := by decide +kernel
theorem dX10_firstHolding_27 : decode cX10_firstHolding 27 = .ok (.if_icmp .ge 14, 3) := by decide +kernel
theorem dX10_firstHolding_30 : decode cX10_firstHolding 30 = .ok (.aload_n 0, 1) := by decide +kernel
theorem dX10_firstHolding_31 : decode cX10_firstHolding 31 = .ok (.iload_n 3, 1) := by decide +kernel
theorem dX10_firstHolding_32 : decode cX10_firstHolding 32 = .ok (.aload_n 2, 1) := by decide +kernel
theorem dX10_firstHolding_33 : decode cX10_firstHolding 33 = .ok (.invokevirtual 41, 3) := by decide +kernel
theorem dX10_firstHolding_36 : decode cX10_firstHolding 36 = .ok (.ifCond .eq 5, 3) := by decide +kernel
theorem dX10_firstHolding_39 : decode cX10_firstHolding 39 = .ok (.iload_n 3, 1) := by decide +kernel
theorem dX10_firstHolding_40 : decode cX10_firstHolding 40 = .ok (.ireturn, 1) := by decide +kernel
theorem dX10_firstHolding_41 : decode cX10_firstHolding 41 = .ok (.iinc 3 1, 3) := by decide +kernel
theorem dX10_firstHolding_44 : decode cX10_firstHolding 44 = .ok (.goto (-42), 3) := by decide +kernel
theorem dX10_firstHolding_47 : decode cX10_firstHolding 47 = .ok (.iconst (-1), 1) := by decide +kernel
theorem dX10_firstHolding_48 : decode cX10_firstHolding 48 = .ok (.ireturn, 1) := by decide +kernel
theorem dX10_relsHold_0 : decode cX10_relsHold 0 = .ok (.iconst 0, 1) := by decide +kernel
theorem dX10_relsHold_1 : decode cX10_relsHold 1 = .ok (.istore_n 3, 1) := by decide +kernel
theorem dX10_relsHold_2 : decode cX10_relsHold 2 = .ok (.iload_n 1, 1) := by decide +kernel
theorem dX10_relsHold_3 : decode cX10_relsHold 3 = .ok (.ifCond .ne 7, 3) := by decide +kernel
theorem dX10_relsHold_6 : decode cX10_relsHold 6 = .ok (.iconst 0, 1) := by decide +kernel
theorem dX10_relsHold_7 : decode cX10_relsHold 7 = .ok (.goto 11, 3) := by decide +kernel
theorem dX10_relsHold_10 : decode cX10_relsHold 10 = .ok (.aload_n 0, 1) := by decide +kernel
theorem dX10_relsHold_11 : decode cX10_relsHold 11 = .ok (.getfield 22, 3) := by decide +kernel
theorem dX10_relsHold_14 : decode cX10_relsHold 14 = .ok (.iload_n 1, 1) := by decide +kernel
theorem dX10_relsHold_15 : decode cX10_relsHold 15 = .ok (.iconst 1, 1) := by decide +kernel
theorem dX10_relsHold_16 : decode cX10_relsHold 16 = .ok (.isub, 1) := by decide +kernel
theorem dX10_relsHold_17 : decode cX10_relsHold 17 = .ok (.iaload, 1) := by decide +kernel
theorem dX10_relsHold_18 : decode cX10_relsHold 18 = .ok (.istore 4, 2) := by decide +kernel
theorem dX10_relsHold_20 : decode cX10_relsHold 20 = .ok (.iload 4, 2) := by decide +kernel
theorem dX10_relsHold_22 : decode cX10_relsHold 22 = .ok (.aload_n 0, 1) := by decide +kernel
theorem dX10_relsHold_23 : decode cX10_relsHold 23 = .ok (.getfield 22, 3) := by decide +kernel
theorem dX10_relsHold_26 : decode cX10_relsHold 26 = .ok (.iload_n 1, 1) := by decide +kernel
theorem dX10_relsHold_27 : decode cX10_relsHold 27 = .ok (.iaload, 1) := by decide +kernel
theorem dX10_relsHold_28 : decode cX10_relsHold 28 = .ok (.if_icmp .ge 145, 3) := by decide +kernel
theorem dX10_relsHold_31 : decode cX10_relsHold 31 = .ok (.aload_n 0, 1) := by decide +kernel
theorem dX10_relsHold_32 : decode cX10_relsHold 32 = .ok (.getfield 25, 3) := by decide +kernel
theorem dX10_relsHold_35 : decode cX10_relsHold 35 = .ok (.iload 4, 2) := by decide +kernel
theorem dX10_relsHold_37 : decode cX10_relsHold 37 = .ok (.iaload, 1) := by decide +kernel
theorem dX10_relsHold_38 : decode cX10_relsHold 38 = .ok (.istore 5, 2) := by decide +kernel
theorem dX10_relsHold_40 : decode cX10_relsHold 40 = .ok (.iload 5, 2) := by decide +kernel
theorem dX10_relsHold_42 : decode cX10_relsHold 42 = .ok (.iconst 2, 1) := by decide +kernel
theorem dX10_relsHold_43 : decode cX10_relsHold 43 = .ok (.if_icmp .eq 10, 3) := by decide +kernel
theorem dX10_relsHold_46 : decode cX10_relsHold 46 = .ok (.iload 5, 2) := by decide +kernel
theorem dX10_relsHold_48 : decode cX10_relsHold 48 = .ok (.bipush 20, 2) := by decide +kernel
theorem dX10_relsHold_50 : decode cX10_relsHold 50 = .ok (.if_icmp .lt 45, 3) := by decide +kernel
theorem dX10_relsHold_53 : decode cX10_relsHold 53 = .ok (.iload_n 3, 1) := by decide +kernel
theorem dX10_relsHold_54 : decode cX10_relsHold 54 = .ok (.bipush 16, 2) := by decide +kernel
theorem dX10_relsHold_56 : decode cX10_relsHold 56 = .ok (.if_icmp .lt 5, 3) := by decide +kernel
theorem dX10_relsHold_59 : decode cX10_relsHold 59 = .ok (.iconst 0, 1) := by decide +kernel
theorem dX10_relsHold_60 : decode cX10_relsHold 60 = .ok (.ireturn, 1) := by decide +kernel
theorem dX10_relsHold_61 : decode cX10_relsHold 61 = .ok (.aload_n 0, 1) := by decide +kernel
theorem dX10_relsHold_62 : decode cX10_relsHold 62 = .ok (.getfield 31, 3) := by decide +kernel
theorem dX10_relsHold_65 : decode cX10_relsHold 65 = .ok (.iload_n 3, 1) := by decide +kernel
theorem dX10_relsHold_66 : decode cX10_relsHold 66 = .ok (.iload 5, 2) := by decide +kernel
theorem dX10_relsHold_68 : decode cX10_relsHold 68 = .ok (.iconst 2, 1) := by decide +kernel
theorem dX10_relsHold_69 : decode cX10_relsHold 69 = .ok (.if_icmp .ne 13, 3) := by decide +kernel
theorem dX10_relsHold_72 : decode cX10_relsHold 72 = .ok (.aload_n 0, 1) := by decide +kernel
theorem dX10_relsHold_73 : decode cX10_relsHold 73 = .ok (.getfield 28, 3) := by decide +kernel
theorem dX10_relsHold_76 : decode cX10_relsHold 76 = .ok (.iload 4, 2) := by decide +kernel
theorem dX10_relsHold_78 : decode cX10_relsHold 78 = .ok (.iaload, 1) := by decide +kernel
theorem dX10_relsHold_79 : decode cX10_relsHold 79 = .ok (.goto 9, 3) := by decide +kernel
theorem dX10_relsHold_82 : decode cX10_relsHold 82 = .ok (.iload 5, 2) := by decide +kernel
theorem dX10_relsHold_84 : decode cX10_relsHold 84 = .ok (.aload_n 2, 1) := by decide +kernel
theorem dX10_relsHold_85 : decode cX10_relsHold 85 = .ok (.invokestatic 45, 3) := by decide +kernel
theorem dX10_relsHold_88 : decode cX10_relsHold 88 = .ok (.iastore, 1) := by decide +kernel
theorem dX10_relsHold_89 : decode cX10_relsHold 89 = .ok (.iinc 3 1, 3) := by decide +kernel
theorem dX10_relsHold_92 : decode cX10_relsHold 92 = .ok (.goto 75, 3) := by decide +kernel
theorem dX10_relsHold_95 : decode cX10_relsHold 95 = .ok (.iload_n 3, 1) := by decide +kernel
theorem dX10_relsHold_96 : decode cX10_relsHold 96 = .ok (.iconst 2, 1) := by decide +kernel
theorem dX10_relsHold_97 : decode cX10_relsHold 97 = .ok (.if_icmp .ge 5, 3) := by decide +kernel
theorem dX10_relsHold_100 : decode cX10_relsHold 100 = .ok (.iconst 0, 1) := by decide +kernel
theorem dX10_relsHold_101 : decode cX10_relsHold 101 = .ok (.ireturn, 1) := by decide +kernel
theorem dX10_relsHold_102 : decode cX10_relsHold 102 = .ok (.iinc 3 (-1), 3) := by decide +kernel
theorem dX10_relsHold_105 : decode cX10_relsHold 105 = .ok (.aload_n 0, 1) := by decide +kernel
theorem dX10_relsHold_106 : decode cX10_relsHold 106 = .ok (.getfield 31, 3) := by decide +kernel
theorem dX10_relsHold_109 : decode cX10_relsHold 109 = .ok (.iload_n 3, 1) := by decide +kernel
theorem dX10_relsHold_110 : decode cX10_relsHold 110 = .ok (.iaload, 1) := by decide +kernel
theorem dX10_relsHold_111 : decode cX10_relsHold 111 = .ok (.istore 6, 2) := by decide +kernel
theorem dX10_relsHold_113 : decode cX10_relsHold 113 = .ok (.aload_n 0, 1) := by decide +kernel
theorem dX10_relsHold_114 : decode cX10_relsHold 114 = .ok (.getfield 31, 3) := by decide +kernel
theorem dX10_relsHold_117 : decode cX10_relsHold 117 = .ok (.iload_n 3, 1) := by decide +kernel
theorem dX10_relsHold_118 : decode cX10_relsHold 118 = .ok (.iconst 1, 1) := by decide +kernel
theorem dX10_relsHold_119 : decode cX10_relsHold 119 = .ok (.isub, 1) := by decide +kernel
theorem dX10_relsHold_120 : decode cX10_relsHold 120 = .ok (.iaload, 1) := by decide +kernel
theorem dX10_relsHold_121 : decode cX10_relsHold 121 = .ok (.istore 7, 2) := by decide +kernel
theorem dX10_relsHold_123 : decode cX10_relsHold 123 = .ok (.iload 5, 2) := by decide +kernel
theorem dX10_relsHold_125 : decode cX10_relsHold 125 = .ok (.bipush 7, 2) := by decide +kernel
theorem dX10_relsHold_127 : decode cX10_relsHold 127 = .ok (.if_icmp .ge 23, 3) := by decide +kernel
theorem dX10_relsHold_130 : decode cX10_relsHold 130 = .ok (.aload_n 0, 1) := by decide +kernel
theorem dX10_relsHold_131 : decode cX10_relsHold 131 = .ok (.getfield 31, 3) := by decide +kernel
theorem dX10_relsHold_134 : decode cX10_relsHold 134 = .ok (.iload_n 3, 1) := by decide +kernel
theorem dX10_relsHold_135 : decode cX10_relsHold 135 = .ok (.iconst 1, 1) := by decide +kernel
theorem dX10_relsHold_136 : decode cX10_relsHold 136 = .ok (.isub, 1) := by decide +kernel
theorem dX10_relsHold_137 : decode cX10_relsHold 137 = .ok (.iload 5, 2) := by decide +kernel
theorem dX10_relsHold_139 : decode cX10_relsHold 139 = .ok (.iload 7, 2) := by decide +kernel
theorem dX10_relsHold_141 : decode cX10_relsHold 141 = .ok (.iload 6, 2) := by decide +kernel
theorem dX10_relsHold_143 : decode cX10_relsHold 143 = .ok (.invokestatic 49, 3) := by decide +kernel
theorem dX10_relsHold_146 : decode cX10_relsHold 146 = .ok (.iastore, 1) := by decide +kernel
theorem dX10_relsHold_147 : decode cX10_relsHold 147 = .ok (.goto 20, 3) := by decide +kernel
theorem dX10_relsHold_150 : decode cX10_relsHold 150 = .ok (.iinc 3 (-1), 3) := by decide +kernel
theorem dX10_relsHold_153 : decode cX10_relsHold 153 = .ok (.iload 5, 2) := by decide +kernel
theorem dX10_relsHold_155 : decode cX10_relsHold 155 = .ok (.iload 7, 2) := by decide +kernel
theorem dX10_relsHold_157 : decode cX10_relsHold 157 = .ok (.iload 6, 2) := by decide +kernel
theorem dX10_relsHold_159 : decode cX10_relsHold 159 = .ok (.invokestatic 53, 3) := by decide +kernel
theorem dX10_relsHold_162 : decode cX10_relsHold 162 = .ok (.ifCond .ne 5, 3) := by decide +kernel
theorem dX10_relsHold_165 : decode cX10_relsHold 165 = .ok (.iconst 0, 1) := by decide +kernel
theorem dX10_relsHold_166 : decode cX10_relsHold 166 = .ok (.ireturn, 1) := by decide +kernel
theorem dX10_relsHold_167 : decode cX10_relsHold 167 = .ok (.iinc 4 1, 3) := by decide +kernel
theorem dX10_relsHold_170 : decode cX10_relsHold 170 = .ok (.goto (-150), 3) := by decide +kernel
theorem dX10_relsHold_173 : decode cX10_relsHold 173 = .ok (.iconst 1, 1) := by decide +kernel
theorem dX10_relsHold_174 : decode cX10_relsHold 174 = .ok (.ireturn, 1) := by decide +kernel
theorem dX10_varOf_0 : decode cX10_varOf 0 = .ok (.iload_n 0, 1) := by decide +kernel
theorem dX10_varOf_1 : decode cX10_varOf 1 = .ok (.bipush 20, 2) := by decide +kernel
theorem dX10_varOf_3 : decode cX10_varOf 3 = .ok (.isub, 1) := by decide +kernel
theorem dX10_varOf_4 : decode cX10_varOf 4 = .ok (.istore_n 2, 1) := by decide +kernel
theorem dX10_varOf_5 : decode cX10_varOf 5 = .ok (.iload_n 2, 1) := by decide +kernel
theorem dX10_varOf_6 : decode cX10_varOf 6 = .ok (.ifCond .lt 15, 3) := by decide +kernel
theorem dX10_varOf_9 : decode cX10_varOf 9 = .ok (.iload_n 2, 1) := by decide +kernel
theorem dX10_varOf_10 : decode cX10_varOf 10 = .ok (.aload_n 1, 1) := by decide +kernel
theorem dX10_varOf_11 : decode cX10_varOf 11 = .ok (.arraylength, 1) := by decide +kernel
theorem dX10_varOf_12 : decode cX10_varOf 12 = .ok (.if_icmp .ge 9, 3) := by decide +kernel
theorem dX10_varOf_15 : decode cX10_varOf 15 = .ok (.aload_n 1, 1) := by decide +kernel
theorem dX10_varOf_16 : decode cX10_varOf 16 = .ok (.iload_n 2, 1) := by decide +kernel
theorem dX10_varOf_17 : decode cX10_varOf 17 = .ok (.iaload, 1) := by decide +kernel
theorem dX10_varOf_18 : decode cX10_varOf 18 = .ok (.goto 4, 3) := by decide +kernel
theorem dX10_varOf_21 : decode cX10_varOf 21 = .ok (.iconst 0, 1) := by decide +kernel
theorem dX10_varOf_22 : decode cX10_varOf 22 = .ok (.ireturn, 1) := by decide +kernel
theorem dX10_reckon_0 : decode cX10_reckon 0 = .ok (.iload_n 0, 1) := by decide +kernel
theorem dX10_reckon_1 : decode cX10_reckon 1 = .ok (.iconst 4, 1) := by decide +kernel
theorem dX10_reckon_2 : decode cX10_reckon 2 = .ok (.if_icmp .ne 7, 3) := by decide +kernel
theorem dX10_reckon_5 : decode cX10_reckon 5 = .ok (.iload_n 1, 1) := by decide +kernel
theorem dX10_reckon_6 : decode cX10_reckon 6 = .ok (.iload_n 2, 1) := by decide +kernel
theorem dX10_reckon_7 : decode cX10_reckon 7 = .ok (.iadd, 1) := by decide +kernel
theorem dX10_reckon_8 : decode cX10_reckon 8 = .ok (.ireturn, 1) := by decide +kernel
theorem dX10_reckon_9 : decode cX10_reckon 9 = .ok (.iload_n 0, 1) := by decide +kernel
theorem dX10_reckon_10 : decode cX10_reckon 10 = .ok (.iconst 5, 1) := by decide +kernel
theorem dX10_reckon_11 : decode cX10_reckon 11 = .ok (.if_icmp .ne 9, 3) := by decide +kernel
theorem dX10_reckon_14 : decode cX10_reckon 14 = .ok (.iload_n 1, 1) := by decide +kernel
theorem dX10_reckon_15 : decode cX10_reckon 15 = .ok (.iload_n 2, 1) := by decide +kernel
theorem dX10_reckon_16 : decode cX10_reckon 16 = .ok (.isub, 1) := by decide +kernel
theorem dX10_reckon_17 : decode cX10_reckon 17 = .ok (.goto 6, 3) := by decide +kernel
theorem dX10_reckon_20 : decode cX10_reckon 20 = .ok (.iload_n 1, 1) := by decide +kernel
theorem dX10_reckon_21 : decode cX10_reckon 21 = .ok (.iload_n 2, 1) := by decide +kernel
theorem dX10_reckon_22 : decode cX10_reckon 22 = .ok (.imul, 1) := by decide +kernel
theorem dX10_reckon_23 : decode cX10_reckon 23 = .ok (.ireturn, 1) := by decide +kernel
theorem dX10_compares_0 : decode cX10_compares 0 = .ok (.iload_n 0, 1) := by decide +kernel
theorem dX10_compares_1 : decode cX10_compares 1 = .ok (.tableswitch 60 7 9 #[27, 38, 49], 27) := by decide +kernel
theorem dX10_compares_28 : decode cX10_compares 28 = .ok (.iload_n 1, 1) := by decide +kernel
theorem dX10_compares_29 : decode cX10_compares 29 = .ok (.iload_n 2, 1) := by decide +kernel
theorem dX10_compares_30 : decode cX10_compares 30 = .ok (.if_icmp .ne 7, 3) := by decide +kernel
theorem dX10_compares_33 : decode cX10_compares 33 = .ok (.iconst 1, 1) := by decide +kernel
theorem dX10_compares_34 : decode cX10_compares 34 = .ok (.goto 4, 3) := by decide +kernel
theorem dX10_compares_37 : decode cX10_compares 37 = .ok (.iconst 0, 1) := by decide +kernel
theorem dX10_compares_38 : decode cX10_compares 38 = .ok (.ireturn, 1) := by decide +kernel
theorem dX10_compares_39 : decode cX10_compares 39 = .ok (.iload_n 1, 1) := by decide +kernel
theorem dX10_compares_40 : decode cX10_compares 40 = .ok (.iload_n 2, 1) := by decide +kernel
theorem dX10_compares_41 : decode cX10_compares 41 = .ok (.if_icmp .eq 7, 3) := by decide +kernel
theorem dX10_compares_44 : decode cX10_compares 44 = .ok (.iconst 1, 1) := by decide +kernel
theorem dX10_compares_45 : decode cX10_compares 45 = .ok (.goto 4, 3) := by decide +kernel
theorem dX10_compares_48 : decode cX10_compares 48 = .ok (.iconst 0, 1) := by decide +kernel
theorem dX10_compares_49 : decode cX10_compares 49 = .ok (.ireturn, 1) := by decide +kernel
theorem dX10_compares_50 : decode cX10_compares 50 = .ok (.iload_n 1, 1) := by decide +kernel
theorem dX10_compares_51 : decode cX10_compares 51 = .ok (.iload_n 2, 1) := by decide +kernel
theorem dX10_compares_52 : decode cX10_compares 52 = .ok (.if_icmp .ge 7, 3) := by decide +kernel
theorem dX10_compares_55 : decode cX10_compares 55 = .ok (.iconst 1, 1) := by decide +kernel
theorem dX10_compares_56 : decode cX10_compares 56 = .ok (.goto 4, 3) := by decide +kernel
theorem dX10_compares_59 : decode cX10_compares 59 = .ok (.iconst 0, 1) := by decide +kernel
theorem dX10_compares_60 : decode cX10_compares 60 = .ok (.ireturn, 1) := by decide +kernel
theorem dX10_compares_61 : decode cX10_compares 61 = .ok (.iload_n 1, 1) := by decide +kernel
theorem dX10_compares_62 : decode cX10_compares 62 = .ok (.iload_n 2, 1) := by decide +kernel
theorem dX10_compares_63 : decode cX10_compares 63 = .ok (.if_icmp .gt 7, 3) := by decide +kernel
theorem dX10_compares_66 : decode cX10_compares 66 = .ok (.iconst 1, 1) := by decide +kernel
theorem dX10_compares_67 : decode cX10_compares 67 = .ok (.goto 4, 3) := by decide +kernel
theorem dX10_compares_70 : decode cX10_compares 70 = .ok (.iconst 0, 1) := by decide +kernel
theorem dX10_compares_71 : decode cX10_compares 71 = .ok (.ireturn, 1) := by decide +kernel
theorem dJ0_length_8abf5_0 : decode cJ0_length_8abf5 0 = .ok (.aload_n 0, 1) := by decide +kernel
theorem dJ0_length_8abf5_1 : decode cJ0_length_8abf5 1 = .ok (.getfield 9, 3) := by decide +kernel
theorem dJ0_length_8abf5_4 : decode cJ0_length_8abf5 4 = .ok (.arraylength, 1) := by decide +kernel
theorem dJ0_length_8abf5_5 : decode cJ0_length_8abf5 5 = .ok (.aload_n 0, 1) := by decide +kernel
theorem dJ0_length_8abf5_6 : decode cJ0_length_8abf5 6 = .ok (.invokevirtual 335, 3) := by decide +kernel
theorem dJ0_length_8abf5_9 : decode cJ0_length_8abf5 9 = .ok (.ishr, 1) := by decide +kernel
theorem dJ0_length_8abf5_10 : decode cJ0_length_8abf5 10 = .ok (.ireturn, 1) := by decide +kernel
theorem dJ0_charAt_5068e_0 : decode cJ0_charAt_5068e 0 = .ok (.aload_n 0, 1) := by decide +kernel
theorem dJ0_charAt_5068e_1 : decode cJ0_charAt_5068e 1 = .ok (.invokevirtual 492, 3) := by decide +kernel
theorem dJ0_charAt_5068e_4 : decode cJ0_charAt_5068e 4 = .ok (.ifCond .eq 12, 3) := by decide +kernel
theorem dJ0_charAt_5068e_7 : decode cJ0_charAt_5068e 7 = .ok (.aload_n 0, 1) := by decide +kernel
theorem dJ0_charAt_5068e_8 : decode cJ0_charAt_5068e 8 = .ok (.getfield 9, 3) := by decide +kernel
theorem dJ0_charAt_5068e_11 : decode cJ0_charAt_5068e 11 = .ok (.iload_n 1, 1) := by decide +kernel
theorem dJ0_charAt_5068e_12 : decode cJ0_charAt_5068e 12 = .ok (.invokestatic 495, 3) := by decide +kernel
theorem dJ0_charAt_5068e_15 : decode cJ0_charAt_5068e 15 = .ok (.ireturn, 1) := by decide +kernel
theorem dJ0_charAt_5068e_16 : decode cJ0_charAt_5068e 16 = .ok (.aload_n 0, 1) := by decide +kernel
theorem dJ0_charAt_5068e_17 : decode cJ0_charAt_5068e 17 = .ok (.getfield 9, 3) := by decide +kernel
theorem dJ0_charAt_5068e_20 : decode cJ0_charAt_5068e 20 = .ok (.iload_n 1, 1) := by decide +kernel
theorem dJ0_charAt_5068e_21 : decode cJ0_charAt_5068e 21 = .ok (.invokestatic 498, 3) := by decide +kernel
theorem dJ0_charAt_5068e_24 : decode cJ0_charAt_5068e 24 = .ok (.ireturn, 1) := by decide +kernel
theorem dJ0_coder_7d493_0 : decode cJ0_coder_7d493 0 = .ok (.getstatic 38, 3) := by decide +kernel
theorem dJ0_coder_7d493_3 : decode cJ0_coder_7d493 3 = .ok (.ifCond .eq 10, 3) := by decide +kernel
theorem dJ0_coder_7d493_6 : decode cJ0_coder_7d493 6 = .ok (.aload_n 0, 1) := by decide +kernel
theorem dJ0_coder_7d493_7 : decode cJ0_coder_7d493 7 = .ok (.getfield 15, 3) := by decide +kernel
theorem dJ0_coder_7d493_10 : decode cJ0_coder_7d493 10 = .ok (.goto 4, 3) := by decide +kernel
theorem dJ0_coder_7d493_13 : decode cJ0_coder_7d493 13 = .ok (.iconst 1, 1) := by decide +kernel
theorem dJ0_coder_7d493_14 : decode cJ0_coder_7d493 14 = .ok (.ireturn, 1) := by decide +kernel
theorem dJ0_isLatin1_aae02_0 : decode cJ0_isLatin1_aae02 0 = .ok (.getstatic 38, 3) := by decide +kernel
theorem dJ0_isLatin1_aae02_3 : decode cJ0_isLatin1_aae02 3 = .ok (.ifCond .eq 14, 3) := by decide +kernel
theorem dJ0_isLatin1_aae02_6 : decode cJ0_isLatin1_aae02 6 = .ok (.aload_n 0, 1) := by decide +kernel
theorem dJ0_isLatin1_aae02_7 : decode cJ0_isLatin1_aae02 7 = .ok (.getfield 15, 3) := by decide +kernel
theorem dJ0_isLatin1_aae02_10 : decode cJ0_isLatin1_aae02 10 = .ok (.ifCond .ne 7, 3) := by decide +kernel
theorem dJ0_isLatin1_aae02_13 : decode cJ0_isLatin1_aae02 13 = .ok (.iconst 1, 1) := by decide +kernel
theorem dJ0_isLatin1_aae02_14 : decode cJ0_isLatin1_aae02 14 = .ok (.goto 4, 3) := by decide +kernel
theorem dJ0_isLatin1_aae02_17 : decode cJ0_isLatin1_aae02 17 = .ok (.iconst 0, 1) := by decide +kernel
theorem dJ0_isLatin1_aae02_18 : decode cJ0_isLatin1_aae02 18 = .ok (.ireturn, 1) := by decide +kernel
theorem dJ0_checkIndex_df160_0 : decode cJ0_checkIndex_df160 0 = .ok (.iload_n 0, 1) := by decide +kernel
theorem dJ0_checkIndex_df160_1 : decode cJ0_checkIndex_df160 1 = .ok (.iload_n 1, 1) := by decide +kernel
theorem dJ0_checkIndex_df160_2 : decode cJ0_checkIndex_df160 2 = .ok (.getstatic 1053, 3) := by decide +kernel
theorem dJ0_checkIndex_df160_5 : decode cJ0_checkIndex_df160 5 = .ok (.invokestatic 1059, 3) := by decide +kernel
theorem dJ0_checkIndex_df160_8 : decode cJ0_checkIndex_df160 8 = .ok (.pop, 1) := by decide +kernel
theorem dJ0_checkIndex_df160_9 : decode cJ0_checkIndex_df160 9 = .ok (.return_, 1) := by decide +kernel
theorem dJ1_charAt_3b067_0 : decode cJ1_charAt_3b067 0 = .ok (.iload_n 1, 1) := by decide +kernel
theorem dJ1_charAt_3b067_1 : decode cJ1_charAt_3b067 1 = .ok (.aload_n 0, 1) := by decide +kernel
theorem dJ1_charAt_3b067_2 : decode cJ1_charAt_3b067 2 = .ok (.arraylength, 1) := by decide +kernel
theorem dJ1_charAt_3b067_3 : decode cJ1_charAt_3b067 3 = .ok (.invokestatic 9, 3) := by decide +kernel
theorem dJ1_charAt_3b067_6 : decode cJ1_charAt_3b067 6 = .ok (.aload_n 0, 1) := by decide +kernel
theorem dJ1_charAt_3b067_7 : decode cJ1_charAt_3b067 7 = .ok (.iload_n 1, 1) := by decide +kernel
theorem dJ1_charAt_3b067_8 : decode cJ1_charAt_3b067 8 = .ok (.baload, 1) := by decide +kernel
theorem dJ1_charAt_3b067_9 : decode cJ1_charAt_3b067 9 = .ok (.sipush 255, 3) := by decide +kernel
theorem dJ1_charAt_3b067_12 : decode cJ1_charAt_3b067 12 = .ok (.iand, 1) := by decide +kernel
theorem dJ1_charAt_3b067_13 : decode cJ1_charAt_3b067 13 = .ok (.i2c, 1) := by decide +kernel
theorem dJ1_charAt_3b067_14 : decode cJ1_charAt_3b067 14 = .ok (.ireturn, 1) := by decide +kernel
theorem dJ2_getChar_3b067_0 : decode cJ2_getChar_3b067 0 = .ok (.getstatic 44, 3) := by decide +kernel
theorem dJ2_getChar_3b067_3 : decode cJ2_getChar_3b067 3 = .ok (.ifCond .ne 25, 3) := by decide +kernel
theorem dJ2_getChar_3b067_6 : decode cJ2_getChar_3b067 6 = .ok (.iload_n 1, 1) := by decide +kernel
theorem dJ2_getChar_3b067_7 : decode cJ2_getChar_3b067 7 = .ok (.ifCond .lt 11, 3) := by decide +kernel
theorem dJ2_getChar_3b067_10 : decode cJ2_getChar_3b067 10 = .ok (.iload_n 1, 1) := by decide +kernel
theorem dJ2_getChar_3b067_11 : decode cJ2_getChar_3b067 11 = .ok (.aload_n 0, 1) := by decide +kernel
theorem dJ2_getChar_3b067_12 : decode cJ2_getChar_3b067 12 = .ok (.invokestatic 48, 3) := by decide +kernel
theorem dJ2_getChar_3b067_15 : decode cJ2_getChar_3b067 15 = .ok (.if_icmp .lt 13, 3) := by decide +kernel
theorem dJ2_getChar_3b067_18 : decode cJ2_getChar_3b067 18 = .ok (.new 52, 3) := by decide +kernel
theorem dJ2_getChar_3b067_21 : decode cJ2_getChar_3b067 21 = .ok (.dup, 1) := by decide +kernel
theorem dJ2_getChar_3b067_22 : decode cJ2_getChar_3b067 22 = .ok (.ldc 54, 2) := by decide +kernel
theorem dJ2_getChar_3b067_24 : decode cJ2_getChar_3b067 24 = .ok (.invokespecial 56, 3) := by decide +kernel
theorem dJ2_getChar_3b067_27 : decode cJ2_getChar_3b067 27 = .ok (.athrow, 1) := by decide +kernel
theorem dJ2_getChar_3b067_28 : decode cJ2_getChar_3b067 28 = .ok (.iload_n 1, 1) := by decide +kernel
theorem dJ2_getChar_3b067_29 : decode cJ2_getChar_3b067 29 = .ok (.iconst 1, 1) := by decide +kernel
theorem dJ2_getChar_3b067_30 : decode cJ2_getChar_3b067 30 = .ok (.ishl, 1) := by decide +kernel
theorem dJ2_getChar_3b067_31 : decode cJ2_getChar_3b067 31 = .ok (.istore_n 1, 1) := by decide +kernel
theorem dJ2_getChar_3b067_32 : decode cJ2_getChar_3b067 32 = .ok (.aload_n 0, 1) := by decide +kernel
theorem dJ2_getChar_3b067_33 : decode cJ2_getChar_3b067 33 = .ok (.iload_n 1, 1) := by decide +kernel
theorem dJ2_getChar_3b067_34 : decode cJ2_getChar_3b067 34 = .ok (.iinc 1 1, 3) := by decide +kernel
theorem dJ2_getChar_3b067_37 : decode cJ2_getChar_3b067 37 = .ok (.baload, 1) := by decide +kernel
theorem dJ2_getChar_3b067_38 : decode cJ2_getChar_3b067 38 = .ok (.sipush 255, 3) := by decide +kernel
theorem dJ2_getChar_3b067_41 : decode cJ2_getChar_3b067 41 = .ok (.iand, 1) := by decide +kernel
theorem dJ2_getChar_3b067_42 : decode cJ2_getChar_3b067 42 = .ok (.getstatic 59, 3) := by decide +kernel
theorem dJ2_getChar_3b067_45 : decode cJ2_getChar_3b067 45 = .ok (.ishl, 1) := by decide +kernel
theorem dJ2_getChar_3b067_46 : decode cJ2_getChar_3b067 46 = .ok (.aload_n 0, 1) := by decide +kernel
theorem dJ2_getChar_3b067_47 : decode cJ2_getChar_3b067 47 = .ok (.iload_n 1, 1) := by decide +kernel
theorem dJ2_getChar_3b067_48 : decode cJ2_getChar_3b067 48 = .ok (.baload, 1) := by decide +kernel
theorem dJ2_getChar_3b067_49 : decode cJ2_getChar_3b067 49 = .ok (.sipush 255, 3) := by decide +kernel
theorem dJ2_getChar_3b067_52 : decode cJ2_getChar_3b067 52 = .ok (.iand, 1) := by decide +kernel
theorem dJ2_getChar_3b067_53 : decode cJ2_getChar_3b067 53 = .ok (.getstatic 63, 3) := by decide +kernel
theorem dJ2_getChar_3b067_56 : decode cJ2_getChar_3b067 56 = .ok (.ishl, 1) := by decide +kernel
theorem dJ2_getChar_3b067_57 : decode cJ2_getChar_3b067 57 = .ok (.ior, 1) := by decide +kernel
theorem dJ2_getChar_3b067_58 : decode cJ2_getChar_3b067 58 = .ok (.i2c, 1) := by decide +kernel
theorem dJ2_getChar_3b067_59 : decode cJ2_getChar_3b067 59 = .ok (.ireturn, 1) := by decide +kernel
theorem dJ2_length_9d52b_0 : decode cJ2_length_9d52b 0 = .ok (.aload_n 0, 1) := by decide +kernel
theorem dJ2_length_9d52b_1 : decode cJ2_length_9d52b 1 = .ok (.arraylength, 1) := by decide +kernel
theorem dJ2_length_9d52b_2 : decode cJ2_length_9d52b 2 = .ok (.iconst 1, 1) := by decide +kernel
theorem dJ2_length_9d52b_3 : decode cJ2_length_9d52b 3 = .ok (.ishr, 1) := by decide +kernel
theorem dJ2_length_9d52b_4 : decode cJ2_length_9d52b 4 = .ok (.ireturn, 1) := by decide +kernel
theorem dJ2_charAt_3b067_0 : decode cJ2_charAt_3b067 0 = .ok (.iload_n 1, 1) := by decide +kernel
theorem dJ2_charAt_3b067_1 : decode cJ2_charAt_3b067 1 = .ok (.aload_n 0, 1) := by decide +kernel
theorem dJ2_charAt_3b067_2 : decode cJ2_charAt_3b067 2 = .ok (.invokestatic 67, 3) := by decide +kernel
theorem dJ2_charAt_3b067_5 : decode cJ2_charAt_3b067 5 = .ok (.aload_n 0, 1) := by decide +kernel
theorem dJ2_charAt_3b067_6 : decode cJ2_charAt_3b067 6 = .ok (.iload_n 1, 1) := by decide +kernel
theorem dJ2_charAt_3b067_7 : decode cJ2_charAt_3b067 7 = .ok (.invokestatic 71, 3) := by decide +kernel
theorem dJ2_charAt_3b067_10 : decode cJ2_charAt_3b067 10 = .ok (.ireturn, 1) := by decide +kernel
theorem dJ2_checkIndex_2214a_0 : decode cJ2_checkIndex_2214a 0 = .ok (.iload_n 0, 1) := by decide +kernel
theorem dJ2_checkIndex_2214a_1 : decode cJ2_checkIndex_2214a 1 = .ok (.aload_n 1, 1) := by decide +kernel
theorem dJ2_checkIndex_2214a_2 : decode cJ2_checkIndex_2214a 2 = .ok (.invokestatic 48, 3) := by decide +kernel
theorem dJ2_checkIndex_2214a_5 : decode cJ2_checkIndex_2214a 5 = .ok (.invokestatic 414, 3) := by decide +kernel
theorem dJ2_checkIndex_2214a_8 : decode cJ2_checkIndex_2214a 8 = .ok (.return_, 1) := by decide +kernel
theorem dJ3_checkIndex_8e157_0 : decode cJ3_checkIndex_8e157 0 = .ok (.iload_n 0, 1) := by decide +kernel
theorem dJ3_checkIndex_8e157_1 : decode cJ3_checkIndex_8e157 1 = .ok (.ifCond .lt 8, 3) := by decide +kernel
theorem dJ3_checkIndex_8e157_4 : decode cJ3_checkIndex_8e157 4 = .ok (.iload_n 0, 1) := by decide +kernel
theorem dJ3_checkIndex_8e157_5 : decode cJ3_checkIndex_8e157 5 = .ok (.iload_n 1, 1) := by decide +kernel
theorem dJ3_checkIndex_8e157_6 : decode cJ3_checkIndex_8e157 6 = .ok (.if_icmp .lt 10, 3) := by decide +kernel
theorem dJ3_checkIndex_8e157_9 : decode cJ3_checkIndex_8e157 9 = .ok (.aload_n 2, 1) := by decide +kernel
theorem dJ3_checkIndex_8e157_10 : decode cJ3_checkIndex_8e157 10 = .ok (.iload_n 0, 1) := by decide +kernel
theorem dJ3_checkIndex_8e157_11 : decode cJ3_checkIndex_8e157 11 = .ok (.iload_n 1, 1) := by decide +kernel
theorem dJ3_checkIndex_8e157_12 : decode cJ3_checkIndex_8e157 12 = .ok (.invokestatic 95, 3) := by decide +kernel
theorem dJ3_checkIndex_8e157_15 : decode cJ3_checkIndex_8e157 15 = .ok (.athrow, 1) := by decide +kernel
theorem dJ3_checkIndex_8e157_16 : decode cJ3_checkIndex_8e157 16 = .ok (.iload_n 0, 1) := by decide +kernel
theorem dJ3_checkIndex_8e157_17 : decode cJ3_checkIndex_8e157 17 = .ok (.ireturn, 1) := by decide +kernel
theorem dJ6_compare_7cf53_0 : decode cJ6_compare_7cf53 0 = .ok (.iload_n 0, 1) := by decide +kernel
theorem dJ6_compare_7cf53_1 : decode cJ6_compare_7cf53 1 = .ok (.iload_n 1, 1) := by decide +kernel
theorem dJ6_compare_7cf53_2 : decode cJ6_compare_7cf53 2 = .ok (.if_icmp .ge 7, 3) := by decide +kernel
theorem dJ6_compare_7cf53_5 : decode cJ6_compare_7cf53 5 = .ok (.iconst (-1), 1) := by decide +kernel
theorem dJ6_compare_7cf53_6 : decode cJ6_compare_7cf53 6 = .ok (.goto 13, 3) := by decide +kernel
theorem dJ6_compare_7cf53_9 : decode cJ6_compare_7cf53 9 = .ok (.iload_n 0, 1) := by decide +kernel
theorem dJ6_compare_7cf53_10 : decode cJ6_compare_7cf53 10 = .ok (.iload_n 1, 1) := by decide +kernel
theorem dJ6_compare_7cf53_11 : decode cJ6_compare_7cf53 11 = .ok (.if_icmp .ne 7, 3) := by decide +kernel
theorem dJ6_compare_7cf53_14 : decode cJ6_compare_7cf53 14 = .ok (.iconst 0, 1) := by decide +kernel
theorem dJ6_compare_7cf53_15 : decode cJ6_compare_7cf53 15 = .ok (.goto 4, 3) := by decide +kernel
theorem dJ6_compare_7cf53_18 : decode cJ6_compare_7cf53 18 = .ok (.iconst 1, 1) := by decide +kernel
theorem dJ6_compare_7cf53_19 : decode cJ6_compare_7cf53 19 = .ok (.ireturn, 1) := by decide +kernel
theorem dJ7_fill_53178_0 : decode cJ7_fill_53178 0 = .ok (.iconst 0, 1) := by decide +kernel
theorem dJ7_fill_53178_1 : decode cJ7_fill_53178 1 = .ok (.istore_n 2, 1) := by decide +kernel
theorem dJ7_fill_53178_2 : decode cJ7_fill_53178 2 = .ok (.aload_n 0, 1) := by decide +kernel
theorem dJ7_fill_53178_3 : decode cJ7_fill_53178 3 = .ok (.arraylength, 1) := by decide +kernel
theorem dJ7_fill_53178_4 : decode cJ7_fill_53178 4 = .ok (.istore_n 3, 1) := by decide +kernel
theorem dJ7_fill_53178_5 : decode cJ7_fill_53178 5 = .ok (.iload_n 2, 1) := by decide +kernel
theorem dJ7_fill_53178_6 : decode cJ7_fill_53178 6 = .ok (.iload_n 3, 1) := by decide +kernel
theorem dJ7_fill_53178_7 : decode cJ7_fill_53178 7 = .ok (.if_icmp .ge 13, 3) := by decide +kernel
theorem dJ7_fill_53178_10 : decode cJ7_fill_53178 10 = .ok (.aload_n 0, 1) := by decide +kernel
theorem dJ7_fill_53178_11 : decode cJ7_fill_53178 11 = .ok (.iload_n 2, 1) := by decide +kernel
theorem dJ7_fill_53178_12 : decode cJ7_fill_53178 12 = .ok (.iload_n 1, 1) := by decide +kernel
theorem dJ7_fill_53178_13 : decode cJ7_fill_53178 13 = .ok (.iastore, 1) := by decide +kernel
theorem dJ7_fill_53178_14 : decode cJ7_fill_53178 14 = .ok (.iinc 2 1, 3) := by decide +kernel
theorem dJ7_fill_53178_17 : decode cJ7_fill_53178 17 = .ok (.goto (-12), 3) := by decide +kernel
theorem dJ7_fill_53178_20 : decode cJ7_fill_53178 20 = .ok (.return_, 1) := by decide +kernel
theorem dJ9_floorDiv_7cf53_0 : decode cJ9_floorDiv_7cf53 0 = .ok (.iload_n 0, 1) := by decide +kernel
theorem dJ9_floorDiv_7cf53_1 : decode cJ9_floorDiv_7cf53 1 = .ok (.iload_n 1, 1) := by decide +kernel
theorem dJ9_floorDiv_7cf53_2 : decode cJ9_floorDiv_7cf53 2 = .ok (.idiv, 1) := by decide +kernel
theorem dJ9_floorDiv_7cf53_3 : decode cJ9_floorDiv_7cf53 3 = .ok (.istore_n 2, 1) := by decide +kernel
theorem dJ9_floorDiv_7cf53_4 : decode cJ9_floorDiv_7cf53 4 = .ok (.iload_n 0, 1) := by decide +kernel
theorem dJ9_floorDiv_7cf53_5 : decode cJ9_floorDiv_7cf53 5 = .ok (.iload_n 1, 1) := by decide +kernel
theorem dJ9_floorDiv_7cf53_6 : decode cJ9_floorDiv_7cf53 6 = .ok (.ixor, 1) := by decide +kernel
theorem dJ9_floorDiv_7cf53_7 : decode cJ9_floorDiv_7cf53 7 = .ok (.ifCond .ge 14, 3) := by decide +kernel
theorem dJ9_floorDiv_7cf53_10 : decode cJ9_floorDiv_7cf53 10 = .ok (.iload_n 2, 1) := by decide +kernel
theorem dJ9_floorDiv_7cf53_11 : decode cJ9_floorDiv_7cf53 11 = .ok (.iload_n 1, 1) := by decide +kernel
theorem dJ9_floorDiv_7cf53_12 : decode cJ9_floorDiv_7cf53 12 = .ok (.imul, 1) := by decide +kernel
theorem dJ9_floorDiv_7cf53_13 : decode cJ9_floorDiv_7cf53 13 = .ok (.iload_n 0, 1) := by decide +kernel
theorem dJ9_floorDiv_7cf53_14 : decode cJ9_floorDiv_7cf53 14 = .ok (.if_icmp .eq 7, 3) := by decide +kernel
theorem dJ9_floorDiv_7cf53_17 : decode cJ9_floorDiv_7cf53 17 = .ok (.iload_n 2, 1) := by decide +kernel
theorem dJ9_floorDiv_7cf53_18 : decode cJ9_floorDiv_7cf53 18 = .ok (.iconst 1, 1) := by decide +kernel
theorem dJ9_floorDiv_7cf53_19 : decode cJ9_floorDiv_7cf53 19 = .ok (.isub, 1) := by decide +kernel
theorem dJ9_floorDiv_7cf53_20 : decode cJ9_floorDiv_7cf53 20 = .ok (.ireturn, 1) := by decide +kernel
theorem dJ9_floorDiv_7cf53_21 : decode cJ9_floorDiv_7cf53 21 = .ok (.iload_n 2, 1) := by decide +kernel
theorem dJ9_floorDiv_7cf53_22 : decode cJ9_floorDiv_7cf53 22 = .ok (.ireturn, 1) := by decide +kernel
theorem dJ9_abs_0f7a4_0 : decode cJ9_abs_0f7a4 0 = .ok (.iload_n 0, 1) := by decide +kernel
theorem dJ9_abs_0f7a4_1 : decode cJ9_abs_0f7a4 1 = .ok (.ifCond .ge 8, 3) := by decide +kernel
theorem dJ9_abs_0f7a4_4 : decode cJ9_abs_0f7a4 4 = .ok (.iload_n 0, 1) := by decide +kernel
theorem dJ9_abs_0f7a4_5 : decode cJ9_abs_0f7a4 5 = .ok (.ineg, 1) := by decide +kernel
theorem dJ9_abs_0f7a4_6 : decode cJ9_abs_0f7a4 6 = .ok (.goto 4, 3) := by decide +kernel
theorem dJ9_abs_0f7a4_9 : decode cJ9_abs_0f7a4 9 = .ok (.iload_n 0, 1) := by decide +kernel
theorem dJ9_abs_0f7a4_10 : decode cJ9_abs_0f7a4 10 = .ok (.ireturn, 1) := by decide +kernel
theorem dJ9_max_7cf53_0 : decode cJ9_max_7cf53 0 = .ok (.iload_n 0, 1) := by decide +kernel
theorem dJ9_max_7cf53_1 : decode cJ9_max_7cf53 1 = .ok (.iload_n 1, 1) := by decide +kernel
theorem dJ9_max_7cf53_2 : decode cJ9_max_7cf53 2 = .ok (.if_icmp .lt 7, 3) := by decide +kernel
theorem dJ9_max_7cf53_5 : decode cJ9_max_7cf53 5 = .ok (.iload_n 0, 1) := by decide +kernel
theorem dJ9_max_7cf53_6 : decode cJ9_max_7cf53 6 = .ok (.goto 4, 3) := by decide +kernel
theorem dJ9_max_7cf53_9 : decode cJ9_max_7cf53 9 = .ok (.iload_n 1, 1) := by decide +kernel
theorem dJ9_max_7cf53_10 : decode cJ9_max_7cf53 10 = .ok (.ireturn, 1) := by decide +kernel
theorem dJ9_min_7cf53_0 : decode cJ9_min_7cf53 0 = .ok (.iload_n 0, 1) := by decide +kernel
theorem dJ9_min_7cf53_1 : decode cJ9_min_7cf53 1 = .ok (.iload_n 1, 1) := by decide +kernel
theorem dJ9_min_7cf53_2 : decode cJ9_min_7cf53 2 = .ok (.if_icmp .gt 7, 3) := by decide +kernel
theorem dJ9_min_7cf53_5 : decode cJ9_min_7cf53 5 = .ok (.iload_n 0, 1) := by decide +kernel
theorem dJ9_min_7cf53_6 : decode cJ9_min_7cf53 6 = .ok (.goto 4, 3) := by decide +kernel
theorem dJ9_min_7cf53_9 : decode cJ9_min_7cf53 9 = .ok (.iload_n 1, 1) := by decide +kernel
theorem dJ9_min_7cf53_10 : decode cJ9_min_7cf53 10 = .ok (.ireturn, 1) := by decide +kernel
