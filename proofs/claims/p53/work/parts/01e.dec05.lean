theorem ni_dX9_init_42 : decode cX9_init 42 = .ok (.putfield 31, 3) := by decide +kernel
theorem ni_dX9_init_45 : decode cX9_init 45 = .ok (.aload_n 0, 1) := by decide +kernel
theorem ni_dX9_init_46 : decode cX9_init 46 = .ok (.iload_n 1, 1) := by decide +kernel
theorem ni_dX9_init_47 : decode cX9_init 47 = .ok (.putfield 35, 3) := by decide +kernel
theorem ni_dX9_init_50 : decode cX9_init 50 = .ok (.iconst 0, 1) := by decide +kernel
theorem ni_dX9_init_51 : decode cX9_init 51 = .ok (.istore_n 3, 1) := by decide +kernel
theorem ni_dX9_init_52 : decode cX9_init 52 = .ok (.iload_n 3, 1) := by decide +kernel
theorem ni_dX9_init_53 : decode cX9_init 53 = .ok (.bipush 8, 2) := by decide +kernel
theorem ni_dX9_init_55 : decode cX9_init 55 = .ok (.if_icmp .ge 32, 3) := by decide +kernel
theorem ni_dX9_init_58 : decode cX9_init 58 = .ok (.aload_n 0, 1) := by decide +kernel
theorem ni_dX9_init_59 : decode cX9_init 59 = .ok (.getfield 11, 3) := by decide +kernel
theorem ni_dX9_init_62 : decode cX9_init 62 = .ok (.iload_n 3, 1) := by decide +kernel
theorem ni_dX9_init_63 : decode cX9_init 63 = .ok (.aload_n 2, 1) := by decide +kernel
theorem ni_dX9_init_64 : decode cX9_init 64 = .ok (.aastore, 1) := by decide +kernel
theorem ni_dX9_init_65 : decode cX9_init 65 = .ok (.aload_n 0, 1) := by decide +kernel
theorem ni_dX9_init_66 : decode cX9_init 66 = .ok (.getfield 17, 3) := by decide +kernel
theorem ni_dX9_init_69 : decode cX9_init 69 = .ok (.iload_n 3, 1) := by decide +kernel
theorem ni_dX9_init_70 : decode cX9_init 70 = .ok (.iload_n 3, 1) := by decide +kernel
theorem ni_dX9_init_71 : decode cX9_init 71 = .ok (.iload_n 1, 1) := by decide +kernel
theorem ni_dX9_init_72 : decode cX9_init 72 = .ok (.if_icmp .ne 7, 3) := by decide +kernel
theorem ni_dX9_init_75 : decode cX9_init 75 = .ok (.iconst 0, 1) := by decide +kernel
theorem ni_dX9_init_76 : decode cX9_init 76 = .ok (.goto 4, 3) := by decide +kernel
theorem ni_dX9_init_79 : decode cX9_init 79 = .ok (.iconst (-1), 1) := by decide +kernel
theorem ni_dX9_init_80 : decode cX9_init 80 = .ok (.iastore, 1) := by decide +kernel
theorem ni_dX9_init_81 : decode cX9_init 81 = .ok (.iinc 3 1, 3) := by decide +kernel
theorem ni_dX9_init_84 : decode cX9_init 84 = .ok (.goto (-32), 3) := by decide +kernel
theorem ni_dX9_init_87 : decode cX9_init 87 = .ok (.return_, 1) := by decide +kernel
theorem ni_dX9_copyFrom_0 : decode cX9_copyFrom 0 = .ok (.iconst 0, 1) := by decide +kernel
theorem ni_dX9_copyFrom_1 : decode cX9_copyFrom 1 = .ok (.istore_n 2, 1) := by decide +kernel
theorem ni_dX9_copyFrom_2 : decode cX9_copyFrom 2 = .ok (.iload_n 2, 1) := by decide +kernel
theorem ni_dX9_copyFrom_3 : decode cX9_copyFrom 3 = .ok (.bipush 8, 2) := by decide +kernel
theorem ni_dX9_copyFrom_5 : decode cX9_copyFrom 5 = .ok (.if_icmp .ge 21, 3) := by decide +kernel
theorem ni_dX9_copyFrom_8 : decode cX9_copyFrom 8 = .ok (.aload_n 0, 1) := by decide +kernel
theorem ni_dX9_copyFrom_9 : decode cX9_copyFrom 9 = .ok (.getfield 11, 3) := by decide +kernel
theorem ni_dX9_copyFrom_12 : decode cX9_copyFrom 12 = .ok (.iload_n 2, 1) := by decide +kernel
theorem ni_dX9_copyFrom_13 : decode cX9_copyFrom 13 = .ok (.aload_n 1, 1) := by decide +kernel
theorem ni_dX9_copyFrom_14 : decode cX9_copyFrom 14 = .ok (.getfield 11, 3) := by decide +kernel
theorem ni_dX9_copyFrom_17 : decode cX9_copyFrom 17 = .ok (.iload_n 2, 1) := by decide +kernel
theorem ni_dX9_copyFrom_18 : decode cX9_copyFrom 18 = .ok (.aaload, 1) := by decide +kernel
theorem ni_dX9_copyFrom_19 : decode cX9_copyFrom 19 = .ok (.aastore, 1) := by decide +kernel
theorem ni_dX9_copyFrom_20 : decode cX9_copyFrom 20 = .ok (.iinc 2 1, 3) := by decide +kernel
theorem ni_dX9_copyFrom_23 : decode cX9_copyFrom 23 = .ok (.goto (-21), 3) := by decide +kernel
theorem ni_dX9_copyFrom_26 : decode cX9_copyFrom 26 = .ok (.aload_n 1, 1) := by decide +kernel
theorem ni_dX9_copyFrom_27 : decode cX9_copyFrom 27 = .ok (.getfield 17, 3) := by decide +kernel
theorem ni_dX9_copyFrom_30 : decode cX9_copyFrom 30 = .ok (.iconst 0, 1) := by decide +kernel
theorem ni_dX9_copyFrom_31 : decode cX9_copyFrom 31 = .ok (.aload_n 0, 1) := by decide +kernel
theorem ni_dX9_copyFrom_32 : decode cX9_copyFrom 32 = .ok (.getfield 17, 3) := by decide +kernel
theorem ni_dX9_copyFrom_35 : decode cX9_copyFrom 35 = .ok (.iconst 0, 1) := by decide +kernel
theorem ni_dX9_copyFrom_36 : decode cX9_copyFrom 36 = .ok (.bipush 8, 2) := by decide +kernel
theorem ni_dX9_copyFrom_38 : decode cX9_copyFrom 38 = .ok (.invokestatic 101, 3) := by decide +kernel
theorem ni_dX9_copyFrom_41 : decode cX9_copyFrom 41 = .ok (.aload_n 1, 1) := by decide +kernel
theorem ni_dX9_copyFrom_42 : decode cX9_copyFrom 42 = .ok (.getfield 21, 3) := by decide +kernel
theorem ni_dX9_copyFrom_45 : decode cX9_copyFrom 45 = .ok (.iconst 0, 1) := by decide +kernel
theorem ni_dX9_copyFrom_46 : decode cX9_copyFrom 46 = .ok (.aload_n 0, 1) := by decide +kernel
theorem ni_dX9_copyFrom_47 : decode cX9_copyFrom 47 = .ok (.getfield 21, 3) := by decide +kernel
theorem ni_dX9_copyFrom_50 : decode cX9_copyFrom 50 = .ok (.iconst 0, 1) := by decide +kernel
theorem ni_dX9_copyFrom_51 : decode cX9_copyFrom 51 = .ok (.bipush 8, 2) := by decide +kernel
theorem ni_dX9_copyFrom_53 : decode cX9_copyFrom 53 = .ok (.invokestatic 101, 3) := by decide +kernel
theorem ni_dX9_copyFrom_56 : decode cX9_copyFrom 56 = .ok (.aload_n 0, 1) := by decide +kernel
theorem ni_dX9_copyFrom_57 : decode cX9_copyFrom 57 = .ok (.getfield 27, 3) := by decide +kernel
theorem ni_dX9_copyFrom_60 : decode cX9_copyFrom 60 = .ok (.aload_n 1, 1) := by decide +kernel
theorem ni_dX9_copyFrom_61 : decode cX9_copyFrom 61 = .ok (.getfield 27, 3) := by decide +kernel
theorem ni_dX9_copyFrom_64 : decode cX9_copyFrom 64 = .ok (.invokevirtual 107, 3) := by decide +kernel
theorem ni_dX9_copyFrom_67 : decode cX9_copyFrom 67 = .ok (.aload_n 0, 1) := by decide +kernel
theorem ni_dX9_copyFrom_68 : decode cX9_copyFrom 68 = .ok (.aload_n 1, 1) := by decide +kernel
theorem ni_dX9_copyFrom_69 : decode cX9_copyFrom 69 = .ok (.getfield 31, 3) := by decide +kernel
theorem ni_dX9_copyFrom_72 : decode cX9_copyFrom 72 = .ok (.putfield 31, 3) := by decide +kernel
theorem ni_dX9_copyFrom_75 : decode cX9_copyFrom 75 = .ok (.return_, 1) := by decide +kernel
theorem ni_dX9_enterLearned_0 : decode cX9_enterLearned 0 = .ok (.iconst 1, 1) := by decide +kernel
theorem ni_dX9_enterLearned_1 : decode cX9_enterLearned 1 = .ok (.aload_n 0, 1) := by decide +kernel
theorem ni_dX9_enterLearned_2 : decode cX9_enterLearned 2 = .ok (.getfield 35, 3) := by decide +kernel
theorem ni_dX9_enterLearned_5 : decode cX9_enterLearned 5 = .ok (.ishl, 1) := by decide +kernel
theorem ni_dX9_enterLearned_6 : decode cX9_enterLearned 6 = .ok (.istore_n 1, 1) := by decide +kernel
theorem ni_dX9_enterLearned_7 : decode cX9_enterLearned 7 = .ok (.iconst 0, 1) := by decide +kernel
theorem ni_dX9_enterLearned_8 : decode cX9_enterLearned 8 = .ok (.istore_n 2, 1) := by decide +kernel
theorem ni_dX9_enterLearned_9 : decode cX9_enterLearned 9 = .ok (.iload_n 2, 1) := by decide +kernel
theorem ni_dX9_enterLearned_10 : decode cX9_enterLearned 10 = .ok (.bipush 8, 2) := by decide +kernel
theorem ni_dX9_enterLearned_12 : decode cX9_enterLearned 12 = .ok (.if_icmp .ge 74, 3) := by decide +kernel
theorem ni_dX9_enterLearned_15 : decode cX9_enterLearned 15 = .ok (.aload_n 0, 1) := by decide +kernel
theorem ni_dX9_enterLearned_16 : decode cX9_enterLearned 16 = .ok (.iload_n 1, 1) := by decide +kernel
theorem ni_dX9_enterLearned_17 : decode cX9_enterLearned 17 = .ok (.invokevirtual 60, 3) := by decide +kernel
theorem ni_dX9_enterLearned_20 : decode cX9_enterLearned 20 = .ok (.istore_n 3, 1) := by decide +kernel
theorem ni_dX9_enterLearned_21 : decode cX9_enterLearned 21 = .ok (.iload_n 3, 1) := by decide +kernel
theorem ni_dX9_enterLearned_22 : decode cX9_enterLearned 22 = .ok (.iconst (-1), 1) := by decide +kernel
theorem ni_dX9_enterLearned_23 : decode cX9_enterLearned 23 = .ok (.if_icmp .ne 4, 3) := by decide +kernel
theorem ni_dX9_enterLearned_26 : decode cX9_enterLearned 26 = .ok (.return_, 1) := by decide +kernel
theorem ni_dX9_enterLearned_27 : decode cX9_enterLearned 27 = .ok (.iload_n 1, 1) := by decide +kernel
theorem ni_dX9_enterLearned_28 : decode cX9_enterLearned 28 = .ok (.iconst 1, 1) := by decide +kernel
theorem ni_dX9_enterLearned_29 : decode cX9_enterLearned 29 = .ok (.iload_n 3, 1) := by decide +kernel
theorem ni_dX9_enterLearned_30 : decode cX9_enterLearned 30 = .ok (.ishl, 1) := by decide +kernel
theorem ni_dX9_enterLearned_31 : decode cX9_enterLearned 31 = .ok (.ior, 1) := by decide +kernel
theorem ni_dX9_enterLearned_32 : decode cX9_enterLearned 32 = .ok (.istore_n 1, 1) := by decide +kernel
theorem ni_dX9_enterLearned_33 : decode cX9_enterLearned 33 = .ok (.aload_n 0, 1) := by decide +kernel
theorem ni_dX9_enterLearned_34 : decode cX9_enterLearned 34 = .ok (.getfield 11, 3) := by decide +kernel
theorem ni_dX9_enterLearned_37 : decode cX9_enterLearned 37 = .ok (.iload_n 3, 1) := by decide +kernel
theorem ni_dX9_enterLearned_38 : decode cX9_enterLearned 38 = .ok (.aaload, 1) := by decide +kernel
theorem ni_dX9_enterLearned_39 : decode cX9_enterLearned 39 = .ok (.getfield 98, 3) := by decide +kernel
theorem ni_dX9_enterLearned_42 : decode cX9_enterLearned 42 = .ok (.astore 4, 2) := by decide +kernel
theorem ni_dX9_enterLearned_44 : decode cX9_enterLearned 44 = .ok (.iconst 0, 1) := by decide +kernel
theorem ni_dX9_enterLearned_45 : decode cX9_enterLearned 45 = .ok (.istore 5, 2) := by decide +kernel
theorem ni_dX9_enterLearned_47 : decode cX9_enterLearned 47 = .ok (.iload 5, 2) := by decide +kernel
theorem ni_dX9_enterLearned_49 : decode cX9_enterLearned 49 = .ok (.aload 4, 2) := by decide +kernel
theorem ni_dX9_enterLearned_51 : decode cX9_enterLearned 51 = .ok (.arraylength, 1) := by decide +kernel
theorem ni_dX9_enterLearned_52 : decode cX9_enterLearned 52 = .ok (.if_icmp .ge 28, 3) := by decide +kernel
theorem ni_dX9_enterLearned_55 : decode cX9_enterLearned 55 = .ok (.aload_n 0, 1) := by decide +kernel
theorem ni_dX9_enterLearned_56 : decode cX9_enterLearned 56 = .ok (.getfield 27, 3) := by decide +kernel
theorem ni_dX9_enterLearned_59 : decode cX9_enterLearned 59 = .ok (.aload 4, 2) := by decide +kernel
theorem ni_dX9_enterLearned_61 : decode cX9_enterLearned 61 = .ok (.iload 5, 2) := by decide +kernel
theorem ni_dX9_enterLearned_63 : decode cX9_enterLearned 63 = .ok (.iaload, 1) := by decide +kernel
theorem ni_dX9_enterLearned_64 : decode cX9_enterLearned 64 = .ok (.iconst 2, 1) := by decide +kernel
theorem ni_dX9_enterLearned_65 : decode cX9_enterLearned 65 = .ok (.aload_n 0, 1) := by decide +kernel
theorem ni_dX9_enterLearned_66 : decode cX9_enterLearned 66 = .ok (.getfield 21, 3) := by decide +kernel
theorem ni_dX9_enterLearned_69 : decode cX9_enterLearned 69 = .ok (.iload_n 3, 1) := by decide +kernel
theorem ni_dX9_enterLearned_70 : decode cX9_enterLearned 70 = .ok (.iaload, 1) := by decide +kernel
theorem ni_dX9_enterLearned_71 : decode cX9_enterLearned 71 = .ok (.invokevirtual 89, 3) := by decide +kernel
theorem ni_dX9_enterLearned_74 : decode cX9_enterLearned 74 = .ok (.iinc 5 1, 3) := by decide +kernel
theorem ni_dX9_enterLearned_77 : decode cX9_enterLearned 77 = .ok (.goto (-30), 3) := by decide +kernel
theorem ni_dX9_enterLearned_80 : decode cX9_enterLearned 80 = .ok (.iinc 2 1, 3) := by decide +kernel
theorem ni_dX9_enterLearned_83 : decode cX9_enterLearned 83 = .ok (.goto (-74), 3) := by decide +kernel
theorem ni_dX9_enterLearned_86 : decode cX9_enterLearned 86 = .ok (.return_, 1) := by decide +kernel
theorem ni_dX9_enterNetworks_0 : decode cX9_enterNetworks 0 = .ok (.iconst 0, 1) := by decide +kernel
theorem ni_dX9_enterNetworks_1 : decode cX9_enterNetworks 1 = .ok (.istore_n 2, 1) := by decide +kernel
theorem ni_dX9_enterNetworks_2 : decode cX9_enterNetworks 2 = .ok (.iload_n 2, 1) := by decide +kernel
theorem ni_dX9_enterNetworks_3 : decode cX9_enterNetworks 3 = .ok (.aload_n 1, 1) := by decide +kernel
theorem ni_dX9_enterNetworks_4 : decode cX9_enterNetworks 4 = .ok (.getfield 80, 3) := by decide +kernel
theorem ni_dX9_enterNetworks_7 : decode cX9_enterNetworks 7 = .ok (.if_icmp .ge 37, 3) := by decide +kernel
theorem ni_dX9_enterNetworks_10 : decode cX9_enterNetworks 10 = .ok (.aload_n 1, 1) := by decide +kernel
theorem ni_dX9_enterNetworks_11 : decode cX9_enterNetworks 11 = .ok (.getfield 83, 3) := by decide +kernel
theorem ni_dX9_enterNetworks_14 : decode cX9_enterNetworks 14 = .ok (.iload_n 2, 1) := by decide +kernel
theorem ni_dX9_enterNetworks_15 : decode cX9_enterNetworks 15 = .ok (.iaload, 1) := by decide +kernel
theorem ni_dX9_enterNetworks_16 : decode cX9_enterNetworks 16 = .ok (.aload_n 0, 1) := by decide +kernel
theorem ni_dX9_enterNetworks_17 : decode cX9_enterNetworks 17 = .ok (.getfield 35, 3) := by decide +kernel
theorem ni_dX9_enterNetworks_20 : decode cX9_enterNetworks 20 = .ok (.if_icmp .ne 18, 3) := by decide +kernel
theorem ni_dX9_enterNetworks_23 : decode cX9_enterNetworks 23 = .ok (.aload_n 0, 1) := by decide +kernel
theorem ni_dX9_enterNetworks_24 : decode cX9_enterNetworks 24 = .ok (.getfield 27, 3) := by decide +kernel
theorem ni_dX9_enterNetworks_27 : decode cX9_enterNetworks 27 = .ok (.aload_n 1, 1) := by decide +kernel
theorem ni_dX9_enterNetworks_28 : decode cX9_enterNetworks 28 = .ok (.getfield 86, 3) := by decide +kernel
theorem ni_dX9_enterNetworks_31 : decode cX9_enterNetworks 31 = .ok (.iload_n 2, 1) := by decide +kernel
theorem ni_dX9_enterNetworks_32 : decode cX9_enterNetworks 32 = .ok (.iaload, 1) := by decide +kernel
theorem ni_dX9_enterNetworks_33 : decode cX9_enterNetworks 33 = .ok (.iconst 0, 1) := by decide +kernel
theorem ni_dX9_enterNetworks_34 : decode cX9_enterNetworks 34 = .ok (.iconst 0, 1) := by decide +kernel
theorem ni_dX9_enterNetworks_35 : decode cX9_enterNetworks 35 = .ok (.invokevirtual 89, 3) := by decide +kernel
theorem ni_dX9_enterNetworks_38 : decode cX9_enterNetworks 38 = .ok (.iinc 2 1, 3) := by decide +kernel
theorem ni_dX9_enterNetworks_41 : decode cX9_enterNetworks 41 = .ok (.goto (-39), 3) := by decide +kernel
theorem ni_dX9_enterNetworks_44 : decode cX9_enterNetworks 44 = .ok (.return_, 1) := by decide +kernel
theorem ni_dX9_enterStatics_0 : decode cX9_enterStatics 0 = .ok (.iconst 0, 1) := by decide +kernel
theorem ni_dX9_enterStatics_1 : decode cX9_enterStatics 1 = .ok (.istore_n 3, 1) := by decide +kernel
theorem ni_dX9_enterStatics_2 : decode cX9_enterStatics 2 = .ok (.iload_n 3, 1) := by decide +kernel
theorem ni_dX9_enterStatics_3 : decode cX9_enterStatics 3 = .ok (.aload_n 1, 1) := by decide +kernel
theorem ni_dX9_enterStatics_4 : decode cX9_enterStatics 4 = .ok (.getfield 80, 3) := by decide +kernel
theorem ni_dX9_enterStatics_7 : decode cX9_enterStatics 7 = .ok (.if_icmp .ge 58, 3) := by decide +kernel
theorem ni_dX9_enterStatics_10 : decode cX9_enterStatics 10 = .ok (.aload_n 1, 1) := by decide +kernel
theorem ni_dX9_enterStatics_11 : decode cX9_enterStatics 11 = .ok (.getfield 92, 3) := by decide +kernel
theorem ni_dX9_enterStatics_14 : decode cX9_enterStatics 14 = .ok (.iload_n 3, 1) := by decide +kernel
theorem ni_dX9_enterStatics_15 : decode cX9_enterStatics 15 = .ok (.iaload, 1) := by decide +kernel
theorem ni_dX9_enterStatics_16 : decode cX9_enterStatics 16 = .ok (.istore 4, 2) := by decide +kernel
theorem ni_dX9_enterStatics_18 : decode cX9_enterStatics 18 = .ok (.aload_n 1, 1) := by decide +kernel
theorem ni_dX9_enterStatics_19 : decode cX9_enterStatics 19 = .ok (.getfield 83, 3) := by decide +kernel
theorem ni_dX9_enterStatics_22 : decode cX9_enterStatics 22 = .ok (.iload_n 3, 1) := by decide +kernel
theorem ni_dX9_enterStatics_23 : decode cX9_enterStatics 23 = .ok (.iaload, 1) := by decide +kernel
theorem ni_dX9_enterStatics_24 : decode cX9_enterStatics 24 = .ok (.aload_n 0, 1) := by decide +kernel
theorem ni_dX9_enterStatics_25 : decode cX9_enterStatics 25 = .ok (.getfield 35, 3) := by decide +kernel
theorem ni_dX9_enterStatics_28 : decode cX9_enterStatics 28 = .ok (.if_icmp .ne 31, 3) := by decide +kernel
theorem ni_dX9_enterStatics_31 : decode cX9_enterStatics 31 = .ok (.aload_n 2, 1) := by decide +kernel
theorem ni_dX9_enterStatics_32 : decode cX9_enterStatics 32 = .ok (.iload 4, 2) := by decide +kernel
theorem ni_dX9_enterStatics_34 : decode cX9_enterStatics 34 = .ok (.aaload, 1) := by decide +kernel
theorem ni_dX9_enterStatics_35 : decode cX9_enterStatics 35 = .ok (.getfield 95, 3) := by decide +kernel
theorem ni_dX9_enterStatics_38 : decode cX9_enterStatics 38 = .ok (.ifCond .eq 21, 3) := by decide +kernel
theorem ni_dX9_enterStatics_41 : decode cX9_enterStatics 41 = .ok (.aload_n 0, 1) := by decide +kernel
theorem ni_dX9_enterStatics_42 : decode cX9_enterStatics 42 = .ok (.getfield 27, 3) := by decide +kernel
theorem ni_dX9_enterStatics_45 : decode cX9_enterStatics 45 = .ok (.aload_n 1, 1) := by decide +kernel
theorem ni_dX9_enterStatics_46 : decode cX9_enterStatics 46 = .ok (.getfield 86, 3) := by decide +kernel
theorem ni_dX9_enterStatics_49 : decode cX9_enterStatics 49 = .ok (.iload_n 3, 1) := by decide +kernel
theorem ni_dX9_enterStatics_50 : decode cX9_enterStatics 50 = .ok (.iaload, 1) := by decide +kernel
theorem ni_dX9_enterStatics_51 : decode cX9_enterStatics 51 = .ok (.iconst 1, 1) := by decide +kernel
theorem ni_dX9_enterStatics_52 : decode cX9_enterStatics 52 = .ok (.iconst 1, 1) := by decide +kernel
theorem ni_dX9_enterStatics_53 : decode cX9_enterStatics 53 = .ok (.iload 4, 2) := by decide +kernel
theorem ni_dX9_enterStatics_55 : decode cX9_enterStatics 55 = .ok (.ishl, 1) := by decide +kernel
theorem ni_dX9_enterStatics_56 : decode cX9_enterStatics 56 = .ok (.invokevirtual 89, 3) := by decide +kernel
theorem ni_dX9_enterStatics_59 : decode cX9_enterStatics 59 = .ok (.iinc 3 1, 3) := by decide +kernel
theorem ni_dX9_enterStatics_62 : decode cX9_enterStatics 62 = .ok (.goto (-60), 3) := by decide +kernel
theorem ni_dX9_enterStatics_65 : decode cX9_enterStatics 65 = .ok (.return_, 1) := by decide +kernel
theorem ni_dX9_goOn_0 : decode cX9_goOn 0 = .ok (.aload_n 0, 1) := by decide +kernel
theorem ni_dX9_goOn_1 : decode cX9_goOn 1 = .ok (.getfield 11, 3) := by decide +kernel
theorem ni_dX9_goOn_4 : decode cX9_goOn 4 = .ok (.iload_n 3, 1) := by decide +kernel
theorem ni_dX9_goOn_5 : decode cX9_goOn 5 = .ok (.aaload, 1) := by decide +kernel
theorem ni_dX9_goOn_6 : decode cX9_goOn 6 = .ok (.iload_n 2, 1) := by decide +kernel
theorem ni_dX9_goOn_7 : decode cX9_goOn 7 = .ok (.invokevirtual 64, 3) := by decide +kernel
theorem ni_dX9_goOn_10 : decode cX9_goOn 10 = .ok (.ifCond .ne 4, 3) := by decide +kernel
theorem ni_dX9_goOn_13 : decode cX9_goOn 13 = .ok (.return_, 1) := by decide +kernel
theorem ni_dX9_goOn_14 : decode cX9_goOn 14 = .ok (.aload_n 0, 1) := by decide +kernel
theorem ni_dX9_goOn_15 : decode cX9_goOn 15 = .ok (.getfield 17, 3) := by decide +kernel
theorem ni_dX9_goOn_18 : decode cX9_goOn 18 = .ok (.iload_n 1, 1) := by decide +kernel
theorem ni_dX9_goOn_19 : decode cX9_goOn 19 = .ok (.iaload, 1) := by decide +kernel
theorem ni_dX9_goOn_20 : decode cX9_goOn 20 = .ok (.aload_n 0, 1) := by decide +kernel
theorem ni_dX9_goOn_21 : decode cX9_goOn 21 = .ok (.getfield 11, 3) := by decide +kernel
theorem ni_dX9_goOn_24 : decode cX9_goOn 24 = .ok (.iload_n 1, 1) := by decide +kernel
theorem ni_dX9_goOn_25 : decode cX9_goOn 25 = .ok (.aaload, 1) := by decide +kernel
theorem ni_dX9_goOn_26 : decode cX9_goOn 26 = .ok (.getfield 77, 3) := by decide +kernel
theorem ni_dX9_goOn_29 : decode cX9_goOn 29 = .ok (.iload_n 2, 1) := by decide +kernel
theorem ni_dX9_goOn_30 : decode cX9_goOn 30 = .ok (.iaload, 1) := by decide +kernel
theorem ni_dX9_goOn_31 : decode cX9_goOn 31 = .ok (.iadd, 1) := by decide +kernel
theorem ni_dX9_goOn_32 : decode cX9_goOn 32 = .ok (.istore 4, 2) := by decide +kernel
theorem ni_dX9_goOn_34 : decode cX9_goOn 34 = .ok (.iload_n 1, 1) := by decide +kernel
theorem ni_dX9_goOn_35 : decode cX9_goOn 35 = .ok (.aload_n 0, 1) := by decide +kernel
theorem ni_dX9_goOn_36 : decode cX9_goOn 36 = .ok (.getfield 35, 3) := by decide +kernel
theorem ni_dX9_goOn_39 : decode cX9_goOn 39 = .ok (.if_icmp .ne 9, 3) := by decide +kernel
theorem ni_dX9_goOn_42 : decode cX9_goOn 42 = .ok (.iconst 1, 1) := by decide +kernel
theorem ni_dX9_goOn_43 : decode cX9_goOn 43 = .ok (.iload_n 2, 1) := by decide +kernel
theorem ni_dX9_goOn_44 : decode cX9_goOn 44 = .ok (.ishl, 1) := by decide +kernel
theorem ni_dX9_goOn_45 : decode cX9_goOn 45 = .ok (.goto 9, 3) := by decide +kernel
theorem ni_dX9_goOn_48 : decode cX9_goOn 48 = .ok (.aload_n 0, 1) := by decide +kernel
theorem ni_dX9_goOn_49 : decode cX9_goOn 49 = .ok (.getfield 21, 3) := by decide +kernel
theorem ni_dX9_goOn_52 : decode cX9_goOn 52 = .ok (.iload_n 1, 1) := by decide +kernel
theorem ni_dX9_goOn_53 : decode cX9_goOn 53 = .ok (.iaload, 1) := by decide +kernel
theorem ni_dX9_goOn_54 : decode cX9_goOn 54 = .ok (.istore 5, 2) := by decide +kernel
theorem ni_dX9_goOn_56 : decode cX9_goOn 56 = .ok (.aload_n 0, 1) := by decide +kernel
theorem ni_dX9_goOn_57 : decode cX9_goOn 57 = .ok (.getfield 17, 3) := by decide +kernel
theorem ni_dX9_goOn_60 : decode cX9_goOn 60 = .ok (.iload_n 3, 1) := by decide +kernel
theorem ni_dX9_goOn_61 : decode cX9_goOn 61 = .ok (.iaload, 1) := by decide +kernel
theorem ni_dX9_goOn_62 : decode cX9_goOn 62 = .ok (.iconst (-1), 1) := by decide +kernel
theorem ni_dX9_goOn_63 : decode cX9_goOn 63 = .ok (.if_icmp .eq 14, 3) := by decide +kernel
theorem ni_dX9_goOn_66 : decode cX9_goOn 66 = .ok (.iload 4, 2) := by decide +kernel
theorem ni_dX9_goOn_68 : decode cX9_goOn 68 = .ok (.aload_n 0, 1) := by decide +kernel
theorem ni_dX9_goOn_69 : decode cX9_goOn 69 = .ok (.getfield 17, 3) := by decide +kernel
theorem ni_dX9_goOn_72 : decode cX9_goOn 72 = .ok (.iload_n 3, 1) := by decide +kernel
theorem ni_dX9_goOn_73 : decode cX9_goOn 73 = .ok (.iaload, 1) := by decide +kernel
theorem ni_dX9_goOn_74 : decode cX9_goOn 74 = .ok (.if_icmp .ge 22, 3) := by decide +kernel
theorem ni_dX9_goOn_77 : decode cX9_goOn 77 = .ok (.aload_n 0, 1) := by decide +kernel
theorem ni_dX9_goOn_78 : decode cX9_goOn 78 = .ok (.getfield 17, 3) := by decide +kernel
theorem ni_dX9_goOn_81 : decode cX9_goOn 81 = .ok (.iload_n 3, 1) := by decide +kernel
theorem ni_dX9_goOn_82 : decode cX9_goOn 82 = .ok (.iload 4, 2) := by decide +kernel
theorem ni_dX9_goOn_84 : decode cX9_goOn 84 = .ok (.iastore, 1) := by decide +kernel
theorem ni_dX9_goOn_85 : decode cX9_goOn 85 = .ok (.aload_n 0, 1) := by decide +kernel
theorem ni_dX9_goOn_86 : decode cX9_goOn 86 = .ok (.getfield 21, 3) := by decide +kernel
theorem ni_dX9_goOn_89 : decode cX9_goOn 89 = .ok (.iload_n 3, 1) := by decide +kernel
theorem ni_dX9_goOn_90 : decode cX9_goOn 90 = .ok (.iload 5, 2) := by decide +kernel
theorem ni_dX9_goOn_92 : decode cX9_goOn 92 = .ok (.iastore, 1) := by decide +kernel
theorem ni_dX9_goOn_93 : decode cX9_goOn 93 = .ok (.goto 25, 3) := by decide +kernel
theorem ni_dX9_goOn_96 : decode cX9_goOn 96 = .ok (.iload 4, 2) := by decide +kernel
theorem ni_dX9_goOn_98 : decode cX9_goOn 98 = .ok (.aload_n 0, 1) := by decide +kernel
theorem ni_dX9_goOn_99 : decode cX9_goOn 99 = .ok (.getfield 17, 3) := by decide +kernel
theorem ni_dX9_goOn_102 : decode cX9_goOn 102 = .ok (.iload_n 3, 1) := by decide +kernel
theorem ni_dX9_goOn_103 : decode cX9_goOn 103 = .ok (.iaload, 1) := by decide +kernel
theorem ni_dX9_goOn_104 : decode cX9_goOn 104 = .ok (.if_icmp .ne 14, 3) := by decide +kernel
theorem ni_dX9_goOn_107 : decode cX9_goOn 107 = .ok (.aload_n 0, 1) := by decide +kernel
theorem ni_dX9_goOn_108 : decode cX9_goOn 108 = .ok (.getfield 21, 3) := by decide +kernel
theorem ni_dX9_goOn_111 : decode cX9_goOn 111 = .ok (.iload_n 3, 1) := by decide +kernel
theorem ni_dX9_goOn_112 : decode cX9_goOn 112 = .ok (.dup2, 1) := by decide +kernel
theorem ni_dX9_goOn_113 : decode cX9_goOn 113 = .ok (.iaload, 1) := by decide +kernel
theorem ni_dX9_goOn_114 : decode cX9_goOn 114 = .ok (.iload 5, 2) := by decide +kernel
theorem ni_dX9_goOn_116 : decode cX9_goOn 116 = .ok (.ior, 1) := by decide +kernel
theorem ni_dX9_goOn_117 : decode cX9_goOn 117 = .ok (.iastore, 1) := by decide +kernel
theorem ni_dX9_goOn_118 : decode cX9_goOn 118 = .ok (.return_, 1) := by decide +kernel
theorem ni_dX9_keep_0 : decode cX9_keep 0 = .ok (.aload_n 0, 1) := by decide +kernel
theorem ni_dX9_keep_1 : decode cX9_keep 1 = .ok (.getfield 11, 3) := by decide +kernel
theorem ni_dX9_keep_4 : decode cX9_keep 4 = .ok (.aload_n 1, 1) := by decide +kernel
theorem ni_dX9_keep_5 : decode cX9_keep 5 = .ok (.getfield 39, 3) := by decide +kernel
theorem ni_dX9_keep_8 : decode cX9_keep 8 = .ok (.aload_n 1, 1) := by decide +kernel
theorem ni_dX9_keep_9 : decode cX9_keep 9 = .ok (.aastore, 1) := by decide +kernel
theorem ni_dX9_keep_10 : decode cX9_keep 10 = .ok (.aload_n 0, 1) := by decide +kernel
theorem ni_dX9_keep_11 : decode cX9_keep 11 = .ok (.iconst 1, 1) := by decide +kernel
theorem ni_dX9_keep_12 : decode cX9_keep 12 = .ok (.putfield 31, 3) := by decide +kernel
theorem ni_dX9_keep_15 : decode cX9_keep 15 = .ok (.return_, 1) := by decide +kernel
theorem ni_dX9_nearestBut_0 : decode cX9_nearestBut 0 = .ok (.iconst (-1), 1) := by decide +kernel
theorem ni_dX9_nearestBut_1 : decode cX9_nearestBut 1 = .ok (.istore_n 2, 1) := by decide +kernel
theorem ni_dX9_nearestBut_2 : decode cX9_nearestBut 2 = .ok (.iconst 0, 1) := by decide +kernel
theorem ni_dX9_nearestBut_3 : decode cX9_nearestBut 3 = .ok (.istore_n 3, 1) := by decide +kernel
theorem ni_dX9_nearestBut_4 : decode cX9_nearestBut 4 = .ok (.iload_n 3, 1) := by decide +kernel
theorem ni_dX9_nearestBut_5 : decode cX9_nearestBut 5 = .ok (.bipush 8, 2) := by decide +kernel
theorem ni_dX9_nearestBut_7 : decode cX9_nearestBut 7 = .ok (.if_icmp .ge 61, 3) := by decide +kernel
theorem ni_dX9_nearestBut_10 : decode cX9_nearestBut 10 = .ok (.iload_n 1, 1) := by decide +kernel
theorem ni_dX9_nearestBut_11 : decode cX9_nearestBut 11 = .ok (.iload_n 3, 1) := by decide +kernel
theorem ni_dX9_nearestBut_12 : decode cX9_nearestBut 12 = .ok (.ishr, 1) := by decide +kernel
theorem ni_dX9_nearestBut_13 : decode cX9_nearestBut 13 = .ok (.iconst 1, 1) := by decide +kernel
theorem ni_dX9_nearestBut_14 : decode cX9_nearestBut 14 = .ok (.iand, 1) := by decide +kernel
theorem ni_dX9_nearestBut_15 : decode cX9_nearestBut 15 = .ok (.ifCond .ne 17, 3) := by decide +kernel
theorem ni_dX9_nearestBut_18 : decode cX9_nearestBut 18 = .ok (.aload_n 0, 1) := by decide +kernel
theorem ni_dX9_nearestBut_19 : decode cX9_nearestBut 19 = .ok (.getfield 17, 3) := by decide +kernel
theorem ni_dX9_nearestBut_22 : decode cX9_nearestBut 22 = .ok (.iload_n 3, 1) := by decide +kernel
theorem ni_dX9_nearestBut_23 : decode cX9_nearestBut 23 = .ok (.iaload, 1) := by decide +kernel
theorem ni_dX9_nearestBut_24 : decode cX9_nearestBut 24 = .ok (.iconst (-1), 1) := by decide +kernel
theorem ni_dX9_nearestBut_25 : decode cX9_nearestBut 25 = .ok (.if_icmp .eq 7, 3) := by decide +kernel
theorem ni_dX9_nearestBut_28 : decode cX9_nearestBut 28 = .ok (.iconst 1, 1) := by decide +kernel
theorem ni_dX9_nearestBut_29 : decode cX9_nearestBut 29 = .ok (.goto 4, 3) := by decide +kernel
theorem ni_dX9_nearestBut_32 : decode cX9_nearestBut 32 = .ok (.iconst 0, 1) := by decide +kernel
theorem ni_dX9_nearestBut_33 : decode cX9_nearestBut 33 = .ok (.istore 4, 2) := by decide +kernel
theorem ni_dX9_nearestBut_35 : decode cX9_nearestBut 35 = .ok (.iload 4, 2) := by decide +kernel
theorem ni_dX9_nearestBut_37 : decode cX9_nearestBut 37 = .ok (.ifCond .eq 25, 3) := by decide +kernel
theorem ni_dX9_nearestBut_40 : decode cX9_nearestBut 40 = .ok (.iload_n 2, 1) := by decide +kernel
theorem ni_dX9_nearestBut_41 : decode cX9_nearestBut 41 = .ok (.iconst (-1), 1) := by decide +kernel
theorem ni_dX9_nearestBut_42 : decode cX9_nearestBut 42 = .ok (.if_icmp .eq 18, 3) := by decide +kernel
theorem ni_dX9_nearestBut_45 : decode cX9_nearestBut 45 = .ok (.aload_n 0, 1) := by decide +kernel
theorem ni_dX9_nearestBut_46 : decode cX9_nearestBut 46 = .ok (.getfield 17, 3) := by decide +kernel
theorem ni_dX9_nearestBut_49 : decode cX9_nearestBut 49 = .ok (.iload_n 3, 1) := by decide +kernel
theorem ni_dX9_nearestBut_50 : decode cX9_nearestBut 50 = .ok (.iaload, 1) := by decide +kernel
theorem ni_dX9_nearestBut_51 : decode cX9_nearestBut 51 = .ok (.aload_n 0, 1) := by decide +kernel
theorem ni_dX9_nearestBut_52 : decode cX9_nearestBut 52 = .ok (.getfield 17, 3) := by decide +kernel
theorem ni_dX9_nearestBut_55 : decode cX9_nearestBut 55 = .ok (.iload_n 2, 1) := by decide +kernel
theorem ni_dX9_nearestBut_56 : decode cX9_nearestBut 56 = .ok (.iaload, 1) := by decide +kernel
theorem ni_dX9_nearestBut_57 : decode cX9_nearestBut 57 = .ok (.if_icmp .ge 5, 3) := by decide +kernel
theorem ni_dX9_nearestBut_60 : decode cX9_nearestBut 60 = .ok (.iload_n 3, 1) := by decide +kernel
theorem ni_dX9_nearestBut_61 : decode cX9_nearestBut 61 = .ok (.istore_n 2, 1) := by decide +kernel
theorem ni_dX9_nearestBut_62 : decode cX9_nearestBut 62 = .ok (.iinc 3 1, 3) := by decide +kernel
theorem ni_dX9_nearestBut_65 : decode cX9_nearestBut 65 = .ok (.goto (-61), 3) := by decide +kernel
theorem ni_dX9_nearestBut_68 : decode cX9_nearestBut 68 = .ok (.iload_n 2, 1) := by decide +kernel
theorem ni_dX9_nearestBut_69 : decode cX9_nearestBut 69 = .ok (.ireturn, 1) := by decide +kernel
theorem ni_dX9_reckon_0 : decode cX9_reckon 0 = .ok (.aload_n 0, 1) := by decide +kernel
theorem ni_dX9_reckon_1 : decode cX9_reckon 1 = .ok (.getfield 31, 3) := by decide +kernel
theorem ni_dX9_reckon_4 : decode cX9_reckon 4 = .ok (.ifCond .ne 4, 3) := by decide +kernel
theorem ni_dX9_reckon_7 : decode cX9_reckon 7 = .ok (.return_, 1) := by decide +kernel
theorem ni_dX9_reckon_8 : decode cX9_reckon 8 = .ok (.aload_n 0, 1) := by decide +kernel
theorem ni_dX9_reckon_9 : decode cX9_reckon 9 = .ok (.iconst 0, 1) := by decide +kernel
theorem ni_dX9_reckon_10 : decode cX9_reckon 10 = .ok (.putfield 31, 3) := by decide +kernel
theorem ni_dX9_reckon_13 : decode cX9_reckon 13 = .ok (.aload_n 0, 1) := by decide +kernel
theorem ni_dX9_reckon_14 : decode cX9_reckon 14 = .ok (.aload_n 1, 1) := by decide +kernel
theorem ni_dX9_reckon_15 : decode cX9_reckon 15 = .ok (.invokevirtual 42, 3) := by decide +kernel
theorem ni_dX9_reckon_18 : decode cX9_reckon 18 = .ok (.aload_n 0, 1) := by decide +kernel
theorem ni_dX9_reckon_19 : decode cX9_reckon 19 = .ok (.getfield 27, 3) := by decide +kernel
theorem ni_dX9_reckon_22 : decode cX9_reckon 22 = .ok (.iconst 0, 1) := by decide +kernel
theorem ni_dX9_reckon_23 : decode cX9_reckon 23 = .ok (.putfield 46, 3) := by decide +kernel
theorem ni_dX9_reckon_26 : decode cX9_reckon 26 = .ok (.aload_n 0, 1) := by decide +kernel
theorem ni_dX9_reckon_27 : decode cX9_reckon 27 = .ok (.aload_n 2, 1) := by decide +kernel
theorem ni_dX9_reckon_28 : decode cX9_reckon 28 = .ok (.invokevirtual 49, 3) := by decide +kernel
theorem ni_dX9_reckon_31 : decode cX9_reckon 31 = .ok (.aload_n 0, 1) := by decide +kernel
theorem ni_dX9_reckon_32 : decode cX9_reckon 32 = .ok (.aload_n 3, 1) := by decide +kernel
theorem ni_dX9_reckon_33 : decode cX9_reckon 33 = .ok (.aload_n 1, 1) := by decide +kernel
theorem ni_dX9_reckon_34 : decode cX9_reckon 34 = .ok (.invokevirtual 53, 3) := by decide +kernel
theorem ni_dX9_reckon_37 : decode cX9_reckon 37 = .ok (.aload_n 0, 1) := by decide +kernel
theorem ni_dX9_reckon_38 : decode cX9_reckon 38 = .ok (.invokevirtual 57, 3) := by decide +kernel
theorem ni_dX9_reckon_41 : decode cX9_reckon 41 = .ok (.return_, 1) := by decide +kernel
theorem ni_dX9_reckonWays_0 : decode cX9_reckonWays 0 = .ok (.iconst 0, 1) := by decide +kernel
theorem ni_dX9_reckonWays_1 : decode cX9_reckonWays 1 = .ok (.istore_n 2, 1) := by decide +kernel
theorem ni_dX9_reckonWays_2 : decode cX9_reckonWays 2 = .ok (.iload_n 2, 1) := by decide +kernel
theorem ni_dX9_reckonWays_3 : decode cX9_reckonWays 3 = .ok (.bipush 8, 2) := by decide +kernel
theorem ni_dX9_reckonWays_5 : decode cX9_reckonWays 5 = .ok (.if_icmp .ge 35, 3) := by decide +kernel
theorem ni_dX9_reckonWays_8 : decode cX9_reckonWays 8 = .ok (.aload_n 0, 1) := by decide +kernel
theorem ni_dX9_reckonWays_9 : decode cX9_reckonWays 9 = .ok (.getfield 17, 3) := by decide +kernel
theorem ni_dX9_reckonWays_12 : decode cX9_reckonWays 12 = .ok (.iload_n 2, 1) := by decide +kernel
theorem ni_dX9_reckonWays_13 : decode cX9_reckonWays 13 = .ok (.iload_n 2, 1) := by decide +kernel
theorem ni_dX9_reckonWays_14 : decode cX9_reckonWays 14 = .ok (.aload_n 0, 1) := by decide +kernel
theorem ni_dX9_reckonWays_15 : decode cX9_reckonWays 15 = .ok (.getfield 35, 3) := by decide +kernel
theorem ni_dX9_reckonWays_18 : decode cX9_reckonWays 18 = .ok (.if_icmp .ne 7, 3) := by decide +kernel
theorem ni_dX9_reckonWays_21 : decode cX9_reckonWays 21 = .ok (.iconst 0, 1) := by decide +kernel
theorem ni_dX9_reckonWays_22 : decode cX9_reckonWays 22 = .ok (.goto 4, 3) := by decide +kernel
theorem ni_dX9_reckonWays_25 : decode cX9_reckonWays 25 = .ok (.iconst (-1), 1) := by decide +kernel
theorem ni_dX9_reckonWays_26 : decode cX9_reckonWays 26 = .ok (.iastore, 1) := by decide +kernel
theorem ni_dX9_reckonWays_27 : decode cX9_reckonWays 27 = .ok (.aload_n 0, 1) := by decide +kernel
theorem ni_dX9_reckonWays_28 : decode cX9_reckonWays 28 = .ok (.getfield 21, 3) := by decide +kernel
theorem ni_dX9_reckonWays_31 : decode cX9_reckonWays 31 = .ok (.iload_n 2, 1) := by decide +kernel
theorem ni_dX9_reckonWays_32 : decode cX9_reckonWays 32 = .ok (.iconst 0, 1) := by decide +kernel
theorem ni_dX9_reckonWays_33 : decode cX9_reckonWays 33 = .ok (.iastore, 1) := by decide +kernel
theorem ni_dX9_reckonWays_34 : decode cX9_reckonWays 34 = .ok (.iinc 2 1, 3) := by decide +kernel
theorem ni_dX9_reckonWays_37 : decode cX9_reckonWays 37 = .ok (.goto (-35), 3) := by decide +kernel
theorem ni_dX9_reckonWays_40 : decode cX9_reckonWays 40 = .ok (.iconst 0, 1) := by decide +kernel
theorem ni_dX9_reckonWays_41 : decode cX9_reckonWays 41 = .ok (.istore_n 2, 1) := by decide +kernel
theorem ni_dX9_reckonWays_42 : decode cX9_reckonWays 42 = .ok (.iconst 0, 1) := by decide +kernel
theorem ni_dX9_reckonWays_43 : decode cX9_reckonWays 43 = .ok (.istore_n 3, 1) := by decide +kernel
theorem ni_dX9_reckonWays_44 : decode cX9_reckonWays 44 = .ok (.iload_n 3, 1) := by decide +kernel
theorem ni_dX9_reckonWays_45 : decode cX9_reckonWays 45 = .ok (.bipush 8, 2) := by decide +kernel
theorem ni_dX9_reckonWays_47 : decode cX9_reckonWays 47 = .ok (.if_icmp .ge 78, 3) := by decide +kernel
theorem ni_dX9_reckonWays_50 : decode cX9_reckonWays 50 = .ok (.aload_n 0, 1) := by decide +kernel
theorem ni_dX9_reckonWays_51 : decode cX9_reckonWays 51 = .ok (.iload_n 2, 1) := by decide +kernel
theorem ni_dX9_reckonWays_52 : decode cX9_reckonWays 52 = .ok (.invokevirtual 60, 3) := by decide +kernel
theorem ni_dX9_reckonWays_55 : decode cX9_reckonWays 55 = .ok (.istore 4, 2) := by decide +kernel
theorem ni_dX9_reckonWays_57 : decode cX9_reckonWays 57 = .ok (.iload 4, 2) := by decide +kernel
theorem ni_dX9_reckonWays_59 : decode cX9_reckonWays 59 = .ok (.iconst (-1), 1) := by decide +kernel
theorem ni_dX9_reckonWays_60 : decode cX9_reckonWays 60 = .ok (.if_icmp .ne 4, 3) := by decide +kernel
theorem ni_dX9_reckonWays_63 : decode cX9_reckonWays 63 = .ok (.return_, 1) := by decide +kernel
theorem ni_dX9_reckonWays_64 : decode cX9_reckonWays 64 = .ok (.iload_n 2, 1) := by decide +kernel
theorem ni_dX9_reckonWays_65 : decode cX9_reckonWays 65 = .ok (.iconst 1, 1) := by decide +kernel
theorem ni_dX9_reckonWays_66 : decode cX9_reckonWays 66 = .ok (.iload 4, 2) := by decide +kernel
theorem ni_dX9_reckonWays_68 : decode cX9_reckonWays 68 = .ok (.ishl, 1) := by decide +kernel
theorem ni_dX9_reckonWays_69 : decode cX9_reckonWays 69 = .ok (.ior, 1) := by decide +kernel
theorem ni_dX9_reckonWays_70 : decode cX9_reckonWays 70 = .ok (.istore_n 2, 1) := by decide +kernel
theorem ni_dX9_reckonWays_71 : decode cX9_reckonWays 71 = .ok (.iconst 0, 1) := by decide +kernel
theorem ni_dX9_reckonWays_72 : decode cX9_reckonWays 72 = .ok (.istore 5, 2) := by decide +kernel
theorem ni_dX9_reckonWays_74 : decode cX9_reckonWays 74 = .ok (.iload 5, 2) := by decide +kernel
theorem ni_dX9_reckonWays_76 : decode cX9_reckonWays 76 = .ok (.aload_n 1, 1) := by decide +kernel
theorem ni_dX9_reckonWays_77 : decode cX9_reckonWays 77 = .ok (.arraylength, 1) := by decide +kernel
theorem ni_dX9_reckonWays_78 : decode cX9_reckonWays 78 = .ok (.if_icmp .ge 41, 3) := by decide +kernel
theorem ni_dX9_reckonWays_81 : decode cX9_reckonWays 81 = .ok (.aload_n 0, 1) := by decide +kernel
theorem ni_dX9_reckonWays_82 : decode cX9_reckonWays 82 = .ok (.getfield 11, 3) := by decide +kernel
theorem ni_dX9_reckonWays_85 : decode cX9_reckonWays 85 = .ok (.iload 4, 2) := by decide +kernel
theorem ni_dX9_reckonWays_87 : decode cX9_reckonWays 87 = .ok (.aaload, 1) := by decide +kernel
theorem ni_dX9_reckonWays_88 : decode cX9_reckonWays 88 = .ok (.iload 5, 2) := by decide +kernel
theorem ni_dX9_reckonWays_90 : decode cX9_reckonWays 90 = .ok (.invokevirtual 64, 3) := by decide +kernel
theorem ni_dX9_reckonWays_93 : decode cX9_reckonWays 93 = .ok (.ifCond .eq 20, 3) := by decide +kernel
theorem ni_dX9_reckonWays_96 : decode cX9_reckonWays 96 = .ok (.aload_n 0, 1) := by decide +kernel
theorem ni_dX9_reckonWays_97 : decode cX9_reckonWays 97 = .ok (.iload 4, 2) := by decide +kernel
theorem ni_dX9_reckonWays_99 : decode cX9_reckonWays 99 = .ok (.iload 5, 2) := by decide +kernel
theorem ni_dX9_reckonWays_101 : decode cX9_reckonWays 101 = .ok (.aload_n 1, 1) := by decide +kernel
theorem ni_dX9_reckonWays_102 : decode cX9_reckonWays 102 = .ok (.iload 5, 2) := by decide +kernel
theorem ni_dX9_reckonWays_104 : decode cX9_reckonWays 104 = .ok (.aaload, 1) := by decide +kernel
theorem ni_dX9_reckonWays_105 : decode cX9_reckonWays 105 = .ok (.iload 4, 2) := by decide +kernel
theorem ni_dX9_reckonWays_107 : decode cX9_reckonWays 107 = .ok (.invokevirtual 68, 3) := by decide +kernel
theorem ni_dX9_reckonWays_110 : decode cX9_reckonWays 110 = .ok (.invokevirtual 73, 3) := by decide +kernel
theorem ni_dX9_reckonWays_113 : decode cX9_reckonWays 113 = .ok (.iinc 5 1, 3) := by decide +kernel
theorem ni_dX9_reckonWays_116 : decode cX9_reckonWays 116 = .ok (.goto (-42), 3) := by decide +kernel
theorem ni_dX9_reckonWays_119 : decode cX9_reckonWays 119 = .ok (.iinc 3 1, 3) := by decide +kernel
theorem ni_dX9_reckonWays_122 : decode cX9_reckonWays 122 = .ok (.goto (-78), 3) := by decide +kernel
theorem ni_dX9_reckonWays_125 : decode cX9_reckonWays 125 = .ok (.return_, 1) := by decide +kernel
theorem ni_dX10_init_0 : decode cX10_init 0 = .ok (.aload_n 0, 1) := by decide +kernel
theorem ni_dX10_init_1 : decode cX10_init 1 = .ok (.invokespecial 3, 3) := by decide +kernel
theorem ni_dX10_init_4 : decode cX10_init 4 = .ok (.aload_n 0, 1) := by decide +kernel
theorem ni_dX10_init_5 : decode cX10_init 5 = .ok (.sipush 216, 3) := by decide +kernel
theorem ni_dX10_init_8 : decode cX10_init 8 = .ok (.newarray .int, 2) := by decide +kernel
theorem ni_dX10_init_10 : decode cX10_init 10 = .ok (.putfield 11, 3) := by decide +kernel
theorem ni_dX10_init_13 : decode cX10_init 13 = .ok (.aload_n 0, 1) := by decide +kernel
theorem ni_dX10_init_14 : decode cX10_init 14 = .ok (.sipush 216, 3) := by decide +kernel
theorem ni_dX10_init_17 : decode cX10_init 17 = .ok (.newarray .int, 2) := by decide +kernel
theorem ni_dX10_init_19 : decode cX10_init 19 = .ok (.putfield 15, 3) := by decide +kernel
theorem ni_dX10_init_22 : decode cX10_init 22 = .ok (.aload_n 0, 1) := by decide +kernel
theorem ni_dX10_init_23 : decode cX10_init 23 = .ok (.sipush 216, 3) := by decide +kernel
theorem ni_dX10_init_26 : decode cX10_init 26 = .ok (.newarray .int, 2) := by decide +kernel
theorem ni_dX10_init_28 : decode cX10_init 28 = .ok (.putfield 18, 3) := by decide +kernel
theorem ni_dX10_init_31 : decode cX10_init 31 = .ok (.return_, 1) := by decide +kernel
theorem ni_dX10_behindNode_0 : decode cX10_behindNode 0 = .ok (.iload_n 1, 1) := by decide +kernel
theorem ni_dX10_behindNode_1 : decode cX10_behindNode 1 = .ok (.iload_n 2, 1) := by decide +kernel
theorem ni_dX10_behindNode_2 : decode cX10_behindNode 2 = .ok (.if_icmp .ge 19, 3) := by decide +kernel
theorem ni_dX10_behindNode_5 : decode cX10_behindNode 5 = .ok (.aload_n 0, 1) := by decide +kernel
theorem ni_dX10_behindNode_6 : decode cX10_behindNode 6 = .ok (.iload_n 1, 1) := by decide +kernel
theorem ni_dX10_behindNode_7 : decode cX10_behindNode 7 = .ok (.iaload, 1) := by decide +kernel
theorem ni_dX10_behindNode_8 : decode cX10_behindNode 8 = .ok (.invokestatic 25, 3) := by decide +kernel
theorem ni_dX10_behindNode_11 : decode cX10_behindNode 11 = .ok (.iload_n 3, 1) := by decide +kernel
theorem ni_dX10_behindNode_12 : decode cX10_behindNode 12 = .ok (.if_icmp .ne 9, 3) := by decide +kernel
theorem ni_dX10_behindNode_15 : decode cX10_behindNode 15 = .ok (.iload_n 1, 1) := by decide +kernel
theorem ni_dX10_behindNode_16 : decode cX10_behindNode 16 = .ok (.iconst 1, 1) := by decide +kernel
theorem ni_dX10_behindNode_17 : decode cX10_behindNode 17 = .ok (.iadd, 1) := by decide +kernel
theorem ni_dX10_behindNode_18 : decode cX10_behindNode 18 = .ok (.goto 4, 3) := by decide +kernel
theorem ni_dX10_behindNode_21 : decode cX10_behindNode 21 = .ok (.iload_n 1, 1) := by decide +kernel
theorem ni_dX10_behindNode_22 : decode cX10_behindNode 22 = .ok (.ireturn, 1) := by decide +kernel
theorem ni_dX10_copyFrom_0 : decode cX10_copyFrom 0 = .ok (.aload_n 0, 1) := by decide +kernel
theorem ni_dX10_copyFrom_1 : decode cX10_copyFrom 1 = .ok (.aload_n 1, 1) := by decide +kernel
theorem ni_dX10_copyFrom_2 : decode cX10_copyFrom 2 = .ok (.getfield 21, 3) := by decide +kernel
theorem ni_dX10_copyFrom_5 : decode cX10_copyFrom 5 = .ok (.putfield 21, 3) := by decide +kernel
theorem ni_dX10_copyFrom_8 : decode cX10_copyFrom 8 = .ok (.aload_n 1, 1) := by decide +kernel
theorem ni_dX10_copyFrom_9 : decode cX10_copyFrom 9 = .ok (.getfield 11, 3) := by decide +kernel
theorem ni_dX10_copyFrom_12 : decode cX10_copyFrom 12 = .ok (.iconst 0, 1) := by decide +kernel
theorem ni_dX10_copyFrom_13 : decode cX10_copyFrom 13 = .ok (.aload_n 0, 1) := by decide +kernel
theorem ni_dX10_copyFrom_14 : decode cX10_copyFrom 14 = .ok (.getfield 11, 3) := by decide +kernel
theorem ni_dX10_copyFrom_17 : decode cX10_copyFrom 17 = .ok (.iconst 0, 1) := by decide +kernel
theorem ni_dX10_copyFrom_18 : decode cX10_copyFrom 18 = .ok (.aload_n 0, 1) := by decide +kernel
theorem ni_dX10_copyFrom_19 : decode cX10_copyFrom 19 = .ok (.getfield 21, 3) := by decide +kernel
theorem ni_dX10_copyFrom_22 : decode cX10_copyFrom 22 = .ok (.invokestatic 71, 3) := by decide +kernel
theorem ni_dX10_copyFrom_25 : decode cX10_copyFrom 25 = .ok (.aload_n 1, 1) := by decide +kernel
theorem ni_dX10_copyFrom_26 : decode cX10_copyFrom 26 = .ok (.getfield 15, 3) := by decide +kernel
theorem ni_dX10_copyFrom_29 : decode cX10_copyFrom 29 = .ok (.iconst 0, 1) := by decide +kernel
theorem ni_dX10_copyFrom_30 : decode cX10_copyFrom 30 = .ok (.aload_n 0, 1) := by decide +kernel
theorem ni_dX10_copyFrom_31 : decode cX10_copyFrom 31 = .ok (.getfield 15, 3) := by decide +kernel
theorem ni_dX10_copyFrom_34 : decode cX10_copyFrom 34 = .ok (.iconst 0, 1) := by decide +kernel
theorem ni_dX10_copyFrom_35 : decode cX10_copyFrom 35 = .ok (.aload_n 0, 1) := by decide +kernel
theorem ni_dX10_copyFrom_36 : decode cX10_copyFrom 36 = .ok (.getfield 21, 3) := by decide +kernel
theorem ni_dX10_copyFrom_39 : decode cX10_copyFrom 39 = .ok (.invokestatic 71, 3) := by decide +kernel
theorem ni_dX10_copyFrom_42 : decode cX10_copyFrom 42 = .ok (.aload_n 1, 1) := by decide +kernel
theorem ni_dX10_copyFrom_43 : decode cX10_copyFrom 43 = .ok (.getfield 18, 3) := by decide +kernel
theorem ni_dX10_copyFrom_46 : decode cX10_copyFrom 46 = .ok (.iconst 0, 1) := by decide +kernel
theorem ni_dX10_copyFrom_47 : decode cX10_copyFrom 47 = .ok (.aload_n 0, 1) := by decide +kernel
theorem ni_dX10_copyFrom_48 : decode cX10_copyFrom 48 = .ok (.getfield 18, 3) := by decide +kernel
theorem ni_dX10_copyFrom_51 : decode cX10_copyFrom 51 = .ok (.iconst 0, 1) := by decide +kernel
theorem ni_dX10_copyFrom_52 : decode cX10_copyFrom 52 = .ok (.aload_n 0, 1) := by decide +kernel
theorem ni_dX10_copyFrom_53 : decode cX10_copyFrom 53 = .ok (.getfield 21, 3) := by decide +kernel
theorem ni_dX10_copyFrom_56 : decode cX10_copyFrom 56 = .ok (.invokestatic 71, 3) := by decide +kernel
theorem ni_dX10_copyFrom_59 : decode cX10_copyFrom 59 = .ok (.return_, 1) := by decide +kernel
theorem ni_dX10_countLevels_0 : decode cX10_countLevels 0 = .ok (.aload_n 0, 1) := by decide +kernel
theorem ni_dX10_countLevels_1 : decode cX10_countLevels 1 = .ok (.getfield 11, 3) := by decide +kernel
theorem ni_dX10_countLevels_4 : decode cX10_countLevels 4 = .ok (.iconst 0, 1) := by decide +kernel
theorem ni_dX10_countLevels_5 : decode cX10_countLevels 5 = .ok (.aload_n 0, 1) := by decide +kernel
theorem ni_dX10_countLevels_6 : decode cX10_countLevels 6 = .ok (.getfield 21, 3) := by decide +kernel
theorem ni_dX10_countLevels_9 : decode cX10_countLevels 9 = .ok (.iconst 0, 1) := by decide +kernel
theorem ni_dX10_countLevels_10 : decode cX10_countLevels 10 = .ok (.iconst 0, 1) := by decide +kernel
theorem ni_dX10_countLevels_11 : decode cX10_countLevels 11 = .ok (.invokestatic 39, 3) := by decide +kernel
theorem ni_dX10_countLevels_14 : decode cX10_countLevels 14 = .ok (.ireturn, 1) := by decide +kernel
theorem ni_dX10_countNodes_0 : decode cX10_countNodes 0 = .ok (.aload_n 0, 1) := by decide +kernel
theorem ni_dX10_countNodes_1 : decode cX10_countNodes 1 = .ok (.getfield 11, 3) := by decide +kernel
theorem ni_dX10_countNodes_4 : decode cX10_countNodes 4 = .ok (.iconst 0, 1) := by decide +kernel
theorem ni_dX10_countNodes_5 : decode cX10_countNodes 5 = .ok (.aload_n 0, 1) := by decide +kernel
theorem ni_dX10_countNodes_6 : decode cX10_countNodes 6 = .ok (.getfield 21, 3) := by decide +kernel
theorem ni_dX10_countNodes_9 : decode cX10_countNodes 9 = .ok (.iconst 0, 1) := by decide +kernel
theorem ni_dX10_countNodes_10 : decode cX10_countNodes 10 = .ok (.iconst 0, 1) := by decide +kernel
theorem ni_dX10_countNodes_11 : decode cX10_countNodes 11 = .ok (.invokestatic 35, 3) := by decide +kernel
theorem ni_dX10_countNodes_14 : decode cX10_countNodes 14 = .ok (.ireturn, 1) := by decide +kernel
theorem ni_dX10_enter_0 : decode cX10_enter 0 = .ok (.iconst 0, 1) := by decide +kernel
theorem ni_dX10_enter_1 : decode cX10_enter 1 = .ok (.istore 4, 2) := by decide +kernel
theorem ni_dX10_enter_3 : decode cX10_enter 3 = .ok (.iload 4, 2) := by decide +kernel
theorem ni_dX10_enter_5 : decode cX10_enter 5 = .ok (.aload_n 0, 1) := by decide +kernel
theorem ni_dX10_enter_6 : decode cX10_enter 6 = .ok (.getfield 21, 3) := by decide +kernel
theorem ni_dX10_enter_9 : decode cX10_enter 9 = .ok (.if_icmp .ge 20, 3) := by decide +kernel
theorem ni_dX10_enter_12 : decode cX10_enter 12 = .ok (.aload_n 0, 1) := by decide +kernel
theorem ni_dX10_enter_13 : decode cX10_enter 13 = .ok (.getfield 11, 3) := by decide +kernel
theorem ni_dX10_enter_16 : decode cX10_enter 16 = .ok (.iload 4, 2) := by decide +kernel
theorem ni_dX10_enter_18 : decode cX10_enter 18 = .ok (.iaload, 1) := by decide +kernel
theorem ni_dX10_enter_19 : decode cX10_enter 19 = .ok (.iload_n 1, 1) := by decide +kernel
theorem ni_dX10_enter_20 : decode cX10_enter 20 = .ok (.if_icmp .ge 9, 3) := by decide +kernel
theorem ni_dX10_enter_23 : decode cX10_enter 23 = .ok (.iinc 4 1, 3) := by decide +kernel
theorem ni_dX10_enter_26 : decode cX10_enter 26 = .ok (.goto (-23), 3) := by decide +kernel
theorem ni_dX10_enter_29 : decode cX10_enter 29 = .ok (.iload 4, 2) := by decide +kernel
theorem ni_dX10_enter_31 : decode cX10_enter 31 = .ok (.aload_n 0, 1) := by decide +kernel
theorem ni_dX10_enter_32 : decode cX10_enter 32 = .ok (.getfield 21, 3) := by decide +kernel
theorem ni_dX10_enter_35 : decode cX10_enter 35 = .ok (.if_icmp .ge 18, 3) := by decide +kernel
theorem ni_dX10_enter_38 : decode cX10_enter 38 = .ok (.aload_n 0, 1) := by decide +kernel
theorem ni_dX10_enter_39 : decode cX10_enter 39 = .ok (.getfield 11, 3) := by decide +kernel
theorem ni_dX10_enter_42 : decode cX10_enter 42 = .ok (.iload 4, 2) := by decide +kernel
theorem ni_dX10_enter_44 : decode cX10_enter 44 = .ok (.iaload, 1) := by decide +kernel
theorem ni_dX10_enter_45 : decode cX10_enter 45 = .ok (.iload_n 1, 1) := by decide +kernel
theorem ni_dX10_enter_46 : decode cX10_enter 46 = .ok (.if_icmp .ne 7, 3) := by decide +kernel
theorem ni_dX10_enter_49 : decode cX10_enter 49 = .ok (.iconst 1, 1) := by decide +kernel
theorem ni_dX10_enter_50 : decode cX10_enter 50 = .ok (.goto 4, 3) := by decide +kernel
theorem ni_dX10_enter_53 : decode cX10_enter 53 = .ok (.iconst 0, 1) := by decide +kernel
theorem ni_dX10_enter_54 : decode cX10_enter 54 = .ok (.istore 5, 2) := by decide +kernel
theorem ni_dX10_enter_56 : decode cX10_enter 56 = .ok (.iload 5, 2) := by decide +kernel
theorem ni_dX10_enter_58 : decode cX10_enter 58 = .ok (.ifCond .ne 13, 3) := by decide +kernel
theorem ni_dX10_enter_61 : decode cX10_enter 61 = .ok (.aload_n 0, 1) := by decide +kernel
theorem ni_dX10_enter_62 : decode cX10_enter 62 = .ok (.getfield 21, 3) := by decide +kernel
theorem ni_dX10_enter_65 : decode cX10_enter 65 = .ok (.sipush 216, 3) := by decide +kernel
theorem ni_dX10_enter_68 : decode cX10_enter 68 = .ok (.if_icmp .lt 4, 3) := by decide +kernel
theorem ni_dX10_enter_71 : decode cX10_enter 71 = .ok (.return_, 1) := by decide +kernel
theorem ni_dX10_enter_72 : decode cX10_enter 72 = .ok (.aload_n 0, 1) := by decide +kernel
theorem ni_dX10_enter_73 : decode cX10_enter 73 = .ok (.getfield 21, 3) := by decide +kernel
theorem ni_dX10_enter_76 : decode cX10_enter 76 = .ok (.istore 6, 2) := by decide +kernel
theorem ni_dX10_enter_78 : decode cX10_enter 78 = .ok (.iload 6, 2) := by decide +kernel
theorem ni_dX10_enter_80 : decode cX10_enter 80 = .ok (.iload 4, 2) := by decide +kernel
theorem ni_dX10_enter_82 : decode cX10_enter 82 = .ok (.if_icmp .le 57, 3) := by decide +kernel
theorem ni_dX10_enter_85 : decode cX10_enter 85 = .ok (.aload_n 0, 1) := by decide +kernel
theorem ni_dX10_enter_86 : decode cX10_enter 86 = .ok (.getfield 11, 3) := by decide +kernel
theorem ni_dX10_enter_89 : decode cX10_enter 89 = .ok (.iload 6, 2) := by decide +kernel
theorem ni_dX10_enter_91 : decode cX10_enter 91 = .ok (.aload_n 0, 1) := by decide +kernel
theorem ni_dX10_enter_92 : decode cX10_enter 92 = .ok (.getfield 11, 3) := by decide +kernel
theorem ni_dX10_enter_95 : decode cX10_enter 95 = .ok (.iload 6, 2) := by decide +kernel
theorem ni_dX10_enter_97 : decode cX10_enter 97 = .ok (.iconst 1, 1) := by decide +kernel
theorem ni_dX10_enter_98 : decode cX10_enter 98 = .ok (.isub, 1) := by decide +kernel
theorem ni_dX10_enter_99 : decode cX10_enter 99 = .ok (.iaload, 1) := by decide +kernel
theorem ni_dX10_enter_100 : decode cX10_enter 100 = .ok (.iastore, 1) := by decide +kernel
theorem ni_dX10_enter_101 : decode cX10_enter 101 = .ok (.aload_n 0, 1) := by decide +kernel
theorem ni_dX10_enter_102 : decode cX10_enter 102 = .ok (.getfield 15, 3) := by decide +kernel
theorem ni_dX10_enter_105 : decode cX10_enter 105 = .ok (.iload 6, 2) := by decide +kernel
theorem ni_dX10_enter_107 : decode cX10_enter 107 = .ok (.aload_n 0, 1) := by decide +kernel
theorem ni_dX10_enter_108 : decode cX10_enter 108 = .ok (.getfield 15, 3) := by decide +kernel
theorem ni_dX10_enter_111 : decode cX10_enter 111 = .ok (.iload 6, 2) := by decide +kernel
theorem ni_dX10_enter_113 : decode cX10_enter 113 = .ok (.iconst 1, 1) := by decide +kernel
theorem ni_dX10_enter_114 : decode cX10_enter 114 = .ok (.isub, 1) := by decide +kernel
theorem ni_dX10_enter_115 : decode cX10_enter 115 = .ok (.iaload, 1) := by decide +kernel
theorem ni_dX10_enter_116 : decode cX10_enter 116 = .ok (.iastore, 1) := by decide +kernel
theorem ni_dX10_enter_117 : decode cX10_enter 117 = .ok (.aload_n 0, 1) := by decide +kernel
theorem ni_dX10_enter_118 : decode cX10_enter 118 = .ok (.getfield 18, 3) := by decide +kernel
theorem ni_dX10_enter_121 : decode cX10_enter 121 = .ok (.iload 6, 2) := by decide +kernel
theorem ni_dX10_enter_123 : decode cX10_enter 123 = .ok (.aload_n 0, 1) := by decide +kernel
theorem ni_dX10_enter_124 : decode cX10_enter 124 = .ok (.getfield 18, 3) := by decide +kernel
theorem ni_dX10_enter_127 : decode cX10_enter 127 = .ok (.iload 6, 2) := by decide +kernel
theorem ni_dX10_enter_129 : decode cX10_enter 129 = .ok (.iconst 1, 1) := by decide +kernel
theorem ni_dX10_enter_130 : decode cX10_enter 130 = .ok (.isub, 1) := by decide +kernel
theorem ni_dX10_enter_131 : decode cX10_enter 131 = .ok (.iaload, 1) := by decide +kernel
theorem ni_dX10_enter_132 : decode cX10_enter 132 = .ok (.iastore, 1) := by decide +kernel
theorem ni_dX10_enter_133 : decode cX10_enter 133 = .ok (.iinc 6 (-1), 3) := by decide +kernel
theorem ni_dX10_enter_136 : decode cX10_enter 136 = .ok (.goto (-58), 3) := by decide +kernel
theorem ni_dX10_enter_139 : decode cX10_enter 139 = .ok (.aload_n 0, 1) := by decide +kernel
theorem ni_dX10_enter_140 : decode cX10_enter 140 = .ok (.getfield 11, 3) := by decide +kernel
theorem ni_dX10_enter_143 : decode cX10_enter 143 = .ok (.iload 4, 2) := by decide +kernel
theorem ni_dX10_enter_145 : decode cX10_enter 145 = .ok (.iload_n 1, 1) := by decide +kernel
theorem ni_dX10_enter_146 : decode cX10_enter 146 = .ok (.iastore, 1) := by decide +kernel
theorem ni_dX10_enter_147 : decode cX10_enter 147 = .ok (.aload_n 0, 1) := by decide +kernel
theorem ni_dX10_enter_148 : decode cX10_enter 148 = .ok (.getfield 15, 3) := by decide +kernel
theorem ni_dX10_enter_151 : decode cX10_enter 151 = .ok (.iload 4, 2) := by decide +kernel
theorem ni_dX10_enter_153 : decode cX10_enter 153 = .ok (.iload_n 2, 1) := by decide +kernel
theorem ni_dX10_enter_154 : decode cX10_enter 154 = .ok (.iastore, 1) := by decide +kernel
theorem ni_dX10_enter_155 : decode cX10_enter 155 = .ok (.aload_n 0, 1) := by decide +kernel
theorem ni_dX10_enter_156 : decode cX10_enter 156 = .ok (.getfield 18, 3) := by decide +kernel
theorem ni_dX10_enter_159 : decode cX10_enter 159 = .ok (.iload 4, 2) := by decide +kernel
theorem ni_dX10_enter_161 : decode cX10_enter 161 = .ok (.iload_n 3, 1) := by decide +kernel
theorem ni_dX10_enter_162 : decode cX10_enter 162 = .ok (.iastore, 1) := by decide +kernel
theorem ni_dX10_enter_163 : decode cX10_enter 163 = .ok (.aload_n 0, 1) := by decide +kernel
theorem ni_dX10_enter_164 : decode cX10_enter 164 = .ok (.dup, 1) := by decide +kernel
theorem ni_dX10_enter_165 : decode cX10_enter 165 = .ok (.getfield 21, 3) := by decide +kernel
theorem ni_dX10_enter_168 : decode cX10_enter 168 = .ok (.iconst 1, 1) := by decide +kernel
theorem ni_dX10_enter_169 : decode cX10_enter 169 = .ok (.iadd, 1) := by decide +kernel
theorem ni_dX10_enter_170 : decode cX10_enter 170 = .ok (.putfield 21, 3) := by decide +kernel
theorem ni_dX10_enter_173 : decode cX10_enter 173 = .ok (.return_, 1) := by decide +kernel
theorem ni_dX10_find_0 : decode cX10_find 0 = .ok (.iconst (-1), 1) := by decide +kernel
theorem ni_dX10_find_1 : decode cX10_find 1 = .ok (.istore_n 2, 1) := by decide +kernel
theorem ni_dX10_find_2 : decode cX10_find 2 = .ok (.iconst (-1), 1) := by decide +kernel
theorem ni_dX10_find_3 : decode cX10_find 3 = .ok (.istore_n 3, 1) := by decide +kernel
theorem ni_dX10_find_4 : decode cX10_find 4 = .ok (.iconst 0, 1) := by decide +kernel
theorem ni_dX10_find_5 : decode cX10_find 5 = .ok (.istore 4, 2) := by decide +kernel
theorem ni_dX10_find_7 : decode cX10_find 7 = .ok (.iload 4, 2) := by decide +kernel
theorem ni_dX10_find_9 : decode cX10_find 9 = .ok (.aload_n 0, 1) := by decide +kernel
theorem ni_dX10_find_10 : decode cX10_find 10 = .ok (.getfield 21, 3) := by decide +kernel
theorem ni_dX10_find_13 : decode cX10_find 13 = .ok (.if_icmp .ge 47, 3) := by decide +kernel
theorem ni_dX10_find_16 : decode cX10_find 16 = .ok (.aload_n 0, 1) := by decide +kernel
theorem ni_dX10_find_17 : decode cX10_find 17 = .ok (.getfield 11, 3) := by decide +kernel
theorem ni_dX10_find_20 : decode cX10_find 20 = .ok (.iload 4, 2) := by decide +kernel
theorem ni_dX10_find_22 : decode cX10_find 22 = .ok (.iaload, 1) := by decide +kernel
theorem ni_dX10_find_23 : decode cX10_find 23 = .ok (.invokestatic 25, 3) := by decide +kernel
theorem ni_dX10_find_26 : decode cX10_find 26 = .ok (.istore 5, 2) := by decide +kernel
theorem ni_dX10_find_28 : decode cX10_find 28 = .ok (.iload 5, 2) := by decide +kernel
theorem ni_dX10_find_30 : decode cX10_find 30 = .ok (.iload_n 3, 1) := by decide +kernel
theorem ni_dX10_find_31 : decode cX10_find 31 = .ok (.if_icmp .le 23, 3) := by decide +kernel
theorem ni_dX10_find_34 : decode cX10_find 34 = .ok (.aload_n 0, 1) := by decide +kernel
theorem ni_dX10_find_35 : decode cX10_find 35 = .ok (.getfield 11, 3) := by decide +kernel
theorem ni_dX10_find_38 : decode cX10_find 38 = .ok (.iload 4, 2) := by decide +kernel
theorem ni_dX10_find_40 : decode cX10_find 40 = .ok (.iaload, 1) := by decide +kernel
theorem ni_dX10_find_41 : decode cX10_find 41 = .ok (.iload_n 1, 1) := by decide +kernel
theorem ni_dX10_find_42 : decode cX10_find 42 = .ok (.invokestatic 31, 3) := by decide +kernel
theorem ni_dX10_find_45 : decode cX10_find 45 = .ok (.ifCond .eq 9, 3) := by decide +kernel
theorem ni_dX10_find_48 : decode cX10_find 48 = .ok (.iload 4, 2) := by decide +kernel
theorem ni_dX10_find_50 : decode cX10_find 50 = .ok (.istore_n 2, 1) := by decide +kernel
theorem ni_dX10_find_51 : decode cX10_find 51 = .ok (.iload 5, 2) := by decide +kernel
theorem ni_dX10_find_53 : decode cX10_find 53 = .ok (.istore_n 3, 1) := by decide +kernel
theorem ni_dX10_find_54 : decode cX10_find 54 = .ok (.iinc 4 1, 3) := by decide +kernel
theorem ni_dX10_find_57 : decode cX10_find 57 = .ok (.goto (-50), 3) := by decide +kernel
theorem ni_dX10_find_60 : decode cX10_find 60 = .ok (.iload_n 2, 1) := by decide +kernel
theorem ni_dX10_find_61 : decode cX10_find 61 = .ok (.ireturn, 1) := by decide +kernel
theorem ni_dX10_firstWithBit_0 : decode cX10_firstWithBit 0 = .ok (.iload_n 1, 1) := by decide +kernel
theorem ni_dX10_firstWithBit_1 : decode cX10_firstWithBit 1 = .ok (.istore 4, 2) := by decide +kernel
theorem ni_dX10_firstWithBit_3 : decode cX10_firstWithBit 3 = .ok (.iload 4, 2) := by decide +kernel
theorem ni_dX10_firstWithBit_5 : decode cX10_firstWithBit 5 = .ok (.iload_n 2, 1) := by decide +kernel
theorem ni_dX10_firstWithBit_6 : decode cX10_firstWithBit 6 = .ok (.if_icmp .ge 23, 3) := by decide +kernel
theorem ni_dX10_firstWithBit_9 : decode cX10_firstWithBit 9 = .ok (.aload_n 0, 1) := by decide +kernel
theorem ni_dX10_firstWithBit_10 : decode cX10_firstWithBit 10 = .ok (.iload 4, 2) := by decide +kernel
theorem ni_dX10_firstWithBit_12 : decode cX10_firstWithBit 12 = .ok (.iaload, 1) := by decide +kernel
theorem ni_dX10_firstWithBit_13 : decode cX10_firstWithBit 13 = .ok (.invokestatic 56, 3) := by decide +kernel
theorem ni_dX10_firstWithBit_16 : decode cX10_firstWithBit 16 = .ok (.iload_n 3, 1) := by decide +kernel
theorem ni_dX10_firstWithBit_17 : decode cX10_firstWithBit 17 = .ok (.invokestatic 49, 3) := by decide +kernel
theorem ni_dX10_firstWithBit_20 : decode cX10_firstWithBit 20 = .ok (.ifCond .ne 9, 3) := by decide +kernel
theorem ni_dX10_firstWithBit_23 : decode cX10_firstWithBit 23 = .ok (.iinc 4 1, 3) := by decide +kernel
theorem ni_dX10_firstWithBit_26 : decode cX10_firstWithBit 26 = .ok (.goto (-23), 3) := by decide +kernel
theorem ni_dX10_firstWithBit_29 : decode cX10_firstWithBit 29 = .ok (.iload 4, 2) := by decide +kernel
theorem ni_dX10_firstWithBit_31 : decode cX10_firstWithBit 31 = .ok (.ireturn, 1) := by decide +kernel
theorem ni_dX10_levelsOf_0 : decode cX10_levelsOf 0 = .ok (.iload 4, 2) := by decide +kernel
theorem ni_dX10_levelsOf_2 : decode cX10_levelsOf 2 = .ok (.bipush 16, 2) := by decide +kernel
theorem ni_dX10_levelsOf_4 : decode cX10_levelsOf 4 = .ok (.if_icmp .le 5, 3) := by decide +kernel
theorem ni_dX10_levelsOf_7 : decode cX10_levelsOf 7 = .ok (.iconst 0, 1) := by decide +kernel
theorem ni_dX10_levelsOf_8 : decode cX10_levelsOf 8 = .ok (.ireturn, 1) := by decide +kernel
theorem ni_dX10_levelsOf_9 : decode cX10_levelsOf 9 = .ok (.aload_n 0, 1) := by decide +kernel
theorem ni_dX10_levelsOf_10 : decode cX10_levelsOf 10 = .ok (.iload_n 1, 1) := by decide +kernel
theorem ni_dX10_levelsOf_11 : decode cX10_levelsOf 11 = .ok (.iload_n 2, 1) := by decide +kernel
theorem ni_dX10_levelsOf_12 : decode cX10_levelsOf 12 = .ok (.iload_n 3, 1) := by decide +kernel
theorem ni_dX10_levelsOf_13 : decode cX10_levelsOf 13 = .ok (.invokestatic 42, 3) := by decide +kernel
theorem ni_dX10_levelsOf_16 : decode cX10_levelsOf 16 = .ok (.istore 5, 2) := by decide +kernel
theorem ni_dX10_levelsOf_18 : decode cX10_levelsOf 18 = .ok (.aload_n 0, 1) := by decide +kernel
theorem ni_dX10_levelsOf_19 : decode cX10_levelsOf 19 = .ok (.iload 5, 2) := by decide +kernel
theorem ni_dX10_levelsOf_21 : decode cX10_levelsOf 21 = .ok (.iload_n 2, 1) := by decide +kernel
theorem ni_dX10_levelsOf_22 : decode cX10_levelsOf 22 = .ok (.iload_n 3, 1) := by decide +kernel
theorem ni_dX10_levelsOf_23 : decode cX10_levelsOf 23 = .ok (.invokestatic 46, 3) := by decide +kernel
theorem ni_dX10_levelsOf_26 : decode cX10_levelsOf 26 = .ok (.istore 6, 2) := by decide +kernel
theorem ni_dX10_levelsOf_28 : decode cX10_levelsOf 28 = .ok (.iconst 0, 1) := by decide +kernel
theorem ni_dX10_levelsOf_29 : decode cX10_levelsOf 29 = .ok (.istore 7, 2) := by decide +kernel
theorem ni_dX10_levelsOf_31 : decode cX10_levelsOf 31 = .ok (.iload 5, 2) := by decide +kernel
theorem ni_dX10_levelsOf_33 : decode cX10_levelsOf 33 = .ok (.iload 6, 2) := by decide +kernel
theorem ni_dX10_levelsOf_35 : decode cX10_levelsOf 35 = .ok (.if_icmp .ge 25, 3) := by decide +kernel
theorem ni_dX10_levelsOf_38 : decode cX10_levelsOf 38 = .ok (.aload_n 0, 1) := by decide +kernel
theorem ni_dX10_levelsOf_39 : decode cX10_levelsOf 39 = .ok (.iload 5, 2) := by decide +kernel
theorem ni_dX10_levelsOf_41 : decode cX10_levelsOf 41 = .ok (.iload 6, 2) := by decide +kernel
theorem ni_dX10_levelsOf_43 : decode cX10_levelsOf 43 = .ok (.aload_n 0, 1) := by decide +kernel
theorem ni_dX10_levelsOf_44 : decode cX10_levelsOf 44 = .ok (.iload 5, 2) := by decide +kernel
theorem ni_dX10_levelsOf_46 : decode cX10_levelsOf 46 = .ok (.iload 6, 2) := by decide +kernel
theorem ni_dX10_levelsOf_48 : decode cX10_levelsOf 48 = .ok (.invokestatic 52, 3) := by decide +kernel
theorem ni_dX10_levelsOf_51 : decode cX10_levelsOf 51 = .ok (.iload 4, 2) := by decide +kernel
theorem ni_dX10_levelsOf_53 : decode cX10_levelsOf 53 = .ok (.iconst 1, 1) := by decide +kernel
theorem ni_dX10_levelsOf_54 : decode cX10_levelsOf 54 = .ok (.iadd, 1) := by decide +kernel
theorem ni_dX10_levelsOf_55 : decode cX10_levelsOf 55 = .ok (.invokestatic 39, 3) := by decide +kernel
theorem ni_dX10_levelsOf_58 : decode cX10_levelsOf 58 = .ok (.istore 7, 2) := by decide +kernel
theorem ni_dX10_levelsOf_60 : decode cX10_levelsOf 60 = .ok (.iload 6, 2) := by decide +kernel
theorem ni_dX10_levelsOf_62 : decode cX10_levelsOf 62 = .ok (.iload_n 2, 1) := by decide +kernel
theorem ni_dX10_levelsOf_63 : decode cX10_levelsOf 63 = .ok (.if_icmp .ge 28, 3) := by decide +kernel
theorem ni_dX10_levelsOf_66 : decode cX10_levelsOf 66 = .ok (.iload 7, 2) := by decide +kernel
theorem ni_dX10_levelsOf_68 : decode cX10_levelsOf 68 = .ok (.aload_n 0, 1) := by decide +kernel
theorem ni_dX10_levelsOf_69 : decode cX10_levelsOf 69 = .ok (.iload 6, 2) := by decide +kernel
theorem ni_dX10_levelsOf_71 : decode cX10_levelsOf 71 = .ok (.iload_n 2, 1) := by decide +kernel
theorem ni_dX10_levelsOf_72 : decode cX10_levelsOf 72 = .ok (.aload_n 0, 1) := by decide +kernel
theorem ni_dX10_levelsOf_73 : decode cX10_levelsOf 73 = .ok (.iload 6, 2) := by decide +kernel
theorem ni_dX10_levelsOf_75 : decode cX10_levelsOf 75 = .ok (.iload_n 2, 1) := by decide +kernel
theorem ni_dX10_levelsOf_76 : decode cX10_levelsOf 76 = .ok (.invokestatic 52, 3) := by decide +kernel
theorem ni_dX10_levelsOf_79 : decode cX10_levelsOf 79 = .ok (.iload 4, 2) := by decide +kernel
theorem ni_dX10_levelsOf_81 : decode cX10_levelsOf 81 = .ok (.iconst 1, 1) := by decide +kernel
theorem ni_dX10_levelsOf_82 : decode cX10_levelsOf 82 = .ok (.iadd, 1) := by decide +kernel
theorem ni_dX10_levelsOf_83 : decode cX10_levelsOf 83 = .ok (.invokestatic 39, 3) := by decide +kernel
theorem ni_dX10_levelsOf_86 : decode cX10_levelsOf 86 = .ok (.invokestatic 63, 3) := by decide +kernel
theorem ni_dX10_levelsOf_89 : decode cX10_levelsOf 89 = .ok (.istore 7, 2) := by decide +kernel
theorem ni_dX10_levelsOf_91 : decode cX10_levelsOf 91 = .ok (.iconst 1, 1) := by decide +kernel
theorem ni_dX10_levelsOf_92 : decode cX10_levelsOf 92 = .ok (.iload 7, 2) := by decide +kernel
theorem ni_dX10_levelsOf_94 : decode cX10_levelsOf 94 = .ok (.iadd, 1) := by decide +kernel
theorem ni_dX10_levelsOf_95 : decode cX10_levelsOf 95 = .ok (.ireturn, 1) := by decide +kernel
theorem ni_dX10_nodeLength_0 : decode cX10_nodeLength 0 = .ok (.aload_n 0, 1) := by decide +kernel
theorem ni_dX10_nodeLength_1 : decode cX10_nodeLength 1 = .ok (.iload_n 1, 1) := by decide +kernel
theorem ni_dX10_nodeLength_2 : decode cX10_nodeLength 2 = .ok (.iaload, 1) := by decide +kernel
theorem ni_dX10_nodeLength_3 : decode cX10_nodeLength 3 = .ok (.invokestatic 56, 3) := by decide +kernel
theorem ni_dX10_nodeLength_6 : decode cX10_nodeLength 6 = .ok (.istore_n 3, 1) := by decide +kernel
theorem ni_dX10_nodeLength_7 : decode cX10_nodeLength 7 = .ok (.aload_n 0, 1) := by decide +kernel
theorem ni_dX10_nodeLength_8 : decode cX10_nodeLength 8 = .ok (.iload_n 2, 1) := by decide +kernel
theorem ni_dX10_nodeLength_9 : decode cX10_nodeLength 9 = .ok (.iconst 1, 1) := by decide +kernel
theorem ni_dX10_nodeLength_10 : decode cX10_nodeLength 10 = .ok (.isub, 1) := by decide +kernel
theorem ni_dX10_nodeLength_11 : decode cX10_nodeLength 11 = .ok (.iaload, 1) := by decide +kernel
theorem ni_dX10_nodeLength_12 : decode cX10_nodeLength 12 = .ok (.invokestatic 56, 3) := by decide +kernel
theorem ni_dX10_nodeLength_15 : decode cX10_nodeLength 15 = .ok (.istore 4, 2) := by decide +kernel
theorem ni_dX10_nodeLength_17 : decode cX10_nodeLength 17 = .ok (.iload_n 3, 1) := by decide +kernel
theorem ni_dX10_nodeLength_18 : decode cX10_nodeLength 18 = .ok (.iload 4, 2) := by decide +kernel
theorem ni_dX10_nodeLength_20 : decode cX10_nodeLength 20 = .ok (.invokestatic 59, 3) := by decide +kernel
theorem ni_dX10_nodeLength_23 : decode cX10_nodeLength 23 = .ok (.aload_n 0, 1) := by decide +kernel
theorem ni_dX10_nodeLength_24 : decode cX10_nodeLength 24 = .ok (.iload_n 1, 1) := by decide +kernel
theorem ni_dX10_nodeLength_25 : decode cX10_nodeLength 25 = .ok (.iaload, 1) := by decide +kernel
