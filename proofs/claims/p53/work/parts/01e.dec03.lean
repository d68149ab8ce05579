theorem ni_dX4_linkToward_17 : decode cX4_linkToward 17 = .ok (.getfield 122, 3) := by decide +kernel
theorem ni_dX4_linkToward_20 : decode cX4_linkToward 20 = .ok (.invokevirtual 268, 3) := by decide +kernel
theorem ni_dX4_linkToward_23 : decode cX4_linkToward 23 = .ok (.istore 4, 2) := by decide +kernel
theorem ni_dX4_linkToward_25 : decode cX4_linkToward 25 = .ok (.iload 4, 2) := by decide +kernel
theorem ni_dX4_linkToward_27 : decode cX4_linkToward 27 = .ok (.iconst (-1), 1) := by decide +kernel
theorem ni_dX4_linkToward_28 : decode cX4_linkToward 28 = .ok (.if_icmp .ne 5, 3) := by decide +kernel
theorem ni_dX4_linkToward_31 : decode cX4_linkToward 31 = .ok (.iconst (-1), 1) := by decide +kernel
theorem ni_dX4_linkToward_32 : decode cX4_linkToward 32 = .ok (.ireturn, 1) := by decide +kernel
theorem ni_dX4_linkToward_33 : decode cX4_linkToward 33 = .ok (.aload_n 3, 1) := by decide +kernel
theorem ni_dX4_linkToward_34 : decode cX4_linkToward 34 = .ok (.getfield 273, 3) := by decide +kernel
theorem ni_dX4_linkToward_37 : decode cX4_linkToward 37 = .ok (.iload 4, 2) := by decide +kernel
theorem ni_dX4_linkToward_39 : decode cX4_linkToward 39 = .ok (.iaload, 1) := by decide +kernel
theorem ni_dX4_linkToward_40 : decode cX4_linkToward 40 = .ok (.ifCond .ne 6, 3) := by decide +kernel
theorem ni_dX4_linkToward_43 : decode cX4_linkToward 43 = .ok (.bipush (-2), 2) := by decide +kernel
theorem ni_dX4_linkToward_45 : decode cX4_linkToward 45 = .ok (.ireturn, 1) := by decide +kernel
theorem ni_dX4_linkToward_46 : decode cX4_linkToward 46 = .ok (.aload_n 3, 1) := by decide +kernel
theorem ni_dX4_linkToward_47 : decode cX4_linkToward 47 = .ok (.getfield 276, 3) := by decide +kernel
theorem ni_dX4_linkToward_50 : decode cX4_linkToward 50 = .ok (.iload 4, 2) := by decide +kernel
theorem ni_dX4_linkToward_52 : decode cX4_linkToward 52 = .ok (.iaload, 1) := by decide +kernel
theorem ni_dX4_linkToward_53 : decode cX4_linkToward 53 = .ok (.istore 5, 2) := by decide +kernel
theorem ni_dX4_linkToward_55 : decode cX4_linkToward 55 = .ok (.iload 5, 2) := by decide +kernel
theorem ni_dX4_linkToward_57 : decode cX4_linkToward 57 = .ok (.invokestatic 279, 3) := by decide +kernel
theorem ni_dX4_linkToward_60 : decode cX4_linkToward 60 = .ok (.istore 6, 2) := by decide +kernel
theorem ni_dX4_linkToward_62 : decode cX4_linkToward 62 = .ok (.iload 6, 2) := by decide +kernel
theorem ni_dX4_linkToward_64 : decode cX4_linkToward 64 = .ok (.ifCond .ne 7, 3) := by decide +kernel
theorem ni_dX4_linkToward_67 : decode cX4_linkToward 67 = .ok (.iconst (-1), 1) := by decide +kernel
theorem ni_dX4_linkToward_68 : decode cX4_linkToward 68 = .ok (.goto 17, 3) := by decide +kernel
theorem ni_dX4_linkToward_71 : decode cX4_linkToward 71 = .ok (.iload 5, 2) := by decide +kernel
theorem ni_dX4_linkToward_73 : decode cX4_linkToward 73 = .ok (.iload_n 2, 1) := by decide +kernel
theorem ni_dX4_linkToward_74 : decode cX4_linkToward 74 = .ok (.bipush 7, 2) := by decide +kernel
theorem ni_dX4_linkToward_76 : decode cX4_linkToward 76 = .ok (.imul, 1) := by decide +kernel
theorem ni_dX4_linkToward_77 : decode cX4_linkToward 77 = .ok (.iload_n 1, 1) := by decide +kernel
theorem ni_dX4_linkToward_78 : decode cX4_linkToward 78 = .ok (.iadd, 1) := by decide +kernel
theorem ni_dX4_linkToward_79 : decode cX4_linkToward 79 = .ok (.iload 6, 2) := by decide +kernel
theorem ni_dX4_linkToward_81 : decode cX4_linkToward 81 = .ok (.irem, 1) := by decide +kernel
theorem ni_dX4_linkToward_82 : decode cX4_linkToward 82 = .ok (.invokestatic 284, 3) := by decide +kernel
theorem ni_dX4_linkToward_85 : decode cX4_linkToward 85 = .ok (.ireturn, 1) := by decide +kernel
theorem ni_dX4_newFlow_0 : decode cX4_newFlow 0 = .ok (.aload_n 0, 1) := by decide +kernel
theorem ni_dX4_newFlow_1 : decode cX4_newFlow 1 = .ok (.getfield 25, 3) := by decide +kernel
theorem ni_dX4_newFlow_4 : decode cX4_newFlow 4 = .ok (.aload_n 0, 1) := by decide +kernel
theorem ni_dX4_newFlow_5 : decode cX4_newFlow 5 = .ok (.getfield 116, 3) := by decide +kernel
theorem ni_dX4_newFlow_8 : decode cX4_newFlow 8 = .ok (.aaload, 1) := by decide +kernel
theorem ni_dX4_newFlow_9 : decode cX4_newFlow 9 = .ok (.astore 5, 2) := by decide +kernel
theorem ni_dX4_newFlow_11 : decode cX4_newFlow 11 = .ok (.aload 5, 2) := by decide +kernel
theorem ni_dX4_newFlow_13 : decode cX4_newFlow 13 = .ok (.iload_n 1, 1) := by decide +kernel
theorem ni_dX4_newFlow_14 : decode cX4_newFlow 14 = .ok (.putfield 119, 3) := by decide +kernel
theorem ni_dX4_newFlow_17 : decode cX4_newFlow 17 = .ok (.aload 5, 2) := by decide +kernel
theorem ni_dX4_newFlow_19 : decode cX4_newFlow 19 = .ok (.iload_n 2, 1) := by decide +kernel
theorem ni_dX4_newFlow_20 : decode cX4_newFlow 20 = .ok (.putfield 122, 3) := by decide +kernel
theorem ni_dX4_newFlow_23 : decode cX4_newFlow 23 = .ok (.aload 5, 2) := by decide +kernel
theorem ni_dX4_newFlow_25 : decode cX4_newFlow 25 = .ok (.iload_n 3, 1) := by decide +kernel
theorem ni_dX4_newFlow_26 : decode cX4_newFlow 26 = .ok (.putfield 125, 3) := by decide +kernel
theorem ni_dX4_newFlow_29 : decode cX4_newFlow 29 = .ok (.aload 5, 2) := by decide +kernel
theorem ni_dX4_newFlow_31 : decode cX4_newFlow 31 = .ok (.iload 4, 2) := by decide +kernel
theorem ni_dX4_newFlow_33 : decode cX4_newFlow 33 = .ok (.putfield 128, 3) := by decide +kernel
theorem ni_dX4_newFlow_36 : decode cX4_newFlow 36 = .ok (.aload_n 0, 1) := by decide +kernel
theorem ni_dX4_newFlow_37 : decode cX4_newFlow 37 = .ok (.dup, 1) := by decide +kernel
theorem ni_dX4_newFlow_38 : decode cX4_newFlow 38 = .ok (.getfield 116, 3) := by decide +kernel
theorem ni_dX4_newFlow_41 : decode cX4_newFlow 41 = .ok (.iconst 1, 1) := by decide +kernel
theorem ni_dX4_newFlow_42 : decode cX4_newFlow 42 = .ok (.iadd, 1) := by decide +kernel
theorem ni_dX4_newFlow_43 : decode cX4_newFlow 43 = .ok (.putfield 116, 3) := by decide +kernel
theorem ni_dX4_newFlow_46 : decode cX4_newFlow 46 = .ok (.aload_n 0, 1) := by decide +kernel
theorem ni_dX4_newFlow_47 : decode cX4_newFlow 47 = .ok (.getfield 116, 3) := by decide +kernel
theorem ni_dX4_newFlow_50 : decode cX4_newFlow 50 = .ok (.iconst 1, 1) := by decide +kernel
theorem ni_dX4_newFlow_51 : decode cX4_newFlow 51 = .ok (.isub, 1) := by decide +kernel
theorem ni_dX4_newFlow_52 : decode cX4_newFlow 52 = .ok (.ireturn, 1) := by decide +kernel
theorem ni_dX4_newLink_0 : decode cX4_newLink 0 = .ok (.aload_n 0, 1) := by decide +kernel
theorem ni_dX4_newLink_1 : decode cX4_newLink 1 = .ok (.getfield 55, 3) := by decide +kernel
theorem ni_dX4_newLink_4 : decode cX4_newLink 4 = .ok (.istore 6, 2) := by decide +kernel
theorem ni_dX4_newLink_6 : decode cX4_newLink 6 = .ok (.aload_n 0, 1) := by decide +kernel
theorem ni_dX4_newLink_7 : decode cX4_newLink 7 = .ok (.dup, 1) := by decide +kernel
theorem ni_dX4_newLink_8 : decode cX4_newLink 8 = .ok (.getfield 55, 3) := by decide +kernel
theorem ni_dX4_newLink_11 : decode cX4_newLink 11 = .ok (.iconst 1, 1) := by decide +kernel
theorem ni_dX4_newLink_12 : decode cX4_newLink 12 = .ok (.iadd, 1) := by decide +kernel
theorem ni_dX4_newLink_13 : decode cX4_newLink 13 = .ok (.putfield 55, 3) := by decide +kernel
theorem ni_dX4_newLink_16 : decode cX4_newLink 16 = .ok (.aload_n 0, 1) := by decide +kernel
theorem ni_dX4_newLink_17 : decode cX4_newLink 17 = .ok (.getfield 19, 3) := by decide +kernel
theorem ni_dX4_newLink_20 : decode cX4_newLink 20 = .ok (.iload 6, 2) := by decide +kernel
theorem ni_dX4_newLink_22 : decode cX4_newLink 22 = .ok (.aaload, 1) := by decide +kernel
theorem ni_dX4_newLink_23 : decode cX4_newLink 23 = .ok (.astore 7, 2) := by decide +kernel
theorem ni_dX4_newLink_25 : decode cX4_newLink 25 = .ok (.aload 7, 2) := by decide +kernel
theorem ni_dX4_newLink_27 : decode cX4_newLink 27 = .ok (.iload_n 1, 1) := by decide +kernel
theorem ni_dX4_newLink_28 : decode cX4_newLink 28 = .ok (.putfield 58, 3) := by decide +kernel
theorem ni_dX4_newLink_31 : decode cX4_newLink 31 = .ok (.aload 7, 2) := by decide +kernel
theorem ni_dX4_newLink_33 : decode cX4_newLink 33 = .ok (.iload_n 2, 1) := by decide +kernel
theorem ni_dX4_newLink_34 : decode cX4_newLink 34 = .ok (.putfield 61, 3) := by decide +kernel
theorem ni_dX4_newLink_37 : decode cX4_newLink 37 = .ok (.aload 7, 2) := by decide +kernel
theorem ni_dX4_newLink_39 : decode cX4_newLink 39 = .ok (.iload_n 3, 1) := by decide +kernel
theorem ni_dX4_newLink_40 : decode cX4_newLink 40 = .ok (.putfield 64, 3) := by decide +kernel
theorem ni_dX4_newLink_43 : decode cX4_newLink 43 = .ok (.aload 7, 2) := by decide +kernel
theorem ni_dX4_newLink_45 : decode cX4_newLink 45 = .ok (.iload 4, 2) := by decide +kernel
theorem ni_dX4_newLink_47 : decode cX4_newLink 47 = .ok (.putfield 67, 3) := by decide +kernel
theorem ni_dX4_newLink_50 : decode cX4_newLink 50 = .ok (.aload 7, 2) := by decide +kernel
theorem ni_dX4_newLink_52 : decode cX4_newLink 52 = .ok (.iload 5, 2) := by decide +kernel
theorem ni_dX4_newLink_54 : decode cX4_newLink 54 = .ok (.putfield 70, 3) := by decide +kernel
theorem ni_dX4_newLink_57 : decode cX4_newLink 57 = .ok (.aload_n 0, 1) := by decide +kernel
theorem ni_dX4_newLink_58 : decode cX4_newLink 58 = .ok (.iload 6, 2) := by decide +kernel
theorem ni_dX4_newLink_60 : decode cX4_newLink 60 = .ok (.invokevirtual 73, 3) := by decide +kernel
theorem ni_dX4_newLink_63 : decode cX4_newLink 63 = .ok (.iload 6, 2) := by decide +kernel
theorem ni_dX4_newLink_65 : decode cX4_newLink 65 = .ok (.ireturn, 1) := by decide +kernel
theorem ni_dX4_newNetwork_0 : decode cX4_newNetwork 0 = .ok (.aload_n 0, 1) := by decide +kernel
theorem ni_dX4_newNetwork_1 : decode cX4_newNetwork 1 = .ok (.getfield 34, 3) := by decide +kernel
theorem ni_dX4_newNetwork_4 : decode cX4_newNetwork 4 = .ok (.iload_n 1, 1) := by decide +kernel
theorem ni_dX4_newNetwork_5 : decode cX4_newNetwork 5 = .ok (.iload_n 2, 1) := by decide +kernel
theorem ni_dX4_newNetwork_6 : decode cX4_newNetwork 6 = .ok (.iconst (-1), 1) := by decide +kernel
theorem ni_dX4_newNetwork_7 : decode cX4_newNetwork 7 = .ok (.invokevirtual 100, 3) := by decide +kernel
theorem ni_dX4_newNetwork_10 : decode cX4_newNetwork 10 = .ok (.istore_n 3, 1) := by decide +kernel
theorem ni_dX4_newNetwork_11 : decode cX4_newNetwork 11 = .ok (.aload_n 0, 1) := by decide +kernel
theorem ni_dX4_newNetwork_12 : decode cX4_newNetwork 12 = .ok (.iload_n 1, 1) := by decide +kernel
theorem ni_dX4_newNetwork_13 : decode cX4_newNetwork 13 = .ok (.invokevirtual 80, 3) := by decide +kernel
theorem ni_dX4_newNetwork_16 : decode cX4_newNetwork 16 = .ok (.iload_n 3, 1) := by decide +kernel
theorem ni_dX4_newNetwork_17 : decode cX4_newNetwork 17 = .ok (.ireturn, 1) := by decide +kernel
theorem ni_dX4_newRouter_0 : decode cX4_newRouter 0 = .ok (.aload_n 0, 1) := by decide +kernel
theorem ni_dX4_newRouter_1 : decode cX4_newRouter 1 = .ok (.dup, 1) := by decide +kernel
theorem ni_dX4_newRouter_2 : decode cX4_newRouter 2 = .ok (.getfield 51, 3) := by decide +kernel
theorem ni_dX4_newRouter_5 : decode cX4_newRouter 5 = .ok (.iconst 1, 1) := by decide +kernel
theorem ni_dX4_newRouter_6 : decode cX4_newRouter 6 = .ok (.iadd, 1) := by decide +kernel
theorem ni_dX4_newRouter_7 : decode cX4_newRouter 7 = .ok (.putfield 51, 3) := by decide +kernel
theorem ni_dX4_newRouter_10 : decode cX4_newRouter 10 = .ok (.aload_n 0, 1) := by decide +kernel
theorem ni_dX4_newRouter_11 : decode cX4_newRouter 11 = .ok (.getfield 51, 3) := by decide +kernel
theorem ni_dX4_newRouter_14 : decode cX4_newRouter 14 = .ok (.iconst 1, 1) := by decide +kernel
theorem ni_dX4_newRouter_15 : decode cX4_newRouter 15 = .ok (.isub, 1) := by decide +kernel
theorem ni_dX4_newRouter_16 : decode cX4_newRouter 16 = .ok (.ireturn, 1) := by decide +kernel
theorem ni_dX4_newStatic_0 : decode cX4_newStatic 0 = .ok (.aload_n 0, 1) := by decide +kernel
theorem ni_dX4_newStatic_1 : decode cX4_newStatic 1 = .ok (.getfield 11, 3) := by decide +kernel
theorem ni_dX4_newStatic_4 : decode cX4_newStatic 4 = .ok (.iload_n 1, 1) := by decide +kernel
theorem ni_dX4_newStatic_5 : decode cX4_newStatic 5 = .ok (.aaload, 1) := by decide +kernel
theorem ni_dX4_newStatic_6 : decode cX4_newStatic 6 = .ok (.iconst 1, 1) := by decide +kernel
theorem ni_dX4_newStatic_7 : decode cX4_newStatic 7 = .ok (.putfield 113, 3) := by decide +kernel
theorem ni_dX4_newStatic_10 : decode cX4_newStatic 10 = .ok (.aload_n 0, 1) := by decide +kernel
theorem ni_dX4_newStatic_11 : decode cX4_newStatic 11 = .ok (.getfield 38, 3) := by decide +kernel
theorem ni_dX4_newStatic_14 : decode cX4_newStatic 14 = .ok (.iload_n 1, 1) := by decide +kernel
theorem ni_dX4_newStatic_15 : decode cX4_newStatic 15 = .ok (.iload_n 2, 1) := by decide +kernel
theorem ni_dX4_newStatic_16 : decode cX4_newStatic 16 = .ok (.iload_n 3, 1) := by decide +kernel
theorem ni_dX4_newStatic_17 : decode cX4_newStatic 17 = .ok (.invokevirtual 100, 3) := by decide +kernel
theorem ni_dX4_newStatic_20 : decode cX4_newStatic 20 = .ok (.ireturn, 1) := by decide +kernel
theorem ni_dX4_raise_0 : decode cX4_raise 0 = .ok (.aload_n 0, 1) := by decide +kernel
theorem ni_dX4_raise_1 : decode cX4_raise 1 = .ok (.getfield 19, 3) := by decide +kernel
theorem ni_dX4_raise_4 : decode cX4_raise 4 = .ok (.iload_n 1, 1) := by decide +kernel
theorem ni_dX4_raise_5 : decode cX4_raise 5 = .ok (.aaload, 1) := by decide +kernel
theorem ni_dX4_raise_6 : decode cX4_raise 6 = .ok (.astore_n 2, 1) := by decide +kernel
theorem ni_dX4_raise_7 : decode cX4_raise 7 = .ok (.aload_n 2, 1) := by decide +kernel
theorem ni_dX4_raise_8 : decode cX4_raise 8 = .ok (.iconst 1, 1) := by decide +kernel
theorem ni_dX4_raise_9 : decode cX4_raise 9 = .ok (.putfield 76, 3) := by decide +kernel
theorem ni_dX4_raise_12 : decode cX4_raise 12 = .ok (.aload_n 0, 1) := by decide +kernel
theorem ni_dX4_raise_13 : decode cX4_raise 13 = .ok (.aload_n 2, 1) := by decide +kernel
theorem ni_dX4_raise_14 : decode cX4_raise 14 = .ok (.getfield 58, 3) := by decide +kernel
theorem ni_dX4_raise_17 : decode cX4_raise 17 = .ok (.invokevirtual 80, 3) := by decide +kernel
theorem ni_dX4_raise_20 : decode cX4_raise 20 = .ok (.aload_n 0, 1) := by decide +kernel
theorem ni_dX4_raise_21 : decode cX4_raise 21 = .ok (.aload_n 2, 1) := by decide +kernel
theorem ni_dX4_raise_22 : decode cX4_raise 22 = .ok (.getfield 61, 3) := by decide +kernel
theorem ni_dX4_raise_25 : decode cX4_raise 25 = .ok (.invokevirtual 80, 3) := by decide +kernel
theorem ni_dX4_raise_28 : decode cX4_raise 28 = .ok (.aload_n 0, 1) := by decide +kernel
theorem ni_dX4_raise_29 : decode cX4_raise 29 = .ok (.aload_n 2, 1) := by decide +kernel
theorem ni_dX4_raise_30 : decode cX4_raise 30 = .ok (.getfield 58, 3) := by decide +kernel
theorem ni_dX4_raise_33 : decode cX4_raise 33 = .ok (.aload_n 2, 1) := by decide +kernel
theorem ni_dX4_raise_34 : decode cX4_raise 34 = .ok (.invokevirtual 83, 3) := by decide +kernel
theorem ni_dX4_raise_37 : decode cX4_raise 37 = .ok (.aload_n 0, 1) := by decide +kernel
theorem ni_dX4_raise_38 : decode cX4_raise 38 = .ok (.aload_n 2, 1) := by decide +kernel
theorem ni_dX4_raise_39 : decode cX4_raise 39 = .ok (.getfield 61, 3) := by decide +kernel
theorem ni_dX4_raise_42 : decode cX4_raise 42 = .ok (.aload_n 2, 1) := by decide +kernel
theorem ni_dX4_raise_43 : decode cX4_raise 43 = .ok (.invokevirtual 83, 3) := by decide +kernel
theorem ni_dX4_raise_46 : decode cX4_raise 46 = .ok (.return_, 1) := by decide +kernel
theorem ni_dX4_runFlow_0 : decode cX4_runFlow 0 = .ok (.aload_n 0, 1) := by decide +kernel
theorem ni_dX4_runFlow_1 : decode cX4_runFlow 1 = .ok (.getfield 25, 3) := by decide +kernel
theorem ni_dX4_runFlow_4 : decode cX4_runFlow 4 = .ok (.iload_n 1, 1) := by decide +kernel
theorem ni_dX4_runFlow_5 : decode cX4_runFlow 5 = .ok (.aaload, 1) := by decide +kernel
theorem ni_dX4_runFlow_6 : decode cX4_runFlow 6 = .ok (.astore_n 2, 1) := by decide +kernel
theorem ni_dX4_runFlow_7 : decode cX4_runFlow 7 = .ok (.aload_n 2, 1) := by decide +kernel
theorem ni_dX4_runFlow_8 : decode cX4_runFlow 8 = .ok (.invokevirtual 210, 3) := by decide +kernel
theorem ni_dX4_runFlow_11 : decode cX4_runFlow 11 = .ok (.aload_n 2, 1) := by decide +kernel
theorem ni_dX4_runFlow_12 : decode cX4_runFlow 12 = .ok (.aload_n 0, 1) := by decide +kernel
theorem ni_dX4_runFlow_13 : decode cX4_runFlow 13 = .ok (.getfield 166, 3) := by decide +kernel
theorem ni_dX4_runFlow_16 : decode cX4_runFlow 16 = .ok (.invokevirtual 213, 3) := by decide +kernel
theorem ni_dX4_runFlow_19 : decode cX4_runFlow 19 = .ok (.istore_n 3, 1) := by decide +kernel
theorem ni_dX4_runFlow_20 : decode cX4_runFlow 20 = .ok (.iload_n 3, 1) := by decide +kernel
theorem ni_dX4_runFlow_21 : decode cX4_runFlow 21 = .ok (.iconst (-1), 1) := by decide +kernel
theorem ni_dX4_runFlow_22 : decode cX4_runFlow 22 = .ok (.if_icmp .eq 54, 3) := by decide +kernel
theorem ni_dX4_runFlow_25 : decode cX4_runFlow 25 = .ok (.iload_n 1, 1) := by decide +kernel
theorem ni_dX4_runFlow_26 : decode cX4_runFlow 26 = .ok (.iload_n 3, 1) := by decide +kernel
theorem ni_dX4_runFlow_27 : decode cX4_runFlow 27 = .ok (.aload_n 2, 1) := by decide +kernel
theorem ni_dX4_runFlow_28 : decode cX4_runFlow 28 = .ok (.getfield 125, 3) := by decide +kernel
theorem ni_dX4_runFlow_31 : decode cX4_runFlow 31 = .ok (.aload_n 2, 1) := by decide +kernel
theorem ni_dX4_runFlow_32 : decode cX4_runFlow 32 = .ok (.getfield 128, 3) := by decide +kernel
theorem ni_dX4_runFlow_35 : decode cX4_runFlow 35 = .ok (.invokestatic 216, 3) := by decide +kernel
theorem ni_dX4_runFlow_38 : decode cX4_runFlow 38 = .ok (.istore 4, 2) := by decide +kernel
theorem ni_dX4_runFlow_40 : decode cX4_runFlow 40 = .ok (.aload_n 2, 1) := by decide +kernel
theorem ni_dX4_runFlow_41 : decode cX4_runFlow 41 = .ok (.dup, 1) := by decide +kernel
theorem ni_dX4_runFlow_42 : decode cX4_runFlow 42 = .ok (.getfield 221, 3) := by decide +kernel
theorem ni_dX4_runFlow_45 : decode cX4_runFlow 45 = .ok (.iconst 1, 1) := by decide +kernel
theorem ni_dX4_runFlow_46 : decode cX4_runFlow 46 = .ok (.iadd, 1) := by decide +kernel
theorem ni_dX4_runFlow_47 : decode cX4_runFlow 47 = .ok (.putfield 221, 3) := by decide +kernel
theorem ni_dX4_runFlow_50 : decode cX4_runFlow 50 = .ok (.aload_n 2, 1) := by decide +kernel
theorem ni_dX4_runFlow_51 : decode cX4_runFlow 51 = .ok (.invokevirtual 224, 3) := by decide +kernel
theorem ni_dX4_runFlow_54 : decode cX4_runFlow 54 = .ok (.ifCond .eq 12, 3) := by decide +kernel
theorem ni_dX4_runFlow_57 : decode cX4_runFlow 57 = .ok (.aload_n 2, 1) := by decide +kernel
theorem ni_dX4_runFlow_58 : decode cX4_runFlow 58 = .ok (.iload 4, 2) := by decide +kernel
theorem ni_dX4_runFlow_60 : decode cX4_runFlow 60 = .ok (.invokevirtual 228, 3) := by decide +kernel
theorem ni_dX4_runFlow_63 : decode cX4_runFlow 63 = .ok (.goto 13, 3) := by decide +kernel
theorem ni_dX4_runFlow_66 : decode cX4_runFlow 66 = .ok (.aload_n 0, 1) := by decide +kernel
theorem ni_dX4_runFlow_67 : decode cX4_runFlow 67 = .ok (.aload_n 2, 1) := by decide +kernel
theorem ni_dX4_runFlow_68 : decode cX4_runFlow 68 = .ok (.getfield 119, 3) := by decide +kernel
theorem ni_dX4_runFlow_71 : decode cX4_runFlow 71 = .ok (.iload 4, 2) := by decide +kernel
theorem ni_dX4_runFlow_73 : decode cX4_runFlow 73 = .ok (.invokevirtual 186, 3) := by decide +kernel
theorem ni_dX4_runFlow_76 : decode cX4_runFlow 76 = .ok (.iconst 0, 1) := by decide +kernel
theorem ni_dX4_runFlow_77 : decode cX4_runFlow 77 = .ok (.istore 4, 2) := by decide +kernel
theorem ni_dX4_runFlow_79 : decode cX4_runFlow 79 = .ok (.iload 4, 2) := by decide +kernel
theorem ni_dX4_runFlow_81 : decode cX4_runFlow 81 = .ok (.bipush 10, 2) := by decide +kernel
theorem ni_dX4_runFlow_83 : decode cX4_runFlow 83 = .ok (.if_icmp .ge 21, 3) := by decide +kernel
theorem ni_dX4_runFlow_86 : decode cX4_runFlow 86 = .ok (.aload_n 0, 1) := by decide +kernel
theorem ni_dX4_runFlow_87 : decode cX4_runFlow 87 = .ok (.aload_n 2, 1) := by decide +kernel
theorem ni_dX4_runFlow_88 : decode cX4_runFlow 88 = .ok (.getfield 119, 3) := by decide +kernel
theorem ni_dX4_runFlow_91 : decode cX4_runFlow 91 = .ok (.aload_n 2, 1) := by decide +kernel
theorem ni_dX4_runFlow_92 : decode cX4_runFlow 92 = .ok (.invokevirtual 231, 3) := by decide +kernel
theorem ni_dX4_runFlow_95 : decode cX4_runFlow 95 = .ok (.invokevirtual 186, 3) := by decide +kernel
theorem ni_dX4_runFlow_98 : decode cX4_runFlow 98 = .ok (.iinc 4 1, 3) := by decide +kernel
theorem ni_dX4_runFlow_101 : decode cX4_runFlow 101 = .ok (.goto (-22), 3) := by decide +kernel
theorem ni_dX4_runFlow_104 : decode cX4_runFlow 104 = .ok (.return_, 1) := by decide +kernel
theorem ni_dX4_sendOn_0 : decode cX4_sendOn 0 = .ok (.iload_n 2, 1) := by decide +kernel
theorem ni_dX4_sendOn_1 : decode cX4_sendOn 1 = .ok (.invokestatic 255, 3) := by decide +kernel
theorem ni_dX4_sendOn_4 : decode cX4_sendOn 4 = .ok (.iconst 1, 1) := by decide +kernel
theorem ni_dX4_sendOn_5 : decode cX4_sendOn 5 = .ok (.if_icmp .gt 5, 3) := by decide +kernel
theorem ni_dX4_sendOn_8 : decode cX4_sendOn 8 = .ok (.iconst 2, 1) := by decide +kernel
theorem ni_dX4_sendOn_9 : decode cX4_sendOn 9 = .ok (.ireturn, 1) := by decide +kernel
theorem ni_dX4_sendOn_10 : decode cX4_sendOn 10 = .ok (.aload_n 3, 1) := by decide +kernel
theorem ni_dX4_sendOn_11 : decode cX4_sendOn 11 = .ok (.getfield 76, 3) := by decide +kernel
theorem ni_dX4_sendOn_14 : decode cX4_sendOn 14 = .ok (.ifCond .eq 18, 3) := by decide +kernel
theorem ni_dX4_sendOn_17 : decode cX4_sendOn 17 = .ok (.aload_n 3, 1) := by decide +kernel
theorem ni_dX4_sendOn_18 : decode cX4_sendOn 18 = .ok (.iload_n 1, 1) := by decide +kernel
theorem ni_dX4_sendOn_19 : decode cX4_sendOn 19 = .ok (.invokevirtual 158, 3) := by decide +kernel
theorem ni_dX4_sendOn_22 : decode cX4_sendOn 22 = .ok (.iload_n 2, 1) := by decide +kernel
theorem ni_dX4_sendOn_23 : decode cX4_sendOn 23 = .ok (.invokestatic 258, 3) := by decide +kernel
theorem ni_dX4_sendOn_26 : decode cX4_sendOn 26 = .ok (.invokevirtual 261, 3) := by decide +kernel
theorem ni_dX4_sendOn_29 : decode cX4_sendOn 29 = .ok (.goto 4, 3) := by decide +kernel
theorem ni_dX4_sendOn_32 : decode cX4_sendOn 32 = .ok (.iconst 3, 1) := by decide +kernel
theorem ni_dX4_sendOn_33 : decode cX4_sendOn 33 = .ok (.ireturn, 1) := by decide +kernel
theorem ni_dX4_takeLetters_0 : decode cX4_takeLetters 0 = .ok (.aload_n 0, 1) := by decide +kernel
theorem ni_dX4_takeLetters_1 : decode cX4_takeLetters 1 = .ok (.getfield 11, 3) := by decide +kernel
theorem ni_dX4_takeLetters_4 : decode cX4_takeLetters 4 = .ok (.iload_n 3, 1) := by decide +kernel
theorem ni_dX4_takeLetters_5 : decode cX4_takeLetters 5 = .ok (.aaload, 1) := by decide +kernel
theorem ni_dX4_takeLetters_6 : decode cX4_takeLetters 6 = .ok (.astore 4, 2) := by decide +kernel
theorem ni_dX4_takeLetters_8 : decode cX4_takeLetters 8 = .ok (.aload_n 2, 1) := by decide +kernel
theorem ni_dX4_takeLetters_9 : decode cX4_takeLetters 9 = .ok (.aload_n 0, 1) := by decide +kernel
theorem ni_dX4_takeLetters_10 : decode cX4_takeLetters 10 = .ok (.getfield 166, 3) := by decide +kernel
theorem ni_dX4_takeLetters_13 : decode cX4_takeLetters 13 = .ok (.invokevirtual 200, 3) := by decide +kernel
theorem ni_dX4_takeLetters_16 : decode cX4_takeLetters 16 = .ok (.istore 5, 2) := by decide +kernel
theorem ni_dX4_takeLetters_18 : decode cX4_takeLetters 18 = .ok (.iconst 0, 1) := by decide +kernel
theorem ni_dX4_takeLetters_19 : decode cX4_takeLetters 19 = .ok (.istore 6, 2) := by decide +kernel
theorem ni_dX4_takeLetters_21 : decode cX4_takeLetters 21 = .ok (.iload 6, 2) := by decide +kernel
theorem ni_dX4_takeLetters_23 : decode cX4_takeLetters 23 = .ok (.iload 5, 2) := by decide +kernel
theorem ni_dX4_takeLetters_25 : decode cX4_takeLetters 25 = .ok (.if_icmp .ge 55, 3) := by decide +kernel
theorem ni_dX4_takeLetters_28 : decode cX4_takeLetters 28 = .ok (.aload_n 2, 1) := by decide +kernel
theorem ni_dX4_takeLetters_29 : decode cX4_takeLetters 29 = .ok (.getfield 203, 3) := by decide +kernel
theorem ni_dX4_takeLetters_32 : decode cX4_takeLetters 32 = .ok (.iload 6, 2) := by decide +kernel
theorem ni_dX4_takeLetters_34 : decode cX4_takeLetters 34 = .ok (.aaload, 1) := by decide +kernel
theorem ni_dX4_takeLetters_35 : decode cX4_takeLetters 35 = .ok (.astore 7, 2) := by decide +kernel
theorem ni_dX4_takeLetters_37 : decode cX4_takeLetters 37 = .ok (.aload 7, 2) := by decide +kernel
theorem ni_dX4_takeLetters_39 : decode cX4_takeLetters 39 = .ok (.getfield 139, 3) := by decide +kernel
theorem ni_dX4_takeLetters_42 : decode cX4_takeLetters 42 = .ok (.aload 4, 2) := by decide +kernel
theorem ni_dX4_takeLetters_44 : decode cX4_takeLetters 44 = .ok (.getfield 135, 3) := by decide +kernel
theorem ni_dX4_takeLetters_47 : decode cX4_takeLetters 47 = .ok (.aload 7, 2) := by decide +kernel
theorem ni_dX4_takeLetters_49 : decode cX4_takeLetters 49 = .ok (.getfield 204, 3) := by decide +kernel
theorem ni_dX4_takeLetters_52 : decode cX4_takeLetters 52 = .ok (.aaload, 1) := by decide +kernel
theorem ni_dX4_takeLetters_53 : decode cX4_takeLetters 53 = .ok (.getfield 139, 3) := by decide +kernel
theorem ni_dX4_takeLetters_56 : decode cX4_takeLetters 56 = .ok (.if_icmp .le 18, 3) := by decide +kernel
theorem ni_dX4_takeLetters_59 : decode cX4_takeLetters 59 = .ok (.aload 4, 2) := by decide +kernel
theorem ni_dX4_takeLetters_61 : decode cX4_takeLetters 61 = .ok (.aload 7, 2) := by decide +kernel
theorem ni_dX4_takeLetters_63 : decode cX4_takeLetters 63 = .ok (.invokevirtual 146, 3) := by decide +kernel
theorem ni_dX4_takeLetters_66 : decode cX4_takeLetters 66 = .ok (.aload_n 0, 1) := by decide +kernel
theorem ni_dX4_takeLetters_67 : decode cX4_takeLetters 67 = .ok (.iload_n 3, 1) := by decide +kernel
theorem ni_dX4_takeLetters_68 : decode cX4_takeLetters 68 = .ok (.aload 7, 2) := by decide +kernel
theorem ni_dX4_takeLetters_70 : decode cX4_takeLetters 70 = .ok (.iload_n 1, 1) := by decide +kernel
theorem ni_dX4_takeLetters_71 : decode cX4_takeLetters 71 = .ok (.invokevirtual 150, 3) := by decide +kernel
theorem ni_dX4_takeLetters_74 : decode cX4_takeLetters 74 = .ok (.iinc 6 1, 3) := by decide +kernel
theorem ni_dX4_takeLetters_77 : decode cX4_takeLetters 77 = .ok (.goto (-56), 3) := by decide +kernel
theorem ni_dX4_takeLetters_80 : decode cX4_takeLetters 80 = .ok (.aload_n 2, 1) := by decide +kernel
theorem ni_dX4_takeLetters_81 : decode cX4_takeLetters 81 = .ok (.iload 5, 2) := by decide +kernel
theorem ni_dX4_takeLetters_83 : decode cX4_takeLetters 83 = .ok (.invokevirtual 207, 3) := by decide +kernel
theorem ni_dX4_takeLetters_86 : decode cX4_takeLetters 86 = .ok (.return_, 1) := by decide +kernel
theorem ni_dX4_tell_0 : decode cX4_tell 0 = .ok (.aload_n 3, 1) := by decide +kernel
theorem ni_dX4_tell_1 : decode cX4_tell 1 = .ok (.iload_n 1, 1) := by decide +kernel
theorem ni_dX4_tell_2 : decode cX4_tell 2 = .ok (.invokevirtual 158, 3) := by decide +kernel
theorem ni_dX4_tell_5 : decode cX4_tell 5 = .ok (.getfield 162, 3) := by decide +kernel
theorem ni_dX4_tell_8 : decode cX4_tell 8 = .ok (.aload_n 2, 1) := by decide +kernel
theorem ni_dX4_tell_9 : decode cX4_tell 9 = .ok (.aload_n 0, 1) := by decide +kernel
theorem ni_dX4_tell_10 : decode cX4_tell 10 = .ok (.getfield 166, 3) := by decide +kernel
theorem ni_dX4_tell_13 : decode cX4_tell 13 = .ok (.aload_n 3, 1) := by decide +kernel
theorem ni_dX4_tell_14 : decode cX4_tell 14 = .ok (.getfield 70, 3) := by decide +kernel
theorem ni_dX4_tell_17 : decode cX4_tell 17 = .ok (.iadd, 1) := by decide +kernel
theorem ni_dX4_tell_18 : decode cX4_tell 18 = .ok (.invokevirtual 169, 3) := by decide +kernel
theorem ni_dX4_tell_21 : decode cX4_tell 21 = .ok (.return_, 1) := by decide +kernel
theorem ni_dX4_tellKept_0 : decode cX4_tellKept 0 = .ok (.iconst 0, 1) := by decide +kernel
theorem ni_dX4_tellKept_1 : decode cX4_tellKept 1 = .ok (.istore_n 3, 1) := by decide +kernel
theorem ni_dX4_tellKept_2 : decode cX4_tellKept 2 = .ok (.iload_n 3, 1) := by decide +kernel
theorem ni_dX4_tellKept_3 : decode cX4_tellKept 3 = .ok (.aload_n 0, 1) := by decide +kernel
theorem ni_dX4_tellKept_4 : decode cX4_tellKept 4 = .ok (.getfield 51, 3) := by decide +kernel
theorem ni_dX4_tellKept_7 : decode cX4_tellKept 7 = .ok (.if_icmp .ge 43, 3) := by decide +kernel
theorem ni_dX4_tellKept_10 : decode cX4_tellKept 10 = .ok (.aload_n 0, 1) := by decide +kernel
theorem ni_dX4_tellKept_11 : decode cX4_tellKept 11 = .ok (.getfield 11, 3) := by decide +kernel
theorem ni_dX4_tellKept_14 : decode cX4_tellKept 14 = .ok (.iload_n 1, 1) := by decide +kernel
theorem ni_dX4_tellKept_15 : decode cX4_tellKept 15 = .ok (.aaload, 1) := by decide +kernel
theorem ni_dX4_tellKept_16 : decode cX4_tellKept 16 = .ok (.getfield 135, 3) := by decide +kernel
theorem ni_dX4_tellKept_19 : decode cX4_tellKept 19 = .ok (.iload_n 3, 1) := by decide +kernel
theorem ni_dX4_tellKept_20 : decode cX4_tellKept 20 = .ok (.aaload, 1) := by decide +kernel
theorem ni_dX4_tellKept_21 : decode cX4_tellKept 21 = .ok (.astore 4, 2) := by decide +kernel
theorem ni_dX4_tellKept_23 : decode cX4_tellKept 23 = .ok (.iload_n 3, 1) := by decide +kernel
theorem ni_dX4_tellKept_24 : decode cX4_tellKept 24 = .ok (.iload_n 1, 1) := by decide +kernel
theorem ni_dX4_tellKept_25 : decode cX4_tellKept 25 = .ok (.if_icmp .eq 19, 3) := by decide +kernel
theorem ni_dX4_tellKept_28 : decode cX4_tellKept 28 = .ok (.aload 4, 2) := by decide +kernel
theorem ni_dX4_tellKept_30 : decode cX4_tellKept 30 = .ok (.getfield 139, 3) := by decide +kernel
theorem ni_dX4_tellKept_33 : decode cX4_tellKept 33 = .ok (.ifCond .le 11, 3) := by decide +kernel
theorem ni_dX4_tellKept_36 : decode cX4_tellKept 36 = .ok (.aload_n 0, 1) := by decide +kernel
theorem ni_dX4_tellKept_37 : decode cX4_tellKept 37 = .ok (.iload_n 1, 1) := by decide +kernel
theorem ni_dX4_tellKept_38 : decode cX4_tellKept 38 = .ok (.aload 4, 2) := by decide +kernel
theorem ni_dX4_tellKept_40 : decode cX4_tellKept 40 = .ok (.aload_n 2, 1) := by decide +kernel
theorem ni_dX4_tellKept_41 : decode cX4_tellKept 41 = .ok (.invokevirtual 154, 3) := by decide +kernel
theorem ni_dX4_tellKept_44 : decode cX4_tellKept 44 = .ok (.iinc 3 1, 3) := by decide +kernel
theorem ni_dX4_tellKept_47 : decode cX4_tellKept 47 = .ok (.goto (-45), 3) := by decide +kernel
theorem ni_dX4_tellKept_50 : decode cX4_tellKept 50 = .ok (.return_, 1) := by decide +kernel
theorem ni_dX4_tellOthers_0 : decode cX4_tellOthers 0 = .ok (.iconst 0, 1) := by decide +kernel
theorem ni_dX4_tellOthers_1 : decode cX4_tellOthers 1 = .ok (.istore 4, 2) := by decide +kernel
theorem ni_dX4_tellOthers_3 : decode cX4_tellOthers 3 = .ok (.iload 4, 2) := by decide +kernel
theorem ni_dX4_tellOthers_5 : decode cX4_tellOthers 5 = .ok (.aload_n 0, 1) := by decide +kernel
theorem ni_dX4_tellOthers_6 : decode cX4_tellOthers 6 = .ok (.getfield 55, 3) := by decide +kernel
theorem ni_dX4_tellOthers_9 : decode cX4_tellOthers 9 = .ok (.if_icmp .ge 55, 3) := by decide +kernel
theorem ni_dX4_tellOthers_12 : decode cX4_tellOthers 12 = .ok (.iload 4, 2) := by decide +kernel
theorem ni_dX4_tellOthers_14 : decode cX4_tellOthers 14 = .ok (.iload_n 3, 1) := by decide +kernel
theorem ni_dX4_tellOthers_15 : decode cX4_tellOthers 15 = .ok (.if_icmp .eq 43, 3) := by decide +kernel
theorem ni_dX4_tellOthers_18 : decode cX4_tellOthers 18 = .ok (.aload_n 0, 1) := by decide +kernel
theorem ni_dX4_tellOthers_19 : decode cX4_tellOthers 19 = .ok (.getfield 19, 3) := by decide +kernel
theorem ni_dX4_tellOthers_22 : decode cX4_tellOthers 22 = .ok (.iload 4, 2) := by decide +kernel
theorem ni_dX4_tellOthers_24 : decode cX4_tellOthers 24 = .ok (.aaload, 1) := by decide +kernel
theorem ni_dX4_tellOthers_25 : decode cX4_tellOthers 25 = .ok (.getfield 76, 3) := by decide +kernel
theorem ni_dX4_tellOthers_28 : decode cX4_tellOthers 28 = .ok (.ifCond .eq 30, 3) := by decide +kernel
theorem ni_dX4_tellOthers_31 : decode cX4_tellOthers 31 = .ok (.aload_n 0, 1) := by decide +kernel
theorem ni_dX4_tellOthers_32 : decode cX4_tellOthers 32 = .ok (.getfield 19, 3) := by decide +kernel
theorem ni_dX4_tellOthers_35 : decode cX4_tellOthers 35 = .ok (.iload 4, 2) := by decide +kernel
theorem ni_dX4_tellOthers_37 : decode cX4_tellOthers 37 = .ok (.aaload, 1) := by decide +kernel
theorem ni_dX4_tellOthers_38 : decode cX4_tellOthers 38 = .ok (.iload_n 1, 1) := by decide +kernel
theorem ni_dX4_tellOthers_39 : decode cX4_tellOthers 39 = .ok (.invokevirtual 131, 3) := by decide +kernel
theorem ni_dX4_tellOthers_42 : decode cX4_tellOthers 42 = .ok (.ifCond .eq 16, 3) := by decide +kernel
theorem ni_dX4_tellOthers_45 : decode cX4_tellOthers 45 = .ok (.aload_n 0, 1) := by decide +kernel
theorem ni_dX4_tellOthers_46 : decode cX4_tellOthers 46 = .ok (.iload_n 1, 1) := by decide +kernel
theorem ni_dX4_tellOthers_47 : decode cX4_tellOthers 47 = .ok (.aload_n 2, 1) := by decide +kernel
theorem ni_dX4_tellOthers_48 : decode cX4_tellOthers 48 = .ok (.aload_n 0, 1) := by decide +kernel
theorem ni_dX4_tellOthers_49 : decode cX4_tellOthers 49 = .ok (.getfield 19, 3) := by decide +kernel
theorem ni_dX4_tellOthers_52 : decode cX4_tellOthers 52 = .ok (.iload 4, 2) := by decide +kernel
theorem ni_dX4_tellOthers_54 : decode cX4_tellOthers 54 = .ok (.aaload, 1) := by decide +kernel
theorem ni_dX4_tellOthers_55 : decode cX4_tellOthers 55 = .ok (.invokevirtual 154, 3) := by decide +kernel
theorem ni_dX4_tellOthers_58 : decode cX4_tellOthers 58 = .ok (.iinc 4 1, 3) := by decide +kernel
theorem ni_dX4_tellOthers_61 : decode cX4_tellOthers 61 = .ok (.goto (-58), 3) := by decide +kernel
theorem ni_dX4_tellOthers_64 : decode cX4_tellOthers 64 = .ok (.return_, 1) := by decide +kernel
theorem ni_dX4_tick_0 : decode cX4_tick 0 = .ok (.iconst 0, 1) := by decide +kernel
theorem ni_dX4_tick_1 : decode cX4_tick 1 = .ok (.istore_n 1, 1) := by decide +kernel
theorem ni_dX4_tick_2 : decode cX4_tick 2 = .ok (.iload_n 1, 1) := by decide +kernel
theorem ni_dX4_tick_3 : decode cX4_tick 3 = .ok (.aload_n 0, 1) := by decide +kernel
theorem ni_dX4_tick_4 : decode cX4_tick 4 = .ok (.getfield 55, 3) := by decide +kernel
theorem ni_dX4_tick_7 : decode cX4_tick 7 = .ok (.if_icmp .ge 61, 3) := by decide +kernel
theorem ni_dX4_tick_10 : decode cX4_tick 10 = .ok (.aload_n 0, 1) := by decide +kernel
theorem ni_dX4_tick_11 : decode cX4_tick 11 = .ok (.iload_n 1, 1) := by decide +kernel
theorem ni_dX4_tick_12 : decode cX4_tick 12 = .ok (.aload_n 0, 1) := by decide +kernel
theorem ni_dX4_tick_13 : decode cX4_tick 13 = .ok (.getfield 19, 3) := by decide +kernel
theorem ni_dX4_tick_16 : decode cX4_tick 16 = .ok (.iload_n 1, 1) := by decide +kernel
theorem ni_dX4_tick_17 : decode cX4_tick 17 = .ok (.aaload, 1) := by decide +kernel
theorem ni_dX4_tick_18 : decode cX4_tick 18 = .ok (.getfield 87, 3) := by decide +kernel
theorem ni_dX4_tick_21 : decode cX4_tick 21 = .ok (.getfield 162, 3) := by decide +kernel
theorem ni_dX4_tick_24 : decode cX4_tick 24 = .ok (.aload_n 0, 1) := by decide +kernel
theorem ni_dX4_tick_25 : decode cX4_tick 25 = .ok (.getfield 19, 3) := by decide +kernel
theorem ni_dX4_tick_28 : decode cX4_tick 28 = .ok (.iload_n 1, 1) := by decide +kernel
theorem ni_dX4_tick_29 : decode cX4_tick 29 = .ok (.aaload, 1) := by decide +kernel
theorem ni_dX4_tick_30 : decode cX4_tick 30 = .ok (.getfield 61, 3) := by decide +kernel
theorem ni_dX4_tick_33 : decode cX4_tick 33 = .ok (.invokevirtual 178, 3) := by decide +kernel
theorem ni_dX4_tick_36 : decode cX4_tick 36 = .ok (.aload_n 0, 1) := by decide +kernel
theorem ni_dX4_tick_37 : decode cX4_tick 37 = .ok (.iload_n 1, 1) := by decide +kernel
theorem ni_dX4_tick_38 : decode cX4_tick 38 = .ok (.aload_n 0, 1) := by decide +kernel
theorem ni_dX4_tick_39 : decode cX4_tick 39 = .ok (.getfield 19, 3) := by decide +kernel
theorem ni_dX4_tick_42 : decode cX4_tick 42 = .ok (.iload_n 1, 1) := by decide +kernel
theorem ni_dX4_tick_43 : decode cX4_tick 43 = .ok (.aaload, 1) := by decide +kernel
theorem ni_dX4_tick_44 : decode cX4_tick 44 = .ok (.getfield 97, 3) := by decide +kernel
theorem ni_dX4_tick_47 : decode cX4_tick 47 = .ok (.getfield 162, 3) := by decide +kernel
theorem ni_dX4_tick_50 : decode cX4_tick 50 = .ok (.aload_n 0, 1) := by decide +kernel
theorem ni_dX4_tick_51 : decode cX4_tick 51 = .ok (.getfield 19, 3) := by decide +kernel
theorem ni_dX4_tick_54 : decode cX4_tick 54 = .ok (.iload_n 1, 1) := by decide +kernel
theorem ni_dX4_tick_55 : decode cX4_tick 55 = .ok (.aaload, 1) := by decide +kernel
theorem ni_dX4_tick_56 : decode cX4_tick 56 = .ok (.getfield 58, 3) := by decide +kernel
theorem ni_dX4_tick_59 : decode cX4_tick 59 = .ok (.invokevirtual 178, 3) := by decide +kernel
theorem ni_dX4_tick_62 : decode cX4_tick 62 = .ok (.iinc 1 1, 3) := by decide +kernel
theorem ni_dX4_tick_65 : decode cX4_tick 65 = .ok (.goto (-63), 3) := by decide +kernel
theorem ni_dX4_tick_68 : decode cX4_tick 68 = .ok (.iconst 0, 1) := by decide +kernel
theorem ni_dX4_tick_69 : decode cX4_tick 69 = .ok (.istore_n 1, 1) := by decide +kernel
theorem ni_dX4_tick_70 : decode cX4_tick 70 = .ok (.iload_n 1, 1) := by decide +kernel
theorem ni_dX4_tick_71 : decode cX4_tick 71 = .ok (.aload_n 0, 1) := by decide +kernel
theorem ni_dX4_tick_72 : decode cX4_tick 72 = .ok (.getfield 55, 3) := by decide +kernel
theorem ni_dX4_tick_75 : decode cX4_tick 75 = .ok (.if_icmp .ge 73, 3) := by decide +kernel
theorem ni_dX4_tick_78 : decode cX4_tick 78 = .ok (.aload_n 0, 1) := by decide +kernel
theorem ni_dX4_tick_79 : decode cX4_tick 79 = .ok (.aload_n 0, 1) := by decide +kernel
theorem ni_dX4_tick_80 : decode cX4_tick 80 = .ok (.getfield 19, 3) := by decide +kernel
theorem ni_dX4_tick_83 : decode cX4_tick 83 = .ok (.iload_n 1, 1) := by decide +kernel
theorem ni_dX4_tick_84 : decode cX4_tick 84 = .ok (.aaload, 1) := by decide +kernel
theorem ni_dX4_tick_85 : decode cX4_tick 85 = .ok (.getfield 61, 3) := by decide +kernel
theorem ni_dX4_tick_88 : decode cX4_tick 88 = .ok (.aload_n 0, 1) := by decide +kernel
theorem ni_dX4_tick_89 : decode cX4_tick 89 = .ok (.getfield 19, 3) := by decide +kernel
theorem ni_dX4_tick_92 : decode cX4_tick 92 = .ok (.iload_n 1, 1) := by decide +kernel
theorem ni_dX4_tick_93 : decode cX4_tick 93 = .ok (.aaload, 1) := by decide +kernel
theorem ni_dX4_tick_94 : decode cX4_tick 94 = .ok (.getfield 87, 3) := by decide +kernel
theorem ni_dX4_tick_97 : decode cX4_tick 97 = .ok (.getfield 162, 3) := by decide +kernel
theorem ni_dX4_tick_100 : decode cX4_tick 100 = .ok (.aload_n 0, 1) := by decide +kernel
theorem ni_dX4_tick_101 : decode cX4_tick 101 = .ok (.getfield 166, 3) := by decide +kernel
theorem ni_dX4_tick_104 : decode cX4_tick 104 = .ok (.invokevirtual 182, 3) := by decide +kernel
theorem ni_dX4_tick_107 : decode cX4_tick 107 = .ok (.invokevirtual 186, 3) := by decide +kernel
theorem ni_dX4_tick_110 : decode cX4_tick 110 = .ok (.aload_n 0, 1) := by decide +kernel
theorem ni_dX4_tick_111 : decode cX4_tick 111 = .ok (.aload_n 0, 1) := by decide +kernel
theorem ni_dX4_tick_112 : decode cX4_tick 112 = .ok (.getfield 19, 3) := by decide +kernel
theorem ni_dX4_tick_115 : decode cX4_tick 115 = .ok (.iload_n 1, 1) := by decide +kernel
theorem ni_dX4_tick_116 : decode cX4_tick 116 = .ok (.aaload, 1) := by decide +kernel
theorem ni_dX4_tick_117 : decode cX4_tick 117 = .ok (.getfield 58, 3) := by decide +kernel
theorem ni_dX4_tick_120 : decode cX4_tick 120 = .ok (.aload_n 0, 1) := by decide +kernel
theorem ni_dX4_tick_121 : decode cX4_tick 121 = .ok (.getfield 19, 3) := by decide +kernel
theorem ni_dX4_tick_124 : decode cX4_tick 124 = .ok (.iload_n 1, 1) := by decide +kernel
theorem ni_dX4_tick_125 : decode cX4_tick 125 = .ok (.aaload, 1) := by decide +kernel
theorem ni_dX4_tick_126 : decode cX4_tick 126 = .ok (.getfield 97, 3) := by decide +kernel
theorem ni_dX4_tick_129 : decode cX4_tick 129 = .ok (.getfield 162, 3) := by decide +kernel
theorem ni_dX4_tick_132 : decode cX4_tick 132 = .ok (.aload_n 0, 1) := by decide +kernel
theorem ni_dX4_tick_133 : decode cX4_tick 133 = .ok (.getfield 166, 3) := by decide +kernel
theorem ni_dX4_tick_136 : decode cX4_tick 136 = .ok (.invokevirtual 182, 3) := by decide +kernel
theorem ni_dX4_tick_139 : decode cX4_tick 139 = .ok (.invokevirtual 186, 3) := by decide +kernel
theorem ni_dX4_tick_142 : decode cX4_tick 142 = .ok (.iinc 1 1, 3) := by decide +kernel
theorem ni_dX4_tick_145 : decode cX4_tick 145 = .ok (.goto (-75), 3) := by decide +kernel
theorem ni_dX4_tick_148 : decode cX4_tick 148 = .ok (.iconst 0, 1) := by decide +kernel
theorem ni_dX4_tick_149 : decode cX4_tick 149 = .ok (.istore_n 1, 1) := by decide +kernel
theorem ni_dX4_tick_150 : decode cX4_tick 150 = .ok (.iload_n 1, 1) := by decide +kernel
theorem ni_dX4_tick_151 : decode cX4_tick 151 = .ok (.aload_n 0, 1) := by decide +kernel
theorem ni_dX4_tick_152 : decode cX4_tick 152 = .ok (.getfield 116, 3) := by decide +kernel
theorem ni_dX4_tick_155 : decode cX4_tick 155 = .ok (.if_icmp .ge 14, 3) := by decide +kernel
theorem ni_dX4_tick_158 : decode cX4_tick 158 = .ok (.aload_n 0, 1) := by decide +kernel
theorem ni_dX4_tick_159 : decode cX4_tick 159 = .ok (.iload_n 1, 1) := by decide +kernel
theorem ni_dX4_tick_160 : decode cX4_tick 160 = .ok (.invokevirtual 190, 3) := by decide +kernel
theorem ni_dX4_tick_163 : decode cX4_tick 163 = .ok (.iinc 1 1, 3) := by decide +kernel
theorem ni_dX4_tick_166 : decode cX4_tick 166 = .ok (.goto (-16), 3) := by decide +kernel
theorem ni_dX4_tick_169 : decode cX4_tick 169 = .ok (.iconst 0, 1) := by decide +kernel
theorem ni_dX4_tick_170 : decode cX4_tick 170 = .ok (.istore_n 1, 1) := by decide +kernel
theorem ni_dX4_tick_171 : decode cX4_tick 171 = .ok (.iload_n 1, 1) := by decide +kernel
theorem ni_dX4_tick_172 : decode cX4_tick 172 = .ok (.aload_n 0, 1) := by decide +kernel
theorem ni_dX4_tick_173 : decode cX4_tick 173 = .ok (.getfield 51, 3) := by decide +kernel
theorem ni_dX4_tick_176 : decode cX4_tick 176 = .ok (.if_icmp .ge 30, 3) := by decide +kernel
theorem ni_dX4_tick_179 : decode cX4_tick 179 = .ok (.aload_n 0, 1) := by decide +kernel
theorem ni_dX4_tick_180 : decode cX4_tick 180 = .ok (.getfield 11, 3) := by decide +kernel
theorem ni_dX4_tick_183 : decode cX4_tick 183 = .ok (.iload_n 1, 1) := by decide +kernel
theorem ni_dX4_tick_184 : decode cX4_tick 184 = .ok (.aaload, 1) := by decide +kernel
theorem ni_dX4_tick_185 : decode cX4_tick 185 = .ok (.aload_n 0, 1) := by decide +kernel
theorem ni_dX4_tick_186 : decode cX4_tick 186 = .ok (.getfield 19, 3) := by decide +kernel
theorem ni_dX4_tick_189 : decode cX4_tick 189 = .ok (.aload_n 0, 1) := by decide +kernel
theorem ni_dX4_tick_190 : decode cX4_tick 190 = .ok (.getfield 34, 3) := by decide +kernel
theorem ni_dX4_tick_193 : decode cX4_tick 193 = .ok (.aload_n 0, 1) := by decide +kernel
theorem ni_dX4_tick_194 : decode cX4_tick 194 = .ok (.getfield 38, 3) := by decide +kernel
theorem ni_dX4_tick_197 : decode cX4_tick 197 = .ok (.invokevirtual 193, 3) := by decide +kernel
theorem ni_dX4_tick_200 : decode cX4_tick 200 = .ok (.iinc 1 1, 3) := by decide +kernel
theorem ni_dX4_tick_203 : decode cX4_tick 203 = .ok (.goto (-32), 3) := by decide +kernel
theorem ni_dX4_tick_206 : decode cX4_tick 206 = .ok (.iconst 0, 1) := by decide +kernel
theorem ni_dX4_tick_207 : decode cX4_tick 207 = .ok (.istore_n 1, 1) := by decide +kernel
theorem ni_dX4_tick_208 : decode cX4_tick 208 = .ok (.iload_n 1, 1) := by decide +kernel
theorem ni_dX4_tick_209 : decode cX4_tick 209 = .ok (.aload_n 0, 1) := by decide +kernel
theorem ni_dX4_tick_210 : decode cX4_tick 210 = .ok (.getfield 55, 3) := by decide +kernel
theorem ni_dX4_tick_213 : decode cX4_tick 213 = .ok (.if_icmp .ge 79, 3) := by decide +kernel
theorem ni_dX4_tick_216 : decode cX4_tick 216 = .ok (.aload_n 0, 1) := by decide +kernel
theorem ni_dX4_tick_217 : decode cX4_tick 217 = .ok (.getfield 19, 3) := by decide +kernel
theorem ni_dX4_tick_220 : decode cX4_tick 220 = .ok (.iload_n 1, 1) := by decide +kernel
theorem ni_dX4_tick_221 : decode cX4_tick 221 = .ok (.aaload, 1) := by decide +kernel
theorem ni_dX4_tick_222 : decode cX4_tick 222 = .ok (.getfield 87, 3) := by decide +kernel
theorem ni_dX4_tick_225 : decode cX4_tick 225 = .ok (.aload_n 0, 1) := by decide +kernel
theorem ni_dX4_tick_226 : decode cX4_tick 226 = .ok (.getfield 19, 3) := by decide +kernel
theorem ni_dX4_tick_229 : decode cX4_tick 229 = .ok (.iload_n 1, 1) := by decide +kernel
theorem ni_dX4_tick_230 : decode cX4_tick 230 = .ok (.aaload, 1) := by decide +kernel
theorem ni_dX4_tick_231 : decode cX4_tick 231 = .ok (.getfield 67, 3) := by decide +kernel
theorem ni_dX4_tick_234 : decode cX4_tick 234 = .ok (.aload_n 0, 1) := by decide +kernel
theorem ni_dX4_tick_235 : decode cX4_tick 235 = .ok (.getfield 166, 3) := by decide +kernel
theorem ni_dX4_tick_238 : decode cX4_tick 238 = .ok (.aload_n 0, 1) := by decide +kernel
theorem ni_dX4_tick_239 : decode cX4_tick 239 = .ok (.getfield 19, 3) := by decide +kernel
theorem ni_dX4_tick_242 : decode cX4_tick 242 = .ok (.iload_n 1, 1) := by decide +kernel
theorem ni_dX4_tick_243 : decode cX4_tick 243 = .ok (.aaload, 1) := by decide +kernel
theorem ni_dX4_tick_244 : decode cX4_tick 244 = .ok (.getfield 70, 3) := by decide +kernel
theorem ni_dX4_tick_247 : decode cX4_tick 247 = .ok (.iadd, 1) := by decide +kernel
theorem ni_dX4_tick_248 : decode cX4_tick 248 = .ok (.invokevirtual 197, 3) := by decide +kernel
theorem ni_dX4_tick_251 : decode cX4_tick 251 = .ok (.aload_n 0, 1) := by decide +kernel
theorem ni_dX4_tick_252 : decode cX4_tick 252 = .ok (.getfield 19, 3) := by decide +kernel
theorem ni_dX4_tick_255 : decode cX4_tick 255 = .ok (.iload_n 1, 1) := by decide +kernel
theorem ni_dX4_tick_256 : decode cX4_tick 256 = .ok (.aaload, 1) := by decide +kernel
theorem ni_dX4_tick_257 : decode cX4_tick 257 = .ok (.getfield 97, 3) := by decide +kernel
theorem ni_dX4_tick_260 : decode cX4_tick 260 = .ok (.aload_n 0, 1) := by decide +kernel
theorem ni_dX4_tick_261 : decode cX4_tick 261 = .ok (.getfield 19, 3) := by decide +kernel
theorem ni_dX4_tick_264 : decode cX4_tick 264 = .ok (.iload_n 1, 1) := by decide +kernel
theorem ni_dX4_tick_265 : decode cX4_tick 265 = .ok (.aaload, 1) := by decide +kernel
theorem ni_dX4_tick_266 : decode cX4_tick 266 = .ok (.getfield 67, 3) := by decide +kernel
theorem ni_dX4_tick_269 : decode cX4_tick 269 = .ok (.aload_n 0, 1) := by decide +kernel
theorem ni_dX4_tick_270 : decode cX4_tick 270 = .ok (.getfield 166, 3) := by decide +kernel
theorem ni_dX4_tick_273 : decode cX4_tick 273 = .ok (.aload_n 0, 1) := by decide +kernel
theorem ni_dX4_tick_274 : decode cX4_tick 274 = .ok (.getfield 19, 3) := by decide +kernel
theorem ni_dX4_tick_277 : decode cX4_tick 277 = .ok (.iload_n 1, 1) := by decide +kernel
theorem ni_dX4_tick_278 : decode cX4_tick 278 = .ok (.aaload, 1) := by decide +kernel
theorem ni_dX4_tick_279 : decode cX4_tick 279 = .ok (.getfield 70, 3) := by decide +kernel
theorem ni_dX4_tick_282 : decode cX4_tick 282 = .ok (.iadd, 1) := by decide +kernel
theorem ni_dX4_tick_283 : decode cX4_tick 283 = .ok (.invokevirtual 197, 3) := by decide +kernel
theorem ni_dX4_tick_286 : decode cX4_tick 286 = .ok (.iinc 1 1, 3) := by decide +kernel
theorem ni_dX4_tick_289 : decode cX4_tick 289 = .ok (.goto (-81), 3) := by decide +kernel
theorem ni_dX4_tick_292 : decode cX4_tick 292 = .ok (.aload_n 0, 1) := by decide +kernel
theorem ni_dX4_tick_293 : decode cX4_tick 293 = .ok (.dup, 1) := by decide +kernel
theorem ni_dX4_tick_294 : decode cX4_tick 294 = .ok (.getfield 166, 3) := by decide +kernel
theorem ni_dX4_tick_297 : decode cX4_tick 297 = .ok (.iconst 1, 1) := by decide +kernel
theorem ni_dX4_tick_298 : decode cX4_tick 298 = .ok (.iadd, 1) := by decide +kernel
theorem ni_dX4_tick_299 : decode cX4_tick 299 = .ok (.putfield 166, 3) := by decide +kernel
theorem ni_dX4_tick_302 : decode cX4_tick 302 = .ok (.return_, 1) := by decide +kernel
theorem ni_dX4_writeLetter_0 : decode cX4_writeLetter 0 = .ok (.aload_n 0, 1) := by decide +kernel
theorem ni_dX4_writeLetter_1 : decode cX4_writeLetter 1 = .ok (.getfield 11, 3) := by decide +kernel
theorem ni_dX4_writeLetter_4 : decode cX4_writeLetter 4 = .ok (.iload_n 1, 1) := by decide +kernel
theorem ni_dX4_writeLetter_5 : decode cX4_writeLetter 5 = .ok (.aaload, 1) := by decide +kernel
theorem ni_dX4_writeLetter_6 : decode cX4_writeLetter 6 = .ok (.astore_n 2, 1) := by decide +kernel
theorem ni_dX4_writeLetter_7 : decode cX4_writeLetter 7 = .ok (.iconst 0, 1) := by decide +kernel
theorem ni_dX4_writeLetter_8 : decode cX4_writeLetter 8 = .ok (.istore_n 3, 1) := by decide +kernel
theorem ni_dX4_writeLetter_9 : decode cX4_writeLetter 9 = .ok (.bipush 14, 2) := by decide +kernel
theorem ni_dX4_writeLetter_11 : decode cX4_writeLetter 11 = .ok (.newarray .int, 2) := by decide +kernel
theorem ni_dX4_writeLetter_13 : decode cX4_writeLetter 13 = .ok (.astore 4, 2) := by decide +kernel
theorem ni_dX4_writeLetter_15 : decode cX4_writeLetter 15 = .ok (.iconst 0, 1) := by decide +kernel
theorem ni_dX4_writeLetter_16 : decode cX4_writeLetter 16 = .ok (.istore 5, 2) := by decide +kernel
theorem ni_dX4_writeLetter_18 : decode cX4_writeLetter 18 = .ok (.iload 5, 2) := by decide +kernel
theorem ni_dX4_writeLetter_20 : decode cX4_writeLetter 20 = .ok (.aload_n 0, 1) := by decide +kernel
theorem ni_dX4_writeLetter_21 : decode cX4_writeLetter 21 = .ok (.getfield 55, 3) := by decide +kernel
theorem ni_dX4_writeLetter_24 : decode cX4_writeLetter 24 = .ok (.if_icmp .ge 58, 3) := by decide +kernel
theorem ni_dX4_writeLetter_27 : decode cX4_writeLetter 27 = .ok (.aload_n 0, 1) := by decide +kernel
theorem ni_dX4_writeLetter_28 : decode cX4_writeLetter 28 = .ok (.getfield 19, 3) := by decide +kernel
theorem ni_dX4_writeLetter_31 : decode cX4_writeLetter 31 = .ok (.iload 5, 2) := by decide +kernel
theorem ni_dX4_writeLetter_33 : decode cX4_writeLetter 33 = .ok (.aaload, 1) := by decide +kernel
theorem ni_dX4_writeLetter_34 : decode cX4_writeLetter 34 = .ok (.getfield 76, 3) := by decide +kernel
theorem ni_dX4_writeLetter_37 : decode cX4_writeLetter 37 = .ok (.ifCond .eq 39, 3) := by decide +kernel
theorem ni_dX4_writeLetter_40 : decode cX4_writeLetter 40 = .ok (.aload_n 0, 1) := by decide +kernel
theorem ni_dX4_writeLetter_41 : decode cX4_writeLetter 41 = .ok (.getfield 19, 3) := by decide +kernel
theorem ni_dX4_writeLetter_44 : decode cX4_writeLetter 44 = .ok (.iload 5, 2) := by decide +kernel
theorem ni_dX4_writeLetter_46 : decode cX4_writeLetter 46 = .ok (.aaload, 1) := by decide +kernel
theorem ni_dX4_writeLetter_47 : decode cX4_writeLetter 47 = .ok (.iload_n 1, 1) := by decide +kernel
theorem ni_dX4_writeLetter_48 : decode cX4_writeLetter 48 = .ok (.invokevirtual 131, 3) := by decide +kernel
theorem ni_dX4_writeLetter_51 : decode cX4_writeLetter 51 = .ok (.ifCond .eq 25, 3) := by decide +kernel
theorem ni_dX4_writeLetter_54 : decode cX4_writeLetter 54 = .ok (.iload_n 3, 1) := by decide +kernel
theorem ni_dX4_writeLetter_55 : decode cX4_writeLetter 55 = .ok (.iconst 1, 1) := by decide +kernel
theorem ni_dX4_writeLetter_56 : decode cX4_writeLetter 56 = .ok (.iload 5, 2) := by decide +kernel
theorem ni_dX4_writeLetter_58 : decode cX4_writeLetter 58 = .ok (.ishl, 1) := by decide +kernel
theorem ni_dX4_writeLetter_59 : decode cX4_writeLetter 59 = .ok (.ior, 1) := by decide +kernel
theorem ni_dX4_writeLetter_60 : decode cX4_writeLetter 60 = .ok (.istore_n 3, 1) := by decide +kernel
theorem ni_dX4_writeLetter_61 : decode cX4_writeLetter 61 = .ok (.aload 4, 2) := by decide +kernel
theorem ni_dX4_writeLetter_63 : decode cX4_writeLetter 63 = .ok (.iload 5, 2) := by decide +kernel
theorem ni_dX4_writeLetter_65 : decode cX4_writeLetter 65 = .ok (.aload_n 0, 1) := by decide +kernel
theorem ni_dX4_writeLetter_66 : decode cX4_writeLetter 66 = .ok (.getfield 19, 3) := by decide +kernel
theorem ni_dX4_writeLetter_69 : decode cX4_writeLetter 69 = .ok (.iload 5, 2) := by decide +kernel
theorem ni_dX4_writeLetter_71 : decode cX4_writeLetter 71 = .ok (.aaload, 1) := by decide +kernel
theorem ni_dX4_writeLetter_72 : decode cX4_writeLetter 72 = .ok (.getfield 64, 3) := by decide +kernel
theorem ni_dX4_writeLetter_75 : decode cX4_writeLetter 75 = .ok (.iastore, 1) := by decide +kernel
theorem ni_dX4_writeLetter_76 : decode cX4_writeLetter 76 = .ok (.iinc 5 1, 3) := by decide +kernel
theorem ni_dX4_writeLetter_79 : decode cX4_writeLetter 79 = .ok (.goto (-61), 3) := by decide +kernel
theorem ni_dX4_writeLetter_82 : decode cX4_writeLetter 82 = .ok (.aload_n 2, 1) := by decide +kernel
theorem ni_dX4_writeLetter_83 : decode cX4_writeLetter 83 = .ok (.getfield 135, 3) := by decide +kernel
theorem ni_dX4_writeLetter_86 : decode cX4_writeLetter 86 = .ok (.iload_n 1, 1) := by decide +kernel
theorem ni_dX4_writeLetter_87 : decode cX4_writeLetter 87 = .ok (.aaload, 1) := by decide +kernel
theorem ni_dX4_writeLetter_88 : decode cX4_writeLetter 88 = .ok (.getfield 139, 3) := by decide +kernel
theorem ni_dX4_writeLetter_91 : decode cX4_writeLetter 91 = .ok (.iconst 1, 1) := by decide +kernel
theorem ni_dX4_writeLetter_92 : decode cX4_writeLetter 92 = .ok (.iadd, 1) := by decide +kernel
theorem ni_dX4_writeLetter_93 : decode cX4_writeLetter 93 = .ok (.istore 5, 2) := by decide +kernel
theorem ni_dX4_writeLetter_95 : decode cX4_writeLetter 95 = .ok (.new 43, 3) := by decide +kernel
theorem ni_dX4_writeLetter_98 : decode cX4_writeLetter 98 = .ok (.dup, 1) := by decide +kernel
theorem ni_dX4_writeLetter_99 : decode cX4_writeLetter 99 = .ok (.iload_n 1, 1) := by decide +kernel
theorem ni_dX4_writeLetter_100 : decode cX4_writeLetter 100 = .ok (.iload 5, 2) := by decide +kernel
theorem ni_dX4_writeLetter_102 : decode cX4_writeLetter 102 = .ok (.iload_n 3, 1) := by decide +kernel
theorem ni_dX4_writeLetter_103 : decode cX4_writeLetter 103 = .ok (.aload 4, 2) := by decide +kernel
theorem ni_dX4_writeLetter_105 : decode cX4_writeLetter 105 = .ok (.aload_n 0, 1) := by decide +kernel
theorem ni_dX4_writeLetter_106 : decode cX4_writeLetter 106 = .ok (.getfield 34, 3) := by decide +kernel
theorem ni_dX4_writeLetter_109 : decode cX4_writeLetter 109 = .ok (.iload_n 1, 1) := by decide +kernel
theorem ni_dX4_writeLetter_110 : decode cX4_writeLetter 110 = .ok (.invokevirtual 142, 3) := by decide +kernel
theorem ni_dX4_writeLetter_113 : decode cX4_writeLetter 113 = .ok (.invokespecial 45, 3) := by decide +kernel
theorem ni_dX4_writeLetter_116 : decode cX4_writeLetter 116 = .ok (.astore 6, 2) := by decide +kernel
theorem ni_dX4_writeLetter_118 : decode cX4_writeLetter 118 = .ok (.aload_n 2, 1) := by decide +kernel
theorem ni_dX4_writeLetter_119 : decode cX4_writeLetter 119 = .ok (.aload 6, 2) := by decide +kernel
theorem ni_dX4_writeLetter_121 : decode cX4_writeLetter 121 = .ok (.invokevirtual 146, 3) := by decide +kernel
theorem ni_dX4_writeLetter_124 : decode cX4_writeLetter 124 = .ok (.aload_n 0, 1) := by decide +kernel
theorem ni_dX4_writeLetter_125 : decode cX4_writeLetter 125 = .ok (.iload_n 1, 1) := by decide +kernel
theorem ni_dX4_writeLetter_126 : decode cX4_writeLetter 126 = .ok (.aload 6, 2) := by decide +kernel
theorem ni_dX4_writeLetter_128 : decode cX4_writeLetter 128 = .ok (.iconst (-1), 1) := by decide +kernel
theorem ni_dX4_writeLetter_129 : decode cX4_writeLetter 129 = .ok (.invokevirtual 150, 3) := by decide +kernel
theorem ni_dX4_writeLetter_132 : decode cX4_writeLetter 132 = .ok (.return_, 1) := by decide +kernel
theorem ni_dX5_classOf_0 : decode cX5_classOf 0 = .ok (.iload_n 0, 1) := by decide +kernel
theorem ni_dX5_classOf_1 : decode cX5_classOf 1 = .ok (.bipush 10, 2) := by decide +kernel
theorem ni_dX5_classOf_3 : decode cX5_classOf 3 = .ok (.ishr, 1) := by decide +kernel
theorem ni_dX5_classOf_4 : decode cX5_classOf 4 = .ok (.iconst 3, 1) := by decide +kernel
theorem ni_dX5_classOf_5 : decode cX5_classOf 5 = .ok (.iand, 1) := by decide +kernel
theorem ni_dX5_classOf_6 : decode cX5_classOf 6 = .ok (.ireturn, 1) := by decide +kernel
theorem ni_dX5_flowOf_0 : decode cX5_flowOf 0 = .ok (.iload_n 0, 1) := by decide +kernel
theorem ni_dX5_flowOf_1 : decode cX5_flowOf 1 = .ok (.bipush 15, 2) := by decide +kernel
theorem ni_dX5_flowOf_3 : decode cX5_flowOf 3 = .ok (.iand, 1) := by decide +kernel
theorem ni_dX5_flowOf_4 : decode cX5_flowOf 4 = .ok (.ireturn, 1) := by decide +kernel
theorem ni_dX5_lifeOf_0 : decode cX5_lifeOf 0 = .ok (.iload_n 0, 1) := by decide +kernel
theorem ni_dX5_lifeOf_1 : decode cX5_lifeOf 1 = .ok (.bipush 21, 2) := by decide +kernel
theorem ni_dX5_lifeOf_3 : decode cX5_lifeOf 3 = .ok (.ishr, 1) := by decide +kernel
theorem ni_dX5_lifeOf_4 : decode cX5_lifeOf 4 = .ok (.ireturn, 1) := by decide +kernel
theorem ni_dX5_numberOf_0 : decode cX5_numberOf 0 = .ok (.iload_n 0, 1) := by decide +kernel
theorem ni_dX5_numberOf_1 : decode cX5_numberOf 1 = .ok (.iconst 4, 1) := by decide +kernel
theorem ni_dX5_numberOf_2 : decode cX5_numberOf 2 = .ok (.ishr, 1) := by decide +kernel
theorem ni_dX5_numberOf_3 : decode cX5_numberOf 3 = .ok (.bipush 63, 2) := by decide +kernel
theorem ni_dX5_numberOf_5 : decode cX5_numberOf 5 = .ok (.iand, 1) := by decide +kernel
theorem ni_dX5_numberOf_6 : decode cX5_numberOf 6 = .ok (.ireturn, 1) := by decide +kernel
theorem ni_dX5_of_0 : decode cX5_of 0 = .ok (.iload_n 0, 1) := by decide +kernel
theorem ni_dX5_of_1 : decode cX5_of 1 = .ok (.iload_n 1, 1) := by decide +kernel
theorem ni_dX5_of_2 : decode cX5_of 2 = .ok (.iconst 4, 1) := by decide +kernel
theorem ni_dX5_of_3 : decode cX5_of 3 = .ok (.ishl, 1) := by decide +kernel
theorem ni_dX5_of_4 : decode cX5_of 4 = .ok (.ior, 1) := by decide +kernel
theorem ni_dX5_of_5 : decode cX5_of 5 = .ok (.iload_n 3, 1) := by decide +kernel
theorem ni_dX5_of_6 : decode cX5_of 6 = .ok (.bipush 10, 2) := by decide +kernel
theorem ni_dX5_of_8 : decode cX5_of 8 = .ok (.ishl, 1) := by decide +kernel
theorem ni_dX5_of_9 : decode cX5_of 9 = .ok (.ior, 1) := by decide +kernel
theorem ni_dX5_of_10 : decode cX5_of 10 = .ok (.iload_n 2, 1) := by decide +kernel
theorem ni_dX5_of_11 : decode cX5_of 11 = .ok (.bipush 12, 2) := by decide +kernel
theorem ni_dX5_of_13 : decode cX5_of 13 = .ok (.ishl, 1) := by decide +kernel
theorem ni_dX5_of_14 : decode cX5_of 14 = .ok (.ior, 1) := by decide +kernel
theorem ni_dX5_of_15 : decode cX5_of 15 = .ok (.ldc 9, 2) := by decide +kernel
theorem ni_dX5_of_17 : decode cX5_of 17 = .ok (.ior, 1) := by decide +kernel
theorem ni_dX5_of_18 : decode cX5_of 18 = .ok (.ireturn, 1) := by decide +kernel
theorem ni_dX5_older_0 : decode cX5_older 0 = .ok (.iload_n 0, 1) := by decide +kernel
theorem ni_dX5_older_1 : decode cX5_older 1 = .ok (.ldc 10, 2) := by decide +kernel
theorem ni_dX5_older_3 : decode cX5_older 3 = .ok (.isub, 1) := by decide +kernel
theorem ni_dX5_older_4 : decode cX5_older 4 = .ok (.ireturn, 1) := by decide +kernel
theorem ni_dX5_sizeOf_0 : decode cX5_sizeOf 0 = .ok (.iload_n 0, 1) := by decide +kernel
theorem ni_dX5_sizeOf_1 : decode cX5_sizeOf 1 = .ok (.bipush 12, 2) := by decide +kernel
theorem ni_dX5_sizeOf_3 : decode cX5_sizeOf 3 = .ok (.ishr, 1) := by decide +kernel
theorem ni_dX5_sizeOf_4 : decode cX5_sizeOf 4 = .ok (.sipush 511, 3) := by decide +kernel
theorem ni_dX5_sizeOf_7 : decode cX5_sizeOf 7 = .ok (.iand, 1) := by decide +kernel
theorem ni_dX5_sizeOf_8 : decode cX5_sizeOf 8 = .ok (.ireturn, 1) := by decide +kernel
theorem ni_dX6_init_0 : decode cX6_init 0 = .ok (.aload_n 0, 1) := by decide +kernel
theorem ni_dX6_init_1 : decode cX6_init 1 = .ok (.invokespecial 3, 3) := by decide +kernel
theorem ni_dX6_init_4 : decode cX6_init 4 = .ok (.aload_n 0, 1) := by decide +kernel
theorem ni_dX6_init_5 : decode cX6_init 5 = .ok (.new 9, 3) := by decide +kernel
theorem ni_dX6_init_8 : decode cX6_init 8 = .ok (.dup, 1) := by decide +kernel
theorem ni_dX6_init_9 : decode cX6_init 9 = .ok (.invokespecial 11, 3) := by decide +kernel
theorem ni_dX6_init_12 : decode cX6_init 12 = .ok (.putfield 12, 3) := by decide +kernel
theorem ni_dX6_init_15 : decode cX6_init 15 = .ok (.aload_n 0, 1) := by decide +kernel
theorem ni_dX6_init_16 : decode cX6_init 16 = .ok (.iconst 0, 1) := by decide +kernel
theorem ni_dX6_init_17 : decode cX6_init 17 = .ok (.putfield 18, 3) := by decide +kernel
theorem ni_dX6_init_20 : decode cX6_init 20 = .ok (.aload_n 0, 1) := by decide +kernel
theorem ni_dX6_init_21 : decode cX6_init 21 = .ok (.sipush 2000, 3) := by decide +kernel
theorem ni_dX6_init_24 : decode cX6_init 24 = .ok (.putfield 22, 3) := by decide +kernel
theorem ni_dX6_init_27 : decode cX6_init 27 = .ok (.aload_n 0, 1) := by decide +kernel
theorem ni_dX6_init_28 : decode cX6_init 28 = .ok (.iconst 4, 1) := by decide +kernel
theorem ni_dX6_init_29 : decode cX6_init 29 = .ok (.newarray .int, 2) := by decide +kernel
theorem ni_dX6_init_31 : decode cX6_init 31 = .ok (.putfield 25, 3) := by decide +kernel
theorem ni_dX6_init_34 : decode cX6_init 34 = .ok (.aload_n 0, 1) := by decide +kernel
theorem ni_dX6_init_35 : decode cX6_init 35 = .ok (.iconst 4, 1) := by decide +kernel
theorem ni_dX6_init_36 : decode cX6_init 36 = .ok (.newarray .int, 2) := by decide +kernel
theorem ni_dX6_init_38 : decode cX6_init 38 = .ok (.putfield 29, 3) := by decide +kernel
theorem ni_dX6_init_41 : decode cX6_init 41 = .ok (.aload_n 0, 1) := by decide +kernel
theorem ni_dX6_init_42 : decode cX6_init 42 = .ok (.sipush 250, 3) := by decide +kernel
theorem ni_dX6_init_45 : decode cX6_init 45 = .ok (.newarray .int, 2) := by decide +kernel
theorem ni_dX6_init_47 : decode cX6_init 47 = .ok (.putfield 32, 3) := by decide +kernel
theorem ni_dX6_init_50 : decode cX6_init 50 = .ok (.aload_n 0, 1) := by decide +kernel
theorem ni_dX6_init_51 : decode cX6_init 51 = .ok (.iconst (-1), 1) := by decide +kernel
theorem ni_dX6_init_52 : decode cX6_init 52 = .ok (.putfield 35, 3) := by decide +kernel
theorem ni_dX6_init_55 : decode cX6_init 55 = .ok (.iconst 0, 1) := by decide +kernel
theorem ni_dX6_init_56 : decode cX6_init 56 = .ok (.istore_n 1, 1) := by decide +kernel
theorem ni_dX6_init_57 : decode cX6_init 57 = .ok (.iload_n 1, 1) := by decide +kernel
theorem ni_dX6_init_58 : decode cX6_init 58 = .ok (.iconst 4, 1) := by decide +kernel
theorem ni_dX6_init_59 : decode cX6_init 59 = .ok (.if_icmp .ge 16, 3) := by decide +kernel
theorem ni_dX6_init_62 : decode cX6_init 62 = .ok (.aload_n 0, 1) := by decide +kernel
theorem ni_dX6_init_63 : decode cX6_init 63 = .ok (.getfield 25, 3) := by decide +kernel
theorem ni_dX6_init_66 : decode cX6_init 66 = .ok (.iload_n 1, 1) := by decide +kernel
theorem ni_dX6_init_67 : decode cX6_init 67 = .ok (.iconst 1, 1) := by decide +kernel
theorem ni_dX6_init_68 : decode cX6_init 68 = .ok (.iastore, 1) := by decide +kernel
theorem ni_dX6_init_69 : decode cX6_init 69 = .ok (.iinc 1 1, 3) := by decide +kernel
theorem ni_dX6_init_72 : decode cX6_init 72 = .ok (.goto (-15), 3) := by decide +kernel
theorem ni_dX6_init_75 : decode cX6_init 75 = .ok (.return_, 1) := by decide +kernel
theorem ni_dX6_accept_0 : decode cX6_accept 0 = .ok (.iload_n 1, 1) := by decide +kernel
theorem ni_dX6_accept_1 : decode cX6_accept 1 = .ok (.invokestatic 54, 3) := by decide +kernel
theorem ni_dX6_accept_4 : decode cX6_accept 4 = .ok (.istore_n 2, 1) := by decide +kernel
theorem ni_dX6_accept_5 : decode cX6_accept 5 = .ok (.aload_n 0, 1) := by decide +kernel
theorem ni_dX6_accept_6 : decode cX6_accept 6 = .ok (.getfield 60, 3) := by decide +kernel
theorem ni_dX6_accept_9 : decode cX6_accept 9 = .ok (.iload_n 2, 1) := by decide +kernel
theorem ni_dX6_accept_10 : decode cX6_accept 10 = .ok (.iadd, 1) := by decide +kernel
theorem ni_dX6_accept_11 : decode cX6_accept 11 = .ok (.aload_n 0, 1) := by decide +kernel
theorem ni_dX6_accept_12 : decode cX6_accept 12 = .ok (.getfield 22, 3) := by decide +kernel
theorem ni_dX6_accept_15 : decode cX6_accept 15 = .ok (.if_icmp .gt 13, 3) := by decide +kernel
theorem ni_dX6_accept_18 : decode cX6_accept 18 = .ok (.aload_n 0, 1) := by decide +kernel
theorem ni_dX6_accept_19 : decode cX6_accept 19 = .ok (.getfield 63, 3) := by decide +kernel
theorem ni_dX6_accept_22 : decode cX6_accept 22 = .ok (.sipush 250, 3) := by decide +kernel
theorem ni_dX6_accept_25 : decode cX6_accept 25 = .ok (.if_icmp .lt 5, 3) := by decide +kernel
theorem ni_dX6_accept_28 : decode cX6_accept 28 = .ok (.iconst 4, 1) := by decide +kernel
theorem ni_dX6_accept_29 : decode cX6_accept 29 = .ok (.ireturn, 1) := by decide +kernel
theorem ni_dX6_accept_30 : decode cX6_accept 30 = .ok (.aload_n 0, 1) := by decide +kernel
theorem ni_dX6_accept_31 : decode cX6_accept 31 = .ok (.getfield 38, 3) := by decide +kernel
theorem ni_dX6_accept_34 : decode cX6_accept 34 = .ok (.ifCond .eq 37, 3) := by decide +kernel
theorem ni_dX6_accept_37 : decode cX6_accept 37 = .ok (.iconst 2, 1) := by decide +kernel
theorem ni_dX6_accept_38 : decode cX6_accept 38 = .ok (.aload_n 0, 1) := by decide +kernel
theorem ni_dX6_accept_39 : decode cX6_accept 39 = .ok (.getfield 60, 3) := by decide +kernel
theorem ni_dX6_accept_42 : decode cX6_accept 42 = .ok (.imul, 1) := by decide +kernel
theorem ni_dX6_accept_43 : decode cX6_accept 43 = .ok (.aload_n 0, 1) := by decide +kernel
theorem ni_dX6_accept_44 : decode cX6_accept 44 = .ok (.getfield 22, 3) := by decide +kernel
theorem ni_dX6_accept_47 : decode cX6_accept 47 = .ok (.if_icmp .lt 24, 3) := by decide +kernel
theorem ni_dX6_accept_50 : decode cX6_accept 50 = .ok (.aload_n 0, 1) := by decide +kernel
theorem ni_dX6_accept_51 : decode cX6_accept 51 = .ok (.dup, 1) := by decide +kernel
