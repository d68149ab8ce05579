theorem ni_dX11_init_0 : decode cX11_init 0 = .ok (.aload_n 0, 1) := by decide +kernel
theorem ni_dX11_init_1 : decode cX11_init 1 = .ok (.invokespecial 1, 3) := by decide +kernel
theorem ni_dX11_init_4 : decode cX11_init 4 = .ok (.aload_n 0, 1) := by decide +kernel
theorem ni_dX11_init_5 : decode cX11_init 5 = .ok (.new 7, 3) := by decide +kernel
theorem ni_dX11_init_8 : decode cX11_init 8 = .ok (.dup, 1) := by decide +kernel
theorem ni_dX11_init_9 : decode cX11_init 9 = .ok (.invokespecial 9, 3) := by decide +kernel
theorem ni_dX11_init_12 : decode cX11_init 12 = .ok (.putfield 10, 3) := by decide +kernel
theorem ni_dX11_init_15 : decode cX11_init 15 = .ok (.aload_n 0, 1) := by decide +kernel
theorem ni_dX11_init_16 : decode cX11_init 16 = .ok (.new 7, 3) := by decide +kernel
theorem ni_dX11_init_19 : decode cX11_init 19 = .ok (.dup, 1) := by decide +kernel
theorem ni_dX11_init_20 : decode cX11_init 20 = .ok (.invokespecial 9, 3) := by decide +kernel
theorem ni_dX11_init_23 : decode cX11_init 23 = .ok (.putfield 16, 3) := by decide +kernel
theorem ni_dX11_init_26 : decode cX11_init 26 = .ok (.return_, 1) := by decide +kernel
theorem ni_dX11_addFlow_0 : decode cX11_addFlow 0 = .ok (.aload_n 0, 1) := by decide +kernel
theorem ni_dX11_addFlow_1 : decode cX11_addFlow 1 = .ok (.iload_n 1, 1) := by decide +kernel
theorem ni_dX11_addFlow_2 : decode cX11_addFlow 2 = .ok (.invokevirtual 34, 3) := by decide +kernel
theorem ni_dX11_addFlow_5 : decode cX11_addFlow 5 = .ok (.iload_n 2, 1) := by decide +kernel
theorem ni_dX11_addFlow_6 : decode cX11_addFlow 6 = .ok (.invokestatic 150, 3) := by decide +kernel
theorem ni_dX11_addFlow_9 : decode cX11_addFlow 9 = .ok (.iload_n 3, 1) := by decide +kernel
theorem ni_dX11_addFlow_10 : decode cX11_addFlow 10 = .ok (.bipush 20, 2) := by decide +kernel
theorem ni_dX11_addFlow_12 : decode cX11_addFlow 12 = .ok (.sipush 500, 3) := by decide +kernel
theorem ni_dX11_addFlow_15 : decode cX11_addFlow 15 = .ok (.invokestatic 43, 3) := by decide +kernel
theorem ni_dX11_addFlow_18 : decode cX11_addFlow 18 = .ok (.iload 4, 2) := by decide +kernel
theorem ni_dX11_addFlow_20 : decode cX11_addFlow 20 = .ok (.iconst 0, 1) := by decide +kernel
theorem ni_dX11_addFlow_21 : decode cX11_addFlow 21 = .ok (.iconst 3, 1) := by decide +kernel
theorem ni_dX11_addFlow_22 : decode cX11_addFlow 22 = .ok (.invokestatic 43, 3) := by decide +kernel
theorem ni_dX11_addFlow_25 : decode cX11_addFlow 25 = .ok (.aload_n 0, 1) := by decide +kernel
theorem ni_dX11_addFlow_26 : decode cX11_addFlow 26 = .ok (.getfield 10, 3) := by decide +kernel
theorem ni_dX11_addFlow_29 : decode cX11_addFlow 29 = .ok (.getfield 153, 3) := by decide +kernel
theorem ni_dX11_addFlow_32 : decode cX11_addFlow 32 = .ok (.bipush 12, 2) := by decide +kernel
theorem ni_dX11_addFlow_34 : decode cX11_addFlow 34 = .ok (.if_icmp .lt 13, 3) := by decide +kernel
theorem ni_dX11_addFlow_47 : decode cX11_addFlow 47 = .ok (.aload_n 0, 1) := by decide +kernel
theorem ni_dX11_addFlow_48 : decode cX11_addFlow 48 = .ok (.getfield 10, 3) := by decide +kernel
theorem ni_dX11_addFlow_51 : decode cX11_addFlow 51 = .ok (.iload_n 1, 1) := by decide +kernel
theorem ni_dX11_addFlow_52 : decode cX11_addFlow 52 = .ok (.iload_n 2, 1) := by decide +kernel
theorem ni_dX11_addFlow_53 : decode cX11_addFlow 53 = .ok (.iload_n 3, 1) := by decide +kernel
theorem ni_dX11_addFlow_54 : decode cX11_addFlow 54 = .ok (.iload 4, 2) := by decide +kernel
theorem ni_dX11_addFlow_56 : decode cX11_addFlow 56 = .ok (.invokevirtual 158, 3) := by decide +kernel
theorem ni_dX11_addFlow_59 : decode cX11_addFlow 59 = .ok (.ireturn, 1) := by decide +kernel
theorem ni_dX11_addLink_0 : decode cX11_addLink 0 = .ok (.aload_n 0, 1) := by decide +kernel
theorem ni_dX11_addLink_1 : decode cX11_addLink 1 = .ok (.iload_n 1, 1) := by decide +kernel
theorem ni_dX11_addLink_2 : decode cX11_addLink 2 = .ok (.invokevirtual 34, 3) := by decide +kernel
theorem ni_dX11_addLink_5 : decode cX11_addLink 5 = .ok (.aload_n 0, 1) := by decide +kernel
theorem ni_dX11_addLink_6 : decode cX11_addLink 6 = .ok (.iload_n 2, 1) := by decide +kernel
theorem ni_dX11_addLink_7 : decode cX11_addLink 7 = .ok (.invokevirtual 34, 3) := by decide +kernel
theorem ni_dX11_addLink_10 : decode cX11_addLink 10 = .ok (.iload_n 1, 1) := by decide +kernel
theorem ni_dX11_addLink_11 : decode cX11_addLink 11 = .ok (.iload_n 2, 1) := by decide +kernel
theorem ni_dX11_addLink_12 : decode cX11_addLink 12 = .ok (.if_icmp .ne 13, 3) := by decide +kernel
theorem ni_dX11_addLink_25 : decode cX11_addLink 25 = .ok (.iload_n 3, 1) := by decide +kernel
theorem ni_dX11_addLink_26 : decode cX11_addLink 26 = .ok (.iconst 1, 1) := by decide +kernel
theorem ni_dX11_addLink_27 : decode cX11_addLink 27 = .ok (.bipush 50, 2) := by decide +kernel
theorem ni_dX11_addLink_29 : decode cX11_addLink 29 = .ok (.invokestatic 43, 3) := by decide +kernel
theorem ni_dX11_addLink_32 : decode cX11_addLink 32 = .ok (.iload 4, 2) := by decide +kernel
theorem ni_dX11_addLink_34 : decode cX11_addLink 34 = .ok (.iconst 1, 1) := by decide +kernel
theorem ni_dX11_addLink_35 : decode cX11_addLink 35 = .ok (.sipush 200, 3) := by decide +kernel
theorem ni_dX11_addLink_38 : decode cX11_addLink 38 = .ok (.invokestatic 43, 3) := by decide +kernel
theorem ni_dX11_addLink_41 : decode cX11_addLink 41 = .ok (.iload 5, 2) := by decide +kernel
theorem ni_dX11_addLink_43 : decode cX11_addLink 43 = .ok (.iconst 1, 1) := by decide +kernel
theorem ni_dX11_addLink_44 : decode cX11_addLink 44 = .ok (.bipush 20, 2) := by decide +kernel
theorem ni_dX11_addLink_46 : decode cX11_addLink 46 = .ok (.invokestatic 43, 3) := by decide +kernel
theorem ni_dX11_addLink_49 : decode cX11_addLink 49 = .ok (.aload_n 0, 1) := by decide +kernel
theorem ni_dX11_addLink_50 : decode cX11_addLink 50 = .ok (.getfield 10, 3) := by decide +kernel
theorem ni_dX11_addLink_53 : decode cX11_addLink 53 = .ok (.getfield 47, 3) := by decide +kernel
theorem ni_dX11_addLink_56 : decode cX11_addLink 56 = .ok (.bipush 14, 2) := by decide +kernel
theorem ni_dX11_addLink_58 : decode cX11_addLink 58 = .ok (.if_icmp .lt 13, 3) := by decide +kernel
theorem ni_dX11_addLink_71 : decode cX11_addLink 71 = .ok (.aload_n 0, 1) := by decide +kernel
theorem ni_dX11_addLink_72 : decode cX11_addLink 72 = .ok (.getfield 10, 3) := by decide +kernel
theorem ni_dX11_addLink_75 : decode cX11_addLink 75 = .ok (.iload_n 1, 1) := by decide +kernel
theorem ni_dX11_addLink_76 : decode cX11_addLink 76 = .ok (.iload_n 2, 1) := by decide +kernel
theorem ni_dX11_addLink_77 : decode cX11_addLink 77 = .ok (.iload_n 3, 1) := by decide +kernel
theorem ni_dX11_addLink_78 : decode cX11_addLink 78 = .ok (.iload 4, 2) := by decide +kernel
theorem ni_dX11_addLink_80 : decode cX11_addLink 80 = .ok (.iload 5, 2) := by decide +kernel
theorem ni_dX11_addLink_82 : decode cX11_addLink 82 = .ok (.invokevirtual 52, 3) := by decide +kernel
theorem ni_dX11_addLink_85 : decode cX11_addLink 85 = .ok (.ireturn, 1) := by decide +kernel
theorem ni_dX11_addNetwork_0 : decode cX11_addNetwork 0 = .ok (.aload_n 0, 1) := by decide +kernel
theorem ni_dX11_addNetwork_1 : decode cX11_addNetwork 1 = .ok (.iload_n 1, 1) := by decide +kernel
theorem ni_dX11_addNetwork_2 : decode cX11_addNetwork 2 = .ok (.invokevirtual 34, 3) := by decide +kernel
theorem ni_dX11_addNetwork_5 : decode cX11_addNetwork 5 = .ok (.iload_n 2, 1) := by decide +kernel
theorem ni_dX11_addNetwork_6 : decode cX11_addNetwork 6 = .ok (.iload_n 3, 1) := by decide +kernel
theorem ni_dX11_addNetwork_7 : decode cX11_addNetwork 7 = .ok (.invokestatic 79, 3) := by decide +kernel
theorem ni_dX11_addNetwork_10 : decode cX11_addNetwork 10 = .ok (.iload_n 2, 1) := by decide +kernel
theorem ni_dX11_addNetwork_11 : decode cX11_addNetwork 11 = .ok (.iload_n 3, 1) := by decide +kernel
theorem ni_dX11_addNetwork_12 : decode cX11_addNetwork 12 = .ok (.invokestatic 83, 3) := by decide +kernel
theorem ni_dX11_addNetwork_15 : decode cX11_addNetwork 15 = .ok (.istore 4, 2) := by decide +kernel
theorem ni_dX11_addNetwork_17 : decode cX11_addNetwork 17 = .ok (.aload_n 0, 1) := by decide +kernel
theorem ni_dX11_addNetwork_18 : decode cX11_addNetwork 18 = .ok (.getfield 10, 3) := by decide +kernel
theorem ni_dX11_addNetwork_21 : decode cX11_addNetwork 21 = .ok (.getfield 88, 3) := by decide +kernel
theorem ni_dX11_addNetwork_24 : decode cX11_addNetwork 24 = .ok (.getfield 92, 3) := by decide +kernel
theorem ni_dX11_addNetwork_27 : decode cX11_addNetwork 27 = .ok (.bipush 24, 2) := by decide +kernel
theorem ni_dX11_addNetwork_29 : decode cX11_addNetwork 29 = .ok (.if_icmp .lt 13, 3) := by decide +kernel
theorem ni_dX11_addNetwork_42 : decode cX11_addNetwork 42 = .ok (.aload_n 0, 1) := by decide +kernel
theorem ni_dX11_addNetwork_43 : decode cX11_addNetwork 43 = .ok (.getfield 10, 3) := by decide +kernel
theorem ni_dX11_addNetwork_46 : decode cX11_addNetwork 46 = .ok (.getfield 88, 3) := by decide +kernel
theorem ni_dX11_addNetwork_49 : decode cX11_addNetwork 49 = .ok (.iload_n 1, 1) := by decide +kernel
theorem ni_dX11_addNetwork_50 : decode cX11_addNetwork 50 = .ok (.iload 4, 2) := by decide +kernel
theorem ni_dX11_addNetwork_52 : decode cX11_addNetwork 52 = .ok (.invokevirtual 99, 3) := by decide +kernel
theorem ni_dX11_addNetwork_55 : decode cX11_addNetwork 55 = .ok (.ifCond .eq 13, 3) := by decide +kernel
theorem ni_dX11_addNetwork_68 : decode cX11_addNetwork 68 = .ok (.aload_n 0, 1) := by decide +kernel
theorem ni_dX11_addNetwork_69 : decode cX11_addNetwork 69 = .ok (.getfield 10, 3) := by decide +kernel
theorem ni_dX11_addNetwork_72 : decode cX11_addNetwork 72 = .ok (.iload_n 1, 1) := by decide +kernel
theorem ni_dX11_addNetwork_73 : decode cX11_addNetwork 73 = .ok (.iload 4, 2) := by decide +kernel
theorem ni_dX11_addNetwork_75 : decode cX11_addNetwork 75 = .ok (.invokevirtual 105, 3) := by decide +kernel
theorem ni_dX11_addNetwork_78 : decode cX11_addNetwork 78 = .ok (.ireturn, 1) := by decide +kernel
theorem ni_dX11_addRouter_0 : decode cX11_addRouter 0 = .ok (.aload_n 0, 1) := by decide +kernel
theorem ni_dX11_addRouter_1 : decode cX11_addRouter 1 = .ok (.getfield 10, 3) := by decide +kernel
theorem ni_dX11_addRouter_4 : decode cX11_addRouter 4 = .ok (.getfield 19, 3) := by decide +kernel
theorem ni_dX11_addRouter_7 : decode cX11_addRouter 7 = .ok (.bipush 8, 2) := by decide +kernel
theorem ni_dX11_addRouter_9 : decode cX11_addRouter 9 = .ok (.if_icmp .lt 13, 3) := by decide +kernel
theorem ni_dX11_addRouter_22 : decode cX11_addRouter 22 = .ok (.aload_n 0, 1) := by decide +kernel
theorem ni_dX11_addRouter_23 : decode cX11_addRouter 23 = .ok (.getfield 10, 3) := by decide +kernel
theorem ni_dX11_addRouter_26 : decode cX11_addRouter 26 = .ok (.invokevirtual 30, 3) := by decide +kernel
theorem ni_dX11_addRouter_29 : decode cX11_addRouter 29 = .ok (.ireturn, 1) := by decide +kernel
theorem ni_dX11_addStatic_0 : decode cX11_addStatic 0 = .ok (.aload_n 0, 1) := by decide +kernel
theorem ni_dX11_addStatic_1 : decode cX11_addStatic 1 = .ok (.iload_n 1, 1) := by decide +kernel
theorem ni_dX11_addStatic_2 : decode cX11_addStatic 2 = .ok (.invokevirtual 34, 3) := by decide +kernel
theorem ni_dX11_addStatic_5 : decode cX11_addStatic 5 = .ok (.aload_n 0, 1) := by decide +kernel
theorem ni_dX11_addStatic_6 : decode cX11_addStatic 6 = .ok (.iload 4, 2) := by decide +kernel
theorem ni_dX11_addStatic_8 : decode cX11_addStatic 8 = .ok (.invokevirtual 56, 3) := by decide +kernel
theorem ni_dX11_addStatic_11 : decode cX11_addStatic 11 = .ok (.iload_n 2, 1) := by decide +kernel
theorem ni_dX11_addStatic_12 : decode cX11_addStatic 12 = .ok (.iload_n 3, 1) := by decide +kernel
theorem ni_dX11_addStatic_13 : decode cX11_addStatic 13 = .ok (.invokestatic 79, 3) := by decide +kernel
theorem ni_dX11_addStatic_16 : decode cX11_addStatic 16 = .ok (.aload_n 0, 1) := by decide +kernel
theorem ni_dX11_addStatic_17 : decode cX11_addStatic 17 = .ok (.getfield 10, 3) := by decide +kernel
theorem ni_dX11_addStatic_20 : decode cX11_addStatic 20 = .ok (.getfield 63, 3) := by decide +kernel
theorem ni_dX11_addStatic_23 : decode cX11_addStatic 23 = .ok (.iload 4, 2) := by decide +kernel
theorem ni_dX11_addStatic_25 : decode cX11_addStatic 25 = .ok (.aaload, 1) := by decide +kernel
theorem ni_dX11_addStatic_26 : decode cX11_addStatic 26 = .ok (.iload_n 1, 1) := by decide +kernel
theorem ni_dX11_addStatic_27 : decode cX11_addStatic 27 = .ok (.invokevirtual 115, 3) := by decide +kernel
theorem ni_dX11_addStatic_30 : decode cX11_addStatic 30 = .ok (.ifCond .ne 13, 3) := by decide +kernel
theorem ni_dX11_addStatic_43 : decode cX11_addStatic 43 = .ok (.aload_n 0, 1) := by decide +kernel
theorem ni_dX11_addStatic_44 : decode cX11_addStatic 44 = .ok (.getfield 10, 3) := by decide +kernel
theorem ni_dX11_addStatic_47 : decode cX11_addStatic 47 = .ok (.getfield 121, 3) := by decide +kernel
theorem ni_dX11_addStatic_50 : decode cX11_addStatic 50 = .ok (.getfield 92, 3) := by decide +kernel
theorem ni_dX11_addStatic_53 : decode cX11_addStatic 53 = .ok (.bipush 24, 2) := by decide +kernel
theorem ni_dX11_addStatic_55 : decode cX11_addStatic 55 = .ok (.if_icmp .lt 13, 3) := by decide +kernel
theorem ni_dX11_addStatic_68 : decode cX11_addStatic 68 = .ok (.aload_n 0, 1) := by decide +kernel
theorem ni_dX11_addStatic_69 : decode cX11_addStatic 69 = .ok (.getfield 10, 3) := by decide +kernel
theorem ni_dX11_addStatic_72 : decode cX11_addStatic 72 = .ok (.iload_n 1, 1) := by decide +kernel
theorem ni_dX11_addStatic_73 : decode cX11_addStatic 73 = .ok (.iload_n 2, 1) := by decide +kernel
theorem ni_dX11_addStatic_74 : decode cX11_addStatic 74 = .ok (.iload_n 3, 1) := by decide +kernel
theorem ni_dX11_addStatic_75 : decode cX11_addStatic 75 = .ok (.invokestatic 83, 3) := by decide +kernel
theorem ni_dX11_addStatic_78 : decode cX11_addStatic 78 = .ok (.iload 4, 2) := by decide +kernel
theorem ni_dX11_addStatic_80 : decode cX11_addStatic 80 = .ok (.invokevirtual 126, 3) := by decide +kernel
theorem ni_dX11_addStatic_83 : decode cX11_addStatic 83 = .ok (.ireturn, 1) := by decide +kernel
theorem ni_dX11_checkAddress_0 : decode cX11_checkAddress 0 = .ok (.iload_n 0, 1) := by decide +kernel
theorem ni_dX11_checkAddress_1 : decode cX11_checkAddress 1 = .ok (.iconst 0, 1) := by decide +kernel
theorem ni_dX11_checkAddress_2 : decode cX11_checkAddress 2 = .ok (.ldc_w 335, 3) := by decide +kernel
theorem ni_dX11_checkAddress_5 : decode cX11_checkAddress 5 = .ok (.invokestatic 43, 3) := by decide +kernel
theorem ni_dX11_checkAddress_8 : decode cX11_checkAddress 8 = .ok (.return_, 1) := by decide +kernel
theorem ni_dX11_checkFlow_0 : decode cX11_checkFlow 0 = .ok (.iload_n 1, 1) := by decide +kernel
theorem ni_dX11_checkFlow_1 : decode cX11_checkFlow 1 = .ok (.aload_n 0, 1) := by decide +kernel
theorem ni_dX11_checkFlow_2 : decode cX11_checkFlow 2 = .ok (.getfield 10, 3) := by decide +kernel
theorem ni_dX11_checkFlow_5 : decode cX11_checkFlow 5 = .ok (.getfield 153, 3) := by decide +kernel
theorem ni_dX11_checkFlow_8 : decode cX11_checkFlow 8 = .ok (.invokestatic 108, 3) := by decide +kernel
theorem ni_dX11_checkFlow_11 : decode cX11_checkFlow 11 = .ok (.return_, 1) := by decide +kernel
theorem ni_dX11_checkIndex_0 : decode cX11_checkIndex 0 = .ok (.iload_n 0, 1) := by decide +kernel
theorem ni_dX11_checkIndex_1 : decode cX11_checkIndex 1 = .ok (.ifCond .lt 8, 3) := by decide +kernel
theorem ni_dX11_checkIndex_4 : decode cX11_checkIndex 4 = .ok (.iload_n 0, 1) := by decide +kernel
theorem ni_dX11_checkIndex_5 : decode cX11_checkIndex 5 = .ok (.iload_n 1, 1) := by decide +kernel
theorem ni_dX11_checkIndex_6 : decode cX11_checkIndex 6 = .ok (.if_icmp .lt 14, 3) := by decide +kernel
theorem ni_dX11_checkIndex_20 : decode cX11_checkIndex 20 = .ok (.return_, 1) := by decide +kernel
theorem ni_dX11_checkLink_0 : decode cX11_checkLink 0 = .ok (.iload_n 1, 1) := by decide +kernel
theorem ni_dX11_checkLink_1 : decode cX11_checkLink 1 = .ok (.aload_n 0, 1) := by decide +kernel
theorem ni_dX11_checkLink_2 : decode cX11_checkLink 2 = .ok (.getfield 10, 3) := by decide +kernel
theorem ni_dX11_checkLink_5 : decode cX11_checkLink 5 = .ok (.getfield 47, 3) := by decide +kernel
theorem ni_dX11_checkLink_8 : decode cX11_checkLink 8 = .ok (.invokestatic 108, 3) := by decide +kernel
theorem ni_dX11_checkLink_11 : decode cX11_checkLink 11 = .ok (.return_, 1) := by decide +kernel
theorem ni_dX11_checkPrefix_0 : decode cX11_checkPrefix 0 = .ok (.iload_n 0, 1) := by decide +kernel
theorem ni_dX11_checkPrefix_1 : decode cX11_checkPrefix 1 = .ok (.invokestatic 150, 3) := by decide +kernel
theorem ni_dX11_checkPrefix_4 : decode cX11_checkPrefix 4 = .ok (.iload_n 1, 1) := by decide +kernel
theorem ni_dX11_checkPrefix_5 : decode cX11_checkPrefix 5 = .ok (.iconst 0, 1) := by decide +kernel
theorem ni_dX11_checkPrefix_6 : decode cX11_checkPrefix 6 = .ok (.bipush 16, 2) := by decide +kernel
theorem ni_dX11_checkPrefix_8 : decode cX11_checkPrefix 8 = .ok (.invokestatic 43, 3) := by decide +kernel
theorem ni_dX11_checkPrefix_11 : decode cX11_checkPrefix 11 = .ok (.iload_n 0, 1) := by decide +kernel
theorem ni_dX11_checkPrefix_12 : decode cX11_checkPrefix 12 = .ok (.iload_n 1, 1) := by decide +kernel
theorem ni_dX11_checkPrefix_13 : decode cX11_checkPrefix 13 = .ok (.invokestatic 336, 3) := by decide +kernel
theorem ni_dX11_checkPrefix_16 : decode cX11_checkPrefix 16 = .ok (.ifCond .eq 14, 3) := by decide +kernel
theorem ni_dX11_checkPrefix_30 : decode cX11_checkPrefix 30 = .ok (.return_, 1) := by decide +kernel
theorem ni_dX11_checkRange_0 : decode cX11_checkRange 0 = .ok (.iload_n 0, 1) := by decide +kernel
theorem ni_dX11_checkRange_1 : decode cX11_checkRange 1 = .ok (.iload_n 1, 1) := by decide +kernel
theorem ni_dX11_checkRange_2 : decode cX11_checkRange 2 = .ok (.if_icmp .lt 8, 3) := by decide +kernel
theorem ni_dX11_checkRange_5 : decode cX11_checkRange 5 = .ok (.iload_n 0, 1) := by decide +kernel
theorem ni_dX11_checkRange_6 : decode cX11_checkRange 6 = .ok (.iload_n 2, 1) := by decide +kernel
theorem ni_dX11_checkRange_7 : decode cX11_checkRange 7 = .ok (.if_icmp .le 14, 3) := by decide +kernel
theorem ni_dX11_checkRange_21 : decode cX11_checkRange 21 = .ok (.return_, 1) := by decide +kernel
theorem ni_dX11_checkRouter_0 : decode cX11_checkRouter 0 = .ok (.iload_n 1, 1) := by decide +kernel
theorem ni_dX11_checkRouter_1 : decode cX11_checkRouter 1 = .ok (.aload_n 0, 1) := by decide +kernel
theorem ni_dX11_checkRouter_2 : decode cX11_checkRouter 2 = .ok (.getfield 10, 3) := by decide +kernel
theorem ni_dX11_checkRouter_5 : decode cX11_checkRouter 5 = .ok (.getfield 19, 3) := by decide +kernel
theorem ni_dX11_checkRouter_8 : decode cX11_checkRouter 8 = .ok (.invokestatic 108, 3) := by decide +kernel
theorem ni_dX11_checkRouter_11 : decode cX11_checkRouter 11 = .ok (.return_, 1) := by decide +kernel
theorem ni_dX11_deficit_0 : decode cX11_deficit 0 = .ok (.aload_n 0, 1) := by decide +kernel
theorem ni_dX11_deficit_1 : decode cX11_deficit 1 = .ok (.iload_n 1, 1) := by decide +kernel
theorem ni_dX11_deficit_2 : decode cX11_deficit 2 = .ok (.invokevirtual 56, 3) := by decide +kernel
theorem ni_dX11_deficit_5 : decode cX11_deficit 5 = .ok (.iload_n 3, 1) := by decide +kernel
theorem ni_dX11_deficit_6 : decode cX11_deficit 6 = .ok (.iconst 4, 1) := by decide +kernel
theorem ni_dX11_deficit_7 : decode cX11_deficit 7 = .ok (.invokestatic 108, 3) := by decide +kernel
theorem ni_dX11_deficit_10 : decode cX11_deficit 10 = .ok (.aload_n 0, 1) := by decide +kernel
theorem ni_dX11_deficit_11 : decode cX11_deficit 11 = .ok (.iload_n 1, 1) := by decide +kernel
theorem ni_dX11_deficit_12 : decode cX11_deficit 12 = .ok (.iload_n 2, 1) := by decide +kernel
theorem ni_dX11_deficit_13 : decode cX11_deficit 13 = .ok (.invokevirtual 133, 3) := by decide +kernel
theorem ni_dX11_deficit_16 : decode cX11_deficit 16 = .ok (.getfield 273, 3) := by decide +kernel
theorem ni_dX11_deficit_19 : decode cX11_deficit 19 = .ok (.iload_n 3, 1) := by decide +kernel
theorem ni_dX11_deficit_20 : decode cX11_deficit 20 = .ok (.iaload, 1) := by decide +kernel
theorem ni_dX11_deficit_21 : decode cX11_deficit 21 = .ok (.ireturn, 1) := by decide +kernel
theorem ni_dX11_delivered_0 : decode cX11_delivered 0 = .ok (.aload_n 0, 1) := by decide +kernel
theorem ni_dX11_delivered_1 : decode cX11_delivered 1 = .ok (.iload_n 1, 1) := by decide +kernel
theorem ni_dX11_delivered_2 : decode cX11_delivered 2 = .ok (.invokevirtual 162, 3) := by decide +kernel
theorem ni_dX11_delivered_5 : decode cX11_delivered 5 = .ok (.aload_n 0, 1) := by decide +kernel
theorem ni_dX11_delivered_6 : decode cX11_delivered 6 = .ok (.getfield 10, 3) := by decide +kernel
theorem ni_dX11_delivered_9 : decode cX11_delivered 9 = .ok (.getfield 168, 3) := by decide +kernel
theorem ni_dX11_delivered_12 : decode cX11_delivered 12 = .ok (.iload_n 1, 1) := by decide +kernel
theorem ni_dX11_delivered_13 : decode cX11_delivered 13 = .ok (.aaload, 1) := by decide +kernel
theorem ni_dX11_delivered_14 : decode cX11_delivered 14 = .ok (.getfield 282, 3) := by decide +kernel
theorem ni_dX11_delivered_17 : decode cX11_delivered 17 = .ok (.ireturn, 1) := by decide +kernel
theorem ni_dX11_deliveredIn_0 : decode cX11_deliveredIn 0 = .ok (.aload_n 0, 1) := by decide +kernel
theorem ni_dX11_deliveredIn_1 : decode cX11_deliveredIn 1 = .ok (.iload_n 1, 1) := by decide +kernel
theorem ni_dX11_deliveredIn_2 : decode cX11_deliveredIn 2 = .ok (.invokevirtual 162, 3) := by decide +kernel
theorem ni_dX11_deliveredIn_5 : decode cX11_deliveredIn 5 = .ok (.iload_n 2, 1) := by decide +kernel
theorem ni_dX11_deliveredIn_6 : decode cX11_deliveredIn 6 = .ok (.iconst 1, 1) := by decide +kernel
theorem ni_dX11_deliveredIn_7 : decode cX11_deliveredIn 7 = .ok (.bipush 60, 2) := by decide +kernel
theorem ni_dX11_deliveredIn_9 : decode cX11_deliveredIn 9 = .ok (.invokestatic 43, 3) := by decide +kernel
theorem ni_dX11_deliveredIn_12 : decode cX11_deliveredIn 12 = .ok (.aload_n 0, 1) := by decide +kernel
theorem ni_dX11_deliveredIn_13 : decode cX11_deliveredIn 13 = .ok (.getfield 16, 3) := by decide +kernel
theorem ni_dX11_deliveredIn_16 : decode cX11_deliveredIn 16 = .ok (.aload_n 0, 1) := by decide +kernel
theorem ni_dX11_deliveredIn_17 : decode cX11_deliveredIn 17 = .ok (.getfield 10, 3) := by decide +kernel
theorem ni_dX11_deliveredIn_20 : decode cX11_deliveredIn 20 = .ok (.invokevirtual 297, 3) := by decide +kernel
theorem ni_dX11_deliveredIn_23 : decode cX11_deliveredIn 23 = .ok (.iconst 0, 1) := by decide +kernel
theorem ni_dX11_deliveredIn_24 : decode cX11_deliveredIn 24 = .ok (.istore_n 3, 1) := by decide +kernel
theorem ni_dX11_deliveredIn_25 : decode cX11_deliveredIn 25 = .ok (.iload_n 3, 1) := by decide +kernel
theorem ni_dX11_deliveredIn_26 : decode cX11_deliveredIn 26 = .ok (.iload_n 2, 1) := by decide +kernel
theorem ni_dX11_deliveredIn_27 : decode cX11_deliveredIn 27 = .ok (.if_icmp .ge 16, 3) := by decide +kernel
theorem ni_dX11_deliveredIn_30 : decode cX11_deliveredIn 30 = .ok (.aload_n 0, 1) := by decide +kernel
theorem ni_dX11_deliveredIn_31 : decode cX11_deliveredIn 31 = .ok (.getfield 16, 3) := by decide +kernel
theorem ni_dX11_deliveredIn_34 : decode cX11_deliveredIn 34 = .ok (.invokevirtual 198, 3) := by decide +kernel
theorem ni_dX11_deliveredIn_37 : decode cX11_deliveredIn 37 = .ok (.iinc 3 1, 3) := by decide +kernel
theorem ni_dX11_deliveredIn_40 : decode cX11_deliveredIn 40 = .ok (.goto (-15), 3) := by decide +kernel
theorem ni_dX11_deliveredIn_43 : decode cX11_deliveredIn 43 = .ok (.aload_n 0, 1) := by decide +kernel
theorem ni_dX11_deliveredIn_44 : decode cX11_deliveredIn 44 = .ok (.getfield 16, 3) := by decide +kernel
theorem ni_dX11_deliveredIn_47 : decode cX11_deliveredIn 47 = .ok (.getfield 168, 3) := by decide +kernel
theorem ni_dX11_deliveredIn_50 : decode cX11_deliveredIn 50 = .ok (.iload_n 1, 1) := by decide +kernel
theorem ni_dX11_deliveredIn_51 : decode cX11_deliveredIn 51 = .ok (.aaload, 1) := by decide +kernel
theorem ni_dX11_deliveredIn_52 : decode cX11_deliveredIn 52 = .ok (.getfield 282, 3) := by decide +kernel
theorem ni_dX11_deliveredIn_55 : decode cX11_deliveredIn 55 = .ok (.ireturn, 1) := by decide +kernel
theorem ni_dX11_digest_0 : decode cX11_digest 0 = .ok (.ldc2_w 301, 3) := by decide +kernel
theorem ni_dX11_digest_3 : decode cX11_digest 3 = .ok (.lstore_n 1, 1) := by decide +kernel
theorem ni_dX11_digest_4 : decode cX11_digest 4 = .ok (.lload_n 1, 1) := by decide +kernel
theorem ni_dX11_digest_5 : decode cX11_digest 5 = .ok (.ldc2_w 303, 3) := by decide +kernel
theorem ni_dX11_digest_8 : decode cX11_digest 8 = .ok (.lmul, 1) := by decide +kernel
theorem ni_dX11_digest_9 : decode cX11_digest 9 = .ok (.aload_n 0, 1) := by decide +kernel
theorem ni_dX11_digest_10 : decode cX11_digest 10 = .ok (.getfield 10, 3) := by decide +kernel
theorem ni_dX11_digest_13 : decode cX11_digest 13 = .ok (.getfield 165, 3) := by decide +kernel
theorem ni_dX11_digest_16 : decode cX11_digest 16 = .ok (.i2l, 1) := by decide +kernel
theorem ni_dX11_digest_17 : decode cX11_digest 17 = .ok (.ladd, 1) := by decide +kernel
theorem ni_dX11_digest_18 : decode cX11_digest 18 = .ok (.lstore_n 1, 1) := by decide +kernel
theorem ni_dX11_digest_19 : decode cX11_digest 19 = .ok (.lload_n 1, 1) := by decide +kernel
theorem ni_dX11_digest_20 : decode cX11_digest 20 = .ok (.ldc2_w 303, 3) := by decide +kernel
theorem ni_dX11_digest_23 : decode cX11_digest 23 = .ok (.lmul, 1) := by decide +kernel
theorem ni_dX11_digest_24 : decode cX11_digest 24 = .ok (.aload_n 0, 1) := by decide +kernel
theorem ni_dX11_digest_25 : decode cX11_digest 25 = .ok (.getfield 10, 3) := by decide +kernel
theorem ni_dX11_digest_28 : decode cX11_digest 28 = .ok (.getfield 19, 3) := by decide +kernel
theorem ni_dX11_digest_31 : decode cX11_digest 31 = .ok (.i2l, 1) := by decide +kernel
theorem ni_dX11_digest_32 : decode cX11_digest 32 = .ok (.ladd, 1) := by decide +kernel
theorem ni_dX11_digest_33 : decode cX11_digest 33 = .ok (.lstore_n 1, 1) := by decide +kernel
theorem ni_dX11_digest_34 : decode cX11_digest 34 = .ok (.lload_n 1, 1) := by decide +kernel
theorem ni_dX11_digest_35 : decode cX11_digest 35 = .ok (.ldc2_w 303, 3) := by decide +kernel
theorem ni_dX11_digest_38 : decode cX11_digest 38 = .ok (.lmul, 1) := by decide +kernel
theorem ni_dX11_digest_39 : decode cX11_digest 39 = .ok (.aload_n 0, 1) := by decide +kernel
theorem ni_dX11_digest_40 : decode cX11_digest 40 = .ok (.getfield 10, 3) := by decide +kernel
theorem ni_dX11_digest_43 : decode cX11_digest 43 = .ok (.getfield 47, 3) := by decide +kernel
theorem ni_dX11_digest_46 : decode cX11_digest 46 = .ok (.i2l, 1) := by decide +kernel
theorem ni_dX11_digest_47 : decode cX11_digest 47 = .ok (.ladd, 1) := by decide +kernel
theorem ni_dX11_digest_48 : decode cX11_digest 48 = .ok (.lstore_n 1, 1) := by decide +kernel
theorem ni_dX11_digest_49 : decode cX11_digest 49 = .ok (.lload_n 1, 1) := by decide +kernel
theorem ni_dX11_digest_50 : decode cX11_digest 50 = .ok (.ldc2_w 303, 3) := by decide +kernel
theorem ni_dX11_digest_53 : decode cX11_digest 53 = .ok (.lmul, 1) := by decide +kernel
theorem ni_dX11_digest_54 : decode cX11_digest 54 = .ok (.aload_n 0, 1) := by decide +kernel
theorem ni_dX11_digest_55 : decode cX11_digest 55 = .ok (.getfield 10, 3) := by decide +kernel
theorem ni_dX11_digest_58 : decode cX11_digest 58 = .ok (.getfield 88, 3) := by decide +kernel
theorem ni_dX11_digest_61 : decode cX11_digest 61 = .ok (.getfield 92, 3) := by decide +kernel
theorem ni_dX11_digest_64 : decode cX11_digest 64 = .ok (.i2l, 1) := by decide +kernel
theorem ni_dX11_digest_65 : decode cX11_digest 65 = .ok (.ladd, 1) := by decide +kernel
theorem ni_dX11_digest_66 : decode cX11_digest 66 = .ok (.lstore_n 1, 1) := by decide +kernel
theorem ni_dX11_digest_67 : decode cX11_digest 67 = .ok (.lload_n 1, 1) := by decide +kernel
theorem ni_dX11_digest_68 : decode cX11_digest 68 = .ok (.ldc2_w 303, 3) := by decide +kernel
theorem ni_dX11_digest_71 : decode cX11_digest 71 = .ok (.lmul, 1) := by decide +kernel
theorem ni_dX11_digest_72 : decode cX11_digest 72 = .ok (.aload_n 0, 1) := by decide +kernel
theorem ni_dX11_digest_73 : decode cX11_digest 73 = .ok (.getfield 10, 3) := by decide +kernel
theorem ni_dX11_digest_76 : decode cX11_digest 76 = .ok (.getfield 121, 3) := by decide +kernel
theorem ni_dX11_digest_79 : decode cX11_digest 79 = .ok (.getfield 92, 3) := by decide +kernel
theorem ni_dX11_digest_82 : decode cX11_digest 82 = .ok (.i2l, 1) := by decide +kernel
theorem ni_dX11_digest_83 : decode cX11_digest 83 = .ok (.ladd, 1) := by decide +kernel
theorem ni_dX11_digest_84 : decode cX11_digest 84 = .ok (.lstore_n 1, 1) := by decide +kernel
theorem ni_dX11_digest_85 : decode cX11_digest 85 = .ok (.lload_n 1, 1) := by decide +kernel
theorem ni_dX11_digest_86 : decode cX11_digest 86 = .ok (.ldc2_w 303, 3) := by decide +kernel
theorem ni_dX11_digest_89 : decode cX11_digest 89 = .ok (.lmul, 1) := by decide +kernel
theorem ni_dX11_digest_90 : decode cX11_digest 90 = .ok (.aload_n 0, 1) := by decide +kernel
theorem ni_dX11_digest_91 : decode cX11_digest 91 = .ok (.getfield 10, 3) := by decide +kernel
theorem ni_dX11_digest_94 : decode cX11_digest 94 = .ok (.getfield 153, 3) := by decide +kernel
theorem ni_dX11_digest_97 : decode cX11_digest 97 = .ok (.i2l, 1) := by decide +kernel
theorem ni_dX11_digest_98 : decode cX11_digest 98 = .ok (.ladd, 1) := by decide +kernel
theorem ni_dX11_digest_99 : decode cX11_digest 99 = .ok (.lstore_n 1, 1) := by decide +kernel
theorem ni_dX11_digest_100 : decode cX11_digest 100 = .ok (.lload_n 1, 1) := by decide +kernel
theorem ni_dX11_digest_101 : decode cX11_digest 101 = .ok (.ldc2_w 303, 3) := by decide +kernel
theorem ni_dX11_digest_104 : decode cX11_digest 104 = .ok (.lmul, 1) := by decide +kernel
theorem ni_dX11_digest_105 : decode cX11_digest 105 = .ok (.aload_n 0, 1) := by decide +kernel
theorem ni_dX11_digest_106 : decode cX11_digest 106 = .ok (.getfield 10, 3) := by decide +kernel
theorem ni_dX11_digest_109 : decode cX11_digest 109 = .ok (.invokevirtual 216, 3) := by decide +kernel
theorem ni_dX11_digest_112 : decode cX11_digest 112 = .ok (.i2l, 1) := by decide +kernel
theorem ni_dX11_digest_113 : decode cX11_digest 113 = .ok (.ladd, 1) := by decide +kernel
theorem ni_dX11_digest_114 : decode cX11_digest 114 = .ok (.lstore_n 1, 1) := by decide +kernel
theorem ni_dX11_digest_115 : decode cX11_digest 115 = .ok (.iconst 0, 1) := by decide +kernel
theorem ni_dX11_digest_116 : decode cX11_digest 116 = .ok (.istore_n 3, 1) := by decide +kernel
theorem ni_dX11_digest_117 : decode cX11_digest 117 = .ok (.iload_n 3, 1) := by decide +kernel
theorem ni_dX11_digest_118 : decode cX11_digest 118 = .ok (.aload_n 0, 1) := by decide +kernel
theorem ni_dX11_digest_119 : decode cX11_digest 119 = .ok (.getfield 10, 3) := by decide +kernel
theorem ni_dX11_digest_122 : decode cX11_digest 122 = .ok (.getfield 19, 3) := by decide +kernel
theorem ni_dX11_digest_125 : decode cX11_digest 125 = .ok (.if_icmp .ge 24, 3) := by decide +kernel
theorem ni_dX11_digest_128 : decode cX11_digest 128 = .ok (.aload_n 0, 1) := by decide +kernel
theorem ni_dX11_digest_129 : decode cX11_digest 129 = .ok (.lload_n 1, 1) := by decide +kernel
theorem ni_dX11_digest_130 : decode cX11_digest 130 = .ok (.aload_n 0, 1) := by decide +kernel
theorem ni_dX11_digest_131 : decode cX11_digest 131 = .ok (.getfield 10, 3) := by decide +kernel
theorem ni_dX11_digest_134 : decode cX11_digest 134 = .ok (.getfield 201, 3) := by decide +kernel
theorem ni_dX11_digest_137 : decode cX11_digest 137 = .ok (.iload_n 3, 1) := by decide +kernel
theorem ni_dX11_digest_138 : decode cX11_digest 138 = .ok (.aaload, 1) := by decide +kernel
theorem ni_dX11_digest_139 : decode cX11_digest 139 = .ok (.invokevirtual 305, 3) := by decide +kernel
theorem ni_dX11_digest_142 : decode cX11_digest 142 = .ok (.lstore_n 1, 1) := by decide +kernel
theorem ni_dX11_digest_143 : decode cX11_digest 143 = .ok (.iinc 3 1, 3) := by decide +kernel
theorem ni_dX11_digest_146 : decode cX11_digest 146 = .ok (.goto (-29), 3) := by decide +kernel
theorem ni_dX11_digest_149 : decode cX11_digest 149 = .ok (.iconst 0, 1) := by decide +kernel
theorem ni_dX11_digest_150 : decode cX11_digest 150 = .ok (.istore_n 3, 1) := by decide +kernel
theorem ni_dX11_digest_151 : decode cX11_digest 151 = .ok (.iload_n 3, 1) := by decide +kernel
theorem ni_dX11_digest_152 : decode cX11_digest 152 = .ok (.aload_n 0, 1) := by decide +kernel
theorem ni_dX11_digest_153 : decode cX11_digest 153 = .ok (.getfield 10, 3) := by decide +kernel
theorem ni_dX11_digest_156 : decode cX11_digest 156 = .ok (.getfield 47, 3) := by decide +kernel
theorem ni_dX11_digest_159 : decode cX11_digest 159 = .ok (.if_icmp .ge 23, 3) := by decide +kernel
theorem ni_dX11_digest_162 : decode cX11_digest 162 = .ok (.lload_n 1, 1) := by decide +kernel
theorem ni_dX11_digest_163 : decode cX11_digest 163 = .ok (.aload_n 0, 1) := by decide +kernel
theorem ni_dX11_digest_164 : decode cX11_digest 164 = .ok (.getfield 10, 3) := by decide +kernel
theorem ni_dX11_digest_167 : decode cX11_digest 167 = .ok (.getfield 63, 3) := by decide +kernel
theorem ni_dX11_digest_170 : decode cX11_digest 170 = .ok (.iload_n 3, 1) := by decide +kernel
theorem ni_dX11_digest_171 : decode cX11_digest 171 = .ok (.aaload, 1) := by decide +kernel
theorem ni_dX11_digest_172 : decode cX11_digest 172 = .ok (.invokestatic 309, 3) := by decide +kernel
theorem ni_dX11_digest_175 : decode cX11_digest 175 = .ok (.lstore_n 1, 1) := by decide +kernel
theorem ni_dX11_digest_176 : decode cX11_digest 176 = .ok (.iinc 3 1, 3) := by decide +kernel
theorem ni_dX11_digest_179 : decode cX11_digest 179 = .ok (.goto (-28), 3) := by decide +kernel
theorem ni_dX11_digest_182 : decode cX11_digest 182 = .ok (.iconst 0, 1) := by decide +kernel
theorem ni_dX11_digest_183 : decode cX11_digest 183 = .ok (.istore_n 3, 1) := by decide +kernel
theorem ni_dX11_digest_184 : decode cX11_digest 184 = .ok (.iload_n 3, 1) := by decide +kernel
theorem ni_dX11_digest_185 : decode cX11_digest 185 = .ok (.aload_n 0, 1) := by decide +kernel
theorem ni_dX11_digest_186 : decode cX11_digest 186 = .ok (.getfield 10, 3) := by decide +kernel
theorem ni_dX11_digest_189 : decode cX11_digest 189 = .ok (.getfield 153, 3) := by decide +kernel
theorem ni_dX11_digest_192 : decode cX11_digest 192 = .ok (.if_icmp .ge 16, 3) := by decide +kernel
theorem ni_dX11_digest_195 : decode cX11_digest 195 = .ok (.aload_n 0, 1) := by decide +kernel
theorem ni_dX11_digest_196 : decode cX11_digest 196 = .ok (.lload_n 1, 1) := by decide +kernel
theorem ni_dX11_digest_197 : decode cX11_digest 197 = .ok (.iload_n 3, 1) := by decide +kernel
theorem ni_dX11_digest_198 : decode cX11_digest 198 = .ok (.invokevirtual 313, 3) := by decide +kernel
theorem ni_dX11_digest_201 : decode cX11_digest 201 = .ok (.lstore_n 1, 1) := by decide +kernel
theorem ni_dX11_digest_202 : decode cX11_digest 202 = .ok (.iinc 3 1, 3) := by decide +kernel
theorem ni_dX11_digest_205 : decode cX11_digest 205 = .ok (.goto (-21), 3) := by decide +kernel
theorem ni_dX11_digest_208 : decode cX11_digest 208 = .ok (.lload_n 1, 1) := by decide +kernel
theorem ni_dX11_digest_209 : decode cX11_digest 209 = .ok (.lreturn, 1) := by decide +kernel
theorem ni_dX11_digestFlow_0 : decode cX11_digestFlow 0 = .ok (.aload_n 0, 1) := by decide +kernel
theorem ni_dX11_digestFlow_1 : decode cX11_digestFlow 1 = .ok (.getfield 10, 3) := by decide +kernel
theorem ni_dX11_digestFlow_4 : decode cX11_digestFlow 4 = .ok (.getfield 168, 3) := by decide +kernel
theorem ni_dX11_digestFlow_7 : decode cX11_digestFlow 7 = .ok (.iload_n 3, 1) := by decide +kernel
theorem ni_dX11_digestFlow_8 : decode cX11_digestFlow 8 = .ok (.aaload, 1) := by decide +kernel
theorem ni_dX11_digestFlow_9 : decode cX11_digestFlow 9 = .ok (.astore 4, 2) := by decide +kernel
theorem ni_dX11_digestFlow_11 : decode cX11_digestFlow 11 = .ok (.lload_n 1, 1) := by decide +kernel
theorem ni_dX11_digestFlow_12 : decode cX11_digestFlow 12 = .ok (.lstore 5, 2) := by decide +kernel
theorem ni_dX11_digestFlow_14 : decode cX11_digestFlow 14 = .ok (.lload 5, 2) := by decide +kernel
theorem ni_dX11_digestFlow_16 : decode cX11_digestFlow 16 = .ok (.ldc2_w 303, 3) := by decide +kernel
theorem ni_dX11_digestFlow_19 : decode cX11_digestFlow 19 = .ok (.lmul, 1) := by decide +kernel
theorem ni_dX11_digestFlow_20 : decode cX11_digestFlow 20 = .ok (.aload 4, 2) := by decide +kernel
theorem ni_dX11_digestFlow_22 : decode cX11_digestFlow 22 = .ok (.getfield 279, 3) := by decide +kernel
theorem ni_dX11_digestFlow_25 : decode cX11_digestFlow 25 = .ok (.i2l, 1) := by decide +kernel
theorem ni_dX11_digestFlow_26 : decode cX11_digestFlow 26 = .ok (.ladd, 1) := by decide +kernel
theorem ni_dX11_digestFlow_27 : decode cX11_digestFlow 27 = .ok (.lstore 5, 2) := by decide +kernel
theorem ni_dX11_digestFlow_29 : decode cX11_digestFlow 29 = .ok (.lload 5, 2) := by decide +kernel
theorem ni_dX11_digestFlow_31 : decode cX11_digestFlow 31 = .ok (.ldc2_w 303, 3) := by decide +kernel
theorem ni_dX11_digestFlow_34 : decode cX11_digestFlow 34 = .ok (.lmul, 1) := by decide +kernel
theorem ni_dX11_digestFlow_35 : decode cX11_digestFlow 35 = .ok (.aload 4, 2) := by decide +kernel
theorem ni_dX11_digestFlow_37 : decode cX11_digestFlow 37 = .ok (.getfield 195, 3) := by decide +kernel
theorem ni_dX11_digestFlow_40 : decode cX11_digestFlow 40 = .ok (.i2l, 1) := by decide +kernel
theorem ni_dX11_digestFlow_41 : decode cX11_digestFlow 41 = .ok (.ladd, 1) := by decide +kernel
theorem ni_dX11_digestFlow_42 : decode cX11_digestFlow 42 = .ok (.lstore 5, 2) := by decide +kernel
theorem ni_dX11_digestFlow_44 : decode cX11_digestFlow 44 = .ok (.lload 5, 2) := by decide +kernel
theorem ni_dX11_digestFlow_46 : decode cX11_digestFlow 46 = .ok (.ldc2_w 303, 3) := by decide +kernel
theorem ni_dX11_digestFlow_49 : decode cX11_digestFlow 49 = .ok (.lmul, 1) := by decide +kernel
theorem ni_dX11_digestFlow_50 : decode cX11_digestFlow 50 = .ok (.aload 4, 2) := by decide +kernel
theorem ni_dX11_digestFlow_52 : decode cX11_digestFlow 52 = .ok (.getfield 192, 3) := by decide +kernel
theorem ni_dX11_digestFlow_55 : decode cX11_digestFlow 55 = .ok (.i2l, 1) := by decide +kernel
theorem ni_dX11_digestFlow_56 : decode cX11_digestFlow 56 = .ok (.ladd, 1) := by decide +kernel
theorem ni_dX11_digestFlow_57 : decode cX11_digestFlow 57 = .ok (.lstore 5, 2) := by decide +kernel
theorem ni_dX11_digestFlow_59 : decode cX11_digestFlow 59 = .ok (.lload 5, 2) := by decide +kernel
theorem ni_dX11_digestFlow_61 : decode cX11_digestFlow 61 = .ok (.ldc2_w 303, 3) := by decide +kernel
theorem ni_dX11_digestFlow_64 : decode cX11_digestFlow 64 = .ok (.lmul, 1) := by decide +kernel
theorem ni_dX11_digestFlow_65 : decode cX11_digestFlow 65 = .ok (.aload 4, 2) := by decide +kernel
theorem ni_dX11_digestFlow_67 : decode cX11_digestFlow 67 = .ok (.getfield 282, 3) := by decide +kernel
theorem ni_dX11_digestFlow_70 : decode cX11_digestFlow 70 = .ok (.i2l, 1) := by decide +kernel
theorem ni_dX11_digestFlow_71 : decode cX11_digestFlow 71 = .ok (.ladd, 1) := by decide +kernel
theorem ni_dX11_digestFlow_72 : decode cX11_digestFlow 72 = .ok (.lstore 5, 2) := by decide +kernel
theorem ni_dX11_digestFlow_74 : decode cX11_digestFlow 74 = .ok (.iconst 0, 1) := by decide +kernel
theorem ni_dX11_digestFlow_75 : decode cX11_digestFlow 75 = .ok (.istore 7, 2) := by decide +kernel
theorem ni_dX11_digestFlow_77 : decode cX11_digestFlow 77 = .ok (.iload 7, 2) := by decide +kernel
theorem ni_dX11_digestFlow_79 : decode cX11_digestFlow 79 = .ok (.bipush 7, 2) := by decide +kernel
theorem ni_dX11_digestFlow_81 : decode cX11_digestFlow 81 = .ok (.if_icmp .ge 27, 3) := by decide +kernel
theorem ni_dX11_digestFlow_84 : decode cX11_digestFlow 84 = .ok (.lload 5, 2) := by decide +kernel
theorem ni_dX11_digestFlow_86 : decode cX11_digestFlow 86 = .ok (.ldc2_w 303, 3) := by decide +kernel
theorem ni_dX11_digestFlow_89 : decode cX11_digestFlow 89 = .ok (.lmul, 1) := by decide +kernel
theorem ni_dX11_digestFlow_90 : decode cX11_digestFlow 90 = .ok (.aload 4, 2) := by decide +kernel
theorem ni_dX11_digestFlow_92 : decode cX11_digestFlow 92 = .ok (.getfield 285, 3) := by decide +kernel
theorem ni_dX11_digestFlow_95 : decode cX11_digestFlow 95 = .ok (.iload 7, 2) := by decide +kernel
theorem ni_dX11_digestFlow_97 : decode cX11_digestFlow 97 = .ok (.iaload, 1) := by decide +kernel
theorem ni_dX11_digestFlow_98 : decode cX11_digestFlow 98 = .ok (.i2l, 1) := by decide +kernel
theorem ni_dX11_digestFlow_99 : decode cX11_digestFlow 99 = .ok (.ladd, 1) := by decide +kernel
theorem ni_dX11_digestFlow_100 : decode cX11_digestFlow 100 = .ok (.lstore 5, 2) := by decide +kernel
theorem ni_dX11_digestFlow_102 : decode cX11_digestFlow 102 = .ok (.iinc 7 1, 3) := by decide +kernel
theorem ni_dX11_digestFlow_105 : decode cX11_digestFlow 105 = .ok (.goto (-28), 3) := by decide +kernel
theorem ni_dX11_digestFlow_108 : decode cX11_digestFlow 108 = .ok (.lload 5, 2) := by decide +kernel
theorem ni_dX11_digestFlow_110 : decode cX11_digestFlow 110 = .ok (.ldc2_w 303, 3) := by decide +kernel
theorem ni_dX11_digestFlow_113 : decode cX11_digestFlow 113 = .ok (.lmul, 1) := by decide +kernel
theorem ni_dX11_digestFlow_114 : decode cX11_digestFlow 114 = .ok (.aload 4, 2) := by decide +kernel
theorem ni_dX11_digestFlow_116 : decode cX11_digestFlow 116 = .ok (.getfield 288, 3) := by decide +kernel
theorem ni_dX11_digestFlow_119 : decode cX11_digestFlow 119 = .ok (.i2l, 1) := by decide +kernel
theorem ni_dX11_digestFlow_120 : decode cX11_digestFlow 120 = .ok (.ladd, 1) := by decide +kernel
theorem ni_dX11_digestFlow_121 : decode cX11_digestFlow 121 = .ok (.lstore 5, 2) := by decide +kernel
theorem ni_dX11_digestFlow_123 : decode cX11_digestFlow 123 = .ok (.lload 5, 2) := by decide +kernel
theorem ni_dX11_digestFlow_125 : decode cX11_digestFlow 125 = .ok (.ldc2_w 303, 3) := by decide +kernel
theorem ni_dX11_digestFlow_128 : decode cX11_digestFlow 128 = .ok (.lmul, 1) := by decide +kernel
theorem ni_dX11_digestFlow_129 : decode cX11_digestFlow 129 = .ok (.aload 4, 2) := by decide +kernel
theorem ni_dX11_digestFlow_131 : decode cX11_digestFlow 131 = .ok (.getfield 294, 3) := by decide +kernel
theorem ni_dX11_digestFlow_134 : decode cX11_digestFlow 134 = .ok (.i2l, 1) := by decide +kernel
theorem ni_dX11_digestFlow_135 : decode cX11_digestFlow 135 = .ok (.ladd, 1) := by decide +kernel
theorem ni_dX11_digestFlow_136 : decode cX11_digestFlow 136 = .ok (.lstore 5, 2) := by decide +kernel
theorem ni_dX11_digestFlow_138 : decode cX11_digestFlow 138 = .ok (.lload 5, 2) := by decide +kernel
theorem ni_dX11_digestFlow_140 : decode cX11_digestFlow 140 = .ok (.ldc2_w 303, 3) := by decide +kernel
theorem ni_dX11_digestFlow_143 : decode cX11_digestFlow 143 = .ok (.lmul, 1) := by decide +kernel
theorem ni_dX11_digestFlow_144 : decode cX11_digestFlow 144 = .ok (.aload_n 0, 1) := by decide +kernel
theorem ni_dX11_digestFlow_145 : decode cX11_digestFlow 145 = .ok (.getfield 10, 3) := by decide +kernel
theorem ni_dX11_digestFlow_148 : decode cX11_digestFlow 148 = .ok (.iload_n 3, 1) := by decide +kernel
theorem ni_dX11_digestFlow_149 : decode cX11_digestFlow 149 = .ok (.invokevirtual 261, 3) := by decide +kernel
theorem ni_dX11_digestFlow_152 : decode cX11_digestFlow 152 = .ok (.i2l, 1) := by decide +kernel
theorem ni_dX11_digestFlow_153 : decode cX11_digestFlow 153 = .ok (.ladd, 1) := by decide +kernel
theorem ni_dX11_digestFlow_154 : decode cX11_digestFlow 154 = .ok (.lstore 5, 2) := by decide +kernel
theorem ni_dX11_digestFlow_156 : decode cX11_digestFlow 156 = .ok (.iconst 0, 1) := by decide +kernel
theorem ni_dX11_digestFlow_157 : decode cX11_digestFlow 157 = .ok (.istore 7, 2) := by decide +kernel
theorem ni_dX11_digestFlow_159 : decode cX11_digestFlow 159 = .ok (.iload 7, 2) := by decide +kernel
theorem ni_dX11_digestFlow_161 : decode cX11_digestFlow 161 = .ok (.aload_n 0, 1) := by decide +kernel
theorem ni_dX11_digestFlow_162 : decode cX11_digestFlow 162 = .ok (.getfield 10, 3) := by decide +kernel
theorem ni_dX11_digestFlow_165 : decode cX11_digestFlow 165 = .ok (.getfield 19, 3) := by decide +kernel
theorem ni_dX11_digestFlow_168 : decode cX11_digestFlow 168 = .ok (.if_icmp .ge 29, 3) := by decide +kernel
theorem ni_dX11_digestFlow_171 : decode cX11_digestFlow 171 = .ok (.lload 5, 2) := by decide +kernel
theorem ni_dX11_digestFlow_173 : decode cX11_digestFlow 173 = .ok (.ldc2_w 303, 3) := by decide +kernel
theorem ni_dX11_digestFlow_176 : decode cX11_digestFlow 176 = .ok (.lmul, 1) := by decide +kernel
theorem ni_dX11_digestFlow_177 : decode cX11_digestFlow 177 = .ok (.aload_n 0, 1) := by decide +kernel
theorem ni_dX11_digestFlow_178 : decode cX11_digestFlow 178 = .ok (.getfield 10, 3) := by decide +kernel
theorem ni_dX11_digestFlow_181 : decode cX11_digestFlow 181 = .ok (.iload 7, 2) := by decide +kernel
theorem ni_dX11_digestFlow_183 : decode cX11_digestFlow 183 = .ok (.iload_n 3, 1) := by decide +kernel
theorem ni_dX11_digestFlow_184 : decode cX11_digestFlow 184 = .ok (.invokevirtual 258, 3) := by decide +kernel
theorem ni_dX11_digestFlow_187 : decode cX11_digestFlow 187 = .ok (.i2l, 1) := by decide +kernel
theorem ni_dX11_digestFlow_188 : decode cX11_digestFlow 188 = .ok (.ladd, 1) := by decide +kernel
theorem ni_dX11_digestFlow_189 : decode cX11_digestFlow 189 = .ok (.lstore 5, 2) := by decide +kernel
theorem ni_dX11_digestFlow_191 : decode cX11_digestFlow 191 = .ok (.iinc 7 1, 3) := by decide +kernel
theorem ni_dX11_digestFlow_194 : decode cX11_digestFlow 194 = .ok (.goto (-35), 3) := by decide +kernel
theorem ni_dX11_digestFlow_197 : decode cX11_digestFlow 197 = .ok (.lload 5, 2) := by decide +kernel
theorem ni_dX11_digestFlow_199 : decode cX11_digestFlow 199 = .ok (.lreturn, 1) := by decide +kernel
theorem ni_dX11_digestLink_0 : decode cX11_digestLink 0 = .ok (.lload_n 0, 1) := by decide +kernel
theorem ni_dX11_digestLink_1 : decode cX11_digestLink 1 = .ok (.lstore_n 3, 1) := by decide +kernel
theorem ni_dX11_digestLink_2 : decode cX11_digestLink 2 = .ok (.lload_n 3, 1) := by decide +kernel
theorem ni_dX11_digestLink_3 : decode cX11_digestLink 3 = .ok (.ldc2_w 303, 3) := by decide +kernel
theorem ni_dX11_digestLink_6 : decode cX11_digestLink 6 = .ok (.lmul, 1) := by decide +kernel
theorem ni_dX11_digestLink_7 : decode cX11_digestLink 7 = .ok (.aload_n 2, 1) := by decide +kernel
theorem ni_dX11_digestLink_8 : decode cX11_digestLink 8 = .ok (.getfield 67, 3) := by decide +kernel
theorem ni_dX11_digestLink_11 : decode cX11_digestLink 11 = .ok (.ifCond .eq 7, 3) := by decide +kernel
theorem ni_dX11_digestLink_14 : decode cX11_digestLink 14 = .ok (.iconst 1, 1) := by decide +kernel
theorem ni_dX11_digestLink_15 : decode cX11_digestLink 15 = .ok (.goto 4, 3) := by decide +kernel
theorem ni_dX11_digestLink_18 : decode cX11_digestLink 18 = .ok (.iconst 0, 1) := by decide +kernel
theorem ni_dX11_digestLink_19 : decode cX11_digestLink 19 = .ok (.i2l, 1) := by decide +kernel
theorem ni_dX11_digestLink_20 : decode cX11_digestLink 20 = .ok (.ladd, 1) := by decide +kernel
theorem ni_dX11_digestLink_21 : decode cX11_digestLink 21 = .ok (.lstore_n 3, 1) := by decide +kernel
theorem ni_dX11_digestLink_22 : decode cX11_digestLink 22 = .ok (.lload_n 3, 1) := by decide +kernel
theorem ni_dX11_digestLink_23 : decode cX11_digestLink 23 = .ok (.ldc2_w 303, 3) := by decide +kernel
theorem ni_dX11_digestLink_26 : decode cX11_digestLink 26 = .ok (.lmul, 1) := by decide +kernel
theorem ni_dX11_digestLink_27 : decode cX11_digestLink 27 = .ok (.aload_n 2, 1) := by decide +kernel
theorem ni_dX11_digestLink_28 : decode cX11_digestLink 28 = .ok (.invokevirtual 276, 3) := by decide +kernel
theorem ni_dX11_digestLink_31 : decode cX11_digestLink 31 = .ok (.i2l, 1) := by decide +kernel
theorem ni_dX11_digestLink_32 : decode cX11_digestLink 32 = .ok (.ladd, 1) := by decide +kernel
theorem ni_dX11_digestLink_33 : decode cX11_digestLink 33 = .ok (.lstore_n 3, 1) := by decide +kernel
theorem ni_dX11_digestLink_34 : decode cX11_digestLink 34 = .ok (.lload_n 3, 1) := by decide +kernel
theorem ni_dX11_digestLink_35 : decode cX11_digestLink 35 = .ok (.aload_n 2, 1) := by decide +kernel
theorem ni_dX11_digestLink_36 : decode cX11_digestLink 36 = .ok (.getfield 317, 3) := by decide +kernel
theorem ni_dX11_digestLink_39 : decode cX11_digestLink 39 = .ok (.invokestatic 321, 3) := by decide +kernel
theorem ni_dX11_digestLink_42 : decode cX11_digestLink 42 = .ok (.lstore_n 3, 1) := by decide +kernel
theorem ni_dX11_digestLink_43 : decode cX11_digestLink 43 = .ok (.lload_n 3, 1) := by decide +kernel
theorem ni_dX11_digestLink_44 : decode cX11_digestLink 44 = .ok (.aload_n 2, 1) := by decide +kernel
theorem ni_dX11_digestLink_45 : decode cX11_digestLink 45 = .ok (.getfield 325, 3) := by decide +kernel
theorem ni_dX11_digestLink_48 : decode cX11_digestLink 48 = .ok (.invokestatic 321, 3) := by decide +kernel
theorem ni_dX11_digestLink_51 : decode cX11_digestLink 51 = .ok (.lreturn, 1) := by decide +kernel
theorem ni_dX11_digestPort_0 : decode cX11_digestPort 0 = .ok (.lload_n 0, 1) := by decide +kernel
theorem ni_dX11_digestPort_1 : decode cX11_digestPort 1 = .ok (.lstore_n 3, 1) := by decide +kernel
theorem ni_dX11_digestPort_2 : decode cX11_digestPort 2 = .ok (.lload_n 3, 1) := by decide +kernel
theorem ni_dX11_digestPort_3 : decode cX11_digestPort 3 = .ok (.ldc2_w 303, 3) := by decide +kernel
theorem ni_dX11_digestPort_6 : decode cX11_digestPort 6 = .ok (.lmul, 1) := by decide +kernel
theorem ni_dX11_digestPort_7 : decode cX11_digestPort 7 = .ok (.aload_n 2, 1) := by decide +kernel
theorem ni_dX11_digestPort_8 : decode cX11_digestPort 8 = .ok (.getfield 264, 3) := by decide +kernel
theorem ni_dX11_digestPort_11 : decode cX11_digestPort 11 = .ok (.i2l, 1) := by decide +kernel
theorem ni_dX11_digestPort_12 : decode cX11_digestPort 12 = .ok (.ladd, 1) := by decide +kernel
theorem ni_dX11_digestPort_13 : decode cX11_digestPort 13 = .ok (.lstore_n 3, 1) := by decide +kernel
theorem ni_dX11_digestPort_14 : decode cX11_digestPort 14 = .ok (.lload_n 3, 1) := by decide +kernel
theorem ni_dX11_digestPort_15 : decode cX11_digestPort 15 = .ok (.ldc2_w 303, 3) := by decide +kernel
theorem ni_dX11_digestPort_18 : decode cX11_digestPort 18 = .ok (.lmul, 1) := by decide +kernel
theorem ni_dX11_digestPort_19 : decode cX11_digestPort 19 = .ok (.aload_n 2, 1) := by decide +kernel
theorem ni_dX11_digestPort_20 : decode cX11_digestPort 20 = .ok (.getfield 270, 3) := by decide +kernel
theorem ni_dX11_digestPort_23 : decode cX11_digestPort 23 = .ok (.i2l, 1) := by decide +kernel
theorem ni_dX11_digestPort_24 : decode cX11_digestPort 24 = .ok (.ladd, 1) := by decide +kernel
theorem ni_dX11_digestPort_25 : decode cX11_digestPort 25 = .ok (.lstore_n 3, 1) := by decide +kernel
theorem ni_dX11_digestPort_26 : decode cX11_digestPort 26 = .ok (.iconst 0, 1) := by decide +kernel
theorem ni_dX11_digestPort_27 : decode cX11_digestPort 27 = .ok (.istore 5, 2) := by decide +kernel
theorem ni_dX11_digestPort_29 : decode cX11_digestPort 29 = .ok (.iload 5, 2) := by decide +kernel
theorem ni_dX11_digestPort_31 : decode cX11_digestPort 31 = .ok (.iconst 4, 1) := by decide +kernel
theorem ni_dX11_digestPort_32 : decode cX11_digestPort 32 = .ok (.if_icmp .ge 38, 3) := by decide +kernel
theorem ni_dX11_digestPort_35 : decode cX11_digestPort 35 = .ok (.lload_n 3, 1) := by decide +kernel
theorem ni_dX11_digestPort_36 : decode cX11_digestPort 36 = .ok (.ldc2_w 303, 3) := by decide +kernel
theorem ni_dX11_digestPort_39 : decode cX11_digestPort 39 = .ok (.lmul, 1) := by decide +kernel
theorem ni_dX11_digestPort_40 : decode cX11_digestPort 40 = .ok (.aload_n 2, 1) := by decide +kernel
theorem ni_dX11_digestPort_41 : decode cX11_digestPort 41 = .ok (.iload 5, 2) := by decide +kernel
theorem ni_dX11_digestPort_43 : decode cX11_digestPort 43 = .ok (.invokevirtual 267, 3) := by decide +kernel
theorem ni_dX11_digestPort_46 : decode cX11_digestPort 46 = .ok (.i2l, 1) := by decide +kernel
theorem ni_dX11_digestPort_47 : decode cX11_digestPort 47 = .ok (.ladd, 1) := by decide +kernel
theorem ni_dX11_digestPort_48 : decode cX11_digestPort 48 = .ok (.lstore_n 3, 1) := by decide +kernel
theorem ni_dX11_digestPort_49 : decode cX11_digestPort 49 = .ok (.lload_n 3, 1) := by decide +kernel
theorem ni_dX11_digestPort_50 : decode cX11_digestPort 50 = .ok (.ldc2_w 303, 3) := by decide +kernel
theorem ni_dX11_digestPort_53 : decode cX11_digestPort 53 = .ok (.lmul, 1) := by decide +kernel
theorem ni_dX11_digestPort_54 : decode cX11_digestPort 54 = .ok (.aload_n 2, 1) := by decide +kernel
theorem ni_dX11_digestPort_55 : decode cX11_digestPort 55 = .ok (.getfield 273, 3) := by decide +kernel
theorem ni_dX11_digestPort_58 : decode cX11_digestPort 58 = .ok (.iload 5, 2) := by decide +kernel
theorem ni_dX11_digestPort_60 : decode cX11_digestPort 60 = .ok (.iaload, 1) := by decide +kernel
theorem ni_dX11_digestPort_61 : decode cX11_digestPort 61 = .ok (.i2l, 1) := by decide +kernel
theorem ni_dX11_digestPort_62 : decode cX11_digestPort 62 = .ok (.ladd, 1) := by decide +kernel
theorem ni_dX11_digestPort_63 : decode cX11_digestPort 63 = .ok (.lstore_n 3, 1) := by decide +kernel
theorem ni_dX11_digestPort_64 : decode cX11_digestPort 64 = .ok (.iinc 5 1, 3) := by decide +kernel
theorem ni_dX11_digestPort_67 : decode cX11_digestPort 67 = .ok (.goto (-38), 3) := by decide +kernel
theorem ni_dX11_digestPort_70 : decode cX11_digestPort 70 = .ok (.lload_n 3, 1) := by decide +kernel
theorem ni_dX11_digestPort_71 : decode cX11_digestPort 71 = .ok (.lreturn, 1) := by decide +kernel
theorem ni_dX11_digestRouter_0 : decode cX11_digestRouter 0 = .ok (.lload_n 1, 1) := by decide +kernel
theorem ni_dX11_digestRouter_1 : decode cX11_digestRouter 1 = .ok (.lstore 4, 2) := by decide +kernel
theorem ni_dX11_digestRouter_3 : decode cX11_digestRouter 3 = .ok (.iconst 0, 1) := by decide +kernel
theorem ni_dX11_digestRouter_4 : decode cX11_digestRouter 4 = .ok (.istore 6, 2) := by decide +kernel
theorem ni_dX11_digestRouter_6 : decode cX11_digestRouter 6 = .ok (.iload 6, 2) := by decide +kernel
theorem ni_dX11_digestRouter_8 : decode cX11_digestRouter 8 = .ok (.aload_n 0, 1) := by decide +kernel
theorem ni_dX11_digestRouter_9 : decode cX11_digestRouter 9 = .ok (.getfield 10, 3) := by decide +kernel
theorem ni_dX11_digestRouter_12 : decode cX11_digestRouter 12 = .ok (.getfield 19, 3) := by decide +kernel
theorem ni_dX11_digestRouter_15 : decode cX11_digestRouter 15 = .ok (.if_icmp .ge 66, 3) := by decide +kernel
theorem ni_dX11_digestRouter_18 : decode cX11_digestRouter 18 = .ok (.lload 4, 2) := by decide +kernel
theorem ni_dX11_digestRouter_20 : decode cX11_digestRouter 20 = .ok (.ldc2_w 303, 3) := by decide +kernel
theorem ni_dX11_digestRouter_23 : decode cX11_digestRouter 23 = .ok (.lmul, 1) := by decide +kernel
theorem ni_dX11_digestRouter_24 : decode cX11_digestRouter 24 = .ok (.aload_n 3, 1) := by decide +kernel
theorem ni_dX11_digestRouter_25 : decode cX11_digestRouter 25 = .ok (.getfield 205, 3) := by decide +kernel
theorem ni_dX11_digestRouter_28 : decode cX11_digestRouter 28 = .ok (.iload 6, 2) := by decide +kernel
theorem ni_dX11_digestRouter_30 : decode cX11_digestRouter 30 = .ok (.aaload, 1) := by decide +kernel
theorem ni_dX11_digestRouter_31 : decode cX11_digestRouter 31 = .ok (.getfield 211, 3) := by decide +kernel
theorem ni_dX11_digestRouter_34 : decode cX11_digestRouter 34 = .ok (.i2l, 1) := by decide +kernel
theorem ni_dX11_digestRouter_35 : decode cX11_digestRouter 35 = .ok (.ladd, 1) := by decide +kernel
theorem ni_dX11_digestRouter_36 : decode cX11_digestRouter 36 = .ok (.lstore 4, 2) := by decide +kernel
theorem ni_dX11_digestRouter_38 : decode cX11_digestRouter 38 = .ok (.lload 4, 2) := by decide +kernel
theorem ni_dX11_digestRouter_40 : decode cX11_digestRouter 40 = .ok (.ldc2_w 303, 3) := by decide +kernel
theorem ni_dX11_digestRouter_43 : decode cX11_digestRouter 43 = .ok (.lmul, 1) := by decide +kernel
theorem ni_dX11_digestRouter_44 : decode cX11_digestRouter 44 = .ok (.aload_n 3, 1) := by decide +kernel
theorem ni_dX11_digestRouter_45 : decode cX11_digestRouter 45 = .ok (.getfield 219, 3) := by decide +kernel
theorem ni_dX11_digestRouter_48 : decode cX11_digestRouter 48 = .ok (.iload 6, 2) := by decide +kernel
theorem ni_dX11_digestRouter_50 : decode cX11_digestRouter 50 = .ok (.iaload, 1) := by decide +kernel
theorem ni_dX11_digestRouter_51 : decode cX11_digestRouter 51 = .ok (.i2l, 1) := by decide +kernel
theorem ni_dX11_digestRouter_52 : decode cX11_digestRouter 52 = .ok (.ladd, 1) := by decide +kernel
theorem ni_dX11_digestRouter_53 : decode cX11_digestRouter 53 = .ok (.lstore 4, 2) := by decide +kernel
theorem ni_dX11_digestRouter_55 : decode cX11_digestRouter 55 = .ok (.lload 4, 2) := by decide +kernel
theorem ni_dX11_digestRouter_57 : decode cX11_digestRouter 57 = .ok (.ldc2_w 303, 3) := by decide +kernel
theorem ni_dX11_digestRouter_60 : decode cX11_digestRouter 60 = .ok (.lmul, 1) := by decide +kernel
theorem ni_dX11_digestRouter_61 : decode cX11_digestRouter 61 = .ok (.aload_n 3, 1) := by decide +kernel
theorem ni_dX11_digestRouter_62 : decode cX11_digestRouter 62 = .ok (.getfield 222, 3) := by decide +kernel
theorem ni_dX11_digestRouter_65 : decode cX11_digestRouter 65 = .ok (.iload 6, 2) := by decide +kernel
theorem ni_dX11_digestRouter_67 : decode cX11_digestRouter 67 = .ok (.iaload, 1) := by decide +kernel
theorem ni_dX11_digestRouter_68 : decode cX11_digestRouter 68 = .ok (.invokestatic 225, 3) := by decide +kernel
theorem ni_dX11_digestRouter_71 : decode cX11_digestRouter 71 = .ok (.i2l, 1) := by decide +kernel
theorem ni_dX11_digestRouter_72 : decode cX11_digestRouter 72 = .ok (.ladd, 1) := by decide +kernel
theorem ni_dX11_digestRouter_73 : decode cX11_digestRouter 73 = .ok (.lstore 4, 2) := by decide +kernel
theorem ni_dX11_digestRouter_75 : decode cX11_digestRouter 75 = .ok (.iinc 6 1, 3) := by decide +kernel
theorem ni_dX11_digestRouter_78 : decode cX11_digestRouter 78 = .ok (.goto (-72), 3) := by decide +kernel
theorem ni_dX11_digestRouter_81 : decode cX11_digestRouter 81 = .ok (.lload 4, 2) := by decide +kernel
theorem ni_dX11_digestRouter_83 : decode cX11_digestRouter 83 = .ok (.ldc2_w 303, 3) := by decide +kernel
theorem ni_dX11_digestRouter_86 : decode cX11_digestRouter 86 = .ok (.lmul, 1) := by decide +kernel
theorem ni_dX11_digestRouter_87 : decode cX11_digestRouter 87 = .ok (.aload_n 3, 1) := by decide +kernel
theorem ni_dX11_digestRouter_88 : decode cX11_digestRouter 88 = .ok (.getfield 230, 3) := by decide +kernel
theorem ni_dX11_digestRouter_91 : decode cX11_digestRouter 91 = .ok (.getfield 234, 3) := by decide +kernel
theorem ni_dX11_digestRouter_94 : decode cX11_digestRouter 94 = .ok (.i2l, 1) := by decide +kernel
theorem ni_dX11_digestRouter_95 : decode cX11_digestRouter 95 = .ok (.ladd, 1) := by decide +kernel
theorem ni_dX11_digestRouter_96 : decode cX11_digestRouter 96 = .ok (.lstore 4, 2) := by decide +kernel
theorem ni_dX11_digestRouter_98 : decode cX11_digestRouter 98 = .ok (.lload 4, 2) := by decide +kernel
theorem ni_dX11_digestRouter_100 : decode cX11_digestRouter 100 = .ok (.ldc2_w 303, 3) := by decide +kernel
theorem ni_dX11_digestRouter_103 : decode cX11_digestRouter 103 = .ok (.lmul, 1) := by decide +kernel
theorem ni_dX11_digestRouter_104 : decode cX11_digestRouter 104 = .ok (.aload_n 3, 1) := by decide +kernel
theorem ni_dX11_digestRouter_105 : decode cX11_digestRouter 105 = .ok (.getfield 230, 3) := by decide +kernel
theorem ni_dX11_digestRouter_108 : decode cX11_digestRouter 108 = .ok (.invokevirtual 237, 3) := by decide +kernel
theorem ni_dX11_digestRouter_111 : decode cX11_digestRouter 111 = .ok (.i2l, 1) := by decide +kernel
theorem ni_dX11_digestRouter_112 : decode cX11_digestRouter 112 = .ok (.ladd, 1) := by decide +kernel
theorem ni_dX11_digestRouter_113 : decode cX11_digestRouter 113 = .ok (.lstore 4, 2) := by decide +kernel
theorem ni_dX11_digestRouter_115 : decode cX11_digestRouter 115 = .ok (.lload 4, 2) := by decide +kernel
theorem ni_dX11_digestRouter_117 : decode cX11_digestRouter 117 = .ok (.ldc2_w 303, 3) := by decide +kernel
theorem ni_dX11_digestRouter_120 : decode cX11_digestRouter 120 = .ok (.lmul, 1) := by decide +kernel
theorem ni_dX11_digestRouter_121 : decode cX11_digestRouter 121 = .ok (.aload_n 3, 1) := by decide +kernel
theorem ni_dX11_digestRouter_122 : decode cX11_digestRouter 122 = .ok (.getfield 230, 3) := by decide +kernel
theorem ni_dX11_digestRouter_125 : decode cX11_digestRouter 125 = .ok (.invokevirtual 240, 3) := by decide +kernel
theorem ni_dX11_digestRouter_128 : decode cX11_digestRouter 128 = .ok (.i2l, 1) := by decide +kernel
theorem ni_dX11_digestRouter_129 : decode cX11_digestRouter 129 = .ok (.ladd, 1) := by decide +kernel
theorem ni_dX11_digestRouter_130 : decode cX11_digestRouter 130 = .ok (.lstore 4, 2) := by decide +kernel
theorem ni_dX11_digestRouter_132 : decode cX11_digestRouter 132 = .ok (.lload 4, 2) := by decide +kernel
theorem ni_dX11_digestRouter_134 : decode cX11_digestRouter 134 = .ok (.lreturn, 1) := by decide +kernel
theorem ni_dX11_distance_0 : decode cX11_distance 0 = .ok (.aload_n 0, 1) := by decide +kernel
theorem ni_dX11_distance_1 : decode cX11_distance 1 = .ok (.iload_n 1, 1) := by decide +kernel
theorem ni_dX11_distance_2 : decode cX11_distance 2 = .ok (.invokevirtual 34, 3) := by decide +kernel
theorem ni_dX11_distance_5 : decode cX11_distance 5 = .ok (.aload_n 0, 1) := by decide +kernel
theorem ni_dX11_distance_6 : decode cX11_distance 6 = .ok (.iload_n 2, 1) := by decide +kernel
theorem ni_dX11_distance_7 : decode cX11_distance 7 = .ok (.invokevirtual 34, 3) := by decide +kernel
theorem ni_dX11_distance_10 : decode cX11_distance 10 = .ok (.aload_n 0, 1) := by decide +kernel
theorem ni_dX11_distance_11 : decode cX11_distance 11 = .ok (.getfield 10, 3) := by decide +kernel
theorem ni_dX11_distance_14 : decode cX11_distance 14 = .ok (.getfield 201, 3) := by decide +kernel
theorem ni_dX11_distance_17 : decode cX11_distance 17 = .ok (.iload_n 1, 1) := by decide +kernel
theorem ni_dX11_distance_18 : decode cX11_distance 18 = .ok (.aaload, 1) := by decide +kernel
theorem ni_dX11_distance_19 : decode cX11_distance 19 = .ok (.getfield 219, 3) := by decide +kernel
theorem ni_dX11_distance_22 : decode cX11_distance 22 = .ok (.iload_n 2, 1) := by decide +kernel
theorem ni_dX11_distance_23 : decode cX11_distance 23 = .ok (.iaload, 1) := by decide +kernel
theorem ni_dX11_distance_24 : decode cX11_distance 24 = .ok (.ireturn, 1) := by decide +kernel
theorem ni_dX11_dropped_0 : decode cX11_dropped 0 = .ok (.aload_n 0, 1) := by decide +kernel
theorem ni_dX11_dropped_1 : decode cX11_dropped 1 = .ok (.iload_n 1, 1) := by decide +kernel
theorem ni_dX11_dropped_2 : decode cX11_dropped 2 = .ok (.invokevirtual 162, 3) := by decide +kernel
theorem ni_dX11_dropped_5 : decode cX11_dropped 5 = .ok (.iload_n 2, 1) := by decide +kernel
theorem ni_dX11_dropped_6 : decode cX11_dropped 6 = .ok (.bipush 7, 2) := by decide +kernel
theorem ni_dX11_dropped_8 : decode cX11_dropped 8 = .ok (.invokestatic 108, 3) := by decide +kernel
theorem ni_dX11_dropped_11 : decode cX11_dropped 11 = .ok (.aload_n 0, 1) := by decide +kernel
theorem ni_dX11_dropped_12 : decode cX11_dropped 12 = .ok (.getfield 10, 3) := by decide +kernel
theorem ni_dX11_dropped_15 : decode cX11_dropped 15 = .ok (.getfield 168, 3) := by decide +kernel
theorem ni_dX11_dropped_18 : decode cX11_dropped 18 = .ok (.iload_n 1, 1) := by decide +kernel
theorem ni_dX11_dropped_19 : decode cX11_dropped 19 = .ok (.aaload, 1) := by decide +kernel
theorem ni_dX11_dropped_20 : decode cX11_dropped 20 = .ok (.getfield 285, 3) := by decide +kernel
theorem ni_dX11_dropped_23 : decode cX11_dropped 23 = .ok (.iload_n 2, 1) := by decide +kernel
theorem ni_dX11_dropped_24 : decode cX11_dropped 24 = .ok (.iaload, 1) := by decide +kernel
theorem ni_dX11_dropped_25 : decode cX11_dropped 25 = .ok (.ireturn, 1) := by decide +kernel
theorem ni_dX11_entries_0 : decode cX11_entries 0 = .ok (.aload_n 0, 1) := by decide +kernel
theorem ni_dX11_entries_1 : decode cX11_entries 1 = .ok (.iload_n 1, 1) := by decide +kernel
theorem ni_dX11_entries_2 : decode cX11_entries 2 = .ok (.invokevirtual 34, 3) := by decide +kernel
theorem ni_dX11_entries_5 : decode cX11_entries 5 = .ok (.aload_n 0, 1) := by decide +kernel
theorem ni_dX11_entries_6 : decode cX11_entries 6 = .ok (.getfield 10, 3) := by decide +kernel
theorem ni_dX11_entries_9 : decode cX11_entries 9 = .ok (.getfield 201, 3) := by decide +kernel
theorem ni_dX11_entries_12 : decode cX11_entries 12 = .ok (.iload_n 1, 1) := by decide +kernel
theorem ni_dX11_entries_13 : decode cX11_entries 13 = .ok (.aaload, 1) := by decide +kernel
theorem ni_dX11_entries_14 : decode cX11_entries 14 = .ok (.getfield 230, 3) := by decide +kernel
theorem ni_dX11_entries_17 : decode cX11_entries 17 = .ok (.getfield 234, 3) := by decide +kernel
theorem ni_dX11_entries_20 : decode cX11_entries 20 = .ok (.ireturn, 1) := by decide +kernel
theorem ni_dX11_firstLinks_0 : decode cX11_firstLinks 0 = .ok (.aload_n 0, 1) := by decide +kernel
theorem ni_dX11_firstLinks_1 : decode cX11_firstLinks 1 = .ok (.iload_n 1, 1) := by decide +kernel
theorem ni_dX11_firstLinks_2 : decode cX11_firstLinks 2 = .ok (.invokevirtual 34, 3) := by decide +kernel
theorem ni_dX11_firstLinks_5 : decode cX11_firstLinks 5 = .ok (.aload_n 0, 1) := by decide +kernel
theorem ni_dX11_firstLinks_6 : decode cX11_firstLinks 6 = .ok (.iload_n 2, 1) := by decide +kernel
theorem ni_dX11_firstLinks_7 : decode cX11_firstLinks 7 = .ok (.invokevirtual 34, 3) := by decide +kernel
theorem ni_dX11_firstLinks_10 : decode cX11_firstLinks 10 = .ok (.aload_n 0, 1) := by decide +kernel
theorem ni_dX11_firstLinks_11 : decode cX11_firstLinks 11 = .ok (.getfield 10, 3) := by decide +kernel
theorem ni_dX11_firstLinks_14 : decode cX11_firstLinks 14 = .ok (.getfield 201, 3) := by decide +kernel
theorem ni_dX11_firstLinks_17 : decode cX11_firstLinks 17 = .ok (.iload_n 1, 1) := by decide +kernel
theorem ni_dX11_firstLinks_18 : decode cX11_firstLinks 18 = .ok (.aaload, 1) := by decide +kernel
theorem ni_dX11_firstLinks_19 : decode cX11_firstLinks 19 = .ok (.getfield 222, 3) := by decide +kernel
theorem ni_dX11_firstLinks_22 : decode cX11_firstLinks 22 = .ok (.iload_n 2, 1) := by decide +kernel
theorem ni_dX11_firstLinks_23 : decode cX11_firstLinks 23 = .ok (.iaload, 1) := by decide +kernel
theorem ni_dX11_firstLinks_24 : decode cX11_firstLinks 24 = .ok (.invokestatic 225, 3) := by decide +kernel
theorem ni_dX11_firstLinks_27 : decode cX11_firstLinks 27 = .ok (.ireturn, 1) := by decide +kernel
theorem ni_dX11_isSettled_0 : decode cX11_isSettled 0 = .ok (.aload_n 0, 1) := by decide +kernel
theorem ni_dX11_isSettled_1 : decode cX11_isSettled 1 = .ok (.getfield 10, 3) := by decide +kernel
theorem ni_dX11_isSettled_4 : decode cX11_isSettled 4 = .ok (.invokevirtual 216, 3) := by decide +kernel
theorem ni_dX11_isSettled_7 : decode cX11_isSettled 7 = .ok (.ifCond .ne 7, 3) := by decide +kernel
theorem ni_dX11_isSettled_10 : decode cX11_isSettled 10 = .ok (.iconst 1, 1) := by decide +kernel
theorem ni_dX11_isSettled_11 : decode cX11_isSettled 11 = .ok (.goto 4, 3) := by decide +kernel
theorem ni_dX11_isSettled_14 : decode cX11_isSettled 14 = .ok (.iconst 0, 1) := by decide +kernel
theorem ni_dX11_isSettled_15 : decode cX11_isSettled 15 = .ok (.ireturn, 1) := by decide +kernel
theorem ni_dX11_isUp_0 : decode cX11_isUp 0 = .ok (.aload_n 0, 1) := by decide +kernel
theorem ni_dX11_isUp_1 : decode cX11_isUp 1 = .ok (.iload_n 1, 1) := by decide +kernel
theorem ni_dX11_isUp_2 : decode cX11_isUp 2 = .ok (.invokevirtual 56, 3) := by decide +kernel
theorem ni_dX11_isUp_5 : decode cX11_isUp 5 = .ok (.aload_n 0, 1) := by decide +kernel
theorem ni_dX11_isUp_6 : decode cX11_isUp 6 = .ok (.getfield 10, 3) := by decide +kernel
theorem ni_dX11_isUp_9 : decode cX11_isUp 9 = .ok (.getfield 63, 3) := by decide +kernel
theorem ni_dX11_isUp_12 : decode cX11_isUp 12 = .ok (.iload_n 1, 1) := by decide +kernel
theorem ni_dX11_isUp_13 : decode cX11_isUp 13 = .ok (.aaload, 1) := by decide +kernel
theorem ni_dX11_isUp_14 : decode cX11_isUp 14 = .ok (.getfield 67, 3) := by decide +kernel
theorem ni_dX11_isUp_17 : decode cX11_isUp 17 = .ok (.ireturn, 1) := by decide +kernel
theorem ni_dX11_latest_0 : decode cX11_latest 0 = .ok (.aload_n 0, 1) := by decide +kernel
theorem ni_dX11_latest_1 : decode cX11_latest 1 = .ok (.iload_n 1, 1) := by decide +kernel
theorem ni_dX11_latest_2 : decode cX11_latest 2 = .ok (.invokevirtual 162, 3) := by decide +kernel
theorem ni_dX11_latest_5 : decode cX11_latest 5 = .ok (.aload_n 0, 1) := by decide +kernel
theorem ni_dX11_latest_6 : decode cX11_latest 6 = .ok (.getfield 10, 3) := by decide +kernel
theorem ni_dX11_latest_9 : decode cX11_latest 9 = .ok (.getfield 168, 3) := by decide +kernel
theorem ni_dX11_latest_12 : decode cX11_latest 12 = .ok (.iload_n 1, 1) := by decide +kernel
theorem ni_dX11_latest_13 : decode cX11_latest 13 = .ok (.aaload, 1) := by decide +kernel
