theorem ni_dX11_init_0 : decode cX11_init 0 = .ok (.aload_n 0, 1) := by decide +kernel
theorem ni_dX11_init_1 : decode cX11_init 1 = .ok (.invokespecial 1, 3) := by decide +kernel
theorem ni_dX11_init_4 : decode cX11_init 4 = .ok (.aload_n 0, 1) := by decide +kernel
theorem ni_dX11_init_5 : decode cX11_init 5 = .ok (.new 7, 3) := by decide +kernel
theorem ni_dX11_init_8 : decode cX11_init 8 = .ok (.dup, 1) := by decide +kernel
theorem ni_dX11_init_9 : decode cX11_init 9 = .ok (.invokespecial 9, 3) := by decide +kernel
theorem ni_dX11_init_12 : decode cX11_init 12 = .ok (.putfield 10, 3) := by decide +kernel
theorem ni_dX11_init_15 : decode cX11_init 15 = .ok (.aload_n 0, 1) := by decide +kernel
theorem ni_dX11_init_16 : decode cX11_init 16 = .ok (.new 7, 3) := by decide +kernel
theorem ni_dX11_init_19 : decode cX11_init 19 = .ok (.dup, 1) := by decide +kernel
theorem ni_dX11_init_20 : decode cX11_init 20 = .ok (.invokespecial 9, 3) := by decide +kernel
theorem ni_dX11_init_23 : decode cX11_init 23 = .ok (.putfield 16, 3) := by decide +kernel
theorem ni_dX11_init_26 : decode cX11_init 26 = .ok (.return_, 1) := by decide +kernel
theorem ni_dX11_addFlow_0 : decode cX11_addFlow 0 = .ok (.aload_n 0, 1) := by decide +kernel
theorem ni_dX11_addFlow_1 : decode cX11_addFlow 1 = .ok (.iload_n 1, 1) := by decide +kernel
theorem ni_dX11_addFlow_2 : decode cX11_addFlow 2 = .ok (.invokevirtual 34, 3) := by decide +kernel
theorem ni_dX11_addLink_0 : decode cX11_addLink 0 = .ok (.aload_n 0, 1) := by decide +kernel
theorem ni_dX11_addLink_1 : decode cX11_addLink 1 = .ok (.iload_n 1, 1) := by decide +kernel
theorem ni_dX11_addLink_2 : decode cX11_addLink 2 = .ok (.invokevirtual 34, 3) := by decide +kernel
theorem ni_dX11_addNetwork_0 : decode cX11_addNetwork 0 = .ok (.aload_n 0, 1) := by decide +kernel
theorem ni_dX11_addNetwork_1 : decode cX11_addNetwork 1 = .ok (.iload_n 1, 1) := by decide +kernel
theorem ni_dX11_addNetwork_2 : decode cX11_addNetwork 2 = .ok (.invokevirtual 34, 3) := by decide +kernel
theorem ni_dX11_addRouter_0 : decode cX11_addRouter 0 = .ok (.aload_n 0, 1) := by decide +kernel
theorem ni_dX11_addRouter_1 : decode cX11_addRouter 1 = .ok (.getfield 10, 3) := by decide +kernel
theorem ni_dX11_addRouter_4 : decode cX11_addRouter 4 = .ok (.getfield 19, 3) := by decide +kernel
theorem ni_dX11_addRouter_7 : decode cX11_addRouter 7 = .ok (.bipush 8, 2) := by decide +kernel
theorem ni_dX11_addRouter_9 : decode cX11_addRouter 9 = .ok (.if_icmp .lt 13, 3) := by decide +kernel
theorem ni_dX11_addRouter_22 : decode cX11_addRouter 22 = .ok (.aload_n 0, 1) := by decide +kernel
theorem ni_dX11_addRouter_23 : decode cX11_addRouter 23 = .ok (.getfield 10, 3) := by decide +kernel
theorem ni_dX11_addRouter_26 : decode cX11_addRouter 26 = .ok (.invokevirtual 30, 3) := by decide +kernel
theorem ni_dX11_addRouter_29 : decode cX11_addRouter 29 = .ok (.ireturn, 1) := by decide +kernel
theorem ni_dX11_addStatic_0 : decode cX11_addStatic 0 = .ok (.aload_n 0, 1) := by decide +kernel
theorem ni_dX11_addStatic_1 : decode cX11_addStatic 1 = .ok (.iload_n 1, 1) := by decide +kernel
theorem ni_dX11_addStatic_2 : decode cX11_addStatic 2 = .ok (.invokevirtual 34, 3) := by decide +kernel
theorem ni_dX11_checkFlow_0 : decode cX11_checkFlow 0 = .ok (.iload_n 1, 1) := by decide +kernel
theorem ni_dX11_checkFlow_1 : decode cX11_checkFlow 1 = .ok (.aload_n 0, 1) := by decide +kernel
theorem ni_dX11_checkFlow_2 : decode cX11_checkFlow 2 = .ok (.getfield 10, 3) := by decide +kernel
theorem ni_dX11_checkFlow_5 : decode cX11_checkFlow 5 = .ok (.getfield 153, 3) := by decide +kernel
theorem ni_dX11_checkFlow_8 : decode cX11_checkFlow 8 = .ok (.invokestatic 108, 3) := by decide +kernel
theorem ni_dX11_checkIndex_0 : decode cX11_checkIndex 0 = .ok (.iload_n 0, 1) := by decide +kernel
theorem ni_dX11_checkIndex_1 : decode cX11_checkIndex 1 = .ok (.ifCond .lt 8, 3) := by decide +kernel
theorem ni_dX11_checkIndex_4 : decode cX11_checkIndex 4 = .ok (.iload_n 0, 1) := by decide +kernel
theorem ni_dX11_checkIndex_5 : decode cX11_checkIndex 5 = .ok (.iload_n 1, 1) := by decide +kernel
theorem ni_dX11_checkIndex_6 : decode cX11_checkIndex 6 = .ok (.if_icmp .lt 14, 3) := by decide +kernel
theorem ni_dX11_checkIndex_9 : decode cX11_checkIndex 9 = .ok (.new 328, 3) := by decide +kernel
theorem ni_dX11_checkIndex_12 : decode cX11_checkIndex 12 = .ok (.dup, 1) := by decide +kernel
theorem ni_dX11_checkIndex_13 : decode cX11_checkIndex 13 = .ok (.ldc_w 330, 3) := by decide +kernel
theorem ni_dX11_checkIndex_16 : decode cX11_checkIndex 16 = .ok (.invokespecial 332, 3) := by decide +kernel
theorem ni_dX11_checkIndex_19 : decode cX11_checkIndex 19 = .ok (.athrow, 1) := by decide +kernel
theorem ni_dX11_checkLink_0 : decode cX11_checkLink 0 = .ok (.iload_n 1, 1) := by decide +kernel
theorem ni_dX11_checkLink_1 : decode cX11_checkLink 1 = .ok (.aload_n 0, 1) := by decide +kernel
theorem ni_dX11_checkLink_2 : decode cX11_checkLink 2 = .ok (.getfield 10, 3) := by decide +kernel
theorem ni_dX11_checkLink_5 : decode cX11_checkLink 5 = .ok (.getfield 47, 3) := by decide +kernel
theorem ni_dX11_checkLink_8 : decode cX11_checkLink 8 = .ok (.invokestatic 108, 3) := by decide +kernel
theorem ni_dX11_checkRange_0 : decode cX11_checkRange 0 = .ok (.iload_n 0, 1) := by decide +kernel
theorem ni_dX11_checkRange_1 : decode cX11_checkRange 1 = .ok (.iload_n 1, 1) := by decide +kernel
theorem ni_dX11_checkRange_2 : decode cX11_checkRange 2 = .ok (.if_icmp .lt 8, 3) := by decide +kernel
theorem ni_dX11_checkRange_5 : decode cX11_checkRange 5 = .ok (.iload_n 0, 1) := by decide +kernel
theorem ni_dX11_checkRange_6 : decode cX11_checkRange 6 = .ok (.iload_n 2, 1) := by decide +kernel
theorem ni_dX11_checkRange_7 : decode cX11_checkRange 7 = .ok (.if_icmp .le 14, 3) := by decide +kernel
theorem ni_dX11_checkRange_10 : decode cX11_checkRange 10 = .ok (.new 38, 3) := by decide +kernel
theorem ni_dX11_checkRange_13 : decode cX11_checkRange 13 = .ok (.dup, 1) := by decide +kernel
theorem ni_dX11_checkRange_14 : decode cX11_checkRange 14 = .ok (.ldc_w 333, 3) := by decide +kernel
theorem ni_dX11_checkRange_17 : decode cX11_checkRange 17 = .ok (.invokespecial 42, 3) := by decide +kernel
theorem ni_dX11_checkRange_20 : decode cX11_checkRange 20 = .ok (.athrow, 1) := by decide +kernel
theorem ni_dX11_checkRange_21 : decode cX11_checkRange 21 = .ok (.return_, 1) := by decide +kernel
theorem ni_dX11_checkRouter_0 : decode cX11_checkRouter 0 = .ok (.iload_n 1, 1) := by decide +kernel
theorem ni_dX11_checkRouter_1 : decode cX11_checkRouter 1 = .ok (.aload_n 0, 1) := by decide +kernel
theorem ni_dX11_checkRouter_2 : decode cX11_checkRouter 2 = .ok (.getfield 10, 3) := by decide +kernel
theorem ni_dX11_checkRouter_5 : decode cX11_checkRouter 5 = .ok (.getfield 19, 3) := by decide +kernel
theorem ni_dX11_checkRouter_8 : decode cX11_checkRouter 8 = .ok (.invokestatic 108, 3) := by decide +kernel
theorem ni_dX11_deficit_0 : decode cX11_deficit 0 = .ok (.aload_n 0, 1) := by decide +kernel
theorem ni_dX11_deficit_1 : decode cX11_deficit 1 = .ok (.iload_n 1, 1) := by decide +kernel
theorem ni_dX11_deficit_2 : decode cX11_deficit 2 = .ok (.invokevirtual 56, 3) := by decide +kernel
theorem ni_dX11_delivered_0 : decode cX11_delivered 0 = .ok (.aload_n 0, 1) := by decide +kernel
theorem ni_dX11_delivered_1 : decode cX11_delivered 1 = .ok (.iload_n 1, 1) := by decide +kernel
theorem ni_dX11_delivered_2 : decode cX11_delivered 2 = .ok (.invokevirtual 162, 3) := by decide +kernel
theorem ni_dX11_deliveredIn_0 : decode cX11_deliveredIn 0 = .ok (.aload_n 0, 1) := by decide +kernel
theorem ni_dX11_deliveredIn_1 : decode cX11_deliveredIn 1 = .ok (.iload_n 1, 1) := by decide +kernel
theorem ni_dX11_deliveredIn_2 : decode cX11_deliveredIn 2 = .ok (.invokevirtual 162, 3) := by decide +kernel
theorem ni_dX11_digest_0 : decode cX11_digest 0 = .ok (.ldc2_w 301, 3) := by decide +kernel
theorem ni_dX11_digest_3 : decode cX11_digest 3 = .ok (.lstore_n 1, 1) := by decide +kernel
theorem ni_dX11_digest_4 : decode cX11_digest 4 = .ok (.lload_n 1, 1) := by decide +kernel
theorem ni_dX11_digest_5 : decode cX11_digest 5 = .ok (.ldc2_w 303, 3) := by decide +kernel
theorem ni_dX11_digest_8 : decode cX11_digest 8 = .ok (.lmul, 1) := by decide +kernel
theorem ni_dX11_digest_9 : decode cX11_digest 9 = .ok (.aload_n 0, 1) := by decide +kernel
theorem ni_dX11_digest_10 : decode cX11_digest 10 = .ok (.getfield 10, 3) := by decide +kernel
theorem ni_dX11_digest_13 : decode cX11_digest 13 = .ok (.getfield 165, 3) := by decide +kernel
theorem ni_dX11_digest_16 : decode cX11_digest 16 = .ok (.i2l, 1) := by decide +kernel
theorem ni_dX11_digest_17 : decode cX11_digest 17 = .ok (.ladd, 1) := by decide +kernel
theorem ni_dX11_digest_18 : decode cX11_digest 18 = .ok (.lstore_n 1, 1) := by decide +kernel
theorem ni_dX11_digest_19 : decode cX11_digest 19 = .ok (.lload_n 1, 1) := by decide +kernel
theorem ni_dX11_digest_20 : decode cX11_digest 20 = .ok (.ldc2_w 303, 3) := by decide +kernel
theorem ni_dX11_digest_23 : decode cX11_digest 23 = .ok (.lmul, 1) := by decide +kernel
theorem ni_dX11_digest_24 : decode cX11_digest 24 = .ok (.aload_n 0, 1) := by decide +kernel
theorem ni_dX11_digest_25 : decode cX11_digest 25 = .ok (.getfield 10, 3) := by decide +kernel
theorem ni_dX11_digest_28 : decode cX11_digest 28 = .ok (.getfield 19, 3) := by decide +kernel
theorem ni_dX11_digest_31 : decode cX11_digest 31 = .ok (.i2l, 1) := by decide +kernel
theorem ni_dX11_digest_32 : decode cX11_digest 32 = .ok (.ladd, 1) := by decide +kernel
theorem ni_dX11_digest_33 : decode cX11_digest 33 = .ok (.lstore_n 1, 1) := by decide +kernel
theorem ni_dX11_digest_34 : decode cX11_digest 34 = .ok (.lload_n 1, 1) := by decide +kernel
theorem ni_dX11_digest_35 : decode cX11_digest 35 = .ok (.ldc2_w 303, 3) := by decide +kernel
theorem ni_dX11_digest_38 : decode cX11_digest 38 = .ok (.lmul, 1) := by decide +kernel
theorem ni_dX11_digest_39 : decode cX11_digest 39 = .ok (.aload_n 0, 1) := by decide +kernel
theorem ni_dX11_digest_40 : decode cX11_digest 40 = .ok (.getfield 10, 3) := by decide +kernel
theorem ni_dX11_digest_43 : decode cX11_digest 43 = .ok (.getfield 47, 3) := by decide +kernel
theorem ni_dX11_digest_46 : decode cX11_digest 46 = .ok (.i2l, 1) := by decide +kernel
theorem ni_dX11_digest_47 : decode cX11_digest 47 = .ok (.ladd, 1) := by decide +kernel
theorem ni_dX11_digest_48 : decode cX11_digest 48 = .ok (.lstore_n 1, 1) := by decide +kernel
theorem ni_dX11_digest_49 : decode cX11_digest 49 = .ok (.lload_n 1, 1) := by decide +kernel
theorem ni_dX11_digest_50 : decode cX11_digest 50 = .ok (.ldc2_w 303, 3) := by decide +kernel
theorem ni_dX11_digest_53 : decode cX11_digest 53 = .ok (.lmul, 1) := by decide +kernel
theorem ni_dX11_digest_54 : decode cX11_digest 54 = .ok (.aload_n 0, 1) := by decide +kernel
theorem ni_dX11_digest_55 : decode cX11_digest 55 = .ok (.getfield 10, 3) := by decide +kernel
theorem ni_dX11_digest_58 : decode cX11_digest 58 = .ok (.getfield 88, 3) := by decide +kernel
theorem ni_dX11_digest_61 : decode cX11_digest 61 = .ok (.getfield 92, 3) := by decide +kernel
theorem ni_dX11_digest_64 : decode cX11_digest 64 = .ok (.i2l, 1) := by decide +kernel
theorem ni_dX11_digest_65 : decode cX11_digest 65 = .ok (.ladd, 1) := by decide +kernel
theorem ni_dX11_digest_66 : decode cX11_digest 66 = .ok (.lstore_n 1, 1) := by decide +kernel
theorem ni_dX11_digest_67 : decode cX11_digest 67 = .ok (.lload_n 1, 1) := by decide +kernel
theorem ni_dX11_digest_68 : decode cX11_digest 68 = .ok (.ldc2_w 303, 3) := by decide +kernel
theorem ni_dX11_digest_71 : decode cX11_digest 71 = .ok (.lmul, 1) := by decide +kernel
theorem ni_dX11_digest_72 : decode cX11_digest 72 = .ok (.aload_n 0, 1) := by decide +kernel
theorem ni_dX11_digest_73 : decode cX11_digest 73 = .ok (.getfield 10, 3) := by decide +kernel
theorem ni_dX11_digest_76 : decode cX11_digest 76 = .ok (.getfield 121, 3) := by decide +kernel
theorem ni_dX11_digest_79 : decode cX11_digest 79 = .ok (.getfield 92, 3) := by decide +kernel
theorem ni_dX11_digest_82 : decode cX11_digest 82 = .ok (.i2l, 1) := by decide +kernel
theorem ni_dX11_digest_83 : decode cX11_digest 83 = .ok (.ladd, 1) := by decide +kernel
theorem ni_dX11_digest_84 : decode cX11_digest 84 = .ok (.lstore_n 1, 1) := by decide +kernel
theorem ni_dX11_digest_85 : decode cX11_digest 85 = .ok (.lload_n 1, 1) := by decide +kernel
theorem ni_dX11_digest_86 : decode cX11_digest 86 = .ok (.ldc2_w 303, 3) := by decide +kernel
theorem ni_dX11_digest_89 : decode cX11_digest 89 = .ok (.lmul, 1) := by decide +kernel
theorem ni_dX11_digest_90 : decode cX11_digest 90 = .ok (.aload_n 0, 1) := by decide +kernel
theorem ni_dX11_digest_91 : decode cX11_digest 91 = .ok (.getfield 10, 3) := by decide +kernel
theorem ni_dX11_digest_94 : decode cX11_digest 94 = .ok (.getfield 153, 3) := by decide +kernel
theorem ni_dX11_digest_97 : decode cX11_digest 97 = .ok (.i2l, 1) := by decide +kernel
theorem ni_dX11_digest_98 : decode cX11_digest 98 = .ok (.ladd, 1) := by decide +kernel
theorem ni_dX11_digest_99 : decode cX11_digest 99 = .ok (.lstore_n 1, 1) := by decide +kernel
theorem ni_dX11_digest_100 : decode cX11_digest 100 = .ok (.lload_n 1, 1) := by decide +kernel
theorem ni_dX11_digest_101 : decode cX11_digest 101 = .ok (.ldc2_w 303, 3) := by decide +kernel
theorem ni_dX11_digest_104 : decode cX11_digest 104 = .ok (.lmul, 1) := by decide +kernel
theorem ni_dX11_digest_105 : decode cX11_digest 105 = .ok (.aload_n 0, 1) := by decide +kernel
theorem ni_dX11_digest_106 : decode cX11_digest 106 = .ok (.getfield 10, 3) := by decide +kernel
theorem ni_dX11_digest_109 : decode cX11_digest 109 = .ok (.invokevirtual 216, 3) := by decide +kernel
theorem ni_dX11_digest_112 : decode cX11_digest 112 = .ok (.i2l, 1) := by decide +kernel
theorem ni_dX11_digest_113 : decode cX11_digest 113 = .ok (.ladd, 1) := by decide +kernel
theorem ni_dX11_digest_114 : decode cX11_digest 114 = .ok (.lstore_n 1, 1) := by decide +kernel
theorem ni_dX11_digest_115 : decode cX11_digest 115 = .ok (.iconst 0, 1) := by decide +kernel
theorem ni_dX11_digest_116 : decode cX11_digest 116 = .ok (.istore_n 3, 1) := by decide +kernel
theorem ni_dX11_digest_117 : decode cX11_digest 117 = .ok (.iload_n 3, 1) := by decide +kernel
theorem ni_dX11_digest_118 : decode cX11_digest 118 = .ok (.aload_n 0, 1) := by decide +kernel
theorem ni_dX11_digest_119 : decode cX11_digest 119 = .ok (.getfield 10, 3) := by decide +kernel
theorem ni_dX11_digest_122 : decode cX11_digest 122 = .ok (.getfield 19, 3) := by decide +kernel
theorem ni_dX11_digest_125 : decode cX11_digest 125 = .ok (.if_icmp .ge 24, 3) := by decide +kernel
theorem ni_dX11_digest_149 : decode cX11_digest 149 = .ok (.iconst 0, 1) := by decide +kernel
theorem ni_dX11_digest_150 : decode cX11_digest 150 = .ok (.istore_n 3, 1) := by decide +kernel
theorem ni_dX11_digest_151 : decode cX11_digest 151 = .ok (.iload_n 3, 1) := by decide +kernel
theorem ni_dX11_digest_152 : decode cX11_digest 152 = .ok (.aload_n 0, 1) := by decide +kernel
theorem ni_dX11_digest_153 : decode cX11_digest 153 = .ok (.getfield 10, 3) := by decide +kernel
theorem ni_dX11_digest_156 : decode cX11_digest 156 = .ok (.getfield 47, 3) := by decide +kernel
theorem ni_dX11_digest_159 : decode cX11_digest 159 = .ok (.if_icmp .ge 23, 3) := by decide +kernel
theorem ni_dX11_digest_182 : decode cX11_digest 182 = .ok (.iconst 0, 1) := by decide +kernel
theorem ni_dX11_digest_183 : decode cX11_digest 183 = .ok (.istore_n 3, 1) := by decide +kernel
theorem ni_dX11_digest_184 : decode cX11_digest 184 = .ok (.iload_n 3, 1) := by decide +kernel
theorem ni_dX11_digest_185 : decode cX11_digest 185 = .ok (.aload_n 0, 1) := by decide +kernel
theorem ni_dX11_digest_186 : decode cX11_digest 186 = .ok (.getfield 10, 3) := by decide +kernel
theorem ni_dX11_digest_189 : decode cX11_digest 189 = .ok (.getfield 153, 3) := by decide +kernel
theorem ni_dX11_digest_192 : decode cX11_digest 192 = .ok (.if_icmp .ge 16, 3) := by decide +kernel
theorem ni_dX11_digest_208 : decode cX11_digest 208 = .ok (.lload_n 1, 1) := by decide +kernel
theorem ni_dX11_digest_209 : decode cX11_digest 209 = .ok (.lreturn, 1) := by decide +kernel
theorem ni_dX11_distance_0 : decode cX11_distance 0 = .ok (.aload_n 0, 1) := by decide +kernel
theorem ni_dX11_distance_1 : decode cX11_distance 1 = .ok (.iload_n 1, 1) := by decide +kernel
theorem ni_dX11_distance_2 : decode cX11_distance 2 = .ok (.invokevirtual 34, 3) := by decide +kernel
theorem ni_dX11_dropNetwork_0 : decode cX11_dropNetwork 0 = .ok (.iload_n 1, 1) := by decide +kernel
theorem ni_dX11_dropNetwork_1 : decode cX11_dropNetwork 1 = .ok (.aload_n 0, 1) := by decide +kernel
theorem ni_dX11_dropNetwork_2 : decode cX11_dropNetwork 2 = .ok (.getfield 10, 3) := by decide +kernel
theorem ni_dX11_dropNetwork_5 : decode cX11_dropNetwork 5 = .ok (.getfield 88, 3) := by decide +kernel
theorem ni_dX11_dropNetwork_8 : decode cX11_dropNetwork 8 = .ok (.getfield 92, 3) := by decide +kernel
theorem ni_dX11_dropNetwork_11 : decode cX11_dropNetwork 11 = .ok (.invokestatic 108, 3) := by decide +kernel
theorem ni_dX11_dropStatic_0 : decode cX11_dropStatic 0 = .ok (.iload_n 1, 1) := by decide +kernel
theorem ni_dX11_dropStatic_1 : decode cX11_dropStatic 1 = .ok (.aload_n 0, 1) := by decide +kernel
theorem ni_dX11_dropStatic_2 : decode cX11_dropStatic 2 = .ok (.getfield 10, 3) := by decide +kernel
theorem ni_dX11_dropStatic_5 : decode cX11_dropStatic 5 = .ok (.getfield 121, 3) := by decide +kernel
theorem ni_dX11_dropStatic_8 : decode cX11_dropStatic 8 = .ok (.getfield 92, 3) := by decide +kernel
theorem ni_dX11_dropStatic_11 : decode cX11_dropStatic 11 = .ok (.invokestatic 108, 3) := by decide +kernel
theorem ni_dX11_dropped_0 : decode cX11_dropped 0 = .ok (.aload_n 0, 1) := by decide +kernel
theorem ni_dX11_dropped_1 : decode cX11_dropped 1 = .ok (.iload_n 1, 1) := by decide +kernel
theorem ni_dX11_dropped_2 : decode cX11_dropped 2 = .ok (.invokevirtual 162, 3) := by decide +kernel
theorem ni_dX11_entries_0 : decode cX11_entries 0 = .ok (.aload_n 0, 1) := by decide +kernel
theorem ni_dX11_entries_1 : decode cX11_entries 1 = .ok (.iload_n 1, 1) := by decide +kernel
theorem ni_dX11_entries_2 : decode cX11_entries 2 = .ok (.invokevirtual 34, 3) := by decide +kernel
theorem ni_dX11_firstLinks_0 : decode cX11_firstLinks 0 = .ok (.aload_n 0, 1) := by decide +kernel
theorem ni_dX11_firstLinks_1 : decode cX11_firstLinks 1 = .ok (.iload_n 1, 1) := by decide +kernel
theorem ni_dX11_firstLinks_2 : decode cX11_firstLinks 2 = .ok (.invokevirtual 34, 3) := by decide +kernel
theorem ni_dX11_flows_0 : decode cX11_flows 0 = .ok (.aload_n 0, 1) := by decide +kernel
theorem ni_dX11_flows_1 : decode cX11_flows 1 = .ok (.getfield 10, 3) := by decide +kernel
theorem ni_dX11_flows_4 : decode cX11_flows 4 = .ok (.getfield 153, 3) := by decide +kernel
theorem ni_dX11_flows_7 : decode cX11_flows 7 = .ok (.ireturn, 1) := by decide +kernel
theorem ni_dX11_found_0 : decode cX11_found 0 = .ok (.aload_n 0, 1) := by decide +kernel
theorem ni_dX11_found_1 : decode cX11_found 1 = .ok (.iload_n 1, 1) := by decide +kernel
theorem ni_dX11_found_2 : decode cX11_found 2 = .ok (.invokevirtual 34, 3) := by decide +kernel
theorem ni_dX11_isSettled_0 : decode cX11_isSettled 0 = .ok (.aload_n 0, 1) := by decide +kernel
theorem ni_dX11_isSettled_1 : decode cX11_isSettled 1 = .ok (.getfield 10, 3) := by decide +kernel
theorem ni_dX11_isSettled_4 : decode cX11_isSettled 4 = .ok (.invokevirtual 216, 3) := by decide +kernel
theorem ni_dX11_isSettled_7 : decode cX11_isSettled 7 = .ok (.ifCond .ne 7, 3) := by decide +kernel
theorem ni_dX11_isSettled_10 : decode cX11_isSettled 10 = .ok (.iconst 1, 1) := by decide +kernel
theorem ni_dX11_isSettled_11 : decode cX11_isSettled 11 = .ok (.goto 4, 3) := by decide +kernel
theorem ni_dX11_isSettled_15 : decode cX11_isSettled 15 = .ok (.ireturn, 1) := by decide +kernel
theorem ni_dX11_isUp_0 : decode cX11_isUp 0 = .ok (.aload_n 0, 1) := by decide +kernel
theorem ni_dX11_isUp_1 : decode cX11_isUp 1 = .ok (.iload_n 1, 1) := by decide +kernel
theorem ni_dX11_isUp_2 : decode cX11_isUp 2 = .ok (.invokevirtual 56, 3) := by decide +kernel
theorem ni_dX11_latest_0 : decode cX11_latest 0 = .ok (.aload_n 0, 1) := by decide +kernel
theorem ni_dX11_latest_1 : decode cX11_latest 1 = .ok (.iload_n 1, 1) := by decide +kernel
theorem ni_dX11_latest_2 : decode cX11_latest 2 = .ok (.invokevirtual 162, 3) := by decide +kernel
theorem ni_dX11_letterOf_0 : decode cX11_letterOf 0 = .ok (.aload_n 0, 1) := by decide +kernel
theorem ni_dX11_letterOf_1 : decode cX11_letterOf 1 = .ok (.iload_n 1, 1) := by decide +kernel
theorem ni_dX11_letterOf_2 : decode cX11_letterOf 2 = .ok (.invokevirtual 34, 3) := by decide +kernel
theorem ni_dX11_letters_0 : decode cX11_letters 0 = .ok (.aload_n 0, 1) := by decide +kernel
theorem ni_dX11_letters_1 : decode cX11_letters 1 = .ok (.getfield 10, 3) := by decide +kernel
theorem ni_dX11_letters_4 : decode cX11_letters 4 = .ok (.invokevirtual 216, 3) := by decide +kernel
theorem ni_dX11_letters_7 : decode cX11_letters 7 = .ok (.ireturn, 1) := by decide +kernel
theorem ni_dX11_links_0 : decode cX11_links 0 = .ok (.aload_n 0, 1) := by decide +kernel
theorem ni_dX11_links_1 : decode cX11_links 1 = .ok (.getfield 10, 3) := by decide +kernel
theorem ni_dX11_links_4 : decode cX11_links 4 = .ok (.getfield 47, 3) := by decide +kernel
theorem ni_dX11_links_7 : decode cX11_links 7 = .ok (.ireturn, 1) := by decide +kernel
theorem ni_dX11_looks_0 : decode cX11_looks 0 = .ok (.aload_n 0, 1) := by decide +kernel
theorem ni_dX11_looks_1 : decode cX11_looks 1 = .ok (.iload_n 1, 1) := by decide +kernel
theorem ni_dX11_looks_2 : decode cX11_looks 2 = .ok (.invokevirtual 34, 3) := by decide +kernel
theorem ni_dX11_meanLate_0 : decode cX11_meanLate 0 = .ok (.aload_n 0, 1) := by decide +kernel
theorem ni_dX11_meanLate_1 : decode cX11_meanLate 1 = .ok (.iload_n 1, 1) := by decide +kernel
theorem ni_dX11_meanLate_2 : decode cX11_meanLate 2 = .ok (.invokevirtual 162, 3) := by decide +kernel
theorem ni_dX11_networks_0 : decode cX11_networks 0 = .ok (.aload_n 0, 1) := by decide +kernel
theorem ni_dX11_networks_1 : decode cX11_networks 1 = .ok (.getfield 10, 3) := by decide +kernel
theorem ni_dX11_networks_4 : decode cX11_networks 4 = .ok (.getfield 88, 3) := by decide +kernel
theorem ni_dX11_networks_7 : decode cX11_networks 7 = .ok (.getfield 92, 3) := by decide +kernel
theorem ni_dX11_networks_10 : decode cX11_networks 10 = .ok (.ireturn, 1) := by decide +kernel
theorem ni_dX11_nextLink_0 : decode cX11_nextLink 0 = .ok (.aload_n 0, 1) := by decide +kernel
theorem ni_dX11_nextLink_1 : decode cX11_nextLink 1 = .ok (.iload_n 1, 1) := by decide +kernel
theorem ni_dX11_nextLink_2 : decode cX11_nextLink 2 = .ok (.invokevirtual 34, 3) := by decide +kernel
theorem ni_dX11_offered_0 : decode cX11_offered 0 = .ok (.aload_n 0, 1) := by decide +kernel
theorem ni_dX11_offered_1 : decode cX11_offered 1 = .ok (.iload_n 1, 1) := by decide +kernel
theorem ni_dX11_offered_2 : decode cX11_offered 2 = .ok (.invokevirtual 162, 3) := by decide +kernel
theorem ni_dX11_onLink_0 : decode cX11_onLink 0 = .ok (.aload_n 0, 1) := by decide +kernel
theorem ni_dX11_onLink_1 : decode cX11_onLink 1 = .ok (.iload_n 1, 1) := by decide +kernel
theorem ni_dX11_onLink_2 : decode cX11_onLink 2 = .ok (.invokevirtual 56, 3) := by decide +kernel
theorem ni_dX11_outOfOrder_0 : decode cX11_outOfOrder 0 = .ok (.aload_n 0, 1) := by decide +kernel
theorem ni_dX11_outOfOrder_1 : decode cX11_outOfOrder 1 = .ok (.iload_n 1, 1) := by decide +kernel
theorem ni_dX11_outOfOrder_2 : decode cX11_outOfOrder 2 = .ok (.invokevirtual 162, 3) := by decide +kernel
theorem ni_dX11_queued_0 : decode cX11_queued 0 = .ok (.aload_n 0, 1) := by decide +kernel
theorem ni_dX11_queued_1 : decode cX11_queued 1 = .ok (.iload_n 1, 1) := by decide +kernel
theorem ni_dX11_queued_2 : decode cX11_queued 2 = .ok (.invokevirtual 56, 3) := by decide +kernel
theorem ni_dX11_route_0 : decode cX11_route 0 = .ok (.aload_n 0, 1) := by decide +kernel
theorem ni_dX11_route_1 : decode cX11_route 1 = .ok (.iload_n 1, 1) := by decide +kernel
theorem ni_dX11_route_2 : decode cX11_route 2 = .ok (.invokevirtual 162, 3) := by decide +kernel
theorem ni_dX11_routers_0 : decode cX11_routers 0 = .ok (.aload_n 0, 1) := by decide +kernel
theorem ni_dX11_routers_1 : decode cX11_routers 1 = .ok (.getfield 10, 3) := by decide +kernel
theorem ni_dX11_routers_4 : decode cX11_routers 4 = .ok (.getfield 19, 3) := by decide +kernel
theorem ni_dX11_routers_7 : decode cX11_routers 7 = .ok (.ireturn, 1) := by decide +kernel
theorem ni_dX11_schedule_0 : decode cX11_schedule 0 = .ok (.aload_n 0, 1) := by decide +kernel
theorem ni_dX11_schedule_1 : decode cX11_schedule 1 = .ok (.iload_n 1, 1) := by decide +kernel
theorem ni_dX11_schedule_2 : decode cX11_schedule 2 = .ok (.invokevirtual 162, 3) := by decide +kernel
theorem ni_dX11_sending_0 : decode cX11_sending 0 = .ok (.aload_n 0, 1) := by decide +kernel
theorem ni_dX11_sending_1 : decode cX11_sending 1 = .ok (.iload_n 1, 1) := by decide +kernel
theorem ni_dX11_sending_2 : decode cX11_sending 2 = .ok (.invokevirtual 56, 3) := by decide +kernel
theorem ni_dX11_setCost_0 : decode cX11_setCost 0 = .ok (.aload_n 0, 1) := by decide +kernel
theorem ni_dX11_setCost_1 : decode cX11_setCost 1 = .ok (.iload_n 1, 1) := by decide +kernel
theorem ni_dX11_setCost_2 : decode cX11_setCost 2 = .ok (.invokevirtual 56, 3) := by decide +kernel
theorem ni_dX11_setPort_0 : decode cX11_setPort 0 = .ok (.aload_n 0, 1) := by decide +kernel
theorem ni_dX11_setPort_1 : decode cX11_setPort 1 = .ok (.iload_n 1, 1) := by decide +kernel
theorem ni_dX11_setPort_2 : decode cX11_setPort 2 = .ok (.invokevirtual 56, 3) := by decide +kernel
theorem ni_dX11_setUp_0 : decode cX11_setUp 0 = .ok (.aload_n 0, 1) := by decide +kernel
theorem ni_dX11_setUp_1 : decode cX11_setUp 1 = .ok (.iload_n 1, 1) := by decide +kernel
theorem ni_dX11_setUp_2 : decode cX11_setUp 2 = .ok (.invokevirtual 56, 3) := by decide +kernel
theorem ni_dX11_setWeight_0 : decode cX11_setWeight 0 = .ok (.aload_n 0, 1) := by decide +kernel
theorem ni_dX11_setWeight_1 : decode cX11_setWeight 1 = .ok (.iload_n 1, 1) := by decide +kernel
theorem ni_dX11_setWeight_2 : decode cX11_setWeight 2 = .ok (.invokevirtual 56, 3) := by decide +kernel
theorem ni_dX11_settledIn_0 : decode cX11_settledIn 0 = .ok (.iload_n 1, 1) := by decide +kernel
theorem ni_dX11_settledIn_1 : decode cX11_settledIn 1 = .ok (.iconst 1, 1) := by decide +kernel
theorem ni_dX11_settledIn_2 : decode cX11_settledIn 2 = .ok (.bipush 60, 2) := by decide +kernel
theorem ni_dX11_settledIn_4 : decode cX11_settledIn 4 = .ok (.invokestatic 43, 3) := by decide +kernel
theorem ni_dX11_settledIn_7 : decode cX11_settledIn 7 = .ok (.aload_n 0, 1) := by decide +kernel
theorem ni_dX11_settledIn_8 : decode cX11_settledIn 8 = .ok (.getfield 10, 3) := by decide +kernel
theorem ni_dX11_settledIn_11 : decode cX11_settledIn 11 = .ok (.invokevirtual 216, 3) := by decide +kernel
theorem ni_dX11_settledIn_14 : decode cX11_settledIn 14 = .ok (.ifCond .ne 5, 3) := by decide +kernel
theorem ni_dX11_settledIn_17 : decode cX11_settledIn 17 = .ok (.iconst 0, 1) := by decide +kernel
theorem ni_dX11_settledIn_18 : decode cX11_settledIn 18 = .ok (.ireturn, 1) := by decide +kernel
theorem ni_dX11_shape_0 : decode cX11_shape 0 = .ok (.aload_n 0, 1) := by decide +kernel
theorem ni_dX11_shape_1 : decode cX11_shape 1 = .ok (.iload_n 1, 1) := by decide +kernel
theorem ni_dX11_shape_2 : decode cX11_shape 2 = .ok (.invokevirtual 162, 3) := by decide +kernel
theorem ni_dX11_shaping_0 : decode cX11_shaping 0 = .ok (.aload_n 0, 1) := by decide +kernel
theorem ni_dX11_shaping_1 : decode cX11_shaping 1 = .ok (.iload_n 1, 1) := by decide +kernel
theorem ni_dX11_shaping_2 : decode cX11_shaping 2 = .ok (.invokevirtual 162, 3) := by decide +kernel
theorem ni_dX11_sortOf_0 : decode cX11_sortOf 0 = .ok (.aload_n 0, 1) := by decide +kernel
theorem ni_dX11_sortOf_1 : decode cX11_sortOf 1 = .ok (.iload_n 1, 1) := by decide +kernel
theorem ni_dX11_sortOf_2 : decode cX11_sortOf 2 = .ok (.invokevirtual 34, 3) := by decide +kernel
theorem ni_dX11_statics_0 : decode cX11_statics 0 = .ok (.aload_n 0, 1) := by decide +kernel
theorem ni_dX11_statics_1 : decode cX11_statics 1 = .ok (.getfield 10, 3) := by decide +kernel
theorem ni_dX11_statics_4 : decode cX11_statics 4 = .ok (.getfield 121, 3) := by decide +kernel
theorem ni_dX11_statics_7 : decode cX11_statics 7 = .ok (.getfield 92, 3) := by decide +kernel
theorem ni_dX11_statics_10 : decode cX11_statics 10 = .ok (.ireturn, 1) := by decide +kernel
theorem ni_dX11_step_0 : decode cX11_step 0 = .ok (.iload_n 1, 1) := by decide +kernel
theorem ni_dX11_step_1 : decode cX11_step 1 = .ok (.iconst 1, 1) := by decide +kernel
theorem ni_dX11_step_2 : decode cX11_step 2 = .ok (.bipush 60, 2) := by decide +kernel
theorem ni_dX11_step_4 : decode cX11_step 4 = .ok (.invokestatic 43, 3) := by decide +kernel
theorem ni_dX11_step_7 : decode cX11_step 7 = .ok (.iconst 0, 1) := by decide +kernel
theorem ni_dX11_step_8 : decode cX11_step 8 = .ok (.istore_n 2, 1) := by decide +kernel
theorem ni_dX11_step_9 : decode cX11_step 9 = .ok (.iload_n 2, 1) := by decide +kernel
theorem ni_dX11_step_10 : decode cX11_step 10 = .ok (.iload_n 1, 1) := by decide +kernel
theorem ni_dX11_step_11 : decode cX11_step 11 = .ok (.if_icmp .ge 16, 3) := by decide +kernel
theorem ni_dX11_step_14 : decode cX11_step 14 = .ok (.aload_n 0, 1) := by decide +kernel
theorem ni_dX11_step_15 : decode cX11_step 15 = .ok (.getfield 10, 3) := by decide +kernel
theorem ni_dX11_step_18 : decode cX11_step 18 = .ok (.invokevirtual 198, 3) := by decide +kernel
theorem ni_dX11_step_21 : decode cX11_step 21 = .ok (.iinc 2 1, 3) := by decide +kernel
theorem ni_dX11_step_24 : decode cX11_step 24 = .ok (.goto (-15), 3) := by decide +kernel
theorem ni_dX11_step_27 : decode cX11_step 27 = .ok (.aload_n 0, 1) := by decide +kernel
theorem ni_dX11_step_28 : decode cX11_step 28 = .ok (.getfield 10, 3) := by decide +kernel
theorem ni_dX11_step_31 : decode cX11_step 31 = .ok (.getfield 165, 3) := by decide +kernel
theorem ni_dX11_step_34 : decode cX11_step 34 = .ok (.ireturn, 1) := by decide +kernel
theorem ni_dX11_time_0 : decode cX11_time 0 = .ok (.aload_n 0, 1) := by decide +kernel
theorem ni_dX11_time_1 : decode cX11_time 1 = .ok (.getfield 10, 3) := by decide +kernel
theorem ni_dX11_time_4 : decode cX11_time 4 = .ok (.getfield 165, 3) := by decide +kernel
theorem ni_dX11_time_7 : decode cX11_time 7 = .ok (.ireturn, 1) := by decide +kernel
theorem ni_dX11_tokens_0 : decode cX11_tokens 0 = .ok (.aload_n 0, 1) := by decide +kernel
theorem ni_dX11_tokens_1 : decode cX11_tokens 1 = .ok (.iload_n 1, 1) := by decide +kernel
theorem ni_dX11_tokens_2 : decode cX11_tokens 2 = .ok (.invokevirtual 162, 3) := by decide +kernel
theorem ni_dX11_trieDepth_0 : decode cX11_trieDepth 0 = .ok (.aload_n 0, 1) := by decide +kernel
theorem ni_dX11_trieDepth_1 : decode cX11_trieDepth 1 = .ok (.iload_n 1, 1) := by decide +kernel
theorem ni_dX11_trieDepth_2 : decode cX11_trieDepth 2 = .ok (.invokevirtual 34, 3) := by decide +kernel
theorem ni_dX11_trieNodes_0 : decode cX11_trieNodes 0 = .ok (.aload_n 0, 1) := by decide +kernel
theorem ni_dX11_trieNodes_1 : decode cX11_trieNodes 1 = .ok (.iload_n 1, 1) := by decide +kernel
theorem ni_dX11_trieNodes_2 : decode cX11_trieNodes 2 = .ok (.invokevirtual 34, 3) := by decide +kernel
theorem ni_dX11_waiting_0 : decode cX11_waiting 0 = .ok (.aload_n 0, 1) := by decide +kernel
theorem ni_dX11_waiting_1 : decode cX11_waiting 1 = .ok (.iload_n 1, 1) := by decide +kernel
theorem ni_dX11_waiting_2 : decode cX11_waiting 2 = .ok (.invokevirtual 56, 3) := by decide +kernel
theorem ni_dX0_init_0 : decode cX0_init 0 = .ok (.aload_n 0, 1) := by decide +kernel
theorem ni_dX0_init_1 : decode cX0_init 1 = .ok (.invokespecial 3, 3) := by decide +kernel
theorem ni_dX0_init_4 : decode cX0_init 4 = .ok (.aload_n 0, 1) := by decide +kernel
theorem ni_dX0_init_5 : decode cX0_init 5 = .ok (.iconst (-1), 1) := by decide +kernel
theorem ni_dX0_init_6 : decode cX0_init 6 = .ok (.putfield 9, 3) := by decide +kernel
theorem ni_dX0_init_9 : decode cX0_init 9 = .ok (.aload_n 0, 1) := by decide +kernel
theorem ni_dX0_init_10 : decode cX0_init 10 = .ok (.bipush 10, 2) := by decide +kernel
theorem ni_dX0_init_12 : decode cX0_init 12 = .ok (.newarray .int, 2) := by decide +kernel
theorem ni_dX0_init_14 : decode cX0_init 14 = .ok (.putfield 15, 3) := by decide +kernel
theorem ni_dX0_init_17 : decode cX0_init 17 = .ok (.aload_n 0, 1) := by decide +kernel
theorem ni_dX0_init_18 : decode cX0_init 18 = .ok (.bipush 7, 2) := by decide +kernel
theorem ni_dX0_init_20 : decode cX0_init 20 = .ok (.newarray .int, 2) := by decide +kernel
theorem ni_dX0_init_22 : decode cX0_init 22 = .ok (.putfield 19, 3) := by decide +kernel
theorem ni_dX0_init_25 : decode cX0_init 25 = .ok (.aload_n 0, 1) := by decide +kernel
theorem ni_dX0_init_26 : decode cX0_init 26 = .ok (.iconst (-1), 1) := by decide +kernel
theorem ni_dX0_init_27 : decode cX0_init 27 = .ok (.putfield 22, 3) := by decide +kernel
theorem ni_dX0_init_30 : decode cX0_init 30 = .ok (.aload_n 0, 1) := by decide +kernel
theorem ni_dX0_init_31 : decode cX0_init 31 = .ok (.iconst (-1), 1) := by decide +kernel
theorem ni_dX0_init_32 : decode cX0_init 32 = .ok (.putfield 25, 3) := by decide +kernel
theorem ni_dX0_init_35 : decode cX0_init 35 = .ok (.return_, 1) := by decide +kernel
theorem ni_dX1_init_0 : decode cX1_init 0 = .ok (.aload_n 0, 1) := by decide +kernel
theorem ni_dX1_init_1 : decode cX1_init 1 = .ok (.invokespecial 1, 3) := by decide +kernel
theorem ni_dX1_init_4 : decode cX1_init 4 = .ok (.aload_n 0, 1) := by decide +kernel
theorem ni_dX1_init_5 : decode cX1_init 5 = .ok (.iload_n 1, 1) := by decide +kernel
theorem ni_dX1_init_6 : decode cX1_init 6 = .ok (.putfield 7, 3) := by decide +kernel
theorem ni_dX1_init_9 : decode cX1_init 9 = .ok (.aload_n 0, 1) := by decide +kernel
theorem ni_dX1_init_10 : decode cX1_init 10 = .ok (.iload_n 2, 1) := by decide +kernel
theorem ni_dX1_init_11 : decode cX1_init 11 = .ok (.putfield 13, 3) := by decide +kernel
theorem ni_dX1_init_14 : decode cX1_init 14 = .ok (.aload_n 0, 1) := by decide +kernel
theorem ni_dX1_init_15 : decode cX1_init 15 = .ok (.iload_n 3, 1) := by decide +kernel
theorem ni_dX1_init_16 : decode cX1_init 16 = .ok (.putfield 16, 3) := by decide +kernel
theorem ni_dX1_init_19 : decode cX1_init 19 = .ok (.aload_n 0, 1) := by decide +kernel
theorem ni_dX1_init_20 : decode cX1_init 20 = .ok (.aload 4, 2) := by decide +kernel
theorem ni_dX1_init_22 : decode cX1_init 22 = .ok (.putfield 19, 3) := by decide +kernel
theorem ni_dX1_init_25 : decode cX1_init 25 = .ok (.aload_n 0, 1) := by decide +kernel
theorem ni_dX1_init_26 : decode cX1_init 26 = .ok (.aload 5, 2) := by decide +kernel
theorem ni_dX1_init_28 : decode cX1_init 28 = .ok (.putfield 23, 3) := by decide +kernel
theorem ni_dX1_init_31 : decode cX1_init 31 = .ok (.return_, 1) := by decide +kernel
theorem ni_dX2_init_0 : decode cX2_init 0 = .ok (.aload_n 0, 1) := by decide +kernel
theorem ni_dX2_init_1 : decode cX2_init 1 = .ok (.invokespecial 3, 3) := by decide +kernel
theorem ni_dX2_init_4 : decode cX2_init 4 = .ok (.aload_n 0, 1) := by decide +kernel
theorem ni_dX2_init_5 : decode cX2_init 5 = .ok (.bipush 8, 2) := by decide +kernel
theorem ni_dX2_init_7 : decode cX2_init 7 = .ok (.anewarray 9, 3) := by decide +kernel
theorem ni_dX2_init_10 : decode cX2_init 10 = .ok (.putfield 11, 3) := by decide +kernel
theorem ni_dX2_init_13 : decode cX2_init 13 = .ok (.aload_n 0, 1) := by decide +kernel
theorem ni_dX2_init_14 : decode cX2_init 14 = .ok (.bipush 8, 2) := by decide +kernel
theorem ni_dX2_init_16 : decode cX2_init 16 = .ok (.newarray .int, 2) := by decide +kernel
theorem ni_dX2_init_18 : decode cX2_init 18 = .ok (.putfield 17, 3) := by decide +kernel
theorem ni_dX2_init_21 : decode cX2_init 21 = .ok (.aload_n 0, 1) := by decide +kernel
theorem ni_dX2_init_22 : decode cX2_init 22 = .ok (.bipush 21, 2) := by decide +kernel
theorem ni_dX2_init_24 : decode cX2_init 24 = .ok (.newarray .int, 2) := by decide +kernel
theorem ni_dX2_init_26 : decode cX2_init 26 = .ok (.putfield 21, 3) := by decide +kernel
theorem ni_dX2_init_29 : decode cX2_init 29 = .ok (.iconst 0, 1) := by decide +kernel
theorem ni_dX2_init_30 : decode cX2_init 30 = .ok (.istore_n 1, 1) := by decide +kernel
theorem ni_dX2_init_31 : decode cX2_init 31 = .ok (.iload_n 1, 1) := by decide +kernel
theorem ni_dX2_init_32 : decode cX2_init 32 = .ok (.bipush 21, 2) := by decide +kernel
theorem ni_dX2_init_34 : decode cX2_init 34 = .ok (.if_icmp .ge 16, 3) := by decide +kernel
theorem ni_dX2_init_37 : decode cX2_init 37 = .ok (.aload_n 0, 1) := by decide +kernel
theorem ni_dX2_init_38 : decode cX2_init 38 = .ok (.getfield 21, 3) := by decide +kernel
theorem ni_dX2_init_41 : decode cX2_init 41 = .ok (.iload_n 1, 1) := by decide +kernel
theorem ni_dX2_init_42 : decode cX2_init 42 = .ok (.iconst (-1), 1) := by decide +kernel
theorem ni_dX2_init_43 : decode cX2_init 43 = .ok (.iastore, 1) := by decide +kernel
theorem ni_dX2_init_44 : decode cX2_init 44 = .ok (.iinc 1 1, 3) := by decide +kernel
theorem ni_dX2_init_47 : decode cX2_init 47 = .ok (.goto (-16), 3) := by decide +kernel
theorem ni_dX2_init_50 : decode cX2_init 50 = .ok (.return_, 1) := by decide +kernel
theorem ni_dX3_init_0 : decode cX3_init 0 = .ok (.aload_n 0, 1) := by decide +kernel
theorem ni_dX3_init_1 : decode cX3_init 1 = .ok (.invokespecial 1, 3) := by decide +kernel
theorem ni_dX3_init_4 : decode cX3_init 4 = .ok (.aload_n 0, 1) := by decide +kernel
theorem ni_dX3_init_5 : decode cX3_init 5 = .ok (.new 7, 3) := by decide +kernel
theorem ni_dX3_init_8 : decode cX3_init 8 = .ok (.dup, 1) := by decide +kernel
theorem ni_dX3_init_9 : decode cX3_init 9 = .ok (.invokespecial 9, 3) := by decide +kernel
theorem ni_dX3_init_12 : decode cX3_init 12 = .ok (.putfield 10, 3) := by decide +kernel
theorem ni_dX3_init_15 : decode cX3_init 15 = .ok (.aload_n 0, 1) := by decide +kernel
theorem ni_dX3_init_16 : decode cX3_init 16 = .ok (.new 7, 3) := by decide +kernel
theorem ni_dX3_init_19 : decode cX3_init 19 = .ok (.dup, 1) := by decide +kernel
theorem ni_dX3_init_20 : decode cX3_init 20 = .ok (.invokespecial 9, 3) := by decide +kernel
theorem ni_dX3_init_23 : decode cX3_init 23 = .ok (.putfield 16, 3) := by decide +kernel
theorem ni_dX3_init_26 : decode cX3_init 26 = .ok (.return_, 1) := by decide +kernel
theorem ni_dX4_init_0 : decode cX4_init 0 = .ok (.aload_n 0, 1) := by decide +kernel
theorem ni_dX4_init_1 : decode cX4_init 1 = .ok (.invokespecial 3, 3) := by decide +kernel
theorem ni_dX4_init_4 : decode cX4_init 4 = .ok (.aload_n 0, 1) := by decide +kernel
theorem ni_dX4_init_5 : decode cX4_init 5 = .ok (.bipush 8, 2) := by decide +kernel
theorem ni_dX4_init_7 : decode cX4_init 7 = .ok (.anewarray 9, 3) := by decide +kernel
theorem ni_dX4_init_10 : decode cX4_init 10 = .ok (.putfield 11, 3) := by decide +kernel
theorem ni_dX4_init_13 : decode cX4_init 13 = .ok (.aload_n 0, 1) := by decide +kernel
theorem ni_dX4_init_14 : decode cX4_init 14 = .ok (.bipush 14, 2) := by decide +kernel
theorem ni_dX4_init_16 : decode cX4_init 16 = .ok (.anewarray 17, 3) := by decide +kernel
theorem ni_dX4_init_19 : decode cX4_init 19 = .ok (.putfield 19, 3) := by decide +kernel
theorem ni_dX4_init_22 : decode cX4_init 22 = .ok (.aload_n 0, 1) := by decide +kernel
theorem ni_dX4_init_23 : decode cX4_init 23 = .ok (.bipush 12, 2) := by decide +kernel
theorem ni_dX4_init_25 : decode cX4_init 25 = .ok (.anewarray 23, 3) := by decide +kernel
theorem ni_dX4_init_28 : decode cX4_init 28 = .ok (.putfield 25, 3) := by decide +kernel
theorem ni_dX4_init_31 : decode cX4_init 31 = .ok (.aload_n 0, 1) := by decide +kernel
theorem ni_dX4_init_32 : decode cX4_init 32 = .ok (.new 29, 3) := by decide +kernel
theorem ni_dX4_init_35 : decode cX4_init 35 = .ok (.dup, 1) := by decide +kernel
theorem ni_dX4_init_36 : decode cX4_init 36 = .ok (.bipush 24, 2) := by decide +kernel
theorem ni_dX4_init_38 : decode cX4_init 38 = .ok (.invokespecial 31, 3) := by decide +kernel
theorem ni_dX4_init_41 : decode cX4_init 41 = .ok (.putfield 34, 3) := by decide +kernel
theorem ni_dX4_init_44 : decode cX4_init 44 = .ok (.aload_n 0, 1) := by decide +kernel
theorem ni_dX4_init_45 : decode cX4_init 45 = .ok (.new 29, 3) := by decide +kernel
theorem ni_dX4_init_48 : decode cX4_init 48 = .ok (.dup, 1) := by decide +kernel
theorem ni_dX4_init_49 : decode cX4_init 49 = .ok (.bipush 24, 2) := by decide +kernel
theorem ni_dX4_init_51 : decode cX4_init 51 = .ok (.invokespecial 31, 3) := by decide +kernel
theorem ni_dX4_init_54 : decode cX4_init 54 = .ok (.putfield 38, 3) := by decide +kernel
theorem ni_dX4_init_57 : decode cX4_init 57 = .ok (.iconst 0, 1) := by decide +kernel
theorem ni_dX4_init_58 : decode cX4_init 58 = .ok (.istore_n 1, 1) := by decide +kernel
theorem ni_dX4_init_59 : decode cX4_init 59 = .ok (.iload_n 1, 1) := by decide +kernel
theorem ni_dX4_init_60 : decode cX4_init 60 = .ok (.bipush 12, 2) := by decide +kernel
theorem ni_dX4_init_62 : decode cX4_init 62 = .ok (.if_icmp .ge 22, 3) := by decide +kernel
theorem ni_dX4_init_65 : decode cX4_init 65 = .ok (.aload_n 0, 1) := by decide +kernel
theorem ni_dX4_init_66 : decode cX4_init 66 = .ok (.getfield 25, 3) := by decide +kernel
theorem ni_dX4_init_69 : decode cX4_init 69 = .ok (.iload_n 1, 1) := by decide +kernel
theorem ni_dX4_init_70 : decode cX4_init 70 = .ok (.new 23, 3) := by decide +kernel
theorem ni_dX4_init_73 : decode cX4_init 73 = .ok (.dup, 1) := by decide +kernel
theorem ni_dX4_init_74 : decode cX4_init 74 = .ok (.invokespecial 41, 3) := by decide +kernel
theorem ni_dX4_init_77 : decode cX4_init 77 = .ok (.aastore, 1) := by decide +kernel
theorem ni_dX4_init_78 : decode cX4_init 78 = .ok (.iinc 1 1, 3) := by decide +kernel
theorem ni_dX4_init_81 : decode cX4_init 81 = .ok (.goto (-22), 3) := by decide +kernel
theorem ni_dX4_init_84 : decode cX4_init 84 = .ok (.iconst 0, 1) := by decide +kernel
theorem ni_dX4_init_85 : decode cX4_init 85 = .ok (.istore_n 1, 1) := by decide +kernel
theorem ni_dX4_init_86 : decode cX4_init 86 = .ok (.iload_n 1, 1) := by decide +kernel
theorem ni_dX4_init_87 : decode cX4_init 87 = .ok (.bipush 14, 2) := by decide +kernel
theorem ni_dX4_init_89 : decode cX4_init 89 = .ok (.if_icmp .ge 22, 3) := by decide +kernel
theorem ni_dX4_init_92 : decode cX4_init 92 = .ok (.aload_n 0, 1) := by decide +kernel
theorem ni_dX4_init_93 : decode cX4_init 93 = .ok (.getfield 19, 3) := by decide +kernel
theorem ni_dX4_init_96 : decode cX4_init 96 = .ok (.iload_n 1, 1) := by decide +kernel
theorem ni_dX4_init_97 : decode cX4_init 97 = .ok (.new 17, 3) := by decide +kernel
theorem ni_dX4_init_100 : decode cX4_init 100 = .ok (.dup, 1) := by decide +kernel
theorem ni_dX4_init_101 : decode cX4_init 101 = .ok (.invokespecial 42, 3) := by decide +kernel
theorem ni_dX4_init_104 : decode cX4_init 104 = .ok (.aastore, 1) := by decide +kernel
theorem ni_dX4_init_105 : decode cX4_init 105 = .ok (.iinc 1 1, 3) := by decide +kernel
theorem ni_dX4_init_108 : decode cX4_init 108 = .ok (.goto (-22), 3) := by decide +kernel
theorem ni_dX4_init_111 : decode cX4_init 111 = .ok (.iconst 0, 1) := by decide +kernel
theorem ni_dX4_init_112 : decode cX4_init 112 = .ok (.istore_n 1, 1) := by decide +kernel
theorem ni_dX4_init_113 : decode cX4_init 113 = .ok (.iload_n 1, 1) := by decide +kernel
theorem ni_dX4_init_114 : decode cX4_init 114 = .ok (.bipush 8, 2) := by decide +kernel
theorem ni_dX4_init_116 : decode cX4_init 116 = .ok (.if_icmp .ge 40, 3) := by decide +kernel
theorem ni_dX4_init_119 : decode cX4_init 119 = .ok (.aload_n 0, 1) := by decide +kernel
theorem ni_dX4_init_120 : decode cX4_init 120 = .ok (.getfield 11, 3) := by decide +kernel
theorem ni_dX4_init_123 : decode cX4_init 123 = .ok (.iload_n 1, 1) := by decide +kernel
theorem ni_dX4_init_124 : decode cX4_init 124 = .ok (.new 9, 3) := by decide +kernel
theorem ni_dX4_init_127 : decode cX4_init 127 = .ok (.dup, 1) := by decide +kernel
theorem ni_dX4_init_128 : decode cX4_init 128 = .ok (.iload_n 1, 1) := by decide +kernel
theorem ni_dX4_init_129 : decode cX4_init 129 = .ok (.new 43, 3) := by decide +kernel
theorem ni_dX4_init_132 : decode cX4_init 132 = .ok (.dup, 1) := by decide +kernel
theorem ni_dX4_init_133 : decode cX4_init 133 = .ok (.iload_n 1, 1) := by decide +kernel
theorem ni_dX4_init_134 : decode cX4_init 134 = .ok (.iconst 0, 1) := by decide +kernel
theorem ni_dX4_init_135 : decode cX4_init 135 = .ok (.iconst 0, 1) := by decide +kernel
theorem ni_dX4_init_136 : decode cX4_init 136 = .ok (.bipush 14, 2) := by decide +kernel
theorem ni_dX4_init_138 : decode cX4_init 138 = .ok (.newarray .int, 2) := by decide +kernel
theorem ni_dX4_init_140 : decode cX4_init 140 = .ok (.iconst 0, 1) := by decide +kernel
theorem ni_dX4_init_141 : decode cX4_init 141 = .ok (.newarray .int, 2) := by decide +kernel
theorem ni_dX4_init_143 : decode cX4_init 143 = .ok (.invokespecial 45, 3) := by decide +kernel
theorem ni_dX4_init_146 : decode cX4_init 146 = .ok (.invokespecial 48, 3) := by decide +kernel
theorem ni_dX4_init_149 : decode cX4_init 149 = .ok (.aastore, 1) := by decide +kernel
theorem ni_dX4_init_150 : decode cX4_init 150 = .ok (.iinc 1 1, 3) := by decide +kernel
theorem ni_dX4_init_153 : decode cX4_init 153 = .ok (.goto (-40), 3) := by decide +kernel
theorem ni_dX4_init_156 : decode cX4_init 156 = .ok (.return_, 1) := by decide +kernel
theorem ni_dX4_lettersOnTheirWay_0 : decode cX4_lettersOnTheirWay 0 = .ok (.iconst 0, 1) := by decide +kernel
theorem ni_dX4_lettersOnTheirWay_1 : decode cX4_lettersOnTheirWay 1 = .ok (.istore_n 1, 1) := by decide +kernel
theorem ni_dX4_lettersOnTheirWay_2 : decode cX4_lettersOnTheirWay 2 = .ok (.iconst 0, 1) := by decide +kernel
theorem ni_dX4_lettersOnTheirWay_3 : decode cX4_lettersOnTheirWay 3 = .ok (.istore_n 2, 1) := by decide +kernel
theorem ni_dX4_lettersOnTheirWay_4 : decode cX4_lettersOnTheirWay 4 = .ok (.iload_n 2, 1) := by decide +kernel
theorem ni_dX4_lettersOnTheirWay_5 : decode cX4_lettersOnTheirWay 5 = .ok (.aload_n 0, 1) := by decide +kernel
theorem ni_dX4_lettersOnTheirWay_6 : decode cX4_lettersOnTheirWay 6 = .ok (.getfield 55, 3) := by decide +kernel
theorem ni_dX4_lettersOnTheirWay_9 : decode cX4_lettersOnTheirWay 9 = .ok (.if_icmp .ge 43, 3) := by decide +kernel
theorem ni_dX4_lettersOnTheirWay_52 : decode cX4_lettersOnTheirWay 52 = .ok (.iload_n 1, 1) := by decide +kernel
theorem ni_dX4_lettersOnTheirWay_53 : decode cX4_lettersOnTheirWay 53 = .ok (.ireturn, 1) := by decide +kernel
theorem ni_dX4_newRouter_0 : decode cX4_newRouter 0 = .ok (.aload_n 0, 1) := by decide +kernel
theorem ni_dX4_newRouter_1 : decode cX4_newRouter 1 = .ok (.dup, 1) := by decide +kernel
theorem ni_dX4_newRouter_2 : decode cX4_newRouter 2 = .ok (.getfield 51, 3) := by decide +kernel
theorem ni_dX4_newRouter_5 : decode cX4_newRouter 5 = .ok (.iconst 1, 1) := by decide +kernel
theorem ni_dX4_newRouter_6 : decode cX4_newRouter 6 = .ok (.iadd, 1) := by decide +kernel
theorem ni_dX4_newRouter_7 : decode cX4_newRouter 7 = .ok (.putfield 51, 3) := by decide +kernel
theorem ni_dX4_newRouter_10 : decode cX4_newRouter 10 = .ok (.aload_n 0, 1) := by decide +kernel
theorem ni_dX4_newRouter_11 : decode cX4_newRouter 11 = .ok (.getfield 51, 3) := by decide +kernel
theorem ni_dX4_newRouter_14 : decode cX4_newRouter 14 = .ok (.iconst 1, 1) := by decide +kernel
theorem ni_dX4_newRouter_15 : decode cX4_newRouter 15 = .ok (.isub, 1) := by decide +kernel
theorem ni_dX4_newRouter_16 : decode cX4_newRouter 16 = .ok (.ireturn, 1) := by decide +kernel
theorem ni_dX4_tick_0 : decode cX4_tick 0 = .ok (.iconst 0, 1) := by decide +kernel
theorem ni_dX4_tick_1 : decode cX4_tick 1 = .ok (.istore_n 1, 1) := by decide +kernel
theorem ni_dX4_tick_2 : decode cX4_tick 2 = .ok (.iload_n 1, 1) := by decide +kernel
theorem ni_dX4_tick_3 : decode cX4_tick 3 = .ok (.aload_n 0, 1) := by decide +kernel
theorem ni_dX4_tick_4 : decode cX4_tick 4 = .ok (.getfield 55, 3) := by decide +kernel
theorem ni_dX4_tick_7 : decode cX4_tick 7 = .ok (.if_icmp .ge 61, 3) := by decide +kernel
theorem ni_dX4_tick_68 : decode cX4_tick 68 = .ok (.iconst 0, 1) := by decide +kernel
theorem ni_dX4_tick_69 : decode cX4_tick 69 = .ok (.istore_n 1, 1) := by decide +kernel
theorem ni_dX4_tick_70 : decode cX4_tick 70 = .ok (.iload_n 1, 1) := by decide +kernel
theorem ni_dX4_tick_71 : decode cX4_tick 71 = .ok (.aload_n 0, 1) := by decide +kernel
theorem ni_dX4_tick_72 : decode cX4_tick 72 = .ok (.getfield 55, 3) := by decide +kernel
theorem ni_dX4_tick_75 : decode cX4_tick 75 = .ok (.if_icmp .ge 73, 3) := by decide +kernel
theorem ni_dX4_tick_148 : decode cX4_tick 148 = .ok (.iconst 0, 1) := by decide +kernel
theorem ni_dX4_tick_149 : decode cX4_tick 149 = .ok (.istore_n 1, 1) := by decide +kernel
theorem ni_dX4_tick_150 : decode cX4_tick 150 = .ok (.iload_n 1, 1) := by decide +kernel
theorem ni_dX4_tick_151 : decode cX4_tick 151 = .ok (.aload_n 0, 1) := by decide +kernel
theorem ni_dX4_tick_152 : decode cX4_tick 152 = .ok (.getfield 116, 3) := by decide +kernel
theorem ni_dX4_tick_155 : decode cX4_tick 155 = .ok (.if_icmp .ge 14, 3) := by decide +kernel
theorem ni_dX4_tick_169 : decode cX4_tick 169 = .ok (.iconst 0, 1) := by decide +kernel
theorem ni_dX4_tick_170 : decode cX4_tick 170 = .ok (.istore_n 1, 1) := by decide +kernel
theorem ni_dX4_tick_171 : decode cX4_tick 171 = .ok (.iload_n 1, 1) := by decide +kernel
theorem ni_dX4_tick_172 : decode cX4_tick 172 = .ok (.aload_n 0, 1) := by decide +kernel
theorem ni_dX4_tick_173 : decode cX4_tick 173 = .ok (.getfield 51, 3) := by decide +kernel
theorem ni_dX4_tick_176 : decode cX4_tick 176 = .ok (.if_icmp .ge 30, 3) := by decide +kernel
theorem ni_dX4_tick_206 : decode cX4_tick 206 = .ok (.iconst 0, 1) := by decide +kernel
theorem ni_dX4_tick_207 : decode cX4_tick 207 = .ok (.istore_n 1, 1) := by decide +kernel
theorem ni_dX4_tick_208 : decode cX4_tick 208 = .ok (.iload_n 1, 1) := by decide +kernel
theorem ni_dX4_tick_209 : decode cX4_tick 209 = .ok (.aload_n 0, 1) := by decide +kernel
theorem ni_dX4_tick_210 : decode cX4_tick 210 = .ok (.getfield 55, 3) := by decide +kernel
theorem ni_dX4_tick_213 : decode cX4_tick 213 = .ok (.if_icmp .ge 79, 3) := by decide +kernel
theorem ni_dX4_tick_292 : decode cX4_tick 292 = .ok (.aload_n 0, 1) := by decide +kernel
theorem ni_dX4_tick_293 : decode cX4_tick 293 = .ok (.dup, 1) := by decide +kernel
theorem ni_dX4_tick_294 : decode cX4_tick 294 = .ok (.getfield 166, 3) := by decide +kernel
theorem ni_dX4_tick_297 : decode cX4_tick 297 = .ok (.iconst 1, 1) := by decide +kernel
theorem ni_dX4_tick_298 : decode cX4_tick 298 = .ok (.iadd, 1) := by decide +kernel
theorem ni_dX4_tick_299 : decode cX4_tick 299 = .ok (.putfield 166, 3) := by decide +kernel
theorem ni_dX4_tick_302 : decode cX4_tick 302 = .ok (.return_, 1) := by decide +kernel
theorem ni_dX6_init_0 : decode cX6_init 0 = .ok (.aload_n 0, 1) := by decide +kernel
theorem ni_dX6_init_1 : decode cX6_init 1 = .ok (.invokespecial 3, 3) := by decide +kernel
theorem ni_dX6_init_4 : decode cX6_init 4 = .ok (.aload_n 0, 1) := by decide +kernel
theorem ni_dX6_init_5 : decode cX6_init 5 = .ok (.new 9, 3) := by decide +kernel
theorem ni_dX6_init_8 : decode cX6_init 8 = .ok (.dup, 1) := by decide +kernel
theorem ni_dX6_init_9 : decode cX6_init 9 = .ok (.invokespecial 11, 3) := by decide +kernel
theorem ni_dX6_init_12 : decode cX6_init 12 = .ok (.putfield 12, 3) := by decide +kernel
theorem ni_dX6_init_15 : decode cX6_init 15 = .ok (.aload_n 0, 1) := by decide +kernel
theorem ni_dX6_init_16 : decode cX6_init 16 = .ok (.iconst 0, 1) := by decide +kernel
theorem ni_dX6_init_17 : decode cX6_init 17 = .ok (.putfield 18, 3) := by decide +kernel
theorem ni_dX6_init_20 : decode cX6_init 20 = .ok (.aload_n 0, 1) := by decide +kernel
theorem ni_dX6_init_21 : decode cX6_init 21 = .ok (.sipush 2000, 3) := by decide +kernel
theorem ni_dX6_init_24 : decode cX6_init 24 = .ok (.putfield 22, 3) := by decide +kernel
theorem ni_dX6_init_27 : decode cX6_init 27 = .ok (.aload_n 0, 1) := by decide +kernel
theorem ni_dX6_init_28 : decode cX6_init 28 = .ok (.iconst 4, 1) := by decide +kernel
theorem ni_dX6_init_29 : decode cX6_init 29 = .ok (.newarray .int, 2) := by decide +kernel
theorem ni_dX6_init_31 : decode cX6_init 31 = .ok (.putfield 25, 3) := by decide +kernel
theorem ni_dX6_init_34 : decode cX6_init 34 = .ok (.aload_n 0, 1) := by decide +kernel
theorem ni_dX6_init_35 : decode cX6_init 35 = .ok (.iconst 4, 1) := by decide +kernel
theorem ni_dX6_init_36 : decode cX6_init 36 = .ok (.newarray .int, 2) := by decide +kernel
theorem ni_dX6_init_38 : decode cX6_init 38 = .ok (.putfield 29, 3) := by decide +kernel
theorem ni_dX6_init_41 : decode cX6_init 41 = .ok (.aload_n 0, 1) := by decide +kernel
theorem ni_dX6_init_42 : decode cX6_init 42 = .ok (.sipush 250, 3) := by decide +kernel
theorem ni_dX6_init_45 : decode cX6_init 45 = .ok (.newarray .int, 2) := by decide +kernel
theorem ni_dX6_init_47 : decode cX6_init 47 = .ok (.putfield 32, 3) := by decide +kernel
theorem ni_dX6_init_50 : decode cX6_init 50 = .ok (.aload_n 0, 1) := by decide +kernel
theorem ni_dX6_init_51 : decode cX6_init 51 = .ok (.iconst (-1), 1) := by decide +kernel
theorem ni_dX6_init_52 : decode cX6_init 52 = .ok (.putfield 35, 3) := by decide +kernel
theorem ni_dX6_init_55 : decode cX6_init 55 = .ok (.iconst 0, 1) := by decide +kernel
theorem ni_dX6_init_56 : decode cX6_init 56 = .ok (.istore_n 1, 1) := by decide +kernel
theorem ni_dX6_init_57 : decode cX6_init 57 = .ok (.iload_n 1, 1) := by decide +kernel
theorem ni_dX6_init_58 : decode cX6_init 58 = .ok (.iconst 4, 1) := by decide +kernel
theorem ni_dX6_init_59 : decode cX6_init 59 = .ok (.if_icmp .ge 16, 3) := by decide +kernel
theorem ni_dX6_init_62 : decode cX6_init 62 = .ok (.aload_n 0, 1) := by decide +kernel
theorem ni_dX6_init_63 : decode cX6_init 63 = .ok (.getfield 25, 3) := by decide +kernel
theorem ni_dX6_init_66 : decode cX6_init 66 = .ok (.iload_n 1, 1) := by decide +kernel
theorem ni_dX6_init_67 : decode cX6_init 67 = .ok (.iconst 1, 1) := by decide +kernel
theorem ni_dX6_init_68 : decode cX6_init 68 = .ok (.iastore, 1) := by decide +kernel
theorem ni_dX6_init_69 : decode cX6_init 69 = .ok (.iinc 1 1, 3) := by decide +kernel
theorem ni_dX6_init_72 : decode cX6_init 72 = .ok (.goto (-15), 3) := by decide +kernel
theorem ni_dX6_init_75 : decode cX6_init 75 = .ok (.return_, 1) := by decide +kernel
theorem ni_dX8_init_0 : decode cX8_init 0 = .ok (.aload_n 0, 1) := by decide +kernel
theorem ni_dX8_init_1 : decode cX8_init 1 = .ok (.invokespecial 3, 3) := by decide +kernel
theorem ni_dX8_init_4 : decode cX8_init 4 = .ok (.aload_n 0, 1) := by decide +kernel
theorem ni_dX8_init_5 : decode cX8_init 5 = .ok (.iload_n 1, 1) := by decide +kernel
theorem ni_dX8_init_6 : decode cX8_init 6 = .ok (.newarray .int, 2) := by decide +kernel
theorem ni_dX8_init_8 : decode cX8_init 8 = .ok (.putfield 9, 3) := by decide +kernel
theorem ni_dX8_init_11 : decode cX8_init 11 = .ok (.aload_n 0, 1) := by decide +kernel
theorem ni_dX8_init_12 : decode cX8_init 12 = .ok (.iload_n 1, 1) := by decide +kernel
theorem ni_dX8_init_13 : decode cX8_init 13 = .ok (.newarray .int, 2) := by decide +kernel
theorem ni_dX8_init_15 : decode cX8_init 15 = .ok (.putfield 15, 3) := by decide +kernel
theorem ni_dX8_init_18 : decode cX8_init 18 = .ok (.aload_n 0, 1) := by decide +kernel
theorem ni_dX8_init_19 : decode cX8_init 19 = .ok (.iload_n 1, 1) := by decide +kernel
theorem ni_dX8_init_20 : decode cX8_init 20 = .ok (.newarray .int, 2) := by decide +kernel
theorem ni_dX8_init_22 : decode cX8_init 22 = .ok (.putfield 18, 3) := by decide +kernel
theorem ni_dX8_init_25 : decode cX8_init 25 = .ok (.return_, 1) := by decide +kernel
theorem ni_dX9_init_0 : decode cX9_init 0 = .ok (.aload_n 0, 1) := by decide +kernel
theorem ni_dX9_init_1 : decode cX9_init 1 = .ok (.invokespecial 3, 3) := by decide +kernel
theorem ni_dX9_init_4 : decode cX9_init 4 = .ok (.aload_n 0, 1) := by decide +kernel
theorem ni_dX9_init_5 : decode cX9_init 5 = .ok (.bipush 8, 2) := by decide +kernel
theorem ni_dX9_init_7 : decode cX9_init 7 = .ok (.anewarray 9, 3) := by decide +kernel
theorem ni_dX9_init_10 : decode cX9_init 10 = .ok (.putfield 11, 3) := by decide +kernel
theorem ni_dX9_init_13 : decode cX9_init 13 = .ok (.aload_n 0, 1) := by decide +kernel
theorem ni_dX9_init_14 : decode cX9_init 14 = .ok (.bipush 8, 2) := by decide +kernel
theorem ni_dX9_init_16 : decode cX9_init 16 = .ok (.newarray .int, 2) := by decide +kernel
theorem ni_dX9_init_18 : decode cX9_init 18 = .ok (.putfield 17, 3) := by decide +kernel
theorem ni_dX9_init_21 : decode cX9_init 21 = .ok (.aload_n 0, 1) := by decide +kernel
theorem ni_dX9_init_22 : decode cX9_init 22 = .ok (.bipush 8, 2) := by decide +kernel
theorem ni_dX9_init_24 : decode cX9_init 24 = .ok (.newarray .int, 2) := by decide +kernel
theorem ni_dX9_init_26 : decode cX9_init 26 = .ok (.putfield 21, 3) := by decide +kernel
theorem ni_dX9_init_29 : decode cX9_init 29 = .ok (.aload_n 0, 1) := by decide +kernel
theorem ni_dX9_init_30 : decode cX9_init 30 = .ok (.new 24, 3) := by decide +kernel
theorem ni_dX9_init_33 : decode cX9_init 33 = .ok (.dup, 1) := by decide +kernel
theorem ni_dX9_init_34 : decode cX9_init 34 = .ok (.invokespecial 26, 3) := by decide +kernel
theorem ni_dX9_init_37 : decode cX9_init 37 = .ok (.putfield 27, 3) := by decide +kernel
theorem ni_dX9_init_40 : decode cX9_init 40 = .ok (.aload_n 0, 1) := by decide +kernel
theorem ni_dX9_init_41 : decode cX9_init 41 = .ok (.iconst 1, 1) := by decide +kernel
theorem ni_dX9_init_42 : decode cX9_init 42 = .ok (.putfield 31, 3) := by decide +kernel
theorem ni_dX9_init_45 : decode cX9_init 45 = .ok (.aload_n 0, 1) := by decide +kernel
theorem ni_dX9_init_46 : decode cX9_init 46 = .ok (.iload_n 1, 1) := by decide +kernel
theorem ni_dX9_init_47 : decode cX9_init 47 = .ok (.putfield 35, 3) := by decide +kernel
theorem ni_dX9_init_50 : decode cX9_init 50 = .ok (.iconst 0, 1) := by decide +kernel
theorem ni_dX9_init_51 : decode cX9_init 51 = .ok (.istore_n 3, 1) := by decide +kernel
theorem ni_dX9_init_52 : decode cX9_init 52 = .ok (.iload_n 3, 1) := by decide +kernel
theorem ni_dX9_init_53 : decode cX9_init 53 = .ok (.bipush 8, 2) := by decide +kernel
theorem ni_dX9_init_55 : decode cX9_init 55 = .ok (.if_icmp .ge 32, 3) := by decide +kernel
theorem ni_dX9_init_58 : decode cX9_init 58 = .ok (.aload_n 0, 1) := by decide +kernel
theorem ni_dX9_init_59 : decode cX9_init 59 = .ok (.getfield 11, 3) := by decide +kernel
theorem ni_dX9_init_62 : decode cX9_init 62 = .ok (.iload_n 3, 1) := by decide +kernel
theorem ni_dX9_init_63 : decode cX9_init 63 = .ok (.aload_n 2, 1) := by decide +kernel
theorem ni_dX9_init_64 : decode cX9_init 64 = .ok (.aastore, 1) := by decide +kernel
theorem ni_dX9_init_65 : decode cX9_init 65 = .ok (.aload_n 0, 1) := by decide +kernel
theorem ni_dX9_init_66 : decode cX9_init 66 = .ok (.getfield 17, 3) := by decide +kernel
theorem ni_dX9_init_69 : decode cX9_init 69 = .ok (.iload_n 3, 1) := by decide +kernel
theorem ni_dX9_init_70 : decode cX9_init 70 = .ok (.iload_n 3, 1) := by decide +kernel
theorem ni_dX9_init_71 : decode cX9_init 71 = .ok (.iload_n 1, 1) := by decide +kernel
theorem ni_dX9_init_72 : decode cX9_init 72 = .ok (.if_icmp .ne 7, 3) := by decide +kernel
theorem ni_dX9_init_75 : decode cX9_init 75 = .ok (.iconst 0, 1) := by decide +kernel
theorem ni_dX9_init_76 : decode cX9_init 76 = .ok (.goto 4, 3) := by decide +kernel
theorem ni_dX9_init_79 : decode cX9_init 79 = .ok (.iconst (-1), 1) := by decide +kernel
theorem ni_dX9_init_80 : decode cX9_init 80 = .ok (.iastore, 1) := by decide +kernel
theorem ni_dX9_init_81 : decode cX9_init 81 = .ok (.iinc 3 1, 3) := by decide +kernel
theorem ni_dX9_init_84 : decode cX9_init 84 = .ok (.goto (-32), 3) := by decide +kernel
theorem ni_dX9_init_87 : decode cX9_init 87 = .ok (.return_, 1) := by decide +kernel
theorem ni_dX10_init_0 : decode cX10_init 0 = .ok (.aload_n 0, 1) := by decide +kernel
theorem ni_dX10_init_1 : decode cX10_init 1 = .ok (.invokespecial 3, 3) := by decide +kernel
theorem ni_dX10_init_4 : decode cX10_init 4 = .ok (.aload_n 0, 1) := by decide +kernel
theorem ni_dX10_init_5 : decode cX10_init 5 = .ok (.sipush 216, 3) := by decide +kernel
theorem ni_dX10_init_8 : decode cX10_init 8 = .ok (.newarray .int, 2) := by decide +kernel
theorem ni_dX10_init_10 : decode cX10_init 10 = .ok (.putfield 11, 3) := by decide +kernel
theorem ni_dX10_init_13 : decode cX10_init 13 = .ok (.aload_n 0, 1) := by decide +kernel
theorem ni_dX10_init_14 : decode cX10_init 14 = .ok (.sipush 216, 3) := by decide +kernel
theorem ni_dX10_init_17 : decode cX10_init 17 = .ok (.newarray .int, 2) := by decide +kernel
theorem ni_dX10_init_19 : decode cX10_init 19 = .ok (.putfield 15, 3) := by decide +kernel
theorem ni_dX10_init_22 : decode cX10_init 22 = .ok (.aload_n 0, 1) := by decide +kernel
theorem ni_dX10_init_23 : decode cX10_init 23 = .ok (.sipush 216, 3) := by decide +kernel
theorem ni_dX10_init_26 : decode cX10_init 26 = .ok (.newarray .int, 2) := by decide +kernel
theorem ni_dX10_init_28 : decode cX10_init 28 = .ok (.putfield 18, 3) := by decide +kernel
theorem ni_dX10_init_31 : decode cX10_init 31 = .ok (.return_, 1) := by decide +kernel
theorem ni_dL_addFlow_0 : decode cL_addFlow 0 = .ok (.aload 5, 2) := by decide +kernel
theorem ni_dL_addFlow_2 : decode cL_addFlow 2 = .ok (.iconst 0, 1) := by decide +kernel
theorem ni_dL_addFlow_3 : decode cL_addFlow 3 = .ok (.aload_n 0, 1) := by decide +kernel
theorem ni_dL_addFlow_4 : decode cL_addFlow 4 = .ok (.iload_n 1, 1) := by decide +kernel
theorem ni_dL_addFlow_5 : decode cL_addFlow 5 = .ok (.iload_n 2, 1) := by decide +kernel
theorem ni_dL_addFlow_6 : decode cL_addFlow 6 = .ok (.iload_n 3, 1) := by decide +kernel
theorem ni_dL_addFlow_7 : decode cL_addFlow 7 = .ok (.iload 4, 2) := by decide +kernel
theorem ni_dL_addFlow_9 : decode cL_addFlow 9 = .ok (.invokevirtual 54, 3) := by decide +kernel
theorem ni_dL_addFlow_17 : decode cL_addFlow 17 = .ok (.astore 6, 2) := by decide +kernel
theorem ni_dL_addFlow_19 : decode cL_addFlow 19 = .ok (.iconst 1, 1) := by decide +kernel
theorem ni_dL_addFlow_20 : decode cL_addFlow 20 = .ok (.ireturn, 1) := by decide +kernel
theorem ni_dL_addLink_0 : decode cL_addLink 0 = .ok (.aload 6, 2) := by decide +kernel
theorem ni_dL_addLink_2 : decode cL_addLink 2 = .ok (.iconst 0, 1) := by decide +kernel
theorem ni_dL_addLink_3 : decode cL_addLink 3 = .ok (.aload_n 0, 1) := by decide +kernel
theorem ni_dL_addLink_4 : decode cL_addLink 4 = .ok (.iload_n 1, 1) := by decide +kernel
theorem ni_dL_addLink_5 : decode cL_addLink 5 = .ok (.iload_n 2, 1) := by decide +kernel
theorem ni_dL_addLink_6 : decode cL_addLink 6 = .ok (.iload_n 3, 1) := by decide +kernel
theorem ni_dL_addLink_7 : decode cL_addLink 7 = .ok (.iload 4, 2) := by decide +kernel
theorem ni_dL_addLink_9 : decode cL_addLink 9 = .ok (.iload 5, 2) := by decide +kernel
theorem ni_dL_addLink_11 : decode cL_addLink 11 = .ok (.invokevirtual 15, 3) := by decide +kernel
theorem ni_dL_addLink_19 : decode cL_addLink 19 = .ok (.astore 7, 2) := by decide +kernel
theorem ni_dL_addLink_21 : decode cL_addLink 21 = .ok (.iconst 1, 1) := by decide +kernel
theorem ni_dL_addLink_22 : decode cL_addLink 22 = .ok (.ireturn, 1) := by decide +kernel
theorem ni_dL_addNetwork_0 : decode cL_addNetwork 0 = .ok (.aload 4, 2) := by decide +kernel
theorem ni_dL_addNetwork_2 : decode cL_addNetwork 2 = .ok (.iconst 0, 1) := by decide +kernel
theorem ni_dL_addNetwork_3 : decode cL_addNetwork 3 = .ok (.aload_n 0, 1) := by decide +kernel
theorem ni_dL_addNetwork_4 : decode cL_addNetwork 4 = .ok (.iload_n 1, 1) := by decide +kernel
theorem ni_dL_addNetwork_5 : decode cL_addNetwork 5 = .ok (.iload_n 2, 1) := by decide +kernel
theorem ni_dL_addNetwork_6 : decode cL_addNetwork 6 = .ok (.iload_n 3, 1) := by decide +kernel
theorem ni_dL_addNetwork_7 : decode cL_addNetwork 7 = .ok (.invokevirtual 31, 3) := by decide +kernel
theorem ni_dL_addNetwork_15 : decode cL_addNetwork 15 = .ok (.astore 5, 2) := by decide +kernel
