theorem ni_dL_addNetwork_17 : decode cL_addNetwork 17 = .ok (.iconst 1, 1) := by decide +kernel
theorem ni_dL_addNetwork_18 : decode cL_addNetwork 18 = .ok (.ireturn, 1) := by decide +kernel
theorem ni_dL_addRouter_0 : decode cL_addRouter 0 = .ok (.aload_n 1, 1) := by decide +kernel
theorem ni_dL_addRouter_1 : decode cL_addRouter 1 = .ok (.iconst 0, 1) := by decide +kernel
theorem ni_dL_addRouter_2 : decode cL_addRouter 2 = .ok (.aload_n 0, 1) := by decide +kernel
theorem ni_dL_addRouter_3 : decode cL_addRouter 3 = .ok (.invokevirtual 7, 3) := by decide +kernel
theorem ni_dL_addRouter_6 : decode cL_addRouter 6 = .ok (.i2l, 1) := by decide +kernel
theorem ni_dL_addRouter_7 : decode cL_addRouter 7 = .ok (.lastore, 1) := by decide +kernel
theorem ni_dL_addRouter_8 : decode cL_addRouter 8 = .ok (.goto 6, 3) := by decide +kernel
theorem ni_dL_addRouter_11 : decode cL_addRouter 11 = .ok (.astore_n 2, 1) := by decide +kernel
theorem ni_dL_addRouter_14 : decode cL_addRouter 14 = .ok (.iconst 0, 1) := by decide +kernel
theorem ni_dL_addRouter_15 : decode cL_addRouter 15 = .ok (.ireturn, 1) := by decide +kernel
theorem ni_dL_addStatic_0 : decode cL_addStatic 0 = .ok (.aload 5, 2) := by decide +kernel
theorem ni_dL_addStatic_2 : decode cL_addStatic 2 = .ok (.iconst 0, 1) := by decide +kernel
theorem ni_dL_addStatic_3 : decode cL_addStatic 3 = .ok (.aload_n 0, 1) := by decide +kernel
theorem ni_dL_addStatic_4 : decode cL_addStatic 4 = .ok (.iload_n 1, 1) := by decide +kernel
theorem ni_dL_addStatic_5 : decode cL_addStatic 5 = .ok (.iload_n 2, 1) := by decide +kernel
theorem ni_dL_addStatic_6 : decode cL_addStatic 6 = .ok (.iload_n 3, 1) := by decide +kernel
theorem ni_dL_addStatic_7 : decode cL_addStatic 7 = .ok (.iload 4, 2) := by decide +kernel
theorem ni_dL_addStatic_9 : decode cL_addStatic 9 = .ok (.invokevirtual 39, 3) := by decide +kernel
theorem ni_dL_addStatic_17 : decode cL_addStatic 17 = .ok (.astore 6, 2) := by decide +kernel
theorem ni_dL_addStatic_19 : decode cL_addStatic 19 = .ok (.iconst 1, 1) := by decide +kernel
theorem ni_dL_addStatic_20 : decode cL_addStatic 20 = .ok (.ireturn, 1) := by decide +kernel
theorem ni_dL_deficit_0 : decode cL_deficit 0 = .ok (.aload 4, 2) := by decide +kernel
theorem ni_dL_deficit_2 : decode cL_deficit 2 = .ok (.iconst 0, 1) := by decide +kernel
theorem ni_dL_deficit_3 : decode cL_deficit 3 = .ok (.aload_n 0, 1) := by decide +kernel
theorem ni_dL_deficit_4 : decode cL_deficit 4 = .ok (.iload_n 1, 1) := by decide +kernel
theorem ni_dL_deficit_5 : decode cL_deficit 5 = .ok (.iload_n 2, 1) := by decide +kernel
theorem ni_dL_deficit_6 : decode cL_deficit 6 = .ok (.iload_n 3, 1) := by decide +kernel
theorem ni_dL_deficit_7 : decode cL_deficit 7 = .ok (.invokevirtual 114, 3) := by decide +kernel
theorem ni_dL_deficit_15 : decode cL_deficit 15 = .ok (.astore 5, 2) := by decide +kernel
theorem ni_dL_deficit_17 : decode cL_deficit 17 = .ok (.iconst 1, 1) := by decide +kernel
theorem ni_dL_deficit_18 : decode cL_deficit 18 = .ok (.ireturn, 1) := by decide +kernel
theorem ni_dL_delivered_0 : decode cL_delivered 0 = .ok (.aload_n 2, 1) := by decide +kernel
theorem ni_dL_delivered_1 : decode cL_delivered 1 = .ok (.iconst 0, 1) := by decide +kernel
theorem ni_dL_delivered_2 : decode cL_delivered 2 = .ok (.aload_n 0, 1) := by decide +kernel
theorem ni_dL_delivered_3 : decode cL_delivered 3 = .ok (.iload_n 1, 1) := by decide +kernel
theorem ni_dL_delivered_4 : decode cL_delivered 4 = .ok (.invokevirtual 129, 3) := by decide +kernel
theorem ni_dL_delivered_12 : decode cL_delivered 12 = .ok (.astore_n 3, 1) := by decide +kernel
theorem ni_dL_delivered_13 : decode cL_delivered 13 = .ok (.iconst 1, 1) := by decide +kernel
theorem ni_dL_delivered_14 : decode cL_delivered 14 = .ok (.ireturn, 1) := by decide +kernel
theorem ni_dL_deliveredIn_0 : decode cL_deliveredIn 0 = .ok (.aload_n 3, 1) := by decide +kernel
theorem ni_dL_deliveredIn_1 : decode cL_deliveredIn 1 = .ok (.iconst 0, 1) := by decide +kernel
theorem ni_dL_deliveredIn_2 : decode cL_deliveredIn 2 = .ok (.aload_n 0, 1) := by decide +kernel
theorem ni_dL_deliveredIn_3 : decode cL_deliveredIn 3 = .ok (.iload_n 1, 1) := by decide +kernel
theorem ni_dL_deliveredIn_4 : decode cL_deliveredIn 4 = .ok (.iload_n 2, 1) := by decide +kernel
theorem ni_dL_deliveredIn_5 : decode cL_deliveredIn 5 = .ok (.invokevirtual 145, 3) := by decide +kernel
theorem ni_dL_deliveredIn_13 : decode cL_deliveredIn 13 = .ok (.astore 4, 2) := by decide +kernel
theorem ni_dL_deliveredIn_15 : decode cL_deliveredIn 15 = .ok (.iconst 1, 1) := by decide +kernel
theorem ni_dL_deliveredIn_16 : decode cL_deliveredIn 16 = .ok (.ireturn, 1) := by decide +kernel
theorem ni_dL_distance_0 : decode cL_distance 0 = .ok (.aload_n 3, 1) := by decide +kernel
theorem ni_dL_distance_1 : decode cL_distance 1 = .ok (.iconst 0, 1) := by decide +kernel
theorem ni_dL_distance_2 : decode cL_distance 2 = .ok (.aload_n 0, 1) := by decide +kernel
theorem ni_dL_distance_3 : decode cL_distance 3 = .ok (.iload_n 1, 1) := by decide +kernel
theorem ni_dL_distance_4 : decode cL_distance 4 = .ok (.iload_n 2, 1) := by decide +kernel
theorem ni_dL_distance_5 : decode cL_distance 5 = .ok (.invokevirtual 73, 3) := by decide +kernel
theorem ni_dL_distance_13 : decode cL_distance 13 = .ok (.astore 4, 2) := by decide +kernel
theorem ni_dL_distance_15 : decode cL_distance 15 = .ok (.iconst 1, 1) := by decide +kernel
theorem ni_dL_distance_16 : decode cL_distance 16 = .ok (.ireturn, 1) := by decide +kernel
theorem ni_dL_dropNetwork_0 : decode cL_dropNetwork 0 = .ok (.aload_n 2, 1) := by decide +kernel
theorem ni_dL_dropNetwork_1 : decode cL_dropNetwork 1 = .ok (.iconst 0, 1) := by decide +kernel
theorem ni_dL_dropNetwork_2 : decode cL_dropNetwork 2 = .ok (.aload_n 0, 1) := by decide +kernel
theorem ni_dL_dropNetwork_3 : decode cL_dropNetwork 3 = .ok (.iload_n 1, 1) := by decide +kernel
theorem ni_dL_dropNetwork_4 : decode cL_dropNetwork 4 = .ok (.invokevirtual 35, 3) := by decide +kernel
theorem ni_dL_dropNetwork_12 : decode cL_dropNetwork 12 = .ok (.astore_n 3, 1) := by decide +kernel
theorem ni_dL_dropNetwork_13 : decode cL_dropNetwork 13 = .ok (.iconst 1, 1) := by decide +kernel
theorem ni_dL_dropNetwork_14 : decode cL_dropNetwork 14 = .ok (.ireturn, 1) := by decide +kernel
theorem ni_dL_dropStatic_0 : decode cL_dropStatic 0 = .ok (.aload_n 2, 1) := by decide +kernel
theorem ni_dL_dropStatic_1 : decode cL_dropStatic 1 = .ok (.iconst 0, 1) := by decide +kernel
theorem ni_dL_dropStatic_2 : decode cL_dropStatic 2 = .ok (.aload_n 0, 1) := by decide +kernel
theorem ni_dL_dropStatic_3 : decode cL_dropStatic 3 = .ok (.iload_n 1, 1) := by decide +kernel
theorem ni_dL_dropStatic_4 : decode cL_dropStatic 4 = .ok (.invokevirtual 43, 3) := by decide +kernel
theorem ni_dL_dropStatic_12 : decode cL_dropStatic 12 = .ok (.astore_n 3, 1) := by decide +kernel
theorem ni_dL_dropStatic_13 : decode cL_dropStatic 13 = .ok (.iconst 1, 1) := by decide +kernel
theorem ni_dL_dropStatic_14 : decode cL_dropStatic 14 = .ok (.ireturn, 1) := by decide +kernel
theorem ni_dL_dropped_0 : decode cL_dropped 0 = .ok (.aload_n 3, 1) := by decide +kernel
theorem ni_dL_dropped_1 : decode cL_dropped 1 = .ok (.iconst 0, 1) := by decide +kernel
theorem ni_dL_dropped_2 : decode cL_dropped 2 = .ok (.aload_n 0, 1) := by decide +kernel
theorem ni_dL_dropped_3 : decode cL_dropped 3 = .ok (.iload_n 1, 1) := by decide +kernel
theorem ni_dL_dropped_4 : decode cL_dropped 4 = .ok (.iload_n 2, 1) := by decide +kernel
theorem ni_dL_dropped_5 : decode cL_dropped 5 = .ok (.invokevirtual 132, 3) := by decide +kernel
theorem ni_dL_dropped_13 : decode cL_dropped 13 = .ok (.astore 4, 2) := by decide +kernel
theorem ni_dL_dropped_15 : decode cL_dropped 15 = .ok (.iconst 1, 1) := by decide +kernel
theorem ni_dL_dropped_16 : decode cL_dropped 16 = .ok (.ireturn, 1) := by decide +kernel
theorem ni_dL_entries_0 : decode cL_entries 0 = .ok (.aload_n 2, 1) := by decide +kernel
theorem ni_dL_entries_1 : decode cL_entries 1 = .ok (.iconst 0, 1) := by decide +kernel
theorem ni_dL_entries_2 : decode cL_entries 2 = .ok (.aload_n 0, 1) := by decide +kernel
theorem ni_dL_entries_3 : decode cL_entries 3 = .ok (.iload_n 1, 1) := by decide +kernel
theorem ni_dL_entries_4 : decode cL_entries 4 = .ok (.invokevirtual 79, 3) := by decide +kernel
theorem ni_dL_entries_12 : decode cL_entries 12 = .ok (.astore_n 3, 1) := by decide +kernel
theorem ni_dL_entries_13 : decode cL_entries 13 = .ok (.iconst 1, 1) := by decide +kernel
theorem ni_dL_entries_14 : decode cL_entries 14 = .ok (.ireturn, 1) := by decide +kernel
theorem ni_dL_firstLinks_0 : decode cL_firstLinks 0 = .ok (.aload_n 3, 1) := by decide +kernel
theorem ni_dL_firstLinks_1 : decode cL_firstLinks 1 = .ok (.iconst 0, 1) := by decide +kernel
theorem ni_dL_firstLinks_2 : decode cL_firstLinks 2 = .ok (.aload_n 0, 1) := by decide +kernel
theorem ni_dL_firstLinks_3 : decode cL_firstLinks 3 = .ok (.iload_n 1, 1) := by decide +kernel
theorem ni_dL_firstLinks_4 : decode cL_firstLinks 4 = .ok (.iload_n 2, 1) := by decide +kernel
theorem ni_dL_firstLinks_5 : decode cL_firstLinks 5 = .ok (.invokevirtual 76, 3) := by decide +kernel
theorem ni_dL_firstLinks_13 : decode cL_firstLinks 13 = .ok (.astore 4, 2) := by decide +kernel
theorem ni_dL_firstLinks_15 : decode cL_firstLinks 15 = .ok (.iconst 1, 1) := by decide +kernel
theorem ni_dL_firstLinks_16 : decode cL_firstLinks 16 = .ok (.ireturn, 1) := by decide +kernel
theorem ni_dL_found_0 : decode cL_found 0 = .ok (.aload_n 3, 1) := by decide +kernel
theorem ni_dL_found_1 : decode cL_found 1 = .ok (.iconst 0, 1) := by decide +kernel
theorem ni_dL_found_2 : decode cL_found 2 = .ok (.aload_n 0, 1) := by decide +kernel
theorem ni_dL_found_3 : decode cL_found 3 = .ok (.iload_n 1, 1) := by decide +kernel
theorem ni_dL_found_4 : decode cL_found 4 = .ok (.iload_n 2, 1) := by decide +kernel
theorem ni_dL_found_5 : decode cL_found 5 = .ok (.invokevirtual 91, 3) := by decide +kernel
theorem ni_dL_found_13 : decode cL_found 13 = .ok (.astore 4, 2) := by decide +kernel
theorem ni_dL_found_15 : decode cL_found 15 = .ok (.iconst 1, 1) := by decide +kernel
theorem ni_dL_found_16 : decode cL_found 16 = .ok (.ireturn, 1) := by decide +kernel
theorem ni_dL_isUp_0 : decode cL_isUp 0 = .ok (.aload_n 2, 1) := by decide +kernel
theorem ni_dL_isUp_1 : decode cL_isUp 1 = .ok (.iconst 0, 1) := by decide +kernel
theorem ni_dL_isUp_2 : decode cL_isUp 2 = .ok (.aload_n 0, 1) := by decide +kernel
theorem ni_dL_isUp_3 : decode cL_isUp 3 = .ok (.iload_n 1, 1) := by decide +kernel
theorem ni_dL_isUp_4 : decode cL_isUp 4 = .ok (.invokevirtual 66, 3) := by decide +kernel
theorem ni_dL_isUp_19 : decode cL_isUp 19 = .ok (.astore_n 3, 1) := by decide +kernel
theorem ni_dL_isUp_20 : decode cL_isUp 20 = .ok (.iconst 1, 1) := by decide +kernel
theorem ni_dL_isUp_21 : decode cL_isUp 21 = .ok (.ireturn, 1) := by decide +kernel
theorem ni_dL_latest_0 : decode cL_latest 0 = .ok (.aload_n 2, 1) := by decide +kernel
theorem ni_dL_latest_1 : decode cL_latest 1 = .ok (.iconst 0, 1) := by decide +kernel
theorem ni_dL_latest_2 : decode cL_latest 2 = .ok (.aload_n 0, 1) := by decide +kernel
theorem ni_dL_latest_3 : decode cL_latest 3 = .ok (.iload_n 1, 1) := by decide +kernel
theorem ni_dL_latest_4 : decode cL_latest 4 = .ok (.invokevirtual 135, 3) := by decide +kernel
theorem ni_dL_latest_12 : decode cL_latest 12 = .ok (.astore_n 3, 1) := by decide +kernel
theorem ni_dL_latest_13 : decode cL_latest 13 = .ok (.iconst 1, 1) := by decide +kernel
theorem ni_dL_latest_14 : decode cL_latest 14 = .ok (.ireturn, 1) := by decide +kernel
theorem ni_dL_letterOf_0 : decode cL_letterOf 0 = .ok (.aload_n 3, 1) := by decide +kernel
theorem ni_dL_letterOf_1 : decode cL_letterOf 1 = .ok (.iconst 0, 1) := by decide +kernel
theorem ni_dL_letterOf_2 : decode cL_letterOf 2 = .ok (.aload_n 0, 1) := by decide +kernel
theorem ni_dL_letterOf_3 : decode cL_letterOf 3 = .ok (.iload_n 1, 1) := by decide +kernel
theorem ni_dL_letterOf_4 : decode cL_letterOf 4 = .ok (.iload_n 2, 1) := by decide +kernel
theorem ni_dL_letterOf_5 : decode cL_letterOf 5 = .ok (.invokevirtual 70, 3) := by decide +kernel
theorem ni_dL_letterOf_13 : decode cL_letterOf 13 = .ok (.astore 4, 2) := by decide +kernel
theorem ni_dL_letterOf_15 : decode cL_letterOf 15 = .ok (.iconst 1, 1) := by decide +kernel
theorem ni_dL_letterOf_16 : decode cL_letterOf 16 = .ok (.ireturn, 1) := by decide +kernel
theorem ni_dL_looks_0 : decode cL_looks 0 = .ok (.aload_n 3, 1) := by decide +kernel
theorem ni_dL_looks_1 : decode cL_looks 1 = .ok (.iconst 0, 1) := by decide +kernel
theorem ni_dL_looks_2 : decode cL_looks 2 = .ok (.aload_n 0, 1) := by decide +kernel
theorem ni_dL_looks_3 : decode cL_looks 3 = .ok (.iload_n 1, 1) := by decide +kernel
theorem ni_dL_looks_4 : decode cL_looks 4 = .ok (.iload_n 2, 1) := by decide +kernel
theorem ni_dL_looks_5 : decode cL_looks 5 = .ok (.invokevirtual 88, 3) := by decide +kernel
theorem ni_dL_looks_13 : decode cL_looks 13 = .ok (.astore 4, 2) := by decide +kernel
theorem ni_dL_looks_15 : decode cL_looks 15 = .ok (.iconst 1, 1) := by decide +kernel
theorem ni_dL_looks_16 : decode cL_looks 16 = .ok (.ireturn, 1) := by decide +kernel
theorem ni_dL_meanLate_0 : decode cL_meanLate 0 = .ok (.aload_n 2, 1) := by decide +kernel
theorem ni_dL_meanLate_1 : decode cL_meanLate 1 = .ok (.iconst 0, 1) := by decide +kernel
theorem ni_dL_meanLate_2 : decode cL_meanLate 2 = .ok (.aload_n 0, 1) := by decide +kernel
theorem ni_dL_meanLate_3 : decode cL_meanLate 3 = .ok (.iload_n 1, 1) := by decide +kernel
theorem ni_dL_meanLate_4 : decode cL_meanLate 4 = .ok (.invokevirtual 138, 3) := by decide +kernel
theorem ni_dL_meanLate_11 : decode cL_meanLate 11 = .ok (.astore_n 3, 1) := by decide +kernel
theorem ni_dL_meanLate_12 : decode cL_meanLate 12 = .ok (.iconst 1, 1) := by decide +kernel
theorem ni_dL_meanLate_13 : decode cL_meanLate 13 = .ok (.ireturn, 1) := by decide +kernel
theorem ni_dL_nextLink_0 : decode cL_nextLink 0 = .ok (.aload_n 3, 1) := by decide +kernel
theorem ni_dL_nextLink_1 : decode cL_nextLink 1 = .ok (.iconst 0, 1) := by decide +kernel
theorem ni_dL_nextLink_2 : decode cL_nextLink 2 = .ok (.aload_n 0, 1) := by decide +kernel
theorem ni_dL_nextLink_3 : decode cL_nextLink 3 = .ok (.iload_n 1, 1) := by decide +kernel
theorem ni_dL_nextLink_4 : decode cL_nextLink 4 = .ok (.iload_n 2, 1) := by decide +kernel
theorem ni_dL_nextLink_5 : decode cL_nextLink 5 = .ok (.invokevirtual 97, 3) := by decide +kernel
theorem ni_dL_nextLink_13 : decode cL_nextLink 13 = .ok (.astore 4, 2) := by decide +kernel
theorem ni_dL_nextLink_15 : decode cL_nextLink 15 = .ok (.iconst 1, 1) := by decide +kernel
theorem ni_dL_nextLink_16 : decode cL_nextLink 16 = .ok (.ireturn, 1) := by decide +kernel
theorem ni_dL_offered_0 : decode cL_offered 0 = .ok (.aload_n 2, 1) := by decide +kernel
theorem ni_dL_offered_1 : decode cL_offered 1 = .ok (.iconst 0, 1) := by decide +kernel
theorem ni_dL_offered_2 : decode cL_offered 2 = .ok (.aload_n 0, 1) := by decide +kernel
theorem ni_dL_offered_3 : decode cL_offered 3 = .ok (.iload_n 1, 1) := by decide +kernel
theorem ni_dL_offered_4 : decode cL_offered 4 = .ok (.invokevirtual 120, 3) := by decide +kernel
theorem ni_dL_offered_12 : decode cL_offered 12 = .ok (.astore_n 3, 1) := by decide +kernel
theorem ni_dL_offered_13 : decode cL_offered 13 = .ok (.iconst 1, 1) := by decide +kernel
theorem ni_dL_offered_14 : decode cL_offered 14 = .ok (.ireturn, 1) := by decide +kernel
theorem ni_dL_onLink_0 : decode cL_onLink 0 = .ok (.aload_n 2, 1) := by decide +kernel
theorem ni_dL_onLink_1 : decode cL_onLink 1 = .ok (.iconst 0, 1) := by decide +kernel
theorem ni_dL_onLink_2 : decode cL_onLink 2 = .ok (.aload_n 0, 1) := by decide +kernel
theorem ni_dL_onLink_3 : decode cL_onLink 3 = .ok (.iload_n 1, 1) := by decide +kernel
theorem ni_dL_onLink_4 : decode cL_onLink 4 = .ok (.invokevirtual 117, 3) := by decide +kernel
theorem ni_dL_onLink_12 : decode cL_onLink 12 = .ok (.astore_n 3, 1) := by decide +kernel
theorem ni_dL_onLink_13 : decode cL_onLink 13 = .ok (.iconst 1, 1) := by decide +kernel
theorem ni_dL_onLink_14 : decode cL_onLink 14 = .ok (.ireturn, 1) := by decide +kernel
theorem ni_dL_outOfOrder_0 : decode cL_outOfOrder 0 = .ok (.aload_n 2, 1) := by decide +kernel
theorem ni_dL_outOfOrder_1 : decode cL_outOfOrder 1 = .ok (.iconst 0, 1) := by decide +kernel
theorem ni_dL_outOfOrder_2 : decode cL_outOfOrder 2 = .ok (.aload_n 0, 1) := by decide +kernel
theorem ni_dL_outOfOrder_3 : decode cL_outOfOrder 3 = .ok (.iload_n 1, 1) := by decide +kernel
theorem ni_dL_outOfOrder_4 : decode cL_outOfOrder 4 = .ok (.invokevirtual 142, 3) := by decide +kernel
theorem ni_dL_outOfOrder_12 : decode cL_outOfOrder 12 = .ok (.astore_n 3, 1) := by decide +kernel
theorem ni_dL_outOfOrder_13 : decode cL_outOfOrder 13 = .ok (.iconst 1, 1) := by decide +kernel
theorem ni_dL_outOfOrder_14 : decode cL_outOfOrder 14 = .ok (.ireturn, 1) := by decide +kernel
theorem ni_dL_queued_0 : decode cL_queued 0 = .ok (.aload 4, 2) := by decide +kernel
theorem ni_dL_queued_2 : decode cL_queued 2 = .ok (.iconst 0, 1) := by decide +kernel
theorem ni_dL_queued_3 : decode cL_queued 3 = .ok (.aload_n 0, 1) := by decide +kernel
theorem ni_dL_queued_4 : decode cL_queued 4 = .ok (.iload_n 1, 1) := by decide +kernel
theorem ni_dL_queued_5 : decode cL_queued 5 = .ok (.iload_n 2, 1) := by decide +kernel
theorem ni_dL_queued_6 : decode cL_queued 6 = .ok (.iload_n 3, 1) := by decide +kernel
theorem ni_dL_queued_7 : decode cL_queued 7 = .ok (.invokevirtual 107, 3) := by decide +kernel
theorem ni_dL_queued_15 : decode cL_queued 15 = .ok (.astore 5, 2) := by decide +kernel
theorem ni_dL_queued_17 : decode cL_queued 17 = .ok (.iconst 1, 1) := by decide +kernel
theorem ni_dL_queued_18 : decode cL_queued 18 = .ok (.ireturn, 1) := by decide +kernel
theorem ni_dL_route_0 : decode cL_route 0 = .ok (.aload_n 2, 1) := by decide +kernel
theorem ni_dL_route_1 : decode cL_route 1 = .ok (.iconst 0, 1) := by decide +kernel
theorem ni_dL_route_2 : decode cL_route 2 = .ok (.aload_n 0, 1) := by decide +kernel
theorem ni_dL_route_3 : decode cL_route 3 = .ok (.iload_n 1, 1) := by decide +kernel
theorem ni_dL_route_4 : decode cL_route 4 = .ok (.invokevirtual 100, 3) := by decide +kernel
theorem ni_dL_route_12 : decode cL_route 12 = .ok (.astore_n 3, 1) := by decide +kernel
theorem ni_dL_route_13 : decode cL_route 13 = .ok (.iconst 1, 1) := by decide +kernel
theorem ni_dL_route_14 : decode cL_route 14 = .ok (.ireturn, 1) := by decide +kernel
theorem ni_dL_schedule_0 : decode cL_schedule 0 = .ok (.aload 5, 2) := by decide +kernel
theorem ni_dL_schedule_2 : decode cL_schedule 2 = .ok (.iconst 0, 1) := by decide +kernel
theorem ni_dL_schedule_3 : decode cL_schedule 3 = .ok (.aload_n 0, 1) := by decide +kernel
theorem ni_dL_schedule_4 : decode cL_schedule 4 = .ok (.iload_n 1, 1) := by decide +kernel
theorem ni_dL_schedule_5 : decode cL_schedule 5 = .ok (.iload_n 2, 1) := by decide +kernel
theorem ni_dL_schedule_6 : decode cL_schedule 6 = .ok (.iload_n 3, 1) := by decide +kernel
theorem ni_dL_schedule_7 : decode cL_schedule 7 = .ok (.iload 4, 2) := by decide +kernel
theorem ni_dL_schedule_9 : decode cL_schedule 9 = .ok (.invokevirtual 57, 3) := by decide +kernel
theorem ni_dL_schedule_17 : decode cL_schedule 17 = .ok (.astore 6, 2) := by decide +kernel
theorem ni_dL_schedule_19 : decode cL_schedule 19 = .ok (.iconst 1, 1) := by decide +kernel
theorem ni_dL_schedule_20 : decode cL_schedule 20 = .ok (.ireturn, 1) := by decide +kernel
theorem ni_dL_sending_0 : decode cL_sending 0 = .ok (.aload_n 3, 1) := by decide +kernel
theorem ni_dL_sending_1 : decode cL_sending 1 = .ok (.iconst 0, 1) := by decide +kernel
theorem ni_dL_sending_2 : decode cL_sending 2 = .ok (.aload_n 0, 1) := by decide +kernel
theorem ni_dL_sending_3 : decode cL_sending 3 = .ok (.iload_n 1, 1) := by decide +kernel
theorem ni_dL_sending_4 : decode cL_sending 4 = .ok (.iload_n 2, 1) := by decide +kernel
theorem ni_dL_sending_5 : decode cL_sending 5 = .ok (.invokevirtual 111, 3) := by decide +kernel
theorem ni_dL_sending_13 : decode cL_sending 13 = .ok (.astore 4, 2) := by decide +kernel
theorem ni_dL_sending_15 : decode cL_sending 15 = .ok (.iconst 1, 1) := by decide +kernel
theorem ni_dL_sending_16 : decode cL_sending 16 = .ok (.ireturn, 1) := by decide +kernel
theorem ni_dL_setCost_0 : decode cL_setCost 0 = .ok (.aload_n 3, 1) := by decide +kernel
theorem ni_dL_setCost_1 : decode cL_setCost 1 = .ok (.iconst 0, 1) := by decide +kernel
theorem ni_dL_setCost_2 : decode cL_setCost 2 = .ok (.aload_n 0, 1) := by decide +kernel
theorem ni_dL_setCost_3 : decode cL_setCost 3 = .ok (.iload_n 1, 1) := by decide +kernel
theorem ni_dL_setCost_4 : decode cL_setCost 4 = .ok (.iload_n 2, 1) := by decide +kernel
theorem ni_dL_setCost_5 : decode cL_setCost 5 = .ok (.invokevirtual 23, 3) := by decide +kernel
theorem ni_dL_setCost_13 : decode cL_setCost 13 = .ok (.astore 4, 2) := by decide +kernel
theorem ni_dL_setCost_15 : decode cL_setCost 15 = .ok (.iconst 1, 1) := by decide +kernel
theorem ni_dL_setCost_16 : decode cL_setCost 16 = .ok (.ireturn, 1) := by decide +kernel
theorem ni_dL_setPort_0 : decode cL_setPort 0 = .ok (.aload 6, 2) := by decide +kernel
theorem ni_dL_setPort_2 : decode cL_setPort 2 = .ok (.iconst 0, 1) := by decide +kernel
theorem ni_dL_setPort_3 : decode cL_setPort 3 = .ok (.aload_n 0, 1) := by decide +kernel
theorem ni_dL_setPort_4 : decode cL_setPort 4 = .ok (.iload_n 1, 1) := by decide +kernel
theorem ni_dL_setPort_5 : decode cL_setPort 5 = .ok (.iload_n 2, 1) := by decide +kernel
theorem ni_dL_setPort_6 : decode cL_setPort 6 = .ok (.iload_n 3, 1) := by decide +kernel
theorem ni_dL_setPort_7 : decode cL_setPort 7 = .ok (.iload 4, 2) := by decide +kernel
theorem ni_dL_setPort_9 : decode cL_setPort 9 = .ok (.iload 5, 2) := by decide +kernel
theorem ni_dL_setPort_11 : decode cL_setPort 11 = .ok (.invokevirtual 46, 3) := by decide +kernel
theorem ni_dL_setPort_19 : decode cL_setPort 19 = .ok (.astore 7, 2) := by decide +kernel
theorem ni_dL_setPort_21 : decode cL_setPort 21 = .ok (.iconst 1, 1) := by decide +kernel
theorem ni_dL_setPort_22 : decode cL_setPort 22 = .ok (.ireturn, 1) := by decide +kernel
theorem ni_dL_setUp_0 : decode cL_setUp 0 = .ok (.aload_n 3, 1) := by decide +kernel
theorem ni_dL_setUp_1 : decode cL_setUp 1 = .ok (.iconst 0, 1) := by decide +kernel
theorem ni_dL_setUp_2 : decode cL_setUp 2 = .ok (.aload_n 0, 1) := by decide +kernel
theorem ni_dL_setUp_3 : decode cL_setUp 3 = .ok (.iload_n 1, 1) := by decide +kernel
theorem ni_dL_setUp_4 : decode cL_setUp 4 = .ok (.iload_n 2, 1) := by decide +kernel
theorem ni_dL_setUp_5 : decode cL_setUp 5 = .ok (.invokevirtual 27, 3) := by decide +kernel
theorem ni_dL_setUp_20 : decode cL_setUp 20 = .ok (.astore 4, 2) := by decide +kernel
theorem ni_dL_setUp_22 : decode cL_setUp 22 = .ok (.iconst 1, 1) := by decide +kernel
theorem ni_dL_setUp_23 : decode cL_setUp 23 = .ok (.ireturn, 1) := by decide +kernel
theorem ni_dL_setWeight_0 : decode cL_setWeight 0 = .ok (.aload 5, 2) := by decide +kernel
theorem ni_dL_setWeight_2 : decode cL_setWeight 2 = .ok (.iconst 0, 1) := by decide +kernel
theorem ni_dL_setWeight_3 : decode cL_setWeight 3 = .ok (.aload_n 0, 1) := by decide +kernel
theorem ni_dL_setWeight_4 : decode cL_setWeight 4 = .ok (.iload_n 1, 1) := by decide +kernel
theorem ni_dL_setWeight_5 : decode cL_setWeight 5 = .ok (.iload_n 2, 1) := by decide +kernel
theorem ni_dL_setWeight_6 : decode cL_setWeight 6 = .ok (.iload_n 3, 1) := by decide +kernel
theorem ni_dL_setWeight_7 : decode cL_setWeight 7 = .ok (.iload 4, 2) := by decide +kernel
theorem ni_dL_setWeight_9 : decode cL_setWeight 9 = .ok (.invokevirtual 50, 3) := by decide +kernel
theorem ni_dL_setWeight_17 : decode cL_setWeight 17 = .ok (.astore 6, 2) := by decide +kernel
theorem ni_dL_setWeight_19 : decode cL_setWeight 19 = .ok (.iconst 1, 1) := by decide +kernel
theorem ni_dL_setWeight_20 : decode cL_setWeight 20 = .ok (.ireturn, 1) := by decide +kernel
theorem ni_dL_settledIn_0 : decode cL_settledIn 0 = .ok (.aload_n 2, 1) := by decide +kernel
theorem ni_dL_settledIn_1 : decode cL_settledIn 1 = .ok (.iconst 0, 1) := by decide +kernel
theorem ni_dL_settledIn_2 : decode cL_settledIn 2 = .ok (.aload_n 0, 1) := by decide +kernel
theorem ni_dL_settledIn_3 : decode cL_settledIn 3 = .ok (.iload_n 1, 1) := by decide +kernel
theorem ni_dL_settledIn_4 : decode cL_settledIn 4 = .ok (.invokevirtual 148, 3) := by decide +kernel
theorem ni_dL_settledIn_7 : decode cL_settledIn 7 = .ok (.i2l, 1) := by decide +kernel
theorem ni_dL_settledIn_8 : decode cL_settledIn 8 = .ok (.lastore, 1) := by decide +kernel
theorem ni_dL_settledIn_9 : decode cL_settledIn 9 = .ok (.goto 6, 3) := by decide +kernel
theorem ni_dL_settledIn_12 : decode cL_settledIn 12 = .ok (.astore_n 3, 1) := by decide +kernel
theorem ni_dL_settledIn_13 : decode cL_settledIn 13 = .ok (.iconst 1, 1) := by decide +kernel
theorem ni_dL_settledIn_14 : decode cL_settledIn 14 = .ok (.ireturn, 1) := by decide +kernel
theorem ni_dL_settledIn_15 : decode cL_settledIn 15 = .ok (.iconst 0, 1) := by decide +kernel
theorem ni_dL_settledIn_16 : decode cL_settledIn 16 = .ok (.ireturn, 1) := by decide +kernel
theorem ni_dL_shape_0 : decode cL_shape 0 = .ok (.aload 4, 2) := by decide +kernel
theorem ni_dL_shape_2 : decode cL_shape 2 = .ok (.iconst 0, 1) := by decide +kernel
theorem ni_dL_shape_3 : decode cL_shape 3 = .ok (.aload_n 0, 1) := by decide +kernel
theorem ni_dL_shape_4 : decode cL_shape 4 = .ok (.iload_n 1, 1) := by decide +kernel
theorem ni_dL_shape_5 : decode cL_shape 5 = .ok (.iload_n 2, 1) := by decide +kernel
theorem ni_dL_shape_6 : decode cL_shape 6 = .ok (.iload_n 3, 1) := by decide +kernel
theorem ni_dL_shape_7 : decode cL_shape 7 = .ok (.invokevirtual 60, 3) := by decide +kernel
theorem ni_dL_shape_15 : decode cL_shape 15 = .ok (.astore 5, 2) := by decide +kernel
theorem ni_dL_shape_17 : decode cL_shape 17 = .ok (.iconst 1, 1) := by decide +kernel
theorem ni_dL_shape_18 : decode cL_shape 18 = .ok (.ireturn, 1) := by decide +kernel
theorem ni_dL_shaping_0 : decode cL_shaping 0 = .ok (.aload_n 2, 1) := by decide +kernel
theorem ni_dL_shaping_1 : decode cL_shaping 1 = .ok (.iconst 0, 1) := by decide +kernel
theorem ni_dL_shaping_2 : decode cL_shaping 2 = .ok (.aload_n 0, 1) := by decide +kernel
theorem ni_dL_shaping_3 : decode cL_shaping 3 = .ok (.iload_n 1, 1) := by decide +kernel
theorem ni_dL_shaping_4 : decode cL_shaping 4 = .ok (.invokevirtual 123, 3) := by decide +kernel
theorem ni_dL_shaping_12 : decode cL_shaping 12 = .ok (.astore_n 3, 1) := by decide +kernel
theorem ni_dL_shaping_13 : decode cL_shaping 13 = .ok (.iconst 1, 1) := by decide +kernel
theorem ni_dL_shaping_14 : decode cL_shaping 14 = .ok (.ireturn, 1) := by decide +kernel
theorem ni_dL_sortOf_0 : decode cL_sortOf 0 = .ok (.aload_n 3, 1) := by decide +kernel
theorem ni_dL_sortOf_1 : decode cL_sortOf 1 = .ok (.iconst 0, 1) := by decide +kernel
theorem ni_dL_sortOf_2 : decode cL_sortOf 2 = .ok (.aload_n 0, 1) := by decide +kernel
theorem ni_dL_sortOf_3 : decode cL_sortOf 3 = .ok (.iload_n 1, 1) := by decide +kernel
theorem ni_dL_sortOf_4 : decode cL_sortOf 4 = .ok (.iload_n 2, 1) := by decide +kernel
theorem ni_dL_sortOf_5 : decode cL_sortOf 5 = .ok (.invokevirtual 94, 3) := by decide +kernel
theorem ni_dL_sortOf_13 : decode cL_sortOf 13 = .ok (.astore 4, 2) := by decide +kernel
theorem ni_dL_sortOf_15 : decode cL_sortOf 15 = .ok (.iconst 1, 1) := by decide +kernel
theorem ni_dL_sortOf_16 : decode cL_sortOf 16 = .ok (.ireturn, 1) := by decide +kernel
theorem ni_dL_step_0 : decode cL_step 0 = .ok (.aload_n 2, 1) := by decide +kernel
theorem ni_dL_step_1 : decode cL_step 1 = .ok (.iconst 0, 1) := by decide +kernel
theorem ni_dL_step_2 : decode cL_step 2 = .ok (.aload_n 0, 1) := by decide +kernel
theorem ni_dL_step_3 : decode cL_step 3 = .ok (.iload_n 1, 1) := by decide +kernel
theorem ni_dL_step_4 : decode cL_step 4 = .ok (.invokevirtual 63, 3) := by decide +kernel
theorem ni_dL_step_7 : decode cL_step 7 = .ok (.i2l, 1) := by decide +kernel
theorem ni_dL_step_8 : decode cL_step 8 = .ok (.lastore, 1) := by decide +kernel
theorem ni_dL_step_9 : decode cL_step 9 = .ok (.goto 6, 3) := by decide +kernel
theorem ni_dL_step_12 : decode cL_step 12 = .ok (.astore_n 3, 1) := by decide +kernel
theorem ni_dL_step_13 : decode cL_step 13 = .ok (.iconst 1, 1) := by decide +kernel
theorem ni_dL_step_14 : decode cL_step 14 = .ok (.ireturn, 1) := by decide +kernel
theorem ni_dL_step_15 : decode cL_step 15 = .ok (.iconst 0, 1) := by decide +kernel
theorem ni_dL_step_16 : decode cL_step 16 = .ok (.ireturn, 1) := by decide +kernel
theorem ni_dL_tokens_0 : decode cL_tokens 0 = .ok (.aload_n 2, 1) := by decide +kernel
theorem ni_dL_tokens_1 : decode cL_tokens 1 = .ok (.iconst 0, 1) := by decide +kernel
theorem ni_dL_tokens_2 : decode cL_tokens 2 = .ok (.aload_n 0, 1) := by decide +kernel
theorem ni_dL_tokens_3 : decode cL_tokens 3 = .ok (.iload_n 1, 1) := by decide +kernel
theorem ni_dL_tokens_4 : decode cL_tokens 4 = .ok (.invokevirtual 126, 3) := by decide +kernel
theorem ni_dL_tokens_12 : decode cL_tokens 12 = .ok (.astore_n 3, 1) := by decide +kernel
theorem ni_dL_tokens_13 : decode cL_tokens 13 = .ok (.iconst 1, 1) := by decide +kernel
theorem ni_dL_tokens_14 : decode cL_tokens 14 = .ok (.ireturn, 1) := by decide +kernel
theorem ni_dL_trieDepth_0 : decode cL_trieDepth 0 = .ok (.aload_n 2, 1) := by decide +kernel
theorem ni_dL_trieDepth_1 : decode cL_trieDepth 1 = .ok (.iconst 0, 1) := by decide +kernel
theorem ni_dL_trieDepth_2 : decode cL_trieDepth 2 = .ok (.aload_n 0, 1) := by decide +kernel
theorem ni_dL_trieDepth_3 : decode cL_trieDepth 3 = .ok (.iload_n 1, 1) := by decide +kernel
theorem ni_dL_trieDepth_4 : decode cL_trieDepth 4 = .ok (.invokevirtual 85, 3) := by decide +kernel
theorem ni_dL_trieDepth_12 : decode cL_trieDepth 12 = .ok (.astore_n 3, 1) := by decide +kernel
theorem ni_dL_trieDepth_13 : decode cL_trieDepth 13 = .ok (.iconst 1, 1) := by decide +kernel
theorem ni_dL_trieDepth_14 : decode cL_trieDepth 14 = .ok (.ireturn, 1) := by decide +kernel
theorem ni_dL_trieNodes_0 : decode cL_trieNodes 0 = .ok (.aload_n 2, 1) := by decide +kernel
theorem ni_dL_trieNodes_1 : decode cL_trieNodes 1 = .ok (.iconst 0, 1) := by decide +kernel
theorem ni_dL_trieNodes_2 : decode cL_trieNodes 2 = .ok (.aload_n 0, 1) := by decide +kernel
theorem ni_dL_trieNodes_3 : decode cL_trieNodes 3 = .ok (.iload_n 1, 1) := by decide +kernel
theorem ni_dL_trieNodes_4 : decode cL_trieNodes 4 = .ok (.invokevirtual 82, 3) := by decide +kernel
theorem ni_dL_trieNodes_12 : decode cL_trieNodes 12 = .ok (.astore_n 3, 1) := by decide +kernel
theorem ni_dL_trieNodes_13 : decode cL_trieNodes 13 = .ok (.iconst 1, 1) := by decide +kernel
theorem ni_dL_trieNodes_14 : decode cL_trieNodes 14 = .ok (.ireturn, 1) := by decide +kernel
theorem ni_dL_waiting_0 : decode cL_waiting 0 = .ok (.aload_n 3, 1) := by decide +kernel
theorem ni_dL_waiting_1 : decode cL_waiting 1 = .ok (.iconst 0, 1) := by decide +kernel
theorem ni_dL_waiting_2 : decode cL_waiting 2 = .ok (.aload_n 0, 1) := by decide +kernel
theorem ni_dL_waiting_3 : decode cL_waiting 3 = .ok (.iload_n 1, 1) := by decide +kernel
theorem ni_dL_waiting_4 : decode cL_waiting 4 = .ok (.iload_n 2, 1) := by decide +kernel
theorem ni_dL_waiting_5 : decode cL_waiting 5 = .ok (.invokevirtual 103, 3) := by decide +kernel
theorem ni_dL_waiting_13 : decode cL_waiting 13 = .ok (.astore 4, 2) := by decide +kernel
theorem ni_dL_waiting_15 : decode cL_waiting 15 = .ok (.iconst 1, 1) := by decide +kernel
theorem ni_dL_waiting_16 : decode cL_waiting 16 = .ok (.ireturn, 1) := by decide +kernel
theorem ni_dX19_init_0 : decode cX19_init 0 = .ok (.aload_n 0, 1) := by decide +kernel
theorem ni_dX19_init_1 : decode cX19_init 1 = .ok (.invokespecial 1, 3) := by decide +kernel
theorem ni_dX19_init_4 : decode cX19_init 4 = .ok (.aload_n 0, 1) := by decide +kernel
theorem ni_dX19_init_5 : decode cX19_init 5 = .ok (.new 7, 3) := by decide +kernel
theorem ni_dX19_init_8 : decode cX19_init 8 = .ok (.dup, 1) := by decide +kernel
theorem ni_dX19_init_9 : decode cX19_init 9 = .ok (.invokespecial 9, 3) := by decide +kernel
theorem ni_dX19_init_12 : decode cX19_init 12 = .ok (.putfield 10, 3) := by decide +kernel
theorem ni_dX19_init_15 : decode cX19_init 15 = .ok (.return_, 1) := by decide +kernel
theorem ni_dX19_add_0 : decode cX19_add 0 = .ok (.lload_n 0, 1) := by decide +kernel
theorem ni_dX19_add_1 : decode cX19_add 1 = .ok (.ldc2_w 344, 3) := by decide +kernel
theorem ni_dX19_add_4 : decode cX19_add 4 = .ok (.lmul, 1) := by decide +kernel
theorem ni_dX19_add_5 : decode cX19_add 5 = .ok (.lload_n 2, 1) := by decide +kernel
theorem ni_dX19_add_6 : decode cX19_add 6 = .ok (.ladd, 1) := by decide +kernel
theorem ni_dX19_add_7 : decode cX19_add 7 = .ok (.lreturn, 1) := by decide +kernel
theorem ni_dX19_addFlow_0 : decode cX19_addFlow 0 = .ok (.aload_n 0, 1) := by decide +kernel
theorem ni_dX19_addFlow_1 : decode cX19_addFlow 1 = .ok (.iload_n 1, 1) := by decide +kernel
theorem ni_dX19_addFlow_2 : decode cX19_addFlow 2 = .ok (.invokevirtual 75, 3) := by decide +kernel
theorem ni_dX19_addFlow_5 : decode cX19_addFlow 5 = .ok (.ifCond .ne 76, 3) := by decide +kernel
theorem ni_dX19_addFlow_81 : decode cX19_addFlow 81 = .ok (.iconst 0, 1) := by decide +kernel
theorem ni_dX19_addFlow_82 : decode cX19_addFlow 82 = .ok (.ireturn, 1) := by decide +kernel
theorem ni_dX19_addLink_0 : decode cX19_addLink 0 = .ok (.aload_n 0, 1) := by decide +kernel
theorem ni_dX19_addLink_1 : decode cX19_addLink 1 = .ok (.iload_n 1, 1) := by decide +kernel
theorem ni_dX19_addLink_2 : decode cX19_addLink 2 = .ok (.iload_n 2, 1) := by decide +kernel
theorem ni_dX19_addLink_3 : decode cX19_addLink 3 = .ok (.invokevirtual 86, 3) := by decide +kernel
theorem ni_dX19_addLink_6 : decode cX19_addLink 6 = .ok (.ifCond .ne 79, 3) := by decide +kernel
theorem ni_dX19_addLink_85 : decode cX19_addLink 85 = .ok (.iconst 0, 1) := by decide +kernel
theorem ni_dX19_addLink_86 : decode cX19_addLink 86 = .ok (.ireturn, 1) := by decide +kernel
theorem ni_dX19_addNetwork_0 : decode cX19_addNetwork 0 = .ok (.aload_n 0, 1) := by decide +kernel
theorem ni_dX19_addNetwork_1 : decode cX19_addNetwork 1 = .ok (.iload_n 1, 1) := by decide +kernel
theorem ni_dX19_addNetwork_2 : decode cX19_addNetwork 2 = .ok (.invokevirtual 75, 3) := by decide +kernel
theorem ni_dX19_addNetwork_5 : decode cX19_addNetwork 5 = .ok (.ifCond .ne 59, 3) := by decide +kernel
theorem ni_dX19_addNetwork_64 : decode cX19_addNetwork 64 = .ok (.iconst 0, 1) := by decide +kernel
theorem ni_dX19_addNetwork_65 : decode cX19_addNetwork 65 = .ok (.ireturn, 1) := by decide +kernel
theorem ni_dX19_addRouter_0 : decode cX19_addRouter 0 = .ok (.aload_n 0, 1) := by decide +kernel
theorem ni_dX19_addRouter_1 : decode cX19_addRouter 1 = .ok (.aload_n 0, 1) := by decide +kernel
theorem ni_dX19_addRouter_2 : decode cX19_addRouter 2 = .ok (.getfield 10, 3) := by decide +kernel
theorem ni_dX19_addRouter_5 : decode cX19_addRouter 5 = .ok (.getfield 66, 3) := by decide +kernel
theorem ni_dX19_addRouter_8 : decode cX19_addRouter 8 = .ok (.bipush 8, 2) := by decide +kernel
theorem ni_dX19_addRouter_10 : decode cX19_addRouter 10 = .ok (.if_icmp .ne 7, 3) := by decide +kernel
theorem ni_dX19_addRouter_17 : decode cX19_addRouter 17 = .ok (.iconst 0, 1) := by decide +kernel
theorem ni_dX19_addRouter_18 : decode cX19_addRouter 18 = .ok (.iconst 1, 1) := by decide +kernel
theorem ni_dX19_addRouter_19 : decode cX19_addRouter 19 = .ok (.invokevirtual 72, 3) := by decide +kernel
theorem ni_dX19_addRouter_22 : decode cX19_addRouter 22 = .ok (.ifCond .eq 5, 3) := by decide +kernel
theorem ni_dX19_addRouter_27 : decode cX19_addRouter 27 = .ok (.aload_n 0, 1) := by decide +kernel
theorem ni_dX19_addRouter_28 : decode cX19_addRouter 28 = .ok (.getfield 10, 3) := by decide +kernel
theorem ni_dX19_addRouter_31 : decode cX19_addRouter 31 = .ok (.dup, 1) := by decide +kernel
theorem ni_dX19_addRouter_32 : decode cX19_addRouter 32 = .ok (.getfield 66, 3) := by decide +kernel
theorem ni_dX19_addRouter_35 : decode cX19_addRouter 35 = .ok (.iconst 1, 1) := by decide +kernel
theorem ni_dX19_addRouter_36 : decode cX19_addRouter 36 = .ok (.iadd, 1) := by decide +kernel
theorem ni_dX19_addRouter_37 : decode cX19_addRouter 37 = .ok (.putfield 66, 3) := by decide +kernel
theorem ni_dX19_addRouter_40 : decode cX19_addRouter 40 = .ok (.aload_n 0, 1) := by decide +kernel
theorem ni_dX19_addRouter_41 : decode cX19_addRouter 41 = .ok (.getfield 10, 3) := by decide +kernel
theorem ni_dX19_addRouter_44 : decode cX19_addRouter 44 = .ok (.getfield 66, 3) := by decide +kernel
theorem ni_dX19_addRouter_47 : decode cX19_addRouter 47 = .ok (.iconst 1, 1) := by decide +kernel
theorem ni_dX19_addRouter_48 : decode cX19_addRouter 48 = .ok (.isub, 1) := by decide +kernel
theorem ni_dX19_addRouter_49 : decode cX19_addRouter 49 = .ok (.ireturn, 1) := by decide +kernel
theorem ni_dX19_addStatic_0 : decode cX19_addStatic 0 = .ok (.aload_n 0, 1) := by decide +kernel
theorem ni_dX19_addStatic_1 : decode cX19_addStatic 1 = .ok (.iload_n 1, 1) := by decide +kernel
theorem ni_dX19_addStatic_2 : decode cX19_addStatic 2 = .ok (.invokevirtual 75, 3) := by decide +kernel
theorem ni_dX19_addStatic_5 : decode cX19_addStatic 5 = .ok (.ifCond .ne 93, 3) := by decide +kernel
theorem ni_dX19_addStatic_98 : decode cX19_addStatic 98 = .ok (.iconst 0, 1) := by decide +kernel
theorem ni_dX19_addStatic_99 : decode cX19_addStatic 99 = .ok (.ireturn, 1) := by decide +kernel
theorem ni_dX19_areNone_0 : decode cX19_areNone 0 = .ok (.aload_n 0, 1) := by decide +kernel
theorem ni_dX19_areNone_1 : decode cX19_areNone 1 = .ok (.iload_n 1, 1) := by decide +kernel
theorem ni_dX19_areNone_2 : decode cX19_areNone 2 = .ok (.invokevirtual 75, 3) := by decide +kernel
theorem ni_dX19_areNone_5 : decode cX19_areNone 5 = .ok (.ifCond .ne 33, 3) := by decide +kernel
theorem ni_dX19_areNone_38 : decode cX19_areNone 38 = .ok (.iconst 1, 1) := by decide +kernel
theorem ni_dX19_areNone_39 : decode cX19_areNone 39 = .ok (.goto 4, 3) := by decide +kernel
theorem ni_dX19_areNone_43 : decode cX19_areNone 43 = .ok (.ireturn, 1) := by decide +kernel
theorem ni_dX19_deficit_0 : decode cX19_deficit 0 = .ok (.aload_n 0, 1) := by decide +kernel
theorem ni_dX19_deficit_1 : decode cX19_deficit 1 = .ok (.iload_n 1, 1) := by decide +kernel
theorem ni_dX19_deficit_2 : decode cX19_deficit 2 = .ok (.iload_n 3, 1) := by decide +kernel
theorem ni_dX19_deficit_3 : decode cX19_deficit 3 = .ok (.invokevirtual 302, 3) := by decide +kernel
theorem ni_dX19_deficit_6 : decode cX19_deficit 6 = .ok (.ifCond .eq 7, 3) := by decide +kernel
theorem ni_dX19_deficit_9 : decode cX19_deficit 9 = .ok (.iconst 0, 1) := by decide +kernel
theorem ni_dX19_deficit_10 : decode cX19_deficit 10 = .ok (.goto 14, 3) := by decide +kernel
theorem ni_dX19_deficit_24 : decode cX19_deficit 24 = .ok (.ireturn, 1) := by decide +kernel
theorem ni_dX19_delivered_0 : decode cX19_delivered 0 = .ok (.aload_n 0, 1) := by decide +kernel
theorem ni_dX19_delivered_1 : decode cX19_delivered 1 = .ok (.iload_n 1, 1) := by decide +kernel
theorem ni_dX19_delivered_2 : decode cX19_delivered 2 = .ok (.invokevirtual 213, 3) := by decide +kernel
theorem ni_dX19_delivered_5 : decode cX19_delivered 5 = .ok (.ifCond .eq 7, 3) := by decide +kernel
theorem ni_dX19_delivered_8 : decode cX19_delivered 8 = .ok (.iconst 0, 1) := by decide +kernel
theorem ni_dX19_delivered_9 : decode cX19_delivered 9 = .ok (.goto 20, 3) := by decide +kernel
theorem ni_dX19_delivered_29 : decode cX19_delivered 29 = .ok (.ireturn, 1) := by decide +kernel
theorem ni_dX19_deliveredIn_0 : decode cX19_deliveredIn 0 = .ok (.aload_n 0, 1) := by decide +kernel
theorem ni_dX19_deliveredIn_1 : decode cX19_deliveredIn 1 = .ok (.iload_n 1, 1) := by decide +kernel
theorem ni_dX19_deliveredIn_2 : decode cX19_deliveredIn 2 = .ok (.invokevirtual 213, 3) := by decide +kernel
theorem ni_dX19_deliveredIn_5 : decode cX19_deliveredIn 5 = .ok (.ifCond .ne 26, 3) := by decide +kernel
theorem ni_dX19_deliveredIn_31 : decode cX19_deliveredIn 31 = .ok (.iconst 0, 1) := by decide +kernel
theorem ni_dX19_deliveredIn_32 : decode cX19_deliveredIn 32 = .ok (.ireturn, 1) := by decide +kernel
theorem ni_dX19_digest_0 : decode cX19_digest 0 = .ok (.aload_n 0, 1) := by decide +kernel
theorem ni_dX19_digest_1 : decode cX19_digest 1 = .ok (.iconst 0, 1) := by decide +kernel
theorem ni_dX19_digest_2 : decode cX19_digest 2 = .ok (.putfield 59, 3) := by decide +kernel
theorem ni_dX19_digest_5 : decode cX19_digest 5 = .ok (.ldc2_w 346, 3) := by decide +kernel
theorem ni_dX19_digest_8 : decode cX19_digest 8 = .ok (.aload_n 0, 1) := by decide +kernel
theorem ni_dX19_digest_9 : decode cX19_digest 9 = .ok (.getfield 10, 3) := by decide +kernel
theorem ni_dX19_digest_12 : decode cX19_digest 12 = .ok (.getfield 216, 3) := by decide +kernel
theorem ni_dX19_digest_15 : decode cX19_digest 15 = .ok (.i2l, 1) := by decide +kernel
theorem ni_dX19_digest_16 : decode cX19_digest 16 = .ok (.invokestatic 348, 3) := by decide +kernel
theorem ni_dX19_digest_19 : decode cX19_digest 19 = .ok (.aload_n 0, 1) := by decide +kernel
theorem ni_dX19_digest_20 : decode cX19_digest 20 = .ok (.getfield 10, 3) := by decide +kernel
theorem ni_dX19_digest_23 : decode cX19_digest 23 = .ok (.getfield 66, 3) := by decide +kernel
theorem ni_dX19_digest_26 : decode cX19_digest 26 = .ok (.i2l, 1) := by decide +kernel
theorem ni_dX19_digest_27 : decode cX19_digest 27 = .ok (.invokestatic 348, 3) := by decide +kernel
theorem ni_dX19_digest_30 : decode cX19_digest 30 = .ok (.aload_n 0, 1) := by decide +kernel
theorem ni_dX19_digest_31 : decode cX19_digest 31 = .ok (.getfield 10, 3) := by decide +kernel
theorem ni_dX19_digest_34 : decode cX19_digest 34 = .ok (.getfield 79, 3) := by decide +kernel
theorem ni_dX19_digest_37 : decode cX19_digest 37 = .ok (.i2l, 1) := by decide +kernel
theorem ni_dX19_digest_38 : decode cX19_digest 38 = .ok (.invokestatic 348, 3) := by decide +kernel
theorem ni_dX19_digest_41 : decode cX19_digest 41 = .ok (.aload_n 0, 1) := by decide +kernel
theorem ni_dX19_digest_42 : decode cX19_digest 42 = .ok (.getfield 10, 3) := by decide +kernel
theorem ni_dX19_digest_45 : decode cX19_digest 45 = .ok (.getfield 131, 3) := by decide +kernel
theorem ni_dX19_digest_48 : decode cX19_digest 48 = .ok (.i2l, 1) := by decide +kernel
theorem ni_dX19_digest_49 : decode cX19_digest 49 = .ok (.invokestatic 348, 3) := by decide +kernel
theorem ni_dX19_digest_52 : decode cX19_digest 52 = .ok (.aload_n 0, 1) := by decide +kernel
theorem ni_dX19_digest_53 : decode cX19_digest 53 = .ok (.getfield 10, 3) := by decide +kernel
theorem ni_dX19_digest_56 : decode cX19_digest 56 = .ok (.getfield 156, 3) := by decide +kernel
theorem ni_dX19_digest_59 : decode cX19_digest 59 = .ok (.i2l, 1) := by decide +kernel
theorem ni_dX19_digest_60 : decode cX19_digest 60 = .ok (.invokestatic 348, 3) := by decide +kernel
theorem ni_dX19_digest_63 : decode cX19_digest 63 = .ok (.aload_n 0, 1) := by decide +kernel
theorem ni_dX19_digest_64 : decode cX19_digest 64 = .ok (.getfield 10, 3) := by decide +kernel
theorem ni_dX19_digest_67 : decode cX19_digest 67 = .ok (.getfield 82, 3) := by decide +kernel
theorem ni_dX19_digest_70 : decode cX19_digest 70 = .ok (.invokevirtual 20, 3) := by decide +kernel
theorem ni_dX19_digest_73 : decode cX19_digest 73 = .ok (.i2l, 1) := by decide +kernel
theorem ni_dX19_digest_74 : decode cX19_digest 74 = .ok (.invokestatic 348, 3) := by decide +kernel
theorem ni_dX19_digest_77 : decode cX19_digest 77 = .ok (.aload_n 0, 1) := by decide +kernel
theorem ni_dX19_digest_78 : decode cX19_digest 78 = .ok (.getfield 10, 3) := by decide +kernel
theorem ni_dX19_digest_81 : decode cX19_digest 81 = .ok (.invokevirtual 254, 3) := by decide +kernel
theorem ni_dX19_digest_84 : decode cX19_digest 84 = .ok (.i2l, 1) := by decide +kernel
theorem ni_dX19_digest_85 : decode cX19_digest 85 = .ok (.invokestatic 348, 3) := by decide +kernel
theorem ni_dX19_digest_88 : decode cX19_digest 88 = .ok (.lstore_n 1, 1) := by decide +kernel
theorem ni_dX19_digest_89 : decode cX19_digest 89 = .ok (.iconst 0, 1) := by decide +kernel
theorem ni_dX19_digest_90 : decode cX19_digest 90 = .ok (.istore_n 3, 1) := by decide +kernel
theorem ni_dX19_digest_91 : decode cX19_digest 91 = .ok (.iload_n 3, 1) := by decide +kernel
theorem ni_dX19_digest_92 : decode cX19_digest 92 = .ok (.aload_n 0, 1) := by decide +kernel
theorem ni_dX19_digest_93 : decode cX19_digest 93 = .ok (.getfield 10, 3) := by decide +kernel
theorem ni_dX19_digest_96 : decode cX19_digest 96 = .ok (.getfield 66, 3) := by decide +kernel
theorem ni_dX19_digest_99 : decode cX19_digest 99 = .ok (.if_icmp .ge 145, 3) := by decide +kernel
theorem ni_dX19_digest_244 : decode cX19_digest 244 = .ok (.iconst 0, 1) := by decide +kernel
theorem ni_dX19_digest_245 : decode cX19_digest 245 = .ok (.istore_n 3, 1) := by decide +kernel
theorem ni_dX19_digest_246 : decode cX19_digest 246 = .ok (.iload_n 3, 1) := by decide +kernel
theorem ni_dX19_digest_247 : decode cX19_digest 247 = .ok (.aload_n 0, 1) := by decide +kernel
theorem ni_dX19_digest_248 : decode cX19_digest 248 = .ok (.getfield 10, 3) := by decide +kernel
theorem ni_dX19_digest_251 : decode cX19_digest 251 = .ok (.getfield 79, 3) := by decide +kernel
theorem ni_dX19_digest_254 : decode cX19_digest 254 = .ok (.if_icmp .ge 136, 3) := by decide +kernel
theorem ni_dX19_digest_390 : decode cX19_digest 390 = .ok (.iconst 0, 1) := by decide +kernel
theorem ni_dX19_digest_391 : decode cX19_digest 391 = .ok (.istore_n 3, 1) := by decide +kernel
theorem ni_dX19_digest_392 : decode cX19_digest 392 = .ok (.iload_n 3, 1) := by decide +kernel
theorem ni_dX19_digest_393 : decode cX19_digest 393 = .ok (.aload_n 0, 1) := by decide +kernel
theorem ni_dX19_digest_394 : decode cX19_digest 394 = .ok (.getfield 10, 3) := by decide +kernel
theorem ni_dX19_digest_397 : decode cX19_digest 397 = .ok (.getfield 82, 3) := by decide +kernel
theorem ni_dX19_digest_400 : decode cX19_digest 400 = .ok (.invokevirtual 20, 3) := by decide +kernel
theorem ni_dX19_digest_403 : decode cX19_digest 403 = .ok (.if_icmp .ge 165, 3) := by decide +kernel
theorem ni_dX19_digest_568 : decode cX19_digest 568 = .ok (.lload_n 1, 1) := by decide +kernel
theorem ni_dX19_digest_569 : decode cX19_digest 569 = .ok (.lreturn, 1) := by decide +kernel
theorem ni_dX19_distance_0 : decode cX19_distance 0 = .ok (.aload_n 0, 1) := by decide +kernel
theorem ni_dX19_distance_1 : decode cX19_distance 1 = .ok (.iload_n 1, 1) := by decide +kernel
theorem ni_dX19_distance_2 : decode cX19_distance 2 = .ok (.iload_n 2, 1) := by decide +kernel
theorem ni_dX19_distance_3 : decode cX19_distance 3 = .ok (.invokevirtual 86, 3) := by decide +kernel
theorem ni_dX19_distance_6 : decode cX19_distance 6 = .ok (.ifCond .eq 7, 3) := by decide +kernel
theorem ni_dX19_distance_9 : decode cX19_distance 9 = .ok (.iconst 0, 1) := by decide +kernel
theorem ni_dX19_distance_10 : decode cX19_distance 10 = .ok (.goto 17, 3) := by decide +kernel
theorem ni_dX19_distance_27 : decode cX19_distance 27 = .ok (.ireturn, 1) := by decide +kernel
theorem ni_dX19_dropNetwork_0 : decode cX19_dropNetwork 0 = .ok (.aload_n 0, 1) := by decide +kernel
theorem ni_dX19_dropNetwork_1 : decode cX19_dropNetwork 1 = .ok (.iload_n 1, 1) := by decide +kernel
theorem ni_dX19_dropNetwork_2 : decode cX19_dropNetwork 2 = .ok (.iconst 0, 1) := by decide +kernel
theorem ni_dX19_dropNetwork_3 : decode cX19_dropNetwork 3 = .ok (.aload_n 0, 1) := by decide +kernel
theorem ni_dX19_dropNetwork_4 : decode cX19_dropNetwork 4 = .ok (.getfield 10, 3) := by decide +kernel
theorem ni_dX19_dropNetwork_7 : decode cX19_dropNetwork 7 = .ok (.getfield 131, 3) := by decide +kernel
theorem ni_dX19_dropNetwork_10 : decode cX19_dropNetwork 10 = .ok (.iconst 1, 1) := by decide +kernel
theorem ni_dX19_dropNetwork_11 : decode cX19_dropNetwork 11 = .ok (.isub, 1) := by decide +kernel
theorem ni_dX19_dropNetwork_12 : decode cX19_dropNetwork 12 = .ok (.invokestatic 69, 3) := by decide +kernel
theorem ni_dX19_dropNetwork_15 : decode cX19_dropNetwork 15 = .ok (.ifCond .ne 7, 3) := by decide +kernel
theorem ni_dX19_dropNetwork_18 : decode cX19_dropNetwork 18 = .ok (.iconst 1, 1) := by decide +kernel
theorem ni_dX19_dropNetwork_19 : decode cX19_dropNetwork 19 = .ok (.goto 4, 3) := by decide +kernel
theorem ni_dX19_dropNetwork_23 : decode cX19_dropNetwork 23 = .ok (.iconst 1, 1) := by decide +kernel
theorem ni_dX19_dropNetwork_24 : decode cX19_dropNetwork 24 = .ok (.invokevirtual 72, 3) := by decide +kernel
theorem ni_dX19_dropNetwork_27 : decode cX19_dropNetwork 27 = .ok (.ifCond .eq 5, 3) := by decide +kernel
theorem ni_dX19_dropNetwork_30 : decode cX19_dropNetwork 30 = .ok (.iconst 0, 1) := by decide +kernel
theorem ni_dX19_dropNetwork_31 : decode cX19_dropNetwork 31 = .ok (.ireturn, 1) := by decide +kernel
theorem ni_dX19_dropStatic_0 : decode cX19_dropStatic 0 = .ok (.aload_n 0, 1) := by decide +kernel
theorem ni_dX19_dropStatic_1 : decode cX19_dropStatic 1 = .ok (.iload_n 1, 1) := by decide +kernel
theorem ni_dX19_dropStatic_2 : decode cX19_dropStatic 2 = .ok (.iconst 0, 1) := by decide +kernel
theorem ni_dX19_dropStatic_3 : decode cX19_dropStatic 3 = .ok (.aload_n 0, 1) := by decide +kernel
theorem ni_dX19_dropStatic_4 : decode cX19_dropStatic 4 = .ok (.getfield 10, 3) := by decide +kernel
theorem ni_dX19_dropStatic_7 : decode cX19_dropStatic 7 = .ok (.getfield 156, 3) := by decide +kernel
theorem ni_dX19_dropStatic_10 : decode cX19_dropStatic 10 = .ok (.iconst 1, 1) := by decide +kernel
theorem ni_dX19_dropStatic_11 : decode cX19_dropStatic 11 = .ok (.isub, 1) := by decide +kernel
theorem ni_dX19_dropStatic_12 : decode cX19_dropStatic 12 = .ok (.invokestatic 69, 3) := by decide +kernel
theorem ni_dX19_dropStatic_15 : decode cX19_dropStatic 15 = .ok (.ifCond .ne 7, 3) := by decide +kernel
theorem ni_dX19_dropStatic_18 : decode cX19_dropStatic 18 = .ok (.iconst 1, 1) := by decide +kernel
theorem ni_dX19_dropStatic_19 : decode cX19_dropStatic 19 = .ok (.goto 4, 3) := by decide +kernel
theorem ni_dX19_dropStatic_23 : decode cX19_dropStatic 23 = .ok (.iconst 1, 1) := by decide +kernel
theorem ni_dX19_dropStatic_24 : decode cX19_dropStatic 24 = .ok (.invokevirtual 72, 3) := by decide +kernel
theorem ni_dX19_dropStatic_27 : decode cX19_dropStatic 27 = .ok (.ifCond .eq 5, 3) := by decide +kernel
theorem ni_dX19_dropStatic_30 : decode cX19_dropStatic 30 = .ok (.iconst 0, 1) := by decide +kernel
theorem ni_dX19_dropStatic_31 : decode cX19_dropStatic 31 = .ok (.ireturn, 1) := by decide +kernel
theorem ni_dX19_dropped_0 : decode cX19_dropped 0 = .ok (.aload_n 0, 1) := by decide +kernel
theorem ni_dX19_dropped_1 : decode cX19_dropped 1 = .ok (.iload_n 1, 1) := by decide +kernel
theorem ni_dX19_dropped_2 : decode cX19_dropped 2 = .ok (.invokevirtual 213, 3) := by decide +kernel
theorem ni_dX19_dropped_5 : decode cX19_dropped 5 = .ok (.ifCond .ne 26, 3) := by decide +kernel
theorem ni_dX19_dropped_31 : decode cX19_dropped 31 = .ok (.iconst 0, 1) := by decide +kernel
theorem ni_dX19_dropped_32 : decode cX19_dropped 32 = .ok (.goto 22, 3) := by decide +kernel
theorem ni_dX19_dropped_54 : decode cX19_dropped 54 = .ok (.ireturn, 1) := by decide +kernel
theorem ni_dX19_entries_0 : decode cX19_entries 0 = .ok (.aload_n 0, 1) := by decide +kernel
theorem ni_dX19_entries_1 : decode cX19_entries 1 = .ok (.iload_n 1, 1) := by decide +kernel
theorem ni_dX19_entries_2 : decode cX19_entries 2 = .ok (.invokevirtual 75, 3) := by decide +kernel
theorem ni_dX19_entries_5 : decode cX19_entries 5 = .ok (.ifCond .eq 7, 3) := by decide +kernel
theorem ni_dX19_entries_8 : decode cX19_entries 8 = .ok (.iconst 0, 1) := by decide +kernel
theorem ni_dX19_entries_9 : decode cX19_entries 9 = .ok (.goto 20, 3) := by decide +kernel
theorem ni_dX19_entries_29 : decode cX19_entries 29 = .ok (.ireturn, 1) := by decide +kernel
theorem ni_dX19_firstLinks_0 : decode cX19_firstLinks 0 = .ok (.aload_n 0, 1) := by decide +kernel
theorem ni_dX19_firstLinks_1 : decode cX19_firstLinks 1 = .ok (.iload_n 1, 1) := by decide +kernel
theorem ni_dX19_firstLinks_2 : decode cX19_firstLinks 2 = .ok (.iload_n 2, 1) := by decide +kernel
theorem ni_dX19_firstLinks_3 : decode cX19_firstLinks 3 = .ok (.invokevirtual 86, 3) := by decide +kernel
theorem ni_dX19_firstLinks_6 : decode cX19_firstLinks 6 = .ok (.ifCond .eq 7, 3) := by decide +kernel
theorem ni_dX19_firstLinks_9 : decode cX19_firstLinks 9 = .ok (.iconst 0, 1) := by decide +kernel
theorem ni_dX19_firstLinks_10 : decode cX19_firstLinks 10 = .ok (.goto 18, 3) := by decide +kernel
theorem ni_dX19_firstLinks_28 : decode cX19_firstLinks 28 = .ok (.ireturn, 1) := by decide +kernel
theorem ni_dX19_flows_0 : decode cX19_flows 0 = .ok (.aload_n 0, 1) := by decide +kernel
theorem ni_dX19_flows_1 : decode cX19_flows 1 = .ok (.aload_n 0, 1) := by decide +kernel
theorem ni_dX19_flows_2 : decode cX19_flows 2 = .ok (.getfield 10, 3) := by decide +kernel
theorem ni_dX19_flows_5 : decode cX19_flows 5 = .ok (.getfield 82, 3) := by decide +kernel
theorem ni_dX19_flows_8 : decode cX19_flows 8 = .ok (.invokevirtual 20, 3) := by decide +kernel
theorem ni_dX19_flows_11 : decode cX19_flows 11 = .ok (.invokevirtual 247, 3) := by decide +kernel
theorem ni_dX19_flows_14 : decode cX19_flows 14 = .ok (.ireturn, 1) := by decide +kernel
theorem ni_dX19_found_0 : decode cX19_found 0 = .ok (.aload_n 0, 1) := by decide +kernel
theorem ni_dX19_found_1 : decode cX19_found 1 = .ok (.iload_n 1, 1) := by decide +kernel
theorem ni_dX19_found_2 : decode cX19_found 2 = .ok (.iload_n 2, 1) := by decide +kernel
theorem ni_dX19_found_3 : decode cX19_found 3 = .ok (.invokevirtual 275, 3) := by decide +kernel
theorem ni_dX19_found_6 : decode cX19_found 6 = .ok (.ifCond .eq 5, 3) := by decide +kernel
theorem ni_dX19_found_9 : decode cX19_found 9 = .ok (.iconst 0, 1) := by decide +kernel
theorem ni_dX19_found_10 : decode cX19_found 10 = .ok (.ireturn, 1) := by decide +kernel
theorem ni_dX19_isIn_0 : decode cX19_isIn 0 = .ok (.iload_n 0, 1) := by decide +kernel
theorem ni_dX19_isIn_1 : decode cX19_isIn 1 = .ok (.iload_n 1, 1) := by decide +kernel
theorem ni_dX19_isIn_2 : decode cX19_isIn 2 = .ok (.if_icmp .lt 12, 3) := by decide +kernel
theorem ni_dX19_isIn_5 : decode cX19_isIn 5 = .ok (.iload_n 0, 1) := by decide +kernel
theorem ni_dX19_isIn_6 : decode cX19_isIn 6 = .ok (.iload_n 2, 1) := by decide +kernel
theorem ni_dX19_isIn_7 : decode cX19_isIn 7 = .ok (.if_icmp .gt 7, 3) := by decide +kernel
theorem ni_dX19_isIn_10 : decode cX19_isIn 10 = .ok (.iconst 1, 1) := by decide +kernel
theorem ni_dX19_isIn_11 : decode cX19_isIn 11 = .ok (.goto 4, 3) := by decide +kernel
theorem ni_dX19_isIn_14 : decode cX19_isIn 14 = .ok (.iconst 0, 1) := by decide +kernel
theorem ni_dX19_isIn_15 : decode cX19_isIn 15 = .ok (.ireturn, 1) := by decide +kernel
theorem ni_dX19_isNoAddress_0 : decode cX19_isNoAddress 0 = .ok (.aload_n 0, 1) := by decide +kernel
theorem ni_dX19_isNoAddress_1 : decode cX19_isNoAddress 1 = .ok (.iload_n 1, 1) := by decide +kernel
theorem ni_dX19_isNoAddress_2 : decode cX19_isNoAddress 2 = .ok (.invokevirtual 75, 3) := by decide +kernel
theorem ni_dX19_isNoAddress_5 : decode cX19_isNoAddress 5 = .ok (.ifCond .ne 26, 3) := by decide +kernel
theorem ni_dX19_isNoAddress_31 : decode cX19_isNoAddress 31 = .ok (.iconst 1, 1) := by decide +kernel
theorem ni_dX19_isNoAddress_32 : decode cX19_isNoAddress 32 = .ok (.goto 4, 3) := by decide +kernel
theorem ni_dX19_isNoAddress_36 : decode cX19_isNoAddress 36 = .ok (.ireturn, 1) := by decide +kernel
theorem ni_dX19_isNoClass_0 : decode cX19_isNoClass 0 = .ok (.aload_n 0, 1) := by decide +kernel
theorem ni_dX19_isNoClass_1 : decode cX19_isNoClass 1 = .ok (.iload_n 1, 1) := by decide +kernel
theorem ni_dX19_isNoClass_2 : decode cX19_isNoClass 2 = .ok (.invokevirtual 117, 3) := by decide +kernel
theorem ni_dX19_isNoClass_5 : decode cX19_isNoClass 5 = .ok (.ifCond .ne 25, 3) := by decide +kernel
theorem ni_dX19_isNoClass_30 : decode cX19_isNoClass 30 = .ok (.iconst 1, 1) := by decide +kernel
theorem ni_dX19_isNoClass_31 : decode cX19_isNoClass 31 = .ok (.goto 4, 3) := by decide +kernel
theorem ni_dX19_isNoClass_35 : decode cX19_isNoClass 35 = .ok (.ireturn, 1) := by decide +kernel
theorem ni_dX19_isNoFlow_0 : decode cX19_isNoFlow 0 = .ok (.aload_n 0, 1) := by decide +kernel
theorem ni_dX19_isNoFlow_1 : decode cX19_isNoFlow 1 = .ok (.iload_n 1, 1) := by decide +kernel
theorem ni_dX19_isNoFlow_2 : decode cX19_isNoFlow 2 = .ok (.iconst 0, 1) := by decide +kernel
theorem ni_dX19_isNoFlow_3 : decode cX19_isNoFlow 3 = .ok (.aload_n 0, 1) := by decide +kernel
theorem ni_dX19_isNoFlow_4 : decode cX19_isNoFlow 4 = .ok (.getfield 10, 3) := by decide +kernel
theorem ni_dX19_isNoFlow_7 : decode cX19_isNoFlow 7 = .ok (.getfield 82, 3) := by decide +kernel
theorem ni_dX19_isNoFlow_10 : decode cX19_isNoFlow 10 = .ok (.invokevirtual 20, 3) := by decide +kernel
theorem ni_dX19_isNoFlow_13 : decode cX19_isNoFlow 13 = .ok (.iconst 1, 1) := by decide +kernel
theorem ni_dX19_isNoFlow_14 : decode cX19_isNoFlow 14 = .ok (.isub, 1) := by decide +kernel
theorem ni_dX19_isNoFlow_15 : decode cX19_isNoFlow 15 = .ok (.invokestatic 69, 3) := by decide +kernel
theorem ni_dX19_isNoFlow_18 : decode cX19_isNoFlow 18 = .ok (.ifCond .ne 7, 3) := by decide +kernel
theorem ni_dX19_isNoFlow_21 : decode cX19_isNoFlow 21 = .ok (.iconst 1, 1) := by decide +kernel
theorem ni_dX19_isNoFlow_22 : decode cX19_isNoFlow 22 = .ok (.goto 4, 3) := by decide +kernel
theorem ni_dX19_isNoFlow_26 : decode cX19_isNoFlow 26 = .ok (.iconst 1, 1) := by decide +kernel
theorem ni_dX19_isNoFlow_27 : decode cX19_isNoFlow 27 = .ok (.invokevirtual 72, 3) := by decide +kernel
theorem ni_dX19_isNoFlow_30 : decode cX19_isNoFlow 30 = .ok (.ireturn, 1) := by decide +kernel
theorem ni_dX19_isNoLink_0 : decode cX19_isNoLink 0 = .ok (.aload_n 0, 1) := by decide +kernel
theorem ni_dX19_isNoLink_1 : decode cX19_isNoLink 1 = .ok (.iload_n 1, 1) := by decide +kernel
theorem ni_dX19_isNoLink_2 : decode cX19_isNoLink 2 = .ok (.iconst 0, 1) := by decide +kernel
theorem ni_dX19_isNoLink_3 : decode cX19_isNoLink 3 = .ok (.aload_n 0, 1) := by decide +kernel
theorem ni_dX19_isNoLink_4 : decode cX19_isNoLink 4 = .ok (.getfield 10, 3) := by decide +kernel
theorem ni_dX19_isNoLink_7 : decode cX19_isNoLink 7 = .ok (.getfield 79, 3) := by decide +kernel
theorem ni_dX19_isNoLink_10 : decode cX19_isNoLink 10 = .ok (.iconst 1, 1) := by decide +kernel
theorem ni_dX19_isNoLink_11 : decode cX19_isNoLink 11 = .ok (.isub, 1) := by decide +kernel
theorem ni_dX19_isNoLink_12 : decode cX19_isNoLink 12 = .ok (.invokestatic 69, 3) := by decide +kernel
theorem ni_dX19_isNoLink_15 : decode cX19_isNoLink 15 = .ok (.ifCond .ne 7, 3) := by decide +kernel
theorem ni_dX19_isNoLink_18 : decode cX19_isNoLink 18 = .ok (.iconst 1, 1) := by decide +kernel
theorem ni_dX19_isNoLink_19 : decode cX19_isNoLink 19 = .ok (.goto 4, 3) := by decide +kernel
theorem ni_dX19_isNoLink_23 : decode cX19_isNoLink 23 = .ok (.iconst 1, 1) := by decide +kernel
theorem ni_dX19_isNoLink_24 : decode cX19_isNoLink 24 = .ok (.invokevirtual 72, 3) := by decide +kernel
theorem ni_dX19_isNoLink_27 : decode cX19_isNoLink 27 = .ok (.ireturn, 1) := by decide +kernel
theorem ni_dX19_isNoRouter_0 : decode cX19_isNoRouter 0 = .ok (.aload_n 0, 1) := by decide +kernel
theorem ni_dX19_isNoRouter_1 : decode cX19_isNoRouter 1 = .ok (.iload_n 1, 1) := by decide +kernel
theorem ni_dX19_isNoRouter_2 : decode cX19_isNoRouter 2 = .ok (.iconst 0, 1) := by decide +kernel
theorem ni_dX19_isNoRouter_3 : decode cX19_isNoRouter 3 = .ok (.aload_n 0, 1) := by decide +kernel
theorem ni_dX19_isNoRouter_4 : decode cX19_isNoRouter 4 = .ok (.getfield 10, 3) := by decide +kernel
theorem ni_dX19_isNoRouter_7 : decode cX19_isNoRouter 7 = .ok (.getfield 66, 3) := by decide +kernel
theorem ni_dX19_isNoRouter_10 : decode cX19_isNoRouter 10 = .ok (.iconst 1, 1) := by decide +kernel
theorem ni_dX19_isNoRouter_11 : decode cX19_isNoRouter 11 = .ok (.isub, 1) := by decide +kernel
theorem ni_dX19_isNoRouter_12 : decode cX19_isNoRouter 12 = .ok (.invokestatic 69, 3) := by decide +kernel
theorem ni_dX19_isNoRouter_15 : decode cX19_isNoRouter 15 = .ok (.ifCond .ne 7, 3) := by decide +kernel
theorem ni_dX19_isNoRouter_18 : decode cX19_isNoRouter 18 = .ok (.iconst 1, 1) := by decide +kernel
theorem ni_dX19_isNoRouter_19 : decode cX19_isNoRouter 19 = .ok (.goto 4, 3) := by decide +kernel
theorem ni_dX19_isNoRouter_23 : decode cX19_isNoRouter 23 = .ok (.iconst 1, 1) := by decide +kernel
theorem ni_dX19_isNoRouter_24 : decode cX19_isNoRouter 24 = .ok (.invokevirtual 72, 3) := by decide +kernel
theorem ni_dX19_isNoRouter_27 : decode cX19_isNoRouter 27 = .ok (.ireturn, 1) := by decide +kernel
theorem ni_dX19_isSettled_0 : decode cX19_isSettled 0 = .ok (.aload_n 0, 1) := by decide +kernel
theorem ni_dX19_isSettled_1 : decode cX19_isSettled 1 = .ok (.iconst 0, 1) := by decide +kernel
theorem ni_dX19_isSettled_2 : decode cX19_isSettled 2 = .ok (.putfield 59, 3) := by decide +kernel
theorem ni_dX19_isSettled_5 : decode cX19_isSettled 5 = .ok (.aload_n 0, 1) := by decide +kernel
theorem ni_dX19_isSettled_6 : decode cX19_isSettled 6 = .ok (.getfield 10, 3) := by decide +kernel
theorem ni_dX19_isSettled_9 : decode cX19_isSettled 9 = .ok (.invokevirtual 254, 3) := by decide +kernel
theorem ni_dX19_isSettled_12 : decode cX19_isSettled 12 = .ok (.ifCond .ne 7, 3) := by decide +kernel
theorem ni_dX19_isSettled_15 : decode cX19_isSettled 15 = .ok (.iconst 1, 1) := by decide +kernel
theorem ni_dX19_isSettled_16 : decode cX19_isSettled 16 = .ok (.goto 4, 3) := by decide +kernel
theorem ni_dX19_isSettled_20 : decode cX19_isSettled 20 = .ok (.ireturn, 1) := by decide +kernel
theorem ni_dX19_isUp_0 : decode cX19_isUp 0 = .ok (.aload_n 0, 1) := by decide +kernel
theorem ni_dX19_isUp_1 : decode cX19_isUp 1 = .ok (.iload_n 1, 1) := by decide +kernel
theorem ni_dX19_isUp_2 : decode cX19_isUp 2 = .ok (.invokevirtual 117, 3) := by decide +kernel
theorem ni_dX19_isUp_5 : decode cX19_isUp 5 = .ok (.ifCond .ne 19, 3) := by decide +kernel
theorem ni_dX19_isUp_24 : decode cX19_isUp 24 = .ok (.iconst 0, 1) := by decide +kernel
theorem ni_dX19_isUp_25 : decode cX19_isUp 25 = .ok (.ireturn, 1) := by decide +kernel
theorem ni_dX19_latest_0 : decode cX19_latest 0 = .ok (.aload_n 0, 1) := by decide +kernel
theorem ni_dX19_latest_1 : decode cX19_latest 1 = .ok (.iload_n 1, 1) := by decide +kernel
theorem ni_dX19_latest_2 : decode cX19_latest 2 = .ok (.invokevirtual 213, 3) := by decide +kernel
theorem ni_dX19_latest_5 : decode cX19_latest 5 = .ok (.ifCond .eq 7, 3) := by decide +kernel
theorem ni_dX19_latest_8 : decode cX19_latest 8 = .ok (.iconst 0, 1) := by decide +kernel
theorem ni_dX19_latest_9 : decode cX19_latest 9 = .ok (.goto 20, 3) := by decide +kernel
theorem ni_dX19_latest_29 : decode cX19_latest 29 = .ok (.ireturn, 1) := by decide +kernel
theorem ni_dX19_letterOf_0 : decode cX19_letterOf 0 = .ok (.aload_n 0, 1) := by decide +kernel
theorem ni_dX19_letterOf_1 : decode cX19_letterOf 1 = .ok (.iload_n 1, 1) := by decide +kernel
theorem ni_dX19_letterOf_2 : decode cX19_letterOf 2 = .ok (.iload_n 2, 1) := by decide +kernel
theorem ni_dX19_letterOf_3 : decode cX19_letterOf 3 = .ok (.invokevirtual 86, 3) := by decide +kernel
theorem ni_dX19_letterOf_6 : decode cX19_letterOf 6 = .ok (.ifCond .eq 7, 3) := by decide +kernel
theorem ni_dX19_letterOf_9 : decode cX19_letterOf 9 = .ok (.iconst 0, 1) := by decide +kernel
theorem ni_dX19_letterOf_10 : decode cX19_letterOf 10 = .ok (.goto 12, 3) := by decide +kernel
theorem ni_dX19_letterOf_22 : decode cX19_letterOf 22 = .ok (.ireturn, 1) := by decide +kernel
theorem ni_dX19_letters_0 : decode cX19_letters 0 = .ok (.aload_n 0, 1) := by decide +kernel
theorem ni_dX19_letters_1 : decode cX19_letters 1 = .ok (.aload_n 0, 1) := by decide +kernel
theorem ni_dX19_letters_2 : decode cX19_letters 2 = .ok (.getfield 10, 3) := by decide +kernel
theorem ni_dX19_letters_5 : decode cX19_letters 5 = .ok (.invokevirtual 254, 3) := by decide +kernel
theorem ni_dX19_letters_8 : decode cX19_letters 8 = .ok (.invokevirtual 247, 3) := by decide +kernel
theorem ni_dX19_letters_11 : decode cX19_letters 11 = .ok (.ireturn, 1) := by decide +kernel
theorem ni_dX19_links_0 : decode cX19_links 0 = .ok (.aload_n 0, 1) := by decide +kernel
theorem ni_dX19_links_1 : decode cX19_links 1 = .ok (.aload_n 0, 1) := by decide +kernel
theorem ni_dX19_links_2 : decode cX19_links 2 = .ok (.getfield 10, 3) := by decide +kernel
theorem ni_dX19_links_5 : decode cX19_links 5 = .ok (.getfield 79, 3) := by decide +kernel
theorem ni_dX19_links_8 : decode cX19_links 8 = .ok (.invokevirtual 247, 3) := by decide +kernel
theorem ni_dX19_links_11 : decode cX19_links 11 = .ok (.ireturn, 1) := by decide +kernel
theorem ni_dX19_looks__0 : decode cX19_looks_ 0 = .ok (.aload_n 0, 1) := by decide +kernel
theorem ni_dX19_looks__1 : decode cX19_looks_ 1 = .ok (.iload_n 1, 1) := by decide +kernel
theorem ni_dX19_looks__2 : decode cX19_looks_ 2 = .ok (.iload_n 2, 1) := by decide +kernel
theorem ni_dX19_looks__3 : decode cX19_looks_ 3 = .ok (.invokevirtual 275, 3) := by decide +kernel
