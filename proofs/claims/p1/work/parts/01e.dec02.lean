theorem ni_dX19_looks__6 : decode cX19_looks_ 6 = .ok (.ifCond .eq 7, 3) := by decide +kernel
theorem ni_dX19_looks__9 : decode cX19_looks_ 9 = .ok (.iconst 0, 1) := by decide +kernel
theorem ni_dX19_looks__10 : decode cX19_looks_ 10 = .ok (.goto 24, 3) := by decide +kernel
theorem ni_dX19_looks__34 : decode cX19_looks_ 34 = .ok (.ireturn, 1) := by decide +kernel
theorem ni_dX19_meanLate_0 : decode cX19_meanLate 0 = .ok (.aload_n 0, 1) := by decide +kernel
theorem ni_dX19_meanLate_1 : decode cX19_meanLate 1 = .ok (.iload_n 1, 1) := by decide +kernel
theorem ni_dX19_meanLate_2 : decode cX19_meanLate 2 = .ok (.invokevirtual 213, 3) := by decide +kernel
theorem ni_dX19_meanLate_5 : decode cX19_meanLate 5 = .ok (.ifCond .eq 5, 3) := by decide +kernel
theorem ni_dX19_meanLate_8 : decode cX19_meanLate 8 = .ok (.dconst 0, 1) := by decide +kernel
theorem ni_dX19_meanLate_9 : decode cX19_meanLate 9 = .ok (.dreturn, 1) := by decide +kernel
theorem ni_dX19_networks_0 : decode cX19_networks 0 = .ok (.aload_n 0, 1) := by decide +kernel
theorem ni_dX19_networks_1 : decode cX19_networks 1 = .ok (.aload_n 0, 1) := by decide +kernel
theorem ni_dX19_networks_2 : decode cX19_networks 2 = .ok (.getfield 10, 3) := by decide +kernel
theorem ni_dX19_networks_5 : decode cX19_networks 5 = .ok (.getfield 131, 3) := by decide +kernel
theorem ni_dX19_networks_8 : decode cX19_networks 8 = .ok (.invokevirtual 247, 3) := by decide +kernel
theorem ni_dX19_networks_11 : decode cX19_networks 11 = .ok (.ireturn, 1) := by decide +kernel
theorem ni_dX19_nextLink_0 : decode cX19_nextLink 0 = .ok (.aload_n 0, 1) := by decide +kernel
theorem ni_dX19_nextLink_1 : decode cX19_nextLink 1 = .ok (.iload_n 1, 1) := by decide +kernel
theorem ni_dX19_nextLink_2 : decode cX19_nextLink 2 = .ok (.invokevirtual 75, 3) := by decide +kernel
theorem ni_dX19_nextLink_5 : decode cX19_nextLink 5 = .ok (.ifCond .ne 36, 3) := by decide +kernel
theorem ni_dX19_nextLink_41 : decode cX19_nextLink 41 = .ok (.iconst 0, 1) := by decide +kernel
theorem ni_dX19_nextLink_42 : decode cX19_nextLink 42 = .ok (.goto 12, 3) := by decide +kernel
theorem ni_dX19_nextLink_54 : decode cX19_nextLink 54 = .ok (.ireturn, 1) := by decide +kernel
theorem ni_dX19_offered_0 : decode cX19_offered 0 = .ok (.aload_n 0, 1) := by decide +kernel
theorem ni_dX19_offered_1 : decode cX19_offered 1 = .ok (.iload_n 1, 1) := by decide +kernel
theorem ni_dX19_offered_2 : decode cX19_offered 2 = .ok (.invokevirtual 213, 3) := by decide +kernel
theorem ni_dX19_offered_5 : decode cX19_offered 5 = .ok (.ifCond .eq 7, 3) := by decide +kernel
theorem ni_dX19_offered_8 : decode cX19_offered 8 = .ok (.iconst 0, 1) := by decide +kernel
theorem ni_dX19_offered_9 : decode cX19_offered 9 = .ok (.goto 20, 3) := by decide +kernel
theorem ni_dX19_offered_29 : decode cX19_offered 29 = .ok (.ireturn, 1) := by decide +kernel
theorem ni_dX19_onLink_0 : decode cX19_onLink 0 = .ok (.aload_n 0, 1) := by decide +kernel
theorem ni_dX19_onLink_1 : decode cX19_onLink 1 = .ok (.iload_n 1, 1) := by decide +kernel
theorem ni_dX19_onLink_2 : decode cX19_onLink 2 = .ok (.invokevirtual 117, 3) := by decide +kernel
theorem ni_dX19_onLink_5 : decode cX19_onLink 5 = .ok (.ifCond .eq 7, 3) := by decide +kernel
theorem ni_dX19_onLink_8 : decode cX19_onLink 8 = .ok (.iconst 0, 1) := by decide +kernel
theorem ni_dX19_onLink_9 : decode cX19_onLink 9 = .ok (.goto 8, 3) := by decide +kernel
theorem ni_dX19_onLink_17 : decode cX19_onLink 17 = .ok (.ireturn, 1) := by decide +kernel
theorem ni_dX19_outOfOrder_0 : decode cX19_outOfOrder 0 = .ok (.aload_n 0, 1) := by decide +kernel
theorem ni_dX19_outOfOrder_1 : decode cX19_outOfOrder 1 = .ok (.iload_n 1, 1) := by decide +kernel
theorem ni_dX19_outOfOrder_2 : decode cX19_outOfOrder 2 = .ok (.invokevirtual 213, 3) := by decide +kernel
theorem ni_dX19_outOfOrder_5 : decode cX19_outOfOrder 5 = .ok (.ifCond .eq 7, 3) := by decide +kernel
theorem ni_dX19_outOfOrder_8 : decode cX19_outOfOrder 8 = .ok (.iconst 0, 1) := by decide +kernel
theorem ni_dX19_outOfOrder_9 : decode cX19_outOfOrder 9 = .ok (.goto 20, 3) := by decide +kernel
theorem ni_dX19_outOfOrder_29 : decode cX19_outOfOrder 29 = .ok (.ireturn, 1) := by decide +kernel
theorem ni_dX19_plain_0 : decode cX19_plain 0 = .ok (.aload_n 0, 1) := by decide +kernel
theorem ni_dX19_plain_1 : decode cX19_plain 1 = .ok (.iconst 0, 1) := by decide +kernel
theorem ni_dX19_plain_2 : decode cX19_plain 2 = .ok (.putfield 59, 3) := by decide +kernel
theorem ni_dX19_plain_5 : decode cX19_plain 5 = .ok (.iload_n 1, 1) := by decide +kernel
theorem ni_dX19_plain_6 : decode cX19_plain 6 = .ok (.ireturn, 1) := by decide +kernel
theorem ni_dX19_queued_0 : decode cX19_queued 0 = .ok (.aload_n 0, 1) := by decide +kernel
theorem ni_dX19_queued_1 : decode cX19_queued 1 = .ok (.iload_n 1, 1) := by decide +kernel
theorem ni_dX19_queued_2 : decode cX19_queued 2 = .ok (.iload_n 3, 1) := by decide +kernel
theorem ni_dX19_queued_3 : decode cX19_queued 3 = .ok (.invokevirtual 302, 3) := by decide +kernel
theorem ni_dX19_queued_6 : decode cX19_queued 6 = .ok (.ifCond .eq 7, 3) := by decide +kernel
theorem ni_dX19_queued_9 : decode cX19_queued 9 = .ok (.iconst 0, 1) := by decide +kernel
theorem ni_dX19_queued_10 : decode cX19_queued 10 = .ok (.goto 14, 3) := by decide +kernel
theorem ni_dX19_queued_24 : decode cX19_queued 24 = .ok (.ireturn, 1) := by decide +kernel
theorem ni_dX19_refuse_0 : decode cX19_refuse 0 = .ok (.iload_n 1, 1) := by decide +kernel
theorem ni_dX19_refuse_1 : decode cX19_refuse 1 = .ok (.ifCond .eq 15, 3) := by decide +kernel
theorem ni_dX19_refuse_4 : decode cX19_refuse 4 = .ok (.aload_n 0, 1) := by decide +kernel
theorem ni_dX19_refuse_5 : decode cX19_refuse 5 = .ok (.getfield 59, 3) := by decide +kernel
theorem ni_dX19_refuse_8 : decode cX19_refuse 8 = .ok (.ifCond .ne 8, 3) := by decide +kernel
theorem ni_dX19_refuse_11 : decode cX19_refuse 11 = .ok (.aload_n 0, 1) := by decide +kernel
theorem ni_dX19_refuse_12 : decode cX19_refuse 12 = .ok (.iload_n 2, 1) := by decide +kernel
theorem ni_dX19_refuse_13 : decode cX19_refuse 13 = .ok (.putfield 59, 3) := by decide +kernel
theorem ni_dX19_refuse_16 : decode cX19_refuse 16 = .ok (.aload_n 0, 1) := by decide +kernel
theorem ni_dX19_refuse_17 : decode cX19_refuse 17 = .ok (.getfield 59, 3) := by decide +kernel
theorem ni_dX19_refuse_20 : decode cX19_refuse 20 = .ok (.ifCond .le 7, 3) := by decide +kernel
theorem ni_dX19_refuse_23 : decode cX19_refuse 23 = .ok (.iconst 1, 1) := by decide +kernel
theorem ni_dX19_refuse_24 : decode cX19_refuse 24 = .ok (.goto 4, 3) := by decide +kernel
theorem ni_dX19_refuse_27 : decode cX19_refuse 27 = .ok (.iconst 0, 1) := by decide +kernel
theorem ni_dX19_refuse_28 : decode cX19_refuse 28 = .ok (.ireturn, 1) := by decide +kernel
theorem ni_dX19_route_0 : decode cX19_route 0 = .ok (.aload_n 0, 1) := by decide +kernel
theorem ni_dX19_route_1 : decode cX19_route 1 = .ok (.iload_n 1, 1) := by decide +kernel
theorem ni_dX19_route_2 : decode cX19_route 2 = .ok (.invokevirtual 213, 3) := by decide +kernel
theorem ni_dX19_route_5 : decode cX19_route 5 = .ok (.ifCond .eq 7, 3) := by decide +kernel
theorem ni_dX19_route_8 : decode cX19_route 8 = .ok (.iconst 0, 1) := by decide +kernel
theorem ni_dX19_route_9 : decode cX19_route 9 = .ok (.goto 11, 3) := by decide +kernel
theorem ni_dX19_route_20 : decode cX19_route 20 = .ok (.ireturn, 1) := by decide +kernel
theorem ni_dX19_routers_0 : decode cX19_routers 0 = .ok (.aload_n 0, 1) := by decide +kernel
theorem ni_dX19_routers_1 : decode cX19_routers 1 = .ok (.aload_n 0, 1) := by decide +kernel
theorem ni_dX19_routers_2 : decode cX19_routers 2 = .ok (.getfield 10, 3) := by decide +kernel
theorem ni_dX19_routers_5 : decode cX19_routers 5 = .ok (.getfield 66, 3) := by decide +kernel
theorem ni_dX19_routers_8 : decode cX19_routers 8 = .ok (.invokevirtual 247, 3) := by decide +kernel
theorem ni_dX19_routers_11 : decode cX19_routers 11 = .ok (.ireturn, 1) := by decide +kernel
theorem ni_dX19_schedule_0 : decode cX19_schedule 0 = .ok (.aload_n 0, 1) := by decide +kernel
theorem ni_dX19_schedule_1 : decode cX19_schedule 1 = .ok (.iload_n 1, 1) := by decide +kernel
theorem ni_dX19_schedule_2 : decode cX19_schedule 2 = .ok (.invokevirtual 213, 3) := by decide +kernel
theorem ni_dX19_schedule_5 : decode cX19_schedule 5 = .ok (.ifCond .ne 88, 3) := by decide +kernel
theorem ni_dX19_schedule_93 : decode cX19_schedule 93 = .ok (.iconst 0, 1) := by decide +kernel
theorem ni_dX19_schedule_94 : decode cX19_schedule 94 = .ok (.ireturn, 1) := by decide +kernel
theorem ni_dX19_sending_0 : decode cX19_sending 0 = .ok (.aload_n 0, 1) := by decide +kernel
theorem ni_dX19_sending_1 : decode cX19_sending 1 = .ok (.iload_n 1, 1) := by decide +kernel
theorem ni_dX19_sending_2 : decode cX19_sending 2 = .ok (.invokevirtual 117, 3) := by decide +kernel
theorem ni_dX19_sending_5 : decode cX19_sending 5 = .ok (.ifCond .eq 7, 3) := by decide +kernel
theorem ni_dX19_sending_8 : decode cX19_sending 8 = .ok (.iconst 0, 1) := by decide +kernel
theorem ni_dX19_sending_9 : decode cX19_sending 9 = .ok (.goto 12, 3) := by decide +kernel
theorem ni_dX19_sending_21 : decode cX19_sending 21 = .ok (.ireturn, 1) := by decide +kernel
theorem ni_dX19_setCost_0 : decode cX19_setCost 0 = .ok (.aload_n 0, 1) := by decide +kernel
theorem ni_dX19_setCost_1 : decode cX19_setCost 1 = .ok (.iload_n 1, 1) := by decide +kernel
theorem ni_dX19_setCost_2 : decode cX19_setCost 2 = .ok (.invokevirtual 117, 3) := by decide +kernel
theorem ni_dX19_setCost_5 : decode cX19_setCost 5 = .ok (.ifCond .ne 26, 3) := by decide +kernel
theorem ni_dX19_setCost_31 : decode cX19_setCost 31 = .ok (.iconst 0, 1) := by decide +kernel
theorem ni_dX19_setCost_32 : decode cX19_setCost 32 = .ok (.ireturn, 1) := by decide +kernel
theorem ni_dX19_setPort_0 : decode cX19_setPort 0 = .ok (.aload_n 0, 1) := by decide +kernel
theorem ni_dX19_setPort_1 : decode cX19_setPort 1 = .ok (.iload_n 1, 1) := by decide +kernel
theorem ni_dX19_setPort_2 : decode cX19_setPort 2 = .ok (.invokevirtual 117, 3) := by decide +kernel
theorem ni_dX19_setPort_5 : decode cX19_setPort 5 = .ok (.ifCond .ne 38, 3) := by decide +kernel
theorem ni_dX19_setPort_43 : decode cX19_setPort 43 = .ok (.iconst 0, 1) := by decide +kernel
theorem ni_dX19_setPort_44 : decode cX19_setPort 44 = .ok (.ireturn, 1) := by decide +kernel
theorem ni_dX19_setUp_0 : decode cX19_setUp 0 = .ok (.aload_n 0, 1) := by decide +kernel
theorem ni_dX19_setUp_1 : decode cX19_setUp 1 = .ok (.iload_n 1, 1) := by decide +kernel
theorem ni_dX19_setUp_2 : decode cX19_setUp 2 = .ok (.invokevirtual 117, 3) := by decide +kernel
theorem ni_dX19_setUp_5 : decode cX19_setUp 5 = .ok (.ifCond .eq 5, 3) := by decide +kernel
theorem ni_dX19_setUp_8 : decode cX19_setUp 8 = .ok (.iconst 0, 1) := by decide +kernel
theorem ni_dX19_setUp_9 : decode cX19_setUp 9 = .ok (.ireturn, 1) := by decide +kernel
theorem ni_dX19_setWeight_0 : decode cX19_setWeight 0 = .ok (.aload_n 0, 1) := by decide +kernel
theorem ni_dX19_setWeight_1 : decode cX19_setWeight 1 = .ok (.iload_n 1, 1) := by decide +kernel
theorem ni_dX19_setWeight_2 : decode cX19_setWeight 2 = .ok (.invokevirtual 117, 3) := by decide +kernel
theorem ni_dX19_setWeight_5 : decode cX19_setWeight 5 = .ok (.ifCond .ne 48, 3) := by decide +kernel
theorem ni_dX19_setWeight_53 : decode cX19_setWeight 53 = .ok (.iconst 0, 1) := by decide +kernel
theorem ni_dX19_setWeight_54 : decode cX19_setWeight 54 = .ok (.ireturn, 1) := by decide +kernel
theorem ni_dX19_settledIn_0 : decode cX19_settledIn 0 = .ok (.aload_n 0, 1) := by decide +kernel
theorem ni_dX19_settledIn_1 : decode cX19_settledIn 1 = .ok (.iload_n 1, 1) := by decide +kernel
theorem ni_dX19_settledIn_2 : decode cX19_settledIn 2 = .ok (.iconst 1, 1) := by decide +kernel
theorem ni_dX19_settledIn_3 : decode cX19_settledIn 3 = .ok (.bipush 60, 2) := by decide +kernel
theorem ni_dX19_settledIn_5 : decode cX19_settledIn 5 = .ok (.invokestatic 69, 3) := by decide +kernel
theorem ni_dX19_settledIn_8 : decode cX19_settledIn 8 = .ok (.ifCond .ne 7, 3) := by decide +kernel
theorem ni_dX19_settledIn_11 : decode cX19_settledIn 11 = .ok (.iconst 1, 1) := by decide +kernel
theorem ni_dX19_settledIn_12 : decode cX19_settledIn 12 = .ok (.goto 4, 3) := by decide +kernel
theorem ni_dX19_settledIn_15 : decode cX19_settledIn 15 = .ok (.iconst 0, 1) := by decide +kernel
theorem ni_dX19_settledIn_16 : decode cX19_settledIn 16 = .ok (.iconst 1, 1) := by decide +kernel
theorem ni_dX19_settledIn_17 : decode cX19_settledIn 17 = .ok (.invokevirtual 72, 3) := by decide +kernel
theorem ni_dX19_settledIn_20 : decode cX19_settledIn 20 = .ok (.ifCond .eq 5, 3) := by decide +kernel
theorem ni_dX19_settledIn_23 : decode cX19_settledIn 23 = .ok (.iconst 0, 1) := by decide +kernel
theorem ni_dX19_settledIn_24 : decode cX19_settledIn 24 = .ok (.ireturn, 1) := by decide +kernel
theorem ni_dX19_settledIn_25 : decode cX19_settledIn 25 = .ok (.aload_n 0, 1) := by decide +kernel
theorem ni_dX19_settledIn_26 : decode cX19_settledIn 26 = .ok (.getfield 10, 3) := by decide +kernel
theorem ni_dX19_settledIn_29 : decode cX19_settledIn 29 = .ok (.invokevirtual 340, 3) := by decide +kernel
theorem ni_dX19_settledIn_32 : decode cX19_settledIn 32 = .ok (.astore_n 2, 1) := by decide +kernel
theorem ni_dX19_settledIn_33 : decode cX19_settledIn 33 = .ok (.iconst 0, 1) := by decide +kernel
theorem ni_dX19_settledIn_34 : decode cX19_settledIn 34 = .ok (.istore_n 3, 1) := by decide +kernel
theorem ni_dX19_settledIn_35 : decode cX19_settledIn 35 = .ok (.iload_n 3, 1) := by decide +kernel
theorem ni_dX19_settledIn_36 : decode cX19_settledIn 36 = .ok (.iload_n 1, 1) := by decide +kernel
theorem ni_dX19_settledIn_37 : decode cX19_settledIn 37 = .ok (.if_icmp .gt 22, 3) := by decide +kernel
theorem ni_dX19_settledIn_40 : decode cX19_settledIn 40 = .ok (.aload_n 2, 1) := by decide +kernel
theorem ni_dX19_settledIn_41 : decode cX19_settledIn 41 = .ok (.invokevirtual 254, 3) := by decide +kernel
theorem ni_dX19_settledIn_44 : decode cX19_settledIn 44 = .ok (.ifCond .ne 5, 3) := by decide +kernel
theorem ni_dX19_settledIn_47 : decode cX19_settledIn 47 = .ok (.iload_n 3, 1) := by decide +kernel
theorem ni_dX19_settledIn_48 : decode cX19_settledIn 48 = .ok (.ireturn, 1) := by decide +kernel
theorem ni_dX19_shape_0 : decode cX19_shape 0 = .ok (.aload_n 0, 1) := by decide +kernel
theorem ni_dX19_shape_1 : decode cX19_shape 1 = .ok (.iload_n 1, 1) := by decide +kernel
theorem ni_dX19_shape_2 : decode cX19_shape 2 = .ok (.invokevirtual 213, 3) := by decide +kernel
theorem ni_dX19_shape_5 : decode cX19_shape 5 = .ok (.ifCond .ne 54, 3) := by decide +kernel
theorem ni_dX19_shape_59 : decode cX19_shape 59 = .ok (.iconst 0, 1) := by decide +kernel
theorem ni_dX19_shape_60 : decode cX19_shape 60 = .ok (.ireturn, 1) := by decide +kernel
theorem ni_dX19_shaping_0 : decode cX19_shaping 0 = .ok (.aload_n 0, 1) := by decide +kernel
theorem ni_dX19_shaping_1 : decode cX19_shaping 1 = .ok (.iload_n 1, 1) := by decide +kernel
theorem ni_dX19_shaping_2 : decode cX19_shaping 2 = .ok (.invokevirtual 213, 3) := by decide +kernel
theorem ni_dX19_shaping_5 : decode cX19_shaping 5 = .ok (.ifCond .eq 7, 3) := by decide +kernel
theorem ni_dX19_shaping_8 : decode cX19_shaping 8 = .ok (.iconst 0, 1) := by decide +kernel
theorem ni_dX19_shaping_9 : decode cX19_shaping 9 = .ok (.goto 23, 3) := by decide +kernel
theorem ni_dX19_shaping_32 : decode cX19_shaping 32 = .ok (.ireturn, 1) := by decide +kernel
theorem ni_dX19_sortOf_0 : decode cX19_sortOf 0 = .ok (.aload_n 0, 1) := by decide +kernel
theorem ni_dX19_sortOf_1 : decode cX19_sortOf 1 = .ok (.iload_n 1, 1) := by decide +kernel
theorem ni_dX19_sortOf_2 : decode cX19_sortOf 2 = .ok (.iload_n 2, 1) := by decide +kernel
theorem ni_dX19_sortOf_3 : decode cX19_sortOf 3 = .ok (.invokevirtual 275, 3) := by decide +kernel
theorem ni_dX19_sortOf_6 : decode cX19_sortOf 6 = .ok (.ifCond .eq 5, 3) := by decide +kernel
theorem ni_dX19_sortOf_9 : decode cX19_sortOf 9 = .ok (.iconst 0, 1) := by decide +kernel
theorem ni_dX19_sortOf_10 : decode cX19_sortOf 10 = .ok (.ireturn, 1) := by decide +kernel
theorem ni_dX19_start_0 : decode cX19_start 0 = .ok (.aload_n 0, 1) := by decide +kernel
theorem ni_dX19_start_1 : decode cX19_start 1 = .ok (.iconst 0, 1) := by decide +kernel
theorem ni_dX19_start_2 : decode cX19_start 2 = .ok (.putfield 59, 3) := by decide +kernel
theorem ni_dX19_start_5 : decode cX19_start 5 = .ok (.aload_n 0, 1) := by decide +kernel
theorem ni_dX19_start_6 : decode cX19_start 6 = .ok (.iload_n 1, 1) := by decide +kernel
theorem ni_dX19_start_7 : decode cX19_start 7 = .ok (.iload_n 2, 1) := by decide +kernel
theorem ni_dX19_start_8 : decode cX19_start 8 = .ok (.invokevirtual 62, 3) := by decide +kernel
theorem ni_dX19_start_11 : decode cX19_start 11 = .ok (.ireturn, 1) := by decide +kernel
theorem ni_dX19_statics_0 : decode cX19_statics 0 = .ok (.aload_n 0, 1) := by decide +kernel
theorem ni_dX19_statics_1 : decode cX19_statics 1 = .ok (.aload_n 0, 1) := by decide +kernel
theorem ni_dX19_statics_2 : decode cX19_statics 2 = .ok (.getfield 10, 3) := by decide +kernel
theorem ni_dX19_statics_5 : decode cX19_statics 5 = .ok (.getfield 156, 3) := by decide +kernel
theorem ni_dX19_statics_8 : decode cX19_statics 8 = .ok (.invokevirtual 247, 3) := by decide +kernel
theorem ni_dX19_statics_11 : decode cX19_statics 11 = .ok (.ireturn, 1) := by decide +kernel
theorem ni_dX19_step_0 : decode cX19_step 0 = .ok (.aload_n 0, 1) := by decide +kernel
theorem ni_dX19_step_1 : decode cX19_step 1 = .ok (.iload_n 1, 1) := by decide +kernel
theorem ni_dX19_step_2 : decode cX19_step 2 = .ok (.iconst 1, 1) := by decide +kernel
theorem ni_dX19_step_3 : decode cX19_step 3 = .ok (.bipush 60, 2) := by decide +kernel
theorem ni_dX19_step_5 : decode cX19_step 5 = .ok (.invokestatic 69, 3) := by decide +kernel
theorem ni_dX19_step_8 : decode cX19_step 8 = .ok (.ifCond .ne 7, 3) := by decide +kernel
theorem ni_dX19_step_11 : decode cX19_step 11 = .ok (.iconst 1, 1) := by decide +kernel
theorem ni_dX19_step_12 : decode cX19_step 12 = .ok (.goto 4, 3) := by decide +kernel
theorem ni_dX19_step_15 : decode cX19_step 15 = .ok (.iconst 0, 1) := by decide +kernel
theorem ni_dX19_step_16 : decode cX19_step 16 = .ok (.iconst 1, 1) := by decide +kernel
theorem ni_dX19_step_17 : decode cX19_step 17 = .ok (.invokevirtual 72, 3) := by decide +kernel
theorem ni_dX19_step_20 : decode cX19_step 20 = .ok (.ifCond .eq 5, 3) := by decide +kernel
theorem ni_dX19_step_23 : decode cX19_step 23 = .ok (.iconst 0, 1) := by decide +kernel
theorem ni_dX19_step_24 : decode cX19_step 24 = .ok (.ireturn, 1) := by decide +kernel
theorem ni_dX19_step_25 : decode cX19_step 25 = .ok (.iconst 0, 1) := by decide +kernel
theorem ni_dX19_step_26 : decode cX19_step 26 = .ok (.istore_n 2, 1) := by decide +kernel
theorem ni_dX19_step_27 : decode cX19_step 27 = .ok (.iload_n 2, 1) := by decide +kernel
theorem ni_dX19_step_28 : decode cX19_step 28 = .ok (.iload_n 1, 1) := by decide +kernel
theorem ni_dX19_step_29 : decode cX19_step 29 = .ok (.if_icmp .ge 16, 3) := by decide +kernel
theorem ni_dX19_step_32 : decode cX19_step 32 = .ok (.aload_n 0, 1) := by decide +kernel
theorem ni_dX19_step_33 : decode cX19_step 33 = .ok (.getfield 10, 3) := by decide +kernel
theorem ni_dX19_step_36 : decode cX19_step 36 = .ok (.invokevirtual 244, 3) := by decide +kernel
theorem ni_dX19_step_39 : decode cX19_step 39 = .ok (.iinc 2 1, 3) := by decide +kernel
theorem ni_dX19_step_42 : decode cX19_step 42 = .ok (.goto (-15), 3) := by decide +kernel
theorem ni_dX19_step_45 : decode cX19_step 45 = .ok (.aload_n 0, 1) := by decide +kernel
theorem ni_dX19_step_46 : decode cX19_step 46 = .ok (.getfield 10, 3) := by decide +kernel
theorem ni_dX19_step_49 : decode cX19_step 49 = .ok (.getfield 216, 3) := by decide +kernel
theorem ni_dX19_step_52 : decode cX19_step 52 = .ok (.ireturn, 1) := by decide +kernel
theorem ni_dX19_thrown_0 : decode cX19_thrown 0 = .ok (.aload_n 0, 1) := by decide +kernel
theorem ni_dX19_thrown_1 : decode cX19_thrown 1 = .ok (.getfield 59, 3) := by decide +kernel
theorem ni_dX19_thrown_4 : decode cX19_thrown 4 = .ok (.ireturn, 1) := by decide +kernel
theorem ni_dX19_time_0 : decode cX19_time 0 = .ok (.aload_n 0, 1) := by decide +kernel
theorem ni_dX19_time_1 : decode cX19_time 1 = .ok (.aload_n 0, 1) := by decide +kernel
theorem ni_dX19_time_2 : decode cX19_time 2 = .ok (.getfield 10, 3) := by decide +kernel
theorem ni_dX19_time_5 : decode cX19_time 5 = .ok (.getfield 216, 3) := by decide +kernel
theorem ni_dX19_time_8 : decode cX19_time 8 = .ok (.invokevirtual 247, 3) := by decide +kernel
theorem ni_dX19_time_11 : decode cX19_time 11 = .ok (.ireturn, 1) := by decide +kernel
theorem ni_dX19_tokens_0 : decode cX19_tokens 0 = .ok (.aload_n 0, 1) := by decide +kernel
theorem ni_dX19_tokens_1 : decode cX19_tokens 1 = .ok (.iload_n 1, 1) := by decide +kernel
theorem ni_dX19_tokens_2 : decode cX19_tokens 2 = .ok (.invokevirtual 213, 3) := by decide +kernel
theorem ni_dX19_tokens_5 : decode cX19_tokens 5 = .ok (.ifCond .eq 7, 3) := by decide +kernel
theorem ni_dX19_tokens_8 : decode cX19_tokens 8 = .ok (.iconst 0, 1) := by decide +kernel
theorem ni_dX19_tokens_9 : decode cX19_tokens 9 = .ok (.goto 20, 3) := by decide +kernel
theorem ni_dX19_tokens_29 : decode cX19_tokens 29 = .ok (.ireturn, 1) := by decide +kernel
theorem ni_dX19_trieDepth_0 : decode cX19_trieDepth 0 = .ok (.aload_n 0, 1) := by decide +kernel
theorem ni_dX19_trieDepth_1 : decode cX19_trieDepth 1 = .ok (.iload_n 1, 1) := by decide +kernel
theorem ni_dX19_trieDepth_2 : decode cX19_trieDepth 2 = .ok (.invokevirtual 75, 3) := by decide +kernel
theorem ni_dX19_trieDepth_5 : decode cX19_trieDepth 5 = .ok (.ifCond .eq 7, 3) := by decide +kernel
theorem ni_dX19_trieDepth_8 : decode cX19_trieDepth 8 = .ok (.iconst 0, 1) := by decide +kernel
theorem ni_dX19_trieDepth_9 : decode cX19_trieDepth 9 = .ok (.goto 23, 3) := by decide +kernel
theorem ni_dX19_trieDepth_32 : decode cX19_trieDepth 32 = .ok (.ireturn, 1) := by decide +kernel
theorem ni_dX19_trieNodes_0 : decode cX19_trieNodes 0 = .ok (.aload_n 0, 1) := by decide +kernel
theorem ni_dX19_trieNodes_1 : decode cX19_trieNodes 1 = .ok (.iload_n 1, 1) := by decide +kernel
theorem ni_dX19_trieNodes_2 : decode cX19_trieNodes 2 = .ok (.invokevirtual 75, 3) := by decide +kernel
theorem ni_dX19_trieNodes_5 : decode cX19_trieNodes 5 = .ok (.ifCond .eq 7, 3) := by decide +kernel
theorem ni_dX19_trieNodes_8 : decode cX19_trieNodes 8 = .ok (.iconst 0, 1) := by decide +kernel
theorem ni_dX19_trieNodes_9 : decode cX19_trieNodes 9 = .ok (.goto 23, 3) := by decide +kernel
theorem ni_dX19_trieNodes_32 : decode cX19_trieNodes 32 = .ok (.ireturn, 1) := by decide +kernel
theorem ni_dX19_waiting_0 : decode cX19_waiting 0 = .ok (.aload_n 0, 1) := by decide +kernel
theorem ni_dX19_waiting_1 : decode cX19_waiting 1 = .ok (.iload_n 1, 1) := by decide +kernel
theorem ni_dX19_waiting_2 : decode cX19_waiting 2 = .ok (.invokevirtual 117, 3) := by decide +kernel
theorem ni_dX19_waiting_5 : decode cX19_waiting 5 = .ok (.ifCond .eq 7, 3) := by decide +kernel
theorem ni_dX19_waiting_8 : decode cX19_waiting 8 = .ok (.iconst 0, 1) := by decide +kernel
theorem ni_dX19_waiting_9 : decode cX19_waiting 9 = .ok (.goto 16, 3) := by decide +kernel
theorem ni_dX19_waiting_25 : decode cX19_waiting 25 = .ok (.ireturn, 1) := by decide +kernel
theorem ni_dX15_init_0 : decode cX15_init 0 = .ok (.aload_n 0, 1) := by decide +kernel
theorem ni_dX15_init_1 : decode cX15_init 1 = .ok (.invokespecial 3, 3) := by decide +kernel
theorem ni_dX15_init_4 : decode cX15_init 4 = .ok (.aload_n 0, 1) := by decide +kernel
theorem ni_dX15_init_5 : decode cX15_init 5 = .ok (.bipush 14, 2) := by decide +kernel
theorem ni_dX15_init_7 : decode cX15_init 7 = .ok (.newarray .int, 2) := by decide +kernel
theorem ni_dX15_init_9 : decode cX15_init 9 = .ok (.putfield 9, 3) := by decide +kernel
theorem ni_dX15_init_12 : decode cX15_init 12 = .ok (.aload_n 0, 1) := by decide +kernel
theorem ni_dX15_init_13 : decode cX15_init 13 = .ok (.bipush 14, 2) := by decide +kernel
theorem ni_dX15_init_15 : decode cX15_init 15 = .ok (.newarray .int, 2) := by decide +kernel
theorem ni_dX15_init_17 : decode cX15_init 17 = .ok (.putfield 15, 3) := by decide +kernel
theorem ni_dX15_init_20 : decode cX15_init 20 = .ok (.aload_n 0, 1) := by decide +kernel
theorem ni_dX15_init_21 : decode cX15_init 21 = .ok (.bipush 14, 2) := by decide +kernel
theorem ni_dX15_init_23 : decode cX15_init 23 = .ok (.newarray .int, 2) := by decide +kernel
theorem ni_dX15_init_25 : decode cX15_init 25 = .ok (.putfield 18, 3) := by decide +kernel
theorem ni_dX15_init_28 : decode cX15_init 28 = .ok (.aload_n 0, 1) := by decide +kernel
theorem ni_dX15_init_29 : decode cX15_init 29 = .ok (.bipush 14, 2) := by decide +kernel
theorem ni_dX15_init_31 : decode cX15_init 31 = .ok (.newarray .int, 2) := by decide +kernel
theorem ni_dX15_init_33 : decode cX15_init 33 = .ok (.putfield 21, 3) := by decide +kernel
theorem ni_dX15_init_36 : decode cX15_init 36 = .ok (.aload_n 0, 1) := by decide +kernel
theorem ni_dX15_init_37 : decode cX15_init 37 = .ok (.bipush 14, 2) := by decide +kernel
theorem ni_dX15_init_39 : decode cX15_init 39 = .ok (.newarray .int, 2) := by decide +kernel
theorem ni_dX15_init_41 : decode cX15_init 41 = .ok (.putfield 24, 3) := by decide +kernel
theorem ni_dX15_init_44 : decode cX15_init 44 = .ok (.aload_n 0, 1) := by decide +kernel
theorem ni_dX15_init_45 : decode cX15_init 45 = .ok (.bipush 14, 2) := by decide +kernel
theorem ni_dX15_init_47 : decode cX15_init 47 = .ok (.newarray .boolean, 2) := by decide +kernel
theorem ni_dX15_init_49 : decode cX15_init 49 = .ok (.putfield 27, 3) := by decide +kernel
theorem ni_dX15_init_52 : decode cX15_init 52 = .ok (.aload_n 0, 1) := by decide +kernel
theorem ni_dX15_init_53 : decode cX15_init 53 = .ok (.bipush 28, 2) := by decide +kernel
theorem ni_dX15_init_55 : decode cX15_init 55 = .ok (.anewarray 31, 3) := by decide +kernel
theorem ni_dX15_init_58 : decode cX15_init 58 = .ok (.putfield 33, 3) := by decide +kernel
theorem ni_dX15_init_61 : decode cX15_init 61 = .ok (.aload_n 0, 1) := by decide +kernel
theorem ni_dX15_init_62 : decode cX15_init 62 = .ok (.bipush 24, 2) := by decide +kernel
theorem ni_dX15_init_64 : decode cX15_init 64 = .ok (.newarray .int, 2) := by decide +kernel
theorem ni_dX15_init_66 : decode cX15_init 66 = .ok (.putfield 37, 3) := by decide +kernel
theorem ni_dX15_init_69 : decode cX15_init 69 = .ok (.aload_n 0, 1) := by decide +kernel
theorem ni_dX15_init_70 : decode cX15_init 70 = .ok (.bipush 24, 2) := by decide +kernel
theorem ni_dX15_init_72 : decode cX15_init 72 = .ok (.newarray .int, 2) := by decide +kernel
theorem ni_dX15_init_74 : decode cX15_init 74 = .ok (.putfield 40, 3) := by decide +kernel
theorem ni_dX15_init_77 : decode cX15_init 77 = .ok (.aload_n 0, 1) := by decide +kernel
theorem ni_dX15_init_78 : decode cX15_init 78 = .ok (.bipush 24, 2) := by decide +kernel
theorem ni_dX15_init_80 : decode cX15_init 80 = .ok (.newarray .int, 2) := by decide +kernel
theorem ni_dX15_init_82 : decode cX15_init 82 = .ok (.putfield 43, 3) := by decide +kernel
theorem ni_dX15_init_85 : decode cX15_init 85 = .ok (.aload_n 0, 1) := by decide +kernel
theorem ni_dX15_init_86 : decode cX15_init 86 = .ok (.bipush 24, 2) := by decide +kernel
theorem ni_dX15_init_88 : decode cX15_init 88 = .ok (.newarray .int, 2) := by decide +kernel
theorem ni_dX15_init_90 : decode cX15_init 90 = .ok (.putfield 46, 3) := by decide +kernel
theorem ni_dX15_init_93 : decode cX15_init 93 = .ok (.aload_n 0, 1) := by decide +kernel
theorem ni_dX15_init_94 : decode cX15_init 94 = .ok (.bipush 24, 2) := by decide +kernel
theorem ni_dX15_init_96 : decode cX15_init 96 = .ok (.newarray .int, 2) := by decide +kernel
theorem ni_dX15_init_98 : decode cX15_init 98 = .ok (.putfield 49, 3) := by decide +kernel
theorem ni_dX15_init_101 : decode cX15_init 101 = .ok (.aload_n 0, 1) := by decide +kernel
theorem ni_dX15_init_102 : decode cX15_init 102 = .ok (.bipush 24, 2) := by decide +kernel
theorem ni_dX15_init_104 : decode cX15_init 104 = .ok (.newarray .int, 2) := by decide +kernel
theorem ni_dX15_init_106 : decode cX15_init 106 = .ok (.putfield 52, 3) := by decide +kernel
theorem ni_dX15_init_109 : decode cX15_init 109 = .ok (.aload_n 0, 1) := by decide +kernel
theorem ni_dX15_init_110 : decode cX15_init 110 = .ok (.bipush 24, 2) := by decide +kernel
theorem ni_dX15_init_112 : decode cX15_init 112 = .ok (.newarray .int, 2) := by decide +kernel
theorem ni_dX15_init_114 : decode cX15_init 114 = .ok (.putfield 55, 3) := by decide +kernel
theorem ni_dX15_init_117 : decode cX15_init 117 = .ok (.aload_n 0, 1) := by decide +kernel
theorem ni_dX15_init_118 : decode cX15_init 118 = .ok (.new 58, 3) := by decide +kernel
theorem ni_dX15_init_121 : decode cX15_init 121 = .ok (.dup, 1) := by decide +kernel
theorem ni_dX15_init_122 : decode cX15_init 122 = .ok (.invokespecial 60, 3) := by decide +kernel
theorem ni_dX15_init_125 : decode cX15_init 125 = .ok (.putfield 61, 3) := by decide +kernel
theorem ni_dX15_init_128 : decode cX15_init 128 = .ok (.aload_n 0, 1) := by decide +kernel
theorem ni_dX15_init_129 : decode cX15_init 129 = .ok (.bipush 64, 2) := by decide +kernel
theorem ni_dX15_init_131 : decode cX15_init 131 = .ok (.anewarray 65, 3) := by decide +kernel
theorem ni_dX15_init_134 : decode cX15_init 134 = .ok (.putfield 67, 3) := by decide +kernel
theorem ni_dX15_init_137 : decode cX15_init 137 = .ok (.aload_n 0, 1) := by decide +kernel
theorem ni_dX15_init_138 : decode cX15_init 138 = .ok (.bipush 64, 2) := by decide +kernel
theorem ni_dX15_init_140 : decode cX15_init 140 = .ok (.newarray .int, 2) := by decide +kernel
theorem ni_dX15_init_142 : decode cX15_init 142 = .ok (.putfield 71, 3) := by decide +kernel
theorem ni_dX15_init_145 : decode cX15_init 145 = .ok (.aload_n 0, 1) := by decide +kernel
theorem ni_dX15_init_146 : decode cX15_init 146 = .ok (.bipush 64, 2) := by decide +kernel
theorem ni_dX15_init_148 : decode cX15_init 148 = .ok (.anewarray 74, 3) := by decide +kernel
theorem ni_dX15_init_151 : decode cX15_init 151 = .ok (.putfield 75, 3) := by decide +kernel
theorem ni_dX15_init_154 : decode cX15_init 154 = .ok (.aload_n 0, 1) := by decide +kernel
theorem ni_dX15_init_155 : decode cX15_init 155 = .ok (.new 58, 3) := by decide +kernel
theorem ni_dX15_init_158 : decode cX15_init 158 = .ok (.dup, 1) := by decide +kernel
theorem ni_dX15_init_159 : decode cX15_init 159 = .ok (.invokespecial 60, 3) := by decide +kernel
theorem ni_dX15_init_162 : decode cX15_init 162 = .ok (.putfield 79, 3) := by decide +kernel
theorem ni_dX15_init_165 : decode cX15_init 165 = .ok (.iconst 0, 1) := by decide +kernel
theorem ni_dX15_init_166 : decode cX15_init 166 = .ok (.istore_n 1, 1) := by decide +kernel
theorem ni_dX15_init_167 : decode cX15_init 167 = .ok (.iload_n 1, 1) := by decide +kernel
theorem ni_dX15_init_168 : decode cX15_init 168 = .ok (.bipush 64, 2) := by decide +kernel
theorem ni_dX15_init_170 : decode cX15_init 170 = .ok (.if_icmp .ge 40, 3) := by decide +kernel
theorem ni_dX15_init_173 : decode cX15_init 173 = .ok (.aload_n 0, 1) := by decide +kernel
theorem ni_dX15_init_174 : decode cX15_init 174 = .ok (.getfield 71, 3) := by decide +kernel
theorem ni_dX15_init_177 : decode cX15_init 177 = .ok (.iload_n 1, 1) := by decide +kernel
theorem ni_dX15_init_178 : decode cX15_init 178 = .ok (.iload_n 1, 1) := by decide +kernel
theorem ni_dX15_init_179 : decode cX15_init 179 = .ok (.bipush 8, 2) := by decide +kernel
theorem ni_dX15_init_181 : decode cX15_init 181 = .ok (.idiv, 1) := by decide +kernel
theorem ni_dX15_init_182 : decode cX15_init 182 = .ok (.iload_n 1, 1) := by decide +kernel
theorem ni_dX15_init_183 : decode cX15_init 183 = .ok (.bipush 8, 2) := by decide +kernel
theorem ni_dX15_init_185 : decode cX15_init 185 = .ok (.irem, 1) := by decide +kernel
theorem ni_dX15_init_186 : decode cX15_init 186 = .ok (.if_icmp .ne 7, 3) := by decide +kernel
theorem ni_dX15_init_189 : decode cX15_init 189 = .ok (.iconst 0, 1) := by decide +kernel
theorem ni_dX15_init_190 : decode cX15_init 190 = .ok (.goto 4, 3) := by decide +kernel
theorem ni_dX15_init_193 : decode cX15_init 193 = .ok (.iconst (-1), 1) := by decide +kernel
theorem ni_dX15_init_194 : decode cX15_init 194 = .ok (.iastore, 1) := by decide +kernel
theorem ni_dX15_init_195 : decode cX15_init 195 = .ok (.aload_n 0, 1) := by decide +kernel
theorem ni_dX15_init_196 : decode cX15_init 196 = .ok (.getfield 75, 3) := by decide +kernel
theorem ni_dX15_init_199 : decode cX15_init 199 = .ok (.iload_n 1, 1) := by decide +kernel
theorem ni_dX15_init_200 : decode cX15_init 200 = .ok (.iconst 0, 1) := by decide +kernel
theorem ni_dX15_init_201 : decode cX15_init 201 = .ok (.newarray .int, 2) := by decide +kernel
theorem ni_dX15_init_203 : decode cX15_init 203 = .ok (.aastore, 1) := by decide +kernel
theorem ni_dX15_init_204 : decode cX15_init 204 = .ok (.iinc 1 1, 3) := by decide +kernel
theorem ni_dX15_init_207 : decode cX15_init 207 = .ok (.goto (-40), 3) := by decide +kernel
theorem ni_dX15_init_210 : decode cX15_init 210 = .ok (.iconst 0, 1) := by decide +kernel
theorem ni_dX15_init_211 : decode cX15_init 211 = .ok (.istore_n 1, 1) := by decide +kernel
theorem ni_dX15_init_212 : decode cX15_init 212 = .ok (.iload_n 1, 1) := by decide +kernel
theorem ni_dX15_init_213 : decode cX15_init 213 = .ok (.bipush 8, 2) := by decide +kernel
theorem ni_dX15_init_215 : decode cX15_init 215 = .ok (.if_icmp .ge 24, 3) := by decide +kernel
theorem ni_dX15_init_218 : decode cX15_init 218 = .ok (.aload_n 0, 1) := by decide +kernel
theorem ni_dX15_init_219 : decode cX15_init 219 = .ok (.getfield 79, 3) := by decide +kernel
theorem ni_dX15_init_222 : decode cX15_init 222 = .ok (.new 58, 3) := by decide +kernel
theorem ni_dX15_init_225 : decode cX15_init 225 = .ok (.dup, 1) := by decide +kernel
theorem ni_dX15_init_226 : decode cX15_init 226 = .ok (.invokespecial 60, 3) := by decide +kernel
theorem ni_dX15_init_229 : decode cX15_init 229 = .ok (.invokevirtual 82, 3) := by decide +kernel
theorem ni_dX15_init_232 : decode cX15_init 232 = .ok (.pop, 1) := by decide +kernel
theorem ni_dX15_init_233 : decode cX15_init 233 = .ok (.iinc 1 1, 3) := by decide +kernel
theorem ni_dX15_init_236 : decode cX15_init 236 = .ok (.goto (-24), 3) := by decide +kernel
theorem ni_dX15_init_239 : decode cX15_init 239 = .ok (.return_, 1) := by decide +kernel
theorem ni_dX15_copy_0 : decode cX15_copy 0 = .ok (.new 10, 3) := by decide +kernel
theorem ni_dX15_copy_3 : decode cX15_copy 3 = .ok (.dup, 1) := by decide +kernel
theorem ni_dX15_copy_4 : decode cX15_copy 4 = .ok (.invokespecial 86, 3) := by decide +kernel
theorem ni_dX15_copy_7 : decode cX15_copy 7 = .ok (.astore_n 1, 1) := by decide +kernel
theorem ni_dX15_copy_8 : decode cX15_copy 8 = .ok (.aload_n 1, 1) := by decide +kernel
theorem ni_dX15_copy_9 : decode cX15_copy 9 = .ok (.aload_n 0, 1) := by decide +kernel
theorem ni_dX15_copy_10 : decode cX15_copy 10 = .ok (.getfield 87, 3) := by decide +kernel
theorem ni_dX15_copy_13 : decode cX15_copy 13 = .ok (.putfield 87, 3) := by decide +kernel
theorem ni_dX15_copy_16 : decode cX15_copy 16 = .ok (.aload_n 1, 1) := by decide +kernel
theorem ni_dX15_copy_17 : decode cX15_copy 17 = .ok (.aload_n 0, 1) := by decide +kernel
theorem ni_dX15_copy_18 : decode cX15_copy 18 = .ok (.getfield 91, 3) := by decide +kernel
theorem ni_dX15_copy_21 : decode cX15_copy 21 = .ok (.putfield 91, 3) := by decide +kernel
theorem ni_dX15_copy_24 : decode cX15_copy 24 = .ok (.aload_n 1, 1) := by decide +kernel
theorem ni_dX15_copy_25 : decode cX15_copy 25 = .ok (.aload_n 0, 1) := by decide +kernel
theorem ni_dX15_copy_26 : decode cX15_copy 26 = .ok (.getfield 94, 3) := by decide +kernel
theorem ni_dX15_copy_29 : decode cX15_copy 29 = .ok (.putfield 94, 3) := by decide +kernel
theorem ni_dX15_copy_32 : decode cX15_copy 32 = .ok (.iconst 0, 1) := by decide +kernel
theorem ni_dX15_copy_33 : decode cX15_copy 33 = .ok (.istore_n 2, 1) := by decide +kernel
theorem ni_dX15_copy_34 : decode cX15_copy 34 = .ok (.iload_n 2, 1) := by decide +kernel
theorem ni_dX15_copy_35 : decode cX15_copy 35 = .ok (.aload_n 0, 1) := by decide +kernel
theorem ni_dX15_copy_36 : decode cX15_copy 36 = .ok (.getfield 94, 3) := by decide +kernel
theorem ni_dX15_copy_39 : decode cX15_copy 39 = .ok (.if_icmp .ge 123, 3) := by decide +kernel
theorem ni_dX15_copy_162 : decode cX15_copy 162 = .ok (.aload_n 1, 1) := by decide +kernel
theorem ni_dX15_copy_163 : decode cX15_copy 163 = .ok (.aload_n 0, 1) := by decide +kernel
theorem ni_dX15_copy_164 : decode cX15_copy 164 = .ok (.getfield 101, 3) := by decide +kernel
theorem ni_dX15_copy_167 : decode cX15_copy 167 = .ok (.putfield 101, 3) := by decide +kernel
theorem ni_dX15_copy_170 : decode cX15_copy 170 = .ok (.aload_n 1, 1) := by decide +kernel
theorem ni_dX15_copy_171 : decode cX15_copy 171 = .ok (.aload_n 0, 1) := by decide +kernel
theorem ni_dX15_copy_172 : decode cX15_copy 172 = .ok (.getfield 104, 3) := by decide +kernel
theorem ni_dX15_copy_175 : decode cX15_copy 175 = .ok (.putfield 104, 3) := by decide +kernel
theorem ni_dX15_copy_178 : decode cX15_copy 178 = .ok (.iconst 0, 1) := by decide +kernel
theorem ni_dX15_copy_179 : decode cX15_copy 179 = .ok (.istore_n 2, 1) := by decide +kernel
theorem ni_dX15_copy_180 : decode cX15_copy 180 = .ok (.iload_n 2, 1) := by decide +kernel
theorem ni_dX15_copy_181 : decode cX15_copy 181 = .ok (.bipush 24, 2) := by decide +kernel
theorem ni_dX15_copy_183 : decode cX15_copy 183 = .ok (.if_icmp .ge 93, 3) := by decide +kernel
theorem ni_dX15_copy_186 : decode cX15_copy 186 = .ok (.aload_n 1, 1) := by decide +kernel
theorem ni_dX15_copy_187 : decode cX15_copy 187 = .ok (.getfield 37, 3) := by decide +kernel
theorem ni_dX15_copy_190 : decode cX15_copy 190 = .ok (.iload_n 2, 1) := by decide +kernel
theorem ni_dX15_copy_191 : decode cX15_copy 191 = .ok (.aload_n 0, 1) := by decide +kernel
theorem ni_dX15_copy_192 : decode cX15_copy 192 = .ok (.getfield 37, 3) := by decide +kernel
theorem ni_dX15_copy_195 : decode cX15_copy 195 = .ok (.iload_n 2, 1) := by decide +kernel
theorem ni_dX15_copy_196 : decode cX15_copy 196 = .ok (.iaload, 1) := by decide +kernel
theorem ni_dX15_copy_197 : decode cX15_copy 197 = .ok (.iastore, 1) := by decide +kernel
theorem ni_dX15_copy_198 : decode cX15_copy 198 = .ok (.aload_n 1, 1) := by decide +kernel
theorem ni_dX15_copy_199 : decode cX15_copy 199 = .ok (.getfield 40, 3) := by decide +kernel
theorem ni_dX15_copy_202 : decode cX15_copy 202 = .ok (.iload_n 2, 1) := by decide +kernel
theorem ni_dX15_copy_203 : decode cX15_copy 203 = .ok (.aload_n 0, 1) := by decide +kernel
theorem ni_dX15_copy_204 : decode cX15_copy 204 = .ok (.getfield 40, 3) := by decide +kernel
theorem ni_dX15_copy_207 : decode cX15_copy 207 = .ok (.iload_n 2, 1) := by decide +kernel
theorem ni_dX15_copy_208 : decode cX15_copy 208 = .ok (.iaload, 1) := by decide +kernel
theorem ni_dX15_copy_209 : decode cX15_copy 209 = .ok (.iastore, 1) := by decide +kernel
theorem ni_dX15_copy_210 : decode cX15_copy 210 = .ok (.aload_n 1, 1) := by decide +kernel
theorem ni_dX15_copy_211 : decode cX15_copy 211 = .ok (.getfield 43, 3) := by decide +kernel
theorem ni_dX15_copy_214 : decode cX15_copy 214 = .ok (.iload_n 2, 1) := by decide +kernel
theorem ni_dX15_copy_215 : decode cX15_copy 215 = .ok (.aload_n 0, 1) := by decide +kernel
theorem ni_dX15_copy_216 : decode cX15_copy 216 = .ok (.getfield 43, 3) := by decide +kernel
theorem ni_dX15_copy_219 : decode cX15_copy 219 = .ok (.iload_n 2, 1) := by decide +kernel
theorem ni_dX15_copy_220 : decode cX15_copy 220 = .ok (.iaload, 1) := by decide +kernel
theorem ni_dX15_copy_221 : decode cX15_copy 221 = .ok (.iastore, 1) := by decide +kernel
theorem ni_dX15_copy_222 : decode cX15_copy 222 = .ok (.aload_n 1, 1) := by decide +kernel
theorem ni_dX15_copy_223 : decode cX15_copy 223 = .ok (.getfield 46, 3) := by decide +kernel
theorem ni_dX15_copy_226 : decode cX15_copy 226 = .ok (.iload_n 2, 1) := by decide +kernel
theorem ni_dX15_copy_227 : decode cX15_copy 227 = .ok (.aload_n 0, 1) := by decide +kernel
theorem ni_dX15_copy_228 : decode cX15_copy 228 = .ok (.getfield 46, 3) := by decide +kernel
theorem ni_dX15_copy_231 : decode cX15_copy 231 = .ok (.iload_n 2, 1) := by decide +kernel
theorem ni_dX15_copy_232 : decode cX15_copy 232 = .ok (.iaload, 1) := by decide +kernel
theorem ni_dX15_copy_233 : decode cX15_copy 233 = .ok (.iastore, 1) := by decide +kernel
theorem ni_dX15_copy_234 : decode cX15_copy 234 = .ok (.aload_n 1, 1) := by decide +kernel
theorem ni_dX15_copy_235 : decode cX15_copy 235 = .ok (.getfield 49, 3) := by decide +kernel
theorem ni_dX15_copy_238 : decode cX15_copy 238 = .ok (.iload_n 2, 1) := by decide +kernel
theorem ni_dX15_copy_239 : decode cX15_copy 239 = .ok (.aload_n 0, 1) := by decide +kernel
theorem ni_dX15_copy_240 : decode cX15_copy 240 = .ok (.getfield 49, 3) := by decide +kernel
theorem ni_dX15_copy_243 : decode cX15_copy 243 = .ok (.iload_n 2, 1) := by decide +kernel
theorem ni_dX15_copy_244 : decode cX15_copy 244 = .ok (.iaload, 1) := by decide +kernel
theorem ni_dX15_copy_245 : decode cX15_copy 245 = .ok (.iastore, 1) := by decide +kernel
theorem ni_dX15_copy_246 : decode cX15_copy 246 = .ok (.aload_n 1, 1) := by decide +kernel
theorem ni_dX15_copy_247 : decode cX15_copy 247 = .ok (.getfield 52, 3) := by decide +kernel
theorem ni_dX15_copy_250 : decode cX15_copy 250 = .ok (.iload_n 2, 1) := by decide +kernel
theorem ni_dX15_copy_251 : decode cX15_copy 251 = .ok (.aload_n 0, 1) := by decide +kernel
theorem ni_dX15_copy_252 : decode cX15_copy 252 = .ok (.getfield 52, 3) := by decide +kernel
theorem ni_dX15_copy_255 : decode cX15_copy 255 = .ok (.iload_n 2, 1) := by decide +kernel
theorem ni_dX15_copy_256 : decode cX15_copy 256 = .ok (.iaload, 1) := by decide +kernel
theorem ni_dX15_copy_257 : decode cX15_copy 257 = .ok (.iastore, 1) := by decide +kernel
theorem ni_dX15_copy_258 : decode cX15_copy 258 = .ok (.aload_n 1, 1) := by decide +kernel
theorem ni_dX15_copy_259 : decode cX15_copy 259 = .ok (.getfield 55, 3) := by decide +kernel
theorem ni_dX15_copy_262 : decode cX15_copy 262 = .ok (.iload_n 2, 1) := by decide +kernel
theorem ni_dX15_copy_263 : decode cX15_copy 263 = .ok (.aload_n 0, 1) := by decide +kernel
theorem ni_dX15_copy_264 : decode cX15_copy 264 = .ok (.getfield 55, 3) := by decide +kernel
theorem ni_dX15_copy_267 : decode cX15_copy 267 = .ok (.iload_n 2, 1) := by decide +kernel
theorem ni_dX15_copy_268 : decode cX15_copy 268 = .ok (.iaload, 1) := by decide +kernel
theorem ni_dX15_copy_269 : decode cX15_copy 269 = .ok (.iastore, 1) := by decide +kernel
theorem ni_dX15_copy_270 : decode cX15_copy 270 = .ok (.iinc 2 1, 3) := by decide +kernel
theorem ni_dX15_copy_273 : decode cX15_copy 273 = .ok (.goto (-93), 3) := by decide +kernel
theorem ni_dX15_copy_276 : decode cX15_copy 276 = .ok (.iconst 0, 1) := by decide +kernel
theorem ni_dX15_copy_277 : decode cX15_copy 277 = .ok (.istore_n 2, 1) := by decide +kernel
theorem ni_dX15_copy_278 : decode cX15_copy 278 = .ok (.iload_n 2, 1) := by decide +kernel
theorem ni_dX15_copy_279 : decode cX15_copy 279 = .ok (.aload_n 0, 1) := by decide +kernel
theorem ni_dX15_copy_280 : decode cX15_copy 280 = .ok (.getfield 61, 3) := by decide +kernel
theorem ni_dX15_copy_283 : decode cX15_copy 283 = .ok (.invokevirtual 107, 3) := by decide +kernel
theorem ni_dX15_copy_286 : decode cX15_copy 286 = .ok (.if_icmp .ge 31, 3) := by decide +kernel
theorem ni_dX15_copy_317 : decode cX15_copy 317 = .ok (.iconst 0, 1) := by decide +kernel
theorem ni_dX15_copy_318 : decode cX15_copy 318 = .ok (.istore_n 2, 1) := by decide +kernel
theorem ni_dX15_copy_319 : decode cX15_copy 319 = .ok (.iload_n 2, 1) := by decide +kernel
theorem ni_dX15_copy_320 : decode cX15_copy 320 = .ok (.bipush 64, 2) := by decide +kernel
theorem ni_dX15_copy_322 : decode cX15_copy 322 = .ok (.if_icmp .ge 45, 3) := by decide +kernel
theorem ni_dX15_copy_325 : decode cX15_copy 325 = .ok (.aload_n 1, 1) := by decide +kernel
theorem ni_dX15_copy_326 : decode cX15_copy 326 = .ok (.getfield 67, 3) := by decide +kernel
theorem ni_dX15_copy_329 : decode cX15_copy 329 = .ok (.iload_n 2, 1) := by decide +kernel
theorem ni_dX15_copy_330 : decode cX15_copy 330 = .ok (.aload_n 0, 1) := by decide +kernel
theorem ni_dX15_copy_331 : decode cX15_copy 331 = .ok (.getfield 67, 3) := by decide +kernel
theorem ni_dX15_copy_334 : decode cX15_copy 334 = .ok (.iload_n 2, 1) := by decide +kernel
theorem ni_dX15_copy_335 : decode cX15_copy 335 = .ok (.aaload, 1) := by decide +kernel
theorem ni_dX15_copy_336 : decode cX15_copy 336 = .ok (.aastore, 1) := by decide +kernel
theorem ni_dX15_copy_337 : decode cX15_copy 337 = .ok (.aload_n 1, 1) := by decide +kernel
theorem ni_dX15_copy_338 : decode cX15_copy 338 = .ok (.getfield 71, 3) := by decide +kernel
theorem ni_dX15_copy_341 : decode cX15_copy 341 = .ok (.iload_n 2, 1) := by decide +kernel
theorem ni_dX15_copy_342 : decode cX15_copy 342 = .ok (.aload_n 0, 1) := by decide +kernel
theorem ni_dX15_copy_343 : decode cX15_copy 343 = .ok (.getfield 71, 3) := by decide +kernel
theorem ni_dX15_copy_346 : decode cX15_copy 346 = .ok (.iload_n 2, 1) := by decide +kernel
theorem ni_dX15_copy_347 : decode cX15_copy 347 = .ok (.iaload, 1) := by decide +kernel
theorem ni_dX15_copy_348 : decode cX15_copy 348 = .ok (.iastore, 1) := by decide +kernel
theorem ni_dX15_copy_349 : decode cX15_copy 349 = .ok (.aload_n 1, 1) := by decide +kernel
theorem ni_dX15_copy_350 : decode cX15_copy 350 = .ok (.getfield 75, 3) := by decide +kernel
theorem ni_dX15_copy_353 : decode cX15_copy 353 = .ok (.iload_n 2, 1) := by decide +kernel
theorem ni_dX15_copy_354 : decode cX15_copy 354 = .ok (.aload_n 0, 1) := by decide +kernel
theorem ni_dX15_copy_355 : decode cX15_copy 355 = .ok (.getfield 75, 3) := by decide +kernel
theorem ni_dX15_copy_358 : decode cX15_copy 358 = .ok (.iload_n 2, 1) := by decide +kernel
theorem ni_dX15_copy_359 : decode cX15_copy 359 = .ok (.aaload, 1) := by decide +kernel
theorem ni_dX15_copy_360 : decode cX15_copy 360 = .ok (.aastore, 1) := by decide +kernel
theorem ni_dX15_copy_361 : decode cX15_copy 361 = .ok (.iinc 2 1, 3) := by decide +kernel
theorem ni_dX15_copy_364 : decode cX15_copy 364 = .ok (.goto (-45), 3) := by decide +kernel
theorem ni_dX15_copy_367 : decode cX15_copy 367 = .ok (.iconst 0, 1) := by decide +kernel
theorem ni_dX15_copy_368 : decode cX15_copy 368 = .ok (.istore_n 2, 1) := by decide +kernel
theorem ni_dX15_copy_369 : decode cX15_copy 369 = .ok (.iload_n 2, 1) := by decide +kernel
theorem ni_dX15_copy_370 : decode cX15_copy 370 = .ok (.bipush 8, 2) := by decide +kernel
theorem ni_dX15_copy_372 : decode cX15_copy 372 = .ok (.if_icmp .ge 35, 3) := by decide +kernel
theorem ni_dX15_copy_375 : decode cX15_copy 375 = .ok (.aload_n 1, 1) := by decide +kernel
theorem ni_dX15_copy_376 : decode cX15_copy 376 = .ok (.getfield 79, 3) := by decide +kernel
theorem ni_dX15_copy_379 : decode cX15_copy 379 = .ok (.iload_n 2, 1) := by decide +kernel
theorem ni_dX15_copy_380 : decode cX15_copy 380 = .ok (.invokevirtual 111, 3) := by decide +kernel
theorem ni_dX15_copy_383 : decode cX15_copy 383 = .ok (.checkcast 58, 3) := by decide +kernel
theorem ni_dX15_copy_386 : decode cX15_copy 386 = .ok (.aload_n 0, 1) := by decide +kernel
theorem ni_dX15_copy_387 : decode cX15_copy 387 = .ok (.getfield 79, 3) := by decide +kernel
theorem ni_dX15_copy_390 : decode cX15_copy 390 = .ok (.iload_n 2, 1) := by decide +kernel
theorem ni_dX15_copy_391 : decode cX15_copy 391 = .ok (.invokevirtual 111, 3) := by decide +kernel
theorem ni_dX15_copy_394 : decode cX15_copy 394 = .ok (.checkcast 120, 3) := by decide +kernel
theorem ni_dX15_copy_397 : decode cX15_copy 397 = .ok (.invokevirtual 122, 3) := by decide +kernel
theorem ni_dX15_copy_400 : decode cX15_copy 400 = .ok (.pop, 1) := by decide +kernel
theorem ni_dX15_copy_401 : decode cX15_copy 401 = .ok (.iinc 2 1, 3) := by decide +kernel
theorem ni_dX15_copy_404 : decode cX15_copy 404 = .ok (.goto (-35), 3) := by decide +kernel
theorem ni_dX15_copy_407 : decode cX15_copy 407 = .ok (.aload_n 1, 1) := by decide +kernel
theorem ni_dX15_copy_408 : decode cX15_copy 408 = .ok (.areturn, 1) := by decide +kernel
theorem ni_dX15_letters_0 : decode cX15_letters 0 = .ok (.iconst 0, 1) := by decide +kernel
theorem ni_dX15_letters_1 : decode cX15_letters 1 = .ok (.istore_n 1, 1) := by decide +kernel
theorem ni_dX15_letters_2 : decode cX15_letters 2 = .ok (.iconst 0, 1) := by decide +kernel
theorem ni_dX15_letters_3 : decode cX15_letters 3 = .ok (.istore_n 2, 1) := by decide +kernel
theorem ni_dX15_letters_4 : decode cX15_letters 4 = .ok (.iload_n 2, 1) := by decide +kernel
theorem ni_dX15_letters_5 : decode cX15_letters 5 = .ok (.iconst 2, 1) := by decide +kernel
theorem ni_dX15_letters_6 : decode cX15_letters 6 = .ok (.aload_n 0, 1) := by decide +kernel
theorem ni_dX15_letters_7 : decode cX15_letters 7 = .ok (.getfield 94, 3) := by decide +kernel
theorem ni_dX15_letters_10 : decode cX15_letters 10 = .ok (.imul, 1) := by decide +kernel
theorem ni_dX15_letters_11 : decode cX15_letters 11 = .ok (.if_icmp .ge 24, 3) := by decide +kernel
theorem ni_dX15_letters_35 : decode cX15_letters 35 = .ok (.iload_n 1, 1) := by decide +kernel
theorem ni_dX15_letters_36 : decode cX15_letters 36 = .ok (.ireturn, 1) := by decide +kernel
theorem ni_dX15_tick_0 : decode cX15_tick 0 = .ok (.iconst 0, 1) := by decide +kernel
theorem ni_dX15_tick_1 : decode cX15_tick 1 = .ok (.istore_n 1, 1) := by decide +kernel
theorem ni_dX15_tick_2 : decode cX15_tick 2 = .ok (.iload_n 1, 1) := by decide +kernel
theorem ni_dX15_tick_3 : decode cX15_tick 3 = .ok (.iconst 2, 1) := by decide +kernel
theorem ni_dX15_tick_4 : decode cX15_tick 4 = .ok (.aload_n 0, 1) := by decide +kernel
theorem ni_dX15_tick_5 : decode cX15_tick 5 = .ok (.getfield 94, 3) := by decide +kernel
theorem ni_dX15_tick_8 : decode cX15_tick 8 = .ok (.imul, 1) := by decide +kernel
theorem ni_dX15_tick_9 : decode cX15_tick 9 = .ok (.if_icmp .ge 92, 3) := by decide +kernel
theorem ni_dX15_tick_101 : decode cX15_tick 101 = .ok (.iconst 0, 1) := by decide +kernel
theorem ni_dX15_tick_102 : decode cX15_tick 102 = .ok (.istore_n 1, 1) := by decide +kernel
theorem ni_dX15_tick_103 : decode cX15_tick 103 = .ok (.iload_n 1, 1) := by decide +kernel
theorem ni_dX15_tick_104 : decode cX15_tick 104 = .ok (.iconst 2, 1) := by decide +kernel
theorem ni_dX15_tick_105 : decode cX15_tick 105 = .ok (.aload_n 0, 1) := by decide +kernel
theorem ni_dX15_tick_106 : decode cX15_tick 106 = .ok (.getfield 94, 3) := by decide +kernel
theorem ni_dX15_tick_109 : decode cX15_tick 109 = .ok (.imul, 1) := by decide +kernel
theorem ni_dX15_tick_110 : decode cX15_tick 110 = .ok (.if_icmp .ge 86, 3) := by decide +kernel
theorem ni_dX15_tick_196 : decode cX15_tick 196 = .ok (.iconst 0, 1) := by decide +kernel
theorem ni_dX15_tick_197 : decode cX15_tick 197 = .ok (.istore_n 1, 1) := by decide +kernel
theorem ni_dX15_tick_198 : decode cX15_tick 198 = .ok (.iload_n 1, 1) := by decide +kernel
theorem ni_dX15_tick_199 : decode cX15_tick 199 = .ok (.aload_n 0, 1) := by decide +kernel
theorem ni_dX15_tick_200 : decode cX15_tick 200 = .ok (.getfield 61, 3) := by decide +kernel
theorem ni_dX15_tick_203 : decode cX15_tick 203 = .ok (.invokevirtual 107, 3) := by decide +kernel
theorem ni_dX15_tick_206 : decode cX15_tick 206 = .ok (.if_icmp .ge 14, 3) := by decide +kernel
theorem ni_dX15_tick_220 : decode cX15_tick 220 = .ok (.iconst 0, 1) := by decide +kernel
theorem ni_dX15_tick_221 : decode cX15_tick 221 = .ok (.istore_n 1, 1) := by decide +kernel
theorem ni_dX15_tick_222 : decode cX15_tick 222 = .ok (.iload_n 1, 1) := by decide +kernel
theorem ni_dX15_tick_223 : decode cX15_tick 223 = .ok (.aload_n 0, 1) := by decide +kernel
theorem ni_dX15_tick_224 : decode cX15_tick 224 = .ok (.getfield 91, 3) := by decide +kernel
theorem ni_dX15_tick_227 : decode cX15_tick 227 = .ok (.if_icmp .ge 14, 3) := by decide +kernel
theorem ni_dX15_tick_241 : decode cX15_tick 241 = .ok (.iconst 0, 1) := by decide +kernel
theorem ni_dX15_tick_242 : decode cX15_tick 242 = .ok (.istore_n 1, 1) := by decide +kernel
theorem ni_dX15_tick_243 : decode cX15_tick 243 = .ok (.iload_n 1, 1) := by decide +kernel
theorem ni_dX15_tick_244 : decode cX15_tick 244 = .ok (.iconst 2, 1) := by decide +kernel
theorem ni_dX15_tick_245 : decode cX15_tick 245 = .ok (.aload_n 0, 1) := by decide +kernel
theorem ni_dX15_tick_246 : decode cX15_tick 246 = .ok (.getfield 94, 3) := by decide +kernel
theorem ni_dX15_tick_249 : decode cX15_tick 249 = .ok (.imul, 1) := by decide +kernel
theorem ni_dX15_tick_250 : decode cX15_tick 250 = .ok (.if_icmp .ge 14, 3) := by decide +kernel
theorem ni_dX15_tick_264 : decode cX15_tick 264 = .ok (.aload_n 0, 1) := by decide +kernel
theorem ni_dX15_tick_265 : decode cX15_tick 265 = .ok (.dup, 1) := by decide +kernel
theorem ni_dX15_tick_266 : decode cX15_tick 266 = .ok (.getfield 87, 3) := by decide +kernel
theorem ni_dX15_tick_269 : decode cX15_tick 269 = .ok (.iconst 1, 1) := by decide +kernel
theorem ni_dX15_tick_270 : decode cX15_tick 270 = .ok (.iadd, 1) := by decide +kernel
theorem ni_dX15_tick_271 : decode cX15_tick 271 = .ok (.putfield 87, 3) := by decide +kernel
theorem ni_dX15_tick_274 : decode cX15_tick 274 = .ok (.return_, 1) := by decide +kernel
theorem ni_dJxa1e45_init_da8c8_0 : decode cJxa1e45_init_da8c8 0 = .ok (.aload_n 0, 1) := by decide +kernel
theorem ni_dJxa1e45_init_da8c8_1 : decode cJxa1e45_init_da8c8 1 = .ok (.invokespecial 1, 3) := by decide +kernel
theorem ni_dJxa1e45_init_da8c8_4 : decode cJxa1e45_init_da8c8 4 = .ok (.return_, 1) := by decide +kernel
theorem ni_dJxc12de_init_da8c8_0 : decode cJxc12de_init_da8c8 0 = .ok (.aload_n 0, 1) := by decide +kernel
theorem ni_dJxc12de_init_da8c8_1 : decode cJxc12de_init_da8c8 1 = .ok (.invokespecial 1, 3) := by decide +kernel
theorem ni_dJxc12de_init_da8c8_4 : decode cJxc12de_init_da8c8 4 = .ok (.aload_n 0, 1) := by decide +kernel
theorem ni_dJxc12de_init_da8c8_5 : decode cJxc12de_init_da8c8 5 = .ok (.iconst 0, 1) := by decide +kernel
theorem ni_dJxc12de_init_da8c8_6 : decode cJxc12de_init_da8c8 6 = .ok (.putfield 7, 3) := by decide +kernel
theorem ni_dJxc12de_init_da8c8_9 : decode cJxc12de_init_da8c8 9 = .ok (.return_, 1) := by decide +kernel
theorem ni_dJx4a65c_init_da8c8_0 : decode cJx4a65c_init_da8c8 0 = .ok (.aload_n 0, 1) := by decide +kernel
theorem ni_dJx4a65c_init_da8c8_1 : decode cJx4a65c_init_da8c8 1 = .ok (.invokespecial 1, 3) := by decide +kernel
theorem ni_dJx4a65c_init_da8c8_4 : decode cJx4a65c_init_da8c8 4 = .ok (.aload_n 0, 1) := by decide +kernel
theorem ni_dJx4a65c_init_da8c8_5 : decode cJx4a65c_init_da8c8 5 = .ok (.getstatic 39, 3) := by decide +kernel
theorem ni_dJx4a65c_init_da8c8_8 : decode cJx4a65c_init_da8c8 8 = .ok (.putfield 9, 3) := by decide +kernel
theorem ni_dJx4a65c_init_da8c8_11 : decode cJx4a65c_init_da8c8 11 = .ok (.return_, 1) := by decide +kernel
theorem ni_dJx4a65c_add_9ea2d_0 : decode cJx4a65c_add_9ea2d 0 = .ok (.aload_n 0, 1) := by decide +kernel
theorem ni_dJx4a65c_add_9ea2d_1 : decode cJx4a65c_add_9ea2d 1 = .ok (.dup, 1) := by decide +kernel
theorem ni_dJx4a65c_add_9ea2d_2 : decode cJx4a65c_add_9ea2d 2 = .ok (.getfield 63, 3) := by decide +kernel
theorem ni_dJx4a65c_add_9ea2d_5 : decode cJx4a65c_add_9ea2d 5 = .ok (.iconst 1, 1) := by decide +kernel
theorem ni_dJx4a65c_add_9ea2d_6 : decode cJx4a65c_add_9ea2d 6 = .ok (.iadd, 1) := by decide +kernel
theorem ni_dJx4a65c_add_9ea2d_7 : decode cJx4a65c_add_9ea2d 7 = .ok (.putfield 63, 3) := by decide +kernel
theorem ni_dJx4a65c_add_9ea2d_10 : decode cJx4a65c_add_9ea2d 10 = .ok (.aload_n 0, 1) := by decide +kernel
theorem ni_dJx4a65c_add_9ea2d_11 : decode cJx4a65c_add_9ea2d 11 = .ok (.aload_n 1, 1) := by decide +kernel
theorem ni_dJx4a65c_add_9ea2d_12 : decode cJx4a65c_add_9ea2d 12 = .ok (.aload_n 0, 1) := by decide +kernel
theorem ni_dJx4a65c_add_9ea2d_13 : decode cJx4a65c_add_9ea2d 13 = .ok (.getfield 9, 3) := by decide +kernel
theorem ni_dJx4a65c_add_9ea2d_16 : decode cJx4a65c_add_9ea2d 16 = .ok (.aload_n 0, 1) := by decide +kernel
theorem ni_dJx4a65c_add_9ea2d_17 : decode cJx4a65c_add_9ea2d 17 = .ok (.getfield 48, 3) := by decide +kernel
theorem ni_dJx4a65c_add_9ea2d_20 : decode cJx4a65c_add_9ea2d 20 = .ok (.invokevirtual 131, 3) := by decide +kernel
theorem ni_dJx4a65c_add_9ea2d_23 : decode cJx4a65c_add_9ea2d 23 = .ok (.iconst 1, 1) := by decide +kernel
theorem ni_dJx4a65c_add_9ea2d_24 : decode cJx4a65c_add_9ea2d 24 = .ok (.ireturn, 1) := by decide +kernel
theorem ni_dJx4a65c_add_72be8_0 : decode cJx4a65c_add_72be8 0 = .ok (.iload_n 3, 1) := by decide +kernel
theorem ni_dJx4a65c_add_72be8_1 : decode cJx4a65c_add_72be8 1 = .ok (.aload_n 2, 1) := by decide +kernel
theorem ni_dJx4a65c_add_72be8_2 : decode cJx4a65c_add_72be8 2 = .ok (.arraylength, 1) := by decide +kernel
theorem ni_dJx4a65c_add_72be8_3 : decode cJx4a65c_add_72be8 3 = .ok (.if_icmp .ne 8, 3) := by decide +kernel
theorem ni_dJx4a65c_add_72be8_6 : decode cJx4a65c_add_72be8 6 = .ok (.aload_n 0, 1) := by decide +kernel
theorem ni_dJx4a65c_add_72be8_7 : decode cJx4a65c_add_72be8 7 = .ok (.invokevirtual 129, 3) := by decide +kernel
theorem ni_dJx4a65c_add_72be8_10 : decode cJx4a65c_add_72be8 10 = .ok (.astore_n 2, 1) := by decide +kernel
theorem ni_dJx4a65c_add_72be8_11 : decode cJx4a65c_add_72be8 11 = .ok (.aload_n 2, 1) := by decide +kernel
theorem ni_dJx4a65c_add_72be8_12 : decode cJx4a65c_add_72be8 12 = .ok (.iload_n 3, 1) := by decide +kernel
theorem ni_dJx4a65c_add_72be8_13 : decode cJx4a65c_add_72be8 13 = .ok (.aload_n 1, 1) := by decide +kernel
theorem ni_dJx4a65c_add_72be8_14 : decode cJx4a65c_add_72be8 14 = .ok (.aastore, 1) := by decide +kernel
theorem ni_dJx4a65c_add_72be8_15 : decode cJx4a65c_add_72be8 15 = .ok (.aload_n 0, 1) := by decide +kernel
theorem ni_dJx4a65c_add_72be8_16 : decode cJx4a65c_add_72be8 16 = .ok (.iload_n 3, 1) := by decide +kernel
theorem ni_dJx4a65c_add_72be8_17 : decode cJx4a65c_add_72be8 17 = .ok (.iconst 1, 1) := by decide +kernel
theorem ni_dJx4a65c_add_72be8_18 : decode cJx4a65c_add_72be8 18 = .ok (.iadd, 1) := by decide +kernel
theorem ni_dJx4a65c_add_72be8_19 : decode cJx4a65c_add_72be8 19 = .ok (.putfield 48, 3) := by decide +kernel
theorem ni_dJx4a65c_add_72be8_22 : decode cJx4a65c_add_72be8 22 = .ok (.return_, 1) := by decide +kernel
theorem ni_dJx4a65c_addAll_f0b43_0 : decode cJx4a65c_addAll_f0b43 0 = .ok (.aload_n 1, 1) := by decide +kernel
theorem ni_dJx4a65c_addAll_f0b43_6 : decode cJx4a65c_addAll_f0b43 6 = .ok (.astore_n 2, 1) := by decide +kernel
theorem ni_dJx4a65c_addAll_f0b43_7 : decode cJx4a65c_addAll_f0b43 7 = .ok (.aload_n 0, 1) := by decide +kernel
theorem ni_dJx4a65c_addAll_f0b43_8 : decode cJx4a65c_addAll_f0b43 8 = .ok (.dup, 1) := by decide +kernel
theorem ni_dJx4a65c_addAll_f0b43_9 : decode cJx4a65c_addAll_f0b43 9 = .ok (.getfield 63, 3) := by decide +kernel
theorem ni_dJx4a65c_addAll_f0b43_12 : decode cJx4a65c_addAll_f0b43 12 = .ok (.iconst 1, 1) := by decide +kernel
theorem ni_dJx4a65c_addAll_f0b43_13 : decode cJx4a65c_addAll_f0b43 13 = .ok (.iadd, 1) := by decide +kernel
theorem ni_dJx4a65c_addAll_f0b43_14 : decode cJx4a65c_addAll_f0b43 14 = .ok (.putfield 63, 3) := by decide +kernel
theorem ni_dJx4a65c_addAll_f0b43_17 : decode cJx4a65c_addAll_f0b43 17 = .ok (.aload_n 2, 1) := by decide +kernel
theorem ni_dJx4a65c_addAll_f0b43_18 : decode cJx4a65c_addAll_f0b43 18 = .ok (.arraylength, 1) := by decide +kernel
theorem ni_dJx4a65c_addAll_f0b43_19 : decode cJx4a65c_addAll_f0b43 19 = .ok (.istore_n 3, 1) := by decide +kernel
theorem ni_dJx4a65c_addAll_f0b43_20 : decode cJx4a65c_addAll_f0b43 20 = .ok (.iload_n 3, 1) := by decide +kernel
theorem ni_dJx4a65c_addAll_f0b43_21 : decode cJx4a65c_addAll_f0b43 21 = .ok (.ifCond .ne 5, 3) := by decide +kernel
theorem ni_dJx4a65c_addAll_f0b43_24 : decode cJx4a65c_addAll_f0b43 24 = .ok (.iconst 0, 1) := by decide +kernel
theorem ni_dJx4a65c_addAll_f0b43_25 : decode cJx4a65c_addAll_f0b43 25 = .ok (.ireturn, 1) := by decide +kernel
theorem ni_dJx4a65c_elementData_915e3_0 : decode cJx4a65c_elementData_915e3 0 = .ok (.aload_n 0, 1) := by decide +kernel
theorem ni_dJx4a65c_elementData_915e3_1 : decode cJx4a65c_elementData_915e3 1 = .ok (.getfield 9, 3) := by decide +kernel
theorem ni_dJx4a65c_elementData_915e3_4 : decode cJx4a65c_elementData_915e3 4 = .ok (.iload_n 1, 1) := by decide +kernel
theorem ni_dJx4a65c_elementData_915e3_5 : decode cJx4a65c_elementData_915e3 5 = .ok (.aaload, 1) := by decide +kernel
theorem ni_dJx4a65c_elementData_915e3_6 : decode cJx4a65c_elementData_915e3 6 = .ok (.areturn, 1) := by decide +kernel
theorem ni_dJx4a65c_get_915e3_0 : decode cJx4a65c_get_915e3 0 = .ok (.iload_n 1, 1) := by decide +kernel
theorem ni_dJx4a65c_get_915e3_1 : decode cJx4a65c_get_915e3 1 = .ok (.aload_n 0, 1) := by decide +kernel
theorem ni_dJx4a65c_get_915e3_2 : decode cJx4a65c_get_915e3 2 = .ok (.getfield 48, 3) := by decide +kernel
theorem ni_dJx4a65c_get_915e3_5 : decode cJx4a65c_get_915e3 5 = .ok (.invokestatic 118, 3) := by decide +kernel
theorem ni_dJx4a65c_get_915e3_8 : decode cJx4a65c_get_915e3 8 = .ok (.pop, 1) := by decide +kernel
theorem ni_dJx4a65c_get_915e3_9 : decode cJx4a65c_get_915e3 9 = .ok (.aload_n 0, 1) := by decide +kernel
theorem ni_dJx4a65c_get_915e3_10 : decode cJx4a65c_get_915e3 10 = .ok (.iload_n 1, 1) := by decide +kernel
theorem ni_dJx4a65c_get_915e3_11 : decode cJx4a65c_get_915e3 11 = .ok (.invokevirtual 123, 3) := by decide +kernel
theorem ni_dJx4a65c_get_915e3_14 : decode cJx4a65c_get_915e3 14 = .ok (.areturn, 1) := by decide +kernel
theorem ni_dJx4a65c_grow_d5877_0 : decode cJx4a65c_grow_d5877 0 = .ok (.aload_n 0, 1) := by decide +kernel
theorem ni_dJx4a65c_grow_d5877_1 : decode cJx4a65c_grow_d5877 1 = .ok (.aload_n 0, 1) := by decide +kernel
theorem ni_dJx4a65c_grow_d5877_2 : decode cJx4a65c_grow_d5877 2 = .ok (.getfield 48, 3) := by decide +kernel
theorem ni_dJx4a65c_grow_d5877_5 : decode cJx4a65c_grow_d5877 5 = .ok (.iconst 1, 1) := by decide +kernel
theorem ni_dJx4a65c_grow_d5877_6 : decode cJx4a65c_grow_d5877 6 = .ok (.iadd, 1) := by decide +kernel
theorem ni_dJx4a65c_grow_d5877_7 : decode cJx4a65c_grow_d5877 7 = .ok (.invokevirtual 69, 3) := by decide +kernel
theorem ni_dJx4a65c_grow_d5877_10 : decode cJx4a65c_grow_d5877 10 = .ok (.areturn, 1) := by decide +kernel
theorem ni_dJx4a65c_grow_92f84_0 : decode cJx4a65c_grow_92f84 0 = .ok (.aload_n 0, 1) := by decide +kernel
theorem ni_dJx4a65c_grow_92f84_1 : decode cJx4a65c_grow_92f84 1 = .ok (.getfield 9, 3) := by decide +kernel
theorem ni_dJx4a65c_grow_92f84_4 : decode cJx4a65c_grow_92f84 4 = .ok (.arraylength, 1) := by decide +kernel
theorem ni_dJx4a65c_grow_92f84_5 : decode cJx4a65c_grow_92f84 5 = .ok (.istore_n 2, 1) := by decide +kernel
theorem ni_dJx4a65c_grow_92f84_6 : decode cJx4a65c_grow_92f84 6 = .ok (.iload_n 2, 1) := by decide +kernel
theorem ni_dJx4a65c_grow_92f84_7 : decode cJx4a65c_grow_92f84 7 = .ok (.ifCond .gt 13, 3) := by decide +kernel
theorem ni_dJx4a65c_grow_92f84_10 : decode cJx4a65c_grow_92f84 10 = .ok (.aload_n 0, 1) := by decide +kernel
theorem ni_dJx4a65c_grow_92f84_11 : decode cJx4a65c_grow_92f84 11 = .ok (.getfield 9, 3) := by decide +kernel
theorem ni_dJx4a65c_grow_92f84_14 : decode cJx4a65c_grow_92f84 14 = .ok (.getstatic 39, 3) := by decide +kernel
theorem ni_dJx4a65c_grow_92f84_17 : decode cJx4a65c_grow_92f84 17 = .ok (.if_acmp .eq 28, 3) := by decide +kernel
theorem ni_dJx4a65c_grow_92f84_45 : decode cJx4a65c_grow_92f84 45 = .ok (.aload_n 0, 1) := by decide +kernel
theorem ni_dJx4a65c_grow_92f84_46 : decode cJx4a65c_grow_92f84 46 = .ok (.bipush 10, 2) := by decide +kernel
theorem ni_dJx4a65c_grow_92f84_48 : decode cJx4a65c_grow_92f84 48 = .ok (.iload_n 1, 1) := by decide +kernel
theorem ni_dJx4a65c_grow_92f84_49 : decode cJx4a65c_grow_92f84 49 = .ok (.invokestatic 79, 3) := by decide +kernel
theorem ni_dJx4a65c_grow_92f84_52 : decode cJx4a65c_grow_92f84 52 = .ok (.anewarray 7, 3) := by decide +kernel
theorem ni_dJx4a65c_grow_92f84_55 : decode cJx4a65c_grow_92f84 55 = .ok (.dup_x1, 1) := by decide +kernel
theorem ni_dJx4a65c_grow_92f84_56 : decode cJx4a65c_grow_92f84 56 = .ok (.putfield 9, 3) := by decide +kernel
theorem ni_dJx4a65c_grow_92f84_59 : decode cJx4a65c_grow_92f84 59 = .ok (.areturn, 1) := by decide +kernel
theorem ni_dJx4a65c_size_8abf5_0 : decode cJx4a65c_size_8abf5 0 = .ok (.aload_n 0, 1) := by decide +kernel
theorem ni_dJx4a65c_size_8abf5_1 : decode cJx4a65c_size_8abf5 1 = .ok (.getfield 48, 3) := by decide +kernel
theorem ni_dJx4a65c_size_8abf5_4 : decode cJx4a65c_size_8abf5 4 = .ok (.ireturn, 1) := by decide +kernel
theorem ni_dJx4a65c_toArray_d5877_0 : decode cJx4a65c_toArray_d5877 0 = .ok (.aload_n 0, 1) := by decide +kernel
theorem ni_dJx4a65c_toArray_d5877_1 : decode cJx4a65c_toArray_d5877 1 = .ok (.getfield 9, 3) := by decide +kernel
theorem ni_dJx4a65c_toArray_d5877_4 : decode cJx4a65c_toArray_d5877 4 = .ok (.aload_n 0, 1) := by decide +kernel
theorem ni_dJx4a65c_toArray_d5877_5 : decode cJx4a65c_toArray_d5877 5 = .ok (.getfield 48, 3) := by decide +kernel
theorem ni_dJx4a65c_toArray_d5877_8 : decode cJx4a65c_toArray_d5877 8 = .ok (.invokestatic 66, 3) := by decide +kernel
theorem ni_dJx4a65c_toArray_d5877_11 : decode cJx4a65c_toArray_d5877 11 = .ok (.areturn, 1) := by decide +kernel
theorem ni_dJ7_copyOf_1904c_0 : decode cJ7_copyOf_1904c 0 = .ok (.aload_n 0, 1) := by decide +kernel
theorem ni_dJ7_copyOf_1904c_1 : decode cJ7_copyOf_1904c 1 = .ok (.iload_n 1, 1) := by decide +kernel
theorem ni_dJ7_copyOf_1904c_2 : decode cJ7_copyOf_1904c 2 = .ok (.aload_n 0, 1) := by decide +kernel
theorem ni_dJ7_copyOf_1904c_6 : decode cJ7_copyOf_1904c 6 = .ok (.invokestatic 300, 3) := by decide +kernel
theorem ni_dJ7_copyOf_1904c_9 : decode cJ7_copyOf_1904c 9 = .ok (.areturn, 1) := by decide +kernel
theorem ni_dJ7_copyOf_6403c_0 : decode cJ7_copyOf_6403c 0 = .ok (.aload_n 2, 1) := by decide +kernel
theorem ni_dJ7_copyOf_6403c_6 : decode cJ7_copyOf_6403c 6 = .ok (.iload_n 1, 1) := by decide +kernel
theorem ni_dJ7_copyOf_6403c_7 : decode cJ7_copyOf_6403c 7 = .ok (.anewarray 2, 3) := by decide +kernel
theorem ni_dJ7_copyOf_6403c_10 : decode cJ7_copyOf_6403c 10 = .ok (.goto 14, 3) := by decide +kernel
theorem ni_dJ7_copyOf_6403c_24 : decode cJ7_copyOf_6403c 24 = .ok (.astore_n 3, 1) := by decide +kernel
theorem ni_dJ7_copyOf_6403c_25 : decode cJ7_copyOf_6403c 25 = .ok (.aload_n 0, 1) := by decide +kernel
