theorem ni_dX11_latest_14 : decode cX11_latest 14 = .ok (.getfield 288, 3) := by decide +kernel
theorem ni_dX11_latest_17 : decode cX11_latest 17 = .ok (.ireturn, 1) := by decide +kernel
theorem ni_dX11_letterOf_0 : decode cX11_letterOf 0 = .ok (.aload_n 0, 1) := by decide +kernel
theorem ni_dX11_letterOf_1 : decode cX11_letterOf 1 = .ok (.iload_n 1, 1) := by decide +kernel
theorem ni_dX11_letterOf_2 : decode cX11_letterOf 2 = .ok (.invokevirtual 34, 3) := by decide +kernel
theorem ni_dX11_letterOf_5 : decode cX11_letterOf 5 = .ok (.aload_n 0, 1) := by decide +kernel
theorem ni_dX11_letterOf_6 : decode cX11_letterOf 6 = .ok (.iload_n 2, 1) := by decide +kernel
theorem ni_dX11_letterOf_7 : decode cX11_letterOf 7 = .ok (.invokevirtual 34, 3) := by decide +kernel
theorem ni_dX11_letterOf_10 : decode cX11_letterOf 10 = .ok (.aload_n 0, 1) := by decide +kernel
theorem ni_dX11_letterOf_11 : decode cX11_letterOf 11 = .ok (.getfield 10, 3) := by decide +kernel
theorem ni_dX11_letterOf_14 : decode cX11_letterOf 14 = .ok (.getfield 201, 3) := by decide +kernel
theorem ni_dX11_letterOf_17 : decode cX11_letterOf 17 = .ok (.iload_n 1, 1) := by decide +kernel
theorem ni_dX11_letterOf_18 : decode cX11_letterOf 18 = .ok (.aaload, 1) := by decide +kernel
theorem ni_dX11_letterOf_19 : decode cX11_letterOf 19 = .ok (.getfield 205, 3) := by decide +kernel
theorem ni_dX11_letterOf_22 : decode cX11_letterOf 22 = .ok (.iload_n 2, 1) := by decide +kernel
theorem ni_dX11_letterOf_23 : decode cX11_letterOf 23 = .ok (.aaload, 1) := by decide +kernel
theorem ni_dX11_letterOf_24 : decode cX11_letterOf 24 = .ok (.getfield 211, 3) := by decide +kernel
theorem ni_dX11_letterOf_27 : decode cX11_letterOf 27 = .ok (.ireturn, 1) := by decide +kernel
theorem ni_dX11_meanLate_0 : decode cX11_meanLate 0 = .ok (.aload_n 0, 1) := by decide +kernel
theorem ni_dX11_meanLate_1 : decode cX11_meanLate 1 = .ok (.iload_n 1, 1) := by decide +kernel
theorem ni_dX11_meanLate_2 : decode cX11_meanLate 2 = .ok (.invokevirtual 162, 3) := by decide +kernel
theorem ni_dX11_meanLate_5 : decode cX11_meanLate 5 = .ok (.aload_n 0, 1) := by decide +kernel
theorem ni_dX11_meanLate_6 : decode cX11_meanLate 6 = .ok (.getfield 10, 3) := by decide +kernel
theorem ni_dX11_meanLate_9 : decode cX11_meanLate 9 = .ok (.getfield 168, 3) := by decide +kernel
theorem ni_dX11_meanLate_12 : decode cX11_meanLate 12 = .ok (.iload_n 1, 1) := by decide +kernel
theorem ni_dX11_meanLate_13 : decode cX11_meanLate 13 = .ok (.aaload, 1) := by decide +kernel
theorem ni_dX11_meanLate_14 : decode cX11_meanLate 14 = .ok (.astore_n 2, 1) := by decide +kernel
theorem ni_dX11_meanLate_15 : decode cX11_meanLate 15 = .ok (.aload_n 2, 1) := by decide +kernel
theorem ni_dX11_meanLate_16 : decode cX11_meanLate 16 = .ok (.getfield 282, 3) := by decide +kernel
theorem ni_dX11_meanLate_19 : decode cX11_meanLate 19 = .ok (.ifCond .ne 7, 3) := by decide +kernel
theorem ni_dX11_meanLate_22 : decode cX11_meanLate 22 = .ok (.dconst 0, 1) := by decide +kernel
theorem ni_dX11_meanLate_23 : decode cX11_meanLate 23 = .ok (.goto 14, 3) := by decide +kernel
theorem ni_dX11_meanLate_26 : decode cX11_meanLate 26 = .ok (.aload_n 2, 1) := by decide +kernel
theorem ni_dX11_meanLate_27 : decode cX11_meanLate 27 = .ok (.getfield 291, 3) := by decide +kernel
theorem ni_dX11_meanLate_30 : decode cX11_meanLate 30 = .ok (.i2d, 1) := by decide +kernel
theorem ni_dX11_meanLate_31 : decode cX11_meanLate 31 = .ok (.aload_n 2, 1) := by decide +kernel
theorem ni_dX11_meanLate_32 : decode cX11_meanLate 32 = .ok (.getfield 282, 3) := by decide +kernel
theorem ni_dX11_meanLate_35 : decode cX11_meanLate 35 = .ok (.i2d, 1) := by decide +kernel
theorem ni_dX11_meanLate_36 : decode cX11_meanLate 36 = .ok (.ddiv, 1) := by decide +kernel
theorem ni_dX11_meanLate_37 : decode cX11_meanLate 37 = .ok (.dreturn, 1) := by decide +kernel
theorem ni_dX11_offered_0 : decode cX11_offered 0 = .ok (.aload_n 0, 1) := by decide +kernel
theorem ni_dX11_offered_1 : decode cX11_offered 1 = .ok (.iload_n 1, 1) := by decide +kernel
theorem ni_dX11_offered_2 : decode cX11_offered 2 = .ok (.invokevirtual 162, 3) := by decide +kernel
theorem ni_dX11_offered_5 : decode cX11_offered 5 = .ok (.aload_n 0, 1) := by decide +kernel
theorem ni_dX11_offered_6 : decode cX11_offered 6 = .ok (.getfield 10, 3) := by decide +kernel
theorem ni_dX11_offered_9 : decode cX11_offered 9 = .ok (.getfield 168, 3) := by decide +kernel
theorem ni_dX11_offered_12 : decode cX11_offered 12 = .ok (.iload_n 1, 1) := by decide +kernel
theorem ni_dX11_offered_13 : decode cX11_offered 13 = .ok (.aaload, 1) := by decide +kernel
theorem ni_dX11_offered_14 : decode cX11_offered 14 = .ok (.getfield 279, 3) := by decide +kernel
theorem ni_dX11_offered_17 : decode cX11_offered 17 = .ok (.ireturn, 1) := by decide +kernel
theorem ni_dX11_onLink_0 : decode cX11_onLink 0 = .ok (.aload_n 0, 1) := by decide +kernel
theorem ni_dX11_onLink_1 : decode cX11_onLink 1 = .ok (.iload_n 1, 1) := by decide +kernel
theorem ni_dX11_onLink_2 : decode cX11_onLink 2 = .ok (.invokevirtual 56, 3) := by decide +kernel
theorem ni_dX11_onLink_5 : decode cX11_onLink 5 = .ok (.aload_n 0, 1) := by decide +kernel
theorem ni_dX11_onLink_6 : decode cX11_onLink 6 = .ok (.getfield 10, 3) := by decide +kernel
theorem ni_dX11_onLink_9 : decode cX11_onLink 9 = .ok (.getfield 63, 3) := by decide +kernel
theorem ni_dX11_onLink_12 : decode cX11_onLink 12 = .ok (.iload_n 1, 1) := by decide +kernel
theorem ni_dX11_onLink_13 : decode cX11_onLink 13 = .ok (.aaload, 1) := by decide +kernel
theorem ni_dX11_onLink_14 : decode cX11_onLink 14 = .ok (.invokevirtual 276, 3) := by decide +kernel
theorem ni_dX11_onLink_17 : decode cX11_onLink 17 = .ok (.ireturn, 1) := by decide +kernel
theorem ni_dX11_outOfOrder_0 : decode cX11_outOfOrder 0 = .ok (.aload_n 0, 1) := by decide +kernel
theorem ni_dX11_outOfOrder_1 : decode cX11_outOfOrder 1 = .ok (.iload_n 1, 1) := by decide +kernel
theorem ni_dX11_outOfOrder_2 : decode cX11_outOfOrder 2 = .ok (.invokevirtual 162, 3) := by decide +kernel
theorem ni_dX11_outOfOrder_5 : decode cX11_outOfOrder 5 = .ok (.aload_n 0, 1) := by decide +kernel
theorem ni_dX11_outOfOrder_6 : decode cX11_outOfOrder 6 = .ok (.getfield 10, 3) := by decide +kernel
theorem ni_dX11_outOfOrder_9 : decode cX11_outOfOrder 9 = .ok (.getfield 168, 3) := by decide +kernel
theorem ni_dX11_outOfOrder_12 : decode cX11_outOfOrder 12 = .ok (.iload_n 1, 1) := by decide +kernel
theorem ni_dX11_outOfOrder_13 : decode cX11_outOfOrder 13 = .ok (.aaload, 1) := by decide +kernel
theorem ni_dX11_outOfOrder_14 : decode cX11_outOfOrder 14 = .ok (.getfield 294, 3) := by decide +kernel
theorem ni_dX11_outOfOrder_17 : decode cX11_outOfOrder 17 = .ok (.ireturn, 1) := by decide +kernel
theorem ni_dX11_portOf_0 : decode cX11_portOf 0 = .ok (.iload_n 2, 1) := by decide +kernel
theorem ni_dX11_portOf_1 : decode cX11_portOf 1 = .ok (.ifCond .eq 18, 3) := by decide +kernel
theorem ni_dX11_portOf_4 : decode cX11_portOf 4 = .ok (.aload_n 0, 1) := by decide +kernel
theorem ni_dX11_portOf_5 : decode cX11_portOf 5 = .ok (.getfield 10, 3) := by decide +kernel
theorem ni_dX11_portOf_8 : decode cX11_portOf 8 = .ok (.getfield 63, 3) := by decide +kernel
theorem ni_dX11_portOf_11 : decode cX11_portOf 11 = .ok (.iload_n 1, 1) := by decide +kernel
theorem ni_dX11_portOf_12 : decode cX11_portOf 12 = .ok (.aaload, 1) := by decide +kernel
theorem ni_dX11_portOf_13 : decode cX11_portOf 13 = .ok (.getfield 325, 3) := by decide +kernel
theorem ni_dX11_portOf_16 : decode cX11_portOf 16 = .ok (.goto 15, 3) := by decide +kernel
theorem ni_dX11_portOf_19 : decode cX11_portOf 19 = .ok (.aload_n 0, 1) := by decide +kernel
theorem ni_dX11_portOf_20 : decode cX11_portOf 20 = .ok (.getfield 10, 3) := by decide +kernel
theorem ni_dX11_portOf_23 : decode cX11_portOf 23 = .ok (.getfield 63, 3) := by decide +kernel
theorem ni_dX11_portOf_26 : decode cX11_portOf 26 = .ok (.iload_n 1, 1) := by decide +kernel
theorem ni_dX11_portOf_27 : decode cX11_portOf 27 = .ok (.aaload, 1) := by decide +kernel
theorem ni_dX11_portOf_28 : decode cX11_portOf 28 = .ok (.getfield 317, 3) := by decide +kernel
theorem ni_dX11_portOf_31 : decode cX11_portOf 31 = .ok (.areturn, 1) := by decide +kernel
theorem ni_dX11_queued_0 : decode cX11_queued 0 = .ok (.aload_n 0, 1) := by decide +kernel
theorem ni_dX11_queued_1 : decode cX11_queued 1 = .ok (.iload_n 1, 1) := by decide +kernel
theorem ni_dX11_queued_2 : decode cX11_queued 2 = .ok (.invokevirtual 56, 3) := by decide +kernel
theorem ni_dX11_queued_5 : decode cX11_queued 5 = .ok (.iload_n 3, 1) := by decide +kernel
theorem ni_dX11_queued_6 : decode cX11_queued 6 = .ok (.iconst 4, 1) := by decide +kernel
theorem ni_dX11_queued_7 : decode cX11_queued 7 = .ok (.invokestatic 108, 3) := by decide +kernel
theorem ni_dX11_queued_10 : decode cX11_queued 10 = .ok (.aload_n 0, 1) := by decide +kernel
theorem ni_dX11_queued_11 : decode cX11_queued 11 = .ok (.iload_n 1, 1) := by decide +kernel
theorem ni_dX11_queued_12 : decode cX11_queued 12 = .ok (.iload_n 2, 1) := by decide +kernel
theorem ni_dX11_queued_13 : decode cX11_queued 13 = .ok (.invokevirtual 133, 3) := by decide +kernel
theorem ni_dX11_queued_16 : decode cX11_queued 16 = .ok (.iload_n 3, 1) := by decide +kernel
theorem ni_dX11_queued_17 : decode cX11_queued 17 = .ok (.invokevirtual 267, 3) := by decide +kernel
theorem ni_dX11_queued_20 : decode cX11_queued 20 = .ok (.ireturn, 1) := by decide +kernel
theorem ni_dX11_route_0 : decode cX11_route 0 = .ok (.aload_n 0, 1) := by decide +kernel
theorem ni_dX11_route_1 : decode cX11_route 1 = .ok (.iload_n 1, 1) := by decide +kernel
theorem ni_dX11_route_2 : decode cX11_route 2 = .ok (.invokevirtual 162, 3) := by decide +kernel
theorem ni_dX11_route_5 : decode cX11_route 5 = .ok (.aload_n 0, 1) := by decide +kernel
theorem ni_dX11_route_6 : decode cX11_route 6 = .ok (.getfield 10, 3) := by decide +kernel
theorem ni_dX11_route_9 : decode cX11_route 9 = .ok (.iload_n 1, 1) := by decide +kernel
theorem ni_dX11_route_10 : decode cX11_route 10 = .ok (.invokevirtual 261, 3) := by decide +kernel
theorem ni_dX11_route_13 : decode cX11_route 13 = .ok (.ireturn, 1) := by decide +kernel
theorem ni_dX11_routers_0 : decode cX11_routers 0 = .ok (.aload_n 0, 1) := by decide +kernel
theorem ni_dX11_routers_1 : decode cX11_routers 1 = .ok (.getfield 10, 3) := by decide +kernel
theorem ni_dX11_routers_4 : decode cX11_routers 4 = .ok (.getfield 19, 3) := by decide +kernel
theorem ni_dX11_routers_7 : decode cX11_routers 7 = .ok (.ireturn, 1) := by decide +kernel
theorem ni_dX11_schedule_0 : decode cX11_schedule 0 = .ok (.aload_n 0, 1) := by decide +kernel
theorem ni_dX11_schedule_1 : decode cX11_schedule 1 = .ok (.iload_n 1, 1) := by decide +kernel
theorem ni_dX11_schedule_2 : decode cX11_schedule 2 = .ok (.invokevirtual 162, 3) := by decide +kernel
theorem ni_dX11_schedule_5 : decode cX11_schedule 5 = .ok (.iload_n 2, 1) := by decide +kernel
theorem ni_dX11_schedule_6 : decode cX11_schedule 6 = .ok (.aload_n 0, 1) := by decide +kernel
theorem ni_dX11_schedule_7 : decode cX11_schedule 7 = .ok (.getfield 10, 3) := by decide +kernel
theorem ni_dX11_schedule_10 : decode cX11_schedule 10 = .ok (.getfield 165, 3) := by decide +kernel
theorem ni_dX11_schedule_13 : decode cX11_schedule 13 = .ok (.aload_n 0, 1) := by decide +kernel
theorem ni_dX11_schedule_14 : decode cX11_schedule 14 = .ok (.getfield 10, 3) := by decide +kernel
theorem ni_dX11_schedule_17 : decode cX11_schedule 17 = .ok (.getfield 165, 3) := by decide +kernel
theorem ni_dX11_schedule_20 : decode cX11_schedule 20 = .ok (.sipush 5000, 3) := by decide +kernel
theorem ni_dX11_schedule_23 : decode cX11_schedule 23 = .ok (.iadd, 1) := by decide +kernel
theorem ni_dX11_schedule_24 : decode cX11_schedule 24 = .ok (.invokestatic 43, 3) := by decide +kernel
theorem ni_dX11_schedule_27 : decode cX11_schedule 27 = .ok (.iload_n 3, 1) := by decide +kernel
theorem ni_dX11_schedule_28 : decode cX11_schedule 28 = .ok (.iconst 1, 1) := by decide +kernel
theorem ni_dX11_schedule_29 : decode cX11_schedule 29 = .ok (.bipush 50, 2) := by decide +kernel
theorem ni_dX11_schedule_31 : decode cX11_schedule 31 = .ok (.invokestatic 43, 3) := by decide +kernel
theorem ni_dX11_schedule_34 : decode cX11_schedule 34 = .ok (.iload 4, 2) := by decide +kernel
theorem ni_dX11_schedule_36 : decode cX11_schedule 36 = .ok (.iconst 1, 1) := by decide +kernel
theorem ni_dX11_schedule_37 : decode cX11_schedule 37 = .ok (.bipush 60, 2) := by decide +kernel
theorem ni_dX11_schedule_39 : decode cX11_schedule 39 = .ok (.invokestatic 43, 3) := by decide +kernel
theorem ni_dX11_schedule_42 : decode cX11_schedule 42 = .ok (.aload_n 0, 1) := by decide +kernel
theorem ni_dX11_schedule_43 : decode cX11_schedule 43 = .ok (.getfield 10, 3) := by decide +kernel
theorem ni_dX11_schedule_46 : decode cX11_schedule 46 = .ok (.getfield 168, 3) := by decide +kernel
theorem ni_dX11_schedule_49 : decode cX11_schedule 49 = .ok (.iload_n 1, 1) := by decide +kernel
theorem ni_dX11_schedule_50 : decode cX11_schedule 50 = .ok (.aaload, 1) := by decide +kernel
theorem ni_dX11_schedule_51 : decode cX11_schedule 51 = .ok (.astore 5, 2) := by decide +kernel
theorem ni_dX11_schedule_53 : decode cX11_schedule 53 = .ok (.aload 5, 2) := by decide +kernel
theorem ni_dX11_schedule_55 : decode cX11_schedule 55 = .ok (.getfield 172, 3) := by decide +kernel
theorem ni_dX11_schedule_58 : decode cX11_schedule 58 = .ok (.iconst (-1), 1) := by decide +kernel
theorem ni_dX11_schedule_59 : decode cX11_schedule 59 = .ok (.if_icmp .eq 13, 3) := by decide +kernel
theorem ni_dX11_schedule_72 : decode cX11_schedule 72 = .ok (.aload 5, 2) := by decide +kernel
theorem ni_dX11_schedule_74 : decode cX11_schedule 74 = .ok (.iload_n 2, 1) := by decide +kernel
theorem ni_dX11_schedule_75 : decode cX11_schedule 75 = .ok (.putfield 172, 3) := by decide +kernel
theorem ni_dX11_schedule_78 : decode cX11_schedule 78 = .ok (.aload 5, 2) := by decide +kernel
theorem ni_dX11_schedule_80 : decode cX11_schedule 80 = .ok (.iload_n 3, 1) := by decide +kernel
theorem ni_dX11_schedule_81 : decode cX11_schedule 81 = .ok (.putfield 179, 3) := by decide +kernel
theorem ni_dX11_schedule_84 : decode cX11_schedule 84 = .ok (.aload 5, 2) := by decide +kernel
theorem ni_dX11_schedule_86 : decode cX11_schedule 86 = .ok (.iload 4, 2) := by decide +kernel
theorem ni_dX11_schedule_88 : decode cX11_schedule 88 = .ok (.putfield 182, 3) := by decide +kernel
theorem ni_dX11_schedule_91 : decode cX11_schedule 91 = .ok (.iload_n 2, 1) := by decide +kernel
theorem ni_dX11_schedule_92 : decode cX11_schedule 92 = .ok (.iload 4, 2) := by decide +kernel
theorem ni_dX11_schedule_94 : decode cX11_schedule 94 = .ok (.iconst 1, 1) := by decide +kernel
theorem ni_dX11_schedule_95 : decode cX11_schedule 95 = .ok (.isub, 1) := by decide +kernel
theorem ni_dX11_schedule_96 : decode cX11_schedule 96 = .ok (.iload_n 3, 1) := by decide +kernel
theorem ni_dX11_schedule_97 : decode cX11_schedule 97 = .ok (.imul, 1) := by decide +kernel
theorem ni_dX11_schedule_98 : decode cX11_schedule 98 = .ok (.iadd, 1) := by decide +kernel
theorem ni_dX11_schedule_99 : decode cX11_schedule 99 = .ok (.ireturn, 1) := by decide +kernel
theorem ni_dX11_sending_0 : decode cX11_sending 0 = .ok (.aload_n 0, 1) := by decide +kernel
theorem ni_dX11_sending_1 : decode cX11_sending 1 = .ok (.iload_n 1, 1) := by decide +kernel
theorem ni_dX11_sending_2 : decode cX11_sending 2 = .ok (.invokevirtual 56, 3) := by decide +kernel
theorem ni_dX11_sending_5 : decode cX11_sending 5 = .ok (.aload_n 0, 1) := by decide +kernel
theorem ni_dX11_sending_6 : decode cX11_sending 6 = .ok (.iload_n 1, 1) := by decide +kernel
theorem ni_dX11_sending_7 : decode cX11_sending 7 = .ok (.iload_n 2, 1) := by decide +kernel
theorem ni_dX11_sending_8 : decode cX11_sending 8 = .ok (.invokevirtual 133, 3) := by decide +kernel
theorem ni_dX11_sending_11 : decode cX11_sending 11 = .ok (.getfield 270, 3) := by decide +kernel
theorem ni_dX11_sending_14 : decode cX11_sending 14 = .ok (.ireturn, 1) := by decide +kernel
theorem ni_dX11_setCost_0 : decode cX11_setCost 0 = .ok (.aload_n 0, 1) := by decide +kernel
theorem ni_dX11_setCost_1 : decode cX11_setCost 1 = .ok (.iload_n 1, 1) := by decide +kernel
theorem ni_dX11_setCost_2 : decode cX11_setCost 2 = .ok (.invokevirtual 56, 3) := by decide +kernel
theorem ni_dX11_setCost_5 : decode cX11_setCost 5 = .ok (.iload_n 2, 1) := by decide +kernel
theorem ni_dX11_setCost_6 : decode cX11_setCost 6 = .ok (.iconst 1, 1) := by decide +kernel
theorem ni_dX11_setCost_7 : decode cX11_setCost 7 = .ok (.bipush 50, 2) := by decide +kernel
theorem ni_dX11_setCost_9 : decode cX11_setCost 9 = .ok (.invokestatic 43, 3) := by decide +kernel
theorem ni_dX11_setCost_12 : decode cX11_setCost 12 = .ok (.aload_n 0, 1) := by decide +kernel
theorem ni_dX11_setCost_13 : decode cX11_setCost 13 = .ok (.getfield 10, 3) := by decide +kernel
theorem ni_dX11_setCost_16 : decode cX11_setCost 16 = .ok (.iload_n 1, 1) := by decide +kernel
theorem ni_dX11_setCost_17 : decode cX11_setCost 17 = .ok (.iload_n 2, 1) := by decide +kernel
theorem ni_dX11_setCost_18 : decode cX11_setCost 18 = .ok (.invokevirtual 59, 3) := by decide +kernel
theorem ni_dX11_setCost_21 : decode cX11_setCost 21 = .ok (.ireturn, 1) := by decide +kernel
theorem ni_dX11_setPort_0 : decode cX11_setPort 0 = .ok (.aload_n 0, 1) := by decide +kernel
theorem ni_dX11_setPort_1 : decode cX11_setPort 1 = .ok (.iload_n 1, 1) := by decide +kernel
theorem ni_dX11_setPort_2 : decode cX11_setPort 2 = .ok (.invokevirtual 56, 3) := by decide +kernel
theorem ni_dX11_setPort_5 : decode cX11_setPort 5 = .ok (.iload_n 3, 1) := by decide +kernel
theorem ni_dX11_setPort_6 : decode cX11_setPort 6 = .ok (.iconst 0, 1) := by decide +kernel
theorem ni_dX11_setPort_7 : decode cX11_setPort 7 = .ok (.iconst 2, 1) := by decide +kernel
theorem ni_dX11_setPort_8 : decode cX11_setPort 8 = .ok (.invokestatic 43, 3) := by decide +kernel
theorem ni_dX11_setPort_11 : decode cX11_setPort 11 = .ok (.iload 4, 2) := by decide +kernel
theorem ni_dX11_setPort_13 : decode cX11_setPort 13 = .ok (.bipush 50, 2) := by decide +kernel
theorem ni_dX11_setPort_15 : decode cX11_setPort 15 = .ok (.sipush 5000, 3) := by decide +kernel
theorem ni_dX11_setPort_18 : decode cX11_setPort 18 = .ok (.invokestatic 43, 3) := by decide +kernel
theorem ni_dX11_setPort_21 : decode cX11_setPort 21 = .ok (.aload_n 0, 1) := by decide +kernel
theorem ni_dX11_setPort_22 : decode cX11_setPort 22 = .ok (.iload_n 1, 1) := by decide +kernel
theorem ni_dX11_setPort_23 : decode cX11_setPort 23 = .ok (.iload_n 2, 1) := by decide +kernel
theorem ni_dX11_setPort_24 : decode cX11_setPort 24 = .ok (.invokevirtual 133, 3) := by decide +kernel
theorem ni_dX11_setPort_27 : decode cX11_setPort 27 = .ok (.astore 6, 2) := by decide +kernel
theorem ni_dX11_setPort_29 : decode cX11_setPort 29 = .ok (.aload 6, 2) := by decide +kernel
theorem ni_dX11_setPort_31 : decode cX11_setPort 31 = .ok (.iload_n 3, 1) := by decide +kernel
theorem ni_dX11_setPort_32 : decode cX11_setPort 32 = .ok (.iload 4, 2) := by decide +kernel
theorem ni_dX11_setPort_34 : decode cX11_setPort 34 = .ok (.iload 5, 2) := by decide +kernel
theorem ni_dX11_setPort_36 : decode cX11_setPort 36 = .ok (.invokevirtual 137, 3) := by decide +kernel
theorem ni_dX11_setPort_39 : decode cX11_setPort 39 = .ok (.aload 6, 2) := by decide +kernel
theorem ni_dX11_setPort_41 : decode cX11_setPort 41 = .ok (.getfield 143, 3) := by decide +kernel
theorem ni_dX11_setPort_44 : decode cX11_setPort 44 = .ok (.ireturn, 1) := by decide +kernel
theorem ni_dX11_setUp_0 : decode cX11_setUp 0 = .ok (.aload_n 0, 1) := by decide +kernel
theorem ni_dX11_setUp_1 : decode cX11_setUp 1 = .ok (.iload_n 1, 1) := by decide +kernel
theorem ni_dX11_setUp_2 : decode cX11_setUp 2 = .ok (.invokevirtual 56, 3) := by decide +kernel
theorem ni_dX11_setUp_5 : decode cX11_setUp 5 = .ok (.aload_n 0, 1) := by decide +kernel
theorem ni_dX11_setUp_6 : decode cX11_setUp 6 = .ok (.getfield 10, 3) := by decide +kernel
theorem ni_dX11_setUp_9 : decode cX11_setUp 9 = .ok (.getfield 63, 3) := by decide +kernel
theorem ni_dX11_setUp_12 : decode cX11_setUp 12 = .ok (.iload_n 1, 1) := by decide +kernel
theorem ni_dX11_setUp_13 : decode cX11_setUp 13 = .ok (.aaload, 1) := by decide +kernel
theorem ni_dX11_setUp_14 : decode cX11_setUp 14 = .ok (.getfield 67, 3) := by decide +kernel
theorem ni_dX11_setUp_17 : decode cX11_setUp 17 = .ok (.istore_n 3, 1) := by decide +kernel
theorem ni_dX11_setUp_18 : decode cX11_setUp 18 = .ok (.iload_n 2, 1) := by decide +kernel
theorem ni_dX11_setUp_19 : decode cX11_setUp 19 = .ok (.ifCond .eq 15, 3) := by decide +kernel
theorem ni_dX11_setUp_22 : decode cX11_setUp 22 = .ok (.iload_n 3, 1) := by decide +kernel
theorem ni_dX11_setUp_23 : decode cX11_setUp 23 = .ok (.ifCond .ne 11, 3) := by decide +kernel
theorem ni_dX11_setUp_26 : decode cX11_setUp 26 = .ok (.aload_n 0, 1) := by decide +kernel
theorem ni_dX11_setUp_27 : decode cX11_setUp 27 = .ok (.getfield 10, 3) := by decide +kernel
theorem ni_dX11_setUp_30 : decode cX11_setUp 30 = .ok (.iload_n 1, 1) := by decide +kernel
theorem ni_dX11_setUp_31 : decode cX11_setUp 31 = .ok (.invokevirtual 73, 3) := by decide +kernel
theorem ni_dX11_setUp_34 : decode cX11_setUp 34 = .ok (.iload_n 2, 1) := by decide +kernel
theorem ni_dX11_setUp_35 : decode cX11_setUp 35 = .ok (.ifCond .ne 15, 3) := by decide +kernel
theorem ni_dX11_setUp_38 : decode cX11_setUp 38 = .ok (.iload_n 3, 1) := by decide +kernel
theorem ni_dX11_setUp_39 : decode cX11_setUp 39 = .ok (.ifCond .eq 11, 3) := by decide +kernel
theorem ni_dX11_setUp_42 : decode cX11_setUp 42 = .ok (.aload_n 0, 1) := by decide +kernel
theorem ni_dX11_setUp_43 : decode cX11_setUp 43 = .ok (.getfield 10, 3) := by decide +kernel
theorem ni_dX11_setUp_46 : decode cX11_setUp 46 = .ok (.iload_n 1, 1) := by decide +kernel
theorem ni_dX11_setUp_47 : decode cX11_setUp 47 = .ok (.invokevirtual 76, 3) := by decide +kernel
theorem ni_dX11_setUp_50 : decode cX11_setUp 50 = .ok (.iload_n 3, 1) := by decide +kernel
theorem ni_dX11_setUp_51 : decode cX11_setUp 51 = .ok (.ireturn, 1) := by decide +kernel
theorem ni_dX11_setWeight_0 : decode cX11_setWeight 0 = .ok (.aload_n 0, 1) := by decide +kernel
theorem ni_dX11_setWeight_1 : decode cX11_setWeight 1 = .ok (.iload_n 1, 1) := by decide +kernel
theorem ni_dX11_setWeight_2 : decode cX11_setWeight 2 = .ok (.invokevirtual 56, 3) := by decide +kernel
theorem ni_dX11_setWeight_5 : decode cX11_setWeight 5 = .ok (.iload_n 3, 1) := by decide +kernel
theorem ni_dX11_setWeight_6 : decode cX11_setWeight 6 = .ok (.iconst 4, 1) := by decide +kernel
theorem ni_dX11_setWeight_7 : decode cX11_setWeight 7 = .ok (.invokestatic 108, 3) := by decide +kernel
theorem ni_dX11_setWeight_10 : decode cX11_setWeight 10 = .ok (.iload 4, 2) := by decide +kernel
theorem ni_dX11_setWeight_12 : decode cX11_setWeight 12 = .ok (.iconst 1, 1) := by decide +kernel
theorem ni_dX11_setWeight_13 : decode cX11_setWeight 13 = .ok (.iconst 4, 1) := by decide +kernel
theorem ni_dX11_setWeight_14 : decode cX11_setWeight 14 = .ok (.invokestatic 43, 3) := by decide +kernel
theorem ni_dX11_setWeight_17 : decode cX11_setWeight 17 = .ok (.aload_n 0, 1) := by decide +kernel
theorem ni_dX11_setWeight_18 : decode cX11_setWeight 18 = .ok (.iload_n 1, 1) := by decide +kernel
theorem ni_dX11_setWeight_19 : decode cX11_setWeight 19 = .ok (.iload_n 2, 1) := by decide +kernel
theorem ni_dX11_setWeight_20 : decode cX11_setWeight 20 = .ok (.invokevirtual 133, 3) := by decide +kernel
theorem ni_dX11_setWeight_23 : decode cX11_setWeight 23 = .ok (.astore 5, 2) := by decide +kernel
theorem ni_dX11_setWeight_25 : decode cX11_setWeight 25 = .ok (.aload 5, 2) := by decide +kernel
theorem ni_dX11_setWeight_27 : decode cX11_setWeight 27 = .ok (.getfield 146, 3) := by decide +kernel
theorem ni_dX11_setWeight_30 : decode cX11_setWeight 30 = .ok (.iload_n 3, 1) := by decide +kernel
theorem ni_dX11_setWeight_31 : decode cX11_setWeight 31 = .ok (.iaload, 1) := by decide +kernel
theorem ni_dX11_setWeight_32 : decode cX11_setWeight 32 = .ok (.istore 6, 2) := by decide +kernel
theorem ni_dX11_setWeight_34 : decode cX11_setWeight 34 = .ok (.aload 5, 2) := by decide +kernel
theorem ni_dX11_setWeight_36 : decode cX11_setWeight 36 = .ok (.getfield 146, 3) := by decide +kernel
theorem ni_dX11_setWeight_39 : decode cX11_setWeight 39 = .ok (.iload_n 3, 1) := by decide +kernel
theorem ni_dX11_setWeight_40 : decode cX11_setWeight 40 = .ok (.iload 4, 2) := by decide +kernel
theorem ni_dX11_setWeight_42 : decode cX11_setWeight 42 = .ok (.iastore, 1) := by decide +kernel
theorem ni_dX11_setWeight_43 : decode cX11_setWeight 43 = .ok (.iload 6, 2) := by decide +kernel
theorem ni_dX11_setWeight_45 : decode cX11_setWeight 45 = .ok (.ireturn, 1) := by decide +kernel
theorem ni_dX11_settledIn_0 : decode cX11_settledIn 0 = .ok (.iload_n 1, 1) := by decide +kernel
theorem ni_dX11_settledIn_1 : decode cX11_settledIn 1 = .ok (.iconst 1, 1) := by decide +kernel
theorem ni_dX11_settledIn_2 : decode cX11_settledIn 2 = .ok (.bipush 60, 2) := by decide +kernel
theorem ni_dX11_settledIn_4 : decode cX11_settledIn 4 = .ok (.invokestatic 43, 3) := by decide +kernel
theorem ni_dX11_settledIn_7 : decode cX11_settledIn 7 = .ok (.aload_n 0, 1) := by decide +kernel
theorem ni_dX11_settledIn_8 : decode cX11_settledIn 8 = .ok (.getfield 10, 3) := by decide +kernel
theorem ni_dX11_settledIn_11 : decode cX11_settledIn 11 = .ok (.invokevirtual 216, 3) := by decide +kernel
theorem ni_dX11_settledIn_14 : decode cX11_settledIn 14 = .ok (.ifCond .ne 5, 3) := by decide +kernel
theorem ni_dX11_settledIn_17 : decode cX11_settledIn 17 = .ok (.iconst 0, 1) := by decide +kernel
theorem ni_dX11_settledIn_18 : decode cX11_settledIn 18 = .ok (.ireturn, 1) := by decide +kernel
theorem ni_dX11_settledIn_19 : decode cX11_settledIn 19 = .ok (.aload_n 0, 1) := by decide +kernel
theorem ni_dX11_settledIn_20 : decode cX11_settledIn 20 = .ok (.getfield 16, 3) := by decide +kernel
theorem ni_dX11_settledIn_23 : decode cX11_settledIn 23 = .ok (.aload_n 0, 1) := by decide +kernel
theorem ni_dX11_settledIn_24 : decode cX11_settledIn 24 = .ok (.getfield 10, 3) := by decide +kernel
theorem ni_dX11_settledIn_27 : decode cX11_settledIn 27 = .ok (.invokevirtual 297, 3) := by decide +kernel
theorem ni_dX11_settledIn_30 : decode cX11_settledIn 30 = .ok (.iconst 1, 1) := by decide +kernel
theorem ni_dX11_settledIn_31 : decode cX11_settledIn 31 = .ok (.istore_n 2, 1) := by decide +kernel
theorem ni_dX11_settledIn_32 : decode cX11_settledIn 32 = .ok (.iload_n 2, 1) := by decide +kernel
theorem ni_dX11_settledIn_33 : decode cX11_settledIn 33 = .ok (.iload_n 1, 1) := by decide +kernel
theorem ni_dX11_settledIn_34 : decode cX11_settledIn 34 = .ok (.if_icmp .gt 28, 3) := by decide +kernel
theorem ni_dX11_settledIn_37 : decode cX11_settledIn 37 = .ok (.aload_n 0, 1) := by decide +kernel
theorem ni_dX11_settledIn_38 : decode cX11_settledIn 38 = .ok (.getfield 16, 3) := by decide +kernel
theorem ni_dX11_settledIn_41 : decode cX11_settledIn 41 = .ok (.invokevirtual 198, 3) := by decide +kernel
theorem ni_dX11_settledIn_44 : decode cX11_settledIn 44 = .ok (.aload_n 0, 1) := by decide +kernel
theorem ni_dX11_settledIn_45 : decode cX11_settledIn 45 = .ok (.getfield 16, 3) := by decide +kernel
theorem ni_dX11_settledIn_48 : decode cX11_settledIn 48 = .ok (.invokevirtual 216, 3) := by decide +kernel
theorem ni_dX11_settledIn_51 : decode cX11_settledIn 51 = .ok (.ifCond .ne 5, 3) := by decide +kernel
theorem ni_dX11_settledIn_54 : decode cX11_settledIn 54 = .ok (.iload_n 2, 1) := by decide +kernel
theorem ni_dX11_settledIn_55 : decode cX11_settledIn 55 = .ok (.ireturn, 1) := by decide +kernel
theorem ni_dX11_settledIn_56 : decode cX11_settledIn 56 = .ok (.iinc 2 1, 3) := by decide +kernel
theorem ni_dX11_settledIn_59 : decode cX11_settledIn 59 = .ok (.goto (-27), 3) := by decide +kernel
theorem ni_dX11_settledIn_62 : decode cX11_settledIn 62 = .ok (.iconst (-1), 1) := by decide +kernel
theorem ni_dX11_settledIn_63 : decode cX11_settledIn 63 = .ok (.ireturn, 1) := by decide +kernel
theorem ni_dX11_shape_0 : decode cX11_shape 0 = .ok (.aload_n 0, 1) := by decide +kernel
theorem ni_dX11_shape_1 : decode cX11_shape 1 = .ok (.iload_n 1, 1) := by decide +kernel
theorem ni_dX11_shape_2 : decode cX11_shape 2 = .ok (.invokevirtual 162, 3) := by decide +kernel
theorem ni_dX11_shape_5 : decode cX11_shape 5 = .ok (.aload_n 0, 1) := by decide +kernel
theorem ni_dX11_shape_6 : decode cX11_shape 6 = .ok (.getfield 10, 3) := by decide +kernel
theorem ni_dX11_shape_9 : decode cX11_shape 9 = .ok (.getfield 168, 3) := by decide +kernel
theorem ni_dX11_shape_12 : decode cX11_shape 12 = .ok (.iload_n 1, 1) := by decide +kernel
theorem ni_dX11_shape_13 : decode cX11_shape 13 = .ok (.aaload, 1) := by decide +kernel
theorem ni_dX11_shape_14 : decode cX11_shape 14 = .ok (.astore 4, 2) := by decide +kernel
theorem ni_dX11_shape_16 : decode cX11_shape 16 = .ok (.iload_n 2, 1) := by decide +kernel
theorem ni_dX11_shape_17 : decode cX11_shape 17 = .ok (.iconst 1, 1) := by decide +kernel
theorem ni_dX11_shape_18 : decode cX11_shape 18 = .ok (.sipush 500, 3) := by decide +kernel
theorem ni_dX11_shape_21 : decode cX11_shape 21 = .ok (.invokestatic 43, 3) := by decide +kernel
theorem ni_dX11_shape_24 : decode cX11_shape 24 = .ok (.iload_n 3, 1) := by decide +kernel
theorem ni_dX11_shape_25 : decode cX11_shape 25 = .ok (.aload 4, 2) := by decide +kernel
theorem ni_dX11_shape_27 : decode cX11_shape 27 = .ok (.getfield 183, 3) := by decide +kernel
theorem ni_dX11_shape_30 : decode cX11_shape 30 = .ok (.sipush 5000, 3) := by decide +kernel
theorem ni_dX11_shape_33 : decode cX11_shape 33 = .ok (.invokestatic 43, 3) := by decide +kernel
theorem ni_dX11_shape_36 : decode cX11_shape 36 = .ok (.aload 4, 2) := by decide +kernel
theorem ni_dX11_shape_38 : decode cX11_shape 38 = .ok (.iload_n 2, 1) := by decide +kernel
theorem ni_dX11_shape_39 : decode cX11_shape 39 = .ok (.putfield 186, 3) := by decide +kernel
theorem ni_dX11_shape_42 : decode cX11_shape 42 = .ok (.aload 4, 2) := by decide +kernel
theorem ni_dX11_shape_44 : decode cX11_shape 44 = .ok (.iload_n 3, 1) := by decide +kernel
theorem ni_dX11_shape_45 : decode cX11_shape 45 = .ok (.putfield 189, 3) := by decide +kernel
theorem ni_dX11_shape_48 : decode cX11_shape 48 = .ok (.aload 4, 2) := by decide +kernel
theorem ni_dX11_shape_50 : decode cX11_shape 50 = .ok (.iload_n 3, 1) := by decide +kernel
theorem ni_dX11_shape_51 : decode cX11_shape 51 = .ok (.putfield 192, 3) := by decide +kernel
theorem ni_dX11_shape_54 : decode cX11_shape 54 = .ok (.aload 4, 2) := by decide +kernel
theorem ni_dX11_shape_56 : decode cX11_shape 56 = .ok (.getfield 195, 3) := by decide +kernel
theorem ni_dX11_shape_59 : decode cX11_shape 59 = .ok (.ireturn, 1) := by decide +kernel
theorem ni_dX11_shaping_0 : decode cX11_shaping 0 = .ok (.aload_n 0, 1) := by decide +kernel
theorem ni_dX11_shaping_1 : decode cX11_shaping 1 = .ok (.iload_n 1, 1) := by decide +kernel
theorem ni_dX11_shaping_2 : decode cX11_shaping 2 = .ok (.invokevirtual 162, 3) := by decide +kernel
theorem ni_dX11_shaping_5 : decode cX11_shaping 5 = .ok (.aload_n 0, 1) := by decide +kernel
theorem ni_dX11_shaping_6 : decode cX11_shaping 6 = .ok (.getfield 10, 3) := by decide +kernel
theorem ni_dX11_shaping_9 : decode cX11_shaping 9 = .ok (.getfield 168, 3) := by decide +kernel
theorem ni_dX11_shaping_12 : decode cX11_shaping 12 = .ok (.iload_n 1, 1) := by decide +kernel
theorem ni_dX11_shaping_13 : decode cX11_shaping 13 = .ok (.aaload, 1) := by decide +kernel
theorem ni_dX11_shaping_14 : decode cX11_shaping 14 = .ok (.getfield 195, 3) := by decide +kernel
theorem ni_dX11_shaping_17 : decode cX11_shaping 17 = .ok (.ireturn, 1) := by decide +kernel
theorem ni_dX11_step_0 : decode cX11_step 0 = .ok (.iload_n 1, 1) := by decide +kernel
theorem ni_dX11_step_1 : decode cX11_step 1 = .ok (.iconst 1, 1) := by decide +kernel
theorem ni_dX11_step_2 : decode cX11_step 2 = .ok (.bipush 60, 2) := by decide +kernel
theorem ni_dX11_step_4 : decode cX11_step 4 = .ok (.invokestatic 43, 3) := by decide +kernel
theorem ni_dX11_step_7 : decode cX11_step 7 = .ok (.iconst 0, 1) := by decide +kernel
theorem ni_dX11_step_8 : decode cX11_step 8 = .ok (.istore_n 2, 1) := by decide +kernel
theorem ni_dX11_step_9 : decode cX11_step 9 = .ok (.iload_n 2, 1) := by decide +kernel
theorem ni_dX11_step_10 : decode cX11_step 10 = .ok (.iload_n 1, 1) := by decide +kernel
theorem ni_dX11_step_11 : decode cX11_step 11 = .ok (.if_icmp .ge 16, 3) := by decide +kernel
theorem ni_dX11_step_14 : decode cX11_step 14 = .ok (.aload_n 0, 1) := by decide +kernel
theorem ni_dX11_step_15 : decode cX11_step 15 = .ok (.getfield 10, 3) := by decide +kernel
theorem ni_dX11_step_18 : decode cX11_step 18 = .ok (.invokevirtual 198, 3) := by decide +kernel
theorem ni_dX11_step_21 : decode cX11_step 21 = .ok (.iinc 2 1, 3) := by decide +kernel
theorem ni_dX11_step_24 : decode cX11_step 24 = .ok (.goto (-15), 3) := by decide +kernel
theorem ni_dX11_step_27 : decode cX11_step 27 = .ok (.aload_n 0, 1) := by decide +kernel
theorem ni_dX11_step_28 : decode cX11_step 28 = .ok (.getfield 10, 3) := by decide +kernel
theorem ni_dX11_step_31 : decode cX11_step 31 = .ok (.getfield 165, 3) := by decide +kernel
theorem ni_dX11_step_34 : decode cX11_step 34 = .ok (.ireturn, 1) := by decide +kernel
theorem ni_dX11_time_0 : decode cX11_time 0 = .ok (.aload_n 0, 1) := by decide +kernel
theorem ni_dX11_time_1 : decode cX11_time 1 = .ok (.getfield 10, 3) := by decide +kernel
theorem ni_dX11_time_4 : decode cX11_time 4 = .ok (.getfield 165, 3) := by decide +kernel
theorem ni_dX11_time_7 : decode cX11_time 7 = .ok (.ireturn, 1) := by decide +kernel
theorem ni_dX11_trieDepth_0 : decode cX11_trieDepth 0 = .ok (.aload_n 0, 1) := by decide +kernel
theorem ni_dX11_trieDepth_1 : decode cX11_trieDepth 1 = .ok (.iload_n 1, 1) := by decide +kernel
theorem ni_dX11_trieDepth_2 : decode cX11_trieDepth 2 = .ok (.invokevirtual 34, 3) := by decide +kernel
theorem ni_dX11_trieDepth_5 : decode cX11_trieDepth 5 = .ok (.aload_n 0, 1) := by decide +kernel
theorem ni_dX11_trieDepth_6 : decode cX11_trieDepth 6 = .ok (.getfield 10, 3) := by decide +kernel
theorem ni_dX11_trieDepth_9 : decode cX11_trieDepth 9 = .ok (.getfield 201, 3) := by decide +kernel
theorem ni_dX11_trieDepth_12 : decode cX11_trieDepth 12 = .ok (.iload_n 1, 1) := by decide +kernel
theorem ni_dX11_trieDepth_13 : decode cX11_trieDepth 13 = .ok (.aaload, 1) := by decide +kernel
theorem ni_dX11_trieDepth_14 : decode cX11_trieDepth 14 = .ok (.getfield 230, 3) := by decide +kernel
theorem ni_dX11_trieDepth_17 : decode cX11_trieDepth 17 = .ok (.invokevirtual 240, 3) := by decide +kernel
theorem ni_dX11_trieDepth_20 : decode cX11_trieDepth 20 = .ok (.ireturn, 1) := by decide +kernel
theorem ni_dX11_trieNodes_0 : decode cX11_trieNodes 0 = .ok (.aload_n 0, 1) := by decide +kernel
theorem ni_dX11_trieNodes_1 : decode cX11_trieNodes 1 = .ok (.iload_n 1, 1) := by decide +kernel
theorem ni_dX11_trieNodes_2 : decode cX11_trieNodes 2 = .ok (.invokevirtual 34, 3) := by decide +kernel
theorem ni_dX11_trieNodes_5 : decode cX11_trieNodes 5 = .ok (.aload_n 0, 1) := by decide +kernel
theorem ni_dX11_trieNodes_6 : decode cX11_trieNodes 6 = .ok (.getfield 10, 3) := by decide +kernel
theorem ni_dX11_trieNodes_9 : decode cX11_trieNodes 9 = .ok (.getfield 201, 3) := by decide +kernel
theorem ni_dX11_trieNodes_12 : decode cX11_trieNodes 12 = .ok (.iload_n 1, 1) := by decide +kernel
theorem ni_dX11_trieNodes_13 : decode cX11_trieNodes 13 = .ok (.aaload, 1) := by decide +kernel
theorem ni_dX11_trieNodes_14 : decode cX11_trieNodes 14 = .ok (.getfield 230, 3) := by decide +kernel
theorem ni_dX11_trieNodes_17 : decode cX11_trieNodes 17 = .ok (.invokevirtual 237, 3) := by decide +kernel
theorem ni_dX11_trieNodes_20 : decode cX11_trieNodes 20 = .ok (.ireturn, 1) := by decide +kernel
theorem ni_dX11_waiting_0 : decode cX11_waiting 0 = .ok (.aload_n 0, 1) := by decide +kernel
theorem ni_dX11_waiting_1 : decode cX11_waiting 1 = .ok (.iload_n 1, 1) := by decide +kernel
theorem ni_dX11_waiting_2 : decode cX11_waiting 2 = .ok (.invokevirtual 56, 3) := by decide +kernel
theorem ni_dX11_waiting_5 : decode cX11_waiting 5 = .ok (.aload_n 0, 1) := by decide +kernel
theorem ni_dX11_waiting_6 : decode cX11_waiting 6 = .ok (.iload_n 1, 1) := by decide +kernel
theorem ni_dX11_waiting_7 : decode cX11_waiting 7 = .ok (.iload_n 2, 1) := by decide +kernel
theorem ni_dX11_waiting_8 : decode cX11_waiting 8 = .ok (.invokevirtual 133, 3) := by decide +kernel
theorem ni_dX11_waiting_11 : decode cX11_waiting 11 = .ok (.getfield 264, 3) := by decide +kernel
theorem ni_dX11_waiting_14 : decode cX11_waiting 14 = .ok (.ireturn, 1) := by decide +kernel
theorem ni_dX0_init_0 : decode cX0_init 0 = .ok (.aload_n 0, 1) := by decide +kernel
theorem ni_dX0_init_1 : decode cX0_init 1 = .ok (.invokespecial 3, 3) := by decide +kernel
theorem ni_dX0_init_4 : decode cX0_init 4 = .ok (.aload_n 0, 1) := by decide +kernel
theorem ni_dX0_init_5 : decode cX0_init 5 = .ok (.iconst (-1), 1) := by decide +kernel
theorem ni_dX0_init_6 : decode cX0_init 6 = .ok (.putfield 9, 3) := by decide +kernel
theorem ni_dX0_init_9 : decode cX0_init 9 = .ok (.aload_n 0, 1) := by decide +kernel
theorem ni_dX0_init_10 : decode cX0_init 10 = .ok (.bipush 10, 2) := by decide +kernel
theorem ni_dX0_init_12 : decode cX0_init 12 = .ok (.newarray .int, 2) := by decide +kernel
theorem ni_dX0_init_14 : decode cX0_init 14 = .ok (.putfield 15, 3) := by decide +kernel
theorem ni_dX0_init_17 : decode cX0_init 17 = .ok (.aload_n 0, 1) := by decide +kernel
theorem ni_dX0_init_18 : decode cX0_init 18 = .ok (.bipush 7, 2) := by decide +kernel
theorem ni_dX0_init_20 : decode cX0_init 20 = .ok (.newarray .int, 2) := by decide +kernel
theorem ni_dX0_init_22 : decode cX0_init 22 = .ok (.putfield 19, 3) := by decide +kernel
theorem ni_dX0_init_25 : decode cX0_init 25 = .ok (.aload_n 0, 1) := by decide +kernel
theorem ni_dX0_init_26 : decode cX0_init 26 = .ok (.iconst (-1), 1) := by decide +kernel
theorem ni_dX0_init_27 : decode cX0_init 27 = .ok (.putfield 22, 3) := by decide +kernel
theorem ni_dX0_init_30 : decode cX0_init 30 = .ok (.aload_n 0, 1) := by decide +kernel
theorem ni_dX0_init_31 : decode cX0_init 31 = .ok (.iconst (-1), 1) := by decide +kernel
theorem ni_dX0_init_32 : decode cX0_init 32 = .ok (.putfield 25, 3) := by decide +kernel
theorem ni_dX0_init_35 : decode cX0_init 35 = .ok (.return_, 1) := by decide +kernel
theorem ni_dX0_copyFrom_0 : decode cX0_copyFrom 0 = .ok (.aload_n 0, 1) := by decide +kernel
theorem ni_dX0_copyFrom_1 : decode cX0_copyFrom 1 = .ok (.aload_n 1, 1) := by decide +kernel
theorem ni_dX0_copyFrom_2 : decode cX0_copyFrom 2 = .ok (.getfield 67, 3) := by decide +kernel
theorem ni_dX0_copyFrom_5 : decode cX0_copyFrom 5 = .ok (.putfield 67, 3) := by decide +kernel
theorem ni_dX0_copyFrom_8 : decode cX0_copyFrom 8 = .ok (.aload_n 0, 1) := by decide +kernel
theorem ni_dX0_copyFrom_9 : decode cX0_copyFrom 9 = .ok (.aload_n 1, 1) := by decide +kernel
theorem ni_dX0_copyFrom_10 : decode cX0_copyFrom 10 = .ok (.getfield 70, 3) := by decide +kernel
theorem ni_dX0_copyFrom_13 : decode cX0_copyFrom 13 = .ok (.putfield 70, 3) := by decide +kernel
theorem ni_dX0_copyFrom_16 : decode cX0_copyFrom 16 = .ok (.aload_n 0, 1) := by decide +kernel
theorem ni_dX0_copyFrom_17 : decode cX0_copyFrom 17 = .ok (.aload_n 1, 1) := by decide +kernel
theorem ni_dX0_copyFrom_18 : decode cX0_copyFrom 18 = .ok (.getfield 52, 3) := by decide +kernel
theorem ni_dX0_copyFrom_21 : decode cX0_copyFrom 21 = .ok (.putfield 52, 3) := by decide +kernel
theorem ni_dX0_copyFrom_24 : decode cX0_copyFrom 24 = .ok (.aload_n 0, 1) := by decide +kernel
theorem ni_dX0_copyFrom_25 : decode cX0_copyFrom 25 = .ok (.aload_n 1, 1) := by decide +kernel
theorem ni_dX0_copyFrom_26 : decode cX0_copyFrom 26 = .ok (.getfield 73, 3) := by decide +kernel
theorem ni_dX0_copyFrom_29 : decode cX0_copyFrom 29 = .ok (.putfield 73, 3) := by decide +kernel
theorem ni_dX0_copyFrom_32 : decode cX0_copyFrom 32 = .ok (.aload_n 0, 1) := by decide +kernel
theorem ni_dX0_copyFrom_33 : decode cX0_copyFrom 33 = .ok (.aload_n 1, 1) := by decide +kernel
theorem ni_dX0_copyFrom_34 : decode cX0_copyFrom 34 = .ok (.getfield 9, 3) := by decide +kernel
theorem ni_dX0_copyFrom_37 : decode cX0_copyFrom 37 = .ok (.putfield 9, 3) := by decide +kernel
theorem ni_dX0_copyFrom_40 : decode cX0_copyFrom 40 = .ok (.aload_n 0, 1) := by decide +kernel
theorem ni_dX0_copyFrom_41 : decode cX0_copyFrom 41 = .ok (.aload_n 1, 1) := by decide +kernel
theorem ni_dX0_copyFrom_42 : decode cX0_copyFrom 42 = .ok (.getfield 28, 3) := by decide +kernel
theorem ni_dX0_copyFrom_45 : decode cX0_copyFrom 45 = .ok (.putfield 28, 3) := by decide +kernel
theorem ni_dX0_copyFrom_48 : decode cX0_copyFrom 48 = .ok (.aload_n 0, 1) := by decide +kernel
theorem ni_dX0_copyFrom_49 : decode cX0_copyFrom 49 = .ok (.aload_n 1, 1) := by decide +kernel
theorem ni_dX0_copyFrom_50 : decode cX0_copyFrom 50 = .ok (.getfield 31, 3) := by decide +kernel
theorem ni_dX0_copyFrom_53 : decode cX0_copyFrom 53 = .ok (.putfield 31, 3) := by decide +kernel
theorem ni_dX0_copyFrom_56 : decode cX0_copyFrom 56 = .ok (.aload_n 0, 1) := by decide +kernel
theorem ni_dX0_copyFrom_57 : decode cX0_copyFrom 57 = .ok (.aload_n 1, 1) := by decide +kernel
theorem ni_dX0_copyFrom_58 : decode cX0_copyFrom 58 = .ok (.getfield 34, 3) := by decide +kernel
theorem ni_dX0_copyFrom_61 : decode cX0_copyFrom 61 = .ok (.putfield 34, 3) := by decide +kernel
theorem ni_dX0_copyFrom_64 : decode cX0_copyFrom 64 = .ok (.aload_n 0, 1) := by decide +kernel
theorem ni_dX0_copyFrom_65 : decode cX0_copyFrom 65 = .ok (.aload_n 1, 1) := by decide +kernel
theorem ni_dX0_copyFrom_66 : decode cX0_copyFrom 66 = .ok (.getfield 40, 3) := by decide +kernel
theorem ni_dX0_copyFrom_69 : decode cX0_copyFrom 69 = .ok (.putfield 40, 3) := by decide +kernel
theorem ni_dX0_copyFrom_72 : decode cX0_copyFrom 72 = .ok (.aload_n 0, 1) := by decide +kernel
theorem ni_dX0_copyFrom_73 : decode cX0_copyFrom 73 = .ok (.aload_n 1, 1) := by decide +kernel
theorem ni_dX0_copyFrom_74 : decode cX0_copyFrom 74 = .ok (.getfield 37, 3) := by decide +kernel
theorem ni_dX0_copyFrom_77 : decode cX0_copyFrom 77 = .ok (.putfield 37, 3) := by decide +kernel
theorem ni_dX0_copyFrom_80 : decode cX0_copyFrom 80 = .ok (.aload_n 1, 1) := by decide +kernel
theorem ni_dX0_copyFrom_81 : decode cX0_copyFrom 81 = .ok (.getfield 15, 3) := by decide +kernel
theorem ni_dX0_copyFrom_84 : decode cX0_copyFrom 84 = .ok (.iconst 0, 1) := by decide +kernel
theorem ni_dX0_copyFrom_85 : decode cX0_copyFrom 85 = .ok (.aload_n 0, 1) := by decide +kernel
theorem ni_dX0_copyFrom_86 : decode cX0_copyFrom 86 = .ok (.getfield 15, 3) := by decide +kernel
theorem ni_dX0_copyFrom_89 : decode cX0_copyFrom 89 = .ok (.iconst 0, 1) := by decide +kernel
theorem ni_dX0_copyFrom_90 : decode cX0_copyFrom 90 = .ok (.bipush 10, 2) := by decide +kernel
theorem ni_dX0_copyFrom_92 : decode cX0_copyFrom 92 = .ok (.invokestatic 76, 3) := by decide +kernel
theorem ni_dX0_copyFrom_95 : decode cX0_copyFrom 95 = .ok (.aload_n 0, 1) := by decide +kernel
theorem ni_dX0_copyFrom_96 : decode cX0_copyFrom 96 = .ok (.aload_n 1, 1) := by decide +kernel
theorem ni_dX0_copyFrom_97 : decode cX0_copyFrom 97 = .ok (.getfield 49, 3) := by decide +kernel
theorem ni_dX0_copyFrom_100 : decode cX0_copyFrom 100 = .ok (.putfield 49, 3) := by decide +kernel
theorem ni_dX0_copyFrom_103 : decode cX0_copyFrom 103 = .ok (.aload_n 0, 1) := by decide +kernel
theorem ni_dX0_copyFrom_104 : decode cX0_copyFrom 104 = .ok (.aload_n 1, 1) := by decide +kernel
theorem ni_dX0_copyFrom_105 : decode cX0_copyFrom 105 = .ok (.getfield 82, 3) := by decide +kernel
theorem ni_dX0_copyFrom_108 : decode cX0_copyFrom 108 = .ok (.putfield 82, 3) := by decide +kernel
theorem ni_dX0_copyFrom_111 : decode cX0_copyFrom 111 = .ok (.aload_n 0, 1) := by decide +kernel
theorem ni_dX0_copyFrom_112 : decode cX0_copyFrom 112 = .ok (.aload_n 1, 1) := by decide +kernel
theorem ni_dX0_copyFrom_113 : decode cX0_copyFrom 113 = .ok (.getfield 55, 3) := by decide +kernel
theorem ni_dX0_copyFrom_116 : decode cX0_copyFrom 116 = .ok (.putfield 55, 3) := by decide +kernel
theorem ni_dX0_copyFrom_119 : decode cX0_copyFrom 119 = .ok (.aload_n 1, 1) := by decide +kernel
theorem ni_dX0_copyFrom_120 : decode cX0_copyFrom 120 = .ok (.getfield 19, 3) := by decide +kernel
theorem ni_dX0_copyFrom_123 : decode cX0_copyFrom 123 = .ok (.iconst 0, 1) := by decide +kernel
theorem ni_dX0_copyFrom_124 : decode cX0_copyFrom 124 = .ok (.aload_n 0, 1) := by decide +kernel
theorem ni_dX0_copyFrom_125 : decode cX0_copyFrom 125 = .ok (.getfield 19, 3) := by decide +kernel
theorem ni_dX0_copyFrom_128 : decode cX0_copyFrom 128 = .ok (.iconst 0, 1) := by decide +kernel
theorem ni_dX0_copyFrom_129 : decode cX0_copyFrom 129 = .ok (.bipush 7, 2) := by decide +kernel
theorem ni_dX0_copyFrom_131 : decode cX0_copyFrom 131 = .ok (.invokestatic 76, 3) := by decide +kernel
theorem ni_dX0_copyFrom_134 : decode cX0_copyFrom 134 = .ok (.aload_n 0, 1) := by decide +kernel
theorem ni_dX0_copyFrom_135 : decode cX0_copyFrom 135 = .ok (.aload_n 1, 1) := by decide +kernel
theorem ni_dX0_copyFrom_136 : decode cX0_copyFrom 136 = .ok (.getfield 58, 3) := by decide +kernel
theorem ni_dX0_copyFrom_139 : decode cX0_copyFrom 139 = .ok (.putfield 58, 3) := by decide +kernel
theorem ni_dX0_copyFrom_142 : decode cX0_copyFrom 142 = .ok (.aload_n 0, 1) := by decide +kernel
theorem ni_dX0_copyFrom_143 : decode cX0_copyFrom 143 = .ok (.aload_n 1, 1) := by decide +kernel
theorem ni_dX0_copyFrom_144 : decode cX0_copyFrom 144 = .ok (.getfield 22, 3) := by decide +kernel
theorem ni_dX0_copyFrom_147 : decode cX0_copyFrom 147 = .ok (.putfield 22, 3) := by decide +kernel
theorem ni_dX0_copyFrom_150 : decode cX0_copyFrom 150 = .ok (.aload_n 0, 1) := by decide +kernel
theorem ni_dX0_copyFrom_151 : decode cX0_copyFrom 151 = .ok (.aload_n 1, 1) := by decide +kernel
theorem ni_dX0_copyFrom_152 : decode cX0_copyFrom 152 = .ok (.getfield 25, 3) := by decide +kernel
theorem ni_dX0_copyFrom_155 : decode cX0_copyFrom 155 = .ok (.putfield 25, 3) := by decide +kernel
theorem ni_dX0_copyFrom_158 : decode cX0_copyFrom 158 = .ok (.aload_n 0, 1) := by decide +kernel
theorem ni_dX0_copyFrom_159 : decode cX0_copyFrom 159 = .ok (.aload_n 1, 1) := by decide +kernel
theorem ni_dX0_copyFrom_160 : decode cX0_copyFrom 160 = .ok (.getfield 64, 3) := by decide +kernel
theorem ni_dX0_copyFrom_163 : decode cX0_copyFrom 163 = .ok (.putfield 64, 3) := by decide +kernel
theorem ni_dX0_copyFrom_166 : decode cX0_copyFrom 166 = .ok (.return_, 1) := by decide +kernel
theorem ni_dX0_deliver_0 : decode cX0_deliver 0 = .ok (.iload_n 2, 1) := by decide +kernel
theorem ni_dX0_deliver_1 : decode cX0_deliver 1 = .ok (.aload_n 0, 1) := by decide +kernel
theorem ni_dX0_deliver_2 : decode cX0_deliver 2 = .ok (.getfield 9, 3) := by decide +kernel
theorem ni_dX0_deliver_5 : decode cX0_deliver 5 = .ok (.iload_n 1, 1) := by decide +kernel
theorem ni_dX0_deliver_6 : decode cX0_deliver 6 = .ok (.aload_n 0, 1) := by decide +kernel
theorem ni_dX0_deliver_7 : decode cX0_deliver 7 = .ok (.getfield 28, 3) := by decide +kernel
theorem ni_dX0_deliver_10 : decode cX0_deliver 10 = .ok (.imul, 1) := by decide +kernel
theorem ni_dX0_deliver_11 : decode cX0_deliver 11 = .ok (.iadd, 1) := by decide +kernel
theorem ni_dX0_deliver_12 : decode cX0_deliver 12 = .ok (.isub, 1) := by decide +kernel
theorem ni_dX0_deliver_13 : decode cX0_deliver 13 = .ok (.istore_n 3, 1) := by decide +kernel
theorem ni_dX0_deliver_14 : decode cX0_deliver 14 = .ok (.aload_n 0, 1) := by decide +kernel
theorem ni_dX0_deliver_15 : decode cX0_deliver 15 = .ok (.dup, 1) := by decide +kernel
theorem ni_dX0_deliver_16 : decode cX0_deliver 16 = .ok (.getfield 55, 3) := by decide +kernel
theorem ni_dX0_deliver_19 : decode cX0_deliver 19 = .ok (.iconst 1, 1) := by decide +kernel
theorem ni_dX0_deliver_20 : decode cX0_deliver 20 = .ok (.iadd, 1) := by decide +kernel
theorem ni_dX0_deliver_21 : decode cX0_deliver 21 = .ok (.putfield 55, 3) := by decide +kernel
theorem ni_dX0_deliver_24 : decode cX0_deliver 24 = .ok (.aload_n 0, 1) := by decide +kernel
theorem ni_dX0_deliver_25 : decode cX0_deliver 25 = .ok (.dup, 1) := by decide +kernel
theorem ni_dX0_deliver_26 : decode cX0_deliver 26 = .ok (.getfield 58, 3) := by decide +kernel
theorem ni_dX0_deliver_29 : decode cX0_deliver 29 = .ok (.iload_n 3, 1) := by decide +kernel
theorem ni_dX0_deliver_30 : decode cX0_deliver 30 = .ok (.iadd, 1) := by decide +kernel
theorem ni_dX0_deliver_31 : decode cX0_deliver 31 = .ok (.putfield 58, 3) := by decide +kernel
theorem ni_dX0_deliver_34 : decode cX0_deliver 34 = .ok (.aload_n 0, 1) := by decide +kernel
theorem ni_dX0_deliver_35 : decode cX0_deliver 35 = .ok (.aload_n 0, 1) := by decide +kernel
theorem ni_dX0_deliver_36 : decode cX0_deliver 36 = .ok (.getfield 22, 3) := by decide +kernel
theorem ni_dX0_deliver_39 : decode cX0_deliver 39 = .ok (.iload_n 3, 1) := by decide +kernel
theorem ni_dX0_deliver_40 : decode cX0_deliver 40 = .ok (.invokestatic 61, 3) := by decide +kernel
theorem ni_dX0_deliver_43 : decode cX0_deliver 43 = .ok (.putfield 22, 3) := by decide +kernel
theorem ni_dX0_deliver_46 : decode cX0_deliver 46 = .ok (.aload_n 0, 1) := by decide +kernel
theorem ni_dX0_deliver_47 : decode cX0_deliver 47 = .ok (.dup, 1) := by decide +kernel
theorem ni_dX0_deliver_48 : decode cX0_deliver 48 = .ok (.getfield 64, 3) := by decide +kernel
theorem ni_dX0_deliver_51 : decode cX0_deliver 51 = .ok (.iload_n 1, 1) := by decide +kernel
theorem ni_dX0_deliver_52 : decode cX0_deliver 52 = .ok (.aload_n 0, 1) := by decide +kernel
theorem ni_dX0_deliver_53 : decode cX0_deliver 53 = .ok (.getfield 25, 3) := by decide +kernel
theorem ni_dX0_deliver_56 : decode cX0_deliver 56 = .ok (.if_icmp .ge 7, 3) := by decide +kernel
theorem ni_dX0_deliver_59 : decode cX0_deliver 59 = .ok (.iconst 1, 1) := by decide +kernel
theorem ni_dX0_deliver_60 : decode cX0_deliver 60 = .ok (.goto 4, 3) := by decide +kernel
theorem ni_dX0_deliver_63 : decode cX0_deliver 63 = .ok (.iconst 0, 1) := by decide +kernel
theorem ni_dX0_deliver_64 : decode cX0_deliver 64 = .ok (.iadd, 1) := by decide +kernel
theorem ni_dX0_deliver_65 : decode cX0_deliver 65 = .ok (.putfield 64, 3) := by decide +kernel
theorem ni_dX0_deliver_68 : decode cX0_deliver 68 = .ok (.aload_n 0, 1) := by decide +kernel
theorem ni_dX0_deliver_69 : decode cX0_deliver 69 = .ok (.aload_n 0, 1) := by decide +kernel
theorem ni_dX0_deliver_70 : decode cX0_deliver 70 = .ok (.getfield 25, 3) := by decide +kernel
theorem ni_dX0_deliver_73 : decode cX0_deliver 73 = .ok (.iload_n 1, 1) := by decide +kernel
theorem ni_dX0_deliver_74 : decode cX0_deliver 74 = .ok (.invokestatic 61, 3) := by decide +kernel
theorem ni_dX0_deliver_77 : decode cX0_deliver 77 = .ok (.putfield 25, 3) := by decide +kernel
theorem ni_dX0_deliver_80 : decode cX0_deliver 80 = .ok (.return_, 1) := by decide +kernel
theorem ni_dX0_dueIn_0 : decode cX0_dueIn 0 = .ok (.aload_n 0, 1) := by decide +kernel
theorem ni_dX0_dueIn_1 : decode cX0_dueIn 1 = .ok (.getfield 9, 3) := by decide +kernel
theorem ni_dX0_dueIn_4 : decode cX0_dueIn 4 = .ok (.iconst (-1), 1) := by decide +kernel
theorem ni_dX0_dueIn_5 : decode cX0_dueIn 5 = .ok (.if_icmp .eq 19, 3) := by decide +kernel
theorem ni_dX0_dueIn_8 : decode cX0_dueIn 8 = .ok (.iload_n 1, 1) := by decide +kernel
theorem ni_dX0_dueIn_9 : decode cX0_dueIn 9 = .ok (.aload_n 0, 1) := by decide +kernel
theorem ni_dX0_dueIn_10 : decode cX0_dueIn 10 = .ok (.getfield 9, 3) := by decide +kernel
theorem ni_dX0_dueIn_13 : decode cX0_dueIn 13 = .ok (.if_icmp .lt 11, 3) := by decide +kernel
theorem ni_dX0_dueIn_16 : decode cX0_dueIn 16 = .ok (.aload_n 0, 1) := by decide +kernel
theorem ni_dX0_dueIn_17 : decode cX0_dueIn 17 = .ok (.getfield 28, 3) := by decide +kernel
theorem ni_dX0_dueIn_20 : decode cX0_dueIn 20 = .ok (.iconst 1, 1) := by decide +kernel
theorem ni_dX0_dueIn_21 : decode cX0_dueIn 21 = .ok (.if_icmp .ge 5, 3) := by decide +kernel
theorem ni_dX0_dueIn_24 : decode cX0_dueIn 24 = .ok (.iconst (-1), 1) := by decide +kernel
theorem ni_dX0_dueIn_25 : decode cX0_dueIn 25 = .ok (.ireturn, 1) := by decide +kernel
theorem ni_dX0_dueIn_26 : decode cX0_dueIn 26 = .ok (.iload_n 1, 1) := by decide +kernel
theorem ni_dX0_dueIn_27 : decode cX0_dueIn 27 = .ok (.aload_n 0, 1) := by decide +kernel
theorem ni_dX0_dueIn_28 : decode cX0_dueIn 28 = .ok (.getfield 9, 3) := by decide +kernel
theorem ni_dX0_dueIn_31 : decode cX0_dueIn 31 = .ok (.isub, 1) := by decide +kernel
theorem ni_dX0_dueIn_32 : decode cX0_dueIn 32 = .ok (.istore_n 2, 1) := by decide +kernel
theorem ni_dX0_dueIn_33 : decode cX0_dueIn 33 = .ok (.iload_n 2, 1) := by decide +kernel
theorem ni_dX0_dueIn_34 : decode cX0_dueIn 34 = .ok (.aload_n 0, 1) := by decide +kernel
theorem ni_dX0_dueIn_35 : decode cX0_dueIn 35 = .ok (.getfield 28, 3) := by decide +kernel
theorem ni_dX0_dueIn_38 : decode cX0_dueIn 38 = .ok (.irem, 1) := by decide +kernel
theorem ni_dX0_dueIn_39 : decode cX0_dueIn 39 = .ok (.ifCond .ne 20, 3) := by decide +kernel
theorem ni_dX0_dueIn_42 : decode cX0_dueIn 42 = .ok (.iload_n 2, 1) := by decide +kernel
theorem ni_dX0_dueIn_43 : decode cX0_dueIn 43 = .ok (.aload_n 0, 1) := by decide +kernel
theorem ni_dX0_dueIn_44 : decode cX0_dueIn 44 = .ok (.getfield 28, 3) := by decide +kernel
theorem ni_dX0_dueIn_47 : decode cX0_dueIn 47 = .ok (.idiv, 1) := by decide +kernel
theorem ni_dX0_dueIn_48 : decode cX0_dueIn 48 = .ok (.aload_n 0, 1) := by decide +kernel
theorem ni_dX0_dueIn_49 : decode cX0_dueIn 49 = .ok (.getfield 31, 3) := by decide +kernel
theorem ni_dX0_dueIn_52 : decode cX0_dueIn 52 = .ok (.if_icmp .ge 7, 3) := by decide +kernel
theorem ni_dX0_dueIn_55 : decode cX0_dueIn 55 = .ok (.iconst 1, 1) := by decide +kernel
theorem ni_dX0_dueIn_56 : decode cX0_dueIn 56 = .ok (.goto 4, 3) := by decide +kernel
theorem ni_dX0_dueIn_59 : decode cX0_dueIn 59 = .ok (.iconst 0, 1) := by decide +kernel
theorem ni_dX0_dueIn_60 : decode cX0_dueIn 60 = .ok (.istore_n 3, 1) := by decide +kernel
theorem ni_dX0_dueIn_61 : decode cX0_dueIn 61 = .ok (.iload_n 3, 1) := by decide +kernel
theorem ni_dX0_dueIn_62 : decode cX0_dueIn 62 = .ok (.ifCond .eq 12, 3) := by decide +kernel
theorem ni_dX0_dueIn_65 : decode cX0_dueIn 65 = .ok (.iload_n 2, 1) := by decide +kernel
theorem ni_dX0_dueIn_66 : decode cX0_dueIn 66 = .ok (.aload_n 0, 1) := by decide +kernel
theorem ni_dX0_dueIn_67 : decode cX0_dueIn 67 = .ok (.getfield 28, 3) := by decide +kernel
theorem ni_dX0_dueIn_70 : decode cX0_dueIn 70 = .ok (.idiv, 1) := by decide +kernel
theorem ni_dX0_dueIn_71 : decode cX0_dueIn 71 = .ok (.goto 4, 3) := by decide +kernel
theorem ni_dX0_dueIn_74 : decode cX0_dueIn 74 = .ok (.iconst (-1), 1) := by decide +kernel
theorem ni_dX0_dueIn_75 : decode cX0_dueIn 75 = .ok (.ireturn, 1) := by decide +kernel
theorem ni_dX0_gainTokens_0 : decode cX0_gainTokens 0 = .ok (.aload_n 0, 1) := by decide +kernel
theorem ni_dX0_gainTokens_1 : decode cX0_gainTokens 1 = .ok (.aload_n 0, 1) := by decide +kernel
theorem ni_dX0_gainTokens_2 : decode cX0_gainTokens 2 = .ok (.getfield 37, 3) := by decide +kernel
theorem ni_dX0_gainTokens_5 : decode cX0_gainTokens 5 = .ok (.aload_n 0, 1) := by decide +kernel
theorem ni_dX0_gainTokens_6 : decode cX0_gainTokens 6 = .ok (.getfield 34, 3) := by decide +kernel
theorem ni_dX0_gainTokens_9 : decode cX0_gainTokens 9 = .ok (.iadd, 1) := by decide +kernel
theorem ni_dX0_gainTokens_10 : decode cX0_gainTokens 10 = .ok (.aload_n 0, 1) := by decide +kernel
theorem ni_dX0_gainTokens_11 : decode cX0_gainTokens 11 = .ok (.getfield 40, 3) := by decide +kernel
theorem ni_dX0_gainTokens_14 : decode cX0_gainTokens 14 = .ok (.invokestatic 43, 3) := by decide +kernel
theorem ni_dX0_gainTokens_17 : decode cX0_gainTokens 17 = .ok (.putfield 37, 3) := by decide +kernel
theorem ni_dX0_gainTokens_20 : decode cX0_gainTokens 20 = .ok (.return_, 1) := by decide +kernel
theorem ni_dX0_isShaped_0 : decode cX0_isShaped 0 = .ok (.aload_n 0, 1) := by decide +kernel
theorem ni_dX0_isShaped_1 : decode cX0_isShaped 1 = .ok (.getfield 34, 3) := by decide +kernel
theorem ni_dX0_isShaped_4 : decode cX0_isShaped 4 = .ok (.ifCond .le 7, 3) := by decide +kernel
theorem ni_dX0_isShaped_7 : decode cX0_isShaped 7 = .ok (.iconst 1, 1) := by decide +kernel
theorem ni_dX0_isShaped_8 : decode cX0_isShaped 8 = .ok (.goto 4, 3) := by decide +kernel
theorem ni_dX0_isShaped_11 : decode cX0_isShaped 11 = .ok (.iconst 0, 1) := by decide +kernel
theorem ni_dX0_isShaped_12 : decode cX0_isShaped 12 = .ok (.ireturn, 1) := by decide +kernel
theorem ni_dX0_pull_0 : decode cX0_pull 0 = .ok (.aload_n 0, 1) := by decide +kernel
theorem ni_dX0_pull_1 : decode cX0_pull 1 = .ok (.getfield 49, 3) := by decide +kernel
theorem ni_dX0_pull_4 : decode cX0_pull 4 = .ok (.ifCond .eq 14, 3) := by decide +kernel
theorem ni_dX0_pull_7 : decode cX0_pull 7 = .ok (.aload_n 0, 1) := by decide +kernel
theorem ni_dX0_pull_8 : decode cX0_pull 8 = .ok (.getfield 37, 3) := by decide +kernel
theorem ni_dX0_pull_11 : decode cX0_pull 11 = .ok (.aload_n 0, 1) := by decide +kernel
theorem ni_dX0_pull_12 : decode cX0_pull 12 = .ok (.getfield 52, 3) := by decide +kernel
theorem ni_dX0_pull_15 : decode cX0_pull 15 = .ok (.if_icmp .ge 5, 3) := by decide +kernel
theorem ni_dX0_pull_18 : decode cX0_pull 18 = .ok (.iconst (-1), 1) := by decide +kernel
theorem ni_dX0_pull_19 : decode cX0_pull 19 = .ok (.ireturn, 1) := by decide +kernel
theorem ni_dX0_pull_20 : decode cX0_pull 20 = .ok (.aload_n 0, 1) := by decide +kernel
theorem ni_dX0_pull_21 : decode cX0_pull 21 = .ok (.dup, 1) := by decide +kernel
theorem ni_dX0_pull_22 : decode cX0_pull 22 = .ok (.getfield 37, 3) := by decide +kernel
theorem ni_dX0_pull_25 : decode cX0_pull 25 = .ok (.aload_n 0, 1) := by decide +kernel
theorem ni_dX0_pull_26 : decode cX0_pull 26 = .ok (.getfield 52, 3) := by decide +kernel
theorem ni_dX0_pull_29 : decode cX0_pull 29 = .ok (.isub, 1) := by decide +kernel
theorem ni_dX0_pull_30 : decode cX0_pull 30 = .ok (.putfield 37, 3) := by decide +kernel
theorem ni_dX0_pull_33 : decode cX0_pull 33 = .ok (.aload_n 0, 1) := by decide +kernel
theorem ni_dX0_pull_34 : decode cX0_pull 34 = .ok (.getfield 15, 3) := by decide +kernel
theorem ni_dX0_pull_37 : decode cX0_pull 37 = .ok (.iconst 0, 1) := by decide +kernel
theorem ni_dX0_pull_38 : decode cX0_pull 38 = .ok (.iaload, 1) := by decide +kernel
theorem ni_dX0_pull_39 : decode cX0_pull 39 = .ok (.istore_n 1, 1) := by decide +kernel
theorem ni_dX0_pull_40 : decode cX0_pull 40 = .ok (.iconst 1, 1) := by decide +kernel
theorem ni_dX0_pull_41 : decode cX0_pull 41 = .ok (.istore_n 2, 1) := by decide +kernel
theorem ni_dX0_pull_42 : decode cX0_pull 42 = .ok (.iload_n 2, 1) := by decide +kernel
theorem ni_dX0_pull_43 : decode cX0_pull 43 = .ok (.aload_n 0, 1) := by decide +kernel
theorem ni_dX0_pull_44 : decode cX0_pull 44 = .ok (.getfield 49, 3) := by decide +kernel
theorem ni_dX0_pull_47 : decode cX0_pull 47 = .ok (.if_icmp .ge 23, 3) := by decide +kernel
theorem ni_dX0_pull_50 : decode cX0_pull 50 = .ok (.aload_n 0, 1) := by decide +kernel
theorem ni_dX0_pull_51 : decode cX0_pull 51 = .ok (.getfield 15, 3) := by decide +kernel
theorem ni_dX0_pull_54 : decode cX0_pull 54 = .ok (.iload_n 2, 1) := by decide +kernel
theorem ni_dX0_pull_55 : decode cX0_pull 55 = .ok (.iconst 1, 1) := by decide +kernel
theorem ni_dX0_pull_56 : decode cX0_pull 56 = .ok (.isub, 1) := by decide +kernel
theorem ni_dX0_pull_57 : decode cX0_pull 57 = .ok (.aload_n 0, 1) := by decide +kernel
theorem ni_dX0_pull_58 : decode cX0_pull 58 = .ok (.getfield 15, 3) := by decide +kernel
theorem ni_dX0_pull_61 : decode cX0_pull 61 = .ok (.iload_n 2, 1) := by decide +kernel
theorem ni_dX0_pull_62 : decode cX0_pull 62 = .ok (.iaload, 1) := by decide +kernel
theorem ni_dX0_pull_63 : decode cX0_pull 63 = .ok (.iastore, 1) := by decide +kernel
theorem ni_dX0_pull_64 : decode cX0_pull 64 = .ok (.iinc 2 1, 3) := by decide +kernel
theorem ni_dX0_pull_67 : decode cX0_pull 67 = .ok (.goto (-25), 3) := by decide +kernel
theorem ni_dX0_pull_70 : decode cX0_pull 70 = .ok (.aload_n 0, 1) := by decide +kernel
theorem ni_dX0_pull_71 : decode cX0_pull 71 = .ok (.dup, 1) := by decide +kernel
theorem ni_dX0_pull_72 : decode cX0_pull 72 = .ok (.getfield 49, 3) := by decide +kernel
theorem ni_dX0_pull_75 : decode cX0_pull 75 = .ok (.iconst 1, 1) := by decide +kernel
theorem ni_dX0_pull_76 : decode cX0_pull 76 = .ok (.isub, 1) := by decide +kernel
theorem ni_dX0_pull_77 : decode cX0_pull 77 = .ok (.putfield 49, 3) := by decide +kernel
theorem ni_dX0_pull_80 : decode cX0_pull 80 = .ok (.iload_n 1, 1) := by decide +kernel
theorem ni_dX0_pull_81 : decode cX0_pull 81 = .ok (.ireturn, 1) := by decide +kernel
theorem ni_dX0_push_0 : decode cX0_push 0 = .ok (.aload_n 0, 1) := by decide +kernel
theorem ni_dX0_push_1 : decode cX0_push 1 = .ok (.getfield 49, 3) := by decide +kernel
theorem ni_dX0_push_4 : decode cX0_push 4 = .ok (.bipush 10, 2) := by decide +kernel
theorem ni_dX0_push_6 : decode cX0_push 6 = .ok (.if_icmp .lt 14, 3) := by decide +kernel
theorem ni_dX0_push_9 : decode cX0_push 9 = .ok (.aload_n 0, 1) := by decide +kernel
theorem ni_dX0_push_10 : decode cX0_push 10 = .ok (.getfield 19, 3) := by decide +kernel
theorem ni_dX0_push_13 : decode cX0_push 13 = .ok (.iconst 0, 1) := by decide +kernel
theorem ni_dX0_push_14 : decode cX0_push 14 = .ok (.dup2, 1) := by decide +kernel
theorem ni_dX0_push_15 : decode cX0_push 15 = .ok (.iaload, 1) := by decide +kernel
theorem ni_dX0_push_16 : decode cX0_push 16 = .ok (.iconst 1, 1) := by decide +kernel
theorem ni_dX0_push_17 : decode cX0_push 17 = .ok (.iadd, 1) := by decide +kernel
theorem ni_dX0_push_18 : decode cX0_push 18 = .ok (.iastore, 1) := by decide +kernel
theorem ni_dX0_push_19 : decode cX0_push 19 = .ok (.return_, 1) := by decide +kernel
theorem ni_dX0_push_20 : decode cX0_push 20 = .ok (.aload_n 0, 1) := by decide +kernel
theorem ni_dX0_push_21 : decode cX0_push 21 = .ok (.getfield 15, 3) := by decide +kernel
theorem ni_dX0_push_24 : decode cX0_push 24 = .ok (.aload_n 0, 1) := by decide +kernel
theorem ni_dX0_push_25 : decode cX0_push 25 = .ok (.getfield 49, 3) := by decide +kernel
theorem ni_dX0_push_28 : decode cX0_push 28 = .ok (.iload_n 1, 1) := by decide +kernel
theorem ni_dX0_push_29 : decode cX0_push 29 = .ok (.iastore, 1) := by decide +kernel
theorem ni_dX0_push_30 : decode cX0_push 30 = .ok (.aload_n 0, 1) := by decide +kernel
theorem ni_dX0_push_31 : decode cX0_push 31 = .ok (.dup, 1) := by decide +kernel
theorem ni_dX0_push_32 : decode cX0_push 32 = .ok (.getfield 49, 3) := by decide +kernel
theorem ni_dX0_push_35 : decode cX0_push 35 = .ok (.iconst 1, 1) := by decide +kernel
theorem ni_dX0_push_36 : decode cX0_push 36 = .ok (.iadd, 1) := by decide +kernel
theorem ni_dX0_push_37 : decode cX0_push 37 = .ok (.putfield 49, 3) := by decide +kernel
theorem ni_dX0_push_40 : decode cX0_push 40 = .ok (.return_, 1) := by decide +kernel
theorem ni_dX1_init_0 : decode cX1_init 0 = .ok (.aload_n 0, 1) := by decide +kernel
theorem ni_dX1_init_1 : decode cX1_init 1 = .ok (.invokespecial 1, 3) := by decide +kernel
theorem ni_dX1_init_4 : decode cX1_init 4 = .ok (.aload_n 0, 1) := by decide +kernel
theorem ni_dX1_init_5 : decode cX1_init 5 = .ok (.iload_n 1, 1) := by decide +kernel
theorem ni_dX1_init_6 : decode cX1_init 6 = .ok (.putfield 7, 3) := by decide +kernel
theorem ni_dX1_init_9 : decode cX1_init 9 = .ok (.aload_n 0, 1) := by decide +kernel
theorem ni_dX1_init_10 : decode cX1_init 10 = .ok (.iload_n 2, 1) := by decide +kernel
theorem ni_dX1_init_11 : decode cX1_init 11 = .ok (.putfield 13, 3) := by decide +kernel
theorem ni_dX1_init_14 : decode cX1_init 14 = .ok (.aload_n 0, 1) := by decide +kernel
theorem ni_dX1_init_15 : decode cX1_init 15 = .ok (.iload_n 3, 1) := by decide +kernel
theorem ni_dX1_init_16 : decode cX1_init 16 = .ok (.putfield 16, 3) := by decide +kernel
theorem ni_dX1_init_19 : decode cX1_init 19 = .ok (.aload_n 0, 1) := by decide +kernel
theorem ni_dX1_init_20 : decode cX1_init 20 = .ok (.aload 4, 2) := by decide +kernel
theorem ni_dX1_init_22 : decode cX1_init 22 = .ok (.putfield 19, 3) := by decide +kernel
theorem ni_dX1_init_25 : decode cX1_init 25 = .ok (.aload_n 0, 1) := by decide +kernel
theorem ni_dX1_init_26 : decode cX1_init 26 = .ok (.aload 5, 2) := by decide +kernel
theorem ni_dX1_init_28 : decode cX1_init 28 = .ok (.putfield 23, 3) := by decide +kernel
theorem ni_dX1_init_31 : decode cX1_init 31 = .ok (.return_, 1) := by decide +kernel
theorem ni_dX1_hasLink_0 : decode cX1_hasLink 0 = .ok (.aload_n 0, 1) := by decide +kernel
theorem ni_dX1_hasLink_1 : decode cX1_hasLink 1 = .ok (.getfield 16, 3) := by decide +kernel
theorem ni_dX1_hasLink_4 : decode cX1_hasLink 4 = .ok (.iload_n 1, 1) := by decide +kernel
theorem ni_dX1_hasLink_5 : decode cX1_hasLink 5 = .ok (.ishr, 1) := by decide +kernel
theorem ni_dX1_hasLink_6 : decode cX1_hasLink 6 = .ok (.iconst 1, 1) := by decide +kernel
theorem ni_dX1_hasLink_7 : decode cX1_hasLink 7 = .ok (.iand, 1) := by decide +kernel
theorem ni_dX1_hasLink_8 : decode cX1_hasLink 8 = .ok (.ifCond .eq 7, 3) := by decide +kernel
theorem ni_dX1_hasLink_11 : decode cX1_hasLink 11 = .ok (.iconst 1, 1) := by decide +kernel
