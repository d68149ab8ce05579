theorem ni_dX6_accept_52 : decode cX6_accept 52 = .ok (.getfield 42, 3) := by decide +kernel
theorem ni_dX6_accept_55 : decode cX6_accept 55 = .ok (.iconst 1, 1) := by decide +kernel
theorem ni_dX6_accept_56 : decode cX6_accept 56 = .ok (.iadd, 1) := by decide +kernel
theorem ni_dX6_accept_57 : decode cX6_accept 57 = .ok (.putfield 42, 3) := by decide +kernel
theorem ni_dX6_accept_60 : decode cX6_accept 60 = .ok (.aload_n 0, 1) := by decide +kernel
theorem ni_dX6_accept_61 : decode cX6_accept 61 = .ok (.getfield 42, 3) := by decide +kernel
theorem ni_dX6_accept_64 : decode cX6_accept 64 = .ok (.iconst 3, 1) := by decide +kernel
theorem ni_dX6_accept_65 : decode cX6_accept 65 = .ok (.irem, 1) := by decide +kernel
theorem ni_dX6_accept_66 : decode cX6_accept 66 = .ok (.ifCond .ne 5, 3) := by decide +kernel
theorem ni_dX6_accept_69 : decode cX6_accept 69 = .ok (.iconst 5, 1) := by decide +kernel
theorem ni_dX6_accept_70 : decode cX6_accept 70 = .ok (.ireturn, 1) := by decide +kernel
theorem ni_dX6_accept_71 : decode cX6_accept 71 = .ok (.aload_n 0, 1) := by decide +kernel
theorem ni_dX6_accept_72 : decode cX6_accept 72 = .ok (.getfield 32, 3) := by decide +kernel
theorem ni_dX6_accept_75 : decode cX6_accept 75 = .ok (.aload_n 0, 1) := by decide +kernel
theorem ni_dX6_accept_76 : decode cX6_accept 76 = .ok (.getfield 63, 3) := by decide +kernel
theorem ni_dX6_accept_79 : decode cX6_accept 79 = .ok (.iload_n 1, 1) := by decide +kernel
theorem ni_dX6_accept_80 : decode cX6_accept 80 = .ok (.iastore, 1) := by decide +kernel
theorem ni_dX6_accept_81 : decode cX6_accept 81 = .ok (.aload_n 0, 1) := by decide +kernel
theorem ni_dX6_accept_82 : decode cX6_accept 82 = .ok (.dup, 1) := by decide +kernel
theorem ni_dX6_accept_83 : decode cX6_accept 83 = .ok (.getfield 63, 3) := by decide +kernel
theorem ni_dX6_accept_86 : decode cX6_accept 86 = .ok (.iconst 1, 1) := by decide +kernel
theorem ni_dX6_accept_87 : decode cX6_accept 87 = .ok (.iadd, 1) := by decide +kernel
theorem ni_dX6_accept_88 : decode cX6_accept 88 = .ok (.putfield 63, 3) := by decide +kernel
theorem ni_dX6_accept_91 : decode cX6_accept 91 = .ok (.aload_n 0, 1) := by decide +kernel
theorem ni_dX6_accept_92 : decode cX6_accept 92 = .ok (.dup, 1) := by decide +kernel
theorem ni_dX6_accept_93 : decode cX6_accept 93 = .ok (.getfield 60, 3) := by decide +kernel
theorem ni_dX6_accept_96 : decode cX6_accept 96 = .ok (.iload_n 2, 1) := by decide +kernel
theorem ni_dX6_accept_97 : decode cX6_accept 97 = .ok (.iadd, 1) := by decide +kernel
theorem ni_dX6_accept_98 : decode cX6_accept 98 = .ok (.putfield 60, 3) := by decide +kernel
theorem ni_dX6_accept_101 : decode cX6_accept 101 = .ok (.iconst (-1), 1) := by decide +kernel
theorem ni_dX6_accept_102 : decode cX6_accept 102 = .ok (.ireturn, 1) := by decide +kernel
theorem ni_dX6_clearTurns_0 : decode cX6_clearTurns 0 = .ok (.iconst 0, 1) := by decide +kernel
theorem ni_dX6_clearTurns_1 : decode cX6_clearTurns 1 = .ok (.istore_n 1, 1) := by decide +kernel
theorem ni_dX6_clearTurns_2 : decode cX6_clearTurns 2 = .ok (.iload_n 1, 1) := by decide +kernel
theorem ni_dX6_clearTurns_3 : decode cX6_clearTurns 3 = .ok (.iconst 4, 1) := by decide +kernel
theorem ni_dX6_clearTurns_4 : decode cX6_clearTurns 4 = .ok (.if_icmp .ge 16, 3) := by decide +kernel
theorem ni_dX6_clearTurns_7 : decode cX6_clearTurns 7 = .ok (.aload_n 0, 1) := by decide +kernel
theorem ni_dX6_clearTurns_8 : decode cX6_clearTurns 8 = .ok (.getfield 29, 3) := by decide +kernel
theorem ni_dX6_clearTurns_11 : decode cX6_clearTurns 11 = .ok (.iload_n 1, 1) := by decide +kernel
theorem ni_dX6_clearTurns_12 : decode cX6_clearTurns 12 = .ok (.iconst 0, 1) := by decide +kernel
theorem ni_dX6_clearTurns_13 : decode cX6_clearTurns 13 = .ok (.iastore, 1) := by decide +kernel
theorem ni_dX6_clearTurns_14 : decode cX6_clearTurns 14 = .ok (.iinc 1 1, 3) := by decide +kernel
theorem ni_dX6_clearTurns_17 : decode cX6_clearTurns 17 = .ok (.goto (-15), 3) := by decide +kernel
theorem ni_dX6_clearTurns_20 : decode cX6_clearTurns 20 = .ok (.aload_n 0, 1) := by decide +kernel
theorem ni_dX6_clearTurns_21 : decode cX6_clearTurns 21 = .ok (.iconst 0, 1) := by decide +kernel
theorem ni_dX6_clearTurns_22 : decode cX6_clearTurns 22 = .ok (.putfield 48, 3) := by decide +kernel
theorem ni_dX6_clearTurns_25 : decode cX6_clearTurns 25 = .ok (.aload_n 0, 1) := by decide +kernel
theorem ni_dX6_clearTurns_26 : decode cX6_clearTurns 26 = .ok (.iconst 0, 1) := by decide +kernel
theorem ni_dX6_clearTurns_27 : decode cX6_clearTurns 27 = .ok (.putfield 51, 3) := by decide +kernel
theorem ni_dX6_clearTurns_30 : decode cX6_clearTurns 30 = .ok (.return_, 1) := by decide +kernel
theorem ni_dX6_configure_0 : decode cX6_configure 0 = .ok (.aload_n 0, 1) := by decide +kernel
theorem ni_dX6_configure_1 : decode cX6_configure 1 = .ok (.iload_n 1, 1) := by decide +kernel
theorem ni_dX6_configure_2 : decode cX6_configure 2 = .ok (.putfield 18, 3) := by decide +kernel
theorem ni_dX6_configure_5 : decode cX6_configure 5 = .ok (.aload_n 0, 1) := by decide +kernel
theorem ni_dX6_configure_6 : decode cX6_configure 6 = .ok (.iload_n 2, 1) := by decide +kernel
theorem ni_dX6_configure_7 : decode cX6_configure 7 = .ok (.putfield 22, 3) := by decide +kernel
theorem ni_dX6_configure_10 : decode cX6_configure 10 = .ok (.aload_n 0, 1) := by decide +kernel
theorem ni_dX6_configure_11 : decode cX6_configure 11 = .ok (.iload_n 3, 1) := by decide +kernel
theorem ni_dX6_configure_12 : decode cX6_configure 12 = .ok (.putfield 38, 3) := by decide +kernel
theorem ni_dX6_configure_15 : decode cX6_configure 15 = .ok (.aload_n 0, 1) := by decide +kernel
theorem ni_dX6_configure_16 : decode cX6_configure 16 = .ok (.iconst 0, 1) := by decide +kernel
theorem ni_dX6_configure_17 : decode cX6_configure 17 = .ok (.putfield 42, 3) := by decide +kernel
theorem ni_dX6_configure_20 : decode cX6_configure 20 = .ok (.aload_n 0, 1) := by decide +kernel
theorem ni_dX6_configure_21 : decode cX6_configure 21 = .ok (.invokevirtual 45, 3) := by decide +kernel
theorem ni_dX6_configure_24 : decode cX6_configure 24 = .ok (.return_, 1) := by decide +kernel
theorem ni_dX6_copyFrom_0 : decode cX6_copyFrom 0 = .ok (.aload_n 0, 1) := by decide +kernel
theorem ni_dX6_copyFrom_1 : decode cX6_copyFrom 1 = .ok (.getfield 12, 3) := by decide +kernel
theorem ni_dX6_copyFrom_4 : decode cX6_copyFrom 4 = .ok (.aload_n 1, 1) := by decide +kernel
theorem ni_dX6_copyFrom_5 : decode cX6_copyFrom 5 = .ok (.getfield 12, 3) := by decide +kernel
theorem ni_dX6_copyFrom_8 : decode cX6_copyFrom 8 = .ok (.invokevirtual 116, 3) := by decide +kernel
theorem ni_dX6_copyFrom_11 : decode cX6_copyFrom 11 = .ok (.aload_n 0, 1) := by decide +kernel
theorem ni_dX6_copyFrom_12 : decode cX6_copyFrom 12 = .ok (.aload_n 1, 1) := by decide +kernel
theorem ni_dX6_copyFrom_13 : decode cX6_copyFrom 13 = .ok (.getfield 18, 3) := by decide +kernel
theorem ni_dX6_copyFrom_16 : decode cX6_copyFrom 16 = .ok (.putfield 18, 3) := by decide +kernel
theorem ni_dX6_copyFrom_19 : decode cX6_copyFrom 19 = .ok (.aload_n 0, 1) := by decide +kernel
theorem ni_dX6_copyFrom_20 : decode cX6_copyFrom 20 = .ok (.aload_n 1, 1) := by decide +kernel
theorem ni_dX6_copyFrom_21 : decode cX6_copyFrom 21 = .ok (.getfield 22, 3) := by decide +kernel
theorem ni_dX6_copyFrom_24 : decode cX6_copyFrom 24 = .ok (.putfield 22, 3) := by decide +kernel
theorem ni_dX6_copyFrom_27 : decode cX6_copyFrom 27 = .ok (.aload_n 0, 1) := by decide +kernel
theorem ni_dX6_copyFrom_28 : decode cX6_copyFrom 28 = .ok (.aload_n 1, 1) := by decide +kernel
theorem ni_dX6_copyFrom_29 : decode cX6_copyFrom 29 = .ok (.getfield 38, 3) := by decide +kernel
theorem ni_dX6_copyFrom_32 : decode cX6_copyFrom 32 = .ok (.putfield 38, 3) := by decide +kernel
theorem ni_dX6_copyFrom_35 : decode cX6_copyFrom 35 = .ok (.aload_n 0, 1) := by decide +kernel
theorem ni_dX6_copyFrom_36 : decode cX6_copyFrom 36 = .ok (.aload_n 1, 1) := by decide +kernel
theorem ni_dX6_copyFrom_37 : decode cX6_copyFrom 37 = .ok (.getfield 42, 3) := by decide +kernel
theorem ni_dX6_copyFrom_40 : decode cX6_copyFrom 40 = .ok (.putfield 42, 3) := by decide +kernel
theorem ni_dX6_copyFrom_43 : decode cX6_copyFrom 43 = .ok (.aload_n 1, 1) := by decide +kernel
theorem ni_dX6_copyFrom_44 : decode cX6_copyFrom 44 = .ok (.getfield 25, 3) := by decide +kernel
theorem ni_dX6_copyFrom_47 : decode cX6_copyFrom 47 = .ok (.iconst 0, 1) := by decide +kernel
theorem ni_dX6_copyFrom_48 : decode cX6_copyFrom 48 = .ok (.aload_n 0, 1) := by decide +kernel
theorem ni_dX6_copyFrom_49 : decode cX6_copyFrom 49 = .ok (.getfield 25, 3) := by decide +kernel
theorem ni_dX6_copyFrom_52 : decode cX6_copyFrom 52 = .ok (.iconst 0, 1) := by decide +kernel
theorem ni_dX6_copyFrom_53 : decode cX6_copyFrom 53 = .ok (.iconst 4, 1) := by decide +kernel
theorem ni_dX6_copyFrom_54 : decode cX6_copyFrom 54 = .ok (.invokestatic 120, 3) := by decide +kernel
theorem ni_dX6_copyFrom_57 : decode cX6_copyFrom 57 = .ok (.aload_n 1, 1) := by decide +kernel
theorem ni_dX6_copyFrom_58 : decode cX6_copyFrom 58 = .ok (.getfield 29, 3) := by decide +kernel
theorem ni_dX6_copyFrom_61 : decode cX6_copyFrom 61 = .ok (.iconst 0, 1) := by decide +kernel
theorem ni_dX6_copyFrom_62 : decode cX6_copyFrom 62 = .ok (.aload_n 0, 1) := by decide +kernel
theorem ni_dX6_copyFrom_63 : decode cX6_copyFrom 63 = .ok (.getfield 29, 3) := by decide +kernel
theorem ni_dX6_copyFrom_66 : decode cX6_copyFrom 66 = .ok (.iconst 0, 1) := by decide +kernel
theorem ni_dX6_copyFrom_67 : decode cX6_copyFrom 67 = .ok (.iconst 4, 1) := by decide +kernel
theorem ni_dX6_copyFrom_68 : decode cX6_copyFrom 68 = .ok (.invokestatic 120, 3) := by decide +kernel
theorem ni_dX6_copyFrom_71 : decode cX6_copyFrom 71 = .ok (.aload_n 0, 1) := by decide +kernel
theorem ni_dX6_copyFrom_72 : decode cX6_copyFrom 72 = .ok (.aload_n 1, 1) := by decide +kernel
theorem ni_dX6_copyFrom_73 : decode cX6_copyFrom 73 = .ok (.getfield 48, 3) := by decide +kernel
theorem ni_dX6_copyFrom_76 : decode cX6_copyFrom 76 = .ok (.putfield 48, 3) := by decide +kernel
theorem ni_dX6_copyFrom_79 : decode cX6_copyFrom 79 = .ok (.aload_n 0, 1) := by decide +kernel
theorem ni_dX6_copyFrom_80 : decode cX6_copyFrom 80 = .ok (.aload_n 1, 1) := by decide +kernel
theorem ni_dX6_copyFrom_81 : decode cX6_copyFrom 81 = .ok (.getfield 51, 3) := by decide +kernel
theorem ni_dX6_copyFrom_84 : decode cX6_copyFrom 84 = .ok (.putfield 51, 3) := by decide +kernel
theorem ni_dX6_copyFrom_87 : decode cX6_copyFrom 87 = .ok (.aload_n 0, 1) := by decide +kernel
theorem ni_dX6_copyFrom_88 : decode cX6_copyFrom 88 = .ok (.aload_n 1, 1) := by decide +kernel
theorem ni_dX6_copyFrom_89 : decode cX6_copyFrom 89 = .ok (.getfield 63, 3) := by decide +kernel
theorem ni_dX6_copyFrom_92 : decode cX6_copyFrom 92 = .ok (.putfield 63, 3) := by decide +kernel
theorem ni_dX6_copyFrom_95 : decode cX6_copyFrom 95 = .ok (.aload_n 1, 1) := by decide +kernel
theorem ni_dX6_copyFrom_96 : decode cX6_copyFrom 96 = .ok (.getfield 32, 3) := by decide +kernel
theorem ni_dX6_copyFrom_99 : decode cX6_copyFrom 99 = .ok (.iconst 0, 1) := by decide +kernel
theorem ni_dX6_copyFrom_100 : decode cX6_copyFrom 100 = .ok (.aload_n 0, 1) := by decide +kernel
theorem ni_dX6_copyFrom_101 : decode cX6_copyFrom 101 = .ok (.getfield 32, 3) := by decide +kernel
theorem ni_dX6_copyFrom_104 : decode cX6_copyFrom 104 = .ok (.iconst 0, 1) := by decide +kernel
theorem ni_dX6_copyFrom_105 : decode cX6_copyFrom 105 = .ok (.aload_n 0, 1) := by decide +kernel
theorem ni_dX6_copyFrom_106 : decode cX6_copyFrom 106 = .ok (.getfield 63, 3) := by decide +kernel
theorem ni_dX6_copyFrom_109 : decode cX6_copyFrom 109 = .ok (.invokestatic 120, 3) := by decide +kernel
theorem ni_dX6_copyFrom_112 : decode cX6_copyFrom 112 = .ok (.aload_n 0, 1) := by decide +kernel
theorem ni_dX6_copyFrom_113 : decode cX6_copyFrom 113 = .ok (.aload_n 1, 1) := by decide +kernel
theorem ni_dX6_copyFrom_114 : decode cX6_copyFrom 114 = .ok (.getfield 60, 3) := by decide +kernel
theorem ni_dX6_copyFrom_117 : decode cX6_copyFrom 117 = .ok (.putfield 60, 3) := by decide +kernel
theorem ni_dX6_copyFrom_120 : decode cX6_copyFrom 120 = .ok (.aload_n 0, 1) := by decide +kernel
theorem ni_dX6_copyFrom_121 : decode cX6_copyFrom 121 = .ok (.aload_n 1, 1) := by decide +kernel
theorem ni_dX6_copyFrom_122 : decode cX6_copyFrom 122 = .ok (.getfield 35, 3) := by decide +kernel
theorem ni_dX6_copyFrom_125 : decode cX6_copyFrom 125 = .ok (.putfield 35, 3) := by decide +kernel
theorem ni_dX6_copyFrom_128 : decode cX6_copyFrom 128 = .ok (.aload_n 0, 1) := by decide +kernel
theorem ni_dX6_copyFrom_129 : decode cX6_copyFrom 129 = .ok (.aload_n 1, 1) := by decide +kernel
theorem ni_dX6_copyFrom_130 : decode cX6_copyFrom 130 = .ok (.getfield 69, 3) := by decide +kernel
theorem ni_dX6_copyFrom_133 : decode cX6_copyFrom 133 = .ok (.putfield 69, 3) := by decide +kernel
theorem ni_dX6_copyFrom_136 : decode cX6_copyFrom 136 = .ok (.return_, 1) := by decide +kernel
theorem ni_dX6_countOf_0 : decode cX6_countOf 0 = .ok (.iconst 0, 1) := by decide +kernel
theorem ni_dX6_countOf_1 : decode cX6_countOf 1 = .ok (.istore_n 2, 1) := by decide +kernel
theorem ni_dX6_countOf_2 : decode cX6_countOf 2 = .ok (.iconst 0, 1) := by decide +kernel
theorem ni_dX6_countOf_3 : decode cX6_countOf 3 = .ok (.istore_n 3, 1) := by decide +kernel
theorem ni_dX6_countOf_4 : decode cX6_countOf 4 = .ok (.iload_n 3, 1) := by decide +kernel
theorem ni_dX6_countOf_5 : decode cX6_countOf 5 = .ok (.aload_n 0, 1) := by decide +kernel
theorem ni_dX6_countOf_6 : decode cX6_countOf 6 = .ok (.getfield 63, 3) := by decide +kernel
theorem ni_dX6_countOf_9 : decode cX6_countOf 9 = .ok (.if_icmp .ge 30, 3) := by decide +kernel
theorem ni_dX6_countOf_12 : decode cX6_countOf 12 = .ok (.iload_n 2, 1) := by decide +kernel
theorem ni_dX6_countOf_13 : decode cX6_countOf 13 = .ok (.aload_n 0, 1) := by decide +kernel
theorem ni_dX6_countOf_14 : decode cX6_countOf 14 = .ok (.getfield 32, 3) := by decide +kernel
theorem ni_dX6_countOf_17 : decode cX6_countOf 17 = .ok (.iload_n 3, 1) := by decide +kernel
theorem ni_dX6_countOf_18 : decode cX6_countOf 18 = .ok (.iaload, 1) := by decide +kernel
theorem ni_dX6_countOf_19 : decode cX6_countOf 19 = .ok (.invokestatic 95, 3) := by decide +kernel
theorem ni_dX6_countOf_22 : decode cX6_countOf 22 = .ok (.iload_n 1, 1) := by decide +kernel
theorem ni_dX6_countOf_23 : decode cX6_countOf 23 = .ok (.if_icmp .ne 7, 3) := by decide +kernel
theorem ni_dX6_countOf_26 : decode cX6_countOf 26 = .ok (.iconst 1, 1) := by decide +kernel
theorem ni_dX6_countOf_27 : decode cX6_countOf 27 = .ok (.goto 4, 3) := by decide +kernel
theorem ni_dX6_countOf_30 : decode cX6_countOf 30 = .ok (.iconst 0, 1) := by decide +kernel
theorem ni_dX6_countOf_31 : decode cX6_countOf 31 = .ok (.iadd, 1) := by decide +kernel
theorem ni_dX6_countOf_32 : decode cX6_countOf 32 = .ok (.istore_n 2, 1) := by decide +kernel
theorem ni_dX6_countOf_33 : decode cX6_countOf 33 = .ok (.iinc 3 1, 3) := by decide +kernel
theorem ni_dX6_countOf_36 : decode cX6_countOf 36 = .ok (.goto (-32), 3) := by decide +kernel
theorem ni_dX6_countOf_39 : decode cX6_countOf 39 = .ok (.iload_n 2, 1) := by decide +kernel
theorem ni_dX6_countOf_40 : decode cX6_countOf 40 = .ok (.ireturn, 1) := by decide +kernel
theorem ni_dX6_firstOf_0 : decode cX6_firstOf 0 = .ok (.iconst 0, 1) := by decide +kernel
theorem ni_dX6_firstOf_1 : decode cX6_firstOf 1 = .ok (.istore_n 2, 1) := by decide +kernel
theorem ni_dX6_firstOf_2 : decode cX6_firstOf 2 = .ok (.iload_n 2, 1) := by decide +kernel
theorem ni_dX6_firstOf_3 : decode cX6_firstOf 3 = .ok (.aload_n 0, 1) := by decide +kernel
theorem ni_dX6_firstOf_4 : decode cX6_firstOf 4 = .ok (.getfield 63, 3) := by decide +kernel
theorem ni_dX6_firstOf_7 : decode cX6_firstOf 7 = .ok (.if_icmp .ge 24, 3) := by decide +kernel
theorem ni_dX6_firstOf_10 : decode cX6_firstOf 10 = .ok (.aload_n 0, 1) := by decide +kernel
theorem ni_dX6_firstOf_11 : decode cX6_firstOf 11 = .ok (.getfield 32, 3) := by decide +kernel
theorem ni_dX6_firstOf_14 : decode cX6_firstOf 14 = .ok (.iload_n 2, 1) := by decide +kernel
theorem ni_dX6_firstOf_15 : decode cX6_firstOf 15 = .ok (.iaload, 1) := by decide +kernel
theorem ni_dX6_firstOf_16 : decode cX6_firstOf 16 = .ok (.invokestatic 95, 3) := by decide +kernel
theorem ni_dX6_firstOf_19 : decode cX6_firstOf 19 = .ok (.iload_n 1, 1) := by decide +kernel
theorem ni_dX6_firstOf_20 : decode cX6_firstOf 20 = .ok (.if_icmp .ne 5, 3) := by decide +kernel
theorem ni_dX6_firstOf_23 : decode cX6_firstOf 23 = .ok (.iload_n 2, 1) := by decide +kernel
theorem ni_dX6_firstOf_24 : decode cX6_firstOf 24 = .ok (.ireturn, 1) := by decide +kernel
theorem ni_dX6_firstOf_25 : decode cX6_firstOf 25 = .ok (.iinc 2 1, 3) := by decide +kernel
theorem ni_dX6_firstOf_28 : decode cX6_firstOf 28 = .ok (.goto (-26), 3) := by decide +kernel
theorem ni_dX6_firstOf_31 : decode cX6_firstOf 31 = .ok (.iconst (-1), 1) := by decide +kernel
theorem ni_dX6_firstOf_32 : decode cX6_firstOf 32 = .ok (.ireturn, 1) := by decide +kernel
theorem ni_dX6_lose_0 : decode cX6_lose 0 = .ok (.iconst 0, 1) := by decide +kernel
theorem ni_dX6_lose_1 : decode cX6_lose 1 = .ok (.istore_n 2, 1) := by decide +kernel
theorem ni_dX6_lose_2 : decode cX6_lose 2 = .ok (.iload_n 2, 1) := by decide +kernel
theorem ni_dX6_lose_3 : decode cX6_lose 3 = .ok (.aload_n 0, 1) := by decide +kernel
theorem ni_dX6_lose_4 : decode cX6_lose 4 = .ok (.getfield 63, 3) := by decide +kernel
theorem ni_dX6_lose_7 : decode cX6_lose 7 = .ok (.if_icmp .ge 19, 3) := by decide +kernel
theorem ni_dX6_lose_10 : decode cX6_lose 10 = .ok (.aload_n 1, 1) := by decide +kernel
theorem ni_dX6_lose_11 : decode cX6_lose 11 = .ok (.aload_n 0, 1) := by decide +kernel
theorem ni_dX6_lose_12 : decode cX6_lose 12 = .ok (.getfield 32, 3) := by decide +kernel
theorem ni_dX6_lose_15 : decode cX6_lose 15 = .ok (.iload_n 2, 1) := by decide +kernel
theorem ni_dX6_lose_16 : decode cX6_lose 16 = .ok (.iaload, 1) := by decide +kernel
theorem ni_dX6_lose_17 : decode cX6_lose 17 = .ok (.invokestatic 98, 3) := by decide +kernel
theorem ni_dX6_lose_20 : decode cX6_lose 20 = .ok (.iinc 2 1, 3) := by decide +kernel
theorem ni_dX6_lose_23 : decode cX6_lose 23 = .ok (.goto (-21), 3) := by decide +kernel
theorem ni_dX6_lose_26 : decode cX6_lose 26 = .ok (.aload_n 0, 1) := by decide +kernel
theorem ni_dX6_lose_27 : decode cX6_lose 27 = .ok (.iconst 0, 1) := by decide +kernel
theorem ni_dX6_lose_28 : decode cX6_lose 28 = .ok (.putfield 63, 3) := by decide +kernel
theorem ni_dX6_lose_31 : decode cX6_lose 31 = .ok (.aload_n 0, 1) := by decide +kernel
theorem ni_dX6_lose_32 : decode cX6_lose 32 = .ok (.iconst 0, 1) := by decide +kernel
theorem ni_dX6_lose_33 : decode cX6_lose 33 = .ok (.putfield 60, 3) := by decide +kernel
theorem ni_dX6_lose_36 : decode cX6_lose 36 = .ok (.aload_n 1, 1) := by decide +kernel
theorem ni_dX6_lose_37 : decode cX6_lose 37 = .ok (.aload_n 0, 1) := by decide +kernel
theorem ni_dX6_lose_38 : decode cX6_lose 38 = .ok (.getfield 35, 3) := by decide +kernel
theorem ni_dX6_lose_41 : decode cX6_lose 41 = .ok (.invokestatic 98, 3) := by decide +kernel
theorem ni_dX6_lose_44 : decode cX6_lose 44 = .ok (.aload_n 0, 1) := by decide +kernel
theorem ni_dX6_lose_45 : decode cX6_lose 45 = .ok (.iconst (-1), 1) := by decide +kernel
theorem ni_dX6_lose_46 : decode cX6_lose 46 = .ok (.putfield 35, 3) := by decide +kernel
theorem ni_dX6_lose_49 : decode cX6_lose 49 = .ok (.aload_n 0, 1) := by decide +kernel
theorem ni_dX6_lose_50 : decode cX6_lose 50 = .ok (.iconst 0, 1) := by decide +kernel
theorem ni_dX6_lose_51 : decode cX6_lose 51 = .ok (.putfield 69, 3) := by decide +kernel
theorem ni_dX6_lose_54 : decode cX6_lose 54 = .ok (.iconst 0, 1) := by decide +kernel
theorem ni_dX6_lose_55 : decode cX6_lose 55 = .ok (.istore_n 2, 1) := by decide +kernel
theorem ni_dX6_lose_56 : decode cX6_lose 56 = .ok (.iload_n 2, 1) := by decide +kernel
theorem ni_dX6_lose_57 : decode cX6_lose 57 = .ok (.bipush 21, 2) := by decide +kernel
theorem ni_dX6_lose_59 : decode cX6_lose 59 = .ok (.if_icmp .ge 21, 3) := by decide +kernel
theorem ni_dX6_lose_62 : decode cX6_lose 62 = .ok (.aload_n 1, 1) := by decide +kernel
theorem ni_dX6_lose_63 : decode cX6_lose 63 = .ok (.aload_n 0, 1) := by decide +kernel
theorem ni_dX6_lose_64 : decode cX6_lose 64 = .ok (.getfield 12, 3) := by decide +kernel
theorem ni_dX6_lose_67 : decode cX6_lose 67 = .ok (.iload_n 2, 1) := by decide +kernel
theorem ni_dX6_lose_68 : decode cX6_lose 68 = .ok (.invokevirtual 102, 3) := by decide +kernel
theorem ni_dX6_lose_71 : decode cX6_lose 71 = .ok (.invokestatic 98, 3) := by decide +kernel
theorem ni_dX6_lose_74 : decode cX6_lose 74 = .ok (.iinc 2 1, 3) := by decide +kernel
theorem ni_dX6_lose_77 : decode cX6_lose 77 = .ok (.goto (-21), 3) := by decide +kernel
theorem ni_dX6_lose_80 : decode cX6_lose 80 = .ok (.aload_n 0, 1) := by decide +kernel
theorem ni_dX6_lose_81 : decode cX6_lose 81 = .ok (.getfield 12, 3) := by decide +kernel
theorem ni_dX6_lose_84 : decode cX6_lose 84 = .ok (.iconst 0, 1) := by decide +kernel
theorem ni_dX6_lose_85 : decode cX6_lose 85 = .ok (.putfield 105, 3) := by decide +kernel
theorem ni_dX6_lose_88 : decode cX6_lose 88 = .ok (.aload_n 0, 1) := by decide +kernel
theorem ni_dX6_lose_89 : decode cX6_lose 89 = .ok (.invokevirtual 45, 3) := by decide +kernel
theorem ni_dX6_lose_92 : decode cX6_lose 92 = .ok (.return_, 1) := by decide +kernel
theorem ni_dX6_loseOne_0 : decode cX6_loseOne 0 = .ok (.iload_n 1, 1) := by decide +kernel
theorem ni_dX6_loseOne_1 : decode cX6_loseOne 1 = .ok (.iconst (-1), 1) := by decide +kernel
theorem ni_dX6_loseOne_2 : decode cX6_loseOne 2 = .ok (.if_icmp .eq 19, 3) := by decide +kernel
theorem ni_dX6_loseOne_5 : decode cX6_loseOne 5 = .ok (.aload_n 0, 1) := by decide +kernel
theorem ni_dX6_loseOne_6 : decode cX6_loseOne 6 = .ok (.iload_n 1, 1) := by decide +kernel
theorem ni_dX6_loseOne_7 : decode cX6_loseOne 7 = .ok (.invokestatic 108, 3) := by decide +kernel
theorem ni_dX6_loseOne_10 : decode cX6_loseOne 10 = .ok (.aaload, 1) := by decide +kernel
theorem ni_dX6_loseOne_11 : decode cX6_loseOne 11 = .ok (.getfield 111, 3) := by decide +kernel
theorem ni_dX6_loseOne_14 : decode cX6_loseOne 14 = .ok (.bipush 6, 2) := by decide +kernel
theorem ni_dX6_loseOne_16 : decode cX6_loseOne 16 = .ok (.dup2, 1) := by decide +kernel
theorem ni_dX6_loseOne_17 : decode cX6_loseOne 17 = .ok (.iaload, 1) := by decide +kernel
theorem ni_dX6_loseOne_18 : decode cX6_loseOne 18 = .ok (.iconst 1, 1) := by decide +kernel
theorem ni_dX6_loseOne_19 : decode cX6_loseOne 19 = .ok (.iadd, 1) := by decide +kernel
theorem ni_dX6_loseOne_20 : decode cX6_loseOne 20 = .ok (.iastore, 1) := by decide +kernel
theorem ni_dX6_loseOne_21 : decode cX6_loseOne 21 = .ok (.return_, 1) := by decide +kernel
theorem ni_dX6_nextPlace_0 : decode cX6_nextPlace 0 = .ok (.aload_n 0, 1) := by decide +kernel
theorem ni_dX6_nextPlace_1 : decode cX6_nextPlace 1 = .ok (.getfield 18, 3) := by decide +kernel
theorem ni_dX6_nextPlace_4 : decode cX6_nextPlace 4 = .ok (.lookupswitch 38 #[(1, 28), (2, 33)], 28) := by decide +kernel
theorem ni_dX6_nextPlace_32 : decode cX6_nextPlace 32 = .ok (.aload_n 0, 1) := by decide +kernel
theorem ni_dX6_nextPlace_33 : decode cX6_nextPlace 33 = .ok (.invokevirtual 86, 3) := by decide +kernel
theorem ni_dX6_nextPlace_36 : decode cX6_nextPlace 36 = .ok (.ireturn, 1) := by decide +kernel
theorem ni_dX6_nextPlace_37 : decode cX6_nextPlace 37 = .ok (.aload_n 0, 1) := by decide +kernel
theorem ni_dX6_nextPlace_38 : decode cX6_nextPlace 38 = .ok (.invokevirtual 89, 3) := by decide +kernel
theorem ni_dX6_nextPlace_41 : decode cX6_nextPlace 41 = .ok (.ireturn, 1) := by decide +kernel
theorem ni_dX6_nextPlace_42 : decode cX6_nextPlace 42 = .ok (.iconst 0, 1) := by decide +kernel
theorem ni_dX6_nextPlace_43 : decode cX6_nextPlace 43 = .ok (.ireturn, 1) := by decide +kernel
theorem ni_dX6_placeByClasses_0 : decode cX6_placeByClasses 0 = .ok (.iconst 0, 1) := by decide +kernel
theorem ni_dX6_placeByClasses_1 : decode cX6_placeByClasses 1 = .ok (.istore_n 1, 1) := by decide +kernel
theorem ni_dX6_placeByClasses_2 : decode cX6_placeByClasses 2 = .ok (.iload_n 1, 1) := by decide +kernel
theorem ni_dX6_placeByClasses_3 : decode cX6_placeByClasses 3 = .ok (.iconst 4, 1) := by decide +kernel
theorem ni_dX6_placeByClasses_4 : decode cX6_placeByClasses 4 = .ok (.if_icmp .ge 22, 3) := by decide +kernel
theorem ni_dX6_placeByClasses_7 : decode cX6_placeByClasses 7 = .ok (.aload_n 0, 1) := by decide +kernel
theorem ni_dX6_placeByClasses_8 : decode cX6_placeByClasses 8 = .ok (.iload_n 1, 1) := by decide +kernel
theorem ni_dX6_placeByClasses_9 : decode cX6_placeByClasses 9 = .ok (.invokevirtual 92, 3) := by decide +kernel
theorem ni_dX6_placeByClasses_12 : decode cX6_placeByClasses 12 = .ok (.istore_n 2, 1) := by decide +kernel
theorem ni_dX6_placeByClasses_13 : decode cX6_placeByClasses 13 = .ok (.iload_n 2, 1) := by decide +kernel
theorem ni_dX6_placeByClasses_14 : decode cX6_placeByClasses 14 = .ok (.iconst (-1), 1) := by decide +kernel
theorem ni_dX6_placeByClasses_15 : decode cX6_placeByClasses 15 = .ok (.if_icmp .eq 5, 3) := by decide +kernel
theorem ni_dX6_placeByClasses_18 : decode cX6_placeByClasses 18 = .ok (.iload_n 2, 1) := by decide +kernel
theorem ni_dX6_placeByClasses_19 : decode cX6_placeByClasses 19 = .ok (.ireturn, 1) := by decide +kernel
theorem ni_dX6_placeByClasses_20 : decode cX6_placeByClasses 20 = .ok (.iinc 1 1, 3) := by decide +kernel
theorem ni_dX6_placeByClasses_23 : decode cX6_placeByClasses 23 = .ok (.goto (-21), 3) := by decide +kernel
theorem ni_dX6_placeByClasses_26 : decode cX6_placeByClasses 26 = .ok (.iconst (-1), 1) := by decide +kernel
theorem ni_dX6_placeByClasses_27 : decode cX6_placeByClasses 27 = .ok (.ireturn, 1) := by decide +kernel
theorem ni_dX6_placeByTurns_0 : decode cX6_placeByTurns 0 = .ok (.iconst 0, 1) := by decide +kernel
theorem ni_dX6_placeByTurns_1 : decode cX6_placeByTurns 1 = .ok (.istore_n 1, 1) := by decide +kernel
theorem ni_dX6_placeByTurns_2 : decode cX6_placeByTurns 2 = .ok (.iload_n 1, 1) := by decide +kernel
theorem ni_dX6_placeByTurns_3 : decode cX6_placeByTurns 3 = .ok (.bipush 100, 2) := by decide +kernel
theorem ni_dX6_placeByTurns_5 : decode cX6_placeByTurns 5 = .ok (.if_icmp .ge 127, 3) := by decide +kernel
theorem ni_dX6_placeByTurns_8 : decode cX6_placeByTurns 8 = .ok (.aload_n 0, 1) := by decide +kernel
theorem ni_dX6_placeByTurns_9 : decode cX6_placeByTurns 9 = .ok (.aload_n 0, 1) := by decide +kernel
theorem ni_dX6_placeByTurns_10 : decode cX6_placeByTurns 10 = .ok (.getfield 48, 3) := by decide +kernel
theorem ni_dX6_placeByTurns_13 : decode cX6_placeByTurns 13 = .ok (.invokevirtual 92, 3) := by decide +kernel
theorem ni_dX6_placeByTurns_16 : decode cX6_placeByTurns 16 = .ok (.istore_n 2, 1) := by decide +kernel
theorem ni_dX6_placeByTurns_17 : decode cX6_placeByTurns 17 = .ok (.iload_n 2, 1) := by decide +kernel
theorem ni_dX6_placeByTurns_18 : decode cX6_placeByTurns 18 = .ok (.iconst (-1), 1) := by decide +kernel
theorem ni_dX6_placeByTurns_19 : decode cX6_placeByTurns 19 = .ok (.if_icmp .ne 16, 3) := by decide +kernel
theorem ni_dX6_placeByTurns_22 : decode cX6_placeByTurns 22 = .ok (.aload_n 0, 1) := by decide +kernel
theorem ni_dX6_placeByTurns_23 : decode cX6_placeByTurns 23 = .ok (.getfield 29, 3) := by decide +kernel
theorem ni_dX6_placeByTurns_26 : decode cX6_placeByTurns 26 = .ok (.aload_n 0, 1) := by decide +kernel
theorem ni_dX6_placeByTurns_27 : decode cX6_placeByTurns 27 = .ok (.getfield 48, 3) := by decide +kernel
theorem ni_dX6_placeByTurns_30 : decode cX6_placeByTurns 30 = .ok (.iconst 0, 1) := by decide +kernel
theorem ni_dX6_placeByTurns_31 : decode cX6_placeByTurns 31 = .ok (.iastore, 1) := by decide +kernel
theorem ni_dX6_placeByTurns_32 : decode cX6_placeByTurns 32 = .ok (.goto 77, 3) := by decide +kernel
theorem ni_dX6_placeByTurns_35 : decode cX6_placeByTurns 35 = .ok (.aload_n 0, 1) := by decide +kernel
theorem ni_dX6_placeByTurns_36 : decode cX6_placeByTurns 36 = .ok (.getfield 51, 3) := by decide +kernel
theorem ni_dX6_placeByTurns_39 : decode cX6_placeByTurns 39 = .ok (.ifCond .ne 32, 3) := by decide +kernel
theorem ni_dX6_placeByTurns_42 : decode cX6_placeByTurns 42 = .ok (.aload_n 0, 1) := by decide +kernel
theorem ni_dX6_placeByTurns_43 : decode cX6_placeByTurns 43 = .ok (.getfield 29, 3) := by decide +kernel
theorem ni_dX6_placeByTurns_46 : decode cX6_placeByTurns 46 = .ok (.aload_n 0, 1) := by decide +kernel
theorem ni_dX6_placeByTurns_47 : decode cX6_placeByTurns 47 = .ok (.getfield 48, 3) := by decide +kernel
theorem ni_dX6_placeByTurns_50 : decode cX6_placeByTurns 50 = .ok (.dup2, 1) := by decide +kernel
theorem ni_dX6_placeByTurns_51 : decode cX6_placeByTurns 51 = .ok (.iaload, 1) := by decide +kernel
theorem ni_dX6_placeByTurns_52 : decode cX6_placeByTurns 52 = .ok (.bipush 100, 2) := by decide +kernel
theorem ni_dX6_placeByTurns_54 : decode cX6_placeByTurns 54 = .ok (.aload_n 0, 1) := by decide +kernel
theorem ni_dX6_placeByTurns_55 : decode cX6_placeByTurns 55 = .ok (.getfield 25, 3) := by decide +kernel
theorem ni_dX6_placeByTurns_58 : decode cX6_placeByTurns 58 = .ok (.aload_n 0, 1) := by decide +kernel
theorem ni_dX6_placeByTurns_59 : decode cX6_placeByTurns 59 = .ok (.getfield 48, 3) := by decide +kernel
theorem ni_dX6_placeByTurns_62 : decode cX6_placeByTurns 62 = .ok (.iaload, 1) := by decide +kernel
theorem ni_dX6_placeByTurns_63 : decode cX6_placeByTurns 63 = .ok (.imul, 1) := by decide +kernel
theorem ni_dX6_placeByTurns_64 : decode cX6_placeByTurns 64 = .ok (.iadd, 1) := by decide +kernel
theorem ni_dX6_placeByTurns_65 : decode cX6_placeByTurns 65 = .ok (.iastore, 1) := by decide +kernel
theorem ni_dX6_placeByTurns_66 : decode cX6_placeByTurns 66 = .ok (.aload_n 0, 1) := by decide +kernel
theorem ni_dX6_placeByTurns_67 : decode cX6_placeByTurns 67 = .ok (.iconst 1, 1) := by decide +kernel
theorem ni_dX6_placeByTurns_68 : decode cX6_placeByTurns 68 = .ok (.putfield 51, 3) := by decide +kernel
theorem ni_dX6_placeByTurns_71 : decode cX6_placeByTurns 71 = .ok (.aload_n 0, 1) := by decide +kernel
theorem ni_dX6_placeByTurns_72 : decode cX6_placeByTurns 72 = .ok (.getfield 32, 3) := by decide +kernel
theorem ni_dX6_placeByTurns_75 : decode cX6_placeByTurns 75 = .ok (.iload_n 2, 1) := by decide +kernel
theorem ni_dX6_placeByTurns_76 : decode cX6_placeByTurns 76 = .ok (.iaload, 1) := by decide +kernel
theorem ni_dX6_placeByTurns_77 : decode cX6_placeByTurns 77 = .ok (.invokestatic 54, 3) := by decide +kernel
theorem ni_dX6_placeByTurns_80 : decode cX6_placeByTurns 80 = .ok (.istore_n 3, 1) := by decide +kernel
theorem ni_dX6_placeByTurns_81 : decode cX6_placeByTurns 81 = .ok (.aload_n 0, 1) := by decide +kernel
theorem ni_dX6_placeByTurns_82 : decode cX6_placeByTurns 82 = .ok (.getfield 29, 3) := by decide +kernel
theorem ni_dX6_placeByTurns_85 : decode cX6_placeByTurns 85 = .ok (.aload_n 0, 1) := by decide +kernel
theorem ni_dX6_placeByTurns_86 : decode cX6_placeByTurns 86 = .ok (.getfield 48, 3) := by decide +kernel
theorem ni_dX6_placeByTurns_89 : decode cX6_placeByTurns 89 = .ok (.iaload, 1) := by decide +kernel
theorem ni_dX6_placeByTurns_90 : decode cX6_placeByTurns 90 = .ok (.iload_n 3, 1) := by decide +kernel
theorem ni_dX6_placeByTurns_91 : decode cX6_placeByTurns 91 = .ok (.if_icmp .lt 18, 3) := by decide +kernel
theorem ni_dX6_placeByTurns_94 : decode cX6_placeByTurns 94 = .ok (.aload_n 0, 1) := by decide +kernel
theorem ni_dX6_placeByTurns_95 : decode cX6_placeByTurns 95 = .ok (.getfield 29, 3) := by decide +kernel
theorem ni_dX6_placeByTurns_98 : decode cX6_placeByTurns 98 = .ok (.aload_n 0, 1) := by decide +kernel
theorem ni_dX6_placeByTurns_99 : decode cX6_placeByTurns 99 = .ok (.getfield 48, 3) := by decide +kernel
theorem ni_dX6_placeByTurns_102 : decode cX6_placeByTurns 102 = .ok (.dup2, 1) := by decide +kernel
theorem ni_dX6_placeByTurns_103 : decode cX6_placeByTurns 103 = .ok (.iaload, 1) := by decide +kernel
theorem ni_dX6_placeByTurns_104 : decode cX6_placeByTurns 104 = .ok (.iload_n 3, 1) := by decide +kernel
theorem ni_dX6_placeByTurns_105 : decode cX6_placeByTurns 105 = .ok (.isub, 1) := by decide +kernel
theorem ni_dX6_placeByTurns_106 : decode cX6_placeByTurns 106 = .ok (.iastore, 1) := by decide +kernel
theorem ni_dX6_placeByTurns_107 : decode cX6_placeByTurns 107 = .ok (.iload_n 2, 1) := by decide +kernel
theorem ni_dX6_placeByTurns_108 : decode cX6_placeByTurns 108 = .ok (.ireturn, 1) := by decide +kernel
theorem ni_dX6_placeByTurns_109 : decode cX6_placeByTurns 109 = .ok (.aload_n 0, 1) := by decide +kernel
theorem ni_dX6_placeByTurns_110 : decode cX6_placeByTurns 110 = .ok (.aload_n 0, 1) := by decide +kernel
theorem ni_dX6_placeByTurns_111 : decode cX6_placeByTurns 111 = .ok (.getfield 48, 3) := by decide +kernel
theorem ni_dX6_placeByTurns_114 : decode cX6_placeByTurns 114 = .ok (.iconst 1, 1) := by decide +kernel
theorem ni_dX6_placeByTurns_115 : decode cX6_placeByTurns 115 = .ok (.iadd, 1) := by decide +kernel
theorem ni_dX6_placeByTurns_116 : decode cX6_placeByTurns 116 = .ok (.iconst 4, 1) := by decide +kernel
theorem ni_dX6_placeByTurns_117 : decode cX6_placeByTurns 117 = .ok (.irem, 1) := by decide +kernel
theorem ni_dX6_placeByTurns_118 : decode cX6_placeByTurns 118 = .ok (.putfield 48, 3) := by decide +kernel
theorem ni_dX6_placeByTurns_121 : decode cX6_placeByTurns 121 = .ok (.aload_n 0, 1) := by decide +kernel
theorem ni_dX6_placeByTurns_122 : decode cX6_placeByTurns 122 = .ok (.iconst 0, 1) := by decide +kernel
theorem ni_dX6_placeByTurns_123 : decode cX6_placeByTurns 123 = .ok (.putfield 51, 3) := by decide +kernel
theorem ni_dX6_placeByTurns_126 : decode cX6_placeByTurns 126 = .ok (.iinc 1 1, 3) := by decide +kernel
theorem ni_dX6_placeByTurns_129 : decode cX6_placeByTurns 129 = .ok (.goto (-127), 3) := by decide +kernel
theorem ni_dX6_placeByTurns_132 : decode cX6_placeByTurns 132 = .ok (.iconst (-1), 1) := by decide +kernel
theorem ni_dX6_placeByTurns_133 : decode cX6_placeByTurns 133 = .ok (.ireturn, 1) := by decide +kernel
theorem ni_dX6_send_0 : decode cX6_send 0 = .ok (.aload_n 0, 1) := by decide +kernel
theorem ni_dX6_send_1 : decode cX6_send 1 = .ok (.getfield 35, 3) := by decide +kernel
theorem ni_dX6_send_4 : decode cX6_send 4 = .ok (.iconst (-1), 1) := by decide +kernel
theorem ni_dX6_send_5 : decode cX6_send 5 = .ok (.if_icmp .ne 14, 3) := by decide +kernel
theorem ni_dX6_send_8 : decode cX6_send 8 = .ok (.aload_n 0, 1) := by decide +kernel
theorem ni_dX6_send_9 : decode cX6_send 9 = .ok (.getfield 63, 3) := by decide +kernel
theorem ni_dX6_send_12 : decode cX6_send 12 = .ok (.ifCond .le 7, 3) := by decide +kernel
theorem ni_dX6_send_15 : decode cX6_send 15 = .ok (.aload_n 0, 1) := by decide +kernel
theorem ni_dX6_send_16 : decode cX6_send 16 = .ok (.invokevirtual 66, 3) := by decide +kernel
theorem ni_dX6_send_19 : decode cX6_send 19 = .ok (.aload_n 0, 1) := by decide +kernel
theorem ni_dX6_send_20 : decode cX6_send 20 = .ok (.getfield 35, 3) := by decide +kernel
theorem ni_dX6_send_23 : decode cX6_send 23 = .ok (.iconst (-1), 1) := by decide +kernel
theorem ni_dX6_send_24 : decode cX6_send 24 = .ok (.if_icmp .ne 4, 3) := by decide +kernel
theorem ni_dX6_send_27 : decode cX6_send 27 = .ok (.return_, 1) := by decide +kernel
theorem ni_dX6_send_28 : decode cX6_send 28 = .ok (.aload_n 0, 1) := by decide +kernel
theorem ni_dX6_send_29 : decode cX6_send 29 = .ok (.dup, 1) := by decide +kernel
theorem ni_dX6_send_30 : decode cX6_send 30 = .ok (.getfield 69, 3) := by decide +kernel
theorem ni_dX6_send_33 : decode cX6_send 33 = .ok (.iload_n 1, 1) := by decide +kernel
theorem ni_dX6_send_34 : decode cX6_send 34 = .ok (.aload_n 0, 1) := by decide +kernel
theorem ni_dX6_send_35 : decode cX6_send 35 = .ok (.getfield 69, 3) := by decide +kernel
theorem ni_dX6_send_38 : decode cX6_send 38 = .ok (.invokestatic 72, 3) := by decide +kernel
theorem ni_dX6_send_41 : decode cX6_send 41 = .ok (.isub, 1) := by decide +kernel
theorem ni_dX6_send_42 : decode cX6_send 42 = .ok (.putfield 69, 3) := by decide +kernel
theorem ni_dX6_send_45 : decode cX6_send 45 = .ok (.aload_n 0, 1) := by decide +kernel
theorem ni_dX6_send_46 : decode cX6_send 46 = .ok (.getfield 69, 3) := by decide +kernel
theorem ni_dX6_send_49 : decode cX6_send 49 = .ok (.ifCond .ne 20, 3) := by decide +kernel
theorem ni_dX6_send_52 : decode cX6_send 52 = .ok (.aload_n 0, 1) := by decide +kernel
theorem ni_dX6_send_53 : decode cX6_send 53 = .ok (.getfield 12, 3) := by decide +kernel
theorem ni_dX6_send_56 : decode cX6_send 56 = .ok (.aload_n 0, 1) := by decide +kernel
theorem ni_dX6_send_57 : decode cX6_send 57 = .ok (.getfield 35, 3) := by decide +kernel
theorem ni_dX6_send_60 : decode cX6_send 60 = .ok (.iload_n 2, 1) := by decide +kernel
theorem ni_dX6_send_61 : decode cX6_send 61 = .ok (.invokevirtual 78, 3) := by decide +kernel
theorem ni_dX6_send_64 : decode cX6_send 64 = .ok (.aload_n 0, 1) := by decide +kernel
theorem ni_dX6_send_65 : decode cX6_send 65 = .ok (.iconst (-1), 1) := by decide +kernel
theorem ni_dX6_send_66 : decode cX6_send 66 = .ok (.putfield 35, 3) := by decide +kernel
theorem ni_dX6_send_69 : decode cX6_send 69 = .ok (.return_, 1) := by decide +kernel
theorem ni_dX6_takeNext_0 : decode cX6_takeNext 0 = .ok (.aload_n 0, 1) := by decide +kernel
theorem ni_dX6_takeNext_1 : decode cX6_takeNext 1 = .ok (.invokevirtual 82, 3) := by decide +kernel
theorem ni_dX6_takeNext_4 : decode cX6_takeNext 4 = .ok (.istore_n 1, 1) := by decide +kernel
theorem ni_dX6_takeNext_5 : decode cX6_takeNext 5 = .ok (.iload_n 1, 1) := by decide +kernel
theorem ni_dX6_takeNext_6 : decode cX6_takeNext 6 = .ok (.ifCond .lt 11, 3) := by decide +kernel
theorem ni_dX6_takeNext_9 : decode cX6_takeNext 9 = .ok (.iload_n 1, 1) := by decide +kernel
theorem ni_dX6_takeNext_10 : decode cX6_takeNext 10 = .ok (.aload_n 0, 1) := by decide +kernel
theorem ni_dX6_takeNext_11 : decode cX6_takeNext 11 = .ok (.getfield 63, 3) := by decide +kernel
theorem ni_dX6_takeNext_14 : decode cX6_takeNext 14 = .ok (.if_icmp .lt 4, 3) := by decide +kernel
theorem ni_dX6_takeNext_17 : decode cX6_takeNext 17 = .ok (.return_, 1) := by decide +kernel
theorem ni_dX6_takeNext_18 : decode cX6_takeNext 18 = .ok (.aload_n 0, 1) := by decide +kernel
theorem ni_dX6_takeNext_19 : decode cX6_takeNext 19 = .ok (.aload_n 0, 1) := by decide +kernel
theorem ni_dX6_takeNext_20 : decode cX6_takeNext 20 = .ok (.getfield 32, 3) := by decide +kernel
theorem ni_dX6_takeNext_23 : decode cX6_takeNext 23 = .ok (.iload_n 1, 1) := by decide +kernel
theorem ni_dX6_takeNext_24 : decode cX6_takeNext 24 = .ok (.iaload, 1) := by decide +kernel
theorem ni_dX6_takeNext_25 : decode cX6_takeNext 25 = .ok (.putfield 35, 3) := by decide +kernel
theorem ni_dX6_takeNext_28 : decode cX6_takeNext 28 = .ok (.aload_n 0, 1) := by decide +kernel
theorem ni_dX6_takeNext_29 : decode cX6_takeNext 29 = .ok (.aload_n 0, 1) := by decide +kernel
theorem ni_dX6_takeNext_30 : decode cX6_takeNext 30 = .ok (.getfield 35, 3) := by decide +kernel
theorem ni_dX6_takeNext_33 : decode cX6_takeNext 33 = .ok (.invokestatic 54, 3) := by decide +kernel
theorem ni_dX6_takeNext_36 : decode cX6_takeNext 36 = .ok (.putfield 69, 3) := by decide +kernel
theorem ni_dX6_takeNext_39 : decode cX6_takeNext 39 = .ok (.aload_n 0, 1) := by decide +kernel
theorem ni_dX6_takeNext_40 : decode cX6_takeNext 40 = .ok (.dup, 1) := by decide +kernel
theorem ni_dX6_takeNext_41 : decode cX6_takeNext 41 = .ok (.getfield 60, 3) := by decide +kernel
theorem ni_dX6_takeNext_44 : decode cX6_takeNext 44 = .ok (.aload_n 0, 1) := by decide +kernel
theorem ni_dX6_takeNext_45 : decode cX6_takeNext 45 = .ok (.getfield 69, 3) := by decide +kernel
theorem ni_dX6_takeNext_48 : decode cX6_takeNext 48 = .ok (.isub, 1) := by decide +kernel
theorem ni_dX6_takeNext_49 : decode cX6_takeNext 49 = .ok (.putfield 60, 3) := by decide +kernel
theorem ni_dX6_takeNext_52 : decode cX6_takeNext 52 = .ok (.iload_n 1, 1) := by decide +kernel
theorem ni_dX6_takeNext_53 : decode cX6_takeNext 53 = .ok (.iconst 1, 1) := by decide +kernel
theorem ni_dX6_takeNext_54 : decode cX6_takeNext 54 = .ok (.iadd, 1) := by decide +kernel
theorem ni_dX6_takeNext_55 : decode cX6_takeNext 55 = .ok (.istore_n 2, 1) := by decide +kernel
theorem ni_dX6_takeNext_56 : decode cX6_takeNext 56 = .ok (.iload_n 2, 1) := by decide +kernel
theorem ni_dX6_takeNext_57 : decode cX6_takeNext 57 = .ok (.aload_n 0, 1) := by decide +kernel
theorem ni_dX6_takeNext_58 : decode cX6_takeNext 58 = .ok (.getfield 63, 3) := by decide +kernel
theorem ni_dX6_takeNext_61 : decode cX6_takeNext 61 = .ok (.if_icmp .ge 23, 3) := by decide +kernel
theorem ni_dX6_takeNext_64 : decode cX6_takeNext 64 = .ok (.aload_n 0, 1) := by decide +kernel
theorem ni_dX6_takeNext_65 : decode cX6_takeNext 65 = .ok (.getfield 32, 3) := by decide +kernel
theorem ni_dX6_takeNext_68 : decode cX6_takeNext 68 = .ok (.iload_n 2, 1) := by decide +kernel
theorem ni_dX6_takeNext_69 : decode cX6_takeNext 69 = .ok (.iconst 1, 1) := by decide +kernel
theorem ni_dX6_takeNext_70 : decode cX6_takeNext 70 = .ok (.isub, 1) := by decide +kernel
theorem ni_dX6_takeNext_71 : decode cX6_takeNext 71 = .ok (.aload_n 0, 1) := by decide +kernel
theorem ni_dX6_takeNext_72 : decode cX6_takeNext 72 = .ok (.getfield 32, 3) := by decide +kernel
theorem ni_dX6_takeNext_75 : decode cX6_takeNext 75 = .ok (.iload_n 2, 1) := by decide +kernel
theorem ni_dX6_takeNext_76 : decode cX6_takeNext 76 = .ok (.iaload, 1) := by decide +kernel
theorem ni_dX6_takeNext_77 : decode cX6_takeNext 77 = .ok (.iastore, 1) := by decide +kernel
theorem ni_dX6_takeNext_78 : decode cX6_takeNext 78 = .ok (.iinc 2 1, 3) := by decide +kernel
theorem ni_dX6_takeNext_81 : decode cX6_takeNext 81 = .ok (.goto (-25), 3) := by decide +kernel
theorem ni_dX6_takeNext_84 : decode cX6_takeNext 84 = .ok (.aload_n 0, 1) := by decide +kernel
theorem ni_dX6_takeNext_85 : decode cX6_takeNext 85 = .ok (.dup, 1) := by decide +kernel
theorem ni_dX6_takeNext_86 : decode cX6_takeNext 86 = .ok (.getfield 63, 3) := by decide +kernel
theorem ni_dX6_takeNext_89 : decode cX6_takeNext 89 = .ok (.iconst 1, 1) := by decide +kernel
theorem ni_dX6_takeNext_90 : decode cX6_takeNext 90 = .ok (.isub, 1) := by decide +kernel
theorem ni_dX6_takeNext_91 : decode cX6_takeNext 91 = .ok (.putfield 63, 3) := by decide +kernel
theorem ni_dX6_takeNext_94 : decode cX6_takeNext 94 = .ok (.return_, 1) := by decide +kernel
theorem ni_dX7_addressOf_0 : decode cX7_addressOf 0 = .ok (.iload_n 0, 1) := by decide +kernel
theorem ni_dX7_addressOf_1 : decode cX7_addressOf 1 = .ok (.iconst 5, 1) := by decide +kernel
theorem ni_dX7_addressOf_2 : decode cX7_addressOf 2 = .ok (.ishr, 1) := by decide +kernel
theorem ni_dX7_addressOf_3 : decode cX7_addressOf 3 = .ok (.ireturn, 1) := by decide +kernel
theorem ni_dX7_commonLength_0 : decode cX7_commonLength 0 = .ok (.bipush 16, 2) := by decide +kernel
theorem ni_dX7_commonLength_2 : decode cX7_commonLength 2 = .ok (.istore_n 2, 1) := by decide +kernel
theorem ni_dX7_commonLength_3 : decode cX7_commonLength 3 = .ok (.iload_n 0, 1) := by decide +kernel
theorem ni_dX7_commonLength_4 : decode cX7_commonLength 4 = .ok (.iload_n 1, 1) := by decide +kernel
theorem ni_dX7_commonLength_5 : decode cX7_commonLength 5 = .ok (.ixor, 1) := by decide +kernel
theorem ni_dX7_commonLength_6 : decode cX7_commonLength 6 = .ok (.istore_n 3, 1) := by decide +kernel
theorem ni_dX7_commonLength_7 : decode cX7_commonLength 7 = .ok (.iload_n 3, 1) := by decide +kernel
theorem ni_dX7_commonLength_8 : decode cX7_commonLength 8 = .ok (.ifCond .eq 17, 3) := by decide +kernel
theorem ni_dX7_commonLength_11 : decode cX7_commonLength 11 = .ok (.iload_n 2, 1) := by decide +kernel
theorem ni_dX7_commonLength_12 : decode cX7_commonLength 12 = .ok (.ifCond .le 13, 3) := by decide +kernel
theorem ni_dX7_commonLength_15 : decode cX7_commonLength 15 = .ok (.iinc 2 (-1), 3) := by decide +kernel
theorem ni_dX7_commonLength_18 : decode cX7_commonLength 18 = .ok (.iload_n 3, 1) := by decide +kernel
theorem ni_dX7_commonLength_19 : decode cX7_commonLength 19 = .ok (.iconst 1, 1) := by decide +kernel
theorem ni_dX7_commonLength_20 : decode cX7_commonLength 20 = .ok (.ishr, 1) := by decide +kernel
theorem ni_dX7_commonLength_21 : decode cX7_commonLength 21 = .ok (.istore_n 3, 1) := by decide +kernel
theorem ni_dX7_commonLength_22 : decode cX7_commonLength 22 = .ok (.goto (-15), 3) := by decide +kernel
theorem ni_dX7_commonLength_25 : decode cX7_commonLength 25 = .ok (.iload_n 2, 1) := by decide +kernel
theorem ni_dX7_commonLength_26 : decode cX7_commonLength 26 = .ok (.ireturn, 1) := by decide +kernel
theorem ni_dX7_fits_0 : decode cX7_fits 0 = .ok (.iload_n 0, 1) := by decide +kernel
theorem ni_dX7_fits_1 : decode cX7_fits 1 = .ok (.invokestatic 9, 3) := by decide +kernel
theorem ni_dX7_fits_4 : decode cX7_fits 4 = .ok (.iload_n 1, 1) := by decide +kernel
theorem ni_dX7_fits_5 : decode cX7_fits 5 = .ok (.ixor, 1) := by decide +kernel
theorem ni_dX7_fits_6 : decode cX7_fits 6 = .ok (.bipush 16, 2) := by decide +kernel
theorem ni_dX7_fits_8 : decode cX7_fits 8 = .ok (.iload_n 0, 1) := by decide +kernel
theorem ni_dX7_fits_9 : decode cX7_fits 9 = .ok (.invokestatic 15, 3) := by decide +kernel
theorem ni_dX7_fits_12 : decode cX7_fits 12 = .ok (.isub, 1) := by decide +kernel
theorem ni_dX7_fits_13 : decode cX7_fits 13 = .ok (.ishr, 1) := by decide +kernel
theorem ni_dX7_fits_14 : decode cX7_fits 14 = .ok (.ifCond .ne 7, 3) := by decide +kernel
theorem ni_dX7_fits_17 : decode cX7_fits 17 = .ok (.iconst 1, 1) := by decide +kernel
theorem ni_dX7_fits_18 : decode cX7_fits 18 = .ok (.goto 4, 3) := by decide +kernel
theorem ni_dX7_fits_21 : decode cX7_fits 21 = .ok (.iconst 0, 1) := by decide +kernel
theorem ni_dX7_fits_22 : decode cX7_fits 22 = .ok (.ireturn, 1) := by decide +kernel
theorem ni_dX7_hasBit_0 : decode cX7_hasBit 0 = .ok (.iload_n 0, 1) := by decide +kernel
theorem ni_dX7_hasBit_1 : decode cX7_hasBit 1 = .ok (.bipush 15, 2) := by decide +kernel
theorem ni_dX7_hasBit_3 : decode cX7_hasBit 3 = .ok (.iload_n 1, 1) := by decide +kernel
theorem ni_dX7_hasBit_4 : decode cX7_hasBit 4 = .ok (.isub, 1) := by decide +kernel
theorem ni_dX7_hasBit_5 : decode cX7_hasBit 5 = .ok (.ishr, 1) := by decide +kernel
theorem ni_dX7_hasBit_6 : decode cX7_hasBit 6 = .ok (.iconst 1, 1) := by decide +kernel
theorem ni_dX7_hasBit_7 : decode cX7_hasBit 7 = .ok (.iand, 1) := by decide +kernel
theorem ni_dX7_hasBit_8 : decode cX7_hasBit 8 = .ok (.ifCond .eq 7, 3) := by decide +kernel
theorem ni_dX7_hasBit_11 : decode cX7_hasBit 11 = .ok (.iconst 1, 1) := by decide +kernel
theorem ni_dX7_hasBit_12 : decode cX7_hasBit 12 = .ok (.goto 4, 3) := by decide +kernel
theorem ni_dX7_hasBit_15 : decode cX7_hasBit 15 = .ok (.iconst 0, 1) := by decide +kernel
theorem ni_dX7_hasBit_16 : decode cX7_hasBit 16 = .ok (.ireturn, 1) := by decide +kernel
theorem ni_dX7_hasMore_0 : decode cX7_hasMore 0 = .ok (.iload_n 0, 1) := by decide +kernel
theorem ni_dX7_hasMore_1 : decode cX7_hasMore 1 = .ok (.iconst 1, 1) := by decide +kernel
theorem ni_dX7_hasMore_2 : decode cX7_hasMore 2 = .ok (.bipush 16, 2) := by decide +kernel
theorem ni_dX7_hasMore_4 : decode cX7_hasMore 4 = .ok (.iload_n 1, 1) := by decide +kernel
theorem ni_dX7_hasMore_5 : decode cX7_hasMore 5 = .ok (.isub, 1) := by decide +kernel
theorem ni_dX7_hasMore_6 : decode cX7_hasMore 6 = .ok (.ishl, 1) := by decide +kernel
theorem ni_dX7_hasMore_7 : decode cX7_hasMore 7 = .ok (.iconst 1, 1) := by decide +kernel
theorem ni_dX7_hasMore_8 : decode cX7_hasMore 8 = .ok (.isub, 1) := by decide +kernel
theorem ni_dX7_hasMore_9 : decode cX7_hasMore 9 = .ok (.iand, 1) := by decide +kernel
theorem ni_dX7_hasMore_10 : decode cX7_hasMore 10 = .ok (.ifCond .eq 7, 3) := by decide +kernel
theorem ni_dX7_hasMore_13 : decode cX7_hasMore 13 = .ok (.iconst 1, 1) := by decide +kernel
theorem ni_dX7_hasMore_14 : decode cX7_hasMore 14 = .ok (.goto 4, 3) := by decide +kernel
theorem ni_dX7_hasMore_17 : decode cX7_hasMore 17 = .ok (.iconst 0, 1) := by decide +kernel
theorem ni_dX7_hasMore_18 : decode cX7_hasMore 18 = .ok (.ireturn, 1) := by decide +kernel
theorem ni_dX7_lengthOf_0 : decode cX7_lengthOf 0 = .ok (.iload_n 0, 1) := by decide +kernel
theorem ni_dX7_lengthOf_1 : decode cX7_lengthOf 1 = .ok (.bipush 31, 2) := by decide +kernel
theorem ni_dX7_lengthOf_3 : decode cX7_lengthOf 3 = .ok (.iand, 1) := by decide +kernel
theorem ni_dX7_lengthOf_4 : decode cX7_lengthOf 4 = .ok (.ireturn, 1) := by decide +kernel
theorem ni_dX7_of_0 : decode cX7_of 0 = .ok (.iload_n 0, 1) := by decide +kernel
theorem ni_dX7_of_1 : decode cX7_of 1 = .ok (.bipush 32, 2) := by decide +kernel
theorem ni_dX7_of_3 : decode cX7_of 3 = .ok (.imul, 1) := by decide +kernel
theorem ni_dX7_of_4 : decode cX7_of 4 = .ok (.iload_n 1, 1) := by decide +kernel
theorem ni_dX7_of_5 : decode cX7_of 5 = .ok (.iadd, 1) := by decide +kernel
theorem ni_dX7_of_6 : decode cX7_of 6 = .ok (.ireturn, 1) := by decide +kernel
theorem ni_dX8_init_0 : decode cX8_init 0 = .ok (.aload_n 0, 1) := by decide +kernel
theorem ni_dX8_init_1 : decode cX8_init 1 = .ok (.invokespecial 3, 3) := by decide +kernel
theorem ni_dX8_init_4 : decode cX8_init 4 = .ok (.aload_n 0, 1) := by decide +kernel
theorem ni_dX8_init_5 : decode cX8_init 5 = .ok (.iload_n 1, 1) := by decide +kernel
theorem ni_dX8_init_6 : decode cX8_init 6 = .ok (.newarray .int, 2) := by decide +kernel
theorem ni_dX8_init_8 : decode cX8_init 8 = .ok (.putfield 9, 3) := by decide +kernel
theorem ni_dX8_init_11 : decode cX8_init 11 = .ok (.aload_n 0, 1) := by decide +kernel
theorem ni_dX8_init_12 : decode cX8_init 12 = .ok (.iload_n 1, 1) := by decide +kernel
theorem ni_dX8_init_13 : decode cX8_init 13 = .ok (.newarray .int, 2) := by decide +kernel
theorem ni_dX8_init_15 : decode cX8_init 15 = .ok (.putfield 15, 3) := by decide +kernel
theorem ni_dX8_init_18 : decode cX8_init 18 = .ok (.aload_n 0, 1) := by decide +kernel
theorem ni_dX8_init_19 : decode cX8_init 19 = .ok (.iload_n 1, 1) := by decide +kernel
theorem ni_dX8_init_20 : decode cX8_init 20 = .ok (.newarray .int, 2) := by decide +kernel
theorem ni_dX8_init_22 : decode cX8_init 22 = .ok (.putfield 18, 3) := by decide +kernel
theorem ni_dX8_init_25 : decode cX8_init 25 = .ok (.return_, 1) := by decide +kernel
theorem ni_dX8_add_0 : decode cX8_add 0 = .ok (.aload_n 0, 1) := by decide +kernel
theorem ni_dX8_add_1 : decode cX8_add 1 = .ok (.getfield 21, 3) := by decide +kernel
theorem ni_dX8_add_4 : decode cX8_add 4 = .ok (.aload_n 0, 1) := by decide +kernel
theorem ni_dX8_add_5 : decode cX8_add 5 = .ok (.getfield 9, 3) := by decide +kernel
theorem ni_dX8_add_8 : decode cX8_add 8 = .ok (.arraylength, 1) := by decide +kernel
theorem ni_dX8_add_9 : decode cX8_add 9 = .ok (.if_icmp .lt 5, 3) := by decide +kernel
theorem ni_dX8_add_12 : decode cX8_add 12 = .ok (.iconst (-1), 1) := by decide +kernel
theorem ni_dX8_add_13 : decode cX8_add 13 = .ok (.ireturn, 1) := by decide +kernel
theorem ni_dX8_add_14 : decode cX8_add 14 = .ok (.aload_n 0, 1) := by decide +kernel
theorem ni_dX8_add_15 : decode cX8_add 15 = .ok (.getfield 9, 3) := by decide +kernel
theorem ni_dX8_add_18 : decode cX8_add 18 = .ok (.aload_n 0, 1) := by decide +kernel
theorem ni_dX8_add_19 : decode cX8_add 19 = .ok (.getfield 21, 3) := by decide +kernel
theorem ni_dX8_add_22 : decode cX8_add 22 = .ok (.iload_n 1, 1) := by decide +kernel
theorem ni_dX8_add_23 : decode cX8_add 23 = .ok (.iastore, 1) := by decide +kernel
theorem ni_dX8_add_24 : decode cX8_add 24 = .ok (.aload_n 0, 1) := by decide +kernel
theorem ni_dX8_add_25 : decode cX8_add 25 = .ok (.getfield 15, 3) := by decide +kernel
theorem ni_dX8_add_28 : decode cX8_add 28 = .ok (.aload_n 0, 1) := by decide +kernel
theorem ni_dX8_add_29 : decode cX8_add 29 = .ok (.getfield 21, 3) := by decide +kernel
theorem ni_dX8_add_32 : decode cX8_add 32 = .ok (.iload_n 2, 1) := by decide +kernel
theorem ni_dX8_add_33 : decode cX8_add 33 = .ok (.iastore, 1) := by decide +kernel
theorem ni_dX8_add_34 : decode cX8_add 34 = .ok (.aload_n 0, 1) := by decide +kernel
theorem ni_dX8_add_35 : decode cX8_add 35 = .ok (.getfield 18, 3) := by decide +kernel
theorem ni_dX8_add_38 : decode cX8_add 38 = .ok (.aload_n 0, 1) := by decide +kernel
theorem ni_dX8_add_39 : decode cX8_add 39 = .ok (.getfield 21, 3) := by decide +kernel
theorem ni_dX8_add_42 : decode cX8_add 42 = .ok (.iload_n 3, 1) := by decide +kernel
theorem ni_dX8_add_43 : decode cX8_add 43 = .ok (.iastore, 1) := by decide +kernel
theorem ni_dX8_add_44 : decode cX8_add 44 = .ok (.aload_n 0, 1) := by decide +kernel
theorem ni_dX8_add_45 : decode cX8_add 45 = .ok (.dup, 1) := by decide +kernel
theorem ni_dX8_add_46 : decode cX8_add 46 = .ok (.getfield 21, 3) := by decide +kernel
theorem ni_dX8_add_49 : decode cX8_add 49 = .ok (.iconst 1, 1) := by decide +kernel
theorem ni_dX8_add_50 : decode cX8_add 50 = .ok (.iadd, 1) := by decide +kernel
theorem ni_dX8_add_51 : decode cX8_add 51 = .ok (.putfield 21, 3) := by decide +kernel
theorem ni_dX8_add_54 : decode cX8_add 54 = .ok (.aload_n 0, 1) := by decide +kernel
theorem ni_dX8_add_55 : decode cX8_add 55 = .ok (.getfield 21, 3) := by decide +kernel
theorem ni_dX8_add_58 : decode cX8_add 58 = .ok (.iconst 1, 1) := by decide +kernel
theorem ni_dX8_add_59 : decode cX8_add 59 = .ok (.isub, 1) := by decide +kernel
theorem ni_dX8_add_60 : decode cX8_add 60 = .ok (.ireturn, 1) := by decide +kernel
theorem ni_dX8_copyFrom_0 : decode cX8_copyFrom 0 = .ok (.aload_n 0, 1) := by decide +kernel
theorem ni_dX8_copyFrom_1 : decode cX8_copyFrom 1 = .ok (.aload_n 1, 1) := by decide +kernel
theorem ni_dX8_copyFrom_2 : decode cX8_copyFrom 2 = .ok (.getfield 21, 3) := by decide +kernel
theorem ni_dX8_copyFrom_5 : decode cX8_copyFrom 5 = .ok (.putfield 21, 3) := by decide +kernel
theorem ni_dX8_copyFrom_8 : decode cX8_copyFrom 8 = .ok (.aload_n 1, 1) := by decide +kernel
theorem ni_dX8_copyFrom_9 : decode cX8_copyFrom 9 = .ok (.getfield 9, 3) := by decide +kernel
theorem ni_dX8_copyFrom_12 : decode cX8_copyFrom 12 = .ok (.iconst 0, 1) := by decide +kernel
theorem ni_dX8_copyFrom_13 : decode cX8_copyFrom 13 = .ok (.aload_n 0, 1) := by decide +kernel
theorem ni_dX8_copyFrom_14 : decode cX8_copyFrom 14 = .ok (.getfield 9, 3) := by decide +kernel
theorem ni_dX8_copyFrom_17 : decode cX8_copyFrom 17 = .ok (.iconst 0, 1) := by decide +kernel
theorem ni_dX8_copyFrom_18 : decode cX8_copyFrom 18 = .ok (.aload_n 0, 1) := by decide +kernel
theorem ni_dX8_copyFrom_19 : decode cX8_copyFrom 19 = .ok (.getfield 21, 3) := by decide +kernel
theorem ni_dX8_copyFrom_22 : decode cX8_copyFrom 22 = .ok (.invokestatic 25, 3) := by decide +kernel
theorem ni_dX8_copyFrom_25 : decode cX8_copyFrom 25 = .ok (.aload_n 1, 1) := by decide +kernel
theorem ni_dX8_copyFrom_26 : decode cX8_copyFrom 26 = .ok (.getfield 15, 3) := by decide +kernel
theorem ni_dX8_copyFrom_29 : decode cX8_copyFrom 29 = .ok (.iconst 0, 1) := by decide +kernel
theorem ni_dX8_copyFrom_30 : decode cX8_copyFrom 30 = .ok (.aload_n 0, 1) := by decide +kernel
theorem ni_dX8_copyFrom_31 : decode cX8_copyFrom 31 = .ok (.getfield 15, 3) := by decide +kernel
theorem ni_dX8_copyFrom_34 : decode cX8_copyFrom 34 = .ok (.iconst 0, 1) := by decide +kernel
theorem ni_dX8_copyFrom_35 : decode cX8_copyFrom 35 = .ok (.aload_n 0, 1) := by decide +kernel
theorem ni_dX8_copyFrom_36 : decode cX8_copyFrom 36 = .ok (.getfield 21, 3) := by decide +kernel
theorem ni_dX8_copyFrom_39 : decode cX8_copyFrom 39 = .ok (.invokestatic 25, 3) := by decide +kernel
theorem ni_dX8_copyFrom_42 : decode cX8_copyFrom 42 = .ok (.aload_n 1, 1) := by decide +kernel
theorem ni_dX8_copyFrom_43 : decode cX8_copyFrom 43 = .ok (.getfield 18, 3) := by decide +kernel
theorem ni_dX8_copyFrom_46 : decode cX8_copyFrom 46 = .ok (.iconst 0, 1) := by decide +kernel
theorem ni_dX8_copyFrom_47 : decode cX8_copyFrom 47 = .ok (.aload_n 0, 1) := by decide +kernel
theorem ni_dX8_copyFrom_48 : decode cX8_copyFrom 48 = .ok (.getfield 18, 3) := by decide +kernel
theorem ni_dX8_copyFrom_51 : decode cX8_copyFrom 51 = .ok (.iconst 0, 1) := by decide +kernel
theorem ni_dX8_copyFrom_52 : decode cX8_copyFrom 52 = .ok (.aload_n 0, 1) := by decide +kernel
theorem ni_dX8_copyFrom_53 : decode cX8_copyFrom 53 = .ok (.getfield 21, 3) := by decide +kernel
theorem ni_dX8_copyFrom_56 : decode cX8_copyFrom 56 = .ok (.invokestatic 25, 3) := by decide +kernel
theorem ni_dX8_copyFrom_59 : decode cX8_copyFrom 59 = .ok (.return_, 1) := by decide +kernel
theorem ni_dX8_has_0 : decode cX8_has 0 = .ok (.iconst 0, 1) := by decide +kernel
theorem ni_dX8_has_1 : decode cX8_has 1 = .ok (.istore_n 3, 1) := by decide +kernel
theorem ni_dX8_has_2 : decode cX8_has 2 = .ok (.iload_n 3, 1) := by decide +kernel
theorem ni_dX8_has_3 : decode cX8_has 3 = .ok (.aload_n 0, 1) := by decide +kernel
theorem ni_dX8_has_4 : decode cX8_has 4 = .ok (.getfield 21, 3) := by decide +kernel
theorem ni_dX8_has_7 : decode cX8_has 7 = .ok (.if_icmp .ge 31, 3) := by decide +kernel
theorem ni_dX8_has_10 : decode cX8_has 10 = .ok (.aload_n 0, 1) := by decide +kernel
theorem ni_dX8_has_11 : decode cX8_has 11 = .ok (.getfield 9, 3) := by decide +kernel
theorem ni_dX8_has_14 : decode cX8_has 14 = .ok (.iload_n 3, 1) := by decide +kernel
theorem ni_dX8_has_15 : decode cX8_has 15 = .ok (.iaload, 1) := by decide +kernel
theorem ni_dX8_has_16 : decode cX8_has 16 = .ok (.iload_n 1, 1) := by decide +kernel
theorem ni_dX8_has_17 : decode cX8_has 17 = .ok (.if_icmp .ne 15, 3) := by decide +kernel
theorem ni_dX8_has_20 : decode cX8_has 20 = .ok (.aload_n 0, 1) := by decide +kernel
theorem ni_dX8_has_21 : decode cX8_has 21 = .ok (.getfield 15, 3) := by decide +kernel
theorem ni_dX8_has_24 : decode cX8_has 24 = .ok (.iload_n 3, 1) := by decide +kernel
theorem ni_dX8_has_25 : decode cX8_has 25 = .ok (.iaload, 1) := by decide +kernel
theorem ni_dX8_has_26 : decode cX8_has 26 = .ok (.iload_n 2, 1) := by decide +kernel
theorem ni_dX8_has_27 : decode cX8_has 27 = .ok (.if_icmp .ne 5, 3) := by decide +kernel
theorem ni_dX8_has_30 : decode cX8_has 30 = .ok (.iconst 1, 1) := by decide +kernel
theorem ni_dX8_has_31 : decode cX8_has 31 = .ok (.ireturn, 1) := by decide +kernel
theorem ni_dX8_has_32 : decode cX8_has 32 = .ok (.iinc 3 1, 3) := by decide +kernel
theorem ni_dX8_has_35 : decode cX8_has 35 = .ok (.goto (-33), 3) := by decide +kernel
theorem ni_dX8_has_38 : decode cX8_has 38 = .ok (.iconst 0, 1) := by decide +kernel
theorem ni_dX8_has_39 : decode cX8_has 39 = .ok (.ireturn, 1) := by decide +kernel
theorem ni_dX8_prefixesAt_0 : decode cX8_prefixesAt 0 = .ok (.iconst 0, 1) := by decide +kernel
theorem ni_dX8_prefixesAt_1 : decode cX8_prefixesAt 1 = .ok (.istore_n 2, 1) := by decide +kernel
theorem ni_dX8_prefixesAt_2 : decode cX8_prefixesAt 2 = .ok (.iconst 0, 1) := by decide +kernel
theorem ni_dX8_prefixesAt_3 : decode cX8_prefixesAt 3 = .ok (.istore_n 3, 1) := by decide +kernel
theorem ni_dX8_prefixesAt_4 : decode cX8_prefixesAt 4 = .ok (.iload_n 3, 1) := by decide +kernel
theorem ni_dX8_prefixesAt_5 : decode cX8_prefixesAt 5 = .ok (.aload_n 0, 1) := by decide +kernel
theorem ni_dX8_prefixesAt_6 : decode cX8_prefixesAt 6 = .ok (.getfield 21, 3) := by decide +kernel
theorem ni_dX8_prefixesAt_9 : decode cX8_prefixesAt 9 = .ok (.if_icmp .ge 27, 3) := by decide +kernel
theorem ni_dX8_prefixesAt_12 : decode cX8_prefixesAt 12 = .ok (.iload_n 2, 1) := by decide +kernel
theorem ni_dX8_prefixesAt_13 : decode cX8_prefixesAt 13 = .ok (.aload_n 0, 1) := by decide +kernel
theorem ni_dX8_prefixesAt_14 : decode cX8_prefixesAt 14 = .ok (.getfield 9, 3) := by decide +kernel
theorem ni_dX8_prefixesAt_17 : decode cX8_prefixesAt 17 = .ok (.iload_n 3, 1) := by decide +kernel
theorem ni_dX8_prefixesAt_18 : decode cX8_prefixesAt 18 = .ok (.iaload, 1) := by decide +kernel
theorem ni_dX8_prefixesAt_19 : decode cX8_prefixesAt 19 = .ok (.iload_n 1, 1) := by decide +kernel
theorem ni_dX8_prefixesAt_20 : decode cX8_prefixesAt 20 = .ok (.if_icmp .ne 7, 3) := by decide +kernel
theorem ni_dX8_prefixesAt_23 : decode cX8_prefixesAt 23 = .ok (.iconst 1, 1) := by decide +kernel
theorem ni_dX8_prefixesAt_24 : decode cX8_prefixesAt 24 = .ok (.goto 4, 3) := by decide +kernel
theorem ni_dX8_prefixesAt_27 : decode cX8_prefixesAt 27 = .ok (.iconst 0, 1) := by decide +kernel
theorem ni_dX8_prefixesAt_28 : decode cX8_prefixesAt 28 = .ok (.iadd, 1) := by decide +kernel
theorem ni_dX8_prefixesAt_29 : decode cX8_prefixesAt 29 = .ok (.istore_n 2, 1) := by decide +kernel
theorem ni_dX8_prefixesAt_30 : decode cX8_prefixesAt 30 = .ok (.iinc 3 1, 3) := by decide +kernel
theorem ni_dX8_prefixesAt_33 : decode cX8_prefixesAt 33 = .ok (.goto (-29), 3) := by decide +kernel
theorem ni_dX8_prefixesAt_36 : decode cX8_prefixesAt 36 = .ok (.iload_n 2, 1) := by decide +kernel
theorem ni_dX8_prefixesAt_37 : decode cX8_prefixesAt 37 = .ok (.newarray .int, 2) := by decide +kernel
theorem ni_dX8_prefixesAt_39 : decode cX8_prefixesAt 39 = .ok (.astore_n 3, 1) := by decide +kernel
theorem ni_dX8_prefixesAt_40 : decode cX8_prefixesAt 40 = .ok (.iconst 0, 1) := by decide +kernel
theorem ni_dX8_prefixesAt_41 : decode cX8_prefixesAt 41 = .ok (.istore 4, 2) := by decide +kernel
theorem ni_dX8_prefixesAt_43 : decode cX8_prefixesAt 43 = .ok (.iconst 0, 1) := by decide +kernel
theorem ni_dX8_prefixesAt_44 : decode cX8_prefixesAt 44 = .ok (.istore 5, 2) := by decide +kernel
theorem ni_dX8_prefixesAt_46 : decode cX8_prefixesAt 46 = .ok (.iload 5, 2) := by decide +kernel
theorem ni_dX8_prefixesAt_48 : decode cX8_prefixesAt 48 = .ok (.aload_n 0, 1) := by decide +kernel
theorem ni_dX8_prefixesAt_49 : decode cX8_prefixesAt 49 = .ok (.getfield 21, 3) := by decide +kernel
theorem ni_dX8_prefixesAt_52 : decode cX8_prefixesAt 52 = .ok (.if_icmp .ge 40, 3) := by decide +kernel
theorem ni_dX8_prefixesAt_55 : decode cX8_prefixesAt 55 = .ok (.iload 4, 2) := by decide +kernel
theorem ni_dX8_prefixesAt_57 : decode cX8_prefixesAt 57 = .ok (.iload_n 2, 1) := by decide +kernel
theorem ni_dX8_prefixesAt_58 : decode cX8_prefixesAt 58 = .ok (.if_icmp .ge 34, 3) := by decide +kernel
theorem ni_dX8_prefixesAt_61 : decode cX8_prefixesAt 61 = .ok (.aload_n 0, 1) := by decide +kernel
theorem ni_dX8_prefixesAt_62 : decode cX8_prefixesAt 62 = .ok (.getfield 9, 3) := by decide +kernel
theorem ni_dX8_prefixesAt_65 : decode cX8_prefixesAt 65 = .ok (.iload 5, 2) := by decide +kernel
theorem ni_dX8_prefixesAt_67 : decode cX8_prefixesAt 67 = .ok (.iaload, 1) := by decide +kernel
theorem ni_dX8_prefixesAt_68 : decode cX8_prefixesAt 68 = .ok (.iload_n 1, 1) := by decide +kernel
theorem ni_dX8_prefixesAt_69 : decode cX8_prefixesAt 69 = .ok (.if_icmp .ne 17, 3) := by decide +kernel
theorem ni_dX8_prefixesAt_72 : decode cX8_prefixesAt 72 = .ok (.aload_n 3, 1) := by decide +kernel
theorem ni_dX8_prefixesAt_73 : decode cX8_prefixesAt 73 = .ok (.iload 4, 2) := by decide +kernel
theorem ni_dX8_prefixesAt_75 : decode cX8_prefixesAt 75 = .ok (.aload_n 0, 1) := by decide +kernel
theorem ni_dX8_prefixesAt_76 : decode cX8_prefixesAt 76 = .ok (.getfield 15, 3) := by decide +kernel
theorem ni_dX8_prefixesAt_79 : decode cX8_prefixesAt 79 = .ok (.iload 5, 2) := by decide +kernel
theorem ni_dX8_prefixesAt_81 : decode cX8_prefixesAt 81 = .ok (.iaload, 1) := by decide +kernel
theorem ni_dX8_prefixesAt_82 : decode cX8_prefixesAt 82 = .ok (.iastore, 1) := by decide +kernel
theorem ni_dX8_prefixesAt_83 : decode cX8_prefixesAt 83 = .ok (.iinc 4 1, 3) := by decide +kernel
theorem ni_dX8_prefixesAt_86 : decode cX8_prefixesAt 86 = .ok (.iinc 5 1, 3) := by decide +kernel
theorem ni_dX8_prefixesAt_89 : decode cX8_prefixesAt 89 = .ok (.goto (-43), 3) := by decide +kernel
theorem ni_dX8_prefixesAt_92 : decode cX8_prefixesAt 92 = .ok (.aload_n 3, 1) := by decide +kernel
theorem ni_dX8_prefixesAt_93 : decode cX8_prefixesAt 93 = .ok (.areturn, 1) := by decide +kernel
theorem ni_dX9_init_0 : decode cX9_init 0 = .ok (.aload_n 0, 1) := by decide +kernel
theorem ni_dX9_init_1 : decode cX9_init 1 = .ok (.invokespecial 3, 3) := by decide +kernel
theorem ni_dX9_init_4 : decode cX9_init 4 = .ok (.aload_n 0, 1) := by decide +kernel
theorem ni_dX9_init_5 : decode cX9_init 5 = .ok (.bipush 8, 2) := by decide +kernel
theorem ni_dX9_init_7 : decode cX9_init 7 = .ok (.anewarray 9, 3) := by decide +kernel
theorem ni_dX9_init_10 : decode cX9_init 10 = .ok (.putfield 11, 3) := by decide +kernel
theorem ni_dX9_init_13 : decode cX9_init 13 = .ok (.aload_n 0, 1) := by decide +kernel
theorem ni_dX9_init_14 : decode cX9_init 14 = .ok (.bipush 8, 2) := by decide +kernel
theorem ni_dX9_init_16 : decode cX9_init 16 = .ok (.newarray .int, 2) := by decide +kernel
theorem ni_dX9_init_18 : decode cX9_init 18 = .ok (.putfield 17, 3) := by decide +kernel
theorem ni_dX9_init_21 : decode cX9_init 21 = .ok (.aload_n 0, 1) := by decide +kernel
theorem ni_dX9_init_22 : decode cX9_init 22 = .ok (.bipush 8, 2) := by decide +kernel
theorem ni_dX9_init_24 : decode cX9_init 24 = .ok (.newarray .int, 2) := by decide +kernel
theorem ni_dX9_init_26 : decode cX9_init 26 = .ok (.putfield 21, 3) := by decide +kernel
theorem ni_dX9_init_29 : decode cX9_init 29 = .ok (.aload_n 0, 1) := by decide +kernel
theorem ni_dX9_init_30 : decode cX9_init 30 = .ok (.new 24, 3) := by decide +kernel
theorem ni_dX9_init_33 : decode cX9_init 33 = .ok (.dup, 1) := by decide +kernel
theorem ni_dX9_init_34 : decode cX9_init 34 = .ok (.invokespecial 26, 3) := by decide +kernel
theorem ni_dX9_init_37 : decode cX9_init 37 = .ok (.putfield 27, 3) := by decide +kernel
theorem ni_dX9_init_40 : decode cX9_init 40 = .ok (.aload_n 0, 1) := by decide +kernel
theorem ni_dX9_init_41 : decode cX9_init 41 = .ok (.iconst 1, 1) := by decide +kernel
