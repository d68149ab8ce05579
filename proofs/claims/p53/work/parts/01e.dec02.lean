theorem ni_dX1_hasLink_12 : decode cX1_hasLink 12 = .ok (.goto 4, 3) := by decide +kernel
theorem ni_dX1_hasLink_15 : decode cX1_hasLink 15 = .ok (.iconst 0, 1) := by decide +kernel
theorem ni_dX1_hasLink_16 : decode cX1_hasLink 16 = .ok (.ireturn, 1) := by decide +kernel
theorem ni_dX2_init_0 : decode cX2_init 0 = .ok (.aload_n 0, 1) := by decide +kernel
theorem ni_dX2_init_1 : decode cX2_init 1 = .ok (.invokespecial 3, 3) := by decide +kernel
theorem ni_dX2_init_4 : decode cX2_init 4 = .ok (.aload_n 0, 1) := by decide +kernel
theorem ni_dX2_init_5 : decode cX2_init 5 = .ok (.bipush 8, 2) := by decide +kernel
theorem ni_dX2_init_7 : decode cX2_init 7 = .ok (.anewarray 9, 3) := by decide +kernel
theorem ni_dX2_init_10 : decode cX2_init 10 = .ok (.putfield 11, 3) := by decide +kernel
theorem ni_dX2_init_13 : decode cX2_init 13 = .ok (.aload_n 0, 1) := by decide +kernel
theorem ni_dX2_init_14 : decode cX2_init 14 = .ok (.bipush 8, 2) := by decide +kernel
theorem ni_dX2_init_16 : decode cX2_init 16 = .ok (.newarray .int, 2) := by decide +kernel
theorem ni_dX2_init_18 : decode cX2_init 18 = .ok (.putfield 17, 3) := by decide +kernel
theorem ni_dX2_init_21 : decode cX2_init 21 = .ok (.aload_n 0, 1) := by decide +kernel
theorem ni_dX2_init_22 : decode cX2_init 22 = .ok (.bipush 21, 2) := by decide +kernel
theorem ni_dX2_init_24 : decode cX2_init 24 = .ok (.newarray .int, 2) := by decide +kernel
theorem ni_dX2_init_26 : decode cX2_init 26 = .ok (.putfield 21, 3) := by decide +kernel
theorem ni_dX2_init_29 : decode cX2_init 29 = .ok (.iconst 0, 1) := by decide +kernel
theorem ni_dX2_init_30 : decode cX2_init 30 = .ok (.istore_n 1, 1) := by decide +kernel
theorem ni_dX2_init_31 : decode cX2_init 31 = .ok (.iload_n 1, 1) := by decide +kernel
theorem ni_dX2_init_32 : decode cX2_init 32 = .ok (.bipush 21, 2) := by decide +kernel
theorem ni_dX2_init_34 : decode cX2_init 34 = .ok (.if_icmp .ge 16, 3) := by decide +kernel
theorem ni_dX2_init_37 : decode cX2_init 37 = .ok (.aload_n 0, 1) := by decide +kernel
theorem ni_dX2_init_38 : decode cX2_init 38 = .ok (.getfield 21, 3) := by decide +kernel
theorem ni_dX2_init_41 : decode cX2_init 41 = .ok (.iload_n 1, 1) := by decide +kernel
theorem ni_dX2_init_42 : decode cX2_init 42 = .ok (.iconst (-1), 1) := by decide +kernel
theorem ni_dX2_init_43 : decode cX2_init 43 = .ok (.iastore, 1) := by decide +kernel
theorem ni_dX2_init_44 : decode cX2_init 44 = .ok (.iinc 1 1, 3) := by decide +kernel
theorem ni_dX2_init_47 : decode cX2_init 47 = .ok (.goto (-16), 3) := by decide +kernel
theorem ni_dX2_init_50 : decode cX2_init 50 = .ok (.return_, 1) := by decide +kernel
theorem ni_dX2_copyFrom_0 : decode cX2_copyFrom 0 = .ok (.aload_n 0, 1) := by decide +kernel
theorem ni_dX2_copyFrom_1 : decode cX2_copyFrom 1 = .ok (.iconst 0, 1) := by decide +kernel
theorem ni_dX2_copyFrom_2 : decode cX2_copyFrom 2 = .ok (.putfield 24, 3) := by decide +kernel
theorem ni_dX2_copyFrom_5 : decode cX2_copyFrom 5 = .ok (.aload_n 0, 1) := by decide +kernel
theorem ni_dX2_copyFrom_6 : decode cX2_copyFrom 6 = .ok (.getfield 11, 3) := by decide +kernel
theorem ni_dX2_copyFrom_9 : decode cX2_copyFrom 9 = .ok (.arraylength, 1) := by decide +kernel
theorem ni_dX2_copyFrom_10 : decode cX2_copyFrom 10 = .ok (.aload_n 1, 1) := by decide +kernel
theorem ni_dX2_copyFrom_11 : decode cX2_copyFrom 11 = .ok (.getfield 24, 3) := by decide +kernel
theorem ni_dX2_copyFrom_14 : decode cX2_copyFrom 14 = .ok (.if_icmp .ge 12, 3) := by decide +kernel
theorem ni_dX2_copyFrom_17 : decode cX2_copyFrom 17 = .ok (.aload_n 0, 1) := by decide +kernel
theorem ni_dX2_copyFrom_18 : decode cX2_copyFrom 18 = .ok (.aload_n 1, 1) := by decide +kernel
theorem ni_dX2_copyFrom_19 : decode cX2_copyFrom 19 = .ok (.getfield 11, 3) := by decide +kernel
theorem ni_dX2_copyFrom_22 : decode cX2_copyFrom 22 = .ok (.arraylength, 1) := by decide +kernel
theorem ni_dX2_copyFrom_23 : decode cX2_copyFrom 23 = .ok (.invokevirtual 28, 3) := by decide +kernel
theorem ni_dX2_copyFrom_26 : decode cX2_copyFrom 26 = .ok (.iconst 0, 1) := by decide +kernel
theorem ni_dX2_copyFrom_27 : decode cX2_copyFrom 27 = .ok (.istore_n 2, 1) := by decide +kernel
theorem ni_dX2_copyFrom_28 : decode cX2_copyFrom 28 = .ok (.iload_n 2, 1) := by decide +kernel
theorem ni_dX2_copyFrom_29 : decode cX2_copyFrom 29 = .ok (.aload_n 1, 1) := by decide +kernel
theorem ni_dX2_copyFrom_30 : decode cX2_copyFrom 30 = .ok (.getfield 24, 3) := by decide +kernel
theorem ni_dX2_copyFrom_33 : decode cX2_copyFrom 33 = .ok (.if_icmp .ge 33, 3) := by decide +kernel
theorem ni_dX2_copyFrom_36 : decode cX2_copyFrom 36 = .ok (.aload_n 0, 1) := by decide +kernel
theorem ni_dX2_copyFrom_37 : decode cX2_copyFrom 37 = .ok (.getfield 11, 3) := by decide +kernel
theorem ni_dX2_copyFrom_40 : decode cX2_copyFrom 40 = .ok (.iload_n 2, 1) := by decide +kernel
theorem ni_dX2_copyFrom_41 : decode cX2_copyFrom 41 = .ok (.aload_n 1, 1) := by decide +kernel
theorem ni_dX2_copyFrom_42 : decode cX2_copyFrom 42 = .ok (.getfield 11, 3) := by decide +kernel
theorem ni_dX2_copyFrom_45 : decode cX2_copyFrom 45 = .ok (.iload_n 2, 1) := by decide +kernel
theorem ni_dX2_copyFrom_46 : decode cX2_copyFrom 46 = .ok (.aaload, 1) := by decide +kernel
theorem ni_dX2_copyFrom_47 : decode cX2_copyFrom 47 = .ok (.aastore, 1) := by decide +kernel
theorem ni_dX2_copyFrom_48 : decode cX2_copyFrom 48 = .ok (.aload_n 0, 1) := by decide +kernel
theorem ni_dX2_copyFrom_49 : decode cX2_copyFrom 49 = .ok (.getfield 17, 3) := by decide +kernel
theorem ni_dX2_copyFrom_52 : decode cX2_copyFrom 52 = .ok (.iload_n 2, 1) := by decide +kernel
theorem ni_dX2_copyFrom_53 : decode cX2_copyFrom 53 = .ok (.aload_n 1, 1) := by decide +kernel
theorem ni_dX2_copyFrom_54 : decode cX2_copyFrom 54 = .ok (.getfield 17, 3) := by decide +kernel
theorem ni_dX2_copyFrom_57 : decode cX2_copyFrom 57 = .ok (.iload_n 2, 1) := by decide +kernel
theorem ni_dX2_copyFrom_58 : decode cX2_copyFrom 58 = .ok (.iaload, 1) := by decide +kernel
theorem ni_dX2_copyFrom_59 : decode cX2_copyFrom 59 = .ok (.iastore, 1) := by decide +kernel
theorem ni_dX2_copyFrom_60 : decode cX2_copyFrom 60 = .ok (.iinc 2 1, 3) := by decide +kernel
theorem ni_dX2_copyFrom_63 : decode cX2_copyFrom 63 = .ok (.goto (-35), 3) := by decide +kernel
theorem ni_dX2_copyFrom_66 : decode cX2_copyFrom 66 = .ok (.aload_n 0, 1) := by decide +kernel
theorem ni_dX2_copyFrom_67 : decode cX2_copyFrom 67 = .ok (.aload_n 1, 1) := by decide +kernel
theorem ni_dX2_copyFrom_68 : decode cX2_copyFrom 68 = .ok (.getfield 24, 3) := by decide +kernel
theorem ni_dX2_copyFrom_71 : decode cX2_copyFrom 71 = .ok (.putfield 24, 3) := by decide +kernel
theorem ni_dX2_copyFrom_74 : decode cX2_copyFrom 74 = .ok (.aload_n 1, 1) := by decide +kernel
theorem ni_dX2_copyFrom_75 : decode cX2_copyFrom 75 = .ok (.getfield 21, 3) := by decide +kernel
theorem ni_dX2_copyFrom_78 : decode cX2_copyFrom 78 = .ok (.iconst 0, 1) := by decide +kernel
theorem ni_dX2_copyFrom_79 : decode cX2_copyFrom 79 = .ok (.aload_n 0, 1) := by decide +kernel
theorem ni_dX2_copyFrom_80 : decode cX2_copyFrom 80 = .ok (.getfield 21, 3) := by decide +kernel
theorem ni_dX2_copyFrom_83 : decode cX2_copyFrom 83 = .ok (.iconst 0, 1) := by decide +kernel
theorem ni_dX2_copyFrom_84 : decode cX2_copyFrom 84 = .ok (.bipush 21, 2) := by decide +kernel
theorem ni_dX2_copyFrom_86 : decode cX2_copyFrom 86 = .ok (.invokestatic 41, 3) := by decide +kernel
theorem ni_dX2_copyFrom_89 : decode cX2_copyFrom 89 = .ok (.aload_n 0, 1) := by decide +kernel
theorem ni_dX2_copyFrom_90 : decode cX2_copyFrom 90 = .ok (.aload_n 1, 1) := by decide +kernel
theorem ni_dX2_copyFrom_91 : decode cX2_copyFrom 91 = .ok (.getfield 38, 3) := by decide +kernel
theorem ni_dX2_copyFrom_94 : decode cX2_copyFrom 94 = .ok (.putfield 38, 3) := by decide +kernel
theorem ni_dX2_copyFrom_97 : decode cX2_copyFrom 97 = .ok (.return_, 1) := by decide +kernel
theorem ni_dX2_lettersDue_0 : decode cX2_lettersDue 0 = .ok (.iconst 0, 1) := by decide +kernel
theorem ni_dX2_lettersDue_1 : decode cX2_lettersDue 1 = .ok (.istore_n 2, 1) := by decide +kernel
theorem ni_dX2_lettersDue_2 : decode cX2_lettersDue 2 = .ok (.iload_n 2, 1) := by decide +kernel
theorem ni_dX2_lettersDue_3 : decode cX2_lettersDue 3 = .ok (.aload_n 0, 1) := by decide +kernel
theorem ni_dX2_lettersDue_4 : decode cX2_lettersDue 4 = .ok (.getfield 24, 3) := by decide +kernel
theorem ni_dX2_lettersDue_7 : decode cX2_lettersDue 7 = .ok (.if_icmp .ge 19, 3) := by decide +kernel
theorem ni_dX2_lettersDue_10 : decode cX2_lettersDue 10 = .ok (.aload_n 0, 1) := by decide +kernel
theorem ni_dX2_lettersDue_11 : decode cX2_lettersDue 11 = .ok (.getfield 17, 3) := by decide +kernel
theorem ni_dX2_lettersDue_14 : decode cX2_lettersDue 14 = .ok (.iload_n 2, 1) := by decide +kernel
theorem ni_dX2_lettersDue_15 : decode cX2_lettersDue 15 = .ok (.iaload, 1) := by decide +kernel
theorem ni_dX2_lettersDue_16 : decode cX2_lettersDue 16 = .ok (.iload_n 1, 1) := by decide +kernel
theorem ni_dX2_lettersDue_17 : decode cX2_lettersDue 17 = .ok (.if_icmp .gt 9, 3) := by decide +kernel
theorem ni_dX2_lettersDue_20 : decode cX2_lettersDue 20 = .ok (.iinc 2 1, 3) := by decide +kernel
theorem ni_dX2_lettersDue_23 : decode cX2_lettersDue 23 = .ok (.goto (-21), 3) := by decide +kernel
theorem ni_dX2_lettersDue_26 : decode cX2_lettersDue 26 = .ok (.iload_n 2, 1) := by decide +kernel
theorem ni_dX2_lettersDue_27 : decode cX2_lettersDue 27 = .ok (.ireturn, 1) := by decide +kernel
theorem ni_dX2_makeRoom_0 : decode cX2_makeRoom 0 = .ok (.iload_n 1, 1) := by decide +kernel
theorem ni_dX2_makeRoom_1 : decode cX2_makeRoom 1 = .ok (.anewarray 9, 3) := by decide +kernel
theorem ni_dX2_makeRoom_4 : decode cX2_makeRoom 4 = .ok (.astore_n 2, 1) := by decide +kernel
theorem ni_dX2_makeRoom_5 : decode cX2_makeRoom 5 = .ok (.iload_n 1, 1) := by decide +kernel
theorem ni_dX2_makeRoom_6 : decode cX2_makeRoom 6 = .ok (.newarray .int, 2) := by decide +kernel
theorem ni_dX2_makeRoom_8 : decode cX2_makeRoom 8 = .ok (.astore_n 3, 1) := by decide +kernel
theorem ni_dX2_makeRoom_9 : decode cX2_makeRoom 9 = .ok (.iconst 0, 1) := by decide +kernel
theorem ni_dX2_makeRoom_10 : decode cX2_makeRoom 10 = .ok (.istore 4, 2) := by decide +kernel
theorem ni_dX2_makeRoom_12 : decode cX2_makeRoom 12 = .ok (.iload 4, 2) := by decide +kernel
theorem ni_dX2_makeRoom_14 : decode cX2_makeRoom 14 = .ok (.aload_n 0, 1) := by decide +kernel
theorem ni_dX2_makeRoom_15 : decode cX2_makeRoom 15 = .ok (.getfield 24, 3) := by decide +kernel
theorem ni_dX2_makeRoom_18 : decode cX2_makeRoom 18 = .ok (.if_icmp .ge 31, 3) := by decide +kernel
theorem ni_dX2_makeRoom_21 : decode cX2_makeRoom 21 = .ok (.aload_n 2, 1) := by decide +kernel
theorem ni_dX2_makeRoom_22 : decode cX2_makeRoom 22 = .ok (.iload 4, 2) := by decide +kernel
theorem ni_dX2_makeRoom_24 : decode cX2_makeRoom 24 = .ok (.aload_n 0, 1) := by decide +kernel
theorem ni_dX2_makeRoom_25 : decode cX2_makeRoom 25 = .ok (.getfield 11, 3) := by decide +kernel
theorem ni_dX2_makeRoom_28 : decode cX2_makeRoom 28 = .ok (.iload 4, 2) := by decide +kernel
theorem ni_dX2_makeRoom_30 : decode cX2_makeRoom 30 = .ok (.aaload, 1) := by decide +kernel
theorem ni_dX2_makeRoom_31 : decode cX2_makeRoom 31 = .ok (.aastore, 1) := by decide +kernel
theorem ni_dX2_makeRoom_32 : decode cX2_makeRoom 32 = .ok (.aload_n 3, 1) := by decide +kernel
theorem ni_dX2_makeRoom_33 : decode cX2_makeRoom 33 = .ok (.iload 4, 2) := by decide +kernel
theorem ni_dX2_makeRoom_35 : decode cX2_makeRoom 35 = .ok (.aload_n 0, 1) := by decide +kernel
theorem ni_dX2_makeRoom_36 : decode cX2_makeRoom 36 = .ok (.getfield 17, 3) := by decide +kernel
theorem ni_dX2_makeRoom_39 : decode cX2_makeRoom 39 = .ok (.iload 4, 2) := by decide +kernel
theorem ni_dX2_makeRoom_41 : decode cX2_makeRoom 41 = .ok (.iaload, 1) := by decide +kernel
theorem ni_dX2_makeRoom_42 : decode cX2_makeRoom 42 = .ok (.iastore, 1) := by decide +kernel
theorem ni_dX2_makeRoom_43 : decode cX2_makeRoom 43 = .ok (.iinc 4 1, 3) := by decide +kernel
theorem ni_dX2_makeRoom_46 : decode cX2_makeRoom 46 = .ok (.goto (-34), 3) := by decide +kernel
theorem ni_dX2_makeRoom_49 : decode cX2_makeRoom 49 = .ok (.aload_n 0, 1) := by decide +kernel
theorem ni_dX2_makeRoom_50 : decode cX2_makeRoom 50 = .ok (.aload_n 2, 1) := by decide +kernel
theorem ni_dX2_makeRoom_51 : decode cX2_makeRoom 51 = .ok (.putfield 11, 3) := by decide +kernel
theorem ni_dX2_makeRoom_54 : decode cX2_makeRoom 54 = .ok (.aload_n 0, 1) := by decide +kernel
theorem ni_dX2_makeRoom_55 : decode cX2_makeRoom 55 = .ok (.aload_n 3, 1) := by decide +kernel
theorem ni_dX2_makeRoom_56 : decode cX2_makeRoom 56 = .ok (.putfield 17, 3) := by decide +kernel
theorem ni_dX2_makeRoom_59 : decode cX2_makeRoom 59 = .ok (.return_, 1) := by decide +kernel
theorem ni_dX2_putLetter_0 : decode cX2_putLetter 0 = .ok (.aload_n 0, 1) := by decide +kernel
theorem ni_dX2_putLetter_1 : decode cX2_putLetter 1 = .ok (.getfield 24, 3) := by decide +kernel
theorem ni_dX2_putLetter_4 : decode cX2_putLetter 4 = .ok (.sipush 2048, 3) := by decide +kernel
theorem ni_dX2_putLetter_7 : decode cX2_putLetter 7 = .ok (.if_icmp .lt 4, 3) := by decide +kernel
theorem ni_dX2_putLetter_10 : decode cX2_putLetter 10 = .ok (.return_, 1) := by decide +kernel
theorem ni_dX2_putLetter_11 : decode cX2_putLetter 11 = .ok (.aload_n 0, 1) := by decide +kernel
theorem ni_dX2_putLetter_12 : decode cX2_putLetter 12 = .ok (.getfield 24, 3) := by decide +kernel
theorem ni_dX2_putLetter_15 : decode cX2_putLetter 15 = .ok (.aload_n 0, 1) := by decide +kernel
theorem ni_dX2_putLetter_16 : decode cX2_putLetter 16 = .ok (.getfield 11, 3) := by decide +kernel
theorem ni_dX2_putLetter_19 : decode cX2_putLetter 19 = .ok (.arraylength, 1) := by decide +kernel
theorem ni_dX2_putLetter_20 : decode cX2_putLetter 20 = .ok (.if_icmp .lt 13, 3) := by decide +kernel
theorem ni_dX2_putLetter_23 : decode cX2_putLetter 23 = .ok (.aload_n 0, 1) := by decide +kernel
theorem ni_dX2_putLetter_24 : decode cX2_putLetter 24 = .ok (.aload_n 0, 1) := by decide +kernel
theorem ni_dX2_putLetter_25 : decode cX2_putLetter 25 = .ok (.getfield 24, 3) := by decide +kernel
theorem ni_dX2_putLetter_28 : decode cX2_putLetter 28 = .ok (.iconst 2, 1) := by decide +kernel
theorem ni_dX2_putLetter_29 : decode cX2_putLetter 29 = .ok (.imul, 1) := by decide +kernel
theorem ni_dX2_putLetter_30 : decode cX2_putLetter 30 = .ok (.invokevirtual 28, 3) := by decide +kernel
theorem ni_dX2_putLetter_33 : decode cX2_putLetter 33 = .ok (.aload_n 0, 1) := by decide +kernel
theorem ni_dX2_putLetter_34 : decode cX2_putLetter 34 = .ok (.getfield 11, 3) := by decide +kernel
theorem ni_dX2_putLetter_37 : decode cX2_putLetter 37 = .ok (.aload_n 0, 1) := by decide +kernel
theorem ni_dX2_putLetter_38 : decode cX2_putLetter 38 = .ok (.getfield 24, 3) := by decide +kernel
theorem ni_dX2_putLetter_41 : decode cX2_putLetter 41 = .ok (.aload_n 1, 1) := by decide +kernel
theorem ni_dX2_putLetter_42 : decode cX2_putLetter 42 = .ok (.aastore, 1) := by decide +kernel
theorem ni_dX2_putLetter_43 : decode cX2_putLetter 43 = .ok (.aload_n 0, 1) := by decide +kernel
theorem ni_dX2_putLetter_44 : decode cX2_putLetter 44 = .ok (.getfield 17, 3) := by decide +kernel
theorem ni_dX2_putLetter_47 : decode cX2_putLetter 47 = .ok (.aload_n 0, 1) := by decide +kernel
theorem ni_dX2_putLetter_48 : decode cX2_putLetter 48 = .ok (.getfield 24, 3) := by decide +kernel
theorem ni_dX2_putLetter_51 : decode cX2_putLetter 51 = .ok (.iload_n 2, 1) := by decide +kernel
theorem ni_dX2_putLetter_52 : decode cX2_putLetter 52 = .ok (.iastore, 1) := by decide +kernel
theorem ni_dX2_putLetter_53 : decode cX2_putLetter 53 = .ok (.aload_n 0, 1) := by decide +kernel
theorem ni_dX2_putLetter_54 : decode cX2_putLetter 54 = .ok (.dup, 1) := by decide +kernel
theorem ni_dX2_putLetter_55 : decode cX2_putLetter 55 = .ok (.getfield 24, 3) := by decide +kernel
theorem ni_dX2_putLetter_58 : decode cX2_putLetter 58 = .ok (.iconst 1, 1) := by decide +kernel
theorem ni_dX2_putLetter_59 : decode cX2_putLetter 59 = .ok (.iadd, 1) := by decide +kernel
theorem ni_dX2_putLetter_60 : decode cX2_putLetter 60 = .ok (.putfield 24, 3) := by decide +kernel
theorem ni_dX2_putLetter_63 : decode cX2_putLetter 63 = .ok (.return_, 1) := by decide +kernel
theorem ni_dX2_putPacket_0 : decode cX2_putPacket 0 = .ok (.aload_n 0, 1) := by decide +kernel
theorem ni_dX2_putPacket_1 : decode cX2_putPacket 1 = .ok (.getfield 21, 3) := by decide +kernel
theorem ni_dX2_putPacket_4 : decode cX2_putPacket 4 = .ok (.iload_n 2, 1) := by decide +kernel
theorem ni_dX2_putPacket_5 : decode cX2_putPacket 5 = .ok (.bipush 21, 2) := by decide +kernel
theorem ni_dX2_putPacket_7 : decode cX2_putPacket 7 = .ok (.invokestatic 32, 3) := by decide +kernel
theorem ni_dX2_putPacket_10 : decode cX2_putPacket 10 = .ok (.iload_n 1, 1) := by decide +kernel
theorem ni_dX2_putPacket_11 : decode cX2_putPacket 11 = .ok (.iastore, 1) := by decide +kernel
theorem ni_dX2_putPacket_12 : decode cX2_putPacket 12 = .ok (.aload_n 0, 1) := by decide +kernel
theorem ni_dX2_putPacket_13 : decode cX2_putPacket 13 = .ok (.dup, 1) := by decide +kernel
theorem ni_dX2_putPacket_14 : decode cX2_putPacket 14 = .ok (.getfield 38, 3) := by decide +kernel
theorem ni_dX2_putPacket_17 : decode cX2_putPacket 17 = .ok (.iconst 1, 1) := by decide +kernel
theorem ni_dX2_putPacket_18 : decode cX2_putPacket 18 = .ok (.iadd, 1) := by decide +kernel
theorem ni_dX2_putPacket_19 : decode cX2_putPacket 19 = .ok (.putfield 38, 3) := by decide +kernel
theorem ni_dX2_putPacket_22 : decode cX2_putPacket 22 = .ok (.return_, 1) := by decide +kernel
theorem ni_dX2_removeLetters_0 : decode cX2_removeLetters 0 = .ok (.iload_n 1, 1) := by decide +kernel
theorem ni_dX2_removeLetters_1 : decode cX2_removeLetters 1 = .ok (.istore_n 2, 1) := by decide +kernel
theorem ni_dX2_removeLetters_2 : decode cX2_removeLetters 2 = .ok (.iload_n 2, 1) := by decide +kernel
theorem ni_dX2_removeLetters_3 : decode cX2_removeLetters 3 = .ok (.aload_n 0, 1) := by decide +kernel
theorem ni_dX2_removeLetters_4 : decode cX2_removeLetters 4 = .ok (.getfield 24, 3) := by decide +kernel
theorem ni_dX2_removeLetters_7 : decode cX2_removeLetters 7 = .ok (.if_icmp .ge 37, 3) := by decide +kernel
theorem ni_dX2_removeLetters_10 : decode cX2_removeLetters 10 = .ok (.aload_n 0, 1) := by decide +kernel
theorem ni_dX2_removeLetters_11 : decode cX2_removeLetters 11 = .ok (.getfield 11, 3) := by decide +kernel
theorem ni_dX2_removeLetters_14 : decode cX2_removeLetters 14 = .ok (.iload_n 2, 1) := by decide +kernel
theorem ni_dX2_removeLetters_15 : decode cX2_removeLetters 15 = .ok (.iload_n 1, 1) := by decide +kernel
theorem ni_dX2_removeLetters_16 : decode cX2_removeLetters 16 = .ok (.isub, 1) := by decide +kernel
theorem ni_dX2_removeLetters_17 : decode cX2_removeLetters 17 = .ok (.aload_n 0, 1) := by decide +kernel
theorem ni_dX2_removeLetters_18 : decode cX2_removeLetters 18 = .ok (.getfield 11, 3) := by decide +kernel
theorem ni_dX2_removeLetters_21 : decode cX2_removeLetters 21 = .ok (.iload_n 2, 1) := by decide +kernel
theorem ni_dX2_removeLetters_22 : decode cX2_removeLetters 22 = .ok (.aaload, 1) := by decide +kernel
theorem ni_dX2_removeLetters_23 : decode cX2_removeLetters 23 = .ok (.aastore, 1) := by decide +kernel
theorem ni_dX2_removeLetters_24 : decode cX2_removeLetters 24 = .ok (.aload_n 0, 1) := by decide +kernel
theorem ni_dX2_removeLetters_25 : decode cX2_removeLetters 25 = .ok (.getfield 17, 3) := by decide +kernel
theorem ni_dX2_removeLetters_28 : decode cX2_removeLetters 28 = .ok (.iload_n 2, 1) := by decide +kernel
theorem ni_dX2_removeLetters_29 : decode cX2_removeLetters 29 = .ok (.iload_n 1, 1) := by decide +kernel
theorem ni_dX2_removeLetters_30 : decode cX2_removeLetters 30 = .ok (.isub, 1) := by decide +kernel
theorem ni_dX2_removeLetters_31 : decode cX2_removeLetters 31 = .ok (.aload_n 0, 1) := by decide +kernel
theorem ni_dX2_removeLetters_32 : decode cX2_removeLetters 32 = .ok (.getfield 17, 3) := by decide +kernel
theorem ni_dX2_removeLetters_35 : decode cX2_removeLetters 35 = .ok (.iload_n 2, 1) := by decide +kernel
theorem ni_dX2_removeLetters_36 : decode cX2_removeLetters 36 = .ok (.iaload, 1) := by decide +kernel
theorem ni_dX2_removeLetters_37 : decode cX2_removeLetters 37 = .ok (.iastore, 1) := by decide +kernel
theorem ni_dX2_removeLetters_38 : decode cX2_removeLetters 38 = .ok (.iinc 2 1, 3) := by decide +kernel
theorem ni_dX2_removeLetters_41 : decode cX2_removeLetters 41 = .ok (.goto (-39), 3) := by decide +kernel
theorem ni_dX2_removeLetters_44 : decode cX2_removeLetters 44 = .ok (.aload_n 0, 1) := by decide +kernel
theorem ni_dX2_removeLetters_45 : decode cX2_removeLetters 45 = .ok (.dup, 1) := by decide +kernel
theorem ni_dX2_removeLetters_46 : decode cX2_removeLetters 46 = .ok (.getfield 24, 3) := by decide +kernel
theorem ni_dX2_removeLetters_49 : decode cX2_removeLetters 49 = .ok (.iload_n 1, 1) := by decide +kernel
theorem ni_dX2_removeLetters_50 : decode cX2_removeLetters 50 = .ok (.isub, 1) := by decide +kernel
theorem ni_dX2_removeLetters_51 : decode cX2_removeLetters 51 = .ok (.putfield 24, 3) := by decide +kernel
theorem ni_dX2_removeLetters_54 : decode cX2_removeLetters 54 = .ok (.return_, 1) := by decide +kernel
theorem ni_dX2_takePacket_0 : decode cX2_takePacket 0 = .ok (.iload_n 1, 1) := by decide +kernel
theorem ni_dX2_takePacket_1 : decode cX2_takePacket 1 = .ok (.bipush 21, 2) := by decide +kernel
theorem ni_dX2_takePacket_3 : decode cX2_takePacket 3 = .ok (.invokestatic 32, 3) := by decide +kernel
theorem ni_dX2_takePacket_6 : decode cX2_takePacket 6 = .ok (.istore_n 2, 1) := by decide +kernel
theorem ni_dX2_takePacket_7 : decode cX2_takePacket 7 = .ok (.aload_n 0, 1) := by decide +kernel
theorem ni_dX2_takePacket_8 : decode cX2_takePacket 8 = .ok (.getfield 21, 3) := by decide +kernel
theorem ni_dX2_takePacket_11 : decode cX2_takePacket 11 = .ok (.iload_n 2, 1) := by decide +kernel
theorem ni_dX2_takePacket_12 : decode cX2_takePacket 12 = .ok (.iaload, 1) := by decide +kernel
theorem ni_dX2_takePacket_13 : decode cX2_takePacket 13 = .ok (.istore_n 3, 1) := by decide +kernel
theorem ni_dX2_takePacket_14 : decode cX2_takePacket 14 = .ok (.iload_n 3, 1) := by decide +kernel
theorem ni_dX2_takePacket_15 : decode cX2_takePacket 15 = .ok (.iconst (-1), 1) := by decide +kernel
theorem ni_dX2_takePacket_16 : decode cX2_takePacket 16 = .ok (.if_icmp .eq 20, 3) := by decide +kernel
theorem ni_dX2_takePacket_19 : decode cX2_takePacket 19 = .ok (.aload_n 0, 1) := by decide +kernel
theorem ni_dX2_takePacket_20 : decode cX2_takePacket 20 = .ok (.getfield 21, 3) := by decide +kernel
theorem ni_dX2_takePacket_23 : decode cX2_takePacket 23 = .ok (.iload_n 2, 1) := by decide +kernel
theorem ni_dX2_takePacket_24 : decode cX2_takePacket 24 = .ok (.iconst (-1), 1) := by decide +kernel
theorem ni_dX2_takePacket_25 : decode cX2_takePacket 25 = .ok (.iastore, 1) := by decide +kernel
theorem ni_dX2_takePacket_26 : decode cX2_takePacket 26 = .ok (.aload_n 0, 1) := by decide +kernel
theorem ni_dX2_takePacket_27 : decode cX2_takePacket 27 = .ok (.dup, 1) := by decide +kernel
theorem ni_dX2_takePacket_28 : decode cX2_takePacket 28 = .ok (.getfield 38, 3) := by decide +kernel
theorem ni_dX2_takePacket_31 : decode cX2_takePacket 31 = .ok (.iconst 1, 1) := by decide +kernel
theorem ni_dX2_takePacket_32 : decode cX2_takePacket 32 = .ok (.isub, 1) := by decide +kernel
theorem ni_dX2_takePacket_33 : decode cX2_takePacket 33 = .ok (.putfield 38, 3) := by decide +kernel
theorem ni_dX2_takePacket_36 : decode cX2_takePacket 36 = .ok (.iload_n 3, 1) := by decide +kernel
theorem ni_dX2_takePacket_37 : decode cX2_takePacket 37 = .ok (.ireturn, 1) := by decide +kernel
theorem ni_dX3_init_0 : decode cX3_init 0 = .ok (.aload_n 0, 1) := by decide +kernel
theorem ni_dX3_init_1 : decode cX3_init 1 = .ok (.invokespecial 1, 3) := by decide +kernel
theorem ni_dX3_init_4 : decode cX3_init 4 = .ok (.aload_n 0, 1) := by decide +kernel
theorem ni_dX3_init_5 : decode cX3_init 5 = .ok (.new 7, 3) := by decide +kernel
theorem ni_dX3_init_8 : decode cX3_init 8 = .ok (.dup, 1) := by decide +kernel
theorem ni_dX3_init_9 : decode cX3_init 9 = .ok (.invokespecial 9, 3) := by decide +kernel
theorem ni_dX3_init_12 : decode cX3_init 12 = .ok (.putfield 10, 3) := by decide +kernel
theorem ni_dX3_init_15 : decode cX3_init 15 = .ok (.aload_n 0, 1) := by decide +kernel
theorem ni_dX3_init_16 : decode cX3_init 16 = .ok (.new 7, 3) := by decide +kernel
theorem ni_dX3_init_19 : decode cX3_init 19 = .ok (.dup, 1) := by decide +kernel
theorem ni_dX3_init_20 : decode cX3_init 20 = .ok (.invokespecial 9, 3) := by decide +kernel
theorem ni_dX3_init_23 : decode cX3_init 23 = .ok (.putfield 16, 3) := by decide +kernel
theorem ni_dX3_init_26 : decode cX3_init 26 = .ok (.return_, 1) := by decide +kernel
theorem ni_dX3_copyFrom_0 : decode cX3_copyFrom 0 = .ok (.aload_n 0, 1) := by decide +kernel
theorem ni_dX3_copyFrom_1 : decode cX3_copyFrom 1 = .ok (.aload_n 1, 1) := by decide +kernel
theorem ni_dX3_copyFrom_2 : decode cX3_copyFrom 2 = .ok (.getfield 19, 3) := by decide +kernel
theorem ni_dX3_copyFrom_5 : decode cX3_copyFrom 5 = .ok (.putfield 19, 3) := by decide +kernel
theorem ni_dX3_copyFrom_8 : decode cX3_copyFrom 8 = .ok (.aload_n 0, 1) := by decide +kernel
theorem ni_dX3_copyFrom_9 : decode cX3_copyFrom 9 = .ok (.aload_n 1, 1) := by decide +kernel
theorem ni_dX3_copyFrom_10 : decode cX3_copyFrom 10 = .ok (.getfield 23, 3) := by decide +kernel
theorem ni_dX3_copyFrom_13 : decode cX3_copyFrom 13 = .ok (.putfield 23, 3) := by decide +kernel
theorem ni_dX3_copyFrom_16 : decode cX3_copyFrom 16 = .ok (.aload_n 0, 1) := by decide +kernel
theorem ni_dX3_copyFrom_17 : decode cX3_copyFrom 17 = .ok (.aload_n 1, 1) := by decide +kernel
theorem ni_dX3_copyFrom_18 : decode cX3_copyFrom 18 = .ok (.getfield 35, 3) := by decide +kernel
theorem ni_dX3_copyFrom_21 : decode cX3_copyFrom 21 = .ok (.putfield 35, 3) := by decide +kernel
theorem ni_dX3_copyFrom_24 : decode cX3_copyFrom 24 = .ok (.aload_n 0, 1) := by decide +kernel
theorem ni_dX3_copyFrom_25 : decode cX3_copyFrom 25 = .ok (.aload_n 1, 1) := by decide +kernel
theorem ni_dX3_copyFrom_26 : decode cX3_copyFrom 26 = .ok (.getfield 38, 3) := by decide +kernel
theorem ni_dX3_copyFrom_29 : decode cX3_copyFrom 29 = .ok (.putfield 38, 3) := by decide +kernel
theorem ni_dX3_copyFrom_32 : decode cX3_copyFrom 32 = .ok (.aload_n 0, 1) := by decide +kernel
theorem ni_dX3_copyFrom_33 : decode cX3_copyFrom 33 = .ok (.aload_n 1, 1) := by decide +kernel
theorem ni_dX3_copyFrom_34 : decode cX3_copyFrom 34 = .ok (.getfield 41, 3) := by decide +kernel
theorem ni_dX3_copyFrom_37 : decode cX3_copyFrom 37 = .ok (.putfield 41, 3) := by decide +kernel
theorem ni_dX3_copyFrom_40 : decode cX3_copyFrom 40 = .ok (.aload_n 0, 1) := by decide +kernel
theorem ni_dX3_copyFrom_41 : decode cX3_copyFrom 41 = .ok (.aload_n 1, 1) := by decide +kernel
theorem ni_dX3_copyFrom_42 : decode cX3_copyFrom 42 = .ok (.getfield 44, 3) := by decide +kernel
theorem ni_dX3_copyFrom_45 : decode cX3_copyFrom 45 = .ok (.putfield 44, 3) := by decide +kernel
theorem ni_dX3_copyFrom_48 : decode cX3_copyFrom 48 = .ok (.aload_n 0, 1) := by decide +kernel
theorem ni_dX3_copyFrom_49 : decode cX3_copyFrom 49 = .ok (.getfield 10, 3) := by decide +kernel
theorem ni_dX3_copyFrom_52 : decode cX3_copyFrom 52 = .ok (.aload_n 1, 1) := by decide +kernel
theorem ni_dX3_copyFrom_53 : decode cX3_copyFrom 53 = .ok (.getfield 10, 3) := by decide +kernel
theorem ni_dX3_copyFrom_56 : decode cX3_copyFrom 56 = .ok (.invokevirtual 48, 3) := by decide +kernel
theorem ni_dX3_copyFrom_59 : decode cX3_copyFrom 59 = .ok (.aload_n 0, 1) := by decide +kernel
theorem ni_dX3_copyFrom_60 : decode cX3_copyFrom 60 = .ok (.getfield 16, 3) := by decide +kernel
theorem ni_dX3_copyFrom_63 : decode cX3_copyFrom 63 = .ok (.aload_n 1, 1) := by decide +kernel
theorem ni_dX3_copyFrom_64 : decode cX3_copyFrom 64 = .ok (.getfield 16, 3) := by decide +kernel
theorem ni_dX3_copyFrom_67 : decode cX3_copyFrom 67 = .ok (.invokevirtual 48, 3) := by decide +kernel
theorem ni_dX3_copyFrom_70 : decode cX3_copyFrom 70 = .ok (.return_, 1) := by decide +kernel
theorem ni_dX3_countPackets_0 : decode cX3_countPackets 0 = .ok (.aload_n 0, 1) := by decide +kernel
theorem ni_dX3_countPackets_1 : decode cX3_countPackets 1 = .ok (.getfield 10, 3) := by decide +kernel
theorem ni_dX3_countPackets_4 : decode cX3_countPackets 4 = .ok (.getfield 26, 3) := by decide +kernel
theorem ni_dX3_countPackets_7 : decode cX3_countPackets 7 = .ok (.getfield 30, 3) := by decide +kernel
theorem ni_dX3_countPackets_10 : decode cX3_countPackets 10 = .ok (.aload_n 0, 1) := by decide +kernel
theorem ni_dX3_countPackets_11 : decode cX3_countPackets 11 = .ok (.getfield 16, 3) := by decide +kernel
theorem ni_dX3_countPackets_14 : decode cX3_countPackets 14 = .ok (.getfield 26, 3) := by decide +kernel
theorem ni_dX3_countPackets_17 : decode cX3_countPackets 17 = .ok (.getfield 30, 3) := by decide +kernel
theorem ni_dX3_countPackets_20 : decode cX3_countPackets 20 = .ok (.iadd, 1) := by decide +kernel
theorem ni_dX3_countPackets_21 : decode cX3_countPackets 21 = .ok (.ireturn, 1) := by decide +kernel
theorem ni_dX3_otherEnd_0 : decode cX3_otherEnd 0 = .ok (.iload_n 1, 1) := by decide +kernel
theorem ni_dX3_otherEnd_1 : decode cX3_otherEnd 1 = .ok (.aload_n 0, 1) := by decide +kernel
theorem ni_dX3_otherEnd_2 : decode cX3_otherEnd 2 = .ok (.getfield 19, 3) := by decide +kernel
theorem ni_dX3_otherEnd_5 : decode cX3_otherEnd 5 = .ok (.if_icmp .ne 10, 3) := by decide +kernel
theorem ni_dX3_otherEnd_8 : decode cX3_otherEnd 8 = .ok (.aload_n 0, 1) := by decide +kernel
theorem ni_dX3_otherEnd_9 : decode cX3_otherEnd 9 = .ok (.getfield 23, 3) := by decide +kernel
theorem ni_dX3_otherEnd_12 : decode cX3_otherEnd 12 = .ok (.goto 7, 3) := by decide +kernel
theorem ni_dX3_otherEnd_15 : decode cX3_otherEnd 15 = .ok (.aload_n 0, 1) := by decide +kernel
theorem ni_dX3_otherEnd_16 : decode cX3_otherEnd 16 = .ok (.getfield 19, 3) := by decide +kernel
theorem ni_dX3_otherEnd_19 : decode cX3_otherEnd 19 = .ok (.ireturn, 1) := by decide +kernel
theorem ni_dX3_portAt_0 : decode cX3_portAt 0 = .ok (.iload_n 1, 1) := by decide +kernel
theorem ni_dX3_portAt_1 : decode cX3_portAt 1 = .ok (.aload_n 0, 1) := by decide +kernel
theorem ni_dX3_portAt_2 : decode cX3_portAt 2 = .ok (.getfield 19, 3) := by decide +kernel
theorem ni_dX3_portAt_5 : decode cX3_portAt 5 = .ok (.if_icmp .ne 10, 3) := by decide +kernel
theorem ni_dX3_portAt_8 : decode cX3_portAt 8 = .ok (.aload_n 0, 1) := by decide +kernel
theorem ni_dX3_portAt_9 : decode cX3_portAt 9 = .ok (.getfield 10, 3) := by decide +kernel
theorem ni_dX3_portAt_12 : decode cX3_portAt 12 = .ok (.goto 7, 3) := by decide +kernel
theorem ni_dX3_portAt_15 : decode cX3_portAt 15 = .ok (.aload_n 0, 1) := by decide +kernel
theorem ni_dX3_portAt_16 : decode cX3_portAt 16 = .ok (.getfield 16, 3) := by decide +kernel
theorem ni_dX3_portAt_19 : decode cX3_portAt 19 = .ok (.areturn, 1) := by decide +kernel
theorem ni_dX3_touches_0 : decode cX3_touches 0 = .ok (.iload_n 1, 1) := by decide +kernel
theorem ni_dX3_touches_1 : decode cX3_touches 1 = .ok (.aload_n 0, 1) := by decide +kernel
theorem ni_dX3_touches_2 : decode cX3_touches 2 = .ok (.getfield 19, 3) := by decide +kernel
theorem ni_dX3_touches_5 : decode cX3_touches 5 = .ok (.if_icmp .eq 11, 3) := by decide +kernel
theorem ni_dX3_touches_8 : decode cX3_touches 8 = .ok (.iload_n 1, 1) := by decide +kernel
theorem ni_dX3_touches_9 : decode cX3_touches 9 = .ok (.aload_n 0, 1) := by decide +kernel
theorem ni_dX3_touches_10 : decode cX3_touches 10 = .ok (.getfield 23, 3) := by decide +kernel
theorem ni_dX3_touches_13 : decode cX3_touches 13 = .ok (.if_icmp .ne 7, 3) := by decide +kernel
theorem ni_dX3_touches_16 : decode cX3_touches 16 = .ok (.iconst 1, 1) := by decide +kernel
theorem ni_dX3_touches_17 : decode cX3_touches 17 = .ok (.goto 4, 3) := by decide +kernel
theorem ni_dX3_touches_20 : decode cX3_touches 20 = .ok (.iconst 0, 1) := by decide +kernel
theorem ni_dX3_touches_21 : decode cX3_touches 21 = .ok (.ireturn, 1) := by decide +kernel
theorem ni_dX4_init_0 : decode cX4_init 0 = .ok (.aload_n 0, 1) := by decide +kernel
theorem ni_dX4_init_1 : decode cX4_init 1 = .ok (.invokespecial 3, 3) := by decide +kernel
theorem ni_dX4_init_4 : decode cX4_init 4 = .ok (.aload_n 0, 1) := by decide +kernel
theorem ni_dX4_init_5 : decode cX4_init 5 = .ok (.bipush 8, 2) := by decide +kernel
theorem ni_dX4_init_7 : decode cX4_init 7 = .ok (.anewarray 9, 3) := by decide +kernel
theorem ni_dX4_init_10 : decode cX4_init 10 = .ok (.putfield 11, 3) := by decide +kernel
theorem ni_dX4_init_13 : decode cX4_init 13 = .ok (.aload_n 0, 1) := by decide +kernel
theorem ni_dX4_init_14 : decode cX4_init 14 = .ok (.bipush 14, 2) := by decide +kernel
theorem ni_dX4_init_16 : decode cX4_init 16 = .ok (.anewarray 17, 3) := by decide +kernel
theorem ni_dX4_init_19 : decode cX4_init 19 = .ok (.putfield 19, 3) := by decide +kernel
theorem ni_dX4_init_22 : decode cX4_init 22 = .ok (.aload_n 0, 1) := by decide +kernel
theorem ni_dX4_init_23 : decode cX4_init 23 = .ok (.bipush 12, 2) := by decide +kernel
theorem ni_dX4_init_25 : decode cX4_init 25 = .ok (.anewarray 23, 3) := by decide +kernel
theorem ni_dX4_init_28 : decode cX4_init 28 = .ok (.putfield 25, 3) := by decide +kernel
theorem ni_dX4_init_31 : decode cX4_init 31 = .ok (.aload_n 0, 1) := by decide +kernel
theorem ni_dX4_init_32 : decode cX4_init 32 = .ok (.new 29, 3) := by decide +kernel
theorem ni_dX4_init_35 : decode cX4_init 35 = .ok (.dup, 1) := by decide +kernel
theorem ni_dX4_init_36 : decode cX4_init 36 = .ok (.bipush 24, 2) := by decide +kernel
theorem ni_dX4_init_38 : decode cX4_init 38 = .ok (.invokespecial 31, 3) := by decide +kernel
theorem ni_dX4_init_41 : decode cX4_init 41 = .ok (.putfield 34, 3) := by decide +kernel
theorem ni_dX4_init_44 : decode cX4_init 44 = .ok (.aload_n 0, 1) := by decide +kernel
theorem ni_dX4_init_45 : decode cX4_init 45 = .ok (.new 29, 3) := by decide +kernel
theorem ni_dX4_init_48 : decode cX4_init 48 = .ok (.dup, 1) := by decide +kernel
theorem ni_dX4_init_49 : decode cX4_init 49 = .ok (.bipush 24, 2) := by decide +kernel
theorem ni_dX4_init_51 : decode cX4_init 51 = .ok (.invokespecial 31, 3) := by decide +kernel
theorem ni_dX4_init_54 : decode cX4_init 54 = .ok (.putfield 38, 3) := by decide +kernel
theorem ni_dX4_init_57 : decode cX4_init 57 = .ok (.iconst 0, 1) := by decide +kernel
theorem ni_dX4_init_58 : decode cX4_init 58 = .ok (.istore_n 1, 1) := by decide +kernel
theorem ni_dX4_init_59 : decode cX4_init 59 = .ok (.iload_n 1, 1) := by decide +kernel
theorem ni_dX4_init_60 : decode cX4_init 60 = .ok (.bipush 12, 2) := by decide +kernel
theorem ni_dX4_init_62 : decode cX4_init 62 = .ok (.if_icmp .ge 22, 3) := by decide +kernel
theorem ni_dX4_init_65 : decode cX4_init 65 = .ok (.aload_n 0, 1) := by decide +kernel
theorem ni_dX4_init_66 : decode cX4_init 66 = .ok (.getfield 25, 3) := by decide +kernel
theorem ni_dX4_init_69 : decode cX4_init 69 = .ok (.iload_n 1, 1) := by decide +kernel
theorem ni_dX4_init_70 : decode cX4_init 70 = .ok (.new 23, 3) := by decide +kernel
theorem ni_dX4_init_73 : decode cX4_init 73 = .ok (.dup, 1) := by decide +kernel
theorem ni_dX4_init_74 : decode cX4_init 74 = .ok (.invokespecial 41, 3) := by decide +kernel
theorem ni_dX4_init_77 : decode cX4_init 77 = .ok (.aastore, 1) := by decide +kernel
theorem ni_dX4_init_78 : decode cX4_init 78 = .ok (.iinc 1 1, 3) := by decide +kernel
theorem ni_dX4_init_81 : decode cX4_init 81 = .ok (.goto (-22), 3) := by decide +kernel
theorem ni_dX4_init_84 : decode cX4_init 84 = .ok (.iconst 0, 1) := by decide +kernel
theorem ni_dX4_init_85 : decode cX4_init 85 = .ok (.istore_n 1, 1) := by decide +kernel
theorem ni_dX4_init_86 : decode cX4_init 86 = .ok (.iload_n 1, 1) := by decide +kernel
theorem ni_dX4_init_87 : decode cX4_init 87 = .ok (.bipush 14, 2) := by decide +kernel
theorem ni_dX4_init_89 : decode cX4_init 89 = .ok (.if_icmp .ge 22, 3) := by decide +kernel
theorem ni_dX4_init_92 : decode cX4_init 92 = .ok (.aload_n 0, 1) := by decide +kernel
theorem ni_dX4_init_93 : decode cX4_init 93 = .ok (.getfield 19, 3) := by decide +kernel
theorem ni_dX4_init_96 : decode cX4_init 96 = .ok (.iload_n 1, 1) := by decide +kernel
theorem ni_dX4_init_97 : decode cX4_init 97 = .ok (.new 17, 3) := by decide +kernel
theorem ni_dX4_init_100 : decode cX4_init 100 = .ok (.dup, 1) := by decide +kernel
theorem ni_dX4_init_101 : decode cX4_init 101 = .ok (.invokespecial 42, 3) := by decide +kernel
theorem ni_dX4_init_104 : decode cX4_init 104 = .ok (.aastore, 1) := by decide +kernel
theorem ni_dX4_init_105 : decode cX4_init 105 = .ok (.iinc 1 1, 3) := by decide +kernel
theorem ni_dX4_init_108 : decode cX4_init 108 = .ok (.goto (-22), 3) := by decide +kernel
theorem ni_dX4_init_111 : decode cX4_init 111 = .ok (.iconst 0, 1) := by decide +kernel
theorem ni_dX4_init_112 : decode cX4_init 112 = .ok (.istore_n 1, 1) := by decide +kernel
theorem ni_dX4_init_113 : decode cX4_init 113 = .ok (.iload_n 1, 1) := by decide +kernel
theorem ni_dX4_init_114 : decode cX4_init 114 = .ok (.bipush 8, 2) := by decide +kernel
theorem ni_dX4_init_116 : decode cX4_init 116 = .ok (.if_icmp .ge 40, 3) := by decide +kernel
theorem ni_dX4_init_119 : decode cX4_init 119 = .ok (.aload_n 0, 1) := by decide +kernel
theorem ni_dX4_init_120 : decode cX4_init 120 = .ok (.getfield 11, 3) := by decide +kernel
theorem ni_dX4_init_123 : decode cX4_init 123 = .ok (.iload_n 1, 1) := by decide +kernel
theorem ni_dX4_init_124 : decode cX4_init 124 = .ok (.new 9, 3) := by decide +kernel
theorem ni_dX4_init_127 : decode cX4_init 127 = .ok (.dup, 1) := by decide +kernel
theorem ni_dX4_init_128 : decode cX4_init 128 = .ok (.iload_n 1, 1) := by decide +kernel
theorem ni_dX4_init_129 : decode cX4_init 129 = .ok (.new 43, 3) := by decide +kernel
theorem ni_dX4_init_132 : decode cX4_init 132 = .ok (.dup, 1) := by decide +kernel
theorem ni_dX4_init_133 : decode cX4_init 133 = .ok (.iload_n 1, 1) := by decide +kernel
theorem ni_dX4_init_134 : decode cX4_init 134 = .ok (.iconst 0, 1) := by decide +kernel
theorem ni_dX4_init_135 : decode cX4_init 135 = .ok (.iconst 0, 1) := by decide +kernel
theorem ni_dX4_init_136 : decode cX4_init 136 = .ok (.bipush 14, 2) := by decide +kernel
theorem ni_dX4_init_138 : decode cX4_init 138 = .ok (.newarray .int, 2) := by decide +kernel
theorem ni_dX4_init_140 : decode cX4_init 140 = .ok (.iconst 0, 1) := by decide +kernel
theorem ni_dX4_init_141 : decode cX4_init 141 = .ok (.newarray .int, 2) := by decide +kernel
theorem ni_dX4_init_143 : decode cX4_init 143 = .ok (.invokespecial 45, 3) := by decide +kernel
theorem ni_dX4_init_146 : decode cX4_init 146 = .ok (.invokespecial 48, 3) := by decide +kernel
theorem ni_dX4_init_149 : decode cX4_init 149 = .ok (.aastore, 1) := by decide +kernel
theorem ni_dX4_init_150 : decode cX4_init 150 = .ok (.iinc 1 1, 3) := by decide +kernel
theorem ni_dX4_init_153 : decode cX4_init 153 = .ok (.goto (-40), 3) := by decide +kernel
theorem ni_dX4_init_156 : decode cX4_init 156 = .ok (.return_, 1) := by decide +kernel
theorem ni_dX4_changeCost_0 : decode cX4_changeCost 0 = .ok (.aload_n 0, 1) := by decide +kernel
theorem ni_dX4_changeCost_1 : decode cX4_changeCost 1 = .ok (.getfield 19, 3) := by decide +kernel
theorem ni_dX4_changeCost_4 : decode cX4_changeCost 4 = .ok (.iload_n 1, 1) := by decide +kernel
theorem ni_dX4_changeCost_5 : decode cX4_changeCost 5 = .ok (.aaload, 1) := by decide +kernel
theorem ni_dX4_changeCost_6 : decode cX4_changeCost 6 = .ok (.astore_n 3, 1) := by decide +kernel
theorem ni_dX4_changeCost_7 : decode cX4_changeCost 7 = .ok (.aload_n 3, 1) := by decide +kernel
theorem ni_dX4_changeCost_8 : decode cX4_changeCost 8 = .ok (.getfield 64, 3) := by decide +kernel
theorem ni_dX4_changeCost_11 : decode cX4_changeCost 11 = .ok (.istore 4, 2) := by decide +kernel
theorem ni_dX4_changeCost_13 : decode cX4_changeCost 13 = .ok (.aload_n 3, 1) := by decide +kernel
theorem ni_dX4_changeCost_14 : decode cX4_changeCost 14 = .ok (.iload_n 2, 1) := by decide +kernel
theorem ni_dX4_changeCost_15 : decode cX4_changeCost 15 = .ok (.putfield 64, 3) := by decide +kernel
theorem ni_dX4_changeCost_18 : decode cX4_changeCost 18 = .ok (.iload_n 2, 1) := by decide +kernel
theorem ni_dX4_changeCost_19 : decode cX4_changeCost 19 = .ok (.iload 4, 2) := by decide +kernel
theorem ni_dX4_changeCost_21 : decode cX4_changeCost 21 = .ok (.if_icmp .eq 26, 3) := by decide +kernel
theorem ni_dX4_changeCost_24 : decode cX4_changeCost 24 = .ok (.aload_n 3, 1) := by decide +kernel
theorem ni_dX4_changeCost_25 : decode cX4_changeCost 25 = .ok (.getfield 76, 3) := by decide +kernel
theorem ni_dX4_changeCost_28 : decode cX4_changeCost 28 = .ok (.ifCond .eq 19, 3) := by decide +kernel
theorem ni_dX4_changeCost_31 : decode cX4_changeCost 31 = .ok (.aload_n 0, 1) := by decide +kernel
theorem ni_dX4_changeCost_32 : decode cX4_changeCost 32 = .ok (.aload_n 3, 1) := by decide +kernel
theorem ni_dX4_changeCost_33 : decode cX4_changeCost 33 = .ok (.getfield 58, 3) := by decide +kernel
theorem ni_dX4_changeCost_36 : decode cX4_changeCost 36 = .ok (.invokevirtual 80, 3) := by decide +kernel
theorem ni_dX4_changeCost_39 : decode cX4_changeCost 39 = .ok (.aload_n 0, 1) := by decide +kernel
theorem ni_dX4_changeCost_40 : decode cX4_changeCost 40 = .ok (.aload_n 3, 1) := by decide +kernel
theorem ni_dX4_changeCost_41 : decode cX4_changeCost 41 = .ok (.getfield 61, 3) := by decide +kernel
theorem ni_dX4_changeCost_44 : decode cX4_changeCost 44 = .ok (.invokevirtual 80, 3) := by decide +kernel
theorem ni_dX4_changeCost_47 : decode cX4_changeCost 47 = .ok (.iload 4, 2) := by decide +kernel
theorem ni_dX4_changeCost_49 : decode cX4_changeCost 49 = .ok (.ireturn, 1) := by decide +kernel
theorem ni_dX4_copyFrom_0 : decode cX4_copyFrom 0 = .ok (.aload_n 0, 1) := by decide +kernel
theorem ni_dX4_copyFrom_1 : decode cX4_copyFrom 1 = .ok (.aload_n 1, 1) := by decide +kernel
theorem ni_dX4_copyFrom_2 : decode cX4_copyFrom 2 = .ok (.getfield 166, 3) := by decide +kernel
theorem ni_dX4_copyFrom_5 : decode cX4_copyFrom 5 = .ok (.putfield 166, 3) := by decide +kernel
theorem ni_dX4_copyFrom_8 : decode cX4_copyFrom 8 = .ok (.aload_n 0, 1) := by decide +kernel
theorem ni_dX4_copyFrom_9 : decode cX4_copyFrom 9 = .ok (.aload_n 1, 1) := by decide +kernel
theorem ni_dX4_copyFrom_10 : decode cX4_copyFrom 10 = .ok (.getfield 51, 3) := by decide +kernel
theorem ni_dX4_copyFrom_13 : decode cX4_copyFrom 13 = .ok (.putfield 51, 3) := by decide +kernel
theorem ni_dX4_copyFrom_16 : decode cX4_copyFrom 16 = .ok (.aload_n 0, 1) := by decide +kernel
theorem ni_dX4_copyFrom_17 : decode cX4_copyFrom 17 = .ok (.aload_n 1, 1) := by decide +kernel
theorem ni_dX4_copyFrom_18 : decode cX4_copyFrom 18 = .ok (.getfield 55, 3) := by decide +kernel
theorem ni_dX4_copyFrom_21 : decode cX4_copyFrom 21 = .ok (.putfield 55, 3) := by decide +kernel
theorem ni_dX4_copyFrom_24 : decode cX4_copyFrom 24 = .ok (.aload_n 0, 1) := by decide +kernel
theorem ni_dX4_copyFrom_25 : decode cX4_copyFrom 25 = .ok (.aload_n 1, 1) := by decide +kernel
theorem ni_dX4_copyFrom_26 : decode cX4_copyFrom 26 = .ok (.getfield 116, 3) := by decide +kernel
theorem ni_dX4_copyFrom_29 : decode cX4_copyFrom 29 = .ok (.putfield 116, 3) := by decide +kernel
theorem ni_dX4_copyFrom_32 : decode cX4_copyFrom 32 = .ok (.iconst 0, 1) := by decide +kernel
theorem ni_dX4_copyFrom_33 : decode cX4_copyFrom 33 = .ok (.istore_n 2, 1) := by decide +kernel
theorem ni_dX4_copyFrom_34 : decode cX4_copyFrom 34 = .ok (.iload_n 2, 1) := by decide +kernel
theorem ni_dX4_copyFrom_35 : decode cX4_copyFrom 35 = .ok (.aload_n 0, 1) := by decide +kernel
theorem ni_dX4_copyFrom_36 : decode cX4_copyFrom 36 = .ok (.getfield 51, 3) := by decide +kernel
theorem ni_dX4_copyFrom_39 : decode cX4_copyFrom 39 = .ok (.if_icmp .ge 24, 3) := by decide +kernel
theorem ni_dX4_copyFrom_42 : decode cX4_copyFrom 42 = .ok (.aload_n 0, 1) := by decide +kernel
theorem ni_dX4_copyFrom_43 : decode cX4_copyFrom 43 = .ok (.getfield 11, 3) := by decide +kernel
theorem ni_dX4_copyFrom_46 : decode cX4_copyFrom 46 = .ok (.iload_n 2, 1) := by decide +kernel
theorem ni_dX4_copyFrom_47 : decode cX4_copyFrom 47 = .ok (.aaload, 1) := by decide +kernel
theorem ni_dX4_copyFrom_48 : decode cX4_copyFrom 48 = .ok (.aload_n 1, 1) := by decide +kernel
theorem ni_dX4_copyFrom_49 : decode cX4_copyFrom 49 = .ok (.getfield 11, 3) := by decide +kernel
theorem ni_dX4_copyFrom_52 : decode cX4_copyFrom 52 = .ok (.iload_n 2, 1) := by decide +kernel
theorem ni_dX4_copyFrom_53 : decode cX4_copyFrom 53 = .ok (.aaload, 1) := by decide +kernel
theorem ni_dX4_copyFrom_54 : decode cX4_copyFrom 54 = .ok (.invokevirtual 290, 3) := by decide +kernel
theorem ni_dX4_copyFrom_57 : decode cX4_copyFrom 57 = .ok (.iinc 2 1, 3) := by decide +kernel
theorem ni_dX4_copyFrom_60 : decode cX4_copyFrom 60 = .ok (.goto (-26), 3) := by decide +kernel
theorem ni_dX4_copyFrom_63 : decode cX4_copyFrom 63 = .ok (.iconst 0, 1) := by decide +kernel
theorem ni_dX4_copyFrom_64 : decode cX4_copyFrom 64 = .ok (.istore_n 2, 1) := by decide +kernel
theorem ni_dX4_copyFrom_65 : decode cX4_copyFrom 65 = .ok (.iload_n 2, 1) := by decide +kernel
theorem ni_dX4_copyFrom_66 : decode cX4_copyFrom 66 = .ok (.aload_n 0, 1) := by decide +kernel
theorem ni_dX4_copyFrom_67 : decode cX4_copyFrom 67 = .ok (.getfield 55, 3) := by decide +kernel
theorem ni_dX4_copyFrom_70 : decode cX4_copyFrom 70 = .ok (.if_icmp .ge 24, 3) := by decide +kernel
theorem ni_dX4_copyFrom_73 : decode cX4_copyFrom 73 = .ok (.aload_n 0, 1) := by decide +kernel
theorem ni_dX4_copyFrom_74 : decode cX4_copyFrom 74 = .ok (.getfield 19, 3) := by decide +kernel
theorem ni_dX4_copyFrom_77 : decode cX4_copyFrom 77 = .ok (.iload_n 2, 1) := by decide +kernel
theorem ni_dX4_copyFrom_78 : decode cX4_copyFrom 78 = .ok (.aaload, 1) := by decide +kernel
theorem ni_dX4_copyFrom_79 : decode cX4_copyFrom 79 = .ok (.aload_n 1, 1) := by decide +kernel
theorem ni_dX4_copyFrom_80 : decode cX4_copyFrom 80 = .ok (.getfield 19, 3) := by decide +kernel
theorem ni_dX4_copyFrom_83 : decode cX4_copyFrom 83 = .ok (.iload_n 2, 1) := by decide +kernel
theorem ni_dX4_copyFrom_84 : decode cX4_copyFrom 84 = .ok (.aaload, 1) := by decide +kernel
theorem ni_dX4_copyFrom_85 : decode cX4_copyFrom 85 = .ok (.invokevirtual 294, 3) := by decide +kernel
theorem ni_dX4_copyFrom_88 : decode cX4_copyFrom 88 = .ok (.iinc 2 1, 3) := by decide +kernel
theorem ni_dX4_copyFrom_91 : decode cX4_copyFrom 91 = .ok (.goto (-26), 3) := by decide +kernel
theorem ni_dX4_copyFrom_94 : decode cX4_copyFrom 94 = .ok (.iconst 0, 1) := by decide +kernel
theorem ni_dX4_copyFrom_95 : decode cX4_copyFrom 95 = .ok (.istore_n 2, 1) := by decide +kernel
theorem ni_dX4_copyFrom_96 : decode cX4_copyFrom 96 = .ok (.iload_n 2, 1) := by decide +kernel
theorem ni_dX4_copyFrom_97 : decode cX4_copyFrom 97 = .ok (.aload_n 0, 1) := by decide +kernel
theorem ni_dX4_copyFrom_98 : decode cX4_copyFrom 98 = .ok (.getfield 116, 3) := by decide +kernel
theorem ni_dX4_copyFrom_101 : decode cX4_copyFrom 101 = .ok (.if_icmp .ge 24, 3) := by decide +kernel
theorem ni_dX4_copyFrom_104 : decode cX4_copyFrom 104 = .ok (.aload_n 0, 1) := by decide +kernel
theorem ni_dX4_copyFrom_105 : decode cX4_copyFrom 105 = .ok (.getfield 25, 3) := by decide +kernel
theorem ni_dX4_copyFrom_108 : decode cX4_copyFrom 108 = .ok (.iload_n 2, 1) := by decide +kernel
theorem ni_dX4_copyFrom_109 : decode cX4_copyFrom 109 = .ok (.aaload, 1) := by decide +kernel
theorem ni_dX4_copyFrom_110 : decode cX4_copyFrom 110 = .ok (.aload_n 1, 1) := by decide +kernel
theorem ni_dX4_copyFrom_111 : decode cX4_copyFrom 111 = .ok (.getfield 25, 3) := by decide +kernel
theorem ni_dX4_copyFrom_114 : decode cX4_copyFrom 114 = .ok (.iload_n 2, 1) := by decide +kernel
theorem ni_dX4_copyFrom_115 : decode cX4_copyFrom 115 = .ok (.aaload, 1) := by decide +kernel
theorem ni_dX4_copyFrom_116 : decode cX4_copyFrom 116 = .ok (.invokevirtual 297, 3) := by decide +kernel
theorem ni_dX4_copyFrom_119 : decode cX4_copyFrom 119 = .ok (.iinc 2 1, 3) := by decide +kernel
theorem ni_dX4_copyFrom_122 : decode cX4_copyFrom 122 = .ok (.goto (-26), 3) := by decide +kernel
theorem ni_dX4_copyFrom_125 : decode cX4_copyFrom 125 = .ok (.aload_n 0, 1) := by decide +kernel
theorem ni_dX4_copyFrom_126 : decode cX4_copyFrom 126 = .ok (.getfield 34, 3) := by decide +kernel
theorem ni_dX4_copyFrom_129 : decode cX4_copyFrom 129 = .ok (.aload_n 1, 1) := by decide +kernel
theorem ni_dX4_copyFrom_130 : decode cX4_copyFrom 130 = .ok (.getfield 34, 3) := by decide +kernel
theorem ni_dX4_copyFrom_133 : decode cX4_copyFrom 133 = .ok (.invokevirtual 300, 3) := by decide +kernel
theorem ni_dX4_copyFrom_136 : decode cX4_copyFrom 136 = .ok (.aload_n 0, 1) := by decide +kernel
theorem ni_dX4_copyFrom_137 : decode cX4_copyFrom 137 = .ok (.getfield 38, 3) := by decide +kernel
theorem ni_dX4_copyFrom_140 : decode cX4_copyFrom 140 = .ok (.aload_n 1, 1) := by decide +kernel
theorem ni_dX4_copyFrom_141 : decode cX4_copyFrom 141 = .ok (.getfield 38, 3) := by decide +kernel
theorem ni_dX4_copyFrom_144 : decode cX4_copyFrom 144 = .ok (.invokevirtual 300, 3) := by decide +kernel
theorem ni_dX4_copyFrom_147 : decode cX4_copyFrom 147 = .ok (.return_, 1) := by decide +kernel
theorem ni_dX4_cut_0 : decode cX4_cut 0 = .ok (.aload_n 0, 1) := by decide +kernel
theorem ni_dX4_cut_1 : decode cX4_cut 1 = .ok (.getfield 19, 3) := by decide +kernel
theorem ni_dX4_cut_4 : decode cX4_cut 4 = .ok (.iload_n 1, 1) := by decide +kernel
theorem ni_dX4_cut_5 : decode cX4_cut 5 = .ok (.aaload, 1) := by decide +kernel
theorem ni_dX4_cut_6 : decode cX4_cut 6 = .ok (.astore_n 2, 1) := by decide +kernel
theorem ni_dX4_cut_7 : decode cX4_cut 7 = .ok (.aload_n 2, 1) := by decide +kernel
theorem ni_dX4_cut_8 : decode cX4_cut 8 = .ok (.iconst 0, 1) := by decide +kernel
theorem ni_dX4_cut_9 : decode cX4_cut 9 = .ok (.putfield 76, 3) := by decide +kernel
theorem ni_dX4_cut_12 : decode cX4_cut 12 = .ok (.aload_n 2, 1) := by decide +kernel
theorem ni_dX4_cut_13 : decode cX4_cut 13 = .ok (.getfield 87, 3) := by decide +kernel
theorem ni_dX4_cut_16 : decode cX4_cut 16 = .ok (.aload_n 0, 1) := by decide +kernel
theorem ni_dX4_cut_17 : decode cX4_cut 17 = .ok (.getfield 25, 3) := by decide +kernel
theorem ni_dX4_cut_20 : decode cX4_cut 20 = .ok (.invokevirtual 91, 3) := by decide +kernel
theorem ni_dX4_cut_23 : decode cX4_cut 23 = .ok (.aload_n 2, 1) := by decide +kernel
theorem ni_dX4_cut_24 : decode cX4_cut 24 = .ok (.getfield 97, 3) := by decide +kernel
theorem ni_dX4_cut_27 : decode cX4_cut 27 = .ok (.aload_n 0, 1) := by decide +kernel
theorem ni_dX4_cut_28 : decode cX4_cut 28 = .ok (.getfield 25, 3) := by decide +kernel
theorem ni_dX4_cut_31 : decode cX4_cut 31 = .ok (.invokevirtual 91, 3) := by decide +kernel
theorem ni_dX4_cut_34 : decode cX4_cut 34 = .ok (.aload_n 0, 1) := by decide +kernel
theorem ni_dX4_cut_35 : decode cX4_cut 35 = .ok (.aload_n 2, 1) := by decide +kernel
theorem ni_dX4_cut_36 : decode cX4_cut 36 = .ok (.getfield 58, 3) := by decide +kernel
theorem ni_dX4_cut_39 : decode cX4_cut 39 = .ok (.invokevirtual 80, 3) := by decide +kernel
theorem ni_dX4_cut_42 : decode cX4_cut 42 = .ok (.aload_n 0, 1) := by decide +kernel
theorem ni_dX4_cut_43 : decode cX4_cut 43 = .ok (.aload_n 2, 1) := by decide +kernel
theorem ni_dX4_cut_44 : decode cX4_cut 44 = .ok (.getfield 61, 3) := by decide +kernel
theorem ni_dX4_cut_47 : decode cX4_cut 47 = .ok (.invokevirtual 80, 3) := by decide +kernel
theorem ni_dX4_cut_50 : decode cX4_cut 50 = .ok (.return_, 1) := by decide +kernel
theorem ni_dX4_deal_0 : decode cX4_deal 0 = .ok (.iload_n 2, 1) := by decide +kernel
theorem ni_dX4_deal_1 : decode cX4_deal 1 = .ok (.iconst (-1), 1) := by decide +kernel
theorem ni_dX4_deal_2 : decode cX4_deal 2 = .ok (.if_icmp .ne 4, 3) := by decide +kernel
theorem ni_dX4_deal_5 : decode cX4_deal 5 = .ok (.return_, 1) := by decide +kernel
theorem ni_dX4_deal_6 : decode cX4_deal 6 = .ok (.aload_n 0, 1) := by decide +kernel
theorem ni_dX4_deal_7 : decode cX4_deal 7 = .ok (.getfield 25, 3) := by decide +kernel
theorem ni_dX4_deal_10 : decode cX4_deal 10 = .ok (.iload_n 2, 1) := by decide +kernel
theorem ni_dX4_deal_11 : decode cX4_deal 11 = .ok (.invokestatic 235, 3) := by decide +kernel
theorem ni_dX4_deal_14 : decode cX4_deal 14 = .ok (.aaload, 1) := by decide +kernel
theorem ni_dX4_deal_15 : decode cX4_deal 15 = .ok (.astore_n 3, 1) := by decide +kernel
theorem ni_dX4_deal_16 : decode cX4_deal 16 = .ok (.aload_n 0, 1) := by decide +kernel
theorem ni_dX4_deal_17 : decode cX4_deal 17 = .ok (.iload_n 1, 1) := by decide +kernel
theorem ni_dX4_deal_18 : decode cX4_deal 18 = .ok (.iload_n 2, 1) := by decide +kernel
theorem ni_dX4_deal_19 : decode cX4_deal 19 = .ok (.invokestatic 235, 3) := by decide +kernel
theorem ni_dX4_deal_22 : decode cX4_deal 22 = .ok (.invokevirtual 238, 3) := by decide +kernel
theorem ni_dX4_deal_25 : decode cX4_deal 25 = .ok (.istore 4, 2) := by decide +kernel
theorem ni_dX4_deal_27 : decode cX4_deal 27 = .ok (.iload 4, 2) := by decide +kernel
theorem ni_dX4_deal_29 : decode cX4_deal 29 = .ok (.bipush (-2), 2) := by decide +kernel
theorem ni_dX4_deal_31 : decode cX4_deal 31 = .ok (.if_icmp .ne 16, 3) := by decide +kernel
theorem ni_dX4_deal_34 : decode cX4_deal 34 = .ok (.aload_n 3, 1) := by decide +kernel
theorem ni_dX4_deal_35 : decode cX4_deal 35 = .ok (.iload_n 2, 1) := by decide +kernel
theorem ni_dX4_deal_36 : decode cX4_deal 36 = .ok (.invokestatic 242, 3) := by decide +kernel
theorem ni_dX4_deal_39 : decode cX4_deal 39 = .ok (.aload_n 0, 1) := by decide +kernel
theorem ni_dX4_deal_40 : decode cX4_deal 40 = .ok (.getfield 166, 3) := by decide +kernel
theorem ni_dX4_deal_43 : decode cX4_deal 43 = .ok (.invokevirtual 245, 3) := by decide +kernel
theorem ni_dX4_deal_46 : decode cX4_deal 46 = .ok (.return_, 1) := by decide +kernel
theorem ni_dX4_deal_47 : decode cX4_deal 47 = .ok (.iload 4, 2) := by decide +kernel
theorem ni_dX4_deal_49 : decode cX4_deal 49 = .ok (.iconst (-1), 1) := by decide +kernel
theorem ni_dX4_deal_50 : decode cX4_deal 50 = .ok (.if_icmp .ne 7, 3) := by decide +kernel
theorem ni_dX4_deal_53 : decode cX4_deal 53 = .ok (.iconst 1, 1) := by decide +kernel
theorem ni_dX4_deal_54 : decode cX4_deal 54 = .ok (.goto 16, 3) := by decide +kernel
theorem ni_dX4_deal_57 : decode cX4_deal 57 = .ok (.aload_n 0, 1) := by decide +kernel
theorem ni_dX4_deal_58 : decode cX4_deal 58 = .ok (.iload_n 1, 1) := by decide +kernel
theorem ni_dX4_deal_59 : decode cX4_deal 59 = .ok (.iload_n 2, 1) := by decide +kernel
theorem ni_dX4_deal_60 : decode cX4_deal 60 = .ok (.aload_n 0, 1) := by decide +kernel
theorem ni_dX4_deal_61 : decode cX4_deal 61 = .ok (.getfield 19, 3) := by decide +kernel
theorem ni_dX4_deal_64 : decode cX4_deal 64 = .ok (.iload 4, 2) := by decide +kernel
theorem ni_dX4_deal_66 : decode cX4_deal 66 = .ok (.aaload, 1) := by decide +kernel
theorem ni_dX4_deal_67 : decode cX4_deal 67 = .ok (.invokevirtual 248, 3) := by decide +kernel
theorem ni_dX4_deal_70 : decode cX4_deal 70 = .ok (.istore 5, 2) := by decide +kernel
theorem ni_dX4_deal_72 : decode cX4_deal 72 = .ok (.iload 5, 2) := by decide +kernel
theorem ni_dX4_deal_74 : decode cX4_deal 74 = .ok (.iconst (-1), 1) := by decide +kernel
theorem ni_dX4_deal_75 : decode cX4_deal 75 = .ok (.if_icmp .eq 14, 3) := by decide +kernel
theorem ni_dX4_deal_78 : decode cX4_deal 78 = .ok (.aload_n 3, 1) := by decide +kernel
theorem ni_dX4_deal_79 : decode cX4_deal 79 = .ok (.getfield 252, 3) := by decide +kernel
theorem ni_dX4_deal_82 : decode cX4_deal 82 = .ok (.iload 5, 2) := by decide +kernel
theorem ni_dX4_deal_84 : decode cX4_deal 84 = .ok (.dup2, 1) := by decide +kernel
theorem ni_dX4_deal_85 : decode cX4_deal 85 = .ok (.iaload, 1) := by decide +kernel
theorem ni_dX4_deal_86 : decode cX4_deal 86 = .ok (.iconst 1, 1) := by decide +kernel
theorem ni_dX4_deal_87 : decode cX4_deal 87 = .ok (.iadd, 1) := by decide +kernel
theorem ni_dX4_deal_88 : decode cX4_deal 88 = .ok (.iastore, 1) := by decide +kernel
theorem ni_dX4_deal_89 : decode cX4_deal 89 = .ok (.return_, 1) := by decide +kernel
theorem ni_dX4_follow_0 : decode cX4_follow 0 = .ok (.aload_n 0, 1) := by decide +kernel
theorem ni_dX4_follow_1 : decode cX4_follow 1 = .ok (.getfield 25, 3) := by decide +kernel
theorem ni_dX4_follow_4 : decode cX4_follow 4 = .ok (.iload_n 1, 1) := by decide +kernel
theorem ni_dX4_follow_5 : decode cX4_follow 5 = .ok (.aaload, 1) := by decide +kernel
theorem ni_dX4_follow_6 : decode cX4_follow 6 = .ok (.getfield 119, 3) := by decide +kernel
theorem ni_dX4_follow_9 : decode cX4_follow 9 = .ok (.istore_n 2, 1) := by decide +kernel
theorem ni_dX4_follow_10 : decode cX4_follow 10 = .ok (.iconst 0, 1) := by decide +kernel
theorem ni_dX4_follow_11 : decode cX4_follow 11 = .ok (.istore_n 3, 1) := by decide +kernel
theorem ni_dX4_follow_12 : decode cX4_follow 12 = .ok (.iload_n 3, 1) := by decide +kernel
theorem ni_dX4_follow_13 : decode cX4_follow 13 = .ok (.bipush 8, 2) := by decide +kernel
theorem ni_dX4_follow_15 : decode cX4_follow 15 = .ok (.if_icmp .ge 46, 3) := by decide +kernel
theorem ni_dX4_follow_18 : decode cX4_follow 18 = .ok (.aload_n 0, 1) := by decide +kernel
theorem ni_dX4_follow_19 : decode cX4_follow 19 = .ok (.iload_n 2, 1) := by decide +kernel
theorem ni_dX4_follow_20 : decode cX4_follow 20 = .ok (.iload_n 1, 1) := by decide +kernel
theorem ni_dX4_follow_21 : decode cX4_follow 21 = .ok (.invokevirtual 238, 3) := by decide +kernel
theorem ni_dX4_follow_24 : decode cX4_follow 24 = .ok (.istore 4, 2) := by decide +kernel
theorem ni_dX4_follow_26 : decode cX4_follow 26 = .ok (.iload 4, 2) := by decide +kernel
theorem ni_dX4_follow_28 : decode cX4_follow 28 = .ok (.bipush (-2), 2) := by decide +kernel
theorem ni_dX4_follow_30 : decode cX4_follow 30 = .ok (.if_icmp .ne 5, 3) := by decide +kernel
theorem ni_dX4_follow_33 : decode cX4_follow 33 = .ok (.iload_n 3, 1) := by decide +kernel
theorem ni_dX4_follow_34 : decode cX4_follow 34 = .ok (.ireturn, 1) := by decide +kernel
theorem ni_dX4_follow_35 : decode cX4_follow 35 = .ok (.iload 4, 2) := by decide +kernel
theorem ni_dX4_follow_37 : decode cX4_follow 37 = .ok (.iconst (-1), 1) := by decide +kernel
theorem ni_dX4_follow_38 : decode cX4_follow 38 = .ok (.if_icmp .ne 5, 3) := by decide +kernel
theorem ni_dX4_follow_41 : decode cX4_follow 41 = .ok (.iconst (-1), 1) := by decide +kernel
theorem ni_dX4_follow_42 : decode cX4_follow 42 = .ok (.ireturn, 1) := by decide +kernel
theorem ni_dX4_follow_43 : decode cX4_follow 43 = .ok (.aload_n 0, 1) := by decide +kernel
theorem ni_dX4_follow_44 : decode cX4_follow 44 = .ok (.getfield 19, 3) := by decide +kernel
theorem ni_dX4_follow_47 : decode cX4_follow 47 = .ok (.iload 4, 2) := by decide +kernel
theorem ni_dX4_follow_49 : decode cX4_follow 49 = .ok (.aaload, 1) := by decide +kernel
theorem ni_dX4_follow_50 : decode cX4_follow 50 = .ok (.iload_n 2, 1) := by decide +kernel
theorem ni_dX4_follow_51 : decode cX4_follow 51 = .ok (.invokevirtual 287, 3) := by decide +kernel
theorem ni_dX4_follow_54 : decode cX4_follow 54 = .ok (.istore_n 2, 1) := by decide +kernel
theorem ni_dX4_follow_55 : decode cX4_follow 55 = .ok (.iinc 3 1, 3) := by decide +kernel
theorem ni_dX4_follow_58 : decode cX4_follow 58 = .ok (.goto (-46), 3) := by decide +kernel
theorem ni_dX4_follow_61 : decode cX4_follow 61 = .ok (.bipush (-2), 2) := by decide +kernel
theorem ni_dX4_follow_63 : decode cX4_follow 63 = .ok (.ireturn, 1) := by decide +kernel
theorem ni_dX4_lettersOnTheirWay_0 : decode cX4_lettersOnTheirWay 0 = .ok (.iconst 0, 1) := by decide +kernel
theorem ni_dX4_lettersOnTheirWay_1 : decode cX4_lettersOnTheirWay 1 = .ok (.istore_n 1, 1) := by decide +kernel
theorem ni_dX4_lettersOnTheirWay_2 : decode cX4_lettersOnTheirWay 2 = .ok (.iconst 0, 1) := by decide +kernel
theorem ni_dX4_lettersOnTheirWay_3 : decode cX4_lettersOnTheirWay 3 = .ok (.istore_n 2, 1) := by decide +kernel
theorem ni_dX4_lettersOnTheirWay_4 : decode cX4_lettersOnTheirWay 4 = .ok (.iload_n 2, 1) := by decide +kernel
theorem ni_dX4_lettersOnTheirWay_5 : decode cX4_lettersOnTheirWay 5 = .ok (.aload_n 0, 1) := by decide +kernel
theorem ni_dX4_lettersOnTheirWay_6 : decode cX4_lettersOnTheirWay 6 = .ok (.getfield 55, 3) := by decide +kernel
theorem ni_dX4_lettersOnTheirWay_9 : decode cX4_lettersOnTheirWay 9 = .ok (.if_icmp .ge 43, 3) := by decide +kernel
theorem ni_dX4_lettersOnTheirWay_12 : decode cX4_lettersOnTheirWay 12 = .ok (.iload_n 1, 1) := by decide +kernel
theorem ni_dX4_lettersOnTheirWay_13 : decode cX4_lettersOnTheirWay 13 = .ok (.aload_n 0, 1) := by decide +kernel
theorem ni_dX4_lettersOnTheirWay_14 : decode cX4_lettersOnTheirWay 14 = .ok (.getfield 19, 3) := by decide +kernel
theorem ni_dX4_lettersOnTheirWay_17 : decode cX4_lettersOnTheirWay 17 = .ok (.iload_n 2, 1) := by decide +kernel
theorem ni_dX4_lettersOnTheirWay_18 : decode cX4_lettersOnTheirWay 18 = .ok (.aaload, 1) := by decide +kernel
theorem ni_dX4_lettersOnTheirWay_19 : decode cX4_lettersOnTheirWay 19 = .ok (.getfield 87, 3) := by decide +kernel
theorem ni_dX4_lettersOnTheirWay_22 : decode cX4_lettersOnTheirWay 22 = .ok (.getfield 162, 3) := by decide +kernel
theorem ni_dX4_lettersOnTheirWay_25 : decode cX4_lettersOnTheirWay 25 = .ok (.getfield 175, 3) := by decide +kernel
theorem ni_dX4_lettersOnTheirWay_28 : decode cX4_lettersOnTheirWay 28 = .ok (.aload_n 0, 1) := by decide +kernel
theorem ni_dX4_lettersOnTheirWay_29 : decode cX4_lettersOnTheirWay 29 = .ok (.getfield 19, 3) := by decide +kernel
theorem ni_dX4_lettersOnTheirWay_32 : decode cX4_lettersOnTheirWay 32 = .ok (.iload_n 2, 1) := by decide +kernel
theorem ni_dX4_lettersOnTheirWay_33 : decode cX4_lettersOnTheirWay 33 = .ok (.aaload, 1) := by decide +kernel
theorem ni_dX4_lettersOnTheirWay_34 : decode cX4_lettersOnTheirWay 34 = .ok (.getfield 97, 3) := by decide +kernel
theorem ni_dX4_lettersOnTheirWay_37 : decode cX4_lettersOnTheirWay 37 = .ok (.getfield 162, 3) := by decide +kernel
theorem ni_dX4_lettersOnTheirWay_40 : decode cX4_lettersOnTheirWay 40 = .ok (.getfield 175, 3) := by decide +kernel
theorem ni_dX4_lettersOnTheirWay_43 : decode cX4_lettersOnTheirWay 43 = .ok (.iadd, 1) := by decide +kernel
theorem ni_dX4_lettersOnTheirWay_44 : decode cX4_lettersOnTheirWay 44 = .ok (.iadd, 1) := by decide +kernel
theorem ni_dX4_lettersOnTheirWay_45 : decode cX4_lettersOnTheirWay 45 = .ok (.istore_n 1, 1) := by decide +kernel
theorem ni_dX4_lettersOnTheirWay_46 : decode cX4_lettersOnTheirWay 46 = .ok (.iinc 2 1, 3) := by decide +kernel
theorem ni_dX4_lettersOnTheirWay_49 : decode cX4_lettersOnTheirWay 49 = .ok (.goto (-45), 3) := by decide +kernel
theorem ni_dX4_lettersOnTheirWay_52 : decode cX4_lettersOnTheirWay 52 = .ok (.iload_n 1, 1) := by decide +kernel
theorem ni_dX4_lettersOnTheirWay_53 : decode cX4_lettersOnTheirWay 53 = .ok (.ireturn, 1) := by decide +kernel
theorem ni_dX4_linkAt_0 : decode cX4_linkAt 0 = .ok (.iload_n 1, 1) := by decide +kernel
theorem ni_dX4_linkAt_1 : decode cX4_linkAt 1 = .ok (.istore_n 2, 1) := by decide +kernel
theorem ni_dX4_linkAt_2 : decode cX4_linkAt 2 = .ok (.iconst 0, 1) := by decide +kernel
theorem ni_dX4_linkAt_3 : decode cX4_linkAt 3 = .ok (.istore_n 3, 1) := by decide +kernel
theorem ni_dX4_linkAt_4 : decode cX4_linkAt 4 = .ok (.iload_n 3, 1) := by decide +kernel
theorem ni_dX4_linkAt_5 : decode cX4_linkAt 5 = .ok (.bipush 14, 2) := by decide +kernel
theorem ni_dX4_linkAt_7 : decode cX4_linkAt 7 = .ok (.if_icmp .ge 26, 3) := by decide +kernel
theorem ni_dX4_linkAt_10 : decode cX4_linkAt 10 = .ok (.iload_n 0, 1) := by decide +kernel
theorem ni_dX4_linkAt_11 : decode cX4_linkAt 11 = .ok (.iload_n 3, 1) := by decide +kernel
theorem ni_dX4_linkAt_12 : decode cX4_linkAt 12 = .ok (.ishr, 1) := by decide +kernel
theorem ni_dX4_linkAt_13 : decode cX4_linkAt 13 = .ok (.iconst 1, 1) := by decide +kernel
theorem ni_dX4_linkAt_14 : decode cX4_linkAt 14 = .ok (.iand, 1) := by decide +kernel
theorem ni_dX4_linkAt_15 : decode cX4_linkAt 15 = .ok (.ifCond .eq 12, 3) := by decide +kernel
theorem ni_dX4_linkAt_18 : decode cX4_linkAt 18 = .ok (.iload_n 2, 1) := by decide +kernel
theorem ni_dX4_linkAt_19 : decode cX4_linkAt 19 = .ok (.ifCond .ne 5, 3) := by decide +kernel
theorem ni_dX4_linkAt_22 : decode cX4_linkAt 22 = .ok (.iload_n 3, 1) := by decide +kernel
theorem ni_dX4_linkAt_23 : decode cX4_linkAt 23 = .ok (.ireturn, 1) := by decide +kernel
theorem ni_dX4_linkAt_24 : decode cX4_linkAt 24 = .ok (.iinc 2 (-1), 3) := by decide +kernel
theorem ni_dX4_linkAt_27 : decode cX4_linkAt 27 = .ok (.iinc 3 1, 3) := by decide +kernel
theorem ni_dX4_linkAt_30 : decode cX4_linkAt 30 = .ok (.goto (-26), 3) := by decide +kernel
theorem ni_dX4_linkAt_33 : decode cX4_linkAt 33 = .ok (.iconst (-1), 1) := by decide +kernel
theorem ni_dX4_linkAt_34 : decode cX4_linkAt 34 = .ok (.ireturn, 1) := by decide +kernel
theorem ni_dX4_linkToward_0 : decode cX4_linkToward 0 = .ok (.aload_n 0, 1) := by decide +kernel
theorem ni_dX4_linkToward_1 : decode cX4_linkToward 1 = .ok (.getfield 11, 3) := by decide +kernel
theorem ni_dX4_linkToward_4 : decode cX4_linkToward 4 = .ok (.iload_n 1, 1) := by decide +kernel
theorem ni_dX4_linkToward_5 : decode cX4_linkToward 5 = .ok (.aaload, 1) := by decide +kernel
theorem ni_dX4_linkToward_6 : decode cX4_linkToward 6 = .ok (.getfield 264, 3) := by decide +kernel
theorem ni_dX4_linkToward_9 : decode cX4_linkToward 9 = .ok (.astore_n 3, 1) := by decide +kernel
theorem ni_dX4_linkToward_10 : decode cX4_linkToward 10 = .ok (.aload_n 3, 1) := by decide +kernel
theorem ni_dX4_linkToward_11 : decode cX4_linkToward 11 = .ok (.aload_n 0, 1) := by decide +kernel
theorem ni_dX4_linkToward_12 : decode cX4_linkToward 12 = .ok (.getfield 25, 3) := by decide +kernel
theorem ni_dX4_linkToward_15 : decode cX4_linkToward 15 = .ok (.iload_n 2, 1) := by decide +kernel
theorem ni_dX4_linkToward_16 : decode cX4_linkToward 16 = .ok (.aaload, 1) := by decide +kernel
