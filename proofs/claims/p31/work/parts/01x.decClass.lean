theorem dX0_init_0 : decode cX0_init 0 = .ok (.aload_n 0, 1) := by decide +kernel
theorem dX0_init_1 : decode cX0_init 1 = .ok (.invokespecial 3, 3) := by decide +kernel
theorem dX0_init_4 : decode cX0_init 4 = .ok (.aload_n 0, 1) := by decide +kernel
theorem dX0_init_5 : decode cX0_init 5 = .ok (.bipush 63, 2) := by decide +kernel
theorem dX0_init_7 : decode cX0_init 7 = .ok (.putfield 11, 3) := by decide +kernel
theorem dX0_init_10 : decode cX0_init 10 = .ok (.aload_n 0, 1) := by decide +kernel
theorem dX0_init_11 : decode cX0_init 11 = .ok (.bipush (-9), 2) := by decide +kernel
theorem dX0_init_13 : decode cX0_init 13 = .ok (.putfield 15, 3) := by decide +kernel
theorem dX0_init_16 : decode cX0_init 16 = .ok (.aload_n 0, 1) := by decide +kernel
theorem dX0_init_17 : decode cX0_init 17 = .ok (.bipush 10, 2) := by decide +kernel
theorem dX0_init_19 : decode cX0_init 19 = .ok (.putfield 18, 3) := by decide +kernel
theorem dX0_init_22 : decode cX0_init 22 = .ok (.return_, 1) := by decide +kernel
theorem dX0_exists_0 : decode cX0_exists 0 = .ok (.iload_n 0, 1) := by decide +kernel
theorem dX0_exists_1 : decode cX0_exists 1 = .ok (.ifCond .eq 8, 3) := by decide +kernel
theorem dX0_exists_4 : decode cX0_exists 4 = .ok (.iload_n 0, 1) := by decide +kernel
theorem dX0_exists_5 : decode cX0_exists 5 = .ok (.iconst 1, 1) := by decide +kernel
theorem dX0_exists_6 : decode cX0_exists 6 = .ok (.if_icmp .ne 7, 3) := by decide +kernel
theorem dX0_exists_9 : decode cX0_exists 9 = .ok (.iconst 1, 1) := by decide +kernel
theorem dX0_exists_10 : decode cX0_exists 10 = .ok (.goto 4, 3) := by decide +kernel
theorem dX0_exists_13 : decode cX0_exists 13 = .ok (.iconst 0, 1) := by decide +kernel
theorem dX0_exists_14 : decode cX0_exists 14 = .ok (.ireturn, 1) := by decide +kernel
theorem dX0_isCard_0 : decode cX0_isCard 0 = .ok (.iload_n 0, 1) := by decide +kernel
theorem dX0_isCard_1 : decode cX0_isCard 1 = .ok (.ifCond .lt 13, 3) := by decide +kernel
theorem dX0_isCard_4 : decode cX0_isCard 4 = .ok (.iload_n 0, 1) := by decide +kernel
theorem dX0_isCard_5 : decode cX0_isCard 5 = .ok (.bipush 6, 2) := by decide +kernel
theorem dX0_isCard_7 : decode cX0_isCard 7 = .ok (.if_icmp .ge 7, 3) := by decide +kernel
theorem dX0_isCard_10 : decode cX0_isCard 10 = .ok (.iconst 1, 1) := by decide +kernel
theorem dX0_isCard_11 : decode cX0_isCard 11 = .ok (.goto 4, 3) := by decide +kernel
theorem dX0_isCard_14 : decode cX0_isCard 14 = .ok (.iconst 0, 1) := by decide +kernel
theorem dX0_isCard_15 : decode cX0_isCard 15 = .ok (.ireturn, 1) := by decide +kernel
theorem dX0_copyFrom_0 : decode cX0_copyFrom 0 = .ok (.aload_n 0, 1) := by decide +kernel
theorem dX0_copyFrom_1 : decode cX0_copyFrom 1 = .ok (.aload_n 1, 1) := by decide +kernel
theorem dX0_copyFrom_2 : decode cX0_copyFrom 2 = .ok (.getfield 11, 3) := by decide +kernel
theorem dX0_copyFrom_5 : decode cX0_copyFrom 5 = .ok (.putfield 11, 3) := by decide +kernel
theorem dX0_copyFrom_8 : decode cX0_copyFrom 8 = .ok (.aload_n 0, 1) := by decide +kernel
theorem dX0_copyFrom_9 : decode cX0_copyFrom 9 = .ok (.aload_n 1, 1) := by decide +kernel
theorem dX0_copyFrom_10 : decode cX0_copyFrom 10 = .ok (.getfield 15, 3) := by decide +kernel
theorem dX0_copyFrom_13 : decode cX0_copyFrom 13 = .ok (.putfield 15, 3) := by decide +kernel
theorem dX0_copyFrom_16 : decode cX0_copyFrom 16 = .ok (.aload_n 0, 1) := by decide +kernel
theorem dX0_copyFrom_17 : decode cX0_copyFrom 17 = .ok (.aload_n 1, 1) := by decide +kernel
theorem dX0_copyFrom_18 : decode cX0_copyFrom 18 = .ok (.getfield 18, 3) := by decide +kernel
theorem dX0_copyFrom_21 : decode cX0_copyFrom 21 = .ok (.putfield 18, 3) := by decide +kernel
theorem dX0_copyFrom_24 : decode cX0_copyFrom 24 = .ok (.return_, 1) := by decide +kernel
theorem dX0_holds_0 : decode cX0_holds 0 = .ok (.iload_n 1, 1) := by decide +kernel
theorem dX0_holds_1 : decode cX0_holds 1 = .ok (.invokestatic 21, 3) := by decide +kernel
theorem dX0_holds_4 : decode cX0_holds 4 = .ok (.ifCond .eq 19, 3) := by decide +kernel
theorem dX0_holds_7 : decode cX0_holds 7 = .ok (.aload_n 0, 1) := by decide +kernel
theorem dX0_holds_8 : decode cX0_holds 8 = .ok (.getfield 11, 3) := by decide +kernel
theorem dX0_holds_11 : decode cX0_holds 11 = .ok (.iload_n 1, 1) := by decide +kernel
theorem dX0_holds_12 : decode cX0_holds 12 = .ok (.ishr, 1) := by decide +kernel
theorem dX0_holds_13 : decode cX0_holds 13 = .ok (.iconst 1, 1) := by decide +kernel
theorem dX0_holds_14 : decode cX0_holds 14 = .ok (.iand, 1) := by decide +kernel
theorem dX0_holds_15 : decode cX0_holds 15 = .ok (.iconst 1, 1) := by decide +kernel
theorem dX0_holds_16 : decode cX0_holds 16 = .ok (.if_icmp .ne 7, 3) := by decide +kernel
theorem dX0_holds_19 : decode cX0_holds 19 = .ok (.iconst 1, 1) := by decide +kernel
theorem dX0_holds_20 : decode cX0_holds 20 = .ok (.goto 4, 3) := by decide +kernel
theorem dX0_holds_23 : decode cX0_holds 23 = .ok (.iconst 0, 1) := by decide +kernel
theorem dX0_holds_24 : decode cX0_holds 24 = .ok (.ireturn, 1) := by decide +kernel
theorem dX0_layDownCard_0 : decode cX0_layDownCard 0 = .ok (.aload_n 0, 1) := by decide +kernel
theorem dX0_layDownCard_1 : decode cX0_layDownCard 1 = .ok (.aload_n 0, 1) := by decide +kernel
theorem dX0_layDownCard_2 : decode cX0_layDownCard 2 = .ok (.getfield 15, 3) := by decide +kernel
theorem dX0_layDownCard_5 : decode cX0_layDownCard 5 = .ok (.invokevirtual 25, 3) := by decide +kernel
theorem dX0_layDownCard_8 : decode cX0_layDownCard 8 = .ok (.ifCond .eq 18, 3) := by decide +kernel
theorem dX0_layDownCard_11 : decode cX0_layDownCard 11 = .ok (.aload_n 0, 1) := by decide +kernel
theorem dX0_layDownCard_12 : decode cX0_layDownCard 12 = .ok (.dup, 1) := by decide +kernel
theorem dX0_layDownCard_13 : decode cX0_layDownCard 13 = .ok (.getfield 11, 3) := by decide +kernel
theorem dX0_layDownCard_16 : decode cX0_layDownCard 16 = .ok (.iconst 1, 1) := by decide +kernel
theorem dX0_layDownCard_17 : decode cX0_layDownCard 17 = .ok (.aload_n 0, 1) := by decide +kernel
theorem dX0_layDownCard_18 : decode cX0_layDownCard 18 = .ok (.getfield 15, 3) := by decide +kernel
theorem dX0_layDownCard_21 : decode cX0_layDownCard 21 = .ok (.ishl, 1) := by decide +kernel
theorem dX0_layDownCard_22 : decode cX0_layDownCard 22 = .ok (.isub, 1) := by decide +kernel
theorem dX0_layDownCard_23 : decode cX0_layDownCard 23 = .ok (.putfield 11, 3) := by decide +kernel
theorem dX0_layDownCard_26 : decode cX0_layDownCard 26 = .ok (.aload_n 0, 1) := by decide +kernel
theorem dX0_layDownCard_27 : decode cX0_layDownCard 27 = .ok (.bipush (-9), 2) := by decide +kernel
theorem dX0_layDownCard_29 : decode cX0_layDownCard 29 = .ok (.putfield 15, 3) := by decide +kernel
theorem dX0_layDownCard_32 : decode cX0_layDownCard 32 = .ok (.aload_n 0, 1) := by decide +kernel
theorem dX0_layDownCard_33 : decode cX0_layDownCard 33 = .ok (.getfield 11, 3) := by decide +kernel
theorem dX0_layDownCard_36 : decode cX0_layDownCard 36 = .ok (.ifCond .ne 9, 3) := by decide +kernel
theorem dX0_layDownCard_39 : decode cX0_layDownCard 39 = .ok (.aload_n 0, 1) := by decide +kernel
theorem dX0_layDownCard_40 : decode cX0_layDownCard 40 = .ok (.bipush 63, 2) := by decide +kernel
theorem dX0_layDownCard_42 : decode cX0_layDownCard 42 = .ok (.putfield 11, 3) := by decide +kernel
theorem dX0_layDownCard_45 : decode cX0_layDownCard 45 = .ok (.return_, 1) := by decide +kernel
theorem dX1_init_0 : decode cX1_init 0 = .ok (.aload_n 0, 1) := by decide +kernel
theorem dX1_init_1 : decode cX1_init 1 = .ok (.invokespecial 3, 3) := by decide +kernel
theorem dX1_init_4 : decode cX1_init 4 = .ok (.aload_n 0, 1) := by decide +kernel
theorem dX1_init_5 : decode cX1_init 5 = .ok (.iconst 2, 1) := by decide +kernel
theorem dX1_init_6 : decode cX1_init 6 = .ok (.putfield 9, 3) := by decide +kernel
theorem dX1_init_9 : decode cX1_init 9 = .ok (.aload_n 0, 1) := by decide +kernel
theorem dX1_init_10 : decode cX1_init 10 = .ok (.new 15, 3) := by decide +kernel
theorem dX1_init_13 : decode cX1_init 13 = .ok (.dup, 1) := by decide +kernel
theorem dX1_init_14 : decode cX1_init 14 = .ok (.invokespecial 17, 3) := by decide +kernel
theorem dX1_init_17 : decode cX1_init 17 = .ok (.putfield 18, 3) := by decide +kernel
theorem dX1_init_20 : decode cX1_init 20 = .ok (.aload_n 0, 1) := by decide +kernel
theorem dX1_init_21 : decode cX1_init 21 = .ok (.new 15, 3) := by decide +kernel
theorem dX1_init_24 : decode cX1_init 24 = .ok (.dup, 1) := by decide +kernel
theorem dX1_init_25 : decode cX1_init 25 = .ok (.invokespecial 17, 3) := by decide +kernel
theorem dX1_init_28 : decode cX1_init 28 = .ok (.putfield 22, 3) := by decide +kernel
theorem dX1_init_31 : decode cX1_init 31 = .ok (.aload_n 0, 1) := by decide +kernel
theorem dX1_init_32 : decode cX1_init 32 = .ok (.bipush 81, 2) := by decide +kernel
theorem dX1_init_34 : decode cX1_init 34 = .ok (.newarray .int, 2) := by decide +kernel
theorem dX1_init_36 : decode cX1_init 36 = .ok (.putfield 27, 3) := by decide +kernel
theorem dX1_init_39 : decode cX1_init 39 = .ok (.aload_n 0, 1) := by decide +kernel
theorem dX1_init_40 : decode cX1_init 40 = .ok (.bipush 8, 2) := by decide +kernel
theorem dX1_init_42 : decode cX1_init 42 = .ok (.anewarray 31, 3) := by decide +kernel
theorem dX1_init_45 : decode cX1_init 45 = .ok (.putfield 33, 3) := by decide +kernel
theorem dX1_init_48 : decode cX1_init 48 = .ok (.iconst 0, 1) := by decide +kernel
theorem dX1_init_49 : decode cX1_init 49 = .ok (.istore_n 1, 1) := by decide +kernel
theorem dX1_init_50 : decode cX1_init 50 = .ok (.iload_n 1, 1) := by decide +kernel
theorem dX1_init_51 : decode cX1_init 51 = .ok (.aload_n 0, 1) := by decide +kernel
theorem dX1_init_52 : decode cX1_init 52 = .ok (.getfield 33, 3) := by decide +kernel
theorem dX1_init_55 : decode cX1_init 55 = .ok (.arraylength, 1) := by decide +kernel
theorem dX1_init_56 : decode cX1_init 56 = .ok (.if_icmp .ge 23, 3) := by decide +kernel
theorem dX1_init_59 : decode cX1_init 59 = .ok (.aload_n 0, 1) := by decide +kernel
theorem dX1_init_60 : decode cX1_init 60 = .ok (.getfield 33, 3) := by decide +kernel
theorem dX1_init_63 : decode cX1_init 63 = .ok (.iload_n 1, 1) := by decide +kernel
theorem dX1_init_64 : decode cX1_init 64 = .ok (.new 31, 3) := by decide +kernel
theorem dX1_init_67 : decode cX1_init 67 = .ok (.dup, 1) := by decide +kernel
theorem dX1_init_68 : decode cX1_init 68 = .ok (.iload_n 1, 1) := by decide +kernel
theorem dX1_init_69 : decode cX1_init 69 = .ok (.invokespecial 37, 3) := by decide +kernel
theorem dX1_init_72 : decode cX1_init 72 = .ok (.aastore, 1) := by decide +kernel
theorem dX1_init_73 : decode cX1_init 73 = .ok (.iinc 1 1, 3) := by decide +kernel
theorem dX1_init_76 : decode cX1_init 76 = .ok (.goto (-26), 3) := by decide +kernel
theorem dX1_init_79 : decode cX1_init 79 = .ok (.return_, 1) := by decide +kernel
theorem dX1_copyFrom_0 : decode cX1_copyFrom 0 = .ok (.aload_n 0, 1) := by decide +kernel
theorem dX1_copyFrom_1 : decode cX1_copyFrom 1 = .ok (.aload_n 1, 1) := by decide +kernel
theorem dX1_copyFrom_2 : decode cX1_copyFrom 2 = .ok (.getfield 40, 3) := by decide +kernel
theorem dX1_copyFrom_5 : decode cX1_copyFrom 5 = .ok (.putfield 40, 3) := by decide +kernel
theorem dX1_copyFrom_8 : decode cX1_copyFrom 8 = .ok (.aload_n 0, 1) := by decide +kernel
theorem dX1_copyFrom_9 : decode cX1_copyFrom 9 = .ok (.aload_n 1, 1) := by decide +kernel
theorem dX1_copyFrom_10 : decode cX1_copyFrom 10 = .ok (.getfield 43, 3) := by decide +kernel
theorem dX1_copyFrom_13 : decode cX1_copyFrom 13 = .ok (.putfield 43, 3) := by decide +kernel
theorem dX1_copyFrom_16 : decode cX1_copyFrom 16 = .ok (.aload_n 0, 1) := by decide +kernel
theorem dX1_copyFrom_17 : decode cX1_copyFrom 17 = .ok (.aload_n 1, 1) := by decide +kernel
theorem dX1_copyFrom_18 : decode cX1_copyFrom 18 = .ok (.getfield 47, 3) := by decide +kernel
theorem dX1_copyFrom_21 : decode cX1_copyFrom 21 = .ok (.putfield 47, 3) := by decide +kernel
theorem dX1_copyFrom_24 : decode cX1_copyFrom 24 = .ok (.aload_n 0, 1) := by decide +kernel
theorem dX1_copyFrom_25 : decode cX1_copyFrom 25 = .ok (.aload_n 1, 1) := by decide +kernel
theorem dX1_copyFrom_26 : decode cX1_copyFrom 26 = .ok (.getfield 9, 3) := by decide +kernel
theorem dX1_copyFrom_29 : decode cX1_copyFrom 29 = .ok (.putfield 9, 3) := by decide +kernel
theorem dX1_copyFrom_32 : decode cX1_copyFrom 32 = .ok (.aload_n 0, 1) := by decide +kernel
theorem dX1_copyFrom_33 : decode cX1_copyFrom 33 = .ok (.aload_n 1, 1) := by decide +kernel
theorem dX1_copyFrom_34 : decode cX1_copyFrom 34 = .ok (.getfield 50, 3) := by decide +kernel
theorem dX1_copyFrom_37 : decode cX1_copyFrom 37 = .ok (.putfield 50, 3) := by decide +kernel
theorem dX1_copyFrom_40 : decode cX1_copyFrom 40 = .ok (.aload_n 0, 1) := by decide +kernel
theorem dX1_copyFrom_41 : decode cX1_copyFrom 41 = .ok (.aload_n 1, 1) := by decide +kernel
theorem dX1_copyFrom_42 : decode cX1_copyFrom 42 = .ok (.getfield 53, 3) := by decide +kernel
theorem dX1_copyFrom_45 : decode cX1_copyFrom 45 = .ok (.putfield 53, 3) := by decide +kernel
theorem dX1_copyFrom_48 : decode cX1_copyFrom 48 = .ok (.aload_n 0, 1) := by decide +kernel
theorem dX1_copyFrom_49 : decode cX1_copyFrom 49 = .ok (.getfield 18, 3) := by decide +kernel
theorem dX1_copyFrom_52 : decode cX1_copyFrom 52 = .ok (.aload_n 1, 1) := by decide +kernel
theorem dX1_copyFrom_53 : decode cX1_copyFrom 53 = .ok (.getfield 18, 3) := by decide +kernel
theorem dX1_copyFrom_56 : decode cX1_copyFrom 56 = .ok (.invokevirtual 56, 3) := by decide +kernel
theorem dX1_copyFrom_59 : decode cX1_copyFrom 59 = .ok (.aload_n 0, 1) := by decide +kernel
theorem dX1_copyFrom_60 : decode cX1_copyFrom 60 = .ok (.getfield 22, 3) := by decide +kernel
theorem dX1_copyFrom_63 : decode cX1_copyFrom 63 = .ok (.aload_n 1, 1) := by decide +kernel
theorem dX1_copyFrom_64 : decode cX1_copyFrom 64 = .ok (.getfield 22, 3) := by decide +kernel
theorem dX1_copyFrom_67 : decode cX1_copyFrom 67 = .ok (.invokevirtual 56, 3) := by decide +kernel
theorem dX1_copyFrom_70 : decode cX1_copyFrom 70 = .ok (.aload_n 1, 1) := by decide +kernel
theorem dX1_copyFrom_71 : decode cX1_copyFrom 71 = .ok (.getfield 27, 3) := by decide +kernel
theorem dX1_copyFrom_74 : decode cX1_copyFrom 74 = .ok (.iconst 0, 1) := by decide +kernel
theorem dX1_copyFrom_75 : decode cX1_copyFrom 75 = .ok (.aload_n 0, 1) := by decide +kernel
theorem dX1_copyFrom_76 : decode cX1_copyFrom 76 = .ok (.getfield 27, 3) := by decide +kernel
theorem dX1_copyFrom_79 : decode cX1_copyFrom 79 = .ok (.iconst 0, 1) := by decide +kernel
theorem dX1_copyFrom_80 : decode cX1_copyFrom 80 = .ok (.bipush 81, 2) := by decide +kernel
theorem dX1_copyFrom_82 : decode cX1_copyFrom 82 = .ok (.invokestatic 60, 3) := by decide +kernel
theorem dX1_copyFrom_85 : decode cX1_copyFrom 85 = .ok (.iconst 0, 1) := by decide +kernel
theorem dX1_copyFrom_86 : decode cX1_copyFrom 86 = .ok (.istore_n 2, 1) := by decide +kernel
theorem dX1_copyFrom_87 : decode cX1_copyFrom 87 = .ok (.iload_n 2, 1) := by decide +kernel
theorem dX1_copyFrom_88 : decode cX1_copyFrom 88 = .ok (.bipush 8, 2) := by decide +kernel
theorem dX1_copyFrom_90 : decode cX1_copyFrom 90 = .ok (.if_icmp .ge 24, 3) := by decide +kernel
theorem dX1_copyFrom_93 : decode cX1_copyFrom 93 = .ok (.aload_n 0, 1) := by decide +kernel
theorem dX1_copyFrom_94 : decode cX1_copyFrom 94 = .ok (.getfield 33, 3) := by decide +kernel
theorem dX1_copyFrom_97 : decode cX1_copyFrom 97 = .ok (.iload_n 2, 1) := by decide +kernel
theorem dX1_copyFrom_98 : decode cX1_copyFrom 98 = .ok (.aaload, 1) := by decide +kernel
theorem dX1_copyFrom_99 : decode cX1_copyFrom 99 = .ok (.aload_n 1, 1) := by decide +kernel
theorem dX1_copyFrom_100 : decode cX1_copyFrom 100 = .ok (.getfield 33, 3) := by decide +kernel
theorem dX1_copyFrom_103 : decode cX1_copyFrom 103 = .ok (.iload_n 2, 1) := by decide +kernel
theorem dX1_copyFrom_104 : decode cX1_copyFrom 104 = .ok (.aaload, 1) := by decide +kernel
theorem dX1_copyFrom_105 : decode cX1_copyFrom 105 = .ok (.invokevirtual 66, 3) := by decide +kernel
theorem dX1_copyFrom_108 : decode cX1_copyFrom 108 = .ok (.iinc 2 1, 3) := by decide +kernel
theorem dX1_copyFrom_111 : decode cX1_copyFrom 111 = .ok (.goto (-24), 3) := by decide +kernel
theorem dX1_copyFrom_114 : decode cX1_copyFrom 114 = .ok (.return_, 1) := by decide +kernel
theorem dX1_turn_0 : decode cX1_turn 0 = .ok (.aload_n 0, 1) := by decide +kernel
theorem dX1_turn_1 : decode cX1_turn 1 = .ok (.getfield 40, 3) := by decide +kernel
theorem dX1_turn_4 : decode cX1_turn 4 = .ok (.ireturn, 1) := by decide +kernel
theorem dX1_captainOf_0 : decode cX1_captainOf 0 = .ok (.iload_n 1, 1) := by decide +kernel
theorem dX1_captainOf_1 : decode cX1_captainOf 1 = .ok (.ifCond .ne 10, 3) := by decide +kernel
theorem dX1_captainOf_4 : decode cX1_captainOf 4 = .ok (.aload_n 0, 1) := by decide +kernel
theorem dX1_captainOf_5 : decode cX1_captainOf 5 = .ok (.getfield 18, 3) := by decide +kernel
theorem dX1_captainOf_8 : decode cX1_captainOf 8 = .ok (.goto 7, 3) := by decide +kernel
theorem dX1_captainOf_11 : decode cX1_captainOf 11 = .ok (.aload_n 0, 1) := by decide +kernel
theorem dX1_captainOf_12 : decode cX1_captainOf 12 = .ok (.getfield 22, 3) := by decide +kernel
theorem dX1_captainOf_15 : decode cX1_captainOf 15 = .ok (.areturn, 1) := by decide +kernel
theorem dX1_known_0 : decode cX1_known 0 = .ok (.iload_n 1, 1) := by decide +kernel
theorem dX1_known_1 : decode cX1_known 1 = .ok (.ifCond .lt 29, 3) := by decide +kernel
theorem dX1_known_4 : decode cX1_known 4 = .ok (.iload_n 1, 1) := by decide +kernel
theorem dX1_known_5 : decode cX1_known 5 = .ok (.aload_n 0, 1) := by decide +kernel
theorem dX1_known_6 : decode cX1_known 6 = .ok (.getfield 50, 3) := by decide +kernel
theorem dX1_known_9 : decode cX1_known 9 = .ok (.if_icmp .ge 21, 3) := by decide +kernel
theorem dX1_known_12 : decode cX1_known 12 = .ok (.iload_n 1, 1) := by decide +kernel
theorem dX1_known_13 : decode cX1_known 13 = .ok (.aload_n 0, 1) := by decide +kernel
theorem dX1_known_14 : decode cX1_known 14 = .ok (.getfield 33, 3) := by decide +kernel
theorem dX1_known_17 : decode cX1_known 17 = .ok (.arraylength, 1) := by decide +kernel
theorem dX1_known_18 : decode cX1_known 18 = .ok (.if_icmp .ge 12, 3) := by decide +kernel
theorem dX1_known_21 : decode cX1_known 21 = .ok (.aload_n 0, 1) := by decide +kernel
theorem dX1_known_22 : decode cX1_known 22 = .ok (.getfield 33, 3) := by decide +kernel
theorem dX1_known_25 : decode cX1_known 25 = .ok (.iload_n 1, 1) := by decide +kernel
theorem dX1_known_26 : decode cX1_known 26 = .ok (.aaload, 1) := by decide +kernel
theorem dX1_known_27 : decode cX1_known 27 = .ok (.goto 4, 3) := by decide +kernel
theorem dX1_known_30 : decode cX1_known 30 = .ok (.aconst_null, 1) := by decide +kernel
theorem dX1_known_31 : decode cX1_known 31 = .ok (.areturn, 1) := by decide +kernel
theorem dX1_shipOn_0 : decode cX1_shipOn 0 = .ok (.aload_n 0, 1) := by decide +kernel
theorem dX1_shipOn_1 : decode cX1_shipOn 1 = .ok (.getfield 33, 3) := by decide +kernel
theorem dX1_shipOn_4 : decode cX1_shipOn 4 = .ok (.astore_n 2, 1) := by decide +kernel
theorem dX1_shipOn_5 : decode cX1_shipOn 5 = .ok (.aload_n 2, 1) := by decide +kernel
theorem dX1_shipOn_6 : decode cX1_shipOn 6 = .ok (.arraylength, 1) := by decide +kernel
theorem dX1_shipOn_7 : decode cX1_shipOn 7 = .ok (.istore_n 3, 1) := by decide +kernel
theorem dX1_shipOn_8 : decode cX1_shipOn 8 = .ok (.iconst 0, 1) := by decide +kernel
theorem dX1_shipOn_9 : decode cX1_shipOn 9 = .ok (.istore 4, 2) := by decide +kernel
theorem dX1_shipOn_11 : decode cX1_shipOn 11 = .ok (.iload 4, 2) := by decide +kernel
theorem dX1_shipOn_13 : decode cX1_shipOn 13 = .ok (.iload_n 3, 1) := by decide +kernel
theorem dX1_shipOn_14 : decode cX1_shipOn 14 = .ok (.if_icmp .ge 35, 3) := by decide +kernel
theorem dX1_shipOn_17 : decode cX1_shipOn 17 = .ok (.aload_n 2, 1) := by decide +kernel
theorem dX1_shipOn_18 : decode cX1_shipOn 18 = .ok (.iload 4, 2) := by decide +kernel
theorem dX1_shipOn_20 : decode cX1_shipOn 20 = .ok (.aaload, 1) := by decide +kernel
theorem dX1_shipOn_21 : decode cX1_shipOn 21 = .ok (.astore 5, 2) := by decide +kernel
theorem dX1_shipOn_23 : decode cX1_shipOn 23 = .ok (.aload 5, 2) := by decide +kernel
theorem dX1_shipOn_25 : decode cX1_shipOn 25 = .ok (.invokevirtual 69, 3) := by decide +kernel
theorem dX1_shipOn_28 : decode cX1_shipOn 28 = .ok (.ifCond .eq 15, 3) := by decide +kernel
theorem dX1_shipOn_31 : decode cX1_shipOn 31 = .ok (.aload 5, 2) := by decide +kernel
theorem dX1_shipOn_33 : decode cX1_shipOn 33 = .ok (.getfield 73, 3) := by decide +kernel
theorem dX1_shipOn_36 : decode cX1_shipOn 36 = .ok (.iload_n 1, 1) := by decide +kernel
theorem dX1_shipOn_37 : decode cX1_shipOn 37 = .ok (.if_icmp .ne 6, 3) := by decide +kernel
theorem dX1_shipOn_40 : decode cX1_shipOn 40 = .ok (.aload 5, 2) := by decide +kernel
theorem dX1_shipOn_42 : decode cX1_shipOn 42 = .ok (.areturn, 1) := by decide +kernel
theorem dX1_shipOn_43 : decode cX1_shipOn 43 = .ok (.iinc 4 1, 3) := by decide +kernel
theorem dX1_shipOn_46 : decode cX1_shipOn 46 = .ok (.goto (-35), 3) := by decide +kernel
theorem dX1_shipOn_49 : decode cX1_shipOn 49 = .ok (.aconst_null, 1) := by decide +kernel
theorem dX1_shipOn_50 : decode cX1_shipOn 50 = .ok (.areturn, 1) := by decide +kernel
theorem dX1_isIsland_0 : decode cX1_isIsland 0 = .ok (.iload_n 1, 1) := by decide +kernel
theorem dX1_isIsland_1 : decode cX1_isIsland 1 = .ok (.invokestatic 76, 3) := by decide +kernel
theorem dX1_isIsland_4 : decode cX1_isIsland 4 = .ok (.ifCond .eq 17, 3) := by decide +kernel
theorem dX1_isIsland_7 : decode cX1_isIsland 7 = .ok (.aload_n 0, 1) := by decide +kernel
theorem dX1_isIsland_8 : decode cX1_isIsland 8 = .ok (.getfield 27, 3) := by decide +kernel
theorem dX1_isIsland_11 : decode cX1_isIsland 11 = .ok (.iload_n 1, 1) := by decide +kernel
theorem dX1_isIsland_12 : decode cX1_isIsland 12 = .ok (.iaload, 1) := by decide +kernel
theorem dX1_isIsland_13 : decode cX1_isIsland 13 = .ok (.iconst 1, 1) := by decide +kernel
theorem dX1_isIsland_14 : decode cX1_isIsland 14 = .ok (.if_icmp .ne 7, 3) := by decide +kernel
theorem dX1_isIsland_17 : decode cX1_isIsland 17 = .ok (.iconst 1, 1) := by decide +kernel
theorem dX1_isIsland_18 : decode cX1_isIsland 18 = .ok (.goto 4, 3) := by decide +kernel
theorem dX1_isIsland_21 : decode cX1_isIsland 21 = .ok (.iconst 0, 1) := by decide +kernel
theorem dX1_isIsland_22 : decode cX1_isIsland 22 = .ok (.ireturn, 1) := by decide +kernel
theorem dX1_isFree_0 : decode cX1_isFree 0 = .ok (.iload_n 1, 1) := by decide +kernel
theorem dX1_isFree_1 : decode cX1_isFree 1 = .ok (.invokestatic 76, 3) := by decide +kernel
theorem dX1_isFree_4 : decode cX1_isFree 4 = .ok (.ifCond .eq 23, 3) := by decide +kernel
theorem dX1_isFree_7 : decode cX1_isFree 7 = .ok (.aload_n 0, 1) := by decide +kernel
theorem dX1_isFree_8 : decode cX1_isFree 8 = .ok (.iload_n 1, 1) := by decide +kernel
theorem dX1_isFree_9 : decode cX1_isFree 9 = .ok (.invokevirtual 80, 3) := by decide +kernel
theorem dX1_isFree_12 : decode cX1_isFree 12 = .ok (.ifCond .ne 15, 3) := by decide +kernel
theorem dX1_isFree_15 : decode cX1_isFree 15 = .ok (.aload_n 0, 1) := by decide +kernel
theorem dX1_isFree_16 : decode cX1_isFree 16 = .ok (.iload_n 1, 1) := by decide +kernel
theorem dX1_isFree_17 : decode cX1_isFree 17 = .ok (.invokevirtual 83, 3) := by decide +kernel
theorem dX1_isFree_20 : decode cX1_isFree 20 = .ok (.ifnonnull 7, 3) := by decide +kernel
theorem dX1_isFree_23 : decode cX1_isFree 23 = .ok (.iconst 1, 1) := by decide +kernel
theorem dX1_isFree_24 : decode cX1_isFree 24 = .ok (.goto 4, 3) := by decide +kernel
theorem dX1_isFree_27 : decode cX1_isFree 27 = .ok (.iconst 0, 1) := by decide +kernel
theorem dX1_isFree_28 : decode cX1_isFree 28 = .ok (.ireturn, 1) := by decide +kernel
theorem dX1_hexAhead_0 : decode cX1_hexAhead 0 = .ok (.iload_n 2, 1) := by decide +kernel
theorem dX1_hexAhead_1 : decode cX1_hexAhead 1 = .ok (.iload_n 3, 1) := by decide +kernel
theorem dX1_hexAhead_2 : decode cX1_hexAhead 2 = .ok (.invokestatic 87, 3) := by decide +kernel
theorem dX1_hexAhead_5 : decode cX1_hexAhead 5 = .ok (.istore 4, 2) := by decide +kernel
theorem dX1_hexAhead_7 : decode cX1_hexAhead 7 = .ok (.iload 4, 2) := by decide +kernel
theorem dX1_hexAhead_9 : decode cX1_hexAhead 9 = .ok (.aload_n 1, 1) := by decide +kernel
theorem dX1_hexAhead_10 : decode cX1_hexAhead 10 = .ok (.getfield 73, 3) := by decide +kernel
theorem dX1_hexAhead_13 : decode cX1_hexAhead 13 = .ok (.if_icmp .ne 14, 3) := by decide +kernel
theorem dX1_hexAhead_16 : decode cX1_hexAhead 16 = .ok (.iload 4, 2) := by decide +kernel
theorem dX1_hexAhead_18 : decode cX1_hexAhead 18 = .ok (.bipush (-9), 2) := by decide +kernel
theorem dX1_hexAhead_20 : decode cX1_hexAhead 20 = .ok (.if_icmp .eq 7, 3) := by decide +kernel
theorem dX1_hexAhead_23 : decode cX1_hexAhead 23 = .ok (.iconst 1, 1) := by decide +kernel
theorem dX1_hexAhead_24 : decode cX1_hexAhead 24 = .ok (.goto 4, 3) := by decide +kernel
theorem dX1_hexAhead_27 : decode cX1_hexAhead 27 = .ok (.iconst 0, 1) := by decide +kernel
theorem dX1_hexAhead_28 : decode cX1_hexAhead 28 = .ok (.istore 5, 2) := by decide +kernel
theorem dX1_hexAhead_30 : decode cX1_hexAhead 30 = .ok (.iload 5, 2) := by decide +kernel
theorem dX1_hexAhead_32 : decode cX1_hexAhead 32 = .ok (.ifCond .ne 12, 3) := by decide +kernel
theorem dX1_hexAhead_35 : decode cX1_hexAhead 35 = .ok (.aload_n 0, 1) := by decide +kernel
theorem dX1_hexAhead_36 : decode cX1_hexAhead 36 = .ok (.iload 4, 2) := by decide +kernel
theorem dX1_hexAhead_38 : decode cX1_hexAhead 38 = .ok (.invokevirtual 91, 3) := by decide +kernel
theorem dX1_hexAhead_41 : decode cX1_hexAhead 41 = .ok (.ifCond .eq 8, 3) := by decide +kernel
theorem dX1_hexAhead_44 : decode cX1_hexAhead 44 = .ok (.iload 4, 2) := by decide +kernel
theorem dX1_hexAhead_46 : decode cX1_hexAhead 46 = .ok (.goto 5, 3) := by decide +kernel
theorem dX1_hexAhead_49 : decode cX1_hexAhead 49 = .ok (.bipush (-9), 2) := by decide +kernel
theorem dX1_hexAhead_51 : decode cX1_hexAhead 51 = .ok (.ireturn, 1) := by decide +kernel
theorem dX1_contentOf_0 : decode cX1_contentOf 0 = .ok (.aload_n 0, 1) := by decide +kernel
theorem dX1_contentOf_1 : decode cX1_contentOf 1 = .ok (.iload_n 1, 1) := by decide +kernel
theorem dX1_contentOf_2 : decode cX1_contentOf 2 = .ok (.invokevirtual 80, 3) := by decide +kernel
theorem dX1_contentOf_5 : decode cX1_contentOf 5 = .ok (.ifCond .eq 6, 3) := by decide +kernel
theorem dX1_contentOf_8 : decode cX1_contentOf 8 = .ok (.bipush 8, 2) := by decide +kernel
theorem dX1_contentOf_10 : decode cX1_contentOf 10 = .ok (.ireturn, 1) := by decide +kernel
theorem dX1_contentOf_11 : decode cX1_contentOf 11 = .ok (.aload_n 0, 1) := by decide +kernel
theorem dX1_contentOf_12 : decode cX1_contentOf 12 = .ok (.iload_n 1, 1) := by decide +kernel
theorem dX1_contentOf_13 : decode cX1_contentOf 13 = .ok (.invokevirtual 83, 3) := by decide +kernel
theorem dX1_contentOf_16 : decode cX1_contentOf 16 = .ok (.astore_n 2, 1) := by decide +kernel
theorem dX1_contentOf_17 : decode cX1_contentOf 17 = .ok (.aload_n 2, 1) := by decide +kernel
theorem dX1_contentOf_18 : decode cX1_contentOf 18 = .ok (.ifnonnull 8, 3) := by decide +kernel
theorem dX1_contentOf_21 : decode cX1_contentOf 21 = .ok (.bipush (-9), 2) := by decide +kernel
theorem dX1_contentOf_23 : decode cX1_contentOf 23 = .ok (.goto 7, 3) := by decide +kernel
theorem dX1_contentOf_26 : decode cX1_contentOf 26 = .ok (.aload_n 2, 1) := by decide +kernel
theorem dX1_contentOf_27 : decode cX1_contentOf 27 = .ok (.getfield 94, 3) := by decide +kernel
theorem dX1_contentOf_30 : decode cX1_contentOf 30 = .ok (.ireturn, 1) := by decide +kernel
theorem dX1_placeIsland_0 : decode cX1_placeIsland 0 = .ok (.iload_n 1, 1) := by decide +kernel
theorem dX1_placeIsland_1 : decode cX1_placeIsland 1 = .ok (.invokestatic 76, 3) := by decide +kernel
theorem dX1_placeIsland_4 : decode cX1_placeIsland 4 = .ok (.ifCond .eq 12, 3) := by decide +kernel
theorem dX1_placeIsland_7 : decode cX1_placeIsland 7 = .ok (.iload_n 2, 1) := by decide +kernel
theorem dX1_placeIsland_8 : decode cX1_placeIsland 8 = .ok (.ifCond .lt 8, 3) := by decide +kernel
theorem dX1_placeIsland_11 : decode cX1_placeIsland 11 = .ok (.iload_n 2, 1) := by decide +kernel
theorem dX1_placeIsland_12 : decode cX1_placeIsland 12 = .ok (.iconst 1, 1) := by decide +kernel
theorem dX1_placeIsland_13 : decode cX1_placeIsland 13 = .ok (.if_icmp .le 5, 3) := by decide +kernel
theorem dX1_placeIsland_16 : decode cX1_placeIsland 16 = .ok (.iconst (-1), 1) := by decide +kernel
theorem dX1_placeIsland_17 : decode cX1_placeIsland 17 = .ok (.ireturn, 1) := by decide +kernel
theorem dX1_placeIsland_18 : decode cX1_placeIsland 18 = .ok (.aload_n 0, 1) := by decide +kernel
theorem dX1_placeIsland_19 : decode cX1_placeIsland 19 = .ok (.iload_n 1, 1) := by decide +kernel
theorem dX1_placeIsland_20 : decode cX1_placeIsland 20 = .ok (.invokevirtual 83, 3) := by decide +kernel
theorem dX1_placeIsland_23 : decode cX1_placeIsland 23 = .ok (.ifnull 6, 3) := by decide +kernel
theorem dX1_placeIsland_26 : decode cX1_placeIsland 26 = .ok (.bipush (-2), 2) := by decide +kernel
theorem dX1_placeIsland_28 : decode cX1_placeIsland 28 = .ok (.ireturn, 1) := by decide +kernel
theorem dX1_placeIsland_29 : decode cX1_placeIsland 29 = .ok (.aload_n 0, 1) := by decide +kernel
theorem dX1_placeIsland_30 : decode cX1_placeIsland 30 = .ok (.getfield 27, 3) := by decide +kernel
theorem dX1_placeIsland_33 : decode cX1_placeIsland 33 = .ok (.iload_n 1, 1) := by decide +kernel
theorem dX1_placeIsland_34 : decode cX1_placeIsland 34 = .ok (.iload_n 2, 1) := by decide +kernel
theorem dX1_placeIsland_35 : decode cX1_placeIsland 35 = .ok (.iastore, 1) := by decide +kernel
theorem dX1_placeIsland_36 : decode cX1_placeIsland 36 = .ok (.aload_n 0, 1) := by decide +kernel
theorem dX1_placeIsland_37 : decode cX1_placeIsland 37 = .ok (.invokevirtual 97, 3) := by decide +kernel
theorem dX1_placeIsland_40 : decode cX1_placeIsland 40 = .ok (.ireturn, 1) := by decide +kernel
theorem dX1_launch_0 : decode cX1_launch 0 = .ok (.iload_n 1, 1) := by decide +kernel
theorem dX1_launch_1 : decode cX1_launch 1 = .ok (.invokestatic 101, 3) := by decide +kernel
theorem dX1_launch_4 : decode cX1_launch 4 = .ok (.ifCond .eq 55, 3) := by decide +kernel
theorem dX1_launch_7 : decode cX1_launch 7 = .ok (.iload_n 2, 1) := by decide +kernel
theorem dX1_launch_8 : decode cX1_launch 8 = .ok (.invokestatic 76, 3) := by decide +kernel
theorem dX1_launch_11 : decode cX1_launch 11 = .ok (.ifCond .eq 48, 3) := by decide +kernel
theorem dX1_launch_14 : decode cX1_launch 14 = .ok (.iload_n 3, 1) := by decide +kernel
theorem dX1_launch_15 : decode cX1_launch 15 = .ok (.invokestatic 102, 3) := by decide +kernel
theorem dX1_launch_18 : decode cX1_launch 18 = .ok (.ifCond .eq 41, 3) := by decide +kernel
theorem dX1_launch_21 : decode cX1_launch 21 = .ok (.iload 4, 2) := by decide +kernel
theorem dX1_launch_23 : decode cX1_launch 23 = .ok (.iconst 1, 1) := by decide +kernel
theorem dX1_launch_24 : decode cX1_launch 24 = .ok (.if_icmp .lt 35, 3) := by decide +kernel
theorem dX1_launch_27 : decode cX1_launch 27 = .ok (.iload 4, 2) := by decide +kernel
theorem dX1_launch_29 : decode cX1_launch 29 = .ok (.bipush 8, 2) := by decide +kernel
theorem dX1_launch_31 : decode cX1_launch 31 = .ok (.if_icmp .gt 28, 3) := by decide +kernel
theorem dX1_launch_34 : decode cX1_launch 34 = .ok (.iload 5, 2) := by decide +kernel
theorem dX1_launch_36 : decode cX1_launch 36 = .ok (.iconst 1, 1) := by decide +kernel
theorem dX1_launch_37 : decode cX1_launch 37 = .ok (.if_icmp .lt 22, 3) := by decide +kernel
theorem dX1_launch_40 : decode cX1_launch 40 = .ok (.iload 5, 2) := by decide +kernel
theorem dX1_launch_42 : decode cX1_launch 42 = .ok (.bipush 40, 2) := by decide +kernel
theorem dX1_launch_44 : decode cX1_launch 44 = .ok (.if_icmp .gt 15, 3) := by decide +kernel
theorem dX1_launch_47 : decode cX1_launch 47 = .ok (.iload 6, 2) := by decide +kernel
theorem dX1_launch_49 : decode cX1_launch 49 = .ok (.ifCond .lt 10, 3) := by decide +kernel
theorem dX1_launch_52 : decode cX1_launch 52 = .ok (.iload 6, 2) := by decide +kernel
theorem dX1_launch_54 : decode cX1_launch 54 = .ok (.bipush 9, 2) := by decide +kernel
theorem dX1_launch_56 : decode cX1_launch 56 = .ok (.if_icmp .le 5, 3) := by decide +kernel
theorem dX1_launch_59 : decode cX1_launch 59 = .ok (.iconst (-1), 1) := by decide +kernel
theorem dX1_launch_60 : decode cX1_launch 60 = .ok (.ireturn, 1) := by decide +kernel
theorem dX1_launch_61 : decode cX1_launch 61 = .ok (.aload_n 0, 1) := by decide +kernel
theorem dX1_launch_62 : decode cX1_launch 62 = .ok (.iload_n 2, 1) := by decide +kernel
theorem dX1_launch_63 : decode cX1_launch 63 = .ok (.invokevirtual 91, 3) := by decide +kernel
theorem dX1_launch_66 : decode cX1_launch 66 = .ok (.ifCond .ne 6, 3) := by decide +kernel
theorem dX1_launch_69 : decode cX1_launch 69 = .ok (.bipush (-2), 2) := by decide +kernel
theorem dX1_launch_71 : decode cX1_launch 71 = .ok (.ireturn, 1) := by decide +kernel
theorem dX1_launch_72 : decode cX1_launch 72 = .ok (.aload_n 0, 1) := by decide +kernel
theorem dX1_launch_73 : decode cX1_launch 73 = .ok (.getfield 50, 3) := by decide +kernel
theorem dX1_launch_76 : decode cX1_launch 76 = .ok (.aload_n 0, 1) := by decide +kernel
theorem dX1_launch_77 : decode cX1_launch 77 = .ok (.getfield 33, 3) := by decide +kernel
theorem dX1_launch_80 : decode cX1_launch 80 = .ok (.arraylength, 1) := by decide +kernel
theorem dX1_launch_81 : decode cX1_launch 81 = .ok (.if_icmp .lt 6, 3) := by decide +kernel
theorem dX1_launch_84 : decode cX1_launch 84 = .ok (.bipush (-3), 2) := by decide +kernel
theorem dX1_launch_86 : decode cX1_launch 86 = .ok (.ireturn, 1) := by decide +kernel
theorem dX1_launch_87 : decode cX1_launch 87 = .ok (.aload_n 0, 1) := by decide +kernel
theorem dX1_launch_88 : decode cX1_launch 88 = .ok (.getfield 33, 3) := by decide +kernel
theorem dX1_launch_91 : decode cX1_launch 91 = .ok (.aload_n 0, 1) := by decide +kernel
theorem dX1_launch_92 : decode cX1_launch 92 = .ok (.getfield 50, 3) := by decide +kernel
theorem dX1_launch_95 : decode cX1_launch 95 = .ok (.aaload, 1) := by decide +kernel
theorem dX1_launch_96 : decode cX1_launch 96 = .ok (.astore 7, 2) := by decide +kernel
theorem dX1_launch_98 : decode cX1_launch 98 = .ok (.aload 7, 2) := by decide +kernel
theorem dX1_launch_100 : decode cX1_launch 100 = .ok (.iload_n 1, 1) := by decide +kernel
theorem dX1_launch_101 : decode cX1_launch 101 = .ok (.putfield 105, 3) := by decide +kernel
theorem dX1_launch_104 : decode cX1_launch 104 = .ok (.aload 7, 2) := by decide +kernel
theorem dX1_launch_106 : decode cX1_launch 106 = .ok (.iload_n 2, 1) := by decide +kernel
theorem dX1_launch_107 : decode cX1_launch 107 = .ok (.putfield 73, 3) := by decide +kernel
theorem dX1_launch_110 : decode cX1_launch 110 = .ok (.aload 7, 2) := by decide +kernel
theorem dX1_launch_112 : decode cX1_launch 112 = .ok (.iload_n 3, 1) := by decide +kernel
theorem dX1_launch_113 : decode cX1_launch 113 = .ok (.putfield 108, 3) := by decide +kernel
theorem dX1_launch_116 : decode cX1_launch 116 = .ok (.aload 7, 2) := by decide +kernel
theorem dX1_launch_118 : decode cX1_launch 118 = .ok (.bipush 20, 2) := by decide +kernel
theorem dX1_launch_120 : decode cX1_launch 120 = .ok (.putfield 111, 3) := by decide +kernel
theorem dX1_launch_123 : decode cX1_launch 123 = .ok (.aload 7, 2) := by decide +kernel
theorem dX1_launch_125 : decode cX1_launch 125 = .ok (.iload 4, 2) := by decide +kernel
theorem dX1_launch_127 : decode cX1_launch 127 = .ok (.putfield 114, 3) := by decide +kernel
theorem dX1_launch_130 : decode cX1_launch 130 = .ok (.aload 7, 2) := by decide +kernel
theorem dX1_launch_132 : decode cX1_launch 132 = .ok (.iload 5, 2) := by decide +kernel
theorem dX1_launch_134 : decode cX1_launch 134 = .ok (.putfield 117, 3) := by decide +kernel
theorem dX1_launch_137 : decode cX1_launch 137 = .ok (.aload 7, 2) := by decide +kernel
theorem dX1_launch_139 : decode cX1_launch 139 = .ok (.iload 6, 2) := by decide +kernel
theorem dX1_launch_141 : decode cX1_launch 141 = .ok (.putfield 120, 3) := by decide +kernel
theorem dX1_launch_144 : decode cX1_launch 144 = .ok (.aload_n 0, 1) := by decide +kernel
theorem dX1_launch_145 : decode cX1_launch 145 = .ok (.dup, 1) := by decide +kernel
theorem dX1_launch_146 : decode cX1_launch 146 = .ok (.getfield 50, 3) := by decide +kernel
theorem dX1_launch_149 : decode cX1_launch 149 = .ok (.iconst 1, 1) := by decide +kernel
theorem dX1_launch_150 : decode cX1_launch 150 = .ok (.iadd, 1) := by decide +kernel
theorem dX1_launch_151 : decode cX1_launch 151 = .ok (.putfield 50, 3) := by decide +kernel
theorem dX1_launch_154 : decode cX1_launch 154 = .ok (.aload 7, 2) := by decide +kernel
theorem dX1_launch_156 : decode cX1_launch 156 = .ok (.getfield 94, 3) := by decide +kernel
theorem dX1_launch_159 : decode cX1_launch 159 = .ok (.ireturn, 1) := by decide +kernel
theorem dX1_tellCard_0 : decode cX1_tellCard 0 = .ok (.iload_n 1, 1) := by decide +kernel
theorem dX1_tellCard_1 : decode cX1_tellCard 1 = .ok (.invokestatic 101, 3) := by decide +kernel
theorem dX1_tellCard_4 : decode cX1_tellCard 4 = .ok (.ifCond .eq 10, 3) := by decide +kernel
theorem dX1_tellCard_7 : decode cX1_tellCard 7 = .ok (.iload_n 2, 1) := by decide +kernel
theorem dX1_tellCard_8 : decode cX1_tellCard 8 = .ok (.invokestatic 130, 3) := by decide +kernel
theorem dX1_tellCard_11 : decode cX1_tellCard 11 = .ok (.ifCond .ne 5, 3) := by decide +kernel
theorem dX1_tellCard_14 : decode cX1_tellCard 14 = .ok (.iconst (-1), 1) := by decide +kernel
theorem dX1_tellCard_15 : decode cX1_tellCard 15 = .ok (.ireturn, 1) := by decide +kernel
theorem dX1_tellCard_16 : decode cX1_tellCard 16 = .ok (.aload_n 0, 1) := by decide +kernel
theorem dX1_tellCard_17 : decode cX1_tellCard 17 = .ok (.iload_n 1, 1) := by decide +kernel
theorem dX1_tellCard_18 : decode cX1_tellCard 18 = .ok (.invokevirtual 123, 3) := by decide +kernel
theorem dX1_tellCard_21 : decode cX1_tellCard 21 = .ok (.astore_n 3, 1) := by decide +kernel
theorem dX1_tellCard_22 : decode cX1_tellCard 22 = .ok (.aload_n 0, 1) := by decide +kernel
theorem dX1_tellCard_23 : decode cX1_tellCard 23 = .ok (.getfield 43, 3) := by decide +kernel
theorem dX1_tellCard_26 : decode cX1_tellCard 26 = .ok (.ifCond .ne 20, 3) := by decide +kernel
theorem dX1_tellCard_29 : decode cX1_tellCard 29 = .ok (.aload_n 3, 1) := by decide +kernel
theorem dX1_tellCard_30 : decode cX1_tellCard 30 = .ok (.getfield 133, 3) := by decide +kernel
theorem dX1_tellCard_33 : decode cX1_tellCard 33 = .ok (.bipush (-9), 2) := by decide +kernel
theorem dX1_tellCard_35 : decode cX1_tellCard 35 = .ok (.if_icmp .ne 11, 3) := by decide +kernel
theorem dX1_tellCard_38 : decode cX1_tellCard 38 = .ok (.aload_n 3, 1) := by decide +kernel
theorem dX1_tellCard_39 : decode cX1_tellCard 39 = .ok (.iload_n 2, 1) := by decide +kernel
theorem dX1_tellCard_40 : decode cX1_tellCard 40 = .ok (.invokevirtual 136, 3) := by decide +kernel
theorem dX1_tellCard_43 : decode cX1_tellCard 43 = .ok (.ifCond .ne 6, 3) := by decide +kernel
theorem dX1_tellCard_46 : decode cX1_tellCard 46 = .ok (.bipush (-2), 2) := by decide +kernel
theorem dX1_tellCard_48 : decode cX1_tellCard 48 = .ok (.ireturn, 1) := by decide +kernel
theorem dX1_tellCard_49 : decode cX1_tellCard 49 = .ok (.aload_n 3, 1) := by decide +kernel
theorem dX1_tellCard_50 : decode cX1_tellCard 50 = .ok (.iload_n 2, 1) := by decide +kernel
theorem dX1_tellCard_51 : decode cX1_tellCard 51 = .ok (.putfield 133, 3) := by decide +kernel
theorem dX1_tellCard_54 : decode cX1_tellCard 54 = .ok (.aload_n 0, 1) := by decide +kernel
theorem dX1_tellCard_55 : decode cX1_tellCard 55 = .ok (.getfield 18, 3) := by decide +kernel
theorem dX1_tellCard_58 : decode cX1_tellCard 58 = .ok (.getfield 133, 3) := by decide +kernel
theorem dX1_tellCard_61 : decode cX1_tellCard 61 = .ok (.bipush (-9), 2) := by decide +kernel
theorem dX1_tellCard_63 : decode cX1_tellCard 63 = .ok (.if_icmp .eq 19, 3) := by decide +kernel
theorem dX1_tellCard_66 : decode cX1_tellCard 66 = .ok (.aload_n 0, 1) := by decide +kernel
theorem dX1_tellCard_67 : decode cX1_tellCard 67 = .ok (.getfield 22, 3) := by decide +kernel
theorem dX1_tellCard_70 : decode cX1_tellCard 70 = .ok (.getfield 133, 3) := by decide +kernel
theorem dX1_tellCard_73 : decode cX1_tellCard 73 = .ok (.bipush (-9), 2) := by decide +kernel
theorem dX1_tellCard_75 : decode cX1_tellCard 75 = .ok (.if_icmp .eq 7, 3) := by decide +kernel
theorem dX1_tellCard_78 : decode cX1_tellCard 78 = .ok (.aload_n 0, 1) := by decide +kernel
theorem dX1_tellCard_79 : decode cX1_tellCard 79 = .ok (.invokevirtual 139, 3) := by decide +kernel
theorem dX1_tellCard_82 : decode cX1_tellCard 82 = .ok (.aload_n 0, 1) := by decide +kernel
theorem dX1_tellCard_83 : decode cX1_tellCard 83 = .ok (.invokevirtual 142, 3) := by decide +kernel
theorem dX1_tellCard_86 : decode cX1_tellCard 86 = .ok (.ireturn, 1) := by decide +kernel
theorem dX1_beginMoves_0 : decode cX1_beginMoves 0 = .ok (.aload_n 0, 1) := by decide +kernel
theorem dX1_beginMoves_1 : decode cX1_beginMoves 1 = .ok (.getfield 18, 3) := by decide +kernel
theorem dX1_beginMoves_4 : decode cX1_beginMoves 4 = .ok (.getfield 133, 3) := by decide +kernel
theorem dX1_beginMoves_7 : decode cX1_beginMoves 7 = .ok (.aload_n 0, 1) := by decide +kernel
theorem dX1_beginMoves_8 : decode cX1_beginMoves 8 = .ok (.getfield 22, 3) := by decide +kernel
theorem dX1_beginMoves_11 : decode cX1_beginMoves 11 = .ok (.getfield 133, 3) := by decide +kernel
theorem dX1_beginMoves_14 : decode cX1_beginMoves 14 = .ok (.iadd, 1) := by decide +kernel
theorem dX1_beginMoves_15 : decode cX1_beginMoves 15 = .ok (.istore_n 1, 1) := by decide +kernel
theorem dX1_beginMoves_16 : decode cX1_beginMoves 16 = .ok (.aload_n 0, 1) := by decide +kernel
theorem dX1_beginMoves_17 : decode cX1_beginMoves 17 = .ok (.aload_n 0, 1) := by decide +kernel
theorem dX1_beginMoves_18 : decode cX1_beginMoves 18 = .ok (.iload_n 1, 1) := by decide +kernel
theorem dX1_beginMoves_19 : decode cX1_beginMoves 19 = .ok (.invokevirtual 145, 3) := by decide +kernel
theorem dX1_beginMoves_22 : decode cX1_beginMoves 22 = .ok (.putfield 47, 3) := by decide +kernel
theorem dX1_beginMoves_25 : decode cX1_beginMoves 25 = .ok (.aload_n 0, 1) := by decide +kernel
theorem dX1_beginMoves_26 : decode cX1_beginMoves 26 = .ok (.iload_n 1, 1) := by decide +kernel
theorem dX1_beginMoves_27 : decode cX1_beginMoves 27 = .ok (.invokestatic 149, 3) := by decide +kernel
theorem dX1_beginMoves_30 : decode cX1_beginMoves 30 = .ok (.putfield 9, 3) := by decide +kernel
theorem dX1_beginMoves_33 : decode cX1_beginMoves 33 = .ok (.aload_n 0, 1) := by decide +kernel
theorem dX1_beginMoves_34 : decode cX1_beginMoves 34 = .ok (.getfield 18, 3) := by decide +kernel
theorem dX1_beginMoves_37 : decode cX1_beginMoves 37 = .ok (.invokevirtual 152, 3) := by decide +kernel
theorem dX1_beginMoves_40 : decode cX1_beginMoves 40 = .ok (.aload_n 0, 1) := by decide +kernel
theorem dX1_beginMoves_41 : decode cX1_beginMoves 41 = .ok (.getfield 22, 3) := by decide +kernel
theorem dX1_beginMoves_44 : decode cX1_beginMoves 44 = .ok (.invokevirtual 152, 3) := by decide +kernel
theorem dX1_beginMoves_47 : decode cX1_beginMoves 47 = .ok (.aload_n 0, 1) := by decide +kernel
theorem dX1_beginMoves_48 : decode cX1_beginMoves 48 = .ok (.iconst 1, 1) := by decide +kernel
theorem dX1_beginMoves_49 : decode cX1_beginMoves 49 = .ok (.putfield 43, 3) := by decide +kernel
theorem dX1_beginMoves_52 : decode cX1_beginMoves 52 = .ok (.return_, 1) := by decide +kernel
theorem dX1_directionBy_0 : decode cX1_directionBy 0 = .ok (.aload_n 0, 1) := by decide +kernel
theorem dX1_directionBy_1 : decode cX1_directionBy 1 = .ok (.getfield 47, 3) := by decide +kernel
theorem dX1_directionBy_4 : decode cX1_directionBy 4 = .ok (.iload_n 1, 1) := by decide +kernel
theorem dX1_directionBy_5 : decode cX1_directionBy 5 = .ok (.iadd, 1) := by decide +kernel
theorem dX1_directionBy_6 : decode cX1_directionBy 6 = .ok (.bipush 6, 2) := by decide +kernel
theorem dX1_directionBy_8 : decode cX1_directionBy 8 = .ok (.irem, 1) := by decide +kernel
theorem dX1_directionBy_9 : decode cX1_directionBy 9 = .ok (.ireturn, 1) := by decide +kernel
theorem dX1_strengthBy_0 : decode cX1_strengthBy 0 = .ok (.iload_n 0, 1) := by decide +kernel
theorem dX1_strengthBy_1 : decode cX1_strengthBy 1 = .ok (.iconst 3, 1) := by decide +kernel
theorem dX1_strengthBy_2 : decode cX1_strengthBy 2 = .ok (.irem, 1) := by decide +kernel
theorem dX1_strengthBy_3 : decode cX1_strengthBy 3 = .ok (.iconst 1, 1) := by decide +kernel
theorem dX1_strengthBy_4 : decode cX1_strengthBy 4 = .ok (.iadd, 1) := by decide +kernel
theorem dX1_strengthBy_5 : decode cX1_strengthBy 5 = .ok (.ireturn, 1) := by decide +kernel
theorem dX1_toldSet_0 : decode cX1_toldSet 0 = .ok (.aload_n 0, 1) := by decide +kernel
theorem dX1_toldSet_1 : decode cX1_toldSet 1 = .ok (.getfield 43, 3) := by decide +kernel
theorem dX1_toldSet_4 : decode cX1_toldSet 4 = .ok (.ifCond .eq 5, 3) := by decide +kernel
theorem dX1_toldSet_7 : decode cX1_toldSet 7 = .ok (.iconst 3, 1) := by decide +kernel
theorem dX1_toldSet_8 : decode cX1_toldSet 8 = .ok (.ireturn, 1) := by decide +kernel
theorem dX1_toldSet_9 : decode cX1_toldSet 9 = .ok (.aload_n 0, 1) := by decide +kernel
theorem dX1_toldSet_10 : decode cX1_toldSet 10 = .ok (.getfield 18, 3) := by decide +kernel
theorem dX1_toldSet_13 : decode cX1_toldSet 13 = .ok (.getfield 133, 3) := by decide +kernel
theorem dX1_toldSet_16 : decode cX1_toldSet 16 = .ok (.bipush (-9), 2) := by decide +kernel
theorem dX1_toldSet_18 : decode cX1_toldSet 18 = .ok (.if_icmp .ne 7, 3) := by decide +kernel
theorem dX1_toldSet_21 : decode cX1_toldSet 21 = .ok (.iconst 0, 1) := by decide +kernel
theorem dX1_toldSet_22 : decode cX1_toldSet 22 = .ok (.goto 4, 3) := by decide +kernel
theorem dX1_toldSet_25 : decode cX1_toldSet 25 = .ok (.iconst 1, 1) := by decide +kernel
theorem dX1_toldSet_26 : decode cX1_toldSet 26 = .ok (.aload_n 0, 1) := by decide +kernel
theorem dX1_toldSet_27 : decode cX1_toldSet 27 = .ok (.getfield 22, 3) := by decide +kernel
theorem dX1_toldSet_30 : decode cX1_toldSet 30 = .ok (.getfield 133, 3) := by decide +kernel
theorem dX1_toldSet_33 : decode cX1_toldSet 33 = .ok (.bipush (-9), 2) := by decide +kernel
theorem dX1_toldSet_35 : decode cX1_toldSet 35 = .ok (.if_icmp .ne 7, 3) := by decide +kernel
theorem dX1_toldSet_38 : decode cX1_toldSet 38 = .ok (.iconst 0, 1) := by decide +kernel
theorem dX1_toldSet_39 : decode cX1_toldSet 39 = .ok (.goto 4, 3) := by decide +kernel
theorem dX1_toldSet_42 : decode cX1_toldSet 42 = .ok (.iconst 2, 1) := by decide +kernel
theorem dX1_toldSet_43 : decode cX1_toldSet 43 = .ok (.iadd, 1) := by decide +kernel
theorem dX1_toldSet_44 : decode cX1_toldSet 44 = .ok (.ireturn, 1) := by decide +kernel
theorem dX1_stepsNow_0 : decode cX1_stepsNow 0 = .ok (.aload_n 1, 1) := by decide +kernel
theorem dX1_stepsNow_1 : decode cX1_stepsNow 1 = .ok (.aload_n 0, 1) := by decide +kernel
theorem dX1_stepsNow_2 : decode cX1_stepsNow 2 = .ok (.getfield 47, 3) := by decide +kernel
theorem dX1_stepsNow_5 : decode cX1_stepsNow 5 = .ok (.aload_n 0, 1) := by decide +kernel
theorem dX1_stepsNow_6 : decode cX1_stepsNow 6 = .ok (.getfield 9, 3) := by decide +kernel
theorem dX1_stepsNow_9 : decode cX1_stepsNow 9 = .ok (.invokevirtual 155, 3) := by decide +kernel
theorem dX1_stepsNow_12 : decode cX1_stepsNow 12 = .ok (.ireturn, 1) := by decide +kernel
theorem dX1_sailAlong_0 : decode cX1_sailAlong 0 = .ok (.aload_n 0, 1) := by decide +kernel
theorem dX1_sailAlong_1 : decode cX1_sailAlong 1 = .ok (.iload_n 1, 1) := by decide +kernel
theorem dX1_sailAlong_2 : decode cX1_sailAlong 2 = .ok (.invokevirtual 158, 3) := by decide +kernel
theorem dX1_sailAlong_5 : decode cX1_sailAlong 5 = .ok (.astore_n 3, 1) := by decide +kernel
theorem dX1_sailAlong_6 : decode cX1_sailAlong 6 = .ok (.aload_n 3, 1) := by decide +kernel
theorem dX1_sailAlong_7 : decode cX1_sailAlong 7 = .ok (.ifnull 10, 3) := by decide +kernel
theorem dX1_sailAlong_10 : decode cX1_sailAlong 10 = .ok (.iload_n 2, 1) := by decide +kernel
theorem dX1_sailAlong_11 : decode cX1_sailAlong 11 = .ok (.invokestatic 161, 3) := by decide +kernel
theorem dX1_sailAlong_14 : decode cX1_sailAlong 14 = .ok (.ifCond .ne 5, 3) := by decide +kernel
theorem dX1_sailAlong_17 : decode cX1_sailAlong 17 = .ok (.iconst (-1), 1) := by decide +kernel
theorem dX1_sailAlong_18 : decode cX1_sailAlong 18 = .ok (.ireturn, 1) := by decide +kernel
theorem dX1_sailAlong_19 : decode cX1_sailAlong 19 = .ok (.aload_n 0, 1) := by decide +kernel
theorem dX1_sailAlong_20 : decode cX1_sailAlong 20 = .ok (.getfield 43, 3) := by decide +kernel
theorem dX1_sailAlong_23 : decode cX1_sailAlong 23 = .ok (.ifCond .eq 30, 3) := by decide +kernel
theorem dX1_sailAlong_26 : decode cX1_sailAlong 26 = .ok (.aload_n 3, 1) := by decide +kernel
theorem dX1_sailAlong_27 : decode cX1_sailAlong 27 = .ok (.invokevirtual 69, 3) := by decide +kernel
theorem dX1_sailAlong_30 : decode cX1_sailAlong 30 = .ok (.ifCond .eq 23, 3) := by decide +kernel
theorem dX1_sailAlong_33 : decode cX1_sailAlong 33 = .ok (.aload_n 3, 1) := by decide +kernel
theorem dX1_sailAlong_34 : decode cX1_sailAlong 34 = .ok (.iconst 1, 1) := by decide +kernel
theorem dX1_sailAlong_35 : decode cX1_sailAlong 35 = .ok (.invokevirtual 166, 3) := by decide +kernel
theorem dX1_sailAlong_38 : decode cX1_sailAlong 38 = .ok (.ifCond .ne 15, 3) := by decide +kernel
theorem dX1_sailAlong_41 : decode cX1_sailAlong 41 = .ok (.iload_n 2, 1) := by decide +kernel
theorem dX1_sailAlong_42 : decode cX1_sailAlong 42 = .ok (.invokestatic 169, 3) := by decide +kernel
theorem dX1_sailAlong_45 : decode cX1_sailAlong 45 = .ok (.aload_n 0, 1) := by decide +kernel
theorem dX1_sailAlong_46 : decode cX1_sailAlong 46 = .ok (.aload_n 3, 1) := by decide +kernel
theorem dX1_sailAlong_47 : decode cX1_sailAlong 47 = .ok (.invokevirtual 172, 3) := by decide +kernel
theorem dX1_sailAlong_50 : decode cX1_sailAlong 50 = .ok (.if_icmp .le 6, 3) := by decide +kernel
theorem dX1_sailAlong_53 : decode cX1_sailAlong 53 = .ok (.bipush (-2), 2) := by decide +kernel
theorem dX1_sailAlong_55 : decode cX1_sailAlong 55 = .ok (.ireturn, 1) := by decide +kernel
theorem dX1_sailAlong_56 : decode cX1_sailAlong 56 = .ok (.aload_n 3, 1) := by decide +kernel
theorem dX1_sailAlong_57 : decode cX1_sailAlong 57 = .ok (.getfield 73, 3) := by decide +kernel
theorem dX1_sailAlong_60 : decode cX1_sailAlong 60 = .ok (.istore 4, 2) := by decide +kernel
theorem dX1_sailAlong_62 : decode cX1_sailAlong 62 = .ok (.aload_n 3, 1) := by decide +kernel
theorem dX1_sailAlong_63 : decode cX1_sailAlong 63 = .ok (.getfield 108, 3) := by decide +kernel
theorem dX1_sailAlong_66 : decode cX1_sailAlong 66 = .ok (.istore 5, 2) := by decide +kernel
theorem dX1_sailAlong_68 : decode cX1_sailAlong 68 = .ok (.iload_n 2, 1) := by decide +kernel
theorem dX1_sailAlong_69 : decode cX1_sailAlong 69 = .ok (.invokestatic 176, 3) := by decide +kernel
theorem dX1_sailAlong_72 : decode cX1_sailAlong 72 = .ok (.istore 6, 2) := by decide +kernel
theorem dX1_sailAlong_74 : decode cX1_sailAlong 74 = .ok (.iload 6, 2) := by decide +kernel
theorem dX1_sailAlong_76 : decode cX1_sailAlong 76 = .ok (.ifCond .le 63, 3) := by decide +kernel
theorem dX1_sailAlong_79 : decode cX1_sailAlong 79 = .ok (.iload_n 2, 1) := by decide +kernel
theorem dX1_sailAlong_80 : decode cX1_sailAlong 80 = .ok (.iload 6, 2) := by decide +kernel
theorem dX1_sailAlong_82 : decode cX1_sailAlong 82 = .ok (.idiv, 1) := by decide +kernel
theorem dX1_sailAlong_83 : decode cX1_sailAlong 83 = .ok (.bipush 10, 2) := by decide +kernel
theorem dX1_sailAlong_85 : decode cX1_sailAlong 85 = .ok (.irem, 1) := by decide +kernel
theorem dX1_sailAlong_86 : decode cX1_sailAlong 86 = .ok (.istore 7, 2) := by decide +kernel
theorem dX1_sailAlong_88 : decode cX1_sailAlong 88 = .ok (.iload 5, 2) := by decide +kernel
theorem dX1_sailAlong_90 : decode cX1_sailAlong 90 = .ok (.iload 7, 2) := by decide +kernel
theorem dX1_sailAlong_92 : decode cX1_sailAlong 92 = .ok (.invokestatic 179, 3) := by decide +kernel
theorem dX1_sailAlong_95 : decode cX1_sailAlong 95 = .ok (.istore 5, 2) := by decide +kernel
theorem dX1_sailAlong_97 : decode cX1_sailAlong 97 = .ok (.iload 7, 2) := by decide +kernel
theorem dX1_sailAlong_99 : decode cX1_sailAlong 99 = .ok (.iconst 1, 1) := by decide +kernel
theorem dX1_sailAlong_100 : decode cX1_sailAlong 100 = .ok (.if_icmp .ne 15, 3) := by decide +kernel
theorem dX1_sailAlong_103 : decode cX1_sailAlong 103 = .ok (.aload_n 0, 1) := by decide +kernel
theorem dX1_sailAlong_104 : decode cX1_sailAlong 104 = .ok (.aload_n 3, 1) := by decide +kernel
theorem dX1_sailAlong_105 : decode cX1_sailAlong 105 = .ok (.iload 4, 2) := by decide +kernel
theorem dX1_sailAlong_107 : decode cX1_sailAlong 107 = .ok (.iload 5, 2) := by decide +kernel
theorem dX1_sailAlong_109 : decode cX1_sailAlong 109 = .ok (.invokevirtual 182, 3) := by decide +kernel
theorem dX1_sailAlong_112 : decode cX1_sailAlong 112 = .ok (.goto 5, 3) := by decide +kernel
theorem dX1_sailAlong_115 : decode cX1_sailAlong 115 = .ok (.iload 4, 2) := by decide +kernel
theorem dX1_sailAlong_117 : decode cX1_sailAlong 117 = .ok (.istore 4, 2) := by decide +kernel
theorem dX1_sailAlong_119 : decode cX1_sailAlong 119 = .ok (.iload 4, 2) := by decide +kernel
theorem dX1_sailAlong_121 : decode cX1_sailAlong 121 = .ok (.bipush (-9), 2) := by decide +kernel
theorem dX1_sailAlong_123 : decode cX1_sailAlong 123 = .ok (.if_icmp .ne 6, 3) := by decide +kernel
theorem dX1_sailAlong_126 : decode cX1_sailAlong 126 = .ok (.bipush (-2), 2) := by decide +kernel
theorem dX1_sailAlong_128 : decode cX1_sailAlong 128 = .ok (.ireturn, 1) := by decide +kernel
theorem dX1_sailAlong_129 : decode cX1_sailAlong 129 = .ok (.iload 6, 2) := by decide +kernel
theorem dX1_sailAlong_131 : decode cX1_sailAlong 131 = .ok (.bipush 10, 2) := by decide +kernel
theorem dX1_sailAlong_133 : decode cX1_sailAlong 133 = .ok (.idiv, 1) := by decide +kernel
theorem dX1_sailAlong_134 : decode cX1_sailAlong 134 = .ok (.istore 6, 2) := by decide +kernel
theorem dX1_sailAlong_136 : decode cX1_sailAlong 136 = .ok (.goto (-62), 3) := by decide +kernel
theorem dX1_sailAlong_139 : decode cX1_sailAlong 139 = .ok (.aload_n 3, 1) := by decide +kernel
theorem dX1_sailAlong_140 : decode cX1_sailAlong 140 = .ok (.iload 4, 2) := by decide +kernel
theorem dX1_sailAlong_142 : decode cX1_sailAlong 142 = .ok (.putfield 73, 3) := by decide +kernel
theorem dX1_sailAlong_145 : decode cX1_sailAlong 145 = .ok (.aload_n 3, 1) := by decide +kernel
theorem dX1_sailAlong_146 : decode cX1_sailAlong 146 = .ok (.iload 5, 2) := by decide +kernel
theorem dX1_sailAlong_148 : decode cX1_sailAlong 148 = .ok (.putfield 108, 3) := by decide +kernel
theorem dX1_sailAlong_151 : decode cX1_sailAlong 151 = .ok (.aload_n 3, 1) := by decide +kernel
theorem dX1_sailAlong_152 : decode cX1_sailAlong 152 = .ok (.dup, 1) := by decide +kernel
theorem dX1_sailAlong_153 : decode cX1_sailAlong 153 = .ok (.getfield 186, 3) := by decide +kernel
theorem dX1_sailAlong_156 : decode cX1_sailAlong 156 = .ok (.iconst 1, 1) := by decide +kernel
theorem dX1_sailAlong_157 : decode cX1_sailAlong 157 = .ok (.ior, 1) := by decide +kernel
theorem dX1_sailAlong_158 : decode cX1_sailAlong 158 = .ok (.putfield 186, 3) := by decide +kernel
theorem dX1_sailAlong_161 : decode cX1_sailAlong 161 = .ok (.iload 4, 2) := by decide +kernel
theorem dX1_sailAlong_163 : decode cX1_sailAlong 163 = .ok (.ireturn, 1) := by decide +kernel
theorem dX1_fireAt_0 : decode cX1_fireAt 0 = .ok (.aload_n 0, 1) := by decide +kernel
theorem dX1_fireAt_1 : decode cX1_fireAt 1 = .ok (.iload_n 1, 1) := by decide +kernel
theorem dX1_fireAt_2 : decode cX1_fireAt 2 = .ok (.invokevirtual 158, 3) := by decide +kernel
theorem dX1_fireAt_5 : decode cX1_fireAt 5 = .ok (.astore 4, 2) := by decide +kernel
theorem dX1_fireAt_7 : decode cX1_fireAt 7 = .ok (.aload_n 0, 1) := by decide +kernel
theorem dX1_fireAt_8 : decode cX1_fireAt 8 = .ok (.iload_n 3, 1) := by decide +kernel
theorem dX1_fireAt_9 : decode cX1_fireAt 9 = .ok (.invokevirtual 158, 3) := by decide +kernel
theorem dX1_fireAt_12 : decode cX1_fireAt 12 = .ok (.astore 5, 2) := by decide +kernel
theorem dX1_fireAt_14 : decode cX1_fireAt 14 = .ok (.aload 4, 2) := by decide +kernel
theorem dX1_fireAt_16 : decode cX1_fireAt 16 = .ok (.ifnull 20, 3) := by decide +kernel
theorem dX1_fireAt_19 : decode cX1_fireAt 19 = .ok (.aload 5, 2) := by decide +kernel
theorem dX1_fireAt_21 : decode cX1_fireAt 21 = .ok (.ifnull 15, 3) := by decide +kernel
theorem dX1_fireAt_24 : decode cX1_fireAt 24 = .ok (.iload_n 1, 1) := by decide +kernel
theorem dX1_fireAt_25 : decode cX1_fireAt 25 = .ok (.iload_n 3, 1) := by decide +kernel
theorem dX1_fireAt_26 : decode cX1_fireAt 26 = .ok (.if_icmp .eq 10, 3) := by decide +kernel
theorem dX1_fireAt_29 : decode cX1_fireAt 29 = .ok (.iload_n 2, 1) := by decide +kernel
theorem dX1_fireAt_30 : decode cX1_fireAt 30 = .ok (.invokestatic 189, 3) := by decide +kernel
theorem dX1_fireAt_33 : decode cX1_fireAt 33 = .ok (.ifCond .ne 5, 3) := by decide +kernel
theorem dX1_fireAt_36 : decode cX1_fireAt 36 = .ok (.iconst (-1), 1) := by decide +kernel
theorem dX1_fireAt_37 : decode cX1_fireAt 37 = .ok (.ireturn, 1) := by decide +kernel
theorem dX1_fireAt_38 : decode cX1_fireAt 38 = .ok (.aload_n 0, 1) := by decide +kernel
theorem dX1_fireAt_39 : decode cX1_fireAt 39 = .ok (.aload 4, 2) := by decide +kernel
theorem dX1_fireAt_41 : decode cX1_fireAt 41 = .ok (.iload_n 2, 1) := by decide +kernel
theorem dX1_fireAt_42 : decode cX1_fireAt 42 = .ok (.aload 5, 2) := by decide +kernel
theorem dX1_fireAt_44 : decode cX1_fireAt 44 = .ok (.invokevirtual 192, 3) := by decide +kernel
theorem dX1_fireAt_47 : decode cX1_fireAt 47 = .ok (.istore 6, 2) := by decide +kernel
theorem dX1_fireAt_49 : decode cX1_fireAt 49 = .ok (.aload_n 0, 1) := by decide +kernel
theorem dX1_fireAt_50 : decode cX1_fireAt 50 = .ok (.getfield 43, 3) := by decide +kernel
theorem dX1_fireAt_53 : decode cX1_fireAt 53 = .ok (.ifCond .eq 29, 3) := by decide +kernel
theorem dX1_fireAt_56 : decode cX1_fireAt 56 = .ok (.aload 4, 2) := by decide +kernel
theorem dX1_fireAt_58 : decode cX1_fireAt 58 = .ok (.invokevirtual 69, 3) := by decide +kernel
theorem dX1_fireAt_61 : decode cX1_fireAt 61 = .ok (.ifCond .eq 21, 3) := by decide +kernel
theorem dX1_fireAt_64 : decode cX1_fireAt 64 = .ok (.aload 4, 2) := by decide +kernel
theorem dX1_fireAt_66 : decode cX1_fireAt 66 = .ok (.iload_n 2, 1) := by decide +kernel
theorem dX1_fireAt_67 : decode cX1_fireAt 67 = .ok (.aload_n 0, 1) := by decide +kernel
theorem dX1_fireAt_68 : decode cX1_fireAt 68 = .ok (.getfield 40, 3) := by decide +kernel
theorem dX1_fireAt_71 : decode cX1_fireAt 71 = .ok (.invokevirtual 196, 3) := by decide +kernel
theorem dX1_fireAt_74 : decode cX1_fireAt 74 = .ok (.ifCond .ne 8, 3) := by decide +kernel
theorem dX1_fireAt_77 : decode cX1_fireAt 77 = .ok (.iload 6, 2) := by decide +kernel
theorem dX1_fireAt_79 : decode cX1_fireAt 79 = .ok (.ifCond .ne 6, 3) := by decide +kernel
theorem dX1_fireAt_82 : decode cX1_fireAt 82 = .ok (.bipush (-2), 2) := by decide +kernel
theorem dX1_fireAt_84 : decode cX1_fireAt 84 = .ok (.ireturn, 1) := by decide +kernel
theorem dX1_fireAt_85 : decode cX1_fireAt 85 = .ok (.aload 4, 2) := by decide +kernel
theorem dX1_fireAt_87 : decode cX1_fireAt 87 = .ok (.iload 6, 2) := by decide +kernel
theorem dX1_fireAt_89 : decode cX1_fireAt 89 = .ok (.invokevirtual 200, 3) := by decide +kernel
theorem dX1_fireAt_92 : decode cX1_fireAt 92 = .ok (.istore 7, 2) := by decide +kernel
theorem dX1_fireAt_94 : decode cX1_fireAt 94 = .ok (.aload 5, 2) := by decide +kernel
theorem dX1_fireAt_96 : decode cX1_fireAt 96 = .ok (.iload 7, 2) := by decide +kernel
theorem dX1_fireAt_98 : decode cX1_fireAt 98 = .ok (.invokevirtual 203, 3) := by decide +kernel
theorem dX1_fireAt_101 : decode cX1_fireAt 101 = .ok (.aload 5, 2) := by decide +kernel
theorem dX1_fireAt_103 : decode cX1_fireAt 103 = .ok (.invokevirtual 69, 3) := by decide +kernel
theorem dX1_fireAt_106 : decode cX1_fireAt 106 = .ok (.ifCond .ne 9, 3) := by decide +kernel
theorem dX1_fireAt_109 : decode cX1_fireAt 109 = .ok (.aload_n 0, 1) := by decide +kernel
theorem dX1_fireAt_110 : decode cX1_fireAt 110 = .ok (.aload 5, 2) := by decide +kernel
theorem dX1_fireAt_112 : decode cX1_fireAt 112 = .ok (.invokevirtual 206, 3) := by decide +kernel
theorem dX1_fireAt_115 : decode cX1_fireAt 115 = .ok (.aload 4, 2) := by decide +kernel
theorem dX1_fireAt_117 : decode cX1_fireAt 117 = .ok (.iload_n 2, 1) := by decide +kernel
theorem dX1_fireAt_118 : decode cX1_fireAt 118 = .ok (.aload_n 0, 1) := by decide +kernel
theorem dX1_fireAt_119 : decode cX1_fireAt 119 = .ok (.getfield 40, 3) := by decide +kernel
theorem dX1_fireAt_122 : decode cX1_fireAt 122 = .ok (.invokevirtual 209, 3) := by decide +kernel
theorem dX1_fireAt_125 : decode cX1_fireAt 125 = .ok (.iload 7, 2) := by decide +kernel
theorem dX1_fireAt_127 : decode cX1_fireAt 127 = .ok (.ireturn, 1) := by decide +kernel
theorem dX1_shotLength_0 : decode cX1_shotLength 0 = .ok (.aload_n 1, 1) := by decide +kernel
theorem dX1_shotLength_1 : decode cX1_shotLength 1 = .ok (.invokevirtual 69, 3) := by decide +kernel
theorem dX1_shotLength_4 : decode cX1_shotLength 4 = .ok (.ifCond .eq 14, 3) := by decide +kernel
theorem dX1_shotLength_7 : decode cX1_shotLength 7 = .ok (.aload_n 1, 1) := by decide +kernel
theorem dX1_shotLength_8 : decode cX1_shotLength 8 = .ok (.getfield 105, 3) := by decide +kernel
theorem dX1_shotLength_11 : decode cX1_shotLength 11 = .ok (.aload_n 3, 1) := by decide +kernel
theorem dX1_shotLength_12 : decode cX1_shotLength 12 = .ok (.getfield 105, 3) := by decide +kernel
theorem dX1_shotLength_15 : decode cX1_shotLength 15 = .ok (.if_icmp .ne 5, 3) := by decide +kernel
theorem dX1_shotLength_18 : decode cX1_shotLength 18 = .ok (.iconst 0, 1) := by decide +kernel
theorem dX1_shotLength_19 : decode cX1_shotLength 19 = .ok (.ireturn, 1) := by decide +kernel
theorem dX1_shotLength_20 : decode cX1_shotLength 20 = .ok (.aload_n 1, 1) := by decide +kernel
theorem dX1_shotLength_21 : decode cX1_shotLength 21 = .ok (.getfield 108, 3) := by decide +kernel
theorem dX1_shotLength_24 : decode cX1_shotLength 24 = .ok (.iload_n 2, 1) := by decide +kernel
theorem dX1_shotLength_25 : decode cX1_shotLength 25 = .ok (.ifCond .ne 7, 3) := by decide +kernel
theorem dX1_shotLength_28 : decode cX1_shotLength 28 = .ok (.iconst 4, 1) := by decide +kernel
theorem dX1_shotLength_29 : decode cX1_shotLength 29 = .ok (.goto 4, 3) := by decide +kernel
theorem dX1_shotLength_32 : decode cX1_shotLength 32 = .ok (.iconst 1, 1) := by decide +kernel
theorem dX1_shotLength_33 : decode cX1_shotLength 33 = .ok (.iadd, 1) := by decide +kernel
theorem dX1_shotLength_34 : decode cX1_shotLength 34 = .ok (.istore 4, 2) := by decide +kernel
theorem dX1_shotLength_36 : decode cX1_shotLength 36 = .ok (.aload_n 0, 1) := by decide +kernel
theorem dX1_shotLength_37 : decode cX1_shotLength 37 = .ok (.aload_n 1, 1) := by decide +kernel
theorem dX1_shotLength_38 : decode cX1_shotLength 38 = .ok (.getfield 73, 3) := by decide +kernel
theorem dX1_shotLength_41 : decode cX1_shotLength 41 = .ok (.iload 4, 2) := by decide +kernel
theorem dX1_shotLength_43 : decode cX1_shotLength 43 = .ok (.bipush 6, 2) := by decide +kernel
theorem dX1_shotLength_45 : decode cX1_shotLength 45 = .ok (.irem, 1) := by decide +kernel
theorem dX1_shotLength_46 : decode cX1_shotLength 46 = .ok (.aload_n 3, 1) := by decide +kernel
theorem dX1_shotLength_47 : decode cX1_shotLength 47 = .ok (.invokevirtual 213, 3) := by decide +kernel
theorem dX1_shotLength_50 : decode cX1_shotLength 50 = .ok (.istore 5, 2) := by decide +kernel
theorem dX1_shotLength_52 : decode cX1_shotLength 52 = .ok (.iload 5, 2) := by decide +kernel
theorem dX1_shotLength_54 : decode cX1_shotLength 54 = .ok (.ifCond .eq 6, 3) := by decide +kernel
theorem dX1_shotLength_57 : decode cX1_shotLength 57 = .ok (.iload 5, 2) := by decide +kernel
theorem dX1_shotLength_59 : decode cX1_shotLength 59 = .ok (.ireturn, 1) := by decide +kernel
theorem dX1_shotLength_60 : decode cX1_shotLength 60 = .ok (.aload_n 0, 1) := by decide +kernel
theorem dX1_shotLength_61 : decode cX1_shotLength 61 = .ok (.aload_n 1, 1) := by decide +kernel
theorem dX1_shotLength_62 : decode cX1_shotLength 62 = .ok (.getfield 73, 3) := by decide +kernel
theorem dX1_shotLength_65 : decode cX1_shotLength 65 = .ok (.iload 4, 2) := by decide +kernel
theorem dX1_shotLength_67 : decode cX1_shotLength 67 = .ok (.iconst 1, 1) := by decide +kernel
theorem dX1_shotLength_68 : decode cX1_shotLength 68 = .ok (.iadd, 1) := by decide +kernel
theorem dX1_shotLength_69 : decode cX1_shotLength 69 = .ok (.bipush 6, 2) := by decide +kernel
theorem dX1_shotLength_71 : decode cX1_shotLength 71 = .ok (.irem, 1) := by decide +kernel
theorem dX1_shotLength_72 : decode cX1_shotLength 72 = .ok (.aload_n 3, 1) := by decide +kernel
theorem dX1_shotLength_73 : decode cX1_shotLength 73 = .ok (.invokevirtual 213, 3) := by decide +kernel
theorem dX1_shotLength_76 : decode cX1_shotLength 76 = .ok (.ireturn, 1) := by decide +kernel
theorem dX1_distanceAlong_0 : decode cX1_distanceAlong 0 = .ok (.iload_n 1, 1) := by decide +kernel
theorem dX1_distanceAlong_1 : decode cX1_distanceAlong 1 = .ok (.istore 4, 2) := by decide +kernel
theorem dX1_distanceAlong_3 : decode cX1_distanceAlong 3 = .ok (.iconst 1, 1) := by decide +kernel
theorem dX1_distanceAlong_4 : decode cX1_distanceAlong 4 = .ok (.istore 5, 2) := by decide +kernel
theorem dX1_distanceAlong_6 : decode cX1_distanceAlong 6 = .ok (.iload 5, 2) := by decide +kernel
theorem dX1_distanceAlong_8 : decode cX1_distanceAlong 8 = .ok (.iconst 3, 1) := by decide +kernel
theorem dX1_distanceAlong_9 : decode cX1_distanceAlong 9 = .ok (.if_icmp .gt 67, 3) := by decide +kernel
theorem dX1_distanceAlong_12 : decode cX1_distanceAlong 12 = .ok (.iload 4, 2) := by decide +kernel
theorem dX1_distanceAlong_14 : decode cX1_distanceAlong 14 = .ok (.iload_n 2, 1) := by decide +kernel
theorem dX1_distanceAlong_15 : decode cX1_distanceAlong 15 = .ok (.invokestatic 87, 3) := by decide +kernel
theorem dX1_distanceAlong_18 : decode cX1_distanceAlong 18 = .ok (.istore 4, 2) := by decide +kernel
theorem dX1_distanceAlong_20 : decode cX1_distanceAlong 20 = .ok (.iload 4, 2) := by decide +kernel
theorem dX1_distanceAlong_22 : decode cX1_distanceAlong 22 = .ok (.bipush (-9), 2) := by decide +kernel
theorem dX1_distanceAlong_24 : decode cX1_distanceAlong 24 = .ok (.if_icmp .eq 12, 3) := by decide +kernel
theorem dX1_distanceAlong_27 : decode cX1_distanceAlong 27 = .ok (.aload_n 0, 1) := by decide +kernel
theorem dX1_distanceAlong_28 : decode cX1_distanceAlong 28 = .ok (.iload 4, 2) := by decide +kernel
theorem dX1_distanceAlong_30 : decode cX1_distanceAlong 30 = .ok (.invokevirtual 80, 3) := by decide +kernel
theorem dX1_distanceAlong_33 : decode cX1_distanceAlong 33 = .ok (.ifCond .eq 5, 3) := by decide +kernel
theorem dX1_distanceAlong_36 : decode cX1_distanceAlong 36 = .ok (.iconst 0, 1) := by decide +kernel
theorem dX1_distanceAlong_37 : decode cX1_distanceAlong 37 = .ok (.ireturn, 1) := by decide +kernel
theorem dX1_distanceAlong_38 : decode cX1_distanceAlong 38 = .ok (.aload_n 0, 1) := by decide +kernel
theorem dX1_distanceAlong_39 : decode cX1_distanceAlong 39 = .ok (.iload 4, 2) := by decide +kernel
theorem dX1_distanceAlong_41 : decode cX1_distanceAlong 41 = .ok (.invokevirtual 83, 3) := by decide +kernel
theorem dX1_distanceAlong_44 : decode cX1_distanceAlong 44 = .ok (.astore 6, 2) := by decide +kernel
theorem dX1_distanceAlong_46 : decode cX1_distanceAlong 46 = .ok (.aload 6, 2) := by decide +kernel
theorem dX1_distanceAlong_48 : decode cX1_distanceAlong 48 = .ok (.ifnull 22, 3) := by decide +kernel
theorem dX1_distanceAlong_51 : decode cX1_distanceAlong 51 = .ok (.aload 6, 2) := by decide +kernel
theorem dX1_distanceAlong_53 : decode cX1_distanceAlong 53 = .ok (.getfield 94, 3) := by decide +kernel
theorem dX1_distanceAlong_56 : decode cX1_distanceAlong 56 = .ok (.aload_n 3, 1) := by decide +kernel
theorem dX1_distanceAlong_57 : decode cX1_distanceAlong 57 = .ok (.getfield 94, 3) := by decide +kernel
theorem dX1_distanceAlong_60 : decode cX1_distanceAlong 60 = .ok (.if_icmp .ne 8, 3) := by decide +kernel
theorem dX1_distanceAlong_63 : decode cX1_distanceAlong 63 = .ok (.iload 5, 2) := by decide +kernel
theorem dX1_distanceAlong_65 : decode cX1_distanceAlong 65 = .ok (.goto 4, 3) := by decide +kernel
theorem dX1_distanceAlong_68 : decode cX1_distanceAlong 68 = .ok (.iconst 0, 1) := by decide +kernel
theorem dX1_distanceAlong_69 : decode cX1_distanceAlong 69 = .ok (.ireturn, 1) := by decide +kernel
theorem dX1_distanceAlong_70 : decode cX1_distanceAlong 70 = .ok (.iinc 5 1, 3) := by decide +kernel
theorem dX1_distanceAlong_73 : decode cX1_distanceAlong 73 = .ok (.goto (-67), 3) := by decide +kernel
theorem dX1_distanceAlong_76 : decode cX1_distanceAlong 76 = .ok (.iconst 0, 1) := by decide +kernel
theorem dX1_distanceAlong_77 : decode cX1_distanceAlong 77 = .ok (.ireturn, 1) := by decide +kernel
theorem dX1_targetSet_0 : decode cX1_targetSet 0 = .ok (.iconst 0, 1) := by decide +kernel
theorem dX1_targetSet_1 : decode cX1_targetSet 1 = .ok (.istore_n 3, 1) := by decide +kernel
theorem dX1_targetSet_2 : decode cX1_targetSet 2 = .ok (.aload_n 0, 1) := by decide +kernel
theorem dX1_targetSet_3 : decode cX1_targetSet 3 = .ok (.getfield 33, 3) := by decide +kernel
theorem dX1_targetSet_6 : decode cX1_targetSet 6 = .ok (.astore 4, 2) := by decide +kernel
theorem dX1_targetSet_8 : decode cX1_targetSet 8 = .ok (.aload 4, 2) := by decide +kernel
theorem dX1_targetSet_10 : decode cX1_targetSet 10 = .ok (.arraylength, 1) := by decide +kernel
theorem dX1_targetSet_11 : decode cX1_targetSet 11 = .ok (.istore 5, 2) := by decide +kernel
theorem dX1_targetSet_13 : decode cX1_targetSet 13 = .ok (.iconst 0, 1) := by decide +kernel
theorem dX1_targetSet_14 : decode cX1_targetSet 14 = .ok (.istore 6, 2) := by decide +kernel
theorem dX1_targetSet_16 : decode cX1_targetSet 16 = .ok (.iload 6, 2) := by decide +kernel
theorem dX1_targetSet_18 : decode cX1_targetSet 18 = .ok (.iload 5, 2) := by decide +kernel
theorem dX1_targetSet_20 : decode cX1_targetSet 20 = .ok (.if_icmp .ge 37, 3) := by decide +kernel
theorem dX1_targetSet_23 : decode cX1_targetSet 23 = .ok (.aload 4, 2) := by decide +kernel
theorem dX1_targetSet_25 : decode cX1_targetSet 25 = .ok (.iload 6, 2) := by decide +kernel
theorem dX1_targetSet_27 : decode cX1_targetSet 27 = .ok (.aaload, 1) := by decide +kernel
theorem dX1_targetSet_28 : decode cX1_targetSet 28 = .ok (.astore 7, 2) := by decide +kernel
theorem dX1_targetSet_30 : decode cX1_targetSet 30 = .ok (.aload_n 0, 1) := by decide +kernel
theorem dX1_targetSet_31 : decode cX1_targetSet 31 = .ok (.aload_n 1, 1) := by decide +kernel
theorem dX1_targetSet_32 : decode cX1_targetSet 32 = .ok (.iload_n 2, 1) := by decide +kernel
theorem dX1_targetSet_33 : decode cX1_targetSet 33 = .ok (.aload 7, 2) := by decide +kernel
theorem dX1_targetSet_35 : decode cX1_targetSet 35 = .ok (.invokevirtual 192, 3) := by decide +kernel
theorem dX1_targetSet_38 : decode cX1_targetSet 38 = .ok (.ifCond .eq 13, 3) := by decide +kernel
theorem dX1_targetSet_41 : decode cX1_targetSet 41 = .ok (.iload_n 3, 1) := by decide +kernel
theorem dX1_targetSet_42 : decode cX1_targetSet 42 = .ok (.iconst 1, 1) := by decide +kernel
theorem dX1_targetSet_43 : decode cX1_targetSet 43 = .ok (.aload 7, 2) := by decide +kernel
theorem dX1_targetSet_45 : decode cX1_targetSet 45 = .ok (.getfield 94, 3) := by decide +kernel
theorem dX1_targetSet_48 : decode cX1_targetSet 48 = .ok (.ishl, 1) := by decide +kernel
theorem dX1_targetSet_49 : decode cX1_targetSet 49 = .ok (.ior, 1) := by decide +kernel
theorem dX1_targetSet_50 : decode cX1_targetSet 50 = .ok (.istore_n 3, 1) := by decide +kernel
theorem dX1_targetSet_51 : decode cX1_targetSet 51 = .ok (.iinc 6 1, 3) := by decide +kernel
theorem dX1_targetSet_54 : decode cX1_targetSet 54 = .ok (.goto (-38), 3) := by decide +kernel
theorem dX1_targetSet_57 : decode cX1_targetSet 57 = .ok (.iload_n 3, 1) := by decide +kernel
theorem dX1_targetSet_58 : decode cX1_targetSet 58 = .ok (.ireturn, 1) := by decide +kernel
theorem dX1_threatSet_0 : decode cX1_threatSet 0 = .ok (.iconst 0, 1) := by decide +kernel
theorem dX1_threatSet_1 : decode cX1_threatSet 1 = .ok (.istore_n 2, 1) := by decide +kernel
theorem dX1_threatSet_2 : decode cX1_threatSet 2 = .ok (.aload_n 0, 1) := by decide +kernel
theorem dX1_threatSet_3 : decode cX1_threatSet 3 = .ok (.getfield 33, 3) := by decide +kernel
theorem dX1_threatSet_6 : decode cX1_threatSet 6 = .ok (.astore_n 3, 1) := by decide +kernel
theorem dX1_threatSet_7 : decode cX1_threatSet 7 = .ok (.aload_n 3, 1) := by decide +kernel
theorem dX1_threatSet_8 : decode cX1_threatSet 8 = .ok (.arraylength, 1) := by decide +kernel
theorem dX1_threatSet_9 : decode cX1_threatSet 9 = .ok (.istore 4, 2) := by decide +kernel
theorem dX1_threatSet_11 : decode cX1_threatSet 11 = .ok (.iconst 0, 1) := by decide +kernel
theorem dX1_threatSet_12 : decode cX1_threatSet 12 = .ok (.istore 5, 2) := by decide +kernel
theorem dX1_threatSet_14 : decode cX1_threatSet 14 = .ok (.iload 5, 2) := by decide +kernel
theorem dX1_threatSet_16 : decode cX1_threatSet 16 = .ok (.iload 4, 2) := by decide +kernel
theorem dX1_threatSet_18 : decode cX1_threatSet 18 = .ok (.if_icmp .ge 47, 3) := by decide +kernel
theorem dX1_threatSet_21 : decode cX1_threatSet 21 = .ok (.aload_n 3, 1) := by decide +kernel
theorem dX1_threatSet_22 : decode cX1_threatSet 22 = .ok (.iload 5, 2) := by decide +kernel
theorem dX1_threatSet_24 : decode cX1_threatSet 24 = .ok (.aaload, 1) := by decide +kernel
theorem dX1_threatSet_25 : decode cX1_threatSet 25 = .ok (.astore 6, 2) := by decide +kernel
theorem dX1_threatSet_27 : decode cX1_threatSet 27 = .ok (.aload_n 0, 1) := by decide +kernel
theorem dX1_threatSet_28 : decode cX1_threatSet 28 = .ok (.aload 6, 2) := by decide +kernel
theorem dX1_threatSet_30 : decode cX1_threatSet 30 = .ok (.iconst 0, 1) := by decide +kernel
theorem dX1_threatSet_31 : decode cX1_threatSet 31 = .ok (.aload_n 1, 1) := by decide +kernel
theorem dX1_threatSet_32 : decode cX1_threatSet 32 = .ok (.invokevirtual 192, 3) := by decide +kernel
theorem dX1_threatSet_35 : decode cX1_threatSet 35 = .ok (.ifCond .ne 14, 3) := by decide +kernel
theorem dX1_threatSet_38 : decode cX1_threatSet 38 = .ok (.aload_n 0, 1) := by decide +kernel
theorem dX1_threatSet_39 : decode cX1_threatSet 39 = .ok (.aload 6, 2) := by decide +kernel
theorem dX1_threatSet_41 : decode cX1_threatSet 41 = .ok (.iconst 1, 1) := by decide +kernel
theorem dX1_threatSet_42 : decode cX1_threatSet 42 = .ok (.aload_n 1, 1) := by decide +kernel
theorem dX1_threatSet_43 : decode cX1_threatSet 43 = .ok (.invokevirtual 192, 3) := by decide +kernel
theorem dX1_threatSet_46 : decode cX1_threatSet 46 = .ok (.ifCond .eq 13, 3) := by decide +kernel
theorem dX1_threatSet_49 : decode cX1_threatSet 49 = .ok (.iload_n 2, 1) := by decide +kernel
theorem dX1_threatSet_50 : decode cX1_threatSet 50 = .ok (.iconst 1, 1) := by decide +kernel
theorem dX1_threatSet_51 : decode cX1_threatSet 51 = .ok (.aload 6, 2) := by decide +kernel
theorem dX1_threatSet_53 : decode cX1_threatSet 53 = .ok (.getfield 94, 3) := by decide +kernel
theorem dX1_threatSet_56 : decode cX1_threatSet 56 = .ok (.ishl, 1) := by decide +kernel
theorem dX1_threatSet_57 : decode cX1_threatSet 57 = .ok (.ior, 1) := by decide +kernel
theorem dX1_threatSet_58 : decode cX1_threatSet 58 = .ok (.istore_n 2, 1) := by decide +kernel
theorem dX1_threatSet_59 : decode cX1_threatSet 59 = .ok (.iinc 5 1, 3) := by decide +kernel
theorem dX1_threatSet_62 : decode cX1_threatSet 62 = .ok (.goto (-48), 3) := by decide +kernel
theorem dX1_threatSet_65 : decode cX1_threatSet 65 = .ok (.iload_n 2, 1) := by decide +kernel
theorem dX1_threatSet_66 : decode cX1_threatSet 66 = .ok (.ireturn, 1) := by decide +kernel
theorem dX1_grappleTwo_0 : decode cX1_grappleTwo 0 = .ok (.aload_n 0, 1) := by decide +kernel
theorem dX1_grappleTwo_1 : decode cX1_grappleTwo 1 = .ok (.iload_n 1, 1) := by decide +kernel
theorem dX1_grappleTwo_2 : decode cX1_grappleTwo 2 = .ok (.invokevirtual 158, 3) := by decide +kernel
theorem dX1_grappleTwo_5 : decode cX1_grappleTwo 5 = .ok (.astore_n 3, 1) := by decide +kernel
theorem dX1_grappleTwo_6 : decode cX1_grappleTwo 6 = .ok (.aload_n 0, 1) := by decide +kernel
theorem dX1_grappleTwo_7 : decode cX1_grappleTwo 7 = .ok (.iload_n 2, 1) := by decide +kernel
theorem dX1_grappleTwo_8 : decode cX1_grappleTwo 8 = .ok (.invokevirtual 158, 3) := by decide +kernel
theorem dX1_grappleTwo_11 : decode cX1_grappleTwo 11 = .ok (.astore 4, 2) := by decide +kernel
theorem dX1_grappleTwo_13 : decode cX1_grappleTwo 13 = .ok (.aload_n 3, 1) := by decide +kernel
theorem dX1_grappleTwo_14 : decode cX1_grappleTwo 14 = .ok (.ifnull 13, 3) := by decide +kernel
theorem dX1_grappleTwo_17 : decode cX1_grappleTwo 17 = .ok (.aload 4, 2) := by decide +kernel
theorem dX1_grappleTwo_19 : decode cX1_grappleTwo 19 = .ok (.ifnull 8, 3) := by decide +kernel
theorem dX1_grappleTwo_22 : decode cX1_grappleTwo 22 = .ok (.iload_n 1, 1) := by decide +kernel
theorem dX1_grappleTwo_23 : decode cX1_grappleTwo 23 = .ok (.iload_n 2, 1) := by decide +kernel
theorem dX1_grappleTwo_24 : decode cX1_grappleTwo 24 = .ok (.if_icmp .ne 5, 3) := by decide +kernel
theorem dX1_grappleTwo_27 : decode cX1_grappleTwo 27 = .ok (.iconst (-1), 1) := by decide +kernel
theorem dX1_grappleTwo_28 : decode cX1_grappleTwo 28 = .ok (.ireturn, 1) := by decide +kernel
theorem dX1_grappleTwo_29 : decode cX1_grappleTwo 29 = .ok (.aload_n 3, 1) := by decide +kernel
theorem dX1_grappleTwo_30 : decode cX1_grappleTwo 30 = .ok (.invokevirtual 69, 3) := by decide +kernel
theorem dX1_grappleTwo_33 : decode cX1_grappleTwo 33 = .ok (.ifCond .eq 30, 3) := by decide +kernel
theorem dX1_grappleTwo_36 : decode cX1_grappleTwo 36 = .ok (.aload 4, 2) := by decide +kernel
theorem dX1_grappleTwo_38 : decode cX1_grappleTwo 38 = .ok (.invokevirtual 69, 3) := by decide +kernel
theorem dX1_grappleTwo_41 : decode cX1_grappleTwo 41 = .ok (.ifCond .eq 22, 3) := by decide +kernel
theorem dX1_grappleTwo_44 : decode cX1_grappleTwo 44 = .ok (.aload_n 3, 1) := by decide +kernel
theorem dX1_grappleTwo_45 : decode cX1_grappleTwo 45 = .ok (.invokevirtual 217, 3) := by decide +kernel
theorem dX1_grappleTwo_48 : decode cX1_grappleTwo 48 = .ok (.ifCond .ne 15, 3) := by decide +kernel
theorem dX1_grappleTwo_51 : decode cX1_grappleTwo 51 = .ok (.aload 4, 2) := by decide +kernel
theorem dX1_grappleTwo_53 : decode cX1_grappleTwo 53 = .ok (.invokevirtual 217, 3) := by decide +kernel
theorem dX1_grappleTwo_56 : decode cX1_grappleTwo 56 = .ok (.ifCond .ne 7, 3) := by decide +kernel
theorem dX1_grappleTwo_59 : decode cX1_grappleTwo 59 = .ok (.iconst 1, 1) := by decide +kernel
theorem dX1_grappleTwo_60 : decode cX1_grappleTwo 60 = .ok (.goto 4, 3) := by decide +kernel
theorem dX1_grappleTwo_63 : decode cX1_grappleTwo 63 = .ok (.iconst 0, 1) := by decide +kernel
theorem dX1_grappleTwo_64 : decode cX1_grappleTwo 64 = .ok (.istore 5, 2) := by decide +kernel
theorem dX1_grappleTwo_66 : decode cX1_grappleTwo 66 = .ok (.aload_n 0, 1) := by decide +kernel
theorem dX1_grappleTwo_67 : decode cX1_grappleTwo 67 = .ok (.getfield 43, 3) := by decide +kernel
theorem dX1_grappleTwo_70 : decode cX1_grappleTwo 70 = .ok (.ifCond .eq 49, 3) := by decide +kernel
theorem dX1_grappleTwo_73 : decode cX1_grappleTwo 73 = .ok (.iload 5, 2) := by decide +kernel
theorem dX1_grappleTwo_75 : decode cX1_grappleTwo 75 = .ok (.ifCond .eq 44, 3) := by decide +kernel
theorem dX1_grappleTwo_78 : decode cX1_grappleTwo 78 = .ok (.aload_n 3, 1) := by decide +kernel
theorem dX1_grappleTwo_79 : decode cX1_grappleTwo 79 = .ok (.getfield 105, 3) := by decide +kernel
theorem dX1_grappleTwo_82 : decode cX1_grappleTwo 82 = .ok (.aload 4, 2) := by decide +kernel
theorem dX1_grappleTwo_84 : decode cX1_grappleTwo 84 = .ok (.getfield 105, 3) := by decide +kernel
theorem dX1_grappleTwo_87 : decode cX1_grappleTwo 87 = .ok (.if_icmp .eq 32, 3) := by decide +kernel
theorem dX1_grappleTwo_90 : decode cX1_grappleTwo 90 = .ok (.aload_n 3, 1) := by decide +kernel
theorem dX1_grappleTwo_91 : decode cX1_grappleTwo 91 = .ok (.getfield 73, 3) := by decide +kernel
theorem dX1_grappleTwo_94 : decode cX1_grappleTwo 94 = .ok (.aload 4, 2) := by decide +kernel
theorem dX1_grappleTwo_96 : decode cX1_grappleTwo 96 = .ok (.getfield 73, 3) := by decide +kernel
theorem dX1_grappleTwo_99 : decode cX1_grappleTwo 99 = .ok (.invokestatic 220, 3) := by decide +kernel
theorem dX1_grappleTwo_102 : decode cX1_grappleTwo 102 = .ok (.ifCond .eq 17, 3) := by decide +kernel
theorem dX1_grappleTwo_105 : decode cX1_grappleTwo 105 = .ok (.iconst 2, 1) := by decide +kernel
theorem dX1_grappleTwo_106 : decode cX1_grappleTwo 106 = .ok (.aload_n 3, 1) := by decide +kernel
theorem dX1_grappleTwo_107 : decode cX1_grappleTwo 107 = .ok (.getfield 117, 3) := by decide +kernel
theorem dX1_grappleTwo_110 : decode cX1_grappleTwo 110 = .ok (.imul, 1) := by decide +kernel
theorem dX1_grappleTwo_111 : decode cX1_grappleTwo 111 = .ok (.aload 4, 2) := by decide +kernel
theorem dX1_grappleTwo_113 : decode cX1_grappleTwo 113 = .ok (.getfield 117, 3) := by decide +kernel
theorem dX1_grappleTwo_116 : decode cX1_grappleTwo 116 = .ok (.if_icmp .ge 6, 3) := by decide +kernel
theorem dX1_grappleTwo_119 : decode cX1_grappleTwo 119 = .ok (.bipush (-2), 2) := by decide +kernel
theorem dX1_grappleTwo_121 : decode cX1_grappleTwo 121 = .ok (.ireturn, 1) := by decide +kernel
theorem dX1_grappleTwo_122 : decode cX1_grappleTwo 122 = .ok (.aload_n 3, 1) := by decide +kernel
theorem dX1_grappleTwo_123 : decode cX1_grappleTwo 123 = .ok (.aload 4, 2) := by decide +kernel
theorem dX1_grappleTwo_125 : decode cX1_grappleTwo 125 = .ok (.getfield 94, 3) := by decide +kernel
theorem dX1_grappleTwo_128 : decode cX1_grappleTwo 128 = .ok (.putfield 223, 3) := by decide +kernel
theorem dX1_grappleTwo_131 : decode cX1_grappleTwo 131 = .ok (.aload 4, 2) := by decide +kernel
theorem dX1_grappleTwo_133 : decode cX1_grappleTwo 133 = .ok (.aload_n 3, 1) := by decide +kernel
theorem dX1_grappleTwo_134 : decode cX1_grappleTwo 134 = .ok (.getfield 94, 3) := by decide +kernel
theorem dX1_grappleTwo_137 : decode cX1_grappleTwo 137 = .ok (.putfield 223, 3) := by decide +kernel
theorem dX1_grappleTwo_140 : decode cX1_grappleTwo 140 = .ok (.aload_n 3, 1) := by decide +kernel
theorem dX1_grappleTwo_141 : decode cX1_grappleTwo 141 = .ok (.getfield 117, 3) := by decide +kernel
theorem dX1_grappleTwo_144 : decode cX1_grappleTwo 144 = .ok (.aload 4, 2) := by decide +kernel
theorem dX1_grappleTwo_146 : decode cX1_grappleTwo 146 = .ok (.getfield 117, 3) := by decide +kernel
theorem dX1_grappleTwo_149 : decode cX1_grappleTwo 149 = .ok (.iadd, 1) := by decide +kernel
theorem dX1_grappleTwo_150 : decode cX1_grappleTwo 150 = .ok (.ireturn, 1) := by decide +kernel
theorem dX1_cutLoose_0 : decode cX1_cutLoose 0 = .ok (.aload_n 0, 1) := by decide +kernel
theorem dX1_cutLoose_1 : decode cX1_cutLoose 1 = .ok (.iload_n 1, 1) := by decide +kernel
theorem dX1_cutLoose_2 : decode cX1_cutLoose 2 = .ok (.invokevirtual 158, 3) := by decide +kernel
theorem dX1_cutLoose_5 : decode cX1_cutLoose 5 = .ok (.astore_n 2, 1) := by decide +kernel
theorem dX1_cutLoose_6 : decode cX1_cutLoose 6 = .ok (.aload_n 2, 1) := by decide +kernel
theorem dX1_cutLoose_7 : decode cX1_cutLoose 7 = .ok (.ifnonnull 5, 3) := by decide +kernel
theorem dX1_cutLoose_10 : decode cX1_cutLoose 10 = .ok (.iconst (-1), 1) := by decide +kernel
theorem dX1_cutLoose_11 : decode cX1_cutLoose 11 = .ok (.ireturn, 1) := by decide +kernel
theorem dX1_cutLoose_12 : decode cX1_cutLoose 12 = .ok (.aload_n 0, 1) := by decide +kernel
theorem dX1_cutLoose_13 : decode cX1_cutLoose 13 = .ok (.aload_n 2, 1) := by decide +kernel
theorem dX1_cutLoose_14 : decode cX1_cutLoose 14 = .ok (.getfield 223, 3) := by decide +kernel
theorem dX1_cutLoose_17 : decode cX1_cutLoose 17 = .ok (.invokevirtual 158, 3) := by decide +kernel
theorem dX1_cutLoose_20 : decode cX1_cutLoose 20 = .ok (.astore_n 3, 1) := by decide +kernel
theorem dX1_cutLoose_21 : decode cX1_cutLoose 21 = .ok (.aload_n 0, 1) := by decide +kernel
theorem dX1_cutLoose_22 : decode cX1_cutLoose 22 = .ok (.getfield 43, 3) := by decide +kernel
theorem dX1_cutLoose_25 : decode cX1_cutLoose 25 = .ok (.ifCond .eq 18, 3) := by decide +kernel
theorem dX1_cutLoose_28 : decode cX1_cutLoose 28 = .ok (.aload_n 3, 1) := by decide +kernel
theorem dX1_cutLoose_29 : decode cX1_cutLoose 29 = .ok (.ifnull 14, 3) := by decide +kernel
theorem dX1_cutLoose_32 : decode cX1_cutLoose 32 = .ok (.aload_n 2, 1) := by decide +kernel
theorem dX1_cutLoose_33 : decode cX1_cutLoose 33 = .ok (.getfield 117, 3) := by decide +kernel
theorem dX1_cutLoose_36 : decode cX1_cutLoose 36 = .ok (.aload_n 3, 1) := by decide +kernel
theorem dX1_cutLoose_37 : decode cX1_cutLoose 37 = .ok (.getfield 117, 3) := by decide +kernel
theorem dX1_cutLoose_40 : decode cX1_cutLoose 40 = .ok (.if_icmp .ge 6, 3) := by decide +kernel
theorem dX1_cutLoose_43 : decode cX1_cutLoose 43 = .ok (.bipush (-2), 2) := by decide +kernel
theorem dX1_cutLoose_45 : decode cX1_cutLoose 45 = .ok (.ireturn, 1) := by decide +kernel
theorem dX1_cutLoose_46 : decode cX1_cutLoose 46 = .ok (.aload_n 0, 1) := by decide +kernel
theorem dX1_cutLoose_47 : decode cX1_cutLoose 47 = .ok (.aload_n 2, 1) := by decide +kernel
theorem dX1_cutLoose_48 : decode cX1_cutLoose 48 = .ok (.invokevirtual 206, 3) := by decide +kernel
theorem dX1_cutLoose_51 : decode cX1_cutLoose 51 = .ok (.aload_n 3, 1) := by decide +kernel
theorem dX1_cutLoose_52 : decode cX1_cutLoose 52 = .ok (.getfield 94, 3) := by decide +kernel
theorem dX1_cutLoose_55 : decode cX1_cutLoose 55 = .ok (.ireturn, 1) := by decide +kernel
theorem dX1_release_0 : decode cX1_release 0 = .ok (.aload_n 0, 1) := by decide +kernel
theorem dX1_release_1 : decode cX1_release 1 = .ok (.aload_n 1, 1) := by decide +kernel
theorem dX1_release_2 : decode cX1_release 2 = .ok (.getfield 223, 3) := by decide +kernel
theorem dX1_release_5 : decode cX1_release 5 = .ok (.invokevirtual 158, 3) := by decide +kernel
theorem dX1_release_8 : decode cX1_release 8 = .ok (.astore_n 2, 1) := by decide +kernel
theorem dX1_release_9 : decode cX1_release 9 = .ok (.aload_n 2, 1) := by decide +kernel
theorem dX1_release_10 : decode cX1_release 10 = .ok (.ifnull 9, 3) := by decide +kernel
theorem dX1_release_13 : decode cX1_release 13 = .ok (.aload_n 2, 1) := by decide +kernel
theorem dX1_release_14 : decode cX1_release 14 = .ok (.bipush (-9), 2) := by decide +kernel
theorem dX1_release_16 : decode cX1_release 16 = .ok (.putfield 223, 3) := by decide +kernel
theorem dX1_release_19 : decode cX1_release 19 = .ok (.aload_n 1, 1) := by decide +kernel
theorem dX1_release_20 : decode cX1_release 20 = .ok (.bipush (-9), 2) := by decide +kernel
theorem dX1_release_22 : decode cX1_release 22 = .ok (.putfield 223, 3) := by decide +kernel
theorem dX1_release_25 : decode cX1_release 25 = .ok (.return_, 1) := by decide +kernel
theorem dX1_fight_0 : decode cX1_fight 0 = .ok (.aload_n 2, 1) := by decide +kernel
theorem dX1_fight_1 : decode cX1_fight 1 = .ok (.getfield 117, 3) := by decide +kernel
theorem dX1_fight_4 : decode cX1_fight 4 = .ok (.iconst 3, 1) := by decide +kernel
theorem dX1_fight_5 : decode cX1_fight 5 = .ok (.iadd, 1) := by decide +kernel
theorem dX1_fight_6 : decode cX1_fight 6 = .ok (.iconst 4, 1) := by decide +kernel
theorem dX1_fight_7 : decode cX1_fight 7 = .ok (.idiv, 1) := by decide +kernel
theorem dX1_fight_8 : decode cX1_fight 8 = .ok (.istore_n 3, 1) := by decide +kernel
theorem dX1_fight_9 : decode cX1_fight 9 = .ok (.aload_n 1, 1) := by decide +kernel
theorem dX1_fight_10 : decode cX1_fight 10 = .ok (.getfield 117, 3) := by decide +kernel
theorem dX1_fight_13 : decode cX1_fight 13 = .ok (.iconst 3, 1) := by decide +kernel
theorem dX1_fight_14 : decode cX1_fight 14 = .ok (.iadd, 1) := by decide +kernel
theorem dX1_fight_15 : decode cX1_fight 15 = .ok (.iconst 4, 1) := by decide +kernel
theorem dX1_fight_16 : decode cX1_fight 16 = .ok (.idiv, 1) := by decide +kernel
theorem dX1_fight_17 : decode cX1_fight 17 = .ok (.istore 4, 2) := by decide +kernel
theorem dX1_fight_19 : decode cX1_fight 19 = .ok (.aload_n 1, 1) := by decide +kernel
theorem dX1_fight_20 : decode cX1_fight 20 = .ok (.iconst 0, 1) := by decide +kernel
theorem dX1_fight_21 : decode cX1_fight 21 = .ok (.aload_n 1, 1) := by decide +kernel
theorem dX1_fight_22 : decode cX1_fight 22 = .ok (.getfield 117, 3) := by decide +kernel
theorem dX1_fight_25 : decode cX1_fight 25 = .ok (.iload_n 3, 1) := by decide +kernel
theorem dX1_fight_26 : decode cX1_fight 26 = .ok (.isub, 1) := by decide +kernel
theorem dX1_fight_27 : decode cX1_fight 27 = .ok (.invokestatic 226, 3) := by decide +kernel
theorem dX1_fight_30 : decode cX1_fight 30 = .ok (.putfield 117, 3) := by decide +kernel
theorem dX1_fight_33 : decode cX1_fight 33 = .ok (.aload_n 2, 1) := by decide +kernel
theorem dX1_fight_34 : decode cX1_fight 34 = .ok (.iconst 0, 1) := by decide +kernel
theorem dX1_fight_35 : decode cX1_fight 35 = .ok (.aload_n 2, 1) := by decide +kernel
theorem dX1_fight_36 : decode cX1_fight 36 = .ok (.getfield 117, 3) := by decide +kernel
theorem dX1_fight_39 : decode cX1_fight 39 = .ok (.iload 4, 2) := by decide +kernel
theorem dX1_fight_41 : decode cX1_fight 41 = .ok (.isub, 1) := by decide +kernel
theorem dX1_fight_42 : decode cX1_fight 42 = .ok (.invokestatic 226, 3) := by decide +kernel
theorem dX1_fight_45 : decode cX1_fight 45 = .ok (.putfield 117, 3) := by decide +kernel
theorem dX1_fight_48 : decode cX1_fight 48 = .ok (.aload_n 1, 1) := by decide +kernel
theorem dX1_fight_49 : decode cX1_fight 49 = .ok (.getfield 117, 3) := by decide +kernel
theorem dX1_fight_52 : decode cX1_fight 52 = .ok (.ifCond .le 11, 3) := by decide +kernel
theorem dX1_fight_55 : decode cX1_fight 55 = .ok (.aload_n 2, 1) := by decide +kernel
theorem dX1_fight_56 : decode cX1_fight 56 = .ok (.getfield 117, 3) := by decide +kernel
theorem dX1_fight_59 : decode cX1_fight 59 = .ok (.ifCond .le 4, 3) := by decide +kernel
theorem dX1_fight_62 : decode cX1_fight 62 = .ok (.return_, 1) := by decide +kernel
theorem dX1_fight_63 : decode cX1_fight 63 = .ok (.aload_n 1, 1) := by decide +kernel
theorem dX1_fight_64 : decode cX1_fight 64 = .ok (.getfield 117, 3) := by decide +kernel
theorem dX1_fight_67 : decode cX1_fight 67 = .ok (.ifCond .le 12, 3) := by decide +kernel
theorem dX1_fight_70 : decode cX1_fight 70 = .ok (.aload_n 0, 1) := by decide +kernel
theorem dX1_fight_71 : decode cX1_fight 71 = .ok (.aload_n 1, 1) := by decide +kernel
theorem dX1_fight_72 : decode cX1_fight 72 = .ok (.aload_n 2, 1) := by decide +kernel
theorem dX1_fight_73 : decode cX1_fight 73 = .ok (.invokevirtual 231, 3) := by decide +kernel
theorem dX1_fight_76 : decode cX1_fight 76 = .ok (.goto 16, 3) := by decide +kernel
theorem dX1_fight_79 : decode cX1_fight 79 = .ok (.aload_n 2, 1) := by decide +kernel
theorem dX1_fight_80 : decode cX1_fight 80 = .ok (.getfield 117, 3) := by decide +kernel
theorem dX1_fight_83 : decode cX1_fight 83 = .ok (.ifCond .le 9, 3) := by decide +kernel
theorem dX1_fight_86 : decode cX1_fight 86 = .ok (.aload_n 0, 1) := by decide +kernel
theorem dX1_fight_87 : decode cX1_fight 87 = .ok (.aload_n 2, 1) := by decide +kernel
theorem dX1_fight_88 : decode cX1_fight 88 = .ok (.aload_n 1, 1) := by decide +kernel
theorem dX1_fight_89 : decode cX1_fight 89 = .ok (.invokevirtual 231, 3) := by decide +kernel
theorem dX1_fight_92 : decode cX1_fight 92 = .ok (.aload_n 0, 1) := by decide +kernel
theorem dX1_fight_93 : decode cX1_fight 93 = .ok (.aload_n 1, 1) := by decide +kernel
theorem dX1_fight_94 : decode cX1_fight 94 = .ok (.invokevirtual 206, 3) := by decide +kernel
theorem dX1_fight_97 : decode cX1_fight 97 = .ok (.return_, 1) := by decide +kernel
theorem dX1_capture_0 : decode cX1_capture 0 = .ok (.aload_n 1, 1) := by decide +kernel
theorem dX1_capture_1 : decode cX1_capture 1 = .ok (.getfield 117, 3) := by decide +kernel
theorem dX1_capture_4 : decode cX1_capture 4 = .ok (.iconst 2, 1) := by decide +kernel
theorem dX1_capture_5 : decode cX1_capture 5 = .ok (.idiv, 1) := by decide +kernel
theorem dX1_capture_6 : decode cX1_capture 6 = .ok (.istore_n 3, 1) := by decide +kernel
theorem dX1_capture_7 : decode cX1_capture 7 = .ok (.aload_n 1, 1) := by decide +kernel
theorem dX1_capture_8 : decode cX1_capture 8 = .ok (.dup, 1) := by decide +kernel
theorem dX1_capture_9 : decode cX1_capture 9 = .ok (.getfield 117, 3) := by decide +kernel
theorem dX1_capture_12 : decode cX1_capture 12 = .ok (.iload_n 3, 1) := by decide +kernel
theorem dX1_capture_13 : decode cX1_capture 13 = .ok (.isub, 1) := by decide +kernel
theorem dX1_capture_14 : decode cX1_capture 14 = .ok (.putfield 117, 3) := by decide +kernel
theorem dX1_capture_17 : decode cX1_capture 17 = .ok (.aload_n 2, 1) := by decide +kernel
theorem dX1_capture_18 : decode cX1_capture 18 = .ok (.dup, 1) := by decide +kernel
theorem dX1_capture_19 : decode cX1_capture 19 = .ok (.getfield 117, 3) := by decide +kernel
theorem dX1_capture_22 : decode cX1_capture 22 = .ok (.iload_n 3, 1) := by decide +kernel
theorem dX1_capture_23 : decode cX1_capture 23 = .ok (.iadd, 1) := by decide +kernel
theorem dX1_capture_24 : decode cX1_capture 24 = .ok (.putfield 117, 3) := by decide +kernel
theorem dX1_capture_27 : decode cX1_capture 27 = .ok (.aload_n 2, 1) := by decide +kernel
theorem dX1_capture_28 : decode cX1_capture 28 = .ok (.aload_n 1, 1) := by decide +kernel
theorem dX1_capture_29 : decode cX1_capture 29 = .ok (.getfield 105, 3) := by decide +kernel
theorem dX1_capture_32 : decode cX1_capture 32 = .ok (.putfield 105, 3) := by decide +kernel
theorem dX1_capture_35 : decode cX1_capture 35 = .ok (.aload_n 0, 1) := by decide +kernel
theorem dX1_capture_36 : decode cX1_capture 36 = .ok (.dup, 1) := by decide +kernel
theorem dX1_capture_37 : decode cX1_capture 37 = .ok (.getfield 53, 3) := by decide +kernel
theorem dX1_capture_40 : decode cX1_capture 40 = .ok (.iconst 1, 1) := by decide +kernel
theorem dX1_capture_41 : decode cX1_capture 41 = .ok (.iadd, 1) := by decide +kernel
theorem dX1_capture_42 : decode cX1_capture 42 = .ok (.putfield 53, 3) := by decide +kernel
theorem dX1_capture_45 : decode cX1_capture 45 = .ok (.return_, 1) := by decide +kernel
theorem dX1_mend_0 : decode cX1_mend 0 = .ok (.aload_n 0, 1) := by decide +kernel
theorem dX1_mend_1 : decode cX1_mend 1 = .ok (.iload_n 1, 1) := by decide +kernel
theorem dX1_mend_2 : decode cX1_mend 2 = .ok (.invokevirtual 158, 3) := by decide +kernel
theorem dX1_mend_5 : decode cX1_mend 5 = .ok (.astore_n 3, 1) := by decide +kernel
theorem dX1_mend_6 : decode cX1_mend 6 = .ok (.aload_n 3, 1) := by decide +kernel
theorem dX1_mend_7 : decode cX1_mend 7 = .ok (.ifnull 12, 3) := by decide +kernel
theorem dX1_mend_10 : decode cX1_mend 10 = .ok (.iload_n 2, 1) := by decide +kernel
theorem dX1_mend_11 : decode cX1_mend 11 = .ok (.ifCond .lt 8, 3) := by decide +kernel
theorem dX1_mend_14 : decode cX1_mend 14 = .ok (.iload_n 2, 1) := by decide +kernel
theorem dX1_mend_15 : decode cX1_mend 15 = .ok (.iconst 2, 1) := by decide +kernel
theorem dX1_mend_16 : decode cX1_mend 16 = .ok (.if_icmp .le 5, 3) := by decide +kernel
theorem dX1_mend_19 : decode cX1_mend 19 = .ok (.iconst (-1), 1) := by decide +kernel
theorem dX1_mend_20 : decode cX1_mend 20 = .ok (.ireturn, 1) := by decide +kernel
theorem dX1_mend_21 : decode cX1_mend 21 = .ok (.aload_n 0, 1) := by decide +kernel
theorem dX1_mend_22 : decode cX1_mend 22 = .ok (.getfield 43, 3) := by decide +kernel
theorem dX1_mend_25 : decode cX1_mend 25 = .ok (.ifCond .eq 24, 3) := by decide +kernel
theorem dX1_mend_28 : decode cX1_mend 28 = .ok (.aload_n 3, 1) := by decide +kernel
theorem dX1_mend_29 : decode cX1_mend 29 = .ok (.invokevirtual 69, 3) := by decide +kernel
theorem dX1_mend_32 : decode cX1_mend 32 = .ok (.ifCond .eq 17, 3) := by decide +kernel
theorem dX1_mend_35 : decode cX1_mend 35 = .ok (.aload_n 3, 1) := by decide +kernel
theorem dX1_mend_36 : decode cX1_mend 36 = .ok (.invokevirtual 217, 3) := by decide +kernel
theorem dX1_mend_39 : decode cX1_mend 39 = .ok (.ifCond .ne 10, 3) := by decide +kernel
theorem dX1_mend_42 : decode cX1_mend 42 = .ok (.aload_n 3, 1) := by decide +kernel
theorem dX1_mend_43 : decode cX1_mend 43 = .ok (.getfield 186, 3) := by decide +kernel
theorem dX1_mend_46 : decode cX1_mend 46 = .ok (.ifCond .eq 6, 3) := by decide +kernel
theorem dX1_mend_49 : decode cX1_mend 49 = .ok (.bipush (-2), 2) := by decide +kernel
theorem dX1_mend_51 : decode cX1_mend 51 = .ok (.ireturn, 1) := by decide +kernel
theorem dX1_mend_52 : decode cX1_mend 52 = .ok (.aload_n 0, 1) := by decide +kernel
theorem dX1_mend_53 : decode cX1_mend 53 = .ok (.aload_n 3, 1) := by decide +kernel
theorem dX1_mend_54 : decode cX1_mend 54 = .ok (.getfield 105, 3) := by decide +kernel
theorem dX1_mend_57 : decode cX1_mend 57 = .ok (.invokevirtual 123, 3) := by decide +kernel
theorem dX1_mend_60 : decode cX1_mend 60 = .ok (.astore 4, 2) := by decide +kernel
theorem dX1_mend_62 : decode cX1_mend 62 = .ok (.aload_n 3, 1) := by decide +kernel
theorem dX1_mend_63 : decode cX1_mend 63 = .ok (.iload_n 2, 1) := by decide +kernel
theorem dX1_mend_64 : decode cX1_mend 64 = .ok (.aload 4, 2) := by decide +kernel
theorem dX1_mend_66 : decode cX1_mend 66 = .ok (.getfield 127, 3) := by decide +kernel
theorem dX1_mend_69 : decode cX1_mend 69 = .ok (.invokestatic 235, 3) := by decide +kernel
theorem dX1_mend_72 : decode cX1_mend 72 = .ok (.istore 5, 2) := by decide +kernel
theorem dX1_mend_74 : decode cX1_mend 74 = .ok (.iload 5, 2) := by decide +kernel
theorem dX1_mend_76 : decode cX1_mend 76 = .ok (.ifCond .gt 6, 3) := by decide +kernel
theorem dX1_mend_79 : decode cX1_mend 79 = .ok (.bipush (-2), 2) := by decide +kernel
theorem dX1_mend_81 : decode cX1_mend 81 = .ok (.ireturn, 1) := by decide +kernel
theorem dX1_mend_82 : decode cX1_mend 82 = .ok (.iload_n 2, 1) := by decide +kernel
theorem dX1_mend_83 : decode cX1_mend 83 = .ok (.ifCond .ne 17, 3) := by decide +kernel
theorem dX1_mend_86 : decode cX1_mend 86 = .ok (.aload_n 3, 1) := by decide +kernel
theorem dX1_mend_87 : decode cX1_mend 87 = .ok (.dup, 1) := by decide +kernel
theorem dX1_mend_88 : decode cX1_mend 88 = .ok (.getfield 111, 3) := by decide +kernel
theorem dX1_mend_91 : decode cX1_mend 91 = .ok (.iload 5, 2) := by decide +kernel
theorem dX1_mend_93 : decode cX1_mend 93 = .ok (.iadd, 1) := by decide +kernel
theorem dX1_mend_94 : decode cX1_mend 94 = .ok (.putfield 111, 3) := by decide +kernel
theorem dX1_mend_97 : decode cX1_mend 97 = .ok (.goto 33, 3) := by decide +kernel
theorem dX1_mend_100 : decode cX1_mend 100 = .ok (.iload_n 2, 1) := by decide +kernel
theorem dX1_mend_101 : decode cX1_mend 101 = .ok (.iconst 1, 1) := by decide +kernel
theorem dX1_mend_102 : decode cX1_mend 102 = .ok (.if_icmp .ne 17, 3) := by decide +kernel
theorem dX1_mend_105 : decode cX1_mend 105 = .ok (.aload_n 3, 1) := by decide +kernel
theorem dX1_mend_106 : decode cX1_mend 106 = .ok (.dup, 1) := by decide +kernel
theorem dX1_mend_107 : decode cX1_mend 107 = .ok (.getfield 114, 3) := by decide +kernel
theorem dX1_mend_110 : decode cX1_mend 110 = .ok (.iload 5, 2) := by decide +kernel
theorem dX1_mend_112 : decode cX1_mend 112 = .ok (.iadd, 1) := by decide +kernel
theorem dX1_mend_113 : decode cX1_mend 113 = .ok (.putfield 114, 3) := by decide +kernel
theorem dX1_mend_116 : decode cX1_mend 116 = .ok (.goto 14, 3) := by decide +kernel
theorem dX1_mend_119 : decode cX1_mend 119 = .ok (.aload_n 3, 1) := by decide +kernel
theorem dX1_mend_120 : decode cX1_mend 120 = .ok (.dup, 1) := by decide +kernel
theorem dX1_mend_121 : decode cX1_mend 121 = .ok (.getfield 120, 3) := by decide +kernel
theorem dX1_mend_124 : decode cX1_mend 124 = .ok (.iload 5, 2) := by decide +kernel
theorem dX1_mend_126 : decode cX1_mend 126 = .ok (.iadd, 1) := by decide +kernel
theorem dX1_mend_127 : decode cX1_mend 127 = .ok (.putfield 120, 3) := by decide +kernel
theorem dX1_mend_130 : decode cX1_mend 130 = .ok (.aload 4, 2) := by decide +kernel
theorem dX1_mend_132 : decode cX1_mend 132 = .ok (.dup, 1) := by decide +kernel
theorem dX1_mend_133 : decode cX1_mend 133 = .ok (.getfield 127, 3) := by decide +kernel
theorem dX1_mend_136 : decode cX1_mend 136 = .ok (.iload 5, 2) := by decide +kernel
theorem dX1_mend_138 : decode cX1_mend 138 = .ok (.iload_n 2, 1) := by decide +kernel
theorem dX1_mend_139 : decode cX1_mend 139 = .ok (.iconst 1, 1) := by decide +kernel
theorem dX1_mend_140 : decode cX1_mend 140 = .ok (.iadd, 1) := by decide +kernel
theorem dX1_mend_141 : decode cX1_mend 141 = .ok (.imul, 1) := by decide +kernel
theorem dX1_mend_142 : decode cX1_mend 142 = .ok (.isub, 1) := by decide +kernel
theorem dX1_mend_143 : decode cX1_mend 143 = .ok (.putfield 127, 3) := by decide +kernel
theorem dX1_mend_146 : decode cX1_mend 146 = .ok (.aload_n 3, 1) := by decide +kernel
theorem dX1_mend_147 : decode cX1_mend 147 = .ok (.dup, 1) := by decide +kernel
theorem dX1_mend_148 : decode cX1_mend 148 = .ok (.getfield 186, 3) := by decide +kernel
theorem dX1_mend_151 : decode cX1_mend 151 = .ok (.iconst 4, 1) := by decide +kernel
theorem dX1_mend_152 : decode cX1_mend 152 = .ok (.ior, 1) := by decide +kernel
theorem dX1_mend_153 : decode cX1_mend 153 = .ok (.putfield 186, 3) := by decide +kernel
theorem dX1_mend_156 : decode cX1_mend 156 = .ok (.iload 5, 2) := by decide +kernel
theorem dX1_mend_158 : decode cX1_mend 158 = .ok (.ireturn, 1) := by decide +kernel
theorem dX1_mendable_0 : decode cX1_mendable 0 = .ok (.iload_n 1, 1) := by decide +kernel
theorem dX1_mendable_1 : decode cX1_mendable 1 = .ok (.ifCond .ne 24, 3) := by decide +kernel
theorem dX1_mendable_4 : decode cX1_mendable 4 = .ok (.iload_n 2, 1) := by decide +kernel
theorem dX1_mendable_5 : decode cX1_mendable 5 = .ok (.aload_n 0, 1) := by decide +kernel
theorem dX1_mendable_6 : decode cX1_mendable 6 = .ok (.getfield 117, 3) := by decide +kernel
theorem dX1_mendable_9 : decode cX1_mendable 9 = .ok (.iconst 4, 1) := by decide +kernel
theorem dX1_mendable_10 : decode cX1_mendable 10 = .ok (.idiv, 1) := by decide +kernel
theorem dX1_mendable_11 : decode cX1_mendable 11 = .ok (.bipush 20, 2) := by decide +kernel
theorem dX1_mendable_13 : decode cX1_mendable 13 = .ok (.aload_n 0, 1) := by decide +kernel
theorem dX1_mendable_14 : decode cX1_mendable 14 = .ok (.getfield 111, 3) := by decide +kernel
theorem dX1_mendable_17 : decode cX1_mendable 17 = .ok (.isub, 1) := by decide +kernel
theorem dX1_mendable_18 : decode cX1_mendable 18 = .ok (.invokestatic 238, 3) := by decide +kernel
theorem dX1_mendable_21 : decode cX1_mendable 21 = .ok (.invokestatic 238, 3) := by decide +kernel
theorem dX1_mendable_24 : decode cX1_mendable 24 = .ok (.ireturn, 1) := by decide +kernel
theorem dX1_mendable_25 : decode cX1_mendable 25 = .ok (.iload_n 1, 1) := by decide +kernel
theorem dX1_mendable_26 : decode cX1_mendable 26 = .ok (.iconst 1, 1) := by decide +kernel
theorem dX1_mendable_27 : decode cX1_mendable 27 = .ok (.if_icmp .ne 23, 3) := by decide +kernel
theorem dX1_mendable_30 : decode cX1_mendable 30 = .ok (.aload_n 0, 1) := by decide +kernel
theorem dX1_mendable_31 : decode cX1_mendable 31 = .ok (.getfield 114, 3) := by decide +kernel
theorem dX1_mendable_34 : decode cX1_mendable 34 = .ok (.bipush 8, 2) := by decide +kernel
theorem dX1_mendable_36 : decode cX1_mendable 36 = .ok (.if_icmp .ge 12, 3) := by decide +kernel
theorem dX1_mendable_39 : decode cX1_mendable 39 = .ok (.iload_n 2, 1) := by decide +kernel
theorem dX1_mendable_40 : decode cX1_mendable 40 = .ok (.iconst 2, 1) := by decide +kernel
theorem dX1_mendable_41 : decode cX1_mendable 41 = .ok (.if_icmp .lt 7, 3) := by decide +kernel
theorem dX1_mendable_44 : decode cX1_mendable 44 = .ok (.iconst 1, 1) := by decide +kernel
theorem dX1_mendable_45 : decode cX1_mendable 45 = .ok (.goto 4, 3) := by decide +kernel
theorem dX1_mendable_48 : decode cX1_mendable 48 = .ok (.iconst 0, 1) := by decide +kernel
theorem dX1_mendable_49 : decode cX1_mendable 49 = .ok (.ireturn, 1) := by decide +kernel
theorem dX1_mendable_50 : decode cX1_mendable 50 = .ok (.aload_n 0, 1) := by decide +kernel
theorem dX1_mendable_51 : decode cX1_mendable 51 = .ok (.getfield 120, 3) := by decide +kernel
theorem dX1_mendable_54 : decode cX1_mendable 54 = .ok (.bipush 9, 2) := by decide +kernel
theorem dX1_mendable_56 : decode cX1_mendable 56 = .ok (.if_icmp .ge 12, 3) := by decide +kernel
theorem dX1_mendable_59 : decode cX1_mendable 59 = .ok (.iload_n 2, 1) := by decide +kernel
theorem dX1_mendable_60 : decode cX1_mendable 60 = .ok (.iconst 3, 1) := by decide +kernel
theorem dX1_mendable_61 : decode cX1_mendable 61 = .ok (.if_icmp .lt 7, 3) := by decide +kernel
theorem dX1_mendable_64 : decode cX1_mendable 64 = .ok (.iconst 1, 1) := by decide +kernel
theorem dX1_mendable_65 : decode cX1_mendable 65 = .ok (.goto 4, 3) := by decide +kernel
theorem dX1_mendable_68 : decode cX1_mendable 68 = .ok (.iconst 0, 1) := by decide +kernel
theorem dX1_mendable_69 : decode cX1_mendable 69 = .ok (.ireturn, 1) := by decide +kernel
theorem dX1_endTurn_0 : decode cX1_endTurn 0 = .ok (.aload_n 0, 1) := by decide +kernel
theorem dX1_endTurn_1 : decode cX1_endTurn 1 = .ok (.getfield 43, 3) := by decide +kernel
theorem dX1_endTurn_4 : decode cX1_endTurn 4 = .ok (.ifCond .ne 6, 3) := by decide +kernel
theorem dX1_endTurn_7 : decode cX1_endTurn 7 = .ok (.bipush (-2), 2) := by decide +kernel
theorem dX1_endTurn_9 : decode cX1_endTurn 9 = .ok (.ireturn, 1) := by decide +kernel
theorem dX1_endTurn_10 : decode cX1_endTurn 10 = .ok (.aload_n 0, 1) := by decide +kernel
theorem dX1_endTurn_11 : decode cX1_endTurn 11 = .ok (.getfield 33, 3) := by decide +kernel
theorem dX1_endTurn_14 : decode cX1_endTurn 14 = .ok (.astore_n 1, 1) := by decide +kernel
theorem dX1_endTurn_15 : decode cX1_endTurn 15 = .ok (.aload_n 1, 1) := by decide +kernel
theorem dX1_endTurn_16 : decode cX1_endTurn 16 = .ok (.arraylength, 1) := by decide +kernel
theorem dX1_endTurn_17 : decode cX1_endTurn 17 = .ok (.istore_n 2, 1) := by decide +kernel
theorem dX1_endTurn_18 : decode cX1_endTurn 18 = .ok (.iconst 0, 1) := by decide +kernel
theorem dX1_endTurn_19 : decode cX1_endTurn 19 = .ok (.istore_n 3, 1) := by decide +kernel
theorem dX1_endTurn_20 : decode cX1_endTurn 20 = .ok (.iload_n 3, 1) := by decide +kernel
theorem dX1_endTurn_21 : decode cX1_endTurn 21 = .ok (.iload_n 2, 1) := by decide +kernel
theorem dX1_endTurn_22 : decode cX1_endTurn 22 = .ok (.if_icmp .ge 51, 3) := by decide +kernel
theorem dX1_endTurn_25 : decode cX1_endTurn 25 = .ok (.aload_n 1, 1) := by decide +kernel
theorem dX1_endTurn_26 : decode cX1_endTurn 26 = .ok (.iload_n 3, 1) := by decide +kernel
theorem dX1_endTurn_27 : decode cX1_endTurn 27 = .ok (.aaload, 1) := by decide +kernel
theorem dX1_endTurn_28 : decode cX1_endTurn 28 = .ok (.astore 4, 2) := by decide +kernel
theorem dX1_endTurn_30 : decode cX1_endTurn 30 = .ok (.aload_n 0, 1) := by decide +kernel
theorem dX1_endTurn_31 : decode cX1_endTurn 31 = .ok (.aload 4, 2) := by decide +kernel
theorem dX1_endTurn_33 : decode cX1_endTurn 33 = .ok (.getfield 223, 3) := by decide +kernel
theorem dX1_endTurn_36 : decode cX1_endTurn 36 = .ok (.invokevirtual 158, 3) := by decide +kernel
theorem dX1_endTurn_39 : decode cX1_endTurn 39 = .ok (.astore 5, 2) := by decide +kernel
theorem dX1_endTurn_41 : decode cX1_endTurn 41 = .ok (.aload 5, 2) := by decide +kernel
theorem dX1_endTurn_43 : decode cX1_endTurn 43 = .ok (.ifnull 24, 3) := by decide +kernel
theorem dX1_endTurn_46 : decode cX1_endTurn 46 = .ok (.aload 4, 2) := by decide +kernel
theorem dX1_endTurn_48 : decode cX1_endTurn 48 = .ok (.getfield 94, 3) := by decide +kernel
theorem dX1_endTurn_51 : decode cX1_endTurn 51 = .ok (.aload 5, 2) := by decide +kernel
theorem dX1_endTurn_53 : decode cX1_endTurn 53 = .ok (.getfield 94, 3) := by decide +kernel
theorem dX1_endTurn_56 : decode cX1_endTurn 56 = .ok (.if_icmp .ge 11, 3) := by decide +kernel
theorem dX1_endTurn_59 : decode cX1_endTurn 59 = .ok (.aload_n 0, 1) := by decide +kernel
theorem dX1_endTurn_60 : decode cX1_endTurn 60 = .ok (.aload 4, 2) := by decide +kernel
theorem dX1_endTurn_62 : decode cX1_endTurn 62 = .ok (.aload 5, 2) := by decide +kernel
theorem dX1_endTurn_64 : decode cX1_endTurn 64 = .ok (.invokevirtual 241, 3) := by decide +kernel
theorem dX1_endTurn_67 : decode cX1_endTurn 67 = .ok (.iinc 3 1, 3) := by decide +kernel
theorem dX1_endTurn_70 : decode cX1_endTurn 70 = .ok (.goto (-50), 3) := by decide +kernel
theorem dX1_endTurn_73 : decode cX1_endTurn 73 = .ok (.aload_n 0, 1) := by decide +kernel
theorem dX1_endTurn_74 : decode cX1_endTurn 74 = .ok (.getfield 33, 3) := by decide +kernel
theorem dX1_endTurn_77 : decode cX1_endTurn 77 = .ok (.astore_n 1, 1) := by decide +kernel
theorem dX1_endTurn_78 : decode cX1_endTurn 78 = .ok (.aload_n 1, 1) := by decide +kernel
theorem dX1_endTurn_79 : decode cX1_endTurn 79 = .ok (.arraylength, 1) := by decide +kernel
theorem dX1_endTurn_80 : decode cX1_endTurn 80 = .ok (.istore_n 2, 1) := by decide +kernel
theorem dX1_endTurn_81 : decode cX1_endTurn 81 = .ok (.iconst 0, 1) := by decide +kernel
theorem dX1_endTurn_82 : decode cX1_endTurn 82 = .ok (.istore_n 3, 1) := by decide +kernel
theorem dX1_endTurn_83 : decode cX1_endTurn 83 = .ok (.iload_n 3, 1) := by decide +kernel
theorem dX1_endTurn_84 : decode cX1_endTurn 84 = .ok (.iload_n 2, 1) := by decide +kernel
theorem dX1_endTurn_85 : decode cX1_endTurn 85 = .ok (.if_icmp .ge 20, 3) := by decide +kernel
theorem dX1_endTurn_88 : decode cX1_endTurn 88 = .ok (.aload_n 1, 1) := by decide +kernel
theorem dX1_endTurn_89 : decode cX1_endTurn 89 = .ok (.iload_n 3, 1) := by decide +kernel
theorem dX1_endTurn_90 : decode cX1_endTurn 90 = .ok (.aaload, 1) := by decide +kernel
theorem dX1_endTurn_91 : decode cX1_endTurn 91 = .ok (.astore 4, 2) := by decide +kernel
theorem dX1_endTurn_93 : decode cX1_endTurn 93 = .ok (.aload 4, 2) := by decide +kernel
theorem dX1_endTurn_95 : decode cX1_endTurn 95 = .ok (.iconst 0, 1) := by decide +kernel
theorem dX1_endTurn_96 : decode cX1_endTurn 96 = .ok (.putfield 186, 3) := by decide +kernel
theorem dX1_endTurn_99 : decode cX1_endTurn 99 = .ok (.iinc 3 1, 3) := by decide +kernel
theorem dX1_endTurn_102 : decode cX1_endTurn 102 = .ok (.goto (-19), 3) := by decide +kernel
theorem dX1_endTurn_105 : decode cX1_endTurn 105 = .ok (.aload_n 0, 1) := by decide +kernel
theorem dX1_endTurn_106 : decode cX1_endTurn 106 = .ok (.iconst 0, 1) := by decide +kernel
theorem dX1_endTurn_107 : decode cX1_endTurn 107 = .ok (.putfield 43, 3) := by decide +kernel
theorem dX1_endTurn_110 : decode cX1_endTurn 110 = .ok (.aload_n 0, 1) := by decide +kernel
theorem dX1_endTurn_111 : decode cX1_endTurn 111 = .ok (.dup, 1) := by decide +kernel
theorem dX1_endTurn_112 : decode cX1_endTurn 112 = .ok (.getfield 40, 3) := by decide +kernel
theorem dX1_endTurn_115 : decode cX1_endTurn 115 = .ok (.iconst 1, 1) := by decide +kernel
theorem dX1_endTurn_116 : decode cX1_endTurn 116 = .ok (.iadd, 1) := by decide +kernel
theorem dX1_endTurn_117 : decode cX1_endTurn 117 = .ok (.putfield 40, 3) := by decide +kernel
theorem dX1_endTurn_120 : decode cX1_endTurn 120 = .ok (.aload_n 0, 1) := by decide +kernel
theorem dX1_endTurn_121 : decode cX1_endTurn 121 = .ok (.getfield 40, 3) := by decide +kernel
theorem dX1_endTurn_124 : decode cX1_endTurn 124 = .ok (.ireturn, 1) := by decide +kernel
theorem dX1_tally_0 : decode cX1_tally 0 = .ok (.iload_n 1, 1) := by decide +kernel
theorem dX1_tally_1 : decode cX1_tally 1 = .ok (.tableswitch 111 0 8 #[51, 56, 69, 74, 79, 84, 89, 101, 106], 51) := by decide +kernel
theorem dX1_tally_52 : decode cX1_tally 52 = .ok (.aload_n 0, 1) := by decide +kernel
theorem dX1_tally_53 : decode cX1_tally 53 = .ok (.getfield 40, 3) := by decide +kernel
theorem dX1_tally_56 : decode cX1_tally 56 = .ok (.ireturn, 1) := by decide +kernel
theorem dX1_tally_57 : decode cX1_tally 57 = .ok (.aload_n 0, 1) := by decide +kernel
theorem dX1_tally_58 : decode cX1_tally 58 = .ok (.getfield 43, 3) := by decide +kernel
theorem dX1_tally_61 : decode cX1_tally 61 = .ok (.ifCond .eq 7, 3) := by decide +kernel
theorem dX1_tally_64 : decode cX1_tally 64 = .ok (.iconst 1, 1) := by decide +kernel
theorem dX1_tally_65 : decode cX1_tally 65 = .ok (.goto 4, 3) := by decide +kernel
theorem dX1_tally_68 : decode cX1_tally 68 = .ok (.iconst 0, 1) := by decide +kernel
theorem dX1_tally_69 : decode cX1_tally 69 = .ok (.ireturn, 1) := by decide +kernel
theorem dX1_tally_70 : decode cX1_tally 70 = .ok (.aload_n 0, 1) := by decide +kernel
theorem dX1_tally_71 : decode cX1_tally 71 = .ok (.getfield 47, 3) := by decide +kernel
theorem dX1_tally_74 : decode cX1_tally 74 = .ok (.ireturn, 1) := by decide +kernel
theorem dX1_tally_75 : decode cX1_tally 75 = .ok (.aload_n 0, 1) := by decide +kernel
theorem dX1_tally_76 : decode cX1_tally 76 = .ok (.getfield 9, 3) := by decide +kernel
theorem dX1_tally_79 : decode cX1_tally 79 = .ok (.ireturn, 1) := by decide +kernel
theorem dX1_tally_80 : decode cX1_tally 80 = .ok (.aload_n 0, 1) := by decide +kernel
theorem dX1_tally_81 : decode cX1_tally 81 = .ok (.invokevirtual 142, 3) := by decide +kernel
theorem dX1_tally_84 : decode cX1_tally 84 = .ok (.ireturn, 1) := by decide +kernel
theorem dX1_tally_85 : decode cX1_tally 85 = .ok (.aload_n 0, 1) := by decide +kernel
theorem dX1_tally_86 : decode cX1_tally 86 = .ok (.getfield 50, 3) := by decide +kernel
theorem dX1_tally_89 : decode cX1_tally 89 = .ok (.ireturn, 1) := by decide +kernel
theorem dX1_tally_90 : decode cX1_tally 90 = .ok (.aload_n 0, 1) := by decide +kernel
theorem dX1_tally_91 : decode cX1_tally 91 = .ok (.iconst 0, 1) := by decide +kernel
theorem dX1_tally_92 : decode cX1_tally 92 = .ok (.invokevirtual 244, 3) := by decide +kernel
theorem dX1_tally_95 : decode cX1_tally 95 = .ok (.aload_n 0, 1) := by decide +kernel
theorem dX1_tally_96 : decode cX1_tally 96 = .ok (.iconst 1, 1) := by decide +kernel
theorem dX1_tally_97 : decode cX1_tally 97 = .ok (.invokevirtual 244, 3) := by decide +kernel
theorem dX1_tally_100 : decode cX1_tally 100 = .ok (.ior, 1) := by decide +kernel
theorem dX1_tally_101 : decode cX1_tally 101 = .ok (.ireturn, 1) := by decide +kernel
theorem dX1_tally_102 : decode cX1_tally 102 = .ok (.aload_n 0, 1) := by decide +kernel
theorem dX1_tally_103 : decode cX1_tally 103 = .ok (.invokevirtual 97, 3) := by decide +kernel
theorem dX1_tally_106 : decode cX1_tally 106 = .ok (.ireturn, 1) := by decide +kernel
theorem dX1_tally_107 : decode cX1_tally 107 = .ok (.aload_n 0, 1) := by decide +kernel
theorem dX1_tally_108 : decode cX1_tally 108 = .ok (.getfield 53, 3) := by decide +kernel
theorem dX1_tally_111 : decode cX1_tally 111 = .ok (.ireturn, 1) := by decide +kernel
theorem dX1_tally_112 : decode cX1_tally 112 = .ok (.iconst (-1), 1) := by decide +kernel
theorem dX1_tally_113 : decode cX1_tally 113 = .ok (.ireturn, 1) := by decide +kernel
theorem dX1_islandCount_0 : decode cX1_islandCount 0 = .ok (.iconst 0, 1) := by decide +kernel
theorem dX1_islandCount_1 : decode cX1_islandCount 1 = .ok (.istore_n 1, 1) := by decide +kernel
theorem dX1_islandCount_2 : decode cX1_islandCount 2 = .ok (.aload_n 0, 1) := by decide +kernel
theorem dX1_islandCount_3 : decode cX1_islandCount 3 = .ok (.getfield 27, 3) := by decide +kernel
theorem dX1_islandCount_6 : decode cX1_islandCount 6 = .ok (.astore_n 2, 1) := by decide +kernel
theorem dX1_islandCount_7 : decode cX1_islandCount 7 = .ok (.aload_n 2, 1) := by decide +kernel
theorem dX1_islandCount_8 : decode cX1_islandCount 8 = .ok (.arraylength, 1) := by decide +kernel
theorem dX1_islandCount_9 : decode cX1_islandCount 9 = .ok (.istore_n 3, 1) := by decide +kernel
theorem dX1_islandCount_10 : decode cX1_islandCount 10 = .ok (.iconst 0, 1) := by decide +kernel
theorem dX1_islandCount_11 : decode cX1_islandCount 11 = .ok (.istore 4, 2) := by decide +kernel
theorem dX1_islandCount_13 : decode cX1_islandCount 13 = .ok (.iload 4, 2) := by decide +kernel
theorem dX1_islandCount_15 : decode cX1_islandCount 15 = .ok (.iload_n 3, 1) := by decide +kernel
theorem dX1_islandCount_16 : decode cX1_islandCount 16 = .ok (.if_icmp .ge 20, 3) := by decide +kernel
theorem dX1_islandCount_19 : decode cX1_islandCount 19 = .ok (.aload_n 2, 1) := by decide +kernel
theorem dX1_islandCount_20 : decode cX1_islandCount 20 = .ok (.iload 4, 2) := by decide +kernel
theorem dX1_islandCount_22 : decode cX1_islandCount 22 = .ok (.iaload, 1) := by decide +kernel
theorem dX1_islandCount_23 : decode cX1_islandCount 23 = .ok (.istore 5, 2) := by decide +kernel
theorem dX1_islandCount_25 : decode cX1_islandCount 25 = .ok (.iload_n 1, 1) := by decide +kernel
theorem dX1_islandCount_26 : decode cX1_islandCount 26 = .ok (.iload 5, 2) := by decide +kernel
theorem dX1_islandCount_28 : decode cX1_islandCount 28 = .ok (.iadd, 1) := by decide +kernel
theorem dX1_islandCount_29 : decode cX1_islandCount 29 = .ok (.istore_n 1, 1) := by decide +kernel
theorem dX1_islandCount_30 : decode cX1_islandCount 30 = .ok (.iinc 4 1, 3) := by decide +kernel
theorem dX1_islandCount_33 : decode cX1_islandCount 33 = .ok (.goto (-20), 3) := by decide +kernel
theorem dX1_islandCount_36 : decode cX1_islandCount 36 = .ok (.iload_n 1, 1) := by decide +kernel
theorem dX1_islandCount_37 : decode cX1_islandCount 37 = .ok (.ireturn, 1) := by decide +kernel
theorem dX1_fleetOf_0 : decode cX1_fleetOf 0 = .ok (.iconst 0, 1) := by decide +kernel
theorem dX1_fleetOf_1 : decode cX1_fleetOf 1 = .ok (.istore_n 2, 1) := by decide +kernel
theorem dX1_fleetOf_2 : decode cX1_fleetOf 2 = .ok (.aload_n 0, 1) := by decide +kernel
theorem dX1_fleetOf_3 : decode cX1_fleetOf 3 = .ok (.getfield 33, 3) := by decide +kernel
theorem dX1_fleetOf_6 : decode cX1_fleetOf 6 = .ok (.astore_n 3, 1) := by decide +kernel
theorem dX1_fleetOf_7 : decode cX1_fleetOf 7 = .ok (.aload_n 3, 1) := by decide +kernel
theorem dX1_fleetOf_8 : decode cX1_fleetOf 8 = .ok (.arraylength, 1) := by decide +kernel
theorem dX1_fleetOf_9 : decode cX1_fleetOf 9 = .ok (.istore 4, 2) := by decide +kernel
theorem dX1_fleetOf_11 : decode cX1_fleetOf 11 = .ok (.iconst 0, 1) := by decide +kernel
theorem dX1_fleetOf_12 : decode cX1_fleetOf 12 = .ok (.istore 5, 2) := by decide +kernel
theorem dX1_fleetOf_14 : decode cX1_fleetOf 14 = .ok (.iload 5, 2) := by decide +kernel
theorem dX1_fleetOf_16 : decode cX1_fleetOf 16 = .ok (.iload 4, 2) := by decide +kernel
theorem dX1_fleetOf_18 : decode cX1_fleetOf 18 = .ok (.if_icmp .ge 42, 3) := by decide +kernel
theorem dX1_fleetOf_21 : decode cX1_fleetOf 21 = .ok (.aload_n 3, 1) := by decide +kernel
theorem dX1_fleetOf_22 : decode cX1_fleetOf 22 = .ok (.iload 5, 2) := by decide +kernel
theorem dX1_fleetOf_24 : decode cX1_fleetOf 24 = .ok (.aaload, 1) := by decide +kernel
theorem dX1_fleetOf_25 : decode cX1_fleetOf 25 = .ok (.astore 6, 2) := by decide +kernel
theorem dX1_fleetOf_27 : decode cX1_fleetOf 27 = .ok (.aload 6, 2) := by decide +kernel
theorem dX1_fleetOf_29 : decode cX1_fleetOf 29 = .ok (.invokevirtual 69, 3) := by decide +kernel
theorem dX1_fleetOf_32 : decode cX1_fleetOf 32 = .ok (.ifCond .eq 22, 3) := by decide +kernel
theorem dX1_fleetOf_35 : decode cX1_fleetOf 35 = .ok (.aload 6, 2) := by decide +kernel
theorem dX1_fleetOf_37 : decode cX1_fleetOf 37 = .ok (.getfield 105, 3) := by decide +kernel
theorem dX1_fleetOf_40 : decode cX1_fleetOf 40 = .ok (.iload_n 1, 1) := by decide +kernel
theorem dX1_fleetOf_41 : decode cX1_fleetOf 41 = .ok (.if_icmp .ne 13, 3) := by decide +kernel
theorem dX1_fleetOf_44 : decode cX1_fleetOf 44 = .ok (.iload_n 2, 1) := by decide +kernel
theorem dX1_fleetOf_45 : decode cX1_fleetOf 45 = .ok (.iconst 1, 1) := by decide +kernel
theorem dX1_fleetOf_46 : decode cX1_fleetOf 46 = .ok (.aload 6, 2) := by decide +kernel
theorem dX1_fleetOf_48 : decode cX1_fleetOf 48 = .ok (.getfield 94, 3) := by decide +kernel
theorem dX1_fleetOf_51 : decode cX1_fleetOf 51 = .ok (.ishl, 1) := by decide +kernel
theorem dX1_fleetOf_52 : decode cX1_fleetOf 52 = .ok (.ior, 1) := by decide +kernel
theorem dX1_fleetOf_53 : decode cX1_fleetOf 53 = .ok (.istore_n 2, 1) := by decide +kernel
theorem dX1_fleetOf_54 : decode cX1_fleetOf 54 = .ok (.iinc 5 1, 3) := by decide +kernel
theorem dX1_fleetOf_57 : decode cX1_fleetOf 57 = .ok (.goto (-43), 3) := by decide +kernel
theorem dX1_fleetOf_60 : decode cX1_fleetOf 60 = .ok (.iload_n 2, 1) := by decide +kernel
theorem dX1_fleetOf_61 : decode cX1_fleetOf 61 = .ok (.ireturn, 1) := by decide +kernel
theorem dX1_hullsOf_0 : decode cX1_hullsOf 0 = .ok (.iconst 0, 1) := by decide +kernel
theorem dX1_hullsOf_1 : decode cX1_hullsOf 1 = .ok (.istore_n 2, 1) := by decide +kernel
theorem dX1_hullsOf_2 : decode cX1_hullsOf 2 = .ok (.aload_n 0, 1) := by decide +kernel
theorem dX1_hullsOf_3 : decode cX1_hullsOf 3 = .ok (.getfield 33, 3) := by decide +kernel
theorem dX1_hullsOf_6 : decode cX1_hullsOf 6 = .ok (.astore_n 3, 1) := by decide +kernel
theorem dX1_hullsOf_7 : decode cX1_hullsOf 7 = .ok (.aload_n 3, 1) := by decide +kernel
theorem dX1_hullsOf_8 : decode cX1_hullsOf 8 = .ok (.arraylength, 1) := by decide +kernel
theorem dX1_hullsOf_9 : decode cX1_hullsOf 9 = .ok (.istore 4, 2) := by decide +kernel
theorem dX1_hullsOf_11 : decode cX1_hullsOf 11 = .ok (.iconst 0, 1) := by decide +kernel
theorem dX1_hullsOf_12 : decode cX1_hullsOf 12 = .ok (.istore 5, 2) := by decide +kernel
theorem dX1_hullsOf_14 : decode cX1_hullsOf 14 = .ok (.iload 5, 2) := by decide +kernel
theorem dX1_hullsOf_16 : decode cX1_hullsOf 16 = .ok (.iload 4, 2) := by decide +kernel
theorem dX1_hullsOf_18 : decode cX1_hullsOf 18 = .ok (.if_icmp .ge 40, 3) := by decide +kernel
theorem dX1_hullsOf_21 : decode cX1_hullsOf 21 = .ok (.aload_n 3, 1) := by decide +kernel
theorem dX1_hullsOf_22 : decode cX1_hullsOf 22 = .ok (.iload 5, 2) := by decide +kernel
theorem dX1_hullsOf_24 : decode cX1_hullsOf 24 = .ok (.aaload, 1) := by decide +kernel
theorem dX1_hullsOf_25 : decode cX1_hullsOf 25 = .ok (.astore 6, 2) := by decide +kernel
theorem dX1_hullsOf_27 : decode cX1_hullsOf 27 = .ok (.aload 6, 2) := by decide +kernel
theorem dX1_hullsOf_29 : decode cX1_hullsOf 29 = .ok (.invokevirtual 69, 3) := by decide +kernel
theorem dX1_hullsOf_32 : decode cX1_hullsOf 32 = .ok (.ifCond .eq 20, 3) := by decide +kernel
theorem dX1_hullsOf_35 : decode cX1_hullsOf 35 = .ok (.aload 6, 2) := by decide +kernel
theorem dX1_hullsOf_37 : decode cX1_hullsOf 37 = .ok (.getfield 105, 3) := by decide +kernel
theorem dX1_hullsOf_40 : decode cX1_hullsOf 40 = .ok (.iload_n 1, 1) := by decide +kernel
theorem dX1_hullsOf_41 : decode cX1_hullsOf 41 = .ok (.if_icmp .ne 11, 3) := by decide +kernel
theorem dX1_hullsOf_44 : decode cX1_hullsOf 44 = .ok (.iload_n 2, 1) := by decide +kernel
theorem dX1_hullsOf_45 : decode cX1_hullsOf 45 = .ok (.aload 6, 2) := by decide +kernel
theorem dX1_hullsOf_47 : decode cX1_hullsOf 47 = .ok (.getfield 111, 3) := by decide +kernel
theorem dX1_hullsOf_50 : decode cX1_hullsOf 50 = .ok (.iadd, 1) := by decide +kernel
theorem dX1_hullsOf_51 : decode cX1_hullsOf 51 = .ok (.istore_n 2, 1) := by decide +kernel
theorem dX1_hullsOf_52 : decode cX1_hullsOf 52 = .ok (.iinc 5 1, 3) := by decide +kernel
theorem dX1_hullsOf_55 : decode cX1_hullsOf 55 = .ok (.goto (-41), 3) := by decide +kernel
theorem dX1_hullsOf_58 : decode cX1_hullsOf 58 = .ok (.iload_n 2, 1) := by decide +kernel
theorem dX1_hullsOf_59 : decode cX1_hullsOf 59 = .ok (.ireturn, 1) := by decide +kernel
theorem dX1_strengthOf_0 : decode cX1_strengthOf 0 = .ok (.iconst 0, 1) := by decide +kernel
theorem dX1_strengthOf_1 : decode cX1_strengthOf 1 = .ok (.istore_n 2, 1) := by decide +kernel
theorem dX1_strengthOf_2 : decode cX1_strengthOf 2 = .ok (.aload_n 0, 1) := by decide +kernel
theorem dX1_strengthOf_3 : decode cX1_strengthOf 3 = .ok (.getfield 33, 3) := by decide +kernel
theorem dX1_strengthOf_6 : decode cX1_strengthOf 6 = .ok (.astore_n 3, 1) := by decide +kernel
theorem dX1_strengthOf_7 : decode cX1_strengthOf 7 = .ok (.aload_n 3, 1) := by decide +kernel
theorem dX1_strengthOf_8 : decode cX1_strengthOf 8 = .ok (.arraylength, 1) := by decide +kernel
theorem dX1_strengthOf_9 : decode cX1_strengthOf 9 = .ok (.istore 4, 2) := by decide +kernel
theorem dX1_strengthOf_11 : decode cX1_strengthOf 11 = .ok (.iconst 0, 1) := by decide +kernel
theorem dX1_strengthOf_12 : decode cX1_strengthOf 12 = .ok (.istore 5, 2) := by decide +kernel
theorem dX1_strengthOf_14 : decode cX1_strengthOf 14 = .ok (.iload 5, 2) := by decide +kernel
theorem dX1_strengthOf_16 : decode cX1_strengthOf 16 = .ok (.iload 4, 2) := by decide +kernel
theorem dX1_strengthOf_18 : decode cX1_strengthOf 18 = .ok (.if_icmp .ge 63, 3) := by decide +kernel
theorem dX1_strengthOf_21 : decode cX1_strengthOf 21 = .ok (.aload_n 3, 1) := by decide +kernel
theorem dX1_strengthOf_22 : decode cX1_strengthOf 22 = .ok (.iload 5, 2) := by decide +kernel
theorem dX1_strengthOf_24 : decode cX1_strengthOf 24 = .ok (.aaload, 1) := by decide +kernel
theorem dX1_strengthOf_25 : decode cX1_strengthOf 25 = .ok (.astore 6, 2) := by decide +kernel
theorem dX1_strengthOf_27 : decode cX1_strengthOf 27 = .ok (.aload 6, 2) := by decide +kernel
theorem dX1_strengthOf_29 : decode cX1_strengthOf 29 = .ok (.invokevirtual 69, 3) := by decide +kernel
theorem dX1_strengthOf_32 : decode cX1_strengthOf 32 = .ok (.ifCond .eq 43, 3) := by decide +kernel
theorem dX1_strengthOf_35 : decode cX1_strengthOf 35 = .ok (.aload 6, 2) := by decide +kernel
theorem dX1_strengthOf_37 : decode cX1_strengthOf 37 = .ok (.getfield 105, 3) := by decide +kernel
theorem dX1_strengthOf_40 : decode cX1_strengthOf 40 = .ok (.iload_n 1, 1) := by decide +kernel
theorem dX1_strengthOf_41 : decode cX1_strengthOf 41 = .ok (.if_icmp .ne 34, 3) := by decide +kernel
theorem dX1_strengthOf_44 : decode cX1_strengthOf 44 = .ok (.iload_n 2, 1) := by decide +kernel
theorem dX1_strengthOf_45 : decode cX1_strengthOf 45 = .ok (.bipush 6, 2) := by decide +kernel
theorem dX1_strengthOf_47 : decode cX1_strengthOf 47 = .ok (.aload 6, 2) := by decide +kernel
theorem dX1_strengthOf_49 : decode cX1_strengthOf 49 = .ok (.getfield 111, 3) := by decide +kernel
theorem dX1_strengthOf_52 : decode cX1_strengthOf 52 = .ok (.imul, 1) := by decide +kernel
theorem dX1_strengthOf_53 : decode cX1_strengthOf 53 = .ok (.iconst 4, 1) := by decide +kernel
theorem dX1_strengthOf_54 : decode cX1_strengthOf 54 = .ok (.aload 6, 2) := by decide +kernel
theorem dX1_strengthOf_56 : decode cX1_strengthOf 56 = .ok (.getfield 117, 3) := by decide +kernel
theorem dX1_strengthOf_59 : decode cX1_strengthOf 59 = .ok (.imul, 1) := by decide +kernel
theorem dX1_strengthOf_60 : decode cX1_strengthOf 60 = .ok (.iadd, 1) := by decide +kernel
theorem dX1_strengthOf_61 : decode cX1_strengthOf 61 = .ok (.aload 6, 2) := by decide +kernel
theorem dX1_strengthOf_63 : decode cX1_strengthOf 63 = .ok (.getfield 120, 3) := by decide +kernel
theorem dX1_strengthOf_66 : decode cX1_strengthOf 66 = .ok (.aload 6, 2) := by decide +kernel
theorem dX1_strengthOf_68 : decode cX1_strengthOf 68 = .ok (.getfield 114, 3) := by decide +kernel
theorem dX1_strengthOf_71 : decode cX1_strengthOf 71 = .ok (.imul, 1) := by decide +kernel
theorem dX1_strengthOf_72 : decode cX1_strengthOf 72 = .ok (.iadd, 1) := by decide +kernel
theorem dX1_strengthOf_73 : decode cX1_strengthOf 73 = .ok (.iadd, 1) := by decide +kernel
theorem dX1_strengthOf_74 : decode cX1_strengthOf 74 = .ok (.istore_n 2, 1) := by decide +kernel
theorem dX1_strengthOf_75 : decode cX1_strengthOf 75 = .ok (.iinc 5 1, 3) := by decide +kernel
theorem dX1_strengthOf_78 : decode cX1_strengthOf 78 = .ok (.goto (-64), 3) := by decide +kernel
theorem dX1_strengthOf_81 : decode cX1_strengthOf 81 = .ok (.iload_n 2, 1) := by decide +kernel
theorem dX1_strengthOf_82 : decode cX1_strengthOf 82 = .ok (.bipush 8, 2) := by decide +kernel
theorem dX1_strengthOf_84 : decode cX1_strengthOf 84 = .ok (.idiv, 1) := by decide +kernel
theorem dX1_strengthOf_85 : decode cX1_strengthOf 85 = .ok (.ireturn, 1) := by decide +kernel
theorem dX1_tellOfCaptain_0 : decode cX1_tellOfCaptain 0 = .ok (.aload_n 0, 1) := by decide +kernel
theorem dX1_tellOfCaptain_1 : decode cX1_tellOfCaptain 1 = .ok (.iload_n 1, 1) := by decide +kernel
theorem dX1_tellOfCaptain_2 : decode cX1_tellOfCaptain 2 = .ok (.invokevirtual 123, 3) := by decide +kernel
theorem dX1_tellOfCaptain_5 : decode cX1_tellOfCaptain 5 = .ok (.astore_n 3, 1) := by decide +kernel
theorem dX1_tellOfCaptain_6 : decode cX1_tellOfCaptain 6 = .ok (.iload_n 2, 1) := by decide +kernel
theorem dX1_tellOfCaptain_7 : decode cX1_tellOfCaptain 7 = .ok (.tableswitch 60 0 4 #[33, 38, 43, 48, 54], 33) := by decide +kernel
theorem dX1_tellOfCaptain_40 : decode cX1_tellOfCaptain 40 = .ok (.aload_n 3, 1) := by decide +kernel
theorem dX1_tellOfCaptain_41 : decode cX1_tellOfCaptain 41 = .ok (.getfield 247, 3) := by decide +kernel
theorem dX1_tellOfCaptain_44 : decode cX1_tellOfCaptain 44 = .ok (.ireturn, 1) := by decide +kernel
theorem dX1_tellOfCaptain_45 : decode cX1_tellOfCaptain 45 = .ok (.aload_n 3, 1) := by decide +kernel
theorem dX1_tellOfCaptain_46 : decode cX1_tellOfCaptain 46 = .ok (.getfield 133, 3) := by decide +kernel
theorem dX1_tellOfCaptain_49 : decode cX1_tellOfCaptain 49 = .ok (.ireturn, 1) := by decide +kernel
theorem dX1_tellOfCaptain_50 : decode cX1_tellOfCaptain 50 = .ok (.aload_n 3, 1) := by decide +kernel
theorem dX1_tellOfCaptain_51 : decode cX1_tellOfCaptain 51 = .ok (.getfield 127, 3) := by decide +kernel
theorem dX1_tellOfCaptain_54 : decode cX1_tellOfCaptain 54 = .ok (.ireturn, 1) := by decide +kernel
theorem dX1_tellOfCaptain_55 : decode cX1_tellOfCaptain 55 = .ok (.aload_n 0, 1) := by decide +kernel
theorem dX1_tellOfCaptain_56 : decode cX1_tellOfCaptain 56 = .ok (.iload_n 1, 1) := by decide +kernel
theorem dX1_tellOfCaptain_57 : decode cX1_tellOfCaptain 57 = .ok (.invokevirtual 244, 3) := by decide +kernel
theorem dX1_tellOfCaptain_60 : decode cX1_tellOfCaptain 60 = .ok (.ireturn, 1) := by decide +kernel
theorem dX1_tellOfCaptain_61 : decode cX1_tellOfCaptain 61 = .ok (.aload_n 0, 1) := by decide +kernel
theorem dX1_tellOfCaptain_62 : decode cX1_tellOfCaptain 62 = .ok (.iload_n 1, 1) := by decide +kernel
theorem dX1_tellOfCaptain_63 : decode cX1_tellOfCaptain 63 = .ok (.invokevirtual 250, 3) := by decide +kernel
theorem dX1_tellOfCaptain_66 : decode cX1_tellOfCaptain 66 = .ok (.ireturn, 1) := by decide +kernel
theorem dX1_tellOfCaptain_67 : decode cX1_tellOfCaptain 67 = .ok (.iconst (-1), 1) := by decide +kernel
theorem dX1_tellOfCaptain_68 : decode cX1_tellOfCaptain 68 = .ok (.ireturn, 1) := by decide +kernel
theorem dX1_tellOfShip_0 : decode cX1_tellOfShip 0 = .ok (.iload_n 2, 1) := by decide +kernel
theorem dX1_tellOfShip_1 : decode cX1_tellOfShip 1 = .ok (.tableswitch 131 0 10 #[59, 64, 81, 86, 91, 96, 101, 106, 111, 117, 126], 59) := by decide +kernel
theorem dX1_tellOfShip_60 : decode cX1_tellOfShip 60 = .ok (.aload_n 1, 1) := by decide +kernel
theorem dX1_tellOfShip_61 : decode cX1_tellOfShip 61 = .ok (.getfield 105, 3) := by decide +kernel
theorem dX1_tellOfShip_64 : decode cX1_tellOfShip 64 = .ok (.ireturn, 1) := by decide +kernel
theorem dX1_tellOfShip_65 : decode cX1_tellOfShip 65 = .ok (.aload_n 1, 1) := by decide +kernel
theorem dX1_tellOfShip_66 : decode cX1_tellOfShip 66 = .ok (.invokevirtual 69, 3) := by decide +kernel
theorem dX1_tellOfShip_69 : decode cX1_tellOfShip 69 = .ok (.ifCond .eq 10, 3) := by decide +kernel
theorem dX1_tellOfShip_72 : decode cX1_tellOfShip 72 = .ok (.aload_n 1, 1) := by decide +kernel
theorem dX1_tellOfShip_73 : decode cX1_tellOfShip 73 = .ok (.getfield 73, 3) := by decide +kernel
theorem dX1_tellOfShip_76 : decode cX1_tellOfShip 76 = .ok (.goto 5, 3) := by decide +kernel
theorem dX1_tellOfShip_79 : decode cX1_tellOfShip 79 = .ok (.bipush (-9), 2) := by decide +kernel
theorem dX1_tellOfShip_81 : decode cX1_tellOfShip 81 = .ok (.ireturn, 1) := by decide +kernel
theorem dX1_tellOfShip_82 : decode cX1_tellOfShip 82 = .ok (.aload_n 1, 1) := by decide +kernel
theorem dX1_tellOfShip_83 : decode cX1_tellOfShip 83 = .ok (.getfield 108, 3) := by decide +kernel
theorem dX1_tellOfShip_86 : decode cX1_tellOfShip 86 = .ok (.ireturn, 1) := by decide +kernel
theorem dX1_tellOfShip_87 : decode cX1_tellOfShip 87 = .ok (.aload_n 1, 1) := by decide +kernel
theorem dX1_tellOfShip_88 : decode cX1_tellOfShip 88 = .ok (.getfield 111, 3) := by decide +kernel
theorem dX1_tellOfShip_91 : decode cX1_tellOfShip 91 = .ok (.ireturn, 1) := by decide +kernel
theorem dX1_tellOfShip_92 : decode cX1_tellOfShip 92 = .ok (.aload_n 1, 1) := by decide +kernel
theorem dX1_tellOfShip_93 : decode cX1_tellOfShip 93 = .ok (.getfield 114, 3) := by decide +kernel
theorem dX1_tellOfShip_96 : decode cX1_tellOfShip 96 = .ok (.ireturn, 1) := by decide +kernel
theorem dX1_tellOfShip_97 : decode cX1_tellOfShip 97 = .ok (.aload_n 1, 1) := by decide +kernel
theorem dX1_tellOfShip_98 : decode cX1_tellOfShip 98 = .ok (.getfield 117, 3) := by decide +kernel
theorem dX1_tellOfShip_101 : decode cX1_tellOfShip 101 = .ok (.ireturn, 1) := by decide +kernel
theorem dX1_tellOfShip_102 : decode cX1_tellOfShip 102 = .ok (.aload_n 1, 1) := by decide +kernel
theorem dX1_tellOfShip_103 : decode cX1_tellOfShip 103 = .ok (.getfield 120, 3) := by decide +kernel
theorem dX1_tellOfShip_106 : decode cX1_tellOfShip 106 = .ok (.ireturn, 1) := by decide +kernel
theorem dX1_tellOfShip_107 : decode cX1_tellOfShip 107 = .ok (.aload_n 1, 1) := by decide +kernel
theorem dX1_tellOfShip_108 : decode cX1_tellOfShip 108 = .ok (.getfield 223, 3) := by decide +kernel
theorem dX1_tellOfShip_111 : decode cX1_tellOfShip 111 = .ok (.ireturn, 1) := by decide +kernel
theorem dX1_tellOfShip_112 : decode cX1_tellOfShip 112 = .ok (.aload_n 0, 1) := by decide +kernel
theorem dX1_tellOfShip_113 : decode cX1_tellOfShip 113 = .ok (.aload_n 1, 1) := by decide +kernel
theorem dX1_tellOfShip_114 : decode cX1_tellOfShip 114 = .ok (.invokevirtual 172, 3) := by decide +kernel
theorem dX1_tellOfShip_117 : decode cX1_tellOfShip 117 = .ok (.ireturn, 1) := by decide +kernel
theorem dX1_tellOfShip_118 : decode cX1_tellOfShip 118 = .ok (.aload_n 1, 1) := by decide +kernel
theorem dX1_tellOfShip_119 : decode cX1_tellOfShip 119 = .ok (.aload_n 0, 1) := by decide +kernel
theorem dX1_tellOfShip_120 : decode cX1_tellOfShip 120 = .ok (.getfield 40, 3) := by decide +kernel
theorem dX1_tellOfShip_123 : decode cX1_tellOfShip 123 = .ok (.invokevirtual 253, 3) := by decide +kernel
theorem dX1_tellOfShip_126 : decode cX1_tellOfShip 126 = .ok (.ireturn, 1) := by decide +kernel
theorem dX1_tellOfShip_127 : decode cX1_tellOfShip 127 = .ok (.aload_n 1, 1) := by decide +kernel
theorem dX1_tellOfShip_128 : decode cX1_tellOfShip 128 = .ok (.getfield 186, 3) := by decide +kernel
theorem dX1_tellOfShip_131 : decode cX1_tellOfShip 131 = .ok (.ireturn, 1) := by decide +kernel
theorem dX1_tellOfShip_132 : decode cX1_tellOfShip 132 = .ok (.iconst (-1), 1) := by decide +kernel
theorem dX1_tellOfShip_133 : decode cX1_tellOfShip 133 = .ok (.ireturn, 1) := by decide +kernel
theorem dX2_exists_0 : decode cX2_exists 0 = .ok (.iload_n 0, 1) := by decide +kernel
theorem dX2_exists_1 : decode cX2_exists 1 = .ok (.ifCond .lt 13, 3) := by decide +kernel
theorem dX2_exists_4 : decode cX2_exists 4 = .ok (.iload_n 0, 1) := by decide +kernel
theorem dX2_exists_5 : decode cX2_exists 5 = .ok (.bipush 81, 2) := by decide +kernel
theorem dX2_exists_7 : decode cX2_exists 7 = .ok (.if_icmp .ge 7, 3) := by decide +kernel
theorem dX2_exists_10 : decode cX2_exists 10 = .ok (.iconst 1, 1) := by decide +kernel
theorem dX2_exists_11 : decode cX2_exists 11 = .ok (.goto 4, 3) := by decide +kernel
theorem dX2_exists_14 : decode cX2_exists 14 = .ok (.iconst 0, 1) := by decide +kernel
theorem dX2_exists_15 : decode cX2_exists 15 = .ok (.ireturn, 1) := by decide +kernel
theorem dX2_isDirection_0 : decode cX2_isDirection 0 = .ok (.iload_n 0, 1) := by decide +kernel
theorem dX2_isDirection_1 : decode cX2_isDirection 1 = .ok (.ifCond .lt 13, 3) := by decide +kernel
theorem dX2_isDirection_4 : decode cX2_isDirection 4 = .ok (.iload_n 0, 1) := by decide +kernel
theorem dX2_isDirection_5 : decode cX2_isDirection 5 = .ok (.bipush 6, 2) := by decide +kernel
theorem dX2_isDirection_7 : decode cX2_isDirection 7 = .ok (.if_icmp .ge 7, 3) := by decide +kernel
theorem dX2_isDirection_10 : decode cX2_isDirection 10 = .ok (.iconst 1, 1) := by decide +kernel
theorem dX2_isDirection_11 : decode cX2_isDirection 11 = .ok (.goto 4, 3) := by decide +kernel
theorem dX2_isDirection_14 : decode cX2_isDirection 14 = .ok (.iconst 0, 1) := by decide +kernel
theorem dX2_isDirection_15 : decode cX2_isDirection 15 = .ok (.ireturn, 1) := by decide +kernel
theorem dX2_next_0 : decode cX2_next 0 = .ok (.iload_n 0, 1) := by decide +kernel
theorem dX2_next_1 : decode cX2_next 1 = .ok (.invokestatic 11, 3) := by decide +kernel
theorem dX2_next_4 : decode cX2_next 4 = .ok (.ifCond .eq 10, 3) := by decide +kernel
theorem dX2_next_7 : decode cX2_next 7 = .ok (.iload_n 1, 1) := by decide +kernel
theorem dX2_next_8 : decode cX2_next 8 = .ok (.invokestatic 15, 3) := by decide +kernel
theorem dX2_next_11 : decode cX2_next 11 = .ok (.ifCond .ne 6, 3) := by decide +kernel
theorem dX2_next_14 : decode cX2_next 14 = .ok (.bipush (-9), 2) := by decide +kernel
theorem dX2_next_16 : decode cX2_next 16 = .ok (.ireturn, 1) := by decide +kernel
theorem dX2_next_17 : decode cX2_next 17 = .ok (.iload_n 0, 1) := by decide +kernel
theorem dX2_next_18 : decode cX2_next 18 = .ok (.bipush 9, 2) := by decide +kernel
theorem dX2_next_20 : decode cX2_next 20 = .ok (.idiv, 1) := by decide +kernel
theorem dX2_next_21 : decode cX2_next 21 = .ok (.iload_n 1, 1) := by decide +kernel
theorem dX2_next_22 : decode cX2_next 22 = .ok (.invokestatic 18, 3) := by decide +kernel
theorem dX2_next_25 : decode cX2_next 25 = .ok (.iadd, 1) := by decide +kernel
theorem dX2_next_26 : decode cX2_next 26 = .ok (.istore_n 2, 1) := by decide +kernel
theorem dX2_next_27 : decode cX2_next 27 = .ok (.iload_n 0, 1) := by decide +kernel
theorem dX2_next_28 : decode cX2_next 28 = .ok (.bipush 9, 2) := by decide +kernel
theorem dX2_next_30 : decode cX2_next 30 = .ok (.irem, 1) := by decide +kernel
theorem dX2_next_31 : decode cX2_next 31 = .ok (.iload_n 1, 1) := by decide +kernel
theorem dX2_next_32 : decode cX2_next 32 = .ok (.invokestatic 22, 3) := by decide +kernel
theorem dX2_next_35 : decode cX2_next 35 = .ok (.iadd, 1) := by decide +kernel
theorem dX2_next_36 : decode cX2_next 36 = .ok (.istore_n 3, 1) := by decide +kernel
theorem dX2_next_37 : decode cX2_next 37 = .ok (.iload_n 2, 1) := by decide +kernel
theorem dX2_next_38 : decode cX2_next 38 = .ok (.ifCond .lt 23, 3) := by decide +kernel
theorem dX2_next_41 : decode cX2_next 41 = .ok (.iload_n 2, 1) := by decide +kernel
theorem dX2_next_42 : decode cX2_next 42 = .ok (.bipush 9, 2) := by decide +kernel
theorem dX2_next_44 : decode cX2_next 44 = .ok (.if_icmp .ge 17, 3) := by decide +kernel
theorem dX2_next_47 : decode cX2_next 47 = .ok (.iload_n 3, 1) := by decide +kernel
theorem dX2_next_48 : decode cX2_next 48 = .ok (.ifCond .lt 13, 3) := by decide +kernel
theorem dX2_next_51 : decode cX2_next 51 = .ok (.iload_n 3, 1) := by decide +kernel
theorem dX2_next_52 : decode cX2_next 52 = .ok (.bipush 9, 2) := by decide +kernel
theorem dX2_next_54 : decode cX2_next 54 = .ok (.if_icmp .ge 7, 3) := by decide +kernel
theorem dX2_next_57 : decode cX2_next 57 = .ok (.iconst 1, 1) := by decide +kernel
theorem dX2_next_58 : decode cX2_next 58 = .ok (.goto 4, 3) := by decide +kernel
theorem dX2_next_61 : decode cX2_next 61 = .ok (.iconst 0, 1) := by decide +kernel
theorem dX2_next_62 : decode cX2_next 62 = .ok (.istore 4, 2) := by decide +kernel
theorem dX2_next_64 : decode cX2_next 64 = .ok (.iload 4, 2) := by decide +kernel
theorem dX2_next_66 : decode cX2_next 66 = .ok (.ifCond .eq 12, 3) := by decide +kernel
theorem dX2_next_69 : decode cX2_next 69 = .ok (.iload_n 2, 1) := by decide +kernel
theorem dX2_next_70 : decode cX2_next 70 = .ok (.bipush 9, 2) := by decide +kernel
theorem dX2_next_72 : decode cX2_next 72 = .ok (.imul, 1) := by decide +kernel
theorem dX2_next_73 : decode cX2_next 73 = .ok (.iload_n 3, 1) := by decide +kernel
theorem dX2_next_74 : decode cX2_next 74 = .ok (.iadd, 1) := by decide +kernel
theorem dX2_next_75 : decode cX2_next 75 = .ok (.goto 5, 3) := by decide +kernel
theorem dX2_next_78 : decode cX2_next 78 = .ok (.bipush (-9), 2) := by decide +kernel
theorem dX2_next_80 : decode cX2_next 80 = .ok (.ireturn, 1) := by decide +kernel
theorem dX2_areNeighbors_0 : decode cX2_areNeighbors 0 = .ok (.iconst 0, 1) := by decide +kernel
theorem dX2_areNeighbors_1 : decode cX2_areNeighbors 1 = .ok (.istore_n 2, 1) := by decide +kernel
theorem dX2_areNeighbors_2 : decode cX2_areNeighbors 2 = .ok (.iload_n 2, 1) := by decide +kernel
theorem dX2_areNeighbors_3 : decode cX2_areNeighbors 3 = .ok (.bipush 6, 2) := by decide +kernel
theorem dX2_areNeighbors_5 : decode cX2_areNeighbors 5 = .ok (.if_icmp .ge 27, 3) := by decide +kernel
theorem dX2_areNeighbors_8 : decode cX2_areNeighbors 8 = .ok (.iload_n 1, 1) := by decide +kernel
theorem dX2_areNeighbors_9 : decode cX2_areNeighbors 9 = .ok (.invokestatic 11, 3) := by decide +kernel
theorem dX2_areNeighbors_12 : decode cX2_areNeighbors 12 = .ok (.ifCond .eq 14, 3) := by decide +kernel
theorem dX2_areNeighbors_15 : decode cX2_areNeighbors 15 = .ok (.iload_n 0, 1) := by decide +kernel
theorem dX2_areNeighbors_16 : decode cX2_areNeighbors 16 = .ok (.iload_n 2, 1) := by decide +kernel
theorem dX2_areNeighbors_17 : decode cX2_areNeighbors 17 = .ok (.invokestatic 25, 3) := by decide +kernel
theorem dX2_areNeighbors_20 : decode cX2_areNeighbors 20 = .ok (.iload_n 1, 1) := by decide +kernel
theorem dX2_areNeighbors_21 : decode cX2_areNeighbors 21 = .ok (.if_icmp .ne 5, 3) := by decide +kernel
theorem dX2_areNeighbors_24 : decode cX2_areNeighbors 24 = .ok (.iconst 1, 1) := by decide +kernel
theorem dX2_areNeighbors_25 : decode cX2_areNeighbors 25 = .ok (.ireturn, 1) := by decide +kernel
theorem dX2_areNeighbors_26 : decode cX2_areNeighbors 26 = .ok (.iinc 2 1, 3) := by decide +kernel
theorem dX2_areNeighbors_29 : decode cX2_areNeighbors 29 = .ok (.goto (-27), 3) := by decide +kernel
theorem dX2_areNeighbors_32 : decode cX2_areNeighbors 32 = .ok (.iconst 0, 1) := by decide +kernel
theorem dX2_areNeighbors_33 : decode cX2_areNeighbors 33 = .ok (.ireturn, 1) := by decide +kernel
theorem dX2_rowStep_0 : decode cX2_rowStep 0 = .ok (.iload_n 0, 1) := by decide +kernel
theorem dX2_rowStep_1 : decode cX2_rowStep 1 = .ok (.iconst 1, 1) := by decide +kernel
theorem dX2_rowStep_2 : decode cX2_rowStep 2 = .ok (.if_icmp .eq 8, 3) := by decide +kernel
theorem dX2_rowStep_5 : decode cX2_rowStep 5 = .ok (.iload_n 0, 1) := by decide +kernel
theorem dX2_rowStep_6 : decode cX2_rowStep 6 = .ok (.iconst 2, 1) := by decide +kernel
theorem dX2_rowStep_7 : decode cX2_rowStep 7 = .ok (.if_icmp .ne 5, 3) := by decide +kernel
theorem dX2_rowStep_10 : decode cX2_rowStep 10 = .ok (.iconst 1, 1) := by decide +kernel
theorem dX2_rowStep_11 : decode cX2_rowStep 11 = .ok (.ireturn, 1) := by decide +kernel
theorem dX2_rowStep_12 : decode cX2_rowStep 12 = .ok (.iload_n 0, 1) := by decide +kernel
theorem dX2_rowStep_13 : decode cX2_rowStep 13 = .ok (.iconst 4, 1) := by decide +kernel
theorem dX2_rowStep_14 : decode cX2_rowStep 14 = .ok (.if_icmp .eq 8, 3) := by decide +kernel
theorem dX2_rowStep_17 : decode cX2_rowStep 17 = .ok (.iload_n 0, 1) := by decide +kernel
theorem dX2_rowStep_18 : decode cX2_rowStep 18 = .ok (.iconst 5, 1) := by decide +kernel
theorem dX2_rowStep_19 : decode cX2_rowStep 19 = .ok (.if_icmp .ne 7, 3) := by decide +kernel
theorem dX2_rowStep_22 : decode cX2_rowStep 22 = .ok (.iconst (-1), 1) := by decide +kernel
theorem dX2_rowStep_23 : decode cX2_rowStep 23 = .ok (.goto 4, 3) := by decide +kernel
theorem dX2_rowStep_26 : decode cX2_rowStep 26 = .ok (.iconst 0, 1) := by decide +kernel
theorem dX2_rowStep_27 : decode cX2_rowStep 27 = .ok (.ireturn, 1) := by decide +kernel
theorem dX2_columnStep_0 : decode cX2_columnStep 0 = .ok (.iload_n 0, 1) := by decide +kernel
theorem dX2_columnStep_1 : decode cX2_columnStep 1 = .ok (.ifCond .eq 8, 3) := by decide +kernel
theorem dX2_columnStep_4 : decode cX2_columnStep 4 = .ok (.iload_n 0, 1) := by decide +kernel
theorem dX2_columnStep_5 : decode cX2_columnStep 5 = .ok (.iconst 5, 1) := by decide +kernel
theorem dX2_columnStep_6 : decode cX2_columnStep 6 = .ok (.if_icmp .ne 5, 3) := by decide +kernel
theorem dX2_columnStep_9 : decode cX2_columnStep 9 = .ok (.iconst 1, 1) := by decide +kernel
theorem dX2_columnStep_10 : decode cX2_columnStep 10 = .ok (.ireturn, 1) := by decide +kernel
theorem dX2_columnStep_11 : decode cX2_columnStep 11 = .ok (.iload_n 0, 1) := by decide +kernel
theorem dX2_columnStep_12 : decode cX2_columnStep 12 = .ok (.iconst 2, 1) := by decide +kernel
theorem dX2_columnStep_13 : decode cX2_columnStep 13 = .ok (.if_icmp .eq 8, 3) := by decide +kernel
theorem dX2_columnStep_16 : decode cX2_columnStep 16 = .ok (.iload_n 0, 1) := by decide +kernel
theorem dX2_columnStep_17 : decode cX2_columnStep 17 = .ok (.iconst 3, 1) := by decide +kernel
theorem dX2_columnStep_18 : decode cX2_columnStep 18 = .ok (.if_icmp .ne 7, 3) := by decide +kernel
theorem dX2_columnStep_21 : decode cX2_columnStep 21 = .ok (.iconst (-1), 1) := by decide +kernel
theorem dX2_columnStep_22 : decode cX2_columnStep 22 = .ok (.goto 4, 3) := by decide +kernel
theorem dX2_columnStep_25 : decode cX2_columnStep 25 = .ok (.iconst 0, 1) := by decide +kernel
theorem dX2_columnStep_26 : decode cX2_columnStep 26 = .ok (.ireturn, 1) := by decide +kernel
theorem dX3_init_0 : decode cX3_init 0 = .ok (.aload_n 0, 1) := by decide +kernel
theorem dX3_init_1 : decode cX3_init 1 = .ok (.invokespecial 3, 3) := by decide +kernel
theorem dX3_init_4 : decode cX3_init 4 = .ok (.aload_n 0, 1) := by decide +kernel
theorem dX3_init_5 : decode cX3_init 5 = .ok (.bipush 6, 2) := by decide +kernel
theorem dX3_init_7 : decode cX3_init 7 = .ok (.anewarray 11, 3) := by decide +kernel
theorem dX3_init_10 : decode cX3_init 10 = .ok (.putfield 13, 3) := by decide +kernel
theorem dX3_init_13 : decode cX3_init 13 = .ok (.aload_n 0, 1) := by decide +kernel
theorem dX3_init_14 : decode cX3_init 14 = .ok (.new 11, 3) := by decide +kernel
theorem dX3_init_17 : decode cX3_init 17 = .ok (.dup, 1) := by decide +kernel
theorem dX3_init_18 : decode cX3_init 18 = .ok (.invokespecial 17, 3) := by decide +kernel
theorem dX3_init_21 : decode cX3_init 21 = .ok (.putfield 18, 3) := by decide +kernel
theorem dX3_init_24 : decode cX3_init 24 = .ok (.iconst 0, 1) := by decide +kernel
theorem dX3_init_25 : decode cX3_init 25 = .ok (.istore_n 1, 1) := by decide +kernel
theorem dX3_init_26 : decode cX3_init 26 = .ok (.iload_n 1, 1) := by decide +kernel
theorem dX3_init_27 : decode cX3_init 27 = .ok (.aload_n 0, 1) := by decide +kernel
theorem dX3_init_28 : decode cX3_init 28 = .ok (.getfield 13, 3) := by decide +kernel
theorem dX3_init_31 : decode cX3_init 31 = .ok (.arraylength, 1) := by decide +kernel
theorem dX3_init_32 : decode cX3_init 32 = .ok (.if_icmp .ge 22, 3) := by decide +kernel
theorem dX3_init_35 : decode cX3_init 35 = .ok (.aload_n 0, 1) := by decide +kernel
theorem dX3_init_36 : decode cX3_init 36 = .ok (.getfield 13, 3) := by decide +kernel
theorem dX3_init_39 : decode cX3_init 39 = .ok (.iload_n 1, 1) := by decide +kernel
theorem dX3_init_40 : decode cX3_init 40 = .ok (.new 11, 3) := by decide +kernel
theorem dX3_init_43 : decode cX3_init 43 = .ok (.dup, 1) := by decide +kernel
theorem dX3_init_44 : decode cX3_init 44 = .ok (.invokespecial 17, 3) := by decide +kernel
theorem dX3_init_47 : decode cX3_init 47 = .ok (.aastore, 1) := by decide +kernel
theorem dX3_init_48 : decode cX3_init 48 = .ok (.iinc 1 1, 3) := by decide +kernel
theorem dX3_init_51 : decode cX3_init 51 = .ok (.goto (-25), 3) := by decide +kernel
theorem dX3_init_54 : decode cX3_init 54 = .ok (.return_, 1) := by decide +kernel
theorem dX3_size_0 : decode cX3_size 0 = .ok (.aload_n 0, 1) := by decide +kernel
theorem dX3_size_1 : decode cX3_size 1 = .ok (.getfield 22, 3) := by decide +kernel
theorem dX3_size_4 : decode cX3_size 4 = .ok (.ireturn, 1) := by decide +kernel
theorem dX3_keepAside_0 : decode cX3_keepAside 0 = .ok (.aload_n 0, 1) := by decide +kernel
theorem dX3_keepAside_1 : decode cX3_keepAside 1 = .ok (.getfield 18, 3) := by decide +kernel
theorem dX3_keepAside_4 : decode cX3_keepAside 4 = .ok (.aload_n 1, 1) := by decide +kernel
theorem dX3_keepAside_5 : decode cX3_keepAside 5 = .ok (.invokevirtual 26, 3) := by decide +kernel
theorem dX3_keepAside_8 : decode cX3_keepAside 8 = .ok (.return_, 1) := by decide +kernel
theorem dX3_settle_0 : decode cX3_settle 0 = .ok (.iload_n 1, 1) := by decide +kernel
theorem dX3_settle_1 : decode cX3_settle 1 = .ok (.ifCond .ge 5, 3) := by decide +kernel
theorem dX3_settle_4 : decode cX3_settle 4 = .ok (.iload_n 1, 1) := by decide +kernel
theorem dX3_settle_5 : decode cX3_settle 5 = .ok (.ireturn, 1) := by decide +kernel
theorem dX3_settle_6 : decode cX3_settle 6 = .ok (.aload_n 0, 1) := by decide +kernel
theorem dX3_settle_7 : decode cX3_settle 7 = .ok (.getfield 13, 3) := by decide +kernel
theorem dX3_settle_10 : decode cX3_settle 10 = .ok (.iconst 5, 1) := by decide +kernel
theorem dX3_settle_11 : decode cX3_settle 11 = .ok (.aaload, 1) := by decide +kernel
theorem dX3_settle_12 : decode cX3_settle 12 = .ok (.astore_n 2, 1) := by decide +kernel
theorem dX3_settle_13 : decode cX3_settle 13 = .ok (.iconst 5, 1) := by decide +kernel
theorem dX3_settle_14 : decode cX3_settle 14 = .ok (.istore_n 3, 1) := by decide +kernel
theorem dX3_settle_15 : decode cX3_settle 15 = .ok (.iload_n 3, 1) := by decide +kernel
theorem dX3_settle_16 : decode cX3_settle 16 = .ok (.ifCond .le 23, 3) := by decide +kernel
theorem dX3_settle_19 : decode cX3_settle 19 = .ok (.aload_n 0, 1) := by decide +kernel
theorem dX3_settle_20 : decode cX3_settle 20 = .ok (.getfield 13, 3) := by decide +kernel
theorem dX3_settle_23 : decode cX3_settle 23 = .ok (.iload_n 3, 1) := by decide +kernel
theorem dX3_settle_24 : decode cX3_settle 24 = .ok (.aload_n 0, 1) := by decide +kernel
theorem dX3_settle_25 : decode cX3_settle 25 = .ok (.getfield 13, 3) := by decide +kernel
theorem dX3_settle_28 : decode cX3_settle 28 = .ok (.iload_n 3, 1) := by decide +kernel
theorem dX3_settle_29 : decode cX3_settle 29 = .ok (.iconst 1, 1) := by decide +kernel
theorem dX3_settle_30 : decode cX3_settle 30 = .ok (.isub, 1) := by decide +kernel
theorem dX3_settle_31 : decode cX3_settle 31 = .ok (.aaload, 1) := by decide +kernel
theorem dX3_settle_32 : decode cX3_settle 32 = .ok (.aastore, 1) := by decide +kernel
theorem dX3_settle_33 : decode cX3_settle 33 = .ok (.iinc 3 (-1), 3) := by decide +kernel
theorem dX3_settle_36 : decode cX3_settle 36 = .ok (.goto (-21), 3) := by decide +kernel
theorem dX3_settle_39 : decode cX3_settle 39 = .ok (.aload_n 0, 1) := by decide +kernel
theorem dX3_settle_40 : decode cX3_settle 40 = .ok (.getfield 13, 3) := by decide +kernel
theorem dX3_settle_43 : decode cX3_settle 43 = .ok (.iconst 0, 1) := by decide +kernel
theorem dX3_settle_44 : decode cX3_settle 44 = .ok (.aload_n 0, 1) := by decide +kernel
theorem dX3_settle_45 : decode cX3_settle 45 = .ok (.getfield 18, 3) := by decide +kernel
theorem dX3_settle_48 : decode cX3_settle 48 = .ok (.aastore, 1) := by decide +kernel
theorem dX3_settle_49 : decode cX3_settle 49 = .ok (.aload_n 0, 1) := by decide +kernel
theorem dX3_settle_50 : decode cX3_settle 50 = .ok (.aload_n 2, 1) := by decide +kernel
theorem dX3_settle_51 : decode cX3_settle 51 = .ok (.putfield 18, 3) := by decide +kernel
theorem dX3_settle_54 : decode cX3_settle 54 = .ok (.aload_n 0, 1) := by decide +kernel
theorem dX3_settle_55 : decode cX3_settle 55 = .ok (.aload_n 0, 1) := by decide +kernel
theorem dX3_settle_56 : decode cX3_settle 56 = .ok (.getfield 22, 3) := by decide +kernel
theorem dX3_settle_59 : decode cX3_settle 59 = .ok (.iconst 1, 1) := by decide +kernel
theorem dX3_settle_60 : decode cX3_settle 60 = .ok (.iadd, 1) := by decide +kernel
theorem dX3_settle_61 : decode cX3_settle 61 = .ok (.bipush 6, 2) := by decide +kernel
theorem dX3_settle_63 : decode cX3_settle 63 = .ok (.invokestatic 30, 3) := by decide +kernel
theorem dX3_settle_66 : decode cX3_settle 66 = .ok (.putfield 22, 3) := by decide +kernel
theorem dX3_settle_69 : decode cX3_settle 69 = .ok (.iload_n 1, 1) := by decide +kernel
theorem dX3_settle_70 : decode cX3_settle 70 = .ok (.ireturn, 1) := by decide +kernel
theorem dX3_stepBack_0 : decode cX3_stepBack 0 = .ok (.aload_n 0, 1) := by decide +kernel
theorem dX3_stepBack_1 : decode cX3_stepBack 1 = .ok (.getfield 22, 3) := by decide +kernel
theorem dX3_stepBack_4 : decode cX3_stepBack 4 = .ok (.ifCond .ne 6, 3) := by decide +kernel
theorem dX3_stepBack_7 : decode cX3_stepBack 7 = .ok (.bipush (-2), 2) := by decide +kernel
theorem dX3_stepBack_9 : decode cX3_stepBack 9 = .ok (.ireturn, 1) := by decide +kernel
theorem dX3_stepBack_10 : decode cX3_stepBack 10 = .ok (.aload_n 0, 1) := by decide +kernel
theorem dX3_stepBack_11 : decode cX3_stepBack 11 = .ok (.getfield 13, 3) := by decide +kernel
theorem dX3_stepBack_14 : decode cX3_stepBack 14 = .ok (.iconst 0, 1) := by decide +kernel
theorem dX3_stepBack_15 : decode cX3_stepBack 15 = .ok (.aaload, 1) := by decide +kernel
theorem dX3_stepBack_16 : decode cX3_stepBack 16 = .ok (.astore_n 2, 1) := by decide +kernel
theorem dX3_stepBack_17 : decode cX3_stepBack 17 = .ok (.aload_n 1, 1) := by decide +kernel
theorem dX3_stepBack_18 : decode cX3_stepBack 18 = .ok (.aload_n 2, 1) := by decide +kernel
theorem dX3_stepBack_19 : decode cX3_stepBack 19 = .ok (.invokevirtual 26, 3) := by decide +kernel
theorem dX3_stepBack_22 : decode cX3_stepBack 22 = .ok (.iconst 0, 1) := by decide +kernel
theorem dX3_stepBack_23 : decode cX3_stepBack 23 = .ok (.istore_n 3, 1) := by decide +kernel
theorem dX3_stepBack_24 : decode cX3_stepBack 24 = .ok (.iload_n 3, 1) := by decide +kernel
theorem dX3_stepBack_25 : decode cX3_stepBack 25 = .ok (.iconst 5, 1) := by decide +kernel
theorem dX3_stepBack_26 : decode cX3_stepBack 26 = .ok (.if_icmp .ge 23, 3) := by decide +kernel
theorem dX3_stepBack_29 : decode cX3_stepBack 29 = .ok (.aload_n 0, 1) := by decide +kernel
theorem dX3_stepBack_30 : decode cX3_stepBack 30 = .ok (.getfield 13, 3) := by decide +kernel
theorem dX3_stepBack_33 : decode cX3_stepBack 33 = .ok (.iload_n 3, 1) := by decide +kernel
theorem dX3_stepBack_34 : decode cX3_stepBack 34 = .ok (.aload_n 0, 1) := by decide +kernel
theorem dX3_stepBack_35 : decode cX3_stepBack 35 = .ok (.getfield 13, 3) := by decide +kernel
theorem dX3_stepBack_38 : decode cX3_stepBack 38 = .ok (.iload_n 3, 1) := by decide +kernel
theorem dX3_stepBack_39 : decode cX3_stepBack 39 = .ok (.iconst 1, 1) := by decide +kernel
theorem dX3_stepBack_40 : decode cX3_stepBack 40 = .ok (.iadd, 1) := by decide +kernel
theorem dX3_stepBack_41 : decode cX3_stepBack 41 = .ok (.aaload, 1) := by decide +kernel
theorem dX3_stepBack_42 : decode cX3_stepBack 42 = .ok (.aastore, 1) := by decide +kernel
theorem dX3_stepBack_43 : decode cX3_stepBack 43 = .ok (.iinc 3 1, 3) := by decide +kernel
theorem dX3_stepBack_46 : decode cX3_stepBack 46 = .ok (.goto (-22), 3) := by decide +kernel
theorem dX3_stepBack_49 : decode cX3_stepBack 49 = .ok (.aload_n 0, 1) := by decide +kernel
theorem dX3_stepBack_50 : decode cX3_stepBack 50 = .ok (.getfield 13, 3) := by decide +kernel
theorem dX3_stepBack_53 : decode cX3_stepBack 53 = .ok (.iconst 5, 1) := by decide +kernel
theorem dX3_stepBack_54 : decode cX3_stepBack 54 = .ok (.aload_n 2, 1) := by decide +kernel
theorem dX3_stepBack_55 : decode cX3_stepBack 55 = .ok (.aastore, 1) := by decide +kernel
theorem dX3_stepBack_56 : decode cX3_stepBack 56 = .ok (.aload_n 0, 1) := by decide +kernel
theorem dX3_stepBack_57 : decode cX3_stepBack 57 = .ok (.dup, 1) := by decide +kernel
theorem dX3_stepBack_58 : decode cX3_stepBack 58 = .ok (.getfield 22, 3) := by decide +kernel
theorem dX3_stepBack_61 : decode cX3_stepBack 61 = .ok (.iconst 1, 1) := by decide +kernel
theorem dX3_stepBack_62 : decode cX3_stepBack 62 = .ok (.isub, 1) := by decide +kernel
theorem dX3_stepBack_63 : decode cX3_stepBack 63 = .ok (.putfield 22, 3) := by decide +kernel
theorem dX3_stepBack_66 : decode cX3_stepBack 66 = .ok (.aload_n 0, 1) := by decide +kernel
theorem dX3_stepBack_67 : decode cX3_stepBack 67 = .ok (.getfield 22, 3) := by decide +kernel
theorem dX3_stepBack_70 : decode cX3_stepBack 70 = .ok (.ireturn, 1) := by decide +kernel
theorem dX4_init_0 : decode cX4_init 0 = .ok (.aload_n 0, 1) := by decide +kernel
theorem dX4_init_1 : decode cX4_init 1 = .ok (.invokespecial 3, 3) := by decide +kernel
theorem dX4_init_4 : decode cX4_init 4 = .ok (.aload_n 0, 1) := by decide +kernel
theorem dX4_init_5 : decode cX4_init 5 = .ok (.bipush 100, 2) := by decide +kernel
theorem dX4_init_7 : decode cX4_init 7 = .ok (.newarray .int, 2) := by decide +kernel
theorem dX4_init_9 : decode cX4_init 9 = .ok (.putfield 11, 3) := by decide +kernel
theorem dX4_init_12 : decode cX4_init 12 = .ok (.return_, 1) := by decide +kernel
theorem dX4_length_0 : decode cX4_length 0 = .ok (.aload_n 0, 1) := by decide +kernel
theorem dX4_length_1 : decode cX4_length 1 = .ok (.getfield 15, 3) := by decide +kernel
theorem dX4_length_4 : decode cX4_length 4 = .ok (.ireturn, 1) := by decide +kernel
theorem dX5_isPath_0 : decode cX5_isPath 0 = .ok (.iload_n 0, 1) := by decide +kernel
theorem dX5_isPath_1 : decode cX5_isPath 1 = .ok (.ifCond .le 9, 3) := by decide +kernel
theorem dX5_isPath_4 : decode cX5_isPath 4 = .ok (.iload_n 0, 1) := by decide +kernel
theorem dX5_isPath_5 : decode cX5_isPath 5 = .ok (.ldc 9, 2) := by decide +kernel
theorem dX5_isPath_7 : decode cX5_isPath 7 = .ok (.if_icmp .le 5, 3) := by decide +kernel
theorem dX5_isPath_10 : decode cX5_isPath 10 = .ok (.iconst 0, 1) := by decide +kernel
theorem dX5_isPath_11 : decode cX5_isPath 11 = .ok (.ireturn, 1) := by decide +kernel
theorem dX5_isPath_12 : decode cX5_isPath 12 = .ok (.iload_n 0, 1) := by decide +kernel
theorem dX5_isPath_13 : decode cX5_isPath 13 = .ok (.istore_n 1, 1) := by decide +kernel
theorem dX5_isPath_14 : decode cX5_isPath 14 = .ok (.iload_n 1, 1) := by decide +kernel
theorem dX5_isPath_15 : decode cX5_isPath 15 = .ok (.ifCond .le 28, 3) := by decide +kernel
theorem dX5_isPath_18 : decode cX5_isPath 18 = .ok (.iload_n 1, 1) := by decide +kernel
theorem dX5_isPath_19 : decode cX5_isPath 19 = .ok (.bipush 10, 2) := by decide +kernel
theorem dX5_isPath_21 : decode cX5_isPath 21 = .ok (.irem, 1) := by decide +kernel
theorem dX5_isPath_22 : decode cX5_isPath 22 = .ok (.istore_n 2, 1) := by decide +kernel
theorem dX5_isPath_23 : decode cX5_isPath 23 = .ok (.iload_n 2, 1) := by decide +kernel
theorem dX5_isPath_24 : decode cX5_isPath 24 = .ok (.iconst 1, 1) := by decide +kernel
theorem dX5_isPath_25 : decode cX5_isPath 25 = .ok (.if_icmp .lt 8, 3) := by decide +kernel
theorem dX5_isPath_28 : decode cX5_isPath 28 = .ok (.iload_n 2, 1) := by decide +kernel
theorem dX5_isPath_29 : decode cX5_isPath 29 = .ok (.iconst 3, 1) := by decide +kernel
theorem dX5_isPath_30 : decode cX5_isPath 30 = .ok (.if_icmp .le 5, 3) := by decide +kernel
theorem dX5_isPath_33 : decode cX5_isPath 33 = .ok (.iconst 0, 1) := by decide +kernel
theorem dX5_isPath_34 : decode cX5_isPath 34 = .ok (.ireturn, 1) := by decide +kernel
theorem dX5_isPath_35 : decode cX5_isPath 35 = .ok (.iload_n 1, 1) := by decide +kernel
theorem dX5_isPath_36 : decode cX5_isPath 36 = .ok (.bipush 10, 2) := by decide +kernel
theorem dX5_isPath_38 : decode cX5_isPath 38 = .ok (.idiv, 1) := by decide +kernel
theorem dX5_isPath_39 : decode cX5_isPath 39 = .ok (.istore_n 1, 1) := by decide +kernel
theorem dX5_isPath_40 : decode cX5_isPath 40 = .ok (.goto (-26), 3) := by decide +kernel
theorem dX5_isPath_43 : decode cX5_isPath 43 = .ok (.iconst 1, 1) := by decide +kernel
theorem dX5_isPath_44 : decode cX5_isPath 44 = .ok (.ireturn, 1) := by decide +kernel
theorem dX5_stepsOf_0 : decode cX5_stepsOf 0 = .ok (.iconst 0, 1) := by decide +kernel
theorem dX5_stepsOf_1 : decode cX5_stepsOf 1 = .ok (.istore_n 1, 1) := by decide +kernel
theorem dX5_stepsOf_2 : decode cX5_stepsOf 2 = .ok (.iload_n 0, 1) := by decide +kernel
theorem dX5_stepsOf_3 : decode cX5_stepsOf 3 = .ok (.istore_n 2, 1) := by decide +kernel
theorem dX5_stepsOf_4 : decode cX5_stepsOf 4 = .ok (.iload_n 2, 1) := by decide +kernel
theorem dX5_stepsOf_5 : decode cX5_stepsOf 5 = .ok (.ifCond .le 14, 3) := by decide +kernel
theorem dX5_stepsOf_8 : decode cX5_stepsOf 8 = .ok (.iinc 1 1, 3) := by decide +kernel
theorem dX5_stepsOf_11 : decode cX5_stepsOf 11 = .ok (.iload_n 2, 1) := by decide +kernel
theorem dX5_stepsOf_12 : decode cX5_stepsOf 12 = .ok (.bipush 10, 2) := by decide +kernel
theorem dX5_stepsOf_14 : decode cX5_stepsOf 14 = .ok (.idiv, 1) := by decide +kernel
theorem dX5_stepsOf_15 : decode cX5_stepsOf 15 = .ok (.istore_n 2, 1) := by decide +kernel
theorem dX5_stepsOf_16 : decode cX5_stepsOf 16 = .ok (.goto (-12), 3) := by decide +kernel
theorem dX5_stepsOf_19 : decode cX5_stepsOf 19 = .ok (.iload_n 1, 1) := by decide +kernel
theorem dX5_stepsOf_20 : decode cX5_stepsOf 20 = .ok (.ireturn, 1) := by decide +kernel
theorem dX5_unitOf_0 : decode cX5_unitOf 0 = .ok (.iconst 1, 1) := by decide +kernel
theorem dX5_unitOf_1 : decode cX5_unitOf 1 = .ok (.istore_n 1, 1) := by decide +kernel
theorem dX5_unitOf_2 : decode cX5_unitOf 2 = .ok (.iload_n 0, 1) := by decide +kernel
theorem dX5_unitOf_3 : decode cX5_unitOf 3 = .ok (.bipush 10, 2) := by decide +kernel
theorem dX5_unitOf_5 : decode cX5_unitOf 5 = .ok (.idiv, 1) := by decide +kernel
theorem dX5_unitOf_6 : decode cX5_unitOf 6 = .ok (.istore_n 2, 1) := by decide +kernel
theorem dX5_unitOf_7 : decode cX5_unitOf 7 = .ok (.iload_n 2, 1) := by decide +kernel
theorem dX5_unitOf_8 : decode cX5_unitOf 8 = .ok (.ifCond .le 16, 3) := by decide +kernel
theorem dX5_unitOf_11 : decode cX5_unitOf 11 = .ok (.iload_n 1, 1) := by decide +kernel
theorem dX5_unitOf_12 : decode cX5_unitOf 12 = .ok (.bipush 10, 2) := by decide +kernel
theorem dX5_unitOf_14 : decode cX5_unitOf 14 = .ok (.imul, 1) := by decide +kernel
theorem dX5_unitOf_15 : decode cX5_unitOf 15 = .ok (.istore_n 1, 1) := by decide +kernel
theorem dX5_unitOf_16 : decode cX5_unitOf 16 = .ok (.iload_n 2, 1) := by decide +kernel
theorem dX5_unitOf_17 : decode cX5_unitOf 17 = .ok (.bipush 10, 2) := by decide +kernel
theorem dX5_unitOf_19 : decode cX5_unitOf 19 = .ok (.idiv, 1) := by decide +kernel
theorem dX5_unitOf_20 : decode cX5_unitOf 20 = .ok (.istore_n 2, 1) := by decide +kernel
theorem dX5_unitOf_21 : decode cX5_unitOf 21 = .ok (.goto (-14), 3) := by decide +kernel
theorem dX5_unitOf_24 : decode cX5_unitOf 24 = .ok (.iload_n 1, 1) := by decide +kernel
theorem dX5_unitOf_25 : decode cX5_unitOf 25 = .ok (.ireturn, 1) := by decide +kernel
theorem dX5_turned_0 : decode cX5_turned 0 = .ok (.iload_n 1, 1) := by decide +kernel
theorem dX5_turned_1 : decode cX5_turned 1 = .ok (.iconst 2, 1) := by decide +kernel
theorem dX5_turned_2 : decode cX5_turned 2 = .ok (.if_icmp .ne 16, 3) := by decide +kernel
theorem dX5_turned_5 : decode cX5_turned 5 = .ok (.iload_n 0, 1) := by decide +kernel
theorem dX5_turned_6 : decode cX5_turned 6 = .ok (.iconst 5, 1) := by decide +kernel
theorem dX5_turned_7 : decode cX5_turned 7 = .ok (.if_icmp .ne 7, 3) := by decide +kernel
theorem dX5_turned_10 : decode cX5_turned 10 = .ok (.iconst 0, 1) := by decide +kernel
theorem dX5_turned_11 : decode cX5_turned 11 = .ok (.goto 6, 3) := by decide +kernel
theorem dX5_turned_14 : decode cX5_turned 14 = .ok (.iload_n 0, 1) := by decide +kernel
theorem dX5_turned_15 : decode cX5_turned 15 = .ok (.iconst 1, 1) := by decide +kernel
theorem dX5_turned_16 : decode cX5_turned 16 = .ok (.iadd, 1) := by decide +kernel
theorem dX5_turned_17 : decode cX5_turned 17 = .ok (.ireturn, 1) := by decide +kernel
theorem dX5_turned_18 : decode cX5_turned 18 = .ok (.iload_n 1, 1) := by decide +kernel
theorem dX5_turned_19 : decode cX5_turned 19 = .ok (.iconst 3, 1) := by decide +kernel
theorem dX5_turned_20 : decode cX5_turned 20 = .ok (.if_icmp .ne 15, 3) := by decide +kernel
theorem dX5_turned_23 : decode cX5_turned 23 = .ok (.iload_n 0, 1) := by decide +kernel
theorem dX5_turned_24 : decode cX5_turned 24 = .ok (.ifCond .ne 7, 3) := by decide +kernel
theorem dX5_turned_27 : decode cX5_turned 27 = .ok (.iconst 5, 1) := by decide +kernel
theorem dX5_turned_28 : decode cX5_turned 28 = .ok (.goto 6, 3) := by decide +kernel
theorem dX5_turned_31 : decode cX5_turned 31 = .ok (.iload_n 0, 1) := by decide +kernel
theorem dX5_turned_32 : decode cX5_turned 32 = .ok (.iconst 1, 1) := by decide +kernel
theorem dX5_turned_33 : decode cX5_turned 33 = .ok (.isub, 1) := by decide +kernel
theorem dX5_turned_34 : decode cX5_turned 34 = .ok (.ireturn, 1) := by decide +kernel
theorem dX5_turned_35 : decode cX5_turned 35 = .ok (.iload_n 0, 1) := by decide +kernel
theorem dX5_turned_36 : decode cX5_turned 36 = .ok (.ireturn, 1) := by decide +kernel
theorem dX6_init_0 : decode cX6_init 0 = .ok (.aload_n 0, 1) := by decide +kernel
theorem dX6_init_1 : decode cX6_init 1 = .ok (.invokespecial 5, 3) := by decide +kernel
theorem dX6_init_4 : decode cX6_init 4 = .ok (.aload_n 0, 1) := by decide +kernel
theorem dX6_init_5 : decode cX6_init 5 = .ok (.sipush 486, 3) := by decide +kernel
theorem dX6_init_8 : decode cX6_init 8 = .ok (.newarray .int, 2) := by decide +kernel
theorem dX6_init_10 : decode cX6_init 10 = .ok (.putfield 13, 3) := by decide +kernel
theorem dX6_init_13 : decode cX6_init 13 = .ok (.aload_n 0, 1) := by decide +kernel
theorem dX6_init_14 : decode cX6_init 14 = .ok (.sipush 486, 3) := by decide +kernel
theorem dX6_init_17 : decode cX6_init 17 = .ok (.newarray .int, 2) := by decide +kernel
theorem dX6_init_19 : decode cX6_init 19 = .ok (.putfield 17, 3) := by decide +kernel
theorem dX6_init_22 : decode cX6_init 22 = .ok (.aload_n 0, 1) := by decide +kernel
theorem dX6_init_23 : decode cX6_init 23 = .ok (.bipush 81, 2) := by decide +kernel
theorem dX6_init_25 : decode cX6_init 25 = .ok (.newarray .int, 2) := by decide +kernel
theorem dX6_init_27 : decode cX6_init 27 = .ok (.putfield 20, 3) := by decide +kernel
theorem dX6_init_30 : decode cX6_init 30 = .ok (.return_, 1) := by decide +kernel
theorem dX6_explore_0 : decode cX6_explore 0 = .ok (.aload_n 0, 1) := by decide +kernel
theorem dX6_explore_1 : decode cX6_explore 1 = .ok (.getfield 13, 3) := by decide +kernel
theorem dX6_explore_4 : decode cX6_explore 4 = .ok (.iconst (-1), 1) := by decide +kernel
theorem dX6_explore_5 : decode cX6_explore 5 = .ok (.invokestatic 23, 3) := by decide +kernel
theorem dX6_explore_8 : decode cX6_explore 8 = .ok (.aload_n 0, 1) := by decide +kernel
theorem dX6_explore_9 : decode cX6_explore 9 = .ok (.getfield 20, 3) := by decide +kernel
theorem dX6_explore_12 : decode cX6_explore 12 = .ok (.iconst (-1), 1) := by decide +kernel
theorem dX6_explore_13 : decode cX6_explore 13 = .ok (.invokestatic 23, 3) := by decide +kernel
theorem dX6_explore_16 : decode cX6_explore 16 = .ok (.aload_n 0, 1) := by decide +kernel
theorem dX6_explore_17 : decode cX6_explore 17 = .ok (.iconst 0, 1) := by decide +kernel
theorem dX6_explore_18 : decode cX6_explore 18 = .ok (.putfield 29, 3) := by decide +kernel
theorem dX6_explore_21 : decode cX6_explore 21 = .ok (.aload_n 0, 1) := by decide +kernel
theorem dX6_explore_22 : decode cX6_explore 22 = .ok (.aload_n 2, 1) := by decide +kernel
theorem dX6_explore_23 : decode cX6_explore 23 = .ok (.getfield 33, 3) := by decide +kernel
theorem dX6_explore_26 : decode cX6_explore 26 = .ok (.aload_n 2, 1) := by decide +kernel
theorem dX6_explore_27 : decode cX6_explore 27 = .ok (.getfield 38, 3) := by decide +kernel
theorem dX6_explore_30 : decode cX6_explore 30 = .ok (.iconst 0, 1) := by decide +kernel
theorem dX6_explore_31 : decode cX6_explore 31 = .ok (.invokevirtual 41, 3) := by decide +kernel
theorem dX6_explore_34 : decode cX6_explore 34 = .ok (.iconst 0, 1) := by decide +kernel
theorem dX6_explore_35 : decode cX6_explore 35 = .ok (.istore 4, 2) := by decide +kernel
theorem dX6_explore_37 : decode cX6_explore 37 = .ok (.iload 4, 2) := by decide +kernel
theorem dX6_explore_39 : decode cX6_explore 39 = .ok (.aload_n 0, 1) := by decide +kernel
theorem dX6_explore_40 : decode cX6_explore 40 = .ok (.getfield 29, 3) := by decide +kernel
theorem dX6_explore_43 : decode cX6_explore 43 = .ok (.if_icmp .ge 75, 3) := by decide +kernel
theorem dX6_explore_46 : decode cX6_explore 46 = .ok (.iload 4, 2) := by decide +kernel
theorem dX6_explore_48 : decode cX6_explore 48 = .ok (.aload_n 0, 1) := by decide +kernel
theorem dX6_explore_49 : decode cX6_explore 49 = .ok (.getfield 17, 3) := by decide +kernel
theorem dX6_explore_52 : decode cX6_explore 52 = .ok (.arraylength, 1) := by decide +kernel
theorem dX6_explore_53 : decode cX6_explore 53 = .ok (.if_icmp .ge 65, 3) := by decide +kernel
theorem dX6_explore_56 : decode cX6_explore 56 = .ok (.aload_n 0, 1) := by decide +kernel
theorem dX6_explore_57 : decode cX6_explore 57 = .ok (.getfield 17, 3) := by decide +kernel
theorem dX6_explore_60 : decode cX6_explore 60 = .ok (.iload 4, 2) := by decide +kernel
theorem dX6_explore_62 : decode cX6_explore 62 = .ok (.iaload, 1) := by decide +kernel
theorem dX6_explore_63 : decode cX6_explore 63 = .ok (.istore 5, 2) := by decide +kernel
theorem dX6_explore_65 : decode cX6_explore 65 = .ok (.iload 5, 2) := by decide +kernel
theorem dX6_explore_67 : decode cX6_explore 67 = .ok (.ifCond .lt 45, 3) := by decide +kernel
theorem dX6_explore_70 : decode cX6_explore 70 = .ok (.iload 5, 2) := by decide +kernel
theorem dX6_explore_72 : decode cX6_explore 72 = .ok (.aload_n 0, 1) := by decide +kernel
theorem dX6_explore_73 : decode cX6_explore 73 = .ok (.getfield 13, 3) := by decide +kernel
theorem dX6_explore_76 : decode cX6_explore 76 = .ok (.arraylength, 1) := by decide +kernel
theorem dX6_explore_77 : decode cX6_explore 77 = .ok (.if_icmp .ge 35, 3) := by decide +kernel
theorem dX6_explore_80 : decode cX6_explore 80 = .ok (.aload_n 0, 1) := by decide +kernel
theorem dX6_explore_81 : decode cX6_explore 81 = .ok (.getfield 13, 3) := by decide +kernel
theorem dX6_explore_84 : decode cX6_explore 84 = .ok (.iload 5, 2) := by decide +kernel
theorem dX6_explore_86 : decode cX6_explore 86 = .ok (.iaload, 1) := by decide +kernel
theorem dX6_explore_87 : decode cX6_explore 87 = .ok (.invokestatic 45, 3) := by decide +kernel
theorem dX6_explore_90 : decode cX6_explore 90 = .ok (.iload_n 3, 1) := by decide +kernel
theorem dX6_explore_91 : decode cX6_explore 91 = .ok (.if_icmp .ge 21, 3) := by decide +kernel
theorem dX6_explore_94 : decode cX6_explore 94 = .ok (.aload_n 0, 1) := by decide +kernel
theorem dX6_explore_95 : decode cX6_explore 95 = .ok (.aload_n 1, 1) := by decide +kernel
theorem dX6_explore_96 : decode cX6_explore 96 = .ok (.aload_n 2, 1) := by decide +kernel
theorem dX6_explore_97 : decode cX6_explore 97 = .ok (.iload 5, 2) := by decide +kernel
theorem dX6_explore_99 : decode cX6_explore 99 = .ok (.aload_n 0, 1) := by decide +kernel
theorem dX6_explore_100 : decode cX6_explore 100 = .ok (.getfield 13, 3) := by decide +kernel
theorem dX6_explore_103 : decode cX6_explore 103 = .ok (.iload 5, 2) := by decide +kernel
theorem dX6_explore_105 : decode cX6_explore 105 = .ok (.iaload, 1) := by decide +kernel
theorem dX6_explore_106 : decode cX6_explore 106 = .ok (.bipush 10, 2) := by decide +kernel
theorem dX6_explore_108 : decode cX6_explore 108 = .ok (.imul, 1) := by decide +kernel
theorem dX6_explore_109 : decode cX6_explore 109 = .ok (.invokevirtual 51, 3) := by decide +kernel
theorem dX6_explore_112 : decode cX6_explore 112 = .ok (.iinc 4 1, 3) := by decide +kernel
theorem dX6_explore_115 : decode cX6_explore 115 = .ok (.goto (-78), 3) := by decide +kernel
theorem dX6_explore_118 : decode cX6_explore 118 = .ok (.return_, 1) := by decide +kernel
theorem dX6_spread_0 : decode cX6_spread 0 = .ok (.iload_n 3, 1) := by decide +kernel
theorem dX6_spread_1 : decode cX6_spread 1 = .ok (.bipush 6, 2) := by decide +kernel
theorem dX6_spread_3 : decode cX6_spread 3 = .ok (.idiv, 1) := by decide +kernel
theorem dX6_spread_4 : decode cX6_spread 4 = .ok (.istore 5, 2) := by decide +kernel
theorem dX6_spread_6 : decode cX6_spread 6 = .ok (.iload_n 3, 1) := by decide +kernel
theorem dX6_spread_7 : decode cX6_spread 7 = .ok (.bipush 6, 2) := by decide +kernel
theorem dX6_spread_9 : decode cX6_spread 9 = .ok (.irem, 1) := by decide +kernel
theorem dX6_spread_10 : decode cX6_spread 10 = .ok (.istore 6, 2) := by decide +kernel
theorem dX6_spread_12 : decode cX6_spread 12 = .ok (.aload_n 0, 1) := by decide +kernel
theorem dX6_spread_13 : decode cX6_spread 13 = .ok (.aload_n 1, 1) := by decide +kernel
theorem dX6_spread_14 : decode cX6_spread 14 = .ok (.aload_n 2, 1) := by decide +kernel
theorem dX6_spread_15 : decode cX6_spread 15 = .ok (.iload 5, 2) := by decide +kernel
theorem dX6_spread_17 : decode cX6_spread 17 = .ok (.iload 6, 2) := by decide +kernel
theorem dX6_spread_19 : decode cX6_spread 19 = .ok (.invokevirtual 55, 3) := by decide +kernel
theorem dX6_spread_22 : decode cX6_spread 22 = .ok (.iload 6, 2) := by decide +kernel
theorem dX6_spread_24 : decode cX6_spread 24 = .ok (.iload 4, 2) := by decide +kernel
theorem dX6_spread_26 : decode cX6_spread 26 = .ok (.iconst 1, 1) := by decide +kernel
theorem dX6_spread_27 : decode cX6_spread 27 = .ok (.iadd, 1) := by decide +kernel
theorem dX6_spread_28 : decode cX6_spread 28 = .ok (.invokevirtual 41, 3) := by decide +kernel
theorem dX6_spread_31 : decode cX6_spread 31 = .ok (.aload_n 0, 1) := by decide +kernel
theorem dX6_spread_32 : decode cX6_spread 32 = .ok (.iload 5, 2) := by decide +kernel
theorem dX6_spread_34 : decode cX6_spread 34 = .ok (.iload 6, 2) := by decide +kernel
theorem dX6_spread_36 : decode cX6_spread 36 = .ok (.iconst 2, 1) := by decide +kernel
theorem dX6_spread_37 : decode cX6_spread 37 = .ok (.invokestatic 61, 3) := by decide +kernel
theorem dX6_spread_40 : decode cX6_spread 40 = .ok (.iload 4, 2) := by decide +kernel
theorem dX6_spread_42 : decode cX6_spread 42 = .ok (.iconst 2, 1) := by decide +kernel
theorem dX6_spread_43 : decode cX6_spread 43 = .ok (.iadd, 1) := by decide +kernel
theorem dX6_spread_44 : decode cX6_spread 44 = .ok (.invokevirtual 41, 3) := by decide +kernel
theorem dX6_spread_47 : decode cX6_spread 47 = .ok (.aload_n 0, 1) := by decide +kernel
theorem dX6_spread_48 : decode cX6_spread 48 = .ok (.iload 5, 2) := by decide +kernel
theorem dX6_spread_50 : decode cX6_spread 50 = .ok (.iload 6, 2) := by decide +kernel
theorem dX6_spread_52 : decode cX6_spread 52 = .ok (.iconst 3, 1) := by decide +kernel
theorem dX6_spread_53 : decode cX6_spread 53 = .ok (.invokestatic 61, 3) := by decide +kernel
theorem dX6_spread_56 : decode cX6_spread 56 = .ok (.iload 4, 2) := by decide +kernel
theorem dX6_spread_58 : decode cX6_spread 58 = .ok (.iconst 3, 1) := by decide +kernel
theorem dX6_spread_59 : decode cX6_spread 59 = .ok (.iadd, 1) := by decide +kernel
theorem dX6_spread_60 : decode cX6_spread 60 = .ok (.invokevirtual 41, 3) := by decide +kernel
theorem dX6_spread_63 : decode cX6_spread 63 = .ok (.return_, 1) := by decide +kernel
theorem dX6_note_0 : decode cX6_note 0 = .ok (.iload_n 1, 1) := by decide +kernel
theorem dX6_note_1 : decode cX6_note 1 = .ok (.invokestatic 65, 3) := by decide +kernel
theorem dX6_note_4 : decode cX6_note 4 = .ok (.ifCond .eq 22, 3) := by decide +kernel
theorem dX6_note_7 : decode cX6_note 7 = .ok (.iload_n 2, 1) := by decide +kernel
theorem dX6_note_8 : decode cX6_note 8 = .ok (.invokestatic 69, 3) := by decide +kernel
theorem dX6_note_11 : decode cX6_note 11 = .ok (.ifCond .eq 15, 3) := by decide +kernel
theorem dX6_note_14 : decode cX6_note 14 = .ok (.aload_n 0, 1) := by decide +kernel
theorem dX6_note_15 : decode cX6_note 15 = .ok (.getfield 29, 3) := by decide +kernel
theorem dX6_note_18 : decode cX6_note 18 = .ok (.aload_n 0, 1) := by decide +kernel
theorem dX6_note_19 : decode cX6_note 19 = .ok (.getfield 17, 3) := by decide +kernel
theorem dX6_note_22 : decode cX6_note 22 = .ok (.arraylength, 1) := by decide +kernel
theorem dX6_note_23 : decode cX6_note 23 = .ok (.if_icmp .lt 4, 3) := by decide +kernel
theorem dX6_note_26 : decode cX6_note 26 = .ok (.return_, 1) := by decide +kernel
theorem dX6_note_27 : decode cX6_note 27 = .ok (.iload_n 1, 1) := by decide +kernel
theorem dX6_note_28 : decode cX6_note 28 = .ok (.bipush 6, 2) := by decide +kernel
theorem dX6_note_30 : decode cX6_note 30 = .ok (.imul, 1) := by decide +kernel
theorem dX6_note_31 : decode cX6_note 31 = .ok (.iload_n 2, 1) := by decide +kernel
theorem dX6_note_32 : decode cX6_note 32 = .ok (.iadd, 1) := by decide +kernel
theorem dX6_note_33 : decode cX6_note 33 = .ok (.istore 4, 2) := by decide +kernel
theorem dX6_note_35 : decode cX6_note 35 = .ok (.aload_n 0, 1) := by decide +kernel
theorem dX6_note_36 : decode cX6_note 36 = .ok (.getfield 13, 3) := by decide +kernel
theorem dX6_note_39 : decode cX6_note 39 = .ok (.iload 4, 2) := by decide +kernel
theorem dX6_note_41 : decode cX6_note 41 = .ok (.iaload, 1) := by decide +kernel
theorem dX6_note_42 : decode cX6_note 42 = .ok (.iconst (-1), 1) := by decide +kernel
theorem dX6_note_43 : decode cX6_note 43 = .ok (.if_icmp .eq 4, 3) := by decide +kernel
theorem dX6_note_46 : decode cX6_note 46 = .ok (.return_, 1) := by decide +kernel
theorem dX6_note_47 : decode cX6_note 47 = .ok (.aload_n 0, 1) := by decide +kernel
theorem dX6_note_48 : decode cX6_note 48 = .ok (.getfield 13, 3) := by decide +kernel
theorem dX6_note_51 : decode cX6_note 51 = .ok (.iload 4, 2) := by decide +kernel
theorem dX6_note_53 : decode cX6_note 53 = .ok (.iload_n 3, 1) := by decide +kernel
theorem dX6_note_54 : decode cX6_note 54 = .ok (.iastore, 1) := by decide +kernel
theorem dX6_note_55 : decode cX6_note 55 = .ok (.aload_n 0, 1) := by decide +kernel
theorem dX6_note_56 : decode cX6_note 56 = .ok (.getfield 17, 3) := by decide +kernel
theorem dX6_note_59 : decode cX6_note 59 = .ok (.aload_n 0, 1) := by decide +kernel
theorem dX6_note_60 : decode cX6_note 60 = .ok (.getfield 29, 3) := by decide +kernel
theorem dX6_note_63 : decode cX6_note 63 = .ok (.iload 4, 2) := by decide +kernel
theorem dX6_note_65 : decode cX6_note 65 = .ok (.iastore, 1) := by decide +kernel
theorem dX6_note_66 : decode cX6_note 66 = .ok (.aload_n 0, 1) := by decide +kernel
theorem dX6_note_67 : decode cX6_note 67 = .ok (.dup, 1) := by decide +kernel
theorem dX6_note_68 : decode cX6_note 68 = .ok (.getfield 29, 3) := by decide +kernel
theorem dX6_note_71 : decode cX6_note 71 = .ok (.iconst 1, 1) := by decide +kernel
theorem dX6_note_72 : decode cX6_note 72 = .ok (.iadd, 1) := by decide +kernel
theorem dX6_note_73 : decode cX6_note 73 = .ok (.putfield 29, 3) := by decide +kernel
theorem dX6_note_76 : decode cX6_note 76 = .ok (.aload_n 0, 1) := by decide +kernel
theorem dX6_note_77 : decode cX6_note 77 = .ok (.getfield 20, 3) := by decide +kernel
theorem dX6_note_80 : decode cX6_note 80 = .ok (.iload_n 1, 1) := by decide +kernel
theorem dX6_note_81 : decode cX6_note 81 = .ok (.iaload, 1) := by decide +kernel
theorem dX6_note_82 : decode cX6_note 82 = .ok (.iconst (-1), 1) := by decide +kernel
theorem dX6_note_83 : decode cX6_note 83 = .ok (.if_icmp .ne 11, 3) := by decide +kernel
theorem dX6_note_86 : decode cX6_note 86 = .ok (.aload_n 0, 1) := by decide +kernel
theorem dX6_note_87 : decode cX6_note 87 = .ok (.getfield 20, 3) := by decide +kernel
theorem dX6_note_90 : decode cX6_note 90 = .ok (.iload_n 1, 1) := by decide +kernel
theorem dX6_note_91 : decode cX6_note 91 = .ok (.iload 4, 2) := by decide +kernel
theorem dX6_note_93 : decode cX6_note 93 = .ok (.iastore, 1) := by decide +kernel
theorem dX6_note_94 : decode cX6_note 94 = .ok (.return_, 1) := by decide +kernel
theorem dX6_bestPath_0 : decode cX6_bestPath 0 = .ok (.iload_n 1, 1) := by decide +kernel
theorem dX6_bestPath_1 : decode cX6_bestPath 1 = .ok (.invokestatic 65, 3) := by decide +kernel
theorem dX6_bestPath_4 : decode cX6_bestPath 4 = .ok (.ifCond .eq 12, 3) := by decide +kernel
theorem dX6_bestPath_7 : decode cX6_bestPath 7 = .ok (.aload_n 0, 1) := by decide +kernel
theorem dX6_bestPath_8 : decode cX6_bestPath 8 = .ok (.getfield 20, 3) := by decide +kernel
theorem dX6_bestPath_11 : decode cX6_bestPath 11 = .ok (.iload_n 1, 1) := by decide +kernel
theorem dX6_bestPath_12 : decode cX6_bestPath 12 = .ok (.iaload, 1) := by decide +kernel
theorem dX6_bestPath_13 : decode cX6_bestPath 13 = .ok (.goto 4, 3) := by decide +kernel
theorem dX6_bestPath_16 : decode cX6_bestPath 16 = .ok (.iconst (-1), 1) := by decide +kernel
theorem dX6_bestPath_17 : decode cX6_bestPath 17 = .ok (.istore_n 2, 1) := by decide +kernel
theorem dX6_bestPath_18 : decode cX6_bestPath 18 = .ok (.iload_n 2, 1) := by decide +kernel
theorem dX6_bestPath_19 : decode cX6_bestPath 19 = .ok (.ifCond .lt 21, 3) := by decide +kernel
theorem dX6_bestPath_22 : decode cX6_bestPath 22 = .ok (.iload_n 2, 1) := by decide +kernel
theorem dX6_bestPath_23 : decode cX6_bestPath 23 = .ok (.aload_n 0, 1) := by decide +kernel
theorem dX6_bestPath_24 : decode cX6_bestPath 24 = .ok (.getfield 13, 3) := by decide +kernel
theorem dX6_bestPath_27 : decode cX6_bestPath 27 = .ok (.arraylength, 1) := by decide +kernel
theorem dX6_bestPath_28 : decode cX6_bestPath 28 = .ok (.if_icmp .ge 12, 3) := by decide +kernel
theorem dX6_bestPath_31 : decode cX6_bestPath 31 = .ok (.aload_n 0, 1) := by decide +kernel
theorem dX6_bestPath_32 : decode cX6_bestPath 32 = .ok (.getfield 13, 3) := by decide +kernel
theorem dX6_bestPath_35 : decode cX6_bestPath 35 = .ok (.iload_n 2, 1) := by decide +kernel
theorem dX6_bestPath_36 : decode cX6_bestPath 36 = .ok (.iaload, 1) := by decide +kernel
theorem dX6_bestPath_37 : decode cX6_bestPath 37 = .ok (.goto 4, 3) := by decide +kernel
theorem dX6_bestPath_40 : decode cX6_bestPath 40 = .ok (.iconst 0, 1) := by decide +kernel
theorem dX6_bestPath_41 : decode cX6_bestPath 41 = .ok (.ireturn, 1) := by decide +kernel
theorem dX6_tellOfWay_0 : decode cX6_tellOfWay 0 = .ok (.aload_n 0, 1) := by decide +kernel
theorem dX6_tellOfWay_1 : decode cX6_tellOfWay 1 = .ok (.iload_n 1, 1) := by decide +kernel
theorem dX6_tellOfWay_2 : decode cX6_tellOfWay 2 = .ok (.invokevirtual 72, 3) := by decide +kernel
theorem dX6_tellOfWay_5 : decode cX6_tellOfWay 5 = .ok (.istore_n 3, 1) := by decide +kernel
theorem dX6_tellOfWay_6 : decode cX6_tellOfWay 6 = .ok (.iload_n 3, 1) := by decide +kernel
theorem dX6_tellOfWay_7 : decode cX6_tellOfWay 7 = .ok (.ifCond .ne 6, 3) := by decide +kernel
theorem dX6_tellOfWay_10 : decode cX6_tellOfWay 10 = .ok (.bipush (-9), 2) := by decide +kernel
theorem dX6_tellOfWay_12 : decode cX6_tellOfWay 12 = .ok (.ireturn, 1) := by decide +kernel
theorem dX6_tellOfWay_13 : decode cX6_tellOfWay 13 = .ok (.iload_n 2, 1) := by decide +kernel
theorem dX6_tellOfWay_14 : decode cX6_tellOfWay 14 = .ok (.ifCond .ne 5, 3) := by decide +kernel
theorem dX6_tellOfWay_17 : decode cX6_tellOfWay 17 = .ok (.iload_n 3, 1) := by decide +kernel
theorem dX6_tellOfWay_18 : decode cX6_tellOfWay 18 = .ok (.ireturn, 1) := by decide +kernel
theorem dX6_tellOfWay_19 : decode cX6_tellOfWay 19 = .ok (.iload_n 2, 1) := by decide +kernel
theorem dX6_tellOfWay_20 : decode cX6_tellOfWay 20 = .ok (.iconst 1, 1) := by decide +kernel
theorem dX6_tellOfWay_21 : decode cX6_tellOfWay 21 = .ok (.if_icmp .ne 10, 3) := by decide +kernel
theorem dX6_tellOfWay_24 : decode cX6_tellOfWay 24 = .ok (.iload_n 3, 1) := by decide +kernel
theorem dX6_tellOfWay_25 : decode cX6_tellOfWay 25 = .ok (.invokestatic 45, 3) := by decide +kernel
theorem dX6_tellOfWay_28 : decode cX6_tellOfWay 28 = .ok (.goto 8, 3) := by decide +kernel
theorem dX6_tellOfWay_31 : decode cX6_tellOfWay 31 = .ok (.aload_n 0, 1) := by decide +kernel
theorem dX6_tellOfWay_32 : decode cX6_tellOfWay 32 = .ok (.iload_n 1, 1) := by decide +kernel
theorem dX6_tellOfWay_33 : decode cX6_tellOfWay 33 = .ok (.invokevirtual 75, 3) := by decide +kernel
theorem dX6_tellOfWay_36 : decode cX6_tellOfWay 36 = .ok (.ireturn, 1) := by decide +kernel
theorem dX6_headingAt_0 : decode cX6_headingAt 0 = .ok (.iload_n 1, 1) := by decide +kernel
theorem dX6_headingAt_1 : decode cX6_headingAt 1 = .ok (.invokestatic 65, 3) := by decide +kernel
theorem dX6_headingAt_4 : decode cX6_headingAt 4 = .ok (.ifCond .eq 15, 3) := by decide +kernel
theorem dX6_headingAt_7 : decode cX6_headingAt 7 = .ok (.aload_n 0, 1) := by decide +kernel
theorem dX6_headingAt_8 : decode cX6_headingAt 8 = .ok (.getfield 20, 3) := by decide +kernel
theorem dX6_headingAt_11 : decode cX6_headingAt 11 = .ok (.iload_n 1, 1) := by decide +kernel
theorem dX6_headingAt_12 : decode cX6_headingAt 12 = .ok (.iaload, 1) := by decide +kernel
theorem dX6_headingAt_13 : decode cX6_headingAt 13 = .ok (.bipush 6, 2) := by decide +kernel
theorem dX6_headingAt_15 : decode cX6_headingAt 15 = .ok (.irem, 1) := by decide +kernel
theorem dX6_headingAt_16 : decode cX6_headingAt 16 = .ok (.goto 5, 3) := by decide +kernel
theorem dX6_headingAt_19 : decode cX6_headingAt 19 = .ok (.bipush (-9), 2) := by decide +kernel
theorem dX6_headingAt_21 : decode cX6_headingAt 21 = .ok (.ireturn, 1) := by decide +kernel
theorem dX6_reachedHexes_0 : decode cX6_reachedHexes 0 = .ok (.iconst 0, 1) := by decide +kernel
theorem dX6_reachedHexes_1 : decode cX6_reachedHexes 1 = .ok (.istore_n 1, 1) := by decide +kernel
theorem dX6_reachedHexes_2 : decode cX6_reachedHexes 2 = .ok (.iconst 0, 1) := by decide +kernel
theorem dX6_reachedHexes_3 : decode cX6_reachedHexes 3 = .ok (.istore_n 2, 1) := by decide +kernel
theorem dX6_reachedHexes_4 : decode cX6_reachedHexes 4 = .ok (.iload_n 2, 1) := by decide +kernel
theorem dX6_reachedHexes_5 : decode cX6_reachedHexes 5 = .ok (.bipush 81, 2) := by decide +kernel
theorem dX6_reachedHexes_7 : decode cX6_reachedHexes 7 = .ok (.if_icmp .ge 20, 3) := by decide +kernel
theorem dX6_reachedHexes_10 : decode cX6_reachedHexes 10 = .ok (.aload_n 0, 1) := by decide +kernel
theorem dX6_reachedHexes_11 : decode cX6_reachedHexes 11 = .ok (.iload_n 2, 1) := by decide +kernel
theorem dX6_reachedHexes_12 : decode cX6_reachedHexes 12 = .ok (.invokevirtual 72, 3) := by decide +kernel
theorem dX6_reachedHexes_15 : decode cX6_reachedHexes 15 = .ok (.ifCond .le 6, 3) := by decide +kernel
theorem dX6_reachedHexes_18 : decode cX6_reachedHexes 18 = .ok (.iinc 1 1, 3) := by decide +kernel
theorem dX6_reachedHexes_21 : decode cX6_reachedHexes 21 = .ok (.iinc 2 1, 3) := by decide +kernel
theorem dX6_reachedHexes_24 : decode cX6_reachedHexes 24 = .ok (.goto (-20), 3) := by decide +kernel
theorem dX6_reachedHexes_27 : decode cX6_reachedHexes 27 = .ok (.iload_n 1, 1) := by decide +kernel
theorem dX6_reachedHexes_28 : decode cX6_reachedHexes 28 = .ok (.ireturn, 1) := by decide +kernel
theorem dX7_init_0 : decode cX7_init 0 = .ok (.aload_n 0, 1) := by decide +kernel
theorem dX7_init_1 : decode cX7_init 1 = .ok (.invokespecial 3, 3) := by decide +kernel
theorem dX7_init_4 : decode cX7_init 4 = .ok (.aload_n 0, 1) := by decide +kernel
theorem dX7_init_5 : decode cX7_init 5 = .ok (.bipush (-9), 2) := by decide +kernel
theorem dX7_init_7 : decode cX7_init 7 = .ok (.putfield 9, 3) := by decide +kernel
theorem dX7_init_10 : decode cX7_init 10 = .ok (.aload_n 0, 1) := by decide +kernel
theorem dX7_init_11 : decode cX7_init 11 = .ok (.iload_n 1, 1) := by decide +kernel
theorem dX7_init_12 : decode cX7_init 12 = .ok (.putfield 15, 3) := by decide +kernel
theorem dX7_init_15 : decode cX7_init 15 = .ok (.return_, 1) := by decide +kernel
theorem dX7_hasSide_0 : decode cX7_hasSide 0 = .ok (.iload_n 0, 1) := by decide +kernel
theorem dX7_hasSide_1 : decode cX7_hasSide 1 = .ok (.ifCond .eq 8, 3) := by decide +kernel
theorem dX7_hasSide_4 : decode cX7_hasSide 4 = .ok (.iload_n 0, 1) := by decide +kernel
theorem dX7_hasSide_5 : decode cX7_hasSide 5 = .ok (.iconst 1, 1) := by decide +kernel
theorem dX7_hasSide_6 : decode cX7_hasSide 6 = .ok (.if_icmp .ne 7, 3) := by decide +kernel
theorem dX7_hasSide_9 : decode cX7_hasSide 9 = .ok (.iconst 1, 1) := by decide +kernel
theorem dX7_hasSide_10 : decode cX7_hasSide 10 = .ok (.goto 4, 3) := by decide +kernel
theorem dX7_hasSide_13 : decode cX7_hasSide 13 = .ok (.iconst 0, 1) := by decide +kernel
theorem dX7_hasSide_14 : decode cX7_hasSide 14 = .ok (.ireturn, 1) := by decide +kernel
theorem dX7_copyFrom_0 : decode cX7_copyFrom 0 = .ok (.aload_n 0, 1) := by decide +kernel
theorem dX7_copyFrom_1 : decode cX7_copyFrom 1 = .ok (.aload_n 1, 1) := by decide +kernel
theorem dX7_copyFrom_2 : decode cX7_copyFrom 2 = .ok (.getfield 18, 3) := by decide +kernel
theorem dX7_copyFrom_5 : decode cX7_copyFrom 5 = .ok (.putfield 18, 3) := by decide +kernel
theorem dX7_copyFrom_8 : decode cX7_copyFrom 8 = .ok (.aload_n 0, 1) := by decide +kernel
theorem dX7_copyFrom_9 : decode cX7_copyFrom 9 = .ok (.aload_n 1, 1) := by decide +kernel
theorem dX7_copyFrom_10 : decode cX7_copyFrom 10 = .ok (.getfield 21, 3) := by decide +kernel
theorem dX7_copyFrom_13 : decode cX7_copyFrom 13 = .ok (.putfield 21, 3) := by decide +kernel
theorem dX7_copyFrom_16 : decode cX7_copyFrom 16 = .ok (.aload_n 0, 1) := by decide +kernel
theorem dX7_copyFrom_17 : decode cX7_copyFrom 17 = .ok (.aload_n 1, 1) := by decide +kernel
theorem dX7_copyFrom_18 : decode cX7_copyFrom 18 = .ok (.getfield 24, 3) := by decide +kernel
theorem dX7_copyFrom_21 : decode cX7_copyFrom 21 = .ok (.putfield 24, 3) := by decide +kernel
theorem dX7_copyFrom_24 : decode cX7_copyFrom 24 = .ok (.aload_n 0, 1) := by decide +kernel
theorem dX7_copyFrom_25 : decode cX7_copyFrom 25 = .ok (.aload_n 1, 1) := by decide +kernel
theorem dX7_copyFrom_26 : decode cX7_copyFrom 26 = .ok (.getfield 27, 3) := by decide +kernel
theorem dX7_copyFrom_29 : decode cX7_copyFrom 29 = .ok (.putfield 27, 3) := by decide +kernel
theorem dX7_copyFrom_32 : decode cX7_copyFrom 32 = .ok (.aload_n 0, 1) := by decide +kernel
theorem dX7_copyFrom_33 : decode cX7_copyFrom 33 = .ok (.aload_n 1, 1) := by decide +kernel
theorem dX7_copyFrom_34 : decode cX7_copyFrom 34 = .ok (.getfield 30, 3) := by decide +kernel
theorem dX7_copyFrom_37 : decode cX7_copyFrom 37 = .ok (.putfield 30, 3) := by decide +kernel
theorem dX7_copyFrom_40 : decode cX7_copyFrom 40 = .ok (.aload_n 0, 1) := by decide +kernel
theorem dX7_copyFrom_41 : decode cX7_copyFrom 41 = .ok (.aload_n 1, 1) := by decide +kernel
theorem dX7_copyFrom_42 : decode cX7_copyFrom 42 = .ok (.getfield 33, 3) := by decide +kernel
theorem dX7_copyFrom_45 : decode cX7_copyFrom 45 = .ok (.putfield 33, 3) := by decide +kernel
theorem dX7_copyFrom_48 : decode cX7_copyFrom 48 = .ok (.aload_n 0, 1) := by decide +kernel
theorem dX7_copyFrom_49 : decode cX7_copyFrom 49 = .ok (.aload_n 1, 1) := by decide +kernel
theorem dX7_copyFrom_50 : decode cX7_copyFrom 50 = .ok (.getfield 36, 3) := by decide +kernel
theorem dX7_copyFrom_53 : decode cX7_copyFrom 53 = .ok (.putfield 36, 3) := by decide +kernel
theorem dX7_copyFrom_56 : decode cX7_copyFrom 56 = .ok (.aload_n 0, 1) := by decide +kernel
theorem dX7_copyFrom_57 : decode cX7_copyFrom 57 = .ok (.aload_n 1, 1) := by decide +kernel
theorem dX7_copyFrom_58 : decode cX7_copyFrom 58 = .ok (.getfield 9, 3) := by decide +kernel
theorem dX7_copyFrom_61 : decode cX7_copyFrom 61 = .ok (.putfield 9, 3) := by decide +kernel
theorem dX7_copyFrom_64 : decode cX7_copyFrom 64 = .ok (.aload_n 0, 1) := by decide +kernel
theorem dX7_copyFrom_65 : decode cX7_copyFrom 65 = .ok (.aload_n 1, 1) := by decide +kernel
theorem dX7_copyFrom_66 : decode cX7_copyFrom 66 = .ok (.getfield 39, 3) := by decide +kernel
theorem dX7_copyFrom_69 : decode cX7_copyFrom 69 = .ok (.putfield 39, 3) := by decide +kernel
theorem dX7_copyFrom_72 : decode cX7_copyFrom 72 = .ok (.aload_n 0, 1) := by decide +kernel
theorem dX7_copyFrom_73 : decode cX7_copyFrom 73 = .ok (.aload_n 1, 1) := by decide +kernel
theorem dX7_copyFrom_74 : decode cX7_copyFrom 74 = .ok (.getfield 42, 3) := by decide +kernel
theorem dX7_copyFrom_77 : decode cX7_copyFrom 77 = .ok (.putfield 42, 3) := by decide +kernel
theorem dX7_copyFrom_80 : decode cX7_copyFrom 80 = .ok (.aload_n 0, 1) := by decide +kernel
theorem dX7_copyFrom_81 : decode cX7_copyFrom 81 = .ok (.aload_n 1, 1) := by decide +kernel
theorem dX7_copyFrom_82 : decode cX7_copyFrom 82 = .ok (.getfield 45, 3) := by decide +kernel
theorem dX7_copyFrom_85 : decode cX7_copyFrom 85 = .ok (.putfield 45, 3) := by decide +kernel
theorem dX7_copyFrom_88 : decode cX7_copyFrom 88 = .ok (.return_, 1) := by decide +kernel
theorem dX7_floats_0 : decode cX7_floats 0 = .ok (.aload_n 0, 1) := by decide +kernel
theorem dX7_floats_1 : decode cX7_floats 1 = .ok (.getfield 27, 3) := by decide +kernel
theorem dX7_floats_4 : decode cX7_floats 4 = .ok (.ifCond .le 7, 3) := by decide +kernel
theorem dX7_floats_7 : decode cX7_floats 7 = .ok (.iconst 1, 1) := by decide +kernel
theorem dX7_floats_8 : decode cX7_floats 8 = .ok (.goto 4, 3) := by decide +kernel
theorem dX7_floats_11 : decode cX7_floats 11 = .ok (.iconst 0, 1) := by decide +kernel
theorem dX7_floats_12 : decode cX7_floats 12 = .ok (.ireturn, 1) := by decide +kernel
theorem dX7_isGrappled_0 : decode cX7_isGrappled 0 = .ok (.aload_n 0, 1) := by decide +kernel
theorem dX7_isGrappled_1 : decode cX7_isGrappled 1 = .ok (.getfield 9, 3) := by decide +kernel
theorem dX7_isGrappled_4 : decode cX7_isGrappled 4 = .ok (.bipush (-9), 2) := by decide +kernel
theorem dX7_isGrappled_6 : decode cX7_isGrappled 6 = .ok (.if_icmp .eq 7, 3) := by decide +kernel
theorem dX7_isGrappled_9 : decode cX7_isGrappled 9 = .ok (.iconst 1, 1) := by decide +kernel
theorem dX7_isGrappled_10 : decode cX7_isGrappled 10 = .ok (.goto 4, 3) := by decide +kernel
theorem dX7_isGrappled_13 : decode cX7_isGrappled 13 = .ok (.iconst 0, 1) := by decide +kernel
theorem dX7_isGrappled_14 : decode cX7_isGrappled 14 = .ok (.ireturn, 1) := by decide +kernel
theorem dX7_has_0 : decode cX7_has 0 = .ok (.aload_n 0, 1) := by decide +kernel
theorem dX7_has_1 : decode cX7_has 1 = .ok (.getfield 45, 3) := by decide +kernel
theorem dX7_has_4 : decode cX7_has 4 = .ok (.iload_n 1, 1) := by decide +kernel
theorem dX7_has_5 : decode cX7_has 5 = .ok (.iand, 1) := by decide +kernel
theorem dX7_has_6 : decode cX7_has 6 = .ok (.ifCond .eq 7, 3) := by decide +kernel
theorem dX7_has_9 : decode cX7_has 9 = .ok (.iconst 1, 1) := by decide +kernel
theorem dX7_has_10 : decode cX7_has 10 = .ok (.goto 4, 3) := by decide +kernel
theorem dX7_has_13 : decode cX7_has 13 = .ok (.iconst 0, 1) := by decide +kernel
theorem dX7_has_14 : decode cX7_has 14 = .ok (.ireturn, 1) := by decide +kernel
theorem dX7_stepsBy_0 : decode cX7_stepsBy 0 = .ok (.aload_n 0, 1) := by decide +kernel
theorem dX7_stepsBy_1 : decode cX7_stepsBy 1 = .ok (.invokevirtual 48, 3) := by decide +kernel
theorem dX7_stepsBy_4 : decode cX7_stepsBy 4 = .ok (.ifCond .eq 10, 3) := by decide +kernel
theorem dX7_stepsBy_7 : decode cX7_stepsBy 7 = .ok (.aload_n 0, 1) := by decide +kernel
theorem dX7_stepsBy_8 : decode cX7_stepsBy 8 = .ok (.invokevirtual 52, 3) := by decide +kernel
theorem dX7_stepsBy_11 : decode cX7_stepsBy 11 = .ok (.ifCond .eq 5, 3) := by decide +kernel
theorem dX7_stepsBy_14 : decode cX7_stepsBy 14 = .ok (.iconst 0, 1) := by decide +kernel
theorem dX7_stepsBy_15 : decode cX7_stepsBy 15 = .ok (.ireturn, 1) := by decide +kernel
theorem dX7_stepsBy_16 : decode cX7_stepsBy 16 = .ok (.aload_n 0, 1) := by decide +kernel
theorem dX7_stepsBy_17 : decode cX7_stepsBy 17 = .ok (.iload_n 1, 1) := by decide +kernel
theorem dX7_stepsBy_18 : decode cX7_stepsBy 18 = .ok (.invokevirtual 55, 3) := by decide +kernel
theorem dX7_stepsBy_21 : decode cX7_stepsBy 21 = .ok (.iload_n 2, 1) := by decide +kernel
theorem dX7_stepsBy_22 : decode cX7_stepsBy 22 = .ok (.imul, 1) := by decide +kernel
theorem dX7_stepsBy_23 : decode cX7_stepsBy 23 = .ok (.aload_n 0, 1) := by decide +kernel
theorem dX7_stepsBy_24 : decode cX7_stepsBy 24 = .ok (.getfield 30, 3) := by decide +kernel
theorem dX7_stepsBy_27 : decode cX7_stepsBy 27 = .ok (.aload_n 0, 1) := by decide +kernel
theorem dX7_stepsBy_28 : decode cX7_stepsBy 28 = .ok (.getfield 33, 3) := by decide +kernel
theorem dX7_stepsBy_31 : decode cX7_stepsBy 31 = .ok (.invokestatic 59, 3) := by decide +kernel
theorem dX7_stepsBy_34 : decode cX7_stepsBy 34 = .ok (.imul, 1) := by decide +kernel
theorem dX7_stepsBy_35 : decode cX7_stepsBy 35 = .ok (.bipush 32, 2) := by decide +kernel
theorem dX7_stepsBy_37 : decode cX7_stepsBy 37 = .ok (.idiv, 1) := by decide +kernel
theorem dX7_stepsBy_38 : decode cX7_stepsBy 38 = .ok (.ireturn, 1) := by decide +kernel
theorem dX7_speedFactor_0 : decode cX7_speedFactor 0 = .ok (.aload_n 0, 1) := by decide +kernel
theorem dX7_speedFactor_1 : decode cX7_speedFactor 1 = .ok (.getfield 24, 3) := by decide +kernel
theorem dX7_speedFactor_4 : decode cX7_speedFactor 4 = .ok (.iload_n 1, 1) := by decide +kernel
theorem dX7_speedFactor_5 : decode cX7_speedFactor 5 = .ok (.isub, 1) := by decide +kernel
theorem dX7_speedFactor_6 : decode cX7_speedFactor 6 = .ok (.istore_n 2, 1) := by decide +kernel
theorem dX7_speedFactor_7 : decode cX7_speedFactor 7 = .ok (.iload_n 2, 1) := by decide +kernel
theorem dX7_speedFactor_8 : decode cX7_speedFactor 8 = .ok (.ifCond .ge 10, 3) := by decide +kernel
theorem dX7_speedFactor_11 : decode cX7_speedFactor 11 = .ok (.iload_n 2, 1) := by decide +kernel
theorem dX7_speedFactor_12 : decode cX7_speedFactor 12 = .ok (.bipush 6, 2) := by decide +kernel
theorem dX7_speedFactor_14 : decode cX7_speedFactor 14 = .ok (.iadd, 1) := by decide +kernel
theorem dX7_speedFactor_15 : decode cX7_speedFactor 15 = .ok (.goto 4, 3) := by decide +kernel
theorem dX7_speedFactor_18 : decode cX7_speedFactor 18 = .ok (.iload_n 2, 1) := by decide +kernel
theorem dX7_speedFactor_19 : decode cX7_speedFactor 19 = .ok (.tableswitch 45 0 5 #[37, 40, 43, 45, 43, 40], 37) := by decide +kernel
theorem dX7_speedFactor_56 : decode cX7_speedFactor 56 = .ok (.bipush 6, 2) := by decide +kernel
theorem dX7_speedFactor_58 : decode cX7_speedFactor 58 = .ok (.ireturn, 1) := by decide +kernel
theorem dX7_speedFactor_59 : decode cX7_speedFactor 59 = .ok (.bipush 8, 2) := by decide +kernel
theorem dX7_speedFactor_61 : decode cX7_speedFactor 61 = .ok (.ireturn, 1) := by decide +kernel
theorem dX7_speedFactor_62 : decode cX7_speedFactor 62 = .ok (.iconst 4, 1) := by decide +kernel
theorem dX7_speedFactor_63 : decode cX7_speedFactor 63 = .ok (.ireturn, 1) := by decide +kernel
theorem dX7_speedFactor_64 : decode cX7_speedFactor 64 = .ok (.iconst 0, 1) := by decide +kernel
theorem dX7_speedFactor_65 : decode cX7_speedFactor 65 = .ok (.ireturn, 1) := by decide +kernel
theorem dX7_hitsFrom_0 : decode cX7_hitsFrom 0 = .ok (.aload_n 0, 1) := by decide +kernel
theorem dX7_hitsFrom_1 : decode cX7_hitsFrom 1 = .ok (.getfield 36, 3) := by decide +kernel
theorem dX7_hitsFrom_4 : decode cX7_hitsFrom 4 = .ok (.iconst 4, 1) := by decide +kernel
theorem dX7_hitsFrom_5 : decode cX7_hitsFrom 5 = .ok (.iload_n 1, 1) := by decide +kernel
theorem dX7_hitsFrom_6 : decode cX7_hitsFrom 6 = .ok (.isub, 1) := by decide +kernel
theorem dX7_hitsFrom_7 : decode cX7_hitsFrom 7 = .ok (.imul, 1) := by decide +kernel
theorem dX7_hitsFrom_8 : decode cX7_hitsFrom 8 = .ok (.aload_n 0, 1) := by decide +kernel
theorem dX7_hitsFrom_9 : decode cX7_hitsFrom 9 = .ok (.getfield 33, 3) := by decide +kernel
theorem dX7_hitsFrom_12 : decode cX7_hitsFrom 12 = .ok (.bipush 8, 2) := by decide +kernel
theorem dX7_hitsFrom_14 : decode cX7_hitsFrom 14 = .ok (.invokestatic 59, 3) := by decide +kernel
theorem dX7_hitsFrom_17 : decode cX7_hitsFrom 17 = .ok (.imul, 1) := by decide +kernel
theorem dX7_hitsFrom_18 : decode cX7_hitsFrom 18 = .ok (.bipush 8, 2) := by decide +kernel
theorem dX7_hitsFrom_20 : decode cX7_hitsFrom 20 = .ok (.idiv, 1) := by decide +kernel
theorem dX7_hitsFrom_21 : decode cX7_hitsFrom 21 = .ok (.ireturn, 1) := by decide +kernel
theorem dX7_suffer_0 : decode cX7_suffer 0 = .ok (.aload_n 0, 1) := by decide +kernel
theorem dX7_suffer_1 : decode cX7_suffer 1 = .ok (.iconst 0, 1) := by decide +kernel
theorem dX7_suffer_2 : decode cX7_suffer 2 = .ok (.aload_n 0, 1) := by decide +kernel
theorem dX7_suffer_3 : decode cX7_suffer 3 = .ok (.getfield 27, 3) := by decide +kernel
theorem dX7_suffer_6 : decode cX7_suffer 6 = .ok (.iload_n 1, 1) := by decide +kernel
theorem dX7_suffer_7 : decode cX7_suffer 7 = .ok (.isub, 1) := by decide +kernel
theorem dX7_suffer_8 : decode cX7_suffer 8 = .ok (.invokestatic 67, 3) := by decide +kernel
theorem dX7_suffer_11 : decode cX7_suffer 11 = .ok (.putfield 27, 3) := by decide +kernel
theorem dX7_suffer_14 : decode cX7_suffer 14 = .ok (.aload_n 0, 1) := by decide +kernel
theorem dX7_suffer_15 : decode cX7_suffer 15 = .ok (.iconst 0, 1) := by decide +kernel
theorem dX7_suffer_16 : decode cX7_suffer 16 = .ok (.aload_n 0, 1) := by decide +kernel
theorem dX7_suffer_17 : decode cX7_suffer 17 = .ok (.getfield 33, 3) := by decide +kernel
theorem dX7_suffer_20 : decode cX7_suffer 20 = .ok (.iload_n 1, 1) := by decide +kernel
theorem dX7_suffer_21 : decode cX7_suffer 21 = .ok (.iconst 3, 1) := by decide +kernel
theorem dX7_suffer_22 : decode cX7_suffer 22 = .ok (.idiv, 1) := by decide +kernel
theorem dX7_suffer_23 : decode cX7_suffer 23 = .ok (.isub, 1) := by decide +kernel
theorem dX7_suffer_24 : decode cX7_suffer 24 = .ok (.invokestatic 67, 3) := by decide +kernel
theorem dX7_suffer_27 : decode cX7_suffer 27 = .ok (.putfield 33, 3) := by decide +kernel
theorem dX7_suffer_30 : decode cX7_suffer 30 = .ok (.aload_n 0, 1) := by decide +kernel
theorem dX7_suffer_31 : decode cX7_suffer 31 = .ok (.iconst 0, 1) := by decide +kernel
theorem dX7_suffer_32 : decode cX7_suffer 32 = .ok (.aload_n 0, 1) := by decide +kernel
theorem dX7_suffer_33 : decode cX7_suffer 33 = .ok (.getfield 30, 3) := by decide +kernel
theorem dX7_suffer_36 : decode cX7_suffer 36 = .ok (.iload_n 1, 1) := by decide +kernel
theorem dX7_suffer_37 : decode cX7_suffer 37 = .ok (.iconst 4, 1) := by decide +kernel
theorem dX7_suffer_38 : decode cX7_suffer 38 = .ok (.idiv, 1) := by decide +kernel
theorem dX7_suffer_39 : decode cX7_suffer 39 = .ok (.isub, 1) := by decide +kernel
theorem dX7_suffer_40 : decode cX7_suffer 40 = .ok (.invokestatic 67, 3) := by decide +kernel
theorem dX7_suffer_43 : decode cX7_suffer 43 = .ok (.putfield 30, 3) := by decide +kernel
theorem dX7_suffer_46 : decode cX7_suffer 46 = .ok (.aload_n 0, 1) := by decide +kernel
theorem dX7_suffer_47 : decode cX7_suffer 47 = .ok (.iconst 0, 1) := by decide +kernel
theorem dX7_suffer_48 : decode cX7_suffer 48 = .ok (.aload_n 0, 1) := by decide +kernel
theorem dX7_suffer_49 : decode cX7_suffer 49 = .ok (.getfield 36, 3) := by decide +kernel
theorem dX7_suffer_52 : decode cX7_suffer 52 = .ok (.iload_n 1, 1) := by decide +kernel
theorem dX7_suffer_53 : decode cX7_suffer 53 = .ok (.bipush 6, 2) := by decide +kernel
theorem dX7_suffer_55 : decode cX7_suffer 55 = .ok (.idiv, 1) := by decide +kernel
theorem dX7_suffer_56 : decode cX7_suffer 56 = .ok (.isub, 1) := by decide +kernel
theorem dX7_suffer_57 : decode cX7_suffer 57 = .ok (.invokestatic 67, 3) := by decide +kernel
theorem dX7_suffer_60 : decode cX7_suffer 60 = .ok (.putfield 36, 3) := by decide +kernel
theorem dX7_suffer_63 : decode cX7_suffer 63 = .ok (.return_, 1) := by decide +kernel
theorem dX7_noteShot_0 : decode cX7_noteShot 0 = .ok (.iload_n 1, 1) := by decide +kernel
theorem dX7_noteShot_1 : decode cX7_noteShot 1 = .ok (.ifCond .ne 13, 3) := by decide +kernel
theorem dX7_noteShot_4 : decode cX7_noteShot 4 = .ok (.aload_n 0, 1) := by decide +kernel
theorem dX7_noteShot_5 : decode cX7_noteShot 5 = .ok (.iload_n 2, 1) := by decide +kernel
theorem dX7_noteShot_6 : decode cX7_noteShot 6 = .ok (.iconst 2, 1) := by decide +kernel
theorem dX7_noteShot_7 : decode cX7_noteShot 7 = .ok (.iadd, 1) := by decide +kernel
theorem dX7_noteShot_8 : decode cX7_noteShot 8 = .ok (.putfield 39, 3) := by decide +kernel
theorem dX7_noteShot_11 : decode cX7_noteShot 11 = .ok (.goto 10, 3) := by decide +kernel
theorem dX7_noteShot_14 : decode cX7_noteShot 14 = .ok (.aload_n 0, 1) := by decide +kernel
theorem dX7_noteShot_15 : decode cX7_noteShot 15 = .ok (.iload_n 2, 1) := by decide +kernel
theorem dX7_noteShot_16 : decode cX7_noteShot 16 = .ok (.iconst 2, 1) := by decide +kernel
theorem dX7_noteShot_17 : decode cX7_noteShot 17 = .ok (.iadd, 1) := by decide +kernel
theorem dX7_noteShot_18 : decode cX7_noteShot 18 = .ok (.putfield 42, 3) := by decide +kernel
theorem dX7_noteShot_21 : decode cX7_noteShot 21 = .ok (.aload_n 0, 1) := by decide +kernel
theorem dX7_noteShot_22 : decode cX7_noteShot 22 = .ok (.dup, 1) := by decide +kernel
theorem dX7_noteShot_23 : decode cX7_noteShot 23 = .ok (.getfield 45, 3) := by decide +kernel
theorem dX7_noteShot_26 : decode cX7_noteShot 26 = .ok (.iconst 2, 1) := by decide +kernel
theorem dX7_noteShot_27 : decode cX7_noteShot 27 = .ok (.ior, 1) := by decide +kernel
theorem dX7_noteShot_28 : decode cX7_noteShot 28 = .ok (.putfield 45, 3) := by decide +kernel
theorem dX7_noteShot_31 : decode cX7_noteShot 31 = .ok (.return_, 1) := by decide +kernel
theorem dX7_reloadingSides_0 : decode cX7_reloadingSides 0 = .ok (.iload_n 1, 1) := by decide +kernel
theorem dX7_reloadingSides_1 : decode cX7_reloadingSides 1 = .ok (.aload_n 0, 1) := by decide +kernel
theorem dX7_reloadingSides_2 : decode cX7_reloadingSides 2 = .ok (.getfield 39, 3) := by decide +kernel
theorem dX7_reloadingSides_5 : decode cX7_reloadingSides 5 = .ok (.if_icmp .ge 7, 3) := by decide +kernel
theorem dX7_reloadingSides_8 : decode cX7_reloadingSides 8 = .ok (.iconst 1, 1) := by decide +kernel
theorem dX7_reloadingSides_9 : decode cX7_reloadingSides 9 = .ok (.goto 4, 3) := by decide +kernel
theorem dX7_reloadingSides_12 : decode cX7_reloadingSides 12 = .ok (.iconst 0, 1) := by decide +kernel
theorem dX7_reloadingSides_13 : decode cX7_reloadingSides 13 = .ok (.iload_n 1, 1) := by decide +kernel
theorem dX7_reloadingSides_14 : decode cX7_reloadingSides 14 = .ok (.aload_n 0, 1) := by decide +kernel
theorem dX7_reloadingSides_15 : decode cX7_reloadingSides 15 = .ok (.getfield 42, 3) := by decide +kernel
theorem dX7_reloadingSides_18 : decode cX7_reloadingSides 18 = .ok (.if_icmp .ge 7, 3) := by decide +kernel
theorem dX7_reloadingSides_21 : decode cX7_reloadingSides 21 = .ok (.iconst 2, 1) := by decide +kernel
theorem dX7_reloadingSides_22 : decode cX7_reloadingSides 22 = .ok (.goto 4, 3) := by decide +kernel
theorem dX7_reloadingSides_25 : decode cX7_reloadingSides 25 = .ok (.iconst 0, 1) := by decide +kernel
theorem dX7_reloadingSides_26 : decode cX7_reloadingSides 26 = .ok (.iadd, 1) := by decide +kernel
theorem dX7_reloadingSides_27 : decode cX7_reloadingSides 27 = .ok (.ireturn, 1) := by decide +kernel
theorem dX7_isReloading_0 : decode cX7_isReloading 0 = .ok (.iload_n 2, 1) := by decide +kernel
theorem dX7_isReloading_1 : decode cX7_isReloading 1 = .ok (.iload_n 1, 1) := by decide +kernel
theorem dX7_isReloading_2 : decode cX7_isReloading 2 = .ok (.ifCond .ne 10, 3) := by decide +kernel
theorem dX7_isReloading_5 : decode cX7_isReloading 5 = .ok (.aload_n 0, 1) := by decide +kernel
theorem dX7_isReloading_6 : decode cX7_isReloading 6 = .ok (.getfield 39, 3) := by decide +kernel
theorem dX7_isReloading_9 : decode cX7_isReloading 9 = .ok (.goto 7, 3) := by decide +kernel
theorem dX7_isReloading_12 : decode cX7_isReloading 12 = .ok (.aload_n 0, 1) := by decide +kernel
theorem dX7_isReloading_13 : decode cX7_isReloading 13 = .ok (.getfield 42, 3) := by decide +kernel
theorem dX7_isReloading_16 : decode cX7_isReloading 16 = .ok (.if_icmp .ge 7, 3) := by decide +kernel
theorem dX7_isReloading_19 : decode cX7_isReloading 19 = .ok (.iconst 1, 1) := by decide +kernel
theorem dX7_isReloading_20 : decode cX7_isReloading 20 = .ok (.goto 4, 3) := by decide +kernel
theorem dX7_isReloading_23 : decode cX7_isReloading 23 = .ok (.iconst 0, 1) := by decide +kernel
theorem dX7_isReloading_24 : decode cX7_isReloading 24 = .ok (.ireturn, 1) := by decide +kernel
theorem dX8_init_0 : decode cX8_init 0 = .ok (.aload_n 0, 1) := by decide +kernel
theorem dX8_init_1 : decode cX8_init 1 = .ok (.invokespecial 3, 3) := by decide +kernel
theorem dX8_init_4 : decode cX8_init 4 = .ok (.aload_n 0, 1) := by decide +kernel
theorem dX8_init_5 : decode cX8_init 5 = .ok (.new 9, 3) := by decide +kernel
theorem dX8_init_8 : decode cX8_init 8 = .ok (.dup, 1) := by decide +kernel
theorem dX8_init_9 : decode cX8_init 9 = .ok (.invokespecial 11, 3) := by decide +kernel
theorem dX8_init_12 : decode cX8_init 12 = .ok (.putfield 12, 3) := by decide +kernel
theorem dX8_init_15 : decode cX8_init 15 = .ok (.aload_n 0, 1) := by decide +kernel
theorem dX8_init_16 : decode cX8_init 16 = .ok (.new 9, 3) := by decide +kernel
theorem dX8_init_19 : decode cX8_init 19 = .ok (.dup, 1) := by decide +kernel
theorem dX8_init_20 : decode cX8_init 20 = .ok (.invokespecial 11, 3) := by decide +kernel
theorem dX8_init_23 : decode cX8_init 23 = .ok (.putfield 18, 3) := by decide +kernel
theorem dX8_init_26 : decode cX8_init 26 = .ok (.aload_n 0, 1) := by decide +kernel
theorem dX8_init_27 : decode cX8_init 27 = .ok (.new 9, 3) := by decide +kernel
theorem dX8_init_30 : decode cX8_init 30 = .ok (.dup, 1) := by decide +kernel
theorem dX8_init_31 : decode cX8_init 31 = .ok (.invokespecial 11, 3) := by decide +kernel
theorem dX8_init_34 : decode cX8_init 34 = .ok (.putfield 21, 3) := by decide +kernel
theorem dX8_init_37 : decode cX8_init 37 = .ok (.return_, 1) := by decide +kernel
theorem dX8_copyFrom_0 : decode cX8_copyFrom 0 = .ok (.aload_n 0, 1) := by decide +kernel
theorem dX8_copyFrom_1 : decode cX8_copyFrom 1 = .ok (.getfield 12, 3) := by decide +kernel
theorem dX8_copyFrom_4 : decode cX8_copyFrom 4 = .ok (.aload_n 1, 1) := by decide +kernel
theorem dX8_copyFrom_5 : decode cX8_copyFrom 5 = .ok (.getfield 12, 3) := by decide +kernel
theorem dX8_copyFrom_8 : decode cX8_copyFrom 8 = .ok (.invokevirtual 24, 3) := by decide +kernel
theorem dX8_copyFrom_11 : decode cX8_copyFrom 11 = .ok (.aload_n 0, 1) := by decide +kernel
theorem dX8_copyFrom_12 : decode cX8_copyFrom 12 = .ok (.getfield 18, 3) := by decide +kernel
theorem dX8_copyFrom_15 : decode cX8_copyFrom 15 = .ok (.aload_n 1, 1) := by decide +kernel
theorem dX8_copyFrom_16 : decode cX8_copyFrom 16 = .ok (.getfield 18, 3) := by decide +kernel
theorem dX8_copyFrom_19 : decode cX8_copyFrom 19 = .ok (.invokevirtual 24, 3) := by decide +kernel
theorem dX8_copyFrom_22 : decode cX8_copyFrom 22 = .ok (.aload_n 0, 1) := by decide +kernel
theorem dX8_copyFrom_23 : decode cX8_copyFrom 23 = .ok (.getfield 21, 3) := by decide +kernel
theorem dX8_copyFrom_26 : decode cX8_copyFrom 26 = .ok (.aload_n 1, 1) := by decide +kernel
theorem dX8_copyFrom_27 : decode cX8_copyFrom 27 = .ok (.getfield 21, 3) := by decide +kernel
theorem dX8_copyFrom_30 : decode cX8_copyFrom 30 = .ok (.invokevirtual 24, 3) := by decide +kernel
theorem dX8_copyFrom_33 : decode cX8_copyFrom 33 = .ok (.aload_n 0, 1) := by decide +kernel
theorem dX8_copyFrom_34 : decode cX8_copyFrom 34 = .ok (.aload_n 1, 1) := by decide +kernel
theorem dX8_copyFrom_35 : decode cX8_copyFrom 35 = .ok (.getfield 28, 3) := by decide +kernel
theorem dX8_copyFrom_38 : decode cX8_copyFrom 38 = .ok (.putfield 28, 3) := by decide +kernel
theorem dX8_copyFrom_41 : decode cX8_copyFrom 41 = .ok (.return_, 1) := by decide +kernel
theorem dX8_fillSlot_0 : decode cX8_fillSlot 0 = .ok (.iload_n 1, 1) := by decide +kernel
theorem dX8_fillSlot_1 : decode cX8_fillSlot 1 = .ok (.ifCond .lt 8, 3) := by decide +kernel
theorem dX8_fillSlot_4 : decode cX8_fillSlot 4 = .ok (.iload_n 1, 1) := by decide +kernel
theorem dX8_fillSlot_5 : decode cX8_fillSlot 5 = .ok (.iconst 1, 1) := by decide +kernel
theorem dX8_fillSlot_6 : decode cX8_fillSlot 6 = .ok (.if_icmp .le 5, 3) := by decide +kernel
theorem dX8_fillSlot_9 : decode cX8_fillSlot 9 = .ok (.iconst (-1), 1) := by decide +kernel
theorem dX8_fillSlot_10 : decode cX8_fillSlot 10 = .ok (.ireturn, 1) := by decide +kernel
theorem dX8_fillSlot_11 : decode cX8_fillSlot 11 = .ok (.aload_n 0, 1) := by decide +kernel
theorem dX8_fillSlot_12 : decode cX8_fillSlot 12 = .ok (.iload_n 1, 1) := by decide +kernel
theorem dX8_fillSlot_13 : decode cX8_fillSlot 13 = .ok (.invokevirtual 32, 3) := by decide +kernel
theorem dX8_fillSlot_16 : decode cX8_fillSlot 16 = .ok (.aload_n 0, 1) := by decide +kernel
theorem dX8_fillSlot_17 : decode cX8_fillSlot 17 = .ok (.getfield 12, 3) := by decide +kernel
theorem dX8_fillSlot_20 : decode cX8_fillSlot 20 = .ok (.invokevirtual 24, 3) := by decide +kernel
theorem dX8_fillSlot_23 : decode cX8_fillSlot 23 = .ok (.aload_n 0, 1) := by decide +kernel
theorem dX8_fillSlot_24 : decode cX8_fillSlot 24 = .ok (.dup, 1) := by decide +kernel
theorem dX8_fillSlot_25 : decode cX8_fillSlot 25 = .ok (.getfield 28, 3) := by decide +kernel
theorem dX8_fillSlot_28 : decode cX8_fillSlot 28 = .ok (.iconst 1, 1) := by decide +kernel
theorem dX8_fillSlot_29 : decode cX8_fillSlot 29 = .ok (.iload_n 1, 1) := by decide +kernel
theorem dX8_fillSlot_30 : decode cX8_fillSlot 30 = .ok (.ishl, 1) := by decide +kernel
theorem dX8_fillSlot_31 : decode cX8_fillSlot 31 = .ok (.ior, 1) := by decide +kernel
theorem dX8_fillSlot_32 : decode cX8_fillSlot 32 = .ok (.putfield 28, 3) := by decide +kernel
theorem dX8_fillSlot_35 : decode cX8_fillSlot 35 = .ok (.aload_n 0, 1) := by decide +kernel
theorem dX8_fillSlot_36 : decode cX8_fillSlot 36 = .ok (.getfield 12, 3) := by decide +kernel
theorem dX8_fillSlot_39 : decode cX8_fillSlot 39 = .ok (.invokevirtual 36, 3) := by decide +kernel
theorem dX8_fillSlot_42 : decode cX8_fillSlot 42 = .ok (.ireturn, 1) := by decide +kernel
theorem dX8_resumeSlot_0 : decode cX8_resumeSlot 0 = .ok (.iload_n 1, 1) := by decide +kernel
theorem dX8_resumeSlot_1 : decode cX8_resumeSlot 1 = .ok (.ifCond .lt 8, 3) := by decide +kernel
theorem dX8_resumeSlot_4 : decode cX8_resumeSlot 4 = .ok (.iload_n 1, 1) := by decide +kernel
theorem dX8_resumeSlot_5 : decode cX8_resumeSlot 5 = .ok (.iconst 1, 1) := by decide +kernel
theorem dX8_resumeSlot_6 : decode cX8_resumeSlot 6 = .ok (.if_icmp .le 5, 3) := by decide +kernel
theorem dX8_resumeSlot_9 : decode cX8_resumeSlot 9 = .ok (.iconst (-1), 1) := by decide +kernel
theorem dX8_resumeSlot_10 : decode cX8_resumeSlot 10 = .ok (.ireturn, 1) := by decide +kernel
theorem dX8_resumeSlot_11 : decode cX8_resumeSlot 11 = .ok (.aload_n 0, 1) := by decide +kernel
theorem dX8_resumeSlot_12 : decode cX8_resumeSlot 12 = .ok (.getfield 28, 3) := by decide +kernel
theorem dX8_resumeSlot_15 : decode cX8_resumeSlot 15 = .ok (.iload_n 1, 1) := by decide +kernel
theorem dX8_resumeSlot_16 : decode cX8_resumeSlot 16 = .ok (.ishr, 1) := by decide +kernel
theorem dX8_resumeSlot_17 : decode cX8_resumeSlot 17 = .ok (.iconst 1, 1) := by decide +kernel
theorem dX8_resumeSlot_18 : decode cX8_resumeSlot 18 = .ok (.iand, 1) := by decide +kernel
theorem dX8_resumeSlot_19 : decode cX8_resumeSlot 19 = .ok (.ifCond .ne 6, 3) := by decide +kernel
theorem dX8_resumeSlot_22 : decode cX8_resumeSlot 22 = .ok (.bipush (-2), 2) := by decide +kernel
theorem dX8_resumeSlot_24 : decode cX8_resumeSlot 24 = .ok (.ireturn, 1) := by decide +kernel
theorem dX8_resumeSlot_25 : decode cX8_resumeSlot 25 = .ok (.aload_n 0, 1) := by decide +kernel
theorem dX8_resumeSlot_26 : decode cX8_resumeSlot 26 = .ok (.getfield 12, 3) := by decide +kernel
theorem dX8_resumeSlot_29 : decode cX8_resumeSlot 29 = .ok (.aload_n 0, 1) := by decide +kernel
theorem dX8_resumeSlot_30 : decode cX8_resumeSlot 30 = .ok (.iload_n 1, 1) := by decide +kernel
theorem dX8_resumeSlot_31 : decode cX8_resumeSlot 31 = .ok (.invokevirtual 32, 3) := by decide +kernel
theorem dX8_resumeSlot_34 : decode cX8_resumeSlot 34 = .ok (.invokevirtual 24, 3) := by decide +kernel
theorem dX8_resumeSlot_37 : decode cX8_resumeSlot 37 = .ok (.aload_n 0, 1) := by decide +kernel
theorem dX8_resumeSlot_38 : decode cX8_resumeSlot 38 = .ok (.getfield 12, 3) := by decide +kernel
theorem dX8_resumeSlot_41 : decode cX8_resumeSlot 41 = .ok (.invokevirtual 36, 3) := by decide +kernel
theorem dX8_resumeSlot_44 : decode cX8_resumeSlot 44 = .ok (.ireturn, 1) := by decide +kernel
theorem dX8_slotOf_0 : decode cX8_slotOf 0 = .ok (.iload_n 1, 1) := by decide +kernel
theorem dX8_slotOf_1 : decode cX8_slotOf 1 = .ok (.ifCond .ne 10, 3) := by decide +kernel
theorem dX8_slotOf_4 : decode cX8_slotOf 4 = .ok (.aload_n 0, 1) := by decide +kernel
theorem dX8_slotOf_5 : decode cX8_slotOf 5 = .ok (.getfield 18, 3) := by decide +kernel
theorem dX8_slotOf_8 : decode cX8_slotOf 8 = .ok (.goto 7, 3) := by decide +kernel
theorem dX8_slotOf_11 : decode cX8_slotOf 11 = .ok (.aload_n 0, 1) := by decide +kernel
theorem dX8_slotOf_12 : decode cX8_slotOf 12 = .ok (.getfield 21, 3) := by decide +kernel
theorem dX8_slotOf_15 : decode cX8_slotOf 15 = .ok (.areturn, 1) := by decide +kernel
theorem dX9_init_0 : decode cX9_init 0 = .ok (.aload_n 0, 1) := by decide +kernel
theorem dX9_init_1 : decode cX9_init 1 = .ok (.invokespecial 1, 3) := by decide +kernel
theorem dX9_init_4 : decode cX9_init 4 = .ok (.aload_n 0, 1) := by decide +kernel
theorem dX9_init_5 : decode cX9_init 5 = .ok (.new 7, 3) := by decide +kernel
theorem dX9_init_8 : decode cX9_init 8 = .ok (.dup, 1) := by decide +kernel
theorem dX9_init_9 : decode cX9_init 9 = .ok (.invokespecial 9, 3) := by decide +kernel
theorem dX9_init_12 : decode cX9_init 12 = .ok (.putfield 10, 3) := by decide +kernel
theorem dX9_init_15 : decode cX9_init 15 = .ok (.aload_n 0, 1) := by decide +kernel
theorem dX9_init_16 : decode cX9_init 16 = .ok (.new 16, 3) := by decide +kernel
theorem dX9_init_19 : decode cX9_init 19 = .ok (.dup, 1) := by decide +kernel
theorem dX9_init_20 : decode cX9_init 20 = .ok (.invokespecial 18, 3) := by decide +kernel
theorem dX9_init_23 : decode cX9_init 23 = .ok (.putfield 19, 3) := by decide +kernel
theorem dX9_init_26 : decode cX9_init 26 = .ok (.aload_n 0, 1) := by decide +kernel
theorem dX9_init_27 : decode cX9_init 27 = .ok (.new 23, 3) := by decide +kernel
theorem dX9_init_30 : decode cX9_init 30 = .ok (.dup, 1) := by decide +kernel
theorem dX9_init_31 : decode cX9_init 31 = .ok (.invokespecial 25, 3) := by decide +kernel
theorem dX9_init_34 : decode cX9_init 34 = .ok (.putfield 26, 3) := by decide +kernel
theorem dX9_init_37 : decode cX9_init 37 = .ok (.aload_n 0, 1) := by decide +kernel
theorem dX9_init_38 : decode cX9_init 38 = .ok (.new 30, 3) := by decide +kernel
theorem dX9_init_41 : decode cX9_init 41 = .ok (.dup, 1) := by decide +kernel
theorem dX9_init_42 : decode cX9_init 42 = .ok (.invokespecial 32, 3) := by decide +kernel
theorem dX9_init_45 : decode cX9_init 45 = .ok (.putfield 33, 3) := by decide +kernel
theorem dX9_init_48 : decode cX9_init 48 = .ok (.return_, 1) := by decide +kernel
theorem dX9_setIsland_0 : decode cX9_setIsland 0 = .ok (.aload_n 0, 1) := by decide +kernel
theorem dX9_setIsland_1 : decode cX9_setIsland 1 = .ok (.getfield 19, 3) := by decide +kernel
theorem dX9_setIsland_4 : decode cX9_setIsland 4 = .ok (.aload_n 0, 1) := by decide +kernel
theorem dX9_setIsland_5 : decode cX9_setIsland 5 = .ok (.getfield 10, 3) := by decide +kernel
theorem dX9_setIsland_8 : decode cX9_setIsland 8 = .ok (.invokevirtual 37, 3) := by decide +kernel
theorem dX9_setIsland_11 : decode cX9_setIsland 11 = .ok (.aload_n 0, 1) := by decide +kernel
theorem dX9_setIsland_12 : decode cX9_setIsland 12 = .ok (.getfield 19, 3) := by decide +kernel
theorem dX9_setIsland_15 : decode cX9_setIsland 15 = .ok (.aload_n 0, 1) := by decide +kernel
theorem dX9_setIsland_16 : decode cX9_setIsland 16 = .ok (.getfield 10, 3) := by decide +kernel
theorem dX9_setIsland_19 : decode cX9_setIsland 19 = .ok (.getfield 41, 3) := by decide +kernel
theorem dX9_setIsland_22 : decode cX9_setIsland 22 = .ok (.iload_n 1, 1) := by decide +kernel
theorem dX9_setIsland_23 : decode cX9_setIsland 23 = .ok (.iload_n 2, 1) := by decide +kernel
theorem dX9_setIsland_24 : decode cX9_setIsland 24 = .ok (.invokevirtual 45, 3) := by decide +kernel
theorem dX9_setIsland_27 : decode cX9_setIsland 27 = .ok (.invokevirtual 51, 3) := by decide +kernel
theorem dX9_setIsland_30 : decode cX9_setIsland 30 = .ok (.ireturn, 1) := by decide +kernel
theorem dX9_addShip_0 : decode cX9_addShip 0 = .ok (.aload_n 0, 1) := by decide +kernel
theorem dX9_addShip_1 : decode cX9_addShip 1 = .ok (.getfield 19, 3) := by decide +kernel
theorem dX9_addShip_4 : decode cX9_addShip 4 = .ok (.aload_n 0, 1) := by decide +kernel
theorem dX9_addShip_5 : decode cX9_addShip 5 = .ok (.getfield 10, 3) := by decide +kernel
theorem dX9_addShip_8 : decode cX9_addShip 8 = .ok (.invokevirtual 37, 3) := by decide +kernel
theorem dX9_addShip_11 : decode cX9_addShip 11 = .ok (.aload_n 0, 1) := by decide +kernel
theorem dX9_addShip_12 : decode cX9_addShip 12 = .ok (.getfield 19, 3) := by decide +kernel
theorem dX9_addShip_15 : decode cX9_addShip 15 = .ok (.aload_n 0, 1) := by decide +kernel
theorem dX9_addShip_16 : decode cX9_addShip 16 = .ok (.getfield 10, 3) := by decide +kernel
theorem dX9_addShip_19 : decode cX9_addShip 19 = .ok (.getfield 41, 3) := by decide +kernel
theorem dX9_addShip_22 : decode cX9_addShip 22 = .ok (.iload_n 1, 1) := by decide +kernel
theorem dX9_addShip_23 : decode cX9_addShip 23 = .ok (.iload_n 2, 1) := by decide +kernel
theorem dX9_addShip_24 : decode cX9_addShip 24 = .ok (.iload_n 3, 1) := by decide +kernel
theorem dX9_addShip_25 : decode cX9_addShip 25 = .ok (.iload 4, 2) := by decide +kernel
theorem dX9_addShip_27 : decode cX9_addShip 27 = .ok (.iload 5, 2) := by decide +kernel
theorem dX9_addShip_29 : decode cX9_addShip 29 = .ok (.iload 6, 2) := by decide +kernel
theorem dX9_addShip_31 : decode cX9_addShip 31 = .ok (.invokevirtual 55, 3) := by decide +kernel
theorem dX9_addShip_34 : decode cX9_addShip 34 = .ok (.invokevirtual 51, 3) := by decide +kernel
theorem dX9_addShip_37 : decode cX9_addShip 37 = .ok (.ireturn, 1) := by decide +kernel
theorem dX9_tell_0 : decode cX9_tell 0 = .ok (.aload_n 0, 1) := by decide +kernel
theorem dX9_tell_1 : decode cX9_tell 1 = .ok (.getfield 19, 3) := by decide +kernel
theorem dX9_tell_4 : decode cX9_tell 4 = .ok (.aload_n 0, 1) := by decide +kernel
theorem dX9_tell_5 : decode cX9_tell 5 = .ok (.getfield 10, 3) := by decide +kernel
theorem dX9_tell_8 : decode cX9_tell 8 = .ok (.invokevirtual 37, 3) := by decide +kernel
theorem dX9_tell_11 : decode cX9_tell 11 = .ok (.aload_n 0, 1) := by decide +kernel
theorem dX9_tell_12 : decode cX9_tell 12 = .ok (.getfield 19, 3) := by decide +kernel
theorem dX9_tell_15 : decode cX9_tell 15 = .ok (.aload_n 0, 1) := by decide +kernel
theorem dX9_tell_16 : decode cX9_tell 16 = .ok (.getfield 10, 3) := by decide +kernel
theorem dX9_tell_19 : decode cX9_tell 19 = .ok (.getfield 41, 3) := by decide +kernel
theorem dX9_tell_22 : decode cX9_tell 22 = .ok (.iload_n 1, 1) := by decide +kernel
theorem dX9_tell_23 : decode cX9_tell 23 = .ok (.iload_n 2, 1) := by decide +kernel
theorem dX9_tell_24 : decode cX9_tell 24 = .ok (.invokevirtual 62, 3) := by decide +kernel
theorem dX9_tell_27 : decode cX9_tell 27 = .ok (.invokevirtual 51, 3) := by decide +kernel
theorem dX9_tell_30 : decode cX9_tell 30 = .ok (.ireturn, 1) := by decide +kernel
theorem dX9_sail_0 : decode cX9_sail 0 = .ok (.aload_n 0, 1) := by decide +kernel
theorem dX9_sail_1 : decode cX9_sail 1 = .ok (.getfield 19, 3) := by decide +kernel
theorem dX9_sail_4 : decode cX9_sail 4 = .ok (.aload_n 0, 1) := by decide +kernel
theorem dX9_sail_5 : decode cX9_sail 5 = .ok (.getfield 10, 3) := by decide +kernel
theorem dX9_sail_8 : decode cX9_sail 8 = .ok (.invokevirtual 37, 3) := by decide +kernel
theorem dX9_sail_11 : decode cX9_sail 11 = .ok (.aload_n 0, 1) := by decide +kernel
theorem dX9_sail_12 : decode cX9_sail 12 = .ok (.getfield 19, 3) := by decide +kernel
theorem dX9_sail_15 : decode cX9_sail 15 = .ok (.aload_n 0, 1) := by decide +kernel
theorem dX9_sail_16 : decode cX9_sail 16 = .ok (.getfield 10, 3) := by decide +kernel
theorem dX9_sail_19 : decode cX9_sail 19 = .ok (.getfield 41, 3) := by decide +kernel
theorem dX9_sail_22 : decode cX9_sail 22 = .ok (.iload_n 1, 1) := by decide +kernel
theorem dX9_sail_23 : decode cX9_sail 23 = .ok (.iload_n 2, 1) := by decide +kernel
theorem dX9_sail_24 : decode cX9_sail 24 = .ok (.invokevirtual 65, 3) := by decide +kernel
theorem dX9_sail_27 : decode cX9_sail 27 = .ok (.invokevirtual 51, 3) := by decide +kernel
theorem dX9_sail_30 : decode cX9_sail 30 = .ok (.ireturn, 1) := by decide +kernel
theorem dX9_fire_0 : decode cX9_fire 0 = .ok (.aload_n 0, 1) := by decide +kernel
theorem dX9_fire_1 : decode cX9_fire 1 = .ok (.getfield 19, 3) := by decide +kernel
theorem dX9_fire_4 : decode cX9_fire 4 = .ok (.aload_n 0, 1) := by decide +kernel
theorem dX9_fire_5 : decode cX9_fire 5 = .ok (.getfield 10, 3) := by decide +kernel
theorem dX9_fire_8 : decode cX9_fire 8 = .ok (.invokevirtual 37, 3) := by decide +kernel
theorem dX9_fire_11 : decode cX9_fire 11 = .ok (.aload_n 0, 1) := by decide +kernel
theorem dX9_fire_12 : decode cX9_fire 12 = .ok (.getfield 19, 3) := by decide +kernel
theorem dX9_fire_15 : decode cX9_fire 15 = .ok (.aload_n 0, 1) := by decide +kernel
theorem dX9_fire_16 : decode cX9_fire 16 = .ok (.getfield 10, 3) := by decide +kernel
theorem dX9_fire_19 : decode cX9_fire 19 = .ok (.getfield 41, 3) := by decide +kernel
theorem dX9_fire_22 : decode cX9_fire 22 = .ok (.iload_n 1, 1) := by decide +kernel
theorem dX9_fire_23 : decode cX9_fire 23 = .ok (.iload_n 2, 1) := by decide +kernel
theorem dX9_fire_24 : decode cX9_fire 24 = .ok (.iload_n 3, 1) := by decide +kernel
theorem dX9_fire_25 : decode cX9_fire 25 = .ok (.invokevirtual 68, 3) := by decide +kernel
theorem dX9_fire_28 : decode cX9_fire 28 = .ok (.invokevirtual 51, 3) := by decide +kernel
theorem dX9_fire_31 : decode cX9_fire 31 = .ok (.ireturn, 1) := by decide +kernel
theorem dX9_grapple_0 : decode cX9_grapple 0 = .ok (.aload_n 0, 1) := by decide +kernel
theorem dX9_grapple_1 : decode cX9_grapple 1 = .ok (.getfield 19, 3) := by decide +kernel
theorem dX9_grapple_4 : decode cX9_grapple 4 = .ok (.aload_n 0, 1) := by decide +kernel
theorem dX9_grapple_5 : decode cX9_grapple 5 = .ok (.getfield 10, 3) := by decide +kernel
theorem dX9_grapple_8 : decode cX9_grapple 8 = .ok (.invokevirtual 37, 3) := by decide +kernel
theorem dX9_grapple_11 : decode cX9_grapple 11 = .ok (.aload_n 0, 1) := by decide +kernel
theorem dX9_grapple_12 : decode cX9_grapple 12 = .ok (.getfield 19, 3) := by decide +kernel
theorem dX9_grapple_15 : decode cX9_grapple 15 = .ok (.aload_n 0, 1) := by decide +kernel
theorem dX9_grapple_16 : decode cX9_grapple 16 = .ok (.getfield 10, 3) := by decide +kernel
theorem dX9_grapple_19 : decode cX9_grapple 19 = .ok (.getfield 41, 3) := by decide +kernel
theorem dX9_grapple_22 : decode cX9_grapple 22 = .ok (.iload_n 1, 1) := by decide +kernel
theorem dX9_grapple_23 : decode cX9_grapple 23 = .ok (.iload_n 2, 1) := by decide +kernel
theorem dX9_grapple_24 : decode cX9_grapple 24 = .ok (.invokevirtual 72, 3) := by decide +kernel
theorem dX9_grapple_27 : decode cX9_grapple 27 = .ok (.invokevirtual 51, 3) := by decide +kernel
theorem dX9_grapple_30 : decode cX9_grapple 30 = .ok (.ireturn, 1) := by decide +kernel
theorem dX9_cut_0 : decode cX9_cut 0 = .ok (.aload_n 0, 1) := by decide +kernel
theorem dX9_cut_1 : decode cX9_cut 1 = .ok (.getfield 19, 3) := by decide +kernel
theorem dX9_cut_4 : decode cX9_cut 4 = .ok (.aload_n 0, 1) := by decide +kernel
theorem dX9_cut_5 : decode cX9_cut 5 = .ok (.getfield 10, 3) := by decide +kernel
theorem dX9_cut_8 : decode cX9_cut 8 = .ok (.invokevirtual 37, 3) := by decide +kernel
theorem dX9_cut_11 : decode cX9_cut 11 = .ok (.aload_n 0, 1) := by decide +kernel
theorem dX9_cut_12 : decode cX9_cut 12 = .ok (.getfield 19, 3) := by decide +kernel
theorem dX9_cut_15 : decode cX9_cut 15 = .ok (.aload_n 0, 1) := by decide +kernel
theorem dX9_cut_16 : decode cX9_cut 16 = .ok (.getfield 10, 3) := by decide +kernel
theorem dX9_cut_19 : decode cX9_cut 19 = .ok (.getfield 41, 3) := by decide +kernel
theorem dX9_cut_22 : decode cX9_cut 22 = .ok (.iload_n 1, 1) := by decide +kernel
theorem dX9_cut_23 : decode cX9_cut 23 = .ok (.invokevirtual 75, 3) := by decide +kernel
theorem dX9_cut_26 : decode cX9_cut 26 = .ok (.invokevirtual 51, 3) := by decide +kernel
theorem dX9_cut_29 : decode cX9_cut 29 = .ok (.ireturn, 1) := by decide +kernel
theorem dX9_repair_0 : decode cX9_repair 0 = .ok (.aload_n 0, 1) := by decide +kernel
theorem dX9_repair_1 : decode cX9_repair 1 = .ok (.getfield 19, 3) := by decide +kernel
theorem dX9_repair_4 : decode cX9_repair 4 = .ok (.aload_n 0, 1) := by decide +kernel
theorem dX9_repair_5 : decode cX9_repair 5 = .ok (.getfield 10, 3) := by decide +kernel
theorem dX9_repair_8 : decode cX9_repair 8 = .ok (.invokevirtual 37, 3) := by decide +kernel
theorem dX9_repair_11 : decode cX9_repair 11 = .ok (.aload_n 0, 1) := by decide +kernel
theorem dX9_repair_12 : decode cX9_repair 12 = .ok (.getfield 19, 3) := by decide +kernel
theorem dX9_repair_15 : decode cX9_repair 15 = .ok (.aload_n 0, 1) := by decide +kernel
theorem dX9_repair_16 : decode cX9_repair 16 = .ok (.getfield 10, 3) := by decide +kernel
theorem dX9_repair_19 : decode cX9_repair 19 = .ok (.getfield 41, 3) := by decide +kernel
theorem dX9_repair_22 : decode cX9_repair 22 = .ok (.iload_n 1, 1) := by decide +kernel
theorem dX9_repair_23 : decode cX9_repair 23 = .ok (.iload_n 2, 1) := by decide +kernel
theorem dX9_repair_24 : decode cX9_repair 24 = .ok (.invokevirtual 78, 3) := by decide +kernel
theorem dX9_repair_27 : decode cX9_repair 27 = .ok (.invokevirtual 51, 3) := by decide +kernel
theorem dX9_repair_30 : decode cX9_repair 30 = .ok (.ireturn, 1) := by decide +kernel
theorem dX9_end_0 : decode cX9_end 0 = .ok (.aload_n 0, 1) := by decide +kernel
theorem dX9_end_1 : decode cX9_end 1 = .ok (.getfield 19, 3) := by decide +kernel
theorem dX9_end_4 : decode cX9_end 4 = .ok (.aload_n 0, 1) := by decide +kernel
theorem dX9_end_5 : decode cX9_end 5 = .ok (.getfield 10, 3) := by decide +kernel
theorem dX9_end_8 : decode cX9_end 8 = .ok (.invokevirtual 37, 3) := by decide +kernel
theorem dX9_end_11 : decode cX9_end 11 = .ok (.aload_n 0, 1) := by decide +kernel
theorem dX9_end_12 : decode cX9_end 12 = .ok (.getfield 19, 3) := by decide +kernel
theorem dX9_end_15 : decode cX9_end 15 = .ok (.aload_n 0, 1) := by decide +kernel
theorem dX9_end_16 : decode cX9_end 16 = .ok (.getfield 10, 3) := by decide +kernel
theorem dX9_end_19 : decode cX9_end 19 = .ok (.getfield 41, 3) := by decide +kernel
theorem dX9_end_22 : decode cX9_end 22 = .ok (.invokevirtual 81, 3) := by decide +kernel
theorem dX9_end_25 : decode cX9_end 25 = .ok (.invokevirtual 51, 3) := by decide +kernel
theorem dX9_end_28 : decode cX9_end 28 = .ok (.ireturn, 1) := by decide +kernel
theorem dX9_take_0 : decode cX9_take 0 = .ok (.aload_n 0, 1) := by decide +kernel
theorem dX9_take_1 : decode cX9_take 1 = .ok (.getfield 19, 3) := by decide +kernel
theorem dX9_take_4 : decode cX9_take 4 = .ok (.aload_n 0, 1) := by decide +kernel
theorem dX9_take_5 : decode cX9_take 5 = .ok (.getfield 10, 3) := by decide +kernel
theorem dX9_take_8 : decode cX9_take 8 = .ok (.invokevirtual 37, 3) := by decide +kernel
theorem dX9_take_11 : decode cX9_take 11 = .ok (.aload_n 0, 1) := by decide +kernel
theorem dX9_take_12 : decode cX9_take 12 = .ok (.getfield 19, 3) := by decide +kernel
theorem dX9_take_15 : decode cX9_take 15 = .ok (.aload_n 0, 1) := by decide +kernel
theorem dX9_take_16 : decode cX9_take 16 = .ok (.getfield 10, 3) := by decide +kernel
theorem dX9_take_19 : decode cX9_take 19 = .ok (.iload_n 1, 1) := by decide +kernel
theorem dX9_take_20 : decode cX9_take 20 = .ok (.invokevirtual 85, 3) := by decide +kernel
theorem dX9_take_23 : decode cX9_take 23 = .ok (.invokevirtual 51, 3) := by decide +kernel
theorem dX9_take_26 : decode cX9_take 26 = .ok (.ireturn, 1) := by decide +kernel
theorem dX9_restore_0 : decode cX9_restore 0 = .ok (.aload_n 0, 1) := by decide +kernel
theorem dX9_restore_1 : decode cX9_restore 1 = .ok (.getfield 19, 3) := by decide +kernel
theorem dX9_restore_4 : decode cX9_restore 4 = .ok (.aload_n 0, 1) := by decide +kernel
theorem dX9_restore_5 : decode cX9_restore 5 = .ok (.getfield 10, 3) := by decide +kernel
theorem dX9_restore_8 : decode cX9_restore 8 = .ok (.invokevirtual 37, 3) := by decide +kernel
theorem dX9_restore_11 : decode cX9_restore 11 = .ok (.aload_n 0, 1) := by decide +kernel
theorem dX9_restore_12 : decode cX9_restore 12 = .ok (.getfield 19, 3) := by decide +kernel
theorem dX9_restore_15 : decode cX9_restore 15 = .ok (.aload_n 0, 1) := by decide +kernel
theorem dX9_restore_16 : decode cX9_restore 16 = .ok (.getfield 10, 3) := by decide +kernel
theorem dX9_restore_19 : decode cX9_restore 19 = .ok (.iload_n 1, 1) := by decide +kernel
theorem dX9_restore_20 : decode cX9_restore 20 = .ok (.invokevirtual 88, 3) := by decide +kernel
theorem dX9_restore_23 : decode cX9_restore 23 = .ok (.invokevirtual 51, 3) := by decide +kernel
theorem dX9_restore_26 : decode cX9_restore 26 = .ok (.ireturn, 1) := by decide +kernel
theorem dX9_undo_0 : decode cX9_undo 0 = .ok (.aload_n 0, 1) := by decide +kernel
theorem dX9_undo_1 : decode cX9_undo 1 = .ok (.getfield 19, 3) := by decide +kernel
theorem dX9_undo_4 : decode cX9_undo 4 = .ok (.aload_n 0, 1) := by decide +kernel
theorem dX9_undo_5 : decode cX9_undo 5 = .ok (.getfield 10, 3) := by decide +kernel
theorem dX9_undo_8 : decode cX9_undo 8 = .ok (.invokevirtual 91, 3) := by decide +kernel
theorem dX9_undo_11 : decode cX9_undo 11 = .ok (.ireturn, 1) := by decide +kernel
theorem dX9_count_0 : decode cX9_count 0 = .ok (.iload_n 1, 1) := by decide +kernel
theorem dX9_count_1 : decode cX9_count 1 = .ok (.tableswitch 54 9 11 #[27, 38, 46], 27) := by decide +kernel
theorem dX9_count_28 : decode cX9_count 28 = .ok (.aload_n 0, 1) := by decide +kernel
theorem dX9_count_29 : decode cX9_count 29 = .ok (.getfield 10, 3) := by decide +kernel
theorem dX9_count_32 : decode cX9_count 32 = .ok (.getfield 118, 3) := by decide +kernel
theorem dX9_count_35 : decode cX9_count 35 = .ok (.invokestatic 122, 3) := by decide +kernel
theorem dX9_count_38 : decode cX9_count 38 = .ok (.ireturn, 1) := by decide +kernel
theorem dX9_count_39 : decode cX9_count 39 = .ok (.aload_n 0, 1) := by decide +kernel
theorem dX9_count_40 : decode cX9_count 40 = .ok (.getfield 19, 3) := by decide +kernel
theorem dX9_count_43 : decode cX9_count 43 = .ok (.invokevirtual 127, 3) := by decide +kernel
theorem dX9_count_46 : decode cX9_count 46 = .ok (.ireturn, 1) := by decide +kernel
theorem dX9_count_47 : decode cX9_count 47 = .ok (.aload_n 0, 1) := by decide +kernel
theorem dX9_count_48 : decode cX9_count 48 = .ok (.getfield 26, 3) := by decide +kernel
theorem dX9_count_51 : decode cX9_count 51 = .ok (.invokevirtual 130, 3) := by decide +kernel
theorem dX9_count_54 : decode cX9_count 54 = .ok (.ireturn, 1) := by decide +kernel
theorem dX9_count_55 : decode cX9_count 55 = .ok (.aload_n 0, 1) := by decide +kernel
theorem dX9_count_56 : decode cX9_count 56 = .ok (.getfield 10, 3) := by decide +kernel
theorem dX9_count_59 : decode cX9_count 59 = .ok (.getfield 41, 3) := by decide +kernel
theorem dX9_count_62 : decode cX9_count 62 = .ok (.iload_n 1, 1) := by decide +kernel
theorem dX9_count_63 : decode cX9_count 63 = .ok (.invokevirtual 133, 3) := by decide +kernel
theorem dX9_count_66 : decode cX9_count 66 = .ok (.ireturn, 1) := by decide +kernel
theorem dX9_captain_0 : decode cX9_captain 0 = .ok (.iload_n 1, 1) := by decide +kernel
theorem dX9_captain_1 : decode cX9_captain 1 = .ok (.invokestatic 136, 3) := by decide +kernel
theorem dX9_captain_4 : decode cX9_captain 4 = .ok (.ifCond .eq 18, 3) := by decide +kernel
theorem dX9_captain_7 : decode cX9_captain 7 = .ok (.aload_n 0, 1) := by decide +kernel
theorem dX9_captain_8 : decode cX9_captain 8 = .ok (.getfield 10, 3) := by decide +kernel
theorem dX9_captain_11 : decode cX9_captain 11 = .ok (.getfield 41, 3) := by decide +kernel
theorem dX9_captain_14 : decode cX9_captain 14 = .ok (.iload_n 1, 1) := by decide +kernel
theorem dX9_captain_15 : decode cX9_captain 15 = .ok (.iload_n 2, 1) := by decide +kernel
theorem dX9_captain_16 : decode cX9_captain 16 = .ok (.invokevirtual 142, 3) := by decide +kernel
theorem dX9_captain_19 : decode cX9_captain 19 = .ok (.goto 4, 3) := by decide +kernel
theorem dX9_captain_22 : decode cX9_captain 22 = .ok (.iconst (-1), 1) := by decide +kernel
theorem dX9_captain_23 : decode cX9_captain 23 = .ok (.ireturn, 1) := by decide +kernel
theorem dX9_ship_0 : decode cX9_ship 0 = .ok (.aload_n 0, 1) := by decide +kernel
theorem dX9_ship_1 : decode cX9_ship 1 = .ok (.getfield 10, 3) := by decide +kernel
theorem dX9_ship_4 : decode cX9_ship 4 = .ok (.getfield 41, 3) := by decide +kernel
theorem dX9_ship_7 : decode cX9_ship 7 = .ok (.iload_n 1, 1) := by decide +kernel
theorem dX9_ship_8 : decode cX9_ship 8 = .ok (.invokevirtual 145, 3) := by decide +kernel
theorem dX9_ship_11 : decode cX9_ship 11 = .ok (.astore_n 3, 1) := by decide +kernel
theorem dX9_ship_12 : decode cX9_ship 12 = .ok (.aload_n 3, 1) := by decide +kernel
theorem dX9_ship_13 : decode cX9_ship 13 = .ok (.ifnonnull 7, 3) := by decide +kernel
theorem dX9_ship_16 : decode cX9_ship 16 = .ok (.iconst (-1), 1) := by decide +kernel
theorem dX9_ship_17 : decode cX9_ship 17 = .ok (.goto 15, 3) := by decide +kernel
theorem dX9_ship_20 : decode cX9_ship 20 = .ok (.aload_n 0, 1) := by decide +kernel
theorem dX9_ship_21 : decode cX9_ship 21 = .ok (.getfield 10, 3) := by decide +kernel
theorem dX9_ship_24 : decode cX9_ship 24 = .ok (.getfield 41, 3) := by decide +kernel
theorem dX9_ship_27 : decode cX9_ship 27 = .ok (.aload_n 3, 1) := by decide +kernel
theorem dX9_ship_28 : decode cX9_ship 28 = .ok (.iload_n 2, 1) := by decide +kernel
theorem dX9_ship_29 : decode cX9_ship 29 = .ok (.invokevirtual 149, 3) := by decide +kernel
theorem dX9_ship_32 : decode cX9_ship 32 = .ok (.ireturn, 1) := by decide +kernel
theorem dX9_on_0 : decode cX9_on 0 = .ok (.iload_n 1, 1) := by decide +kernel
theorem dX9_on_1 : decode cX9_on 1 = .ok (.invokestatic 153, 3) := by decide +kernel
theorem dX9_on_4 : decode cX9_on 4 = .ok (.ifCond .eq 17, 3) := by decide +kernel
theorem dX9_on_7 : decode cX9_on 7 = .ok (.aload_n 0, 1) := by decide +kernel
theorem dX9_on_8 : decode cX9_on 8 = .ok (.getfield 10, 3) := by decide +kernel
theorem dX9_on_11 : decode cX9_on 11 = .ok (.getfield 41, 3) := by decide +kernel
theorem dX9_on_14 : decode cX9_on 14 = .ok (.iload_n 1, 1) := by decide +kernel
theorem dX9_on_15 : decode cX9_on 15 = .ok (.invokevirtual 156, 3) := by decide +kernel
theorem dX9_on_18 : decode cX9_on 18 = .ok (.goto 4, 3) := by decide +kernel
theorem dX9_on_21 : decode cX9_on 21 = .ok (.iconst (-1), 1) := by decide +kernel
theorem dX9_on_22 : decode cX9_on 22 = .ok (.ireturn, 1) := by decide +kernel
theorem dX9_targets_0 : decode cX9_targets 0 = .ok (.aload_n 0, 1) := by decide +kernel
theorem dX9_targets_1 : decode cX9_targets 1 = .ok (.getfield 10, 3) := by decide +kernel
theorem dX9_targets_4 : decode cX9_targets 4 = .ok (.getfield 41, 3) := by decide +kernel
theorem dX9_targets_7 : decode cX9_targets 7 = .ok (.iload_n 1, 1) := by decide +kernel
theorem dX9_targets_8 : decode cX9_targets 8 = .ok (.invokevirtual 145, 3) := by decide +kernel
theorem dX9_targets_11 : decode cX9_targets 11 = .ok (.astore_n 3, 1) := by decide +kernel
theorem dX9_targets_12 : decode cX9_targets 12 = .ok (.aload_n 3, 1) := by decide +kernel
theorem dX9_targets_13 : decode cX9_targets 13 = .ok (.ifnull 10, 3) := by decide +kernel
theorem dX9_targets_16 : decode cX9_targets 16 = .ok (.iload_n 2, 1) := by decide +kernel
theorem dX9_targets_17 : decode cX9_targets 17 = .ok (.invokestatic 159, 3) := by decide +kernel
theorem dX9_targets_20 : decode cX9_targets 20 = .ok (.ifCond .ne 7, 3) := by decide +kernel
theorem dX9_targets_23 : decode cX9_targets 23 = .ok (.iconst (-1), 1) := by decide +kernel
theorem dX9_targets_24 : decode cX9_targets 24 = .ok (.goto 15, 3) := by decide +kernel
theorem dX9_targets_27 : decode cX9_targets 27 = .ok (.aload_n 0, 1) := by decide +kernel
theorem dX9_targets_28 : decode cX9_targets 28 = .ok (.getfield 10, 3) := by decide +kernel
theorem dX9_targets_31 : decode cX9_targets 31 = .ok (.getfield 41, 3) := by decide +kernel
theorem dX9_targets_34 : decode cX9_targets 34 = .ok (.aload_n 3, 1) := by decide +kernel
theorem dX9_targets_35 : decode cX9_targets 35 = .ok (.iload_n 2, 1) := by decide +kernel
theorem dX9_targets_36 : decode cX9_targets 36 = .ok (.invokevirtual 164, 3) := by decide +kernel
theorem dX9_targets_39 : decode cX9_targets 39 = .ok (.ireturn, 1) := by decide +kernel
theorem dX9_hits_0 : decode cX9_hits 0 = .ok (.aload_n 0, 1) := by decide +kernel
theorem dX9_hits_1 : decode cX9_hits 1 = .ok (.getfield 10, 3) := by decide +kernel
theorem dX9_hits_4 : decode cX9_hits 4 = .ok (.getfield 41, 3) := by decide +kernel
theorem dX9_hits_7 : decode cX9_hits 7 = .ok (.iload_n 1, 1) := by decide +kernel
theorem dX9_hits_8 : decode cX9_hits 8 = .ok (.invokevirtual 145, 3) := by decide +kernel
theorem dX9_hits_11 : decode cX9_hits 11 = .ok (.astore 4, 2) := by decide +kernel
theorem dX9_hits_13 : decode cX9_hits 13 = .ok (.aload_n 0, 1) := by decide +kernel
theorem dX9_hits_14 : decode cX9_hits 14 = .ok (.getfield 10, 3) := by decide +kernel
theorem dX9_hits_17 : decode cX9_hits 17 = .ok (.getfield 41, 3) := by decide +kernel
theorem dX9_hits_20 : decode cX9_hits 20 = .ok (.iload_n 3, 1) := by decide +kernel
theorem dX9_hits_21 : decode cX9_hits 21 = .ok (.invokevirtual 145, 3) := by decide +kernel
theorem dX9_hits_24 : decode cX9_hits 24 = .ok (.astore 5, 2) := by decide +kernel
theorem dX9_hits_26 : decode cX9_hits 26 = .ok (.aload 4, 2) := by decide +kernel
theorem dX9_hits_28 : decode cX9_hits 28 = .ok (.ifnull 20, 3) := by decide +kernel
theorem dX9_hits_31 : decode cX9_hits 31 = .ok (.aload 5, 2) := by decide +kernel
theorem dX9_hits_33 : decode cX9_hits 33 = .ok (.ifnull 15, 3) := by decide +kernel
theorem dX9_hits_36 : decode cX9_hits 36 = .ok (.iload_n 1, 1) := by decide +kernel
theorem dX9_hits_37 : decode cX9_hits 37 = .ok (.iload_n 3, 1) := by decide +kernel
theorem dX9_hits_38 : decode cX9_hits 38 = .ok (.if_icmp .eq 10, 3) := by decide +kernel
theorem dX9_hits_41 : decode cX9_hits 41 = .ok (.iload_n 2, 1) := by decide +kernel
theorem dX9_hits_42 : decode cX9_hits 42 = .ok (.invokestatic 159, 3) := by decide +kernel
theorem dX9_hits_45 : decode cX9_hits 45 = .ok (.ifCond .ne 5, 3) := by decide +kernel
theorem dX9_hits_48 : decode cX9_hits 48 = .ok (.iconst (-1), 1) := by decide +kernel
theorem dX9_hits_49 : decode cX9_hits 49 = .ok (.ireturn, 1) := by decide +kernel
theorem dX9_hits_50 : decode cX9_hits 50 = .ok (.aload_n 0, 1) := by decide +kernel
theorem dX9_hits_51 : decode cX9_hits 51 = .ok (.getfield 10, 3) := by decide +kernel
theorem dX9_hits_54 : decode cX9_hits 54 = .ok (.getfield 41, 3) := by decide +kernel
theorem dX9_hits_57 : decode cX9_hits 57 = .ok (.aload 4, 2) := by decide +kernel
theorem dX9_hits_59 : decode cX9_hits 59 = .ok (.iload_n 2, 1) := by decide +kernel
theorem dX9_hits_60 : decode cX9_hits 60 = .ok (.aload 5, 2) := by decide +kernel
theorem dX9_hits_62 : decode cX9_hits 62 = .ok (.invokevirtual 167, 3) := by decide +kernel
theorem dX9_hits_65 : decode cX9_hits 65 = .ok (.istore 6, 2) := by decide +kernel
theorem dX9_hits_67 : decode cX9_hits 67 = .ok (.iload 6, 2) := by decide +kernel
theorem dX9_hits_69 : decode cX9_hits 69 = .ok (.ifCond .ne 8, 3) := by decide +kernel
theorem dX9_hits_72 : decode cX9_hits 72 = .ok (.bipush (-9), 2) := by decide +kernel
theorem dX9_hits_74 : decode cX9_hits 74 = .ok (.goto 10, 3) := by decide +kernel
theorem dX9_hits_77 : decode cX9_hits 77 = .ok (.aload 4, 2) := by decide +kernel
theorem dX9_hits_79 : decode cX9_hits 79 = .ok (.iload 6, 2) := by decide +kernel
theorem dX9_hits_81 : decode cX9_hits 81 = .ok (.invokevirtual 171, 3) := by decide +kernel
theorem dX9_hits_84 : decode cX9_hits 84 = .ok (.ireturn, 1) := by decide +kernel
theorem dX9_way_0 : decode cX9_way 0 = .ok (.aload_n 0, 1) := by decide +kernel
theorem dX9_way_1 : decode cX9_way 1 = .ok (.getfield 10, 3) := by decide +kernel
theorem dX9_way_4 : decode cX9_way 4 = .ok (.getfield 41, 3) := by decide +kernel
theorem dX9_way_7 : decode cX9_way 7 = .ok (.iload_n 1, 1) := by decide +kernel
theorem dX9_way_8 : decode cX9_way 8 = .ok (.invokevirtual 145, 3) := by decide +kernel
theorem dX9_way_11 : decode cX9_way 11 = .ok (.astore 4, 2) := by decide +kernel
theorem dX9_way_13 : decode cX9_way 13 = .ok (.aload 4, 2) := by decide +kernel
theorem dX9_way_15 : decode cX9_way 15 = .ok (.ifnull 19, 3) := by decide +kernel
theorem dX9_way_18 : decode cX9_way 18 = .ok (.iload_n 2, 1) := by decide +kernel
theorem dX9_way_19 : decode cX9_way 19 = .ok (.invokestatic 153, 3) := by decide +kernel
theorem dX9_way_22 : decode cX9_way 22 = .ok (.ifCond .eq 12, 3) := by decide +kernel
theorem dX9_way_25 : decode cX9_way 25 = .ok (.iload_n 3, 1) := by decide +kernel
theorem dX9_way_26 : decode cX9_way 26 = .ok (.ifCond .lt 8, 3) := by decide +kernel
theorem dX9_way_29 : decode cX9_way 29 = .ok (.iload_n 3, 1) := by decide +kernel
theorem dX9_way_30 : decode cX9_way 30 = .ok (.iconst 2, 1) := by decide +kernel
theorem dX9_way_31 : decode cX9_way 31 = .ok (.if_icmp .le 5, 3) := by decide +kernel
theorem dX9_way_34 : decode cX9_way 34 = .ok (.iconst (-1), 1) := by decide +kernel
theorem dX9_way_35 : decode cX9_way 35 = .ok (.ireturn, 1) := by decide +kernel
theorem dX9_way_36 : decode cX9_way 36 = .ok (.aload_n 0, 1) := by decide +kernel
theorem dX9_way_37 : decode cX9_way 37 = .ok (.getfield 33, 3) := by decide +kernel
theorem dX9_way_40 : decode cX9_way 40 = .ok (.aload_n 0, 1) := by decide +kernel
theorem dX9_way_41 : decode cX9_way 41 = .ok (.getfield 10, 3) := by decide +kernel
theorem dX9_way_44 : decode cX9_way 44 = .ok (.getfield 41, 3) := by decide +kernel
theorem dX9_way_47 : decode cX9_way 47 = .ok (.aload 4, 2) := by decide +kernel
theorem dX9_way_49 : decode cX9_way 49 = .ok (.aload_n 0, 1) := by decide +kernel
theorem dX9_way_50 : decode cX9_way 50 = .ok (.getfield 10, 3) := by decide +kernel
theorem dX9_way_53 : decode cX9_way 53 = .ok (.getfield 41, 3) := by decide +kernel
theorem dX9_way_56 : decode cX9_way 56 = .ok (.aload 4, 2) := by decide +kernel
theorem dX9_way_58 : decode cX9_way 58 = .ok (.invokevirtual 174, 3) := by decide +kernel
theorem dX9_way_61 : decode cX9_way 61 = .ok (.invokevirtual 178, 3) := by decide +kernel
theorem dX9_way_64 : decode cX9_way 64 = .ok (.aload_n 0, 1) := by decide +kernel
theorem dX9_way_65 : decode cX9_way 65 = .ok (.getfield 33, 3) := by decide +kernel
theorem dX9_way_68 : decode cX9_way 68 = .ok (.iload_n 2, 1) := by decide +kernel
theorem dX9_way_69 : decode cX9_way 69 = .ok (.iload_n 3, 1) := by decide +kernel
theorem dX9_way_70 : decode cX9_way 70 = .ok (.invokevirtual 182, 3) := by decide +kernel
theorem dX9_way_73 : decode cX9_way 73 = .ok (.ireturn, 1) := by decide +kernel
theorem dX9_reach_0 : decode cX9_reach 0 = .ok (.aload_n 0, 1) := by decide +kernel
theorem dX9_reach_1 : decode cX9_reach 1 = .ok (.getfield 10, 3) := by decide +kernel
theorem dX9_reach_4 : decode cX9_reach 4 = .ok (.getfield 41, 3) := by decide +kernel
theorem dX9_reach_7 : decode cX9_reach 7 = .ok (.iload_n 1, 1) := by decide +kernel
theorem dX9_reach_8 : decode cX9_reach 8 = .ok (.invokevirtual 145, 3) := by decide +kernel
theorem dX9_reach_11 : decode cX9_reach 11 = .ok (.astore_n 2, 1) := by decide +kernel
theorem dX9_reach_12 : decode cX9_reach 12 = .ok (.aload_n 2, 1) := by decide +kernel
theorem dX9_reach_13 : decode cX9_reach 13 = .ok (.ifnonnull 5, 3) := by decide +kernel
theorem dX9_reach_16 : decode cX9_reach 16 = .ok (.iconst (-1), 1) := by decide +kernel
theorem dX9_reach_17 : decode cX9_reach 17 = .ok (.ireturn, 1) := by decide +kernel
theorem dX9_reach_18 : decode cX9_reach 18 = .ok (.aload_n 0, 1) := by decide +kernel
theorem dX9_reach_19 : decode cX9_reach 19 = .ok (.getfield 33, 3) := by decide +kernel
theorem dX9_reach_22 : decode cX9_reach 22 = .ok (.aload_n 0, 1) := by decide +kernel
theorem dX9_reach_23 : decode cX9_reach 23 = .ok (.getfield 10, 3) := by decide +kernel
theorem dX9_reach_26 : decode cX9_reach 26 = .ok (.getfield 41, 3) := by decide +kernel
theorem dX9_reach_29 : decode cX9_reach 29 = .ok (.aload_n 2, 1) := by decide +kernel
theorem dX9_reach_30 : decode cX9_reach 30 = .ok (.aload_n 0, 1) := by decide +kernel
theorem dX9_reach_31 : decode cX9_reach 31 = .ok (.getfield 10, 3) := by decide +kernel
theorem dX9_reach_34 : decode cX9_reach 34 = .ok (.getfield 41, 3) := by decide +kernel
theorem dX9_reach_37 : decode cX9_reach 37 = .ok (.aload_n 2, 1) := by decide +kernel
theorem dX9_reach_38 : decode cX9_reach 38 = .ok (.invokevirtual 174, 3) := by decide +kernel
theorem dX9_reach_41 : decode cX9_reach 41 = .ok (.invokevirtual 178, 3) := by decide +kernel
theorem dX9_reach_44 : decode cX9_reach 44 = .ok (.aload_n 0, 1) := by decide +kernel
theorem dX9_reach_45 : decode cX9_reach 45 = .ok (.getfield 33, 3) := by decide +kernel
theorem dX9_reach_48 : decode cX9_reach 48 = .ok (.invokevirtual 185, 3) := by decide +kernel
theorem dX9_reach_51 : decode cX9_reach 51 = .ok (.ireturn, 1) := by decide +kernel
theorem dX9_windBy_0 : decode cX9_windBy 0 = .ok (.iload_n 1, 1) := by decide +kernel
theorem dX9_windBy_1 : decode cX9_windBy 1 = .ok (.invokestatic 188, 3) := by decide +kernel
theorem dX9_windBy_4 : decode cX9_windBy 4 = .ok (.ifCond .eq 10, 3) := by decide +kernel
theorem dX9_windBy_7 : decode cX9_windBy 7 = .ok (.iload_n 2, 1) := by decide +kernel
theorem dX9_windBy_8 : decode cX9_windBy 8 = .ok (.invokestatic 188, 3) := by decide +kernel
theorem dX9_windBy_11 : decode cX9_windBy 11 = .ok (.ifCond .ne 5, 3) := by decide +kernel
theorem dX9_windBy_14 : decode cX9_windBy 14 = .ok (.iconst (-1), 1) := by decide +kernel
theorem dX9_windBy_15 : decode cX9_windBy 15 = .ok (.ireturn, 1) := by decide +kernel
theorem dX9_windBy_16 : decode cX9_windBy 16 = .ok (.iload_n 1, 1) := by decide +kernel
theorem dX9_windBy_17 : decode cX9_windBy 17 = .ok (.iload_n 2, 1) := by decide +kernel
theorem dX9_windBy_18 : decode cX9_windBy 18 = .ok (.iadd, 1) := by decide +kernel
theorem dX9_windBy_19 : decode cX9_windBy 19 = .ok (.istore_n 3, 1) := by decide +kernel
theorem dX9_windBy_20 : decode cX9_windBy 20 = .ok (.bipush 10, 2) := by decide +kernel
theorem dX9_windBy_22 : decode cX9_windBy 22 = .ok (.aload_n 0, 1) := by decide +kernel
theorem dX9_windBy_23 : decode cX9_windBy 23 = .ok (.getfield 10, 3) := by decide +kernel
theorem dX9_windBy_26 : decode cX9_windBy 26 = .ok (.getfield 41, 3) := by decide +kernel
theorem dX9_windBy_29 : decode cX9_windBy 29 = .ok (.iload_n 3, 1) := by decide +kernel
theorem dX9_windBy_30 : decode cX9_windBy 30 = .ok (.invokevirtual 191, 3) := by decide +kernel
theorem dX9_windBy_33 : decode cX9_windBy 33 = .ok (.imul, 1) := by decide +kernel
theorem dX9_windBy_34 : decode cX9_windBy 34 = .ok (.iload_n 3, 1) := by decide +kernel
theorem dX9_windBy_35 : decode cX9_windBy 35 = .ok (.invokestatic 194, 3) := by decide +kernel
theorem dX9_windBy_38 : decode cX9_windBy 38 = .ok (.iadd, 1) := by decide +kernel
theorem dX9_windBy_39 : decode cX9_windBy 39 = .ok (.ireturn, 1) := by decide +kernel
theorem dX9_threats_0 : decode cX9_threats 0 = .ok (.aload_n 0, 1) := by decide +kernel
theorem dX9_threats_1 : decode cX9_threats 1 = .ok (.getfield 10, 3) := by decide +kernel
theorem dX9_threats_4 : decode cX9_threats 4 = .ok (.getfield 41, 3) := by decide +kernel
theorem dX9_threats_7 : decode cX9_threats 7 = .ok (.iload_n 1, 1) := by decide +kernel
theorem dX9_threats_8 : decode cX9_threats 8 = .ok (.invokevirtual 145, 3) := by decide +kernel
theorem dX9_threats_11 : decode cX9_threats 11 = .ok (.astore_n 2, 1) := by decide +kernel
theorem dX9_threats_12 : decode cX9_threats 12 = .ok (.aload_n 2, 1) := by decide +kernel
theorem dX9_threats_13 : decode cX9_threats 13 = .ok (.ifnonnull 7, 3) := by decide +kernel
theorem dX9_threats_16 : decode cX9_threats 16 = .ok (.iconst (-1), 1) := by decide +kernel
theorem dX9_threats_17 : decode cX9_threats 17 = .ok (.goto 14, 3) := by decide +kernel
theorem dX9_threats_20 : decode cX9_threats 20 = .ok (.aload_n 0, 1) := by decide +kernel
theorem dX9_threats_21 : decode cX9_threats 21 = .ok (.getfield 10, 3) := by decide +kernel
theorem dX9_threats_24 : decode cX9_threats 24 = .ok (.getfield 41, 3) := by decide +kernel
theorem dX9_threats_27 : decode cX9_threats 27 = .ok (.aload_n 2, 1) := by decide +kernel
theorem dX9_threats_28 : decode cX9_threats 28 = .ok (.invokevirtual 204, 3) := by decide +kernel
theorem dX9_threats_31 : decode cX9_threats 31 = .ok (.ireturn, 1) := by decide +kernel
theorem dX9_strength_0 : decode cX9_strength 0 = .ok (.iload_n 1, 1) := by decide +kernel
theorem dX9_strength_1 : decode cX9_strength 1 = .ok (.invokestatic 136, 3) := by decide +kernel
theorem dX9_strength_4 : decode cX9_strength 4 = .ok (.ifCond .eq 17, 3) := by decide +kernel
theorem dX9_strength_7 : decode cX9_strength 7 = .ok (.aload_n 0, 1) := by decide +kernel
theorem dX9_strength_8 : decode cX9_strength 8 = .ok (.getfield 10, 3) := by decide +kernel
theorem dX9_strength_11 : decode cX9_strength 11 = .ok (.getfield 41, 3) := by decide +kernel
theorem dX9_strength_14 : decode cX9_strength 14 = .ok (.iload_n 1, 1) := by decide +kernel
theorem dX9_strength_15 : decode cX9_strength 15 = .ok (.invokevirtual 207, 3) := by decide +kernel
theorem dX9_strength_18 : decode cX9_strength 18 = .ok (.goto 4, 3) := by decide +kernel
theorem dX9_strength_21 : decode cX9_strength 21 = .ok (.iconst (-1), 1) := by decide +kernel
theorem dX9_strength_22 : decode cX9_strength 22 = .ok (.ireturn, 1) := by decide +kernel
theorem dJ6_bitCount_0f7a4_0 : decode cJ6_bitCount_0f7a4 0 = .ok (.iload_n 0, 1) := by decide +kernel
theorem dJ6_bitCount_0f7a4_1 : decode cJ6_bitCount_0f7a4 1 = .ok (.iload_n 0, 1) := by decide +kernel
theorem dJ6_bitCount_0f7a4_2 : decode cJ6_bitCount_0f7a4 2 = .ok (.iconst 1, 1) := by decide +kernel
theorem dJ6_bitCount_0f7a4_3 : decode cJ6_bitCount_0f7a4 3 = .ok (.iushr, 1) := by decide +kernel
theorem dJ6_bitCount_0f7a4_4 : decode cJ6_bitCount_0f7a4 4 = .ok (.ldc_w 265, 3) := by decide +kernel
theorem dJ6_bitCount_0f7a4_7 : decode cJ6_bitCount_0f7a4 7 = .ok (.iand, 1) := by decide +kernel
theorem dJ6_bitCount_0f7a4_8 : decode cJ6_bitCount_0f7a4 8 = .ok (.isub, 1) := by decide +kernel
theorem dJ6_bitCount_0f7a4_9 : decode cJ6_bitCount_0f7a4 9 = .ok (.istore_n 0, 1) := by decide +kernel
theorem dJ6_bitCount_0f7a4_10 : decode cJ6_bitCount_0f7a4 10 = .ok (.iload_n 0, 1) := by decide +kernel
theorem dJ6_bitCount_0f7a4_11 : decode cJ6_bitCount_0f7a4 11 = .ok (.ldc_w 266, 3) := by decide +kernel
theorem dJ6_bitCount_0f7a4_14 : decode cJ6_bitCount_0f7a4 14 = .ok (.iand, 1) := by decide +kernel
theorem dJ6_bitCount_0f7a4_15 : decode cJ6_bitCount_0f7a4 15 = .ok (.iload_n 0, 1) := by decide +kernel
theorem dJ6_bitCount_0f7a4_16 : decode cJ6_bitCount_0f7a4 16 = .ok (.iconst 2, 1) := by decide +kernel
theorem dJ6_bitCount_0f7a4_17 : decode cJ6_bitCount_0f7a4 17 = .ok (.iushr, 1) := by decide +kernel
theorem dJ6_bitCount_0f7a4_18 : decode cJ6_bitCount_0f7a4 18 = .ok (.ldc_w 266, 3) := by decide +kernel
theorem dJ6_bitCount_0f7a4_21 : decode cJ6_bitCount_0f7a4 21 = .ok (.iand, 1) := by decide +kernel
theorem dJ6_bitCount_0f7a4_22 : decode cJ6_bitCount_0f7a4 22 = .ok (.iadd, 1) := by decide +kernel
theorem dJ6_bitCount_0f7a4_23 : decode cJ6_bitCount_0f7a4 23 = .ok (.istore_n 0, 1) := by decide +kernel
theorem dJ6_bitCount_0f7a4_24 : decode cJ6_bitCount_0f7a4 24 = .ok (.iload_n 0, 1) := by decide +kernel
theorem dJ6_bitCount_0f7a4_25 : decode cJ6_bitCount_0f7a4 25 = .ok (.iload_n 0, 1) := by decide +kernel
theorem dJ6_bitCount_0f7a4_26 : decode cJ6_bitCount_0f7a4 26 = .ok (.iconst 4, 1) := by decide +kernel
theorem dJ6_bitCount_0f7a4_27 : decode cJ6_bitCount_0f7a4 27 = .ok (.iushr, 1) := by decide +kernel
theorem dJ6_bitCount_0f7a4_28 : decode cJ6_bitCount_0f7a4 28 = .ok (.iadd, 1) := by decide +kernel
theorem dJ6_bitCount_0f7a4_29 : decode cJ6_bitCount_0f7a4 29 = .ok (.ldc_w 267, 3) := by decide +kernel
theorem dJ6_bitCount_0f7a4_32 : decode cJ6_bitCount_0f7a4 32 = .ok (.iand, 1) := by decide +kernel
theorem dJ6_bitCount_0f7a4_33 : decode cJ6_bitCount_0f7a4 33 = .ok (.istore_n 0, 1) := by decide +kernel
theorem dJ6_bitCount_0f7a4_34 : decode cJ6_bitCount_0f7a4 34 = .ok (.iload_n 0, 1) := by decide +kernel
theorem dJ6_bitCount_0f7a4_35 : decode cJ6_bitCount_0f7a4 35 = .ok (.iload_n 0, 1) := by decide +kernel
theorem dJ6_bitCount_0f7a4_36 : decode cJ6_bitCount_0f7a4 36 = .ok (.bipush 8, 2) := by decide +kernel
theorem dJ6_bitCount_0f7a4_38 : decode cJ6_bitCount_0f7a4 38 = .ok (.iushr, 1) := by decide +kernel
theorem dJ6_bitCount_0f7a4_39 : decode cJ6_bitCount_0f7a4 39 = .ok (.iadd, 1) := by decide +kernel
theorem dJ6_bitCount_0f7a4_40 : decode cJ6_bitCount_0f7a4 40 = .ok (.istore_n 0, 1) := by decide +kernel
theorem dJ6_bitCount_0f7a4_41 : decode cJ6_bitCount_0f7a4 41 = .ok (.iload_n 0, 1) := by decide +kernel
theorem dJ6_bitCount_0f7a4_42 : decode cJ6_bitCount_0f7a4 42 = .ok (.iload_n 0, 1) := by decide +kernel
theorem dJ6_bitCount_0f7a4_43 : decode cJ6_bitCount_0f7a4 43 = .ok (.bipush 16, 2) := by decide +kernel
theorem dJ6_bitCount_0f7a4_45 : decode cJ6_bitCount_0f7a4 45 = .ok (.iushr, 1) := by decide +kernel
theorem dJ6_bitCount_0f7a4_46 : decode cJ6_bitCount_0f7a4 46 = .ok (.iadd, 1) := by decide +kernel
theorem dJ6_bitCount_0f7a4_47 : decode cJ6_bitCount_0f7a4 47 = .ok (.istore_n 0, 1) := by decide +kernel
theorem dJ6_bitCount_0f7a4_48 : decode cJ6_bitCount_0f7a4 48 = .ok (.iload_n 0, 1) := by decide +kernel
theorem dJ6_bitCount_0f7a4_49 : decode cJ6_bitCount_0f7a4 49 = .ok (.bipush 63, 2) := by decide +kernel
theorem dJ6_bitCount_0f7a4_51 : decode cJ6_bitCount_0f7a4 51 = .ok (.iand, 1) := by decide +kernel
theorem dJ6_bitCount_0f7a4_52 : decode cJ6_bitCount_0f7a4 52 = .ok (.ireturn, 1) := by decide +kernel
theorem dJ9_max_7cf53_0 : decode cJ9_max_7cf53 0 = .ok (.iload_n 0, 1) := by decide +kernel
theorem dJ9_max_7cf53_1 : decode cJ9_max_7cf53 1 = .ok (.iload_n 1, 1) := by decide +kernel
theorem dJ9_max_7cf53_2 : decode cJ9_max_7cf53 2 = .ok (.if_icmp .lt 7, 3) := by decide +kernel
theorem dJ9_max_7cf53_5 : decode cJ9_max_7cf53 5 = .ok (.iload_n 0, 1) := by decide +kernel
theorem dJ9_max_7cf53_6 : decode cJ9_max_7cf53 6 = .ok (.goto 4, 3) := by decide +kernel
theorem dJ9_max_7cf53_9 : decode cJ9_max_7cf53 9 = .ok (.iload_n 1, 1) := by decide +kernel
theorem dJ9_max_7cf53_10 : decode cJ9_max_7cf53 10 = .ok (.ireturn, 1) := by decide +kernel
theorem dJ9_min_7cf53_0 : decode cJ9_min_7cf53 0 = .ok (.iload_n 0, 1) := by decide +kernel
theorem dJ9_min_7cf53_1 : decode cJ9_min_7cf53 1 = .ok (.iload_n 1, 1) := by decide +kernel
theorem dJ9_min_7cf53_2 : decode cJ9_min_7cf53 2 = .ok (.if_icmp .gt 7, 3) := by decide +kernel
theorem dJ9_min_7cf53_5 : decode cJ9_min_7cf53 5 = .ok (.iload_n 0, 1) := by decide +kernel
theorem dJ9_min_7cf53_6 : decode cJ9_min_7cf53 6 = .ok (.goto 4, 3) := by decide +kernel
theorem dJ9_min_7cf53_9 : decode cJ9_min_7cf53 9 = .ok (.iload_n 1, 1) := by decide +kernel
theorem dJ9_min_7cf53_10 : decode cJ9_min_7cf53 10 = .ok (.ireturn, 1) := by decide +kernel
theorem dJ7_fill_53178_0 : decode cJ7_fill_53178 0 = .ok (.iconst 0, 1) := by decide +kernel
theorem dJ7_fill_53178_1 : decode cJ7_fill_53178 1 = .ok (.istore_n 2, 1) := by decide +kernel
theorem dJ7_fill_53178_2 : decode cJ7_fill_53178 2 = .ok (.aload_n 0, 1) := by decide +kernel
theorem dJ7_fill_53178_3 : decode cJ7_fill_53178 3 = .ok (.arraylength, 1) := by decide +kernel
theorem dJ7_fill_53178_4 : decode cJ7_fill_53178 4 = .ok (.istore_n 3, 1) := by decide +kernel
theorem dJ7_fill_53178_5 : decode cJ7_fill_53178 5 = .ok (.iload_n 2, 1) := by decide +kernel
theorem dJ7_fill_53178_6 : decode cJ7_fill_53178 6 = .ok (.iload_n 3, 1) := by decide +kernel
theorem dJ7_fill_53178_7 : decode cJ7_fill_53178 7 = .ok (.if_icmp .ge 13, 3) := by decide +kernel
theorem dJ7_fill_53178_10 : decode cJ7_fill_53178 10 = .ok (.aload_n 0, 1) := by decide +kernel
theorem dJ7_fill_53178_11 : decode cJ7_fill_53178 11 = .ok (.iload_n 2, 1) := by decide +kernel
theorem dJ7_fill_53178_12 : decode cJ7_fill_53178 12 = .ok (.iload_n 1, 1) := by decide +kernel
theorem dJ7_fill_53178_13 : decode cJ7_fill_53178 13 = .ok (.iastore, 1) := by decide +kernel
theorem dJ7_fill_53178_14 : decode cJ7_fill_53178 14 = .ok (.iinc 2 1, 3) := by decide +kernel
theorem dJ7_fill_53178_17 : decode cJ7_fill_53178 17 = .ok (.goto (-12), 3) := by decide +kernel
theorem dJ7_fill_53178_20 : decode cJ7_fill_53178 20 = .ok (.return_, 1) := by decide +kernel
