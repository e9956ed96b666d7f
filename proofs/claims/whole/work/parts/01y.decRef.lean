theorem dX10_init_0 : decode cX10_init 0 = .ok (.aload_n 0, 1) := by decide +kernel
theorem dX10_init_1 : decode cX10_init 1 = .ok (.invokespecial 1, 3) := by decide +kernel
theorem dX10_init_4 : decode cX10_init 4 = .ok (.aload_n 0, 1) := by decide +kernel
theorem dX10_init_5 : decode cX10_init 5 = .ok (.sipush 545, 3) := by decide +kernel
theorem dX10_init_8 : decode cX10_init 8 = .ok (.newarray .int, 2) := by decide +kernel
theorem dX10_init_10 : decode cX10_init 10 = .ok (.putfield 7, 3) := by decide +kernel
theorem dX10_init_13 : decode cX10_init 13 = .ok (.aload_n 0, 1) := by decide +kernel
theorem dX10_init_14 : decode cX10_init 14 = .ok (.sipush 3270, 3) := by decide +kernel
theorem dX10_init_17 : decode cX10_init 17 = .ok (.newarray .int, 2) := by decide +kernel
theorem dX10_init_19 : decode cX10_init 19 = .ok (.putfield 13, 3) := by decide +kernel
theorem dX10_init_22 : decode cX10_init 22 = .ok (.aload_n 0, 1) := by decide +kernel
theorem dX10_init_23 : decode cX10_init 23 = .ok (.sipush 545, 3) := by decide +kernel
theorem dX10_init_26 : decode cX10_init 26 = .ok (.newarray .int, 2) := by decide +kernel
theorem dX10_init_28 : decode cX10_init 28 = .ok (.putfield 16, 3) := by decide +kernel
theorem dX10_init_31 : decode cX10_init 31 = .ok (.aload_n 0, 1) := by decide +kernel
theorem dX10_init_32 : decode cX10_init 32 = .ok (.bipush 100, 2) := by decide +kernel
theorem dX10_init_34 : decode cX10_init 34 = .ok (.newarray .int, 2) := by decide +kernel
theorem dX10_init_36 : decode cX10_init 36 = .ok (.putfield 19, 3) := by decide +kernel
theorem dX10_init_39 : decode cX10_init 39 = .ok (.aload_n 0, 1) := by decide +kernel
theorem dX10_init_40 : decode cX10_init 40 = .ok (.iconst 3, 1) := by decide +kernel
theorem dX10_init_41 : decode cX10_init 41 = .ok (.newarray .int, 2) := by decide +kernel
theorem dX10_init_43 : decode cX10_init 43 = .ok (.putfield 22, 3) := by decide +kernel
theorem dX10_init_46 : decode cX10_init 46 = .ok (.aload_n 0, 1) := by decide +kernel
theorem dX10_init_47 : decode cX10_init 47 = .ok (.bipush 81, 2) := by decide +kernel
theorem dX10_init_49 : decode cX10_init 49 = .ok (.newarray .boolean, 2) := by decide +kernel
theorem dX10_init_51 : decode cX10_init 51 = .ok (.putfield 25, 3) := by decide +kernel
theorem dX10_init_54 : decode cX10_init 54 = .ok (.aload_n 0, 1) := by decide +kernel
theorem dX10_init_55 : decode cX10_init 55 = .ok (.getfield 7, 3) := by decide +kernel
theorem dX10_init_58 : decode cX10_init 58 = .ok (.iconst 3, 1) := by decide +kernel
theorem dX10_init_59 : decode cX10_init 59 = .ok (.iconst 2, 1) := by decide +kernel
theorem dX10_init_60 : decode cX10_init 60 = .ok (.iastore, 1) := by decide +kernel
theorem dX10_init_61 : decode cX10_init 61 = .ok (.iconst 0, 1) := by decide +kernel
theorem dX10_init_62 : decode cX10_init 62 = .ok (.istore_n 1, 1) := by decide +kernel
theorem dX10_init_63 : decode cX10_init 63 = .ok (.iload_n 1, 1) := by decide +kernel
theorem dX10_init_64 : decode cX10_init 64 = .ok (.iconst 2, 1) := by decide +kernel
theorem dX10_init_65 : decode cX10_init 65 = .ok (.if_icmp .ge 40, 3) := by decide +kernel
theorem dX10_init_68 : decode cX10_init 68 = .ok (.aload_n 0, 1) := by decide +kernel
theorem dX10_init_69 : decode cX10_init 69 = .ok (.getfield 7, 3) := by decide +kernel
theorem dX10_init_72 : decode cX10_init 72 = .ok (.iconst 4, 1) := by decide +kernel
theorem dX10_init_73 : decode cX10_init 73 = .ok (.iload_n 1, 1) := by decide +kernel
theorem dX10_init_74 : decode cX10_init 74 = .ok (.iadd, 1) := by decide +kernel
theorem dX10_init_75 : decode cX10_init 75 = .ok (.bipush 63, 2) := by decide +kernel
theorem dX10_init_77 : decode cX10_init 77 = .ok (.iastore, 1) := by decide +kernel
theorem dX10_init_78 : decode cX10_init 78 = .ok (.aload_n 0, 1) := by decide +kernel
theorem dX10_init_79 : decode cX10_init 79 = .ok (.getfield 7, 3) := by decide +kernel
theorem dX10_init_82 : decode cX10_init 82 = .ok (.bipush 6, 2) := by decide +kernel
theorem dX10_init_84 : decode cX10_init 84 = .ok (.iload_n 1, 1) := by decide +kernel
theorem dX10_init_85 : decode cX10_init 85 = .ok (.iadd, 1) := by decide +kernel
theorem dX10_init_86 : decode cX10_init 86 = .ok (.iconst (-1), 1) := by decide +kernel
theorem dX10_init_87 : decode cX10_init 87 = .ok (.iastore, 1) := by decide +kernel
theorem dX10_init_88 : decode cX10_init 88 = .ok (.aload_n 0, 1) := by decide +kernel
theorem dX10_init_89 : decode cX10_init 89 = .ok (.getfield 7, 3) := by decide +kernel
theorem dX10_init_92 : decode cX10_init 92 = .ok (.bipush 8, 2) := by decide +kernel
theorem dX10_init_94 : decode cX10_init 94 = .ok (.iload_n 1, 1) := by decide +kernel
theorem dX10_init_95 : decode cX10_init 95 = .ok (.iadd, 1) := by decide +kernel
theorem dX10_init_96 : decode cX10_init 96 = .ok (.bipush 10, 2) := by decide +kernel
theorem dX10_init_98 : decode cX10_init 98 = .ok (.iastore, 1) := by decide +kernel
theorem dX10_init_99 : decode cX10_init 99 = .ok (.iinc 1 1, 3) := by decide +kernel
theorem dX10_init_102 : decode cX10_init 102 = .ok (.goto (-39), 3) := by decide +kernel
theorem dX10_init_105 : decode cX10_init 105 = .ok (.return_, 1) := by decide +kernel
theorem dX10_in_0 : decode cX10_in 0 = .ok (.lload_n 0, 1) := by decide +kernel
theorem dX10_in_1 : decode cX10_in 1 = .ok (.lload_n 2, 1) := by decide +kernel
theorem dX10_in_2 : decode cX10_in 2 = .ok (.lcmp, 1) := by decide +kernel
theorem dX10_in_3 : decode cX10_in 3 = .ok (.ifCond .lt 14, 3) := by decide +kernel
theorem dX10_in_6 : decode cX10_in 6 = .ok (.lload_n 0, 1) := by decide +kernel
theorem dX10_in_7 : decode cX10_in 7 = .ok (.lload 4, 2) := by decide +kernel
theorem dX10_in_9 : decode cX10_in 9 = .ok (.lcmp, 1) := by decide +kernel
theorem dX10_in_10 : decode cX10_in 10 = .ok (.ifCond .gt 7, 3) := by decide +kernel
theorem dX10_in_13 : decode cX10_in 13 = .ok (.iconst 1, 1) := by decide +kernel
theorem dX10_in_14 : decode cX10_in 14 = .ok (.goto 4, 3) := by decide +kernel
theorem dX10_in_17 : decode cX10_in 17 = .ok (.iconst 0, 1) := by decide +kernel
theorem dX10_in_18 : decode cX10_in 18 = .ok (.ireturn, 1) := by decide +kernel
theorem dX10_has_0 : decode cX10_has 0 = .ok (.iload_n 0, 1) := by decide +kernel
theorem dX10_has_1 : decode cX10_has 1 = .ok (.iload_n 1, 1) := by decide +kernel
theorem dX10_has_2 : decode cX10_has 2 = .ok (.ishr, 1) := by decide +kernel
theorem dX10_has_3 : decode cX10_has 3 = .ok (.iconst 1, 1) := by decide +kernel
theorem dX10_has_4 : decode cX10_has 4 = .ok (.iand, 1) := by decide +kernel
theorem dX10_has_5 : decode cX10_has 5 = .ok (.iconst 1, 1) := by decide +kernel
theorem dX10_has_6 : decode cX10_has 6 = .ok (.if_icmp .ne 7, 3) := by decide +kernel
theorem dX10_has_9 : decode cX10_has 9 = .ok (.iconst 1, 1) := by decide +kernel
theorem dX10_has_10 : decode cX10_has 10 = .ok (.goto 4, 3) := by decide +kernel
theorem dX10_has_13 : decode cX10_has 13 = .ok (.iconst 0, 1) := by decide +kernel
theorem dX10_has_14 : decode cX10_has 14 = .ok (.ireturn, 1) := by decide +kernel
theorem dX10_record_0 : decode cX10_record 0 = .ok (.aload_n 0, 1) := by decide +kernel
theorem dX10_record_1 : decode cX10_record 1 = .ok (.getfield 29, 3) := by decide +kernel
theorem dX10_record_4 : decode cX10_record 4 = .ok (.bipush 6, 2) := by decide +kernel
theorem dX10_record_6 : decode cX10_record 6 = .ok (.if_icmp .ne 44, 3) := by decide +kernel
theorem dX10_record_9 : decode cX10_record 9 = .ok (.iconst 0, 1) := by decide +kernel
theorem dX10_record_10 : decode cX10_record 10 = .ok (.istore_n 1, 1) := by decide +kernel
theorem dX10_record_11 : decode cX10_record 11 = .ok (.iload_n 1, 1) := by decide +kernel
theorem dX10_record_12 : decode cX10_record 12 = .ok (.sipush 2725, 3) := by decide +kernel
theorem dX10_record_15 : decode cX10_record 15 = .ok (.if_icmp .ge 25, 3) := by decide +kernel
theorem dX10_record_18 : decode cX10_record 18 = .ok (.aload_n 0, 1) := by decide +kernel
theorem dX10_record_19 : decode cX10_record 19 = .ok (.getfield 13, 3) := by decide +kernel
theorem dX10_record_22 : decode cX10_record 22 = .ok (.iload_n 1, 1) := by decide +kernel
theorem dX10_record_23 : decode cX10_record 23 = .ok (.aload_n 0, 1) := by decide +kernel
theorem dX10_record_24 : decode cX10_record 24 = .ok (.getfield 13, 3) := by decide +kernel
theorem dX10_record_27 : decode cX10_record 27 = .ok (.sipush 545, 3) := by decide +kernel
theorem dX10_record_30 : decode cX10_record 30 = .ok (.iload_n 1, 1) := by decide +kernel
theorem dX10_record_31 : decode cX10_record 31 = .ok (.iadd, 1) := by decide +kernel
theorem dX10_record_32 : decode cX10_record 32 = .ok (.iaload, 1) := by decide +kernel
theorem dX10_record_33 : decode cX10_record 33 = .ok (.iastore, 1) := by decide +kernel
theorem dX10_record_34 : decode cX10_record 34 = .ok (.iinc 1 1, 3) := by decide +kernel
theorem dX10_record_37 : decode cX10_record 37 = .ok (.goto (-26), 3) := by decide +kernel
theorem dX10_record_40 : decode cX10_record 40 = .ok (.aload_n 0, 1) := by decide +kernel
theorem dX10_record_41 : decode cX10_record 41 = .ok (.dup, 1) := by decide +kernel
theorem dX10_record_42 : decode cX10_record 42 = .ok (.getfield 29, 3) := by decide +kernel
theorem dX10_record_45 : decode cX10_record 45 = .ok (.iconst 1, 1) := by decide +kernel
theorem dX10_record_46 : decode cX10_record 46 = .ok (.isub, 1) := by decide +kernel
theorem dX10_record_47 : decode cX10_record 47 = .ok (.putfield 29, 3) := by decide +kernel
theorem dX10_record_50 : decode cX10_record 50 = .ok (.iconst 0, 1) := by decide +kernel
theorem dX10_record_51 : decode cX10_record 51 = .ok (.istore_n 1, 1) := by decide +kernel
theorem dX10_record_52 : decode cX10_record 52 = .ok (.iload_n 1, 1) := by decide +kernel
theorem dX10_record_53 : decode cX10_record 53 = .ok (.sipush 545, 3) := by decide +kernel
theorem dX10_record_56 : decode cX10_record 56 = .ok (.if_icmp .ge 30, 3) := by decide +kernel
theorem dX10_record_59 : decode cX10_record 59 = .ok (.aload_n 0, 1) := by decide +kernel
theorem dX10_record_60 : decode cX10_record 60 = .ok (.getfield 13, 3) := by decide +kernel
theorem dX10_record_63 : decode cX10_record 63 = .ok (.sipush 545, 3) := by decide +kernel
theorem dX10_record_66 : decode cX10_record 66 = .ok (.aload_n 0, 1) := by decide +kernel
theorem dX10_record_67 : decode cX10_record 67 = .ok (.getfield 29, 3) := by decide +kernel
theorem dX10_record_70 : decode cX10_record 70 = .ok (.imul, 1) := by decide +kernel
theorem dX10_record_71 : decode cX10_record 71 = .ok (.iload_n 1, 1) := by decide +kernel
theorem dX10_record_72 : decode cX10_record 72 = .ok (.iadd, 1) := by decide +kernel
theorem dX10_record_73 : decode cX10_record 73 = .ok (.aload_n 0, 1) := by decide +kernel
theorem dX10_record_74 : decode cX10_record 74 = .ok (.getfield 7, 3) := by decide +kernel
theorem dX10_record_77 : decode cX10_record 77 = .ok (.iload_n 1, 1) := by decide +kernel
theorem dX10_record_78 : decode cX10_record 78 = .ok (.iaload, 1) := by decide +kernel
theorem dX10_record_79 : decode cX10_record 79 = .ok (.iastore, 1) := by decide +kernel
theorem dX10_record_80 : decode cX10_record 80 = .ok (.iinc 1 1, 3) := by decide +kernel
theorem dX10_record_83 : decode cX10_record 83 = .ok (.goto (-31), 3) := by decide +kernel
theorem dX10_record_86 : decode cX10_record 86 = .ok (.aload_n 0, 1) := by decide +kernel
theorem dX10_record_87 : decode cX10_record 87 = .ok (.dup, 1) := by decide +kernel
theorem dX10_record_88 : decode cX10_record 88 = .ok (.getfield 29, 3) := by decide +kernel
theorem dX10_record_91 : decode cX10_record 91 = .ok (.iconst 1, 1) := by decide +kernel
theorem dX10_record_92 : decode cX10_record 92 = .ok (.iadd, 1) := by decide +kernel
theorem dX10_record_93 : decode cX10_record 93 = .ok (.putfield 29, 3) := by decide +kernel
theorem dX10_record_96 : decode cX10_record 96 = .ok (.return_, 1) := by decide +kernel
theorem dX10_act_0 : decode cX10_act 0 = .ok (.aload_n 0, 1) := by decide +kernel
theorem dX10_act_1 : decode cX10_act 1 = .ok (.getfield 33, 3) := by decide +kernel
theorem dX10_act_4 : decode cX10_act 4 = .ok (.ifCond .ne 7, 3) := by decide +kernel
theorem dX10_act_7 : decode cX10_act 7 = .ok (.aload_n 0, 1) := by decide +kernel
theorem dX10_act_8 : decode cX10_act 8 = .ok (.invokevirtual 37, 3) := by decide +kernel
theorem dX10_act_11 : decode cX10_act 11 = .ok (.return_, 1) := by decide +kernel
theorem dX10_isHex_0 : decode cX10_isHex 0 = .ok (.iload_n 0, 1) := by decide +kernel
theorem dX10_isHex_1 : decode cX10_isHex 1 = .ok (.i2l, 1) := by decide +kernel
theorem dX10_isHex_2 : decode cX10_isHex 2 = .ok (.lconst 0, 1) := by decide +kernel
theorem dX10_isHex_3 : decode cX10_isHex 3 = .ok (.ldc2_w 40, 3) := by decide +kernel
theorem dX10_isHex_6 : decode cX10_isHex 6 = .ok (.invokestatic 42, 3) := by decide +kernel
theorem dX10_isHex_9 : decode cX10_isHex 9 = .ok (.ireturn, 1) := by decide +kernel
theorem dX10_next_0 : decode cX10_next 0 = .ok (.iload_n 1, 1) := by decide +kernel
theorem dX10_next_1 : decode cX10_next 1 = .ok (.iconst 1, 1) := by decide +kernel
theorem dX10_next_2 : decode cX10_next 2 = .ok (.if_icmp .eq 8, 3) := by decide +kernel
theorem dX10_next_5 : decode cX10_next 5 = .ok (.iload_n 1, 1) := by decide +kernel
theorem dX10_next_6 : decode cX10_next 6 = .ok (.iconst 2, 1) := by decide +kernel
theorem dX10_next_7 : decode cX10_next 7 = .ok (.if_icmp .ne 7, 3) := by decide +kernel
theorem dX10_next_10 : decode cX10_next 10 = .ok (.iconst 1, 1) := by decide +kernel
theorem dX10_next_11 : decode cX10_next 11 = .ok (.goto 13, 3) := by decide +kernel
theorem dX10_next_14 : decode cX10_next 14 = .ok (.iload_n 1, 1) := by decide +kernel
theorem dX10_next_15 : decode cX10_next 15 = .ok (.iconst 3, 1) := by decide +kernel
theorem dX10_next_16 : decode cX10_next 16 = .ok (.if_icmp .le 7, 3) := by decide +kernel
theorem dX10_next_19 : decode cX10_next 19 = .ok (.iconst (-1), 1) := by decide +kernel
theorem dX10_next_20 : decode cX10_next 20 = .ok (.goto 4, 3) := by decide +kernel
theorem dX10_next_23 : decode cX10_next 23 = .ok (.iconst 0, 1) := by decide +kernel
theorem dX10_next_24 : decode cX10_next 24 = .ok (.istore_n 2, 1) := by decide +kernel
theorem dX10_next_25 : decode cX10_next 25 = .ok (.iload_n 1, 1) := by decide +kernel
theorem dX10_next_26 : decode cX10_next 26 = .ok (.ifCond .eq 8, 3) := by decide +kernel
theorem dX10_next_29 : decode cX10_next 29 = .ok (.iload_n 1, 1) := by decide +kernel
theorem dX10_next_30 : decode cX10_next 30 = .ok (.iconst 5, 1) := by decide +kernel
theorem dX10_next_31 : decode cX10_next 31 = .ok (.if_icmp .ne 7, 3) := by decide +kernel
theorem dX10_next_34 : decode cX10_next 34 = .ok (.iconst 1, 1) := by decide +kernel
theorem dX10_next_35 : decode cX10_next 35 = .ok (.goto 18, 3) := by decide +kernel
theorem dX10_next_38 : decode cX10_next 38 = .ok (.iload_n 1, 1) := by decide +kernel
theorem dX10_next_39 : decode cX10_next 39 = .ok (.iconst 2, 1) := by decide +kernel
theorem dX10_next_40 : decode cX10_next 40 = .ok (.if_icmp .eq 8, 3) := by decide +kernel
theorem dX10_next_43 : decode cX10_next 43 = .ok (.iload_n 1, 1) := by decide +kernel
theorem dX10_next_44 : decode cX10_next 44 = .ok (.iconst 3, 1) := by decide +kernel
theorem dX10_next_45 : decode cX10_next 45 = .ok (.if_icmp .ne 7, 3) := by decide +kernel
theorem dX10_next_48 : decode cX10_next 48 = .ok (.iconst (-1), 1) := by decide +kernel
theorem dX10_next_49 : decode cX10_next 49 = .ok (.goto 4, 3) := by decide +kernel
theorem dX10_next_52 : decode cX10_next 52 = .ok (.iconst 0, 1) := by decide +kernel
theorem dX10_next_53 : decode cX10_next 53 = .ok (.istore_n 3, 1) := by decide +kernel
theorem dX10_next_54 : decode cX10_next 54 = .ok (.iload_n 0, 1) := by decide +kernel
theorem dX10_next_55 : decode cX10_next 55 = .ok (.bipush 9, 2) := by decide +kernel
theorem dX10_next_57 : decode cX10_next 57 = .ok (.idiv, 1) := by decide +kernel
theorem dX10_next_58 : decode cX10_next 58 = .ok (.iload_n 2, 1) := by decide +kernel
theorem dX10_next_59 : decode cX10_next 59 = .ok (.iadd, 1) := by decide +kernel
theorem dX10_next_60 : decode cX10_next 60 = .ok (.istore 4, 2) := by decide +kernel
theorem dX10_next_62 : decode cX10_next 62 = .ok (.iload_n 0, 1) := by decide +kernel
theorem dX10_next_63 : decode cX10_next 63 = .ok (.bipush 9, 2) := by decide +kernel
theorem dX10_next_65 : decode cX10_next 65 = .ok (.irem, 1) := by decide +kernel
theorem dX10_next_66 : decode cX10_next 66 = .ok (.iload_n 3, 1) := by decide +kernel
theorem dX10_next_67 : decode cX10_next 67 = .ok (.iadd, 1) := by decide +kernel
theorem dX10_next_68 : decode cX10_next 68 = .ok (.istore 5, 2) := by decide +kernel
theorem dX10_next_70 : decode cX10_next 70 = .ok (.iload 4, 2) := by decide +kernel
theorem dX10_next_72 : decode cX10_next 72 = .ok (.i2l, 1) := by decide +kernel
theorem dX10_next_73 : decode cX10_next 73 = .ok (.lconst 0, 1) := by decide +kernel
theorem dX10_next_74 : decode cX10_next 74 = .ok (.ldc2_w 46, 3) := by decide +kernel
theorem dX10_next_77 : decode cX10_next 77 = .ok (.invokestatic 42, 3) := by decide +kernel
theorem dX10_next_80 : decode cX10_next 80 = .ok (.ifCond .eq 27, 3) := by decide +kernel
theorem dX10_next_83 : decode cX10_next 83 = .ok (.iload 5, 2) := by decide +kernel
theorem dX10_next_85 : decode cX10_next 85 = .ok (.i2l, 1) := by decide +kernel
theorem dX10_next_86 : decode cX10_next 86 = .ok (.lconst 0, 1) := by decide +kernel
theorem dX10_next_87 : decode cX10_next 87 = .ok (.ldc2_w 46, 3) := by decide +kernel
theorem dX10_next_90 : decode cX10_next 90 = .ok (.invokestatic 42, 3) := by decide +kernel
theorem dX10_next_93 : decode cX10_next 93 = .ok (.ifCond .eq 14, 3) := by decide +kernel
theorem dX10_next_96 : decode cX10_next 96 = .ok (.bipush 9, 2) := by decide +kernel
theorem dX10_next_98 : decode cX10_next 98 = .ok (.iload 4, 2) := by decide +kernel
theorem dX10_next_100 : decode cX10_next 100 = .ok (.imul, 1) := by decide +kernel
theorem dX10_next_101 : decode cX10_next 101 = .ok (.iload 5, 2) := by decide +kernel
theorem dX10_next_103 : decode cX10_next 103 = .ok (.iadd, 1) := by decide +kernel
theorem dX10_next_104 : decode cX10_next 104 = .ok (.goto 4, 3) := by decide +kernel
theorem dX10_next_107 : decode cX10_next 107 = .ok (.iconst (-1), 1) := by decide +kernel
theorem dX10_next_108 : decode cX10_next 108 = .ok (.ireturn, 1) := by decide +kernel
theorem dX10_areBeside_0 : decode cX10_areBeside 0 = .ok (.iconst 0, 1) := by decide +kernel
theorem dX10_areBeside_1 : decode cX10_areBeside 1 = .ok (.istore_n 2, 1) := by decide +kernel
theorem dX10_areBeside_2 : decode cX10_areBeside 2 = .ok (.iconst 0, 1) := by decide +kernel
theorem dX10_areBeside_3 : decode cX10_areBeside 3 = .ok (.istore_n 3, 1) := by decide +kernel
theorem dX10_areBeside_4 : decode cX10_areBeside 4 = .ok (.iload_n 3, 1) := by decide +kernel
theorem dX10_areBeside_5 : decode cX10_areBeside 5 = .ok (.bipush 6, 2) := by decide +kernel
theorem dX10_areBeside_7 : decode cX10_areBeside 7 = .ok (.if_icmp .ge 28, 3) := by decide +kernel
theorem dX10_areBeside_10 : decode cX10_areBeside 10 = .ok (.iload_n 2, 1) := by decide +kernel
theorem dX10_areBeside_11 : decode cX10_areBeside 11 = .ok (.ifCond .ne 12, 3) := by decide +kernel
theorem dX10_areBeside_14 : decode cX10_areBeside 14 = .ok (.iload_n 0, 1) := by decide +kernel
theorem dX10_areBeside_15 : decode cX10_areBeside 15 = .ok (.iload_n 3, 1) := by decide +kernel
theorem dX10_areBeside_16 : decode cX10_areBeside 16 = .ok (.invokestatic 48, 3) := by decide +kernel
theorem dX10_areBeside_19 : decode cX10_areBeside 19 = .ok (.iload_n 1, 1) := by decide +kernel
theorem dX10_areBeside_20 : decode cX10_areBeside 20 = .ok (.if_icmp .ne 7, 3) := by decide +kernel
theorem dX10_areBeside_23 : decode cX10_areBeside 23 = .ok (.iconst 1, 1) := by decide +kernel
theorem dX10_areBeside_24 : decode cX10_areBeside 24 = .ok (.goto 4, 3) := by decide +kernel
theorem dX10_areBeside_27 : decode cX10_areBeside 27 = .ok (.iconst 0, 1) := by decide +kernel
theorem dX10_areBeside_28 : decode cX10_areBeside 28 = .ok (.istore_n 2, 1) := by decide +kernel
theorem dX10_areBeside_29 : decode cX10_areBeside 29 = .ok (.iinc 3 1, 3) := by decide +kernel
theorem dX10_areBeside_32 : decode cX10_areBeside 32 = .ok (.goto (-28), 3) := by decide +kernel
theorem dX10_areBeside_35 : decode cX10_areBeside 35 = .ok (.iload_n 2, 1) := by decide +kernel
theorem dX10_areBeside_36 : decode cX10_areBeside 36 = .ok (.ireturn, 1) := by decide +kernel
theorem dX10_get_0 : decode cX10_get 0 = .ok (.aload_n 0, 1) := by decide +kernel
theorem dX10_get_1 : decode cX10_get 1 = .ok (.getfield 7, 3) := by decide +kernel
theorem dX10_get_4 : decode cX10_get 4 = .ok (.bipush 93, 2) := by decide +kernel
theorem dX10_get_6 : decode cX10_get 6 = .ok (.bipush 11, 2) := by decide +kernel
theorem dX10_get_8 : decode cX10_get 8 = .ok (.iload_n 1, 1) := by decide +kernel
theorem dX10_get_9 : decode cX10_get 9 = .ok (.imul, 1) := by decide +kernel
theorem dX10_get_10 : decode cX10_get 10 = .ok (.iadd, 1) := by decide +kernel
theorem dX10_get_11 : decode cX10_get 11 = .ok (.iload_n 2, 1) := by decide +kernel
theorem dX10_get_12 : decode cX10_get 12 = .ok (.iadd, 1) := by decide +kernel
theorem dX10_get_13 : decode cX10_get 13 = .ok (.iaload, 1) := by decide +kernel
theorem dX10_get_14 : decode cX10_get 14 = .ok (.ireturn, 1) := by decide +kernel
theorem dX10_put_0 : decode cX10_put 0 = .ok (.aload_n 0, 1) := by decide +kernel
theorem dX10_put_1 : decode cX10_put 1 = .ok (.getfield 7, 3) := by decide +kernel
theorem dX10_put_4 : decode cX10_put 4 = .ok (.bipush 93, 2) := by decide +kernel
theorem dX10_put_6 : decode cX10_put 6 = .ok (.bipush 11, 2) := by decide +kernel
theorem dX10_put_8 : decode cX10_put 8 = .ok (.iload_n 1, 1) := by decide +kernel
theorem dX10_put_9 : decode cX10_put 9 = .ok (.imul, 1) := by decide +kernel
theorem dX10_put_10 : decode cX10_put 10 = .ok (.iadd, 1) := by decide +kernel
theorem dX10_put_11 : decode cX10_put 11 = .ok (.iload_n 2, 1) := by decide +kernel
theorem dX10_put_12 : decode cX10_put 12 = .ok (.iadd, 1) := by decide +kernel
theorem dX10_put_13 : decode cX10_put 13 = .ok (.iload_n 3, 1) := by decide +kernel
theorem dX10_put_14 : decode cX10_put 14 = .ok (.iastore, 1) := by decide +kernel
theorem dX10_put_15 : decode cX10_put 15 = .ok (.return_, 1) := by decide +kernel
theorem dX10_isShip_0 : decode cX10_isShip 0 = .ok (.iload_n 1, 1) := by decide +kernel
theorem dX10_isShip_1 : decode cX10_isShip 1 = .ok (.i2l, 1) := by decide +kernel
theorem dX10_isShip_2 : decode cX10_isShip 2 = .ok (.lconst 0, 1) := by decide +kernel
theorem dX10_isShip_3 : decode cX10_isShip 3 = .ok (.aload_n 0, 1) := by decide +kernel
theorem dX10_isShip_4 : decode cX10_isShip 4 = .ok (.getfield 7, 3) := by decide +kernel
theorem dX10_isShip_7 : decode cX10_isShip 7 = .ok (.bipush 10, 2) := by decide +kernel
theorem dX10_isShip_9 : decode cX10_isShip 9 = .ok (.iaload, 1) := by decide +kernel
theorem dX10_isShip_10 : decode cX10_isShip 10 = .ok (.iconst 1, 1) := by decide +kernel
theorem dX10_isShip_11 : decode cX10_isShip 11 = .ok (.isub, 1) := by decide +kernel
theorem dX10_isShip_12 : decode cX10_isShip 12 = .ok (.i2l, 1) := by decide +kernel
theorem dX10_isShip_13 : decode cX10_isShip 13 = .ok (.invokestatic 42, 3) := by decide +kernel
theorem dX10_isShip_16 : decode cX10_isShip 16 = .ok (.ireturn, 1) := by decide +kernel
theorem dX10_floats_0 : decode cX10_floats 0 = .ok (.aload_n 0, 1) := by decide +kernel
theorem dX10_floats_1 : decode cX10_floats 1 = .ok (.iload_n 1, 1) := by decide +kernel
theorem dX10_floats_2 : decode cX10_floats 2 = .ok (.iconst 1, 1) := by decide +kernel
theorem dX10_floats_3 : decode cX10_floats 3 = .ok (.invokevirtual 52, 3) := by decide +kernel
theorem dX10_floats_6 : decode cX10_floats 6 = .ok (.ifCond .lt 7, 3) := by decide +kernel
theorem dX10_floats_9 : decode cX10_floats 9 = .ok (.iconst 1, 1) := by decide +kernel
theorem dX10_floats_10 : decode cX10_floats 10 = .ok (.goto 4, 3) := by decide +kernel
theorem dX10_floats_13 : decode cX10_floats 13 = .ok (.iconst 0, 1) := by decide +kernel
theorem dX10_floats_14 : decode cX10_floats 14 = .ok (.ireturn, 1) := by decide +kernel
theorem dX10_shipOn_0 : decode cX10_shipOn 0 = .ok (.iconst 0, 1) := by decide +kernel
theorem dX10_shipOn_1 : decode cX10_shipOn 1 = .ok (.istore_n 2, 1) := by decide +kernel
theorem dX10_shipOn_2 : decode cX10_shipOn 2 = .ok (.iload_n 2, 1) := by decide +kernel
theorem dX10_shipOn_3 : decode cX10_shipOn 3 = .ok (.aload_n 0, 1) := by decide +kernel
theorem dX10_shipOn_4 : decode cX10_shipOn 4 = .ok (.getfield 7, 3) := by decide +kernel
theorem dX10_shipOn_7 : decode cX10_shipOn 7 = .ok (.bipush 10, 2) := by decide +kernel
theorem dX10_shipOn_9 : decode cX10_shipOn 9 = .ok (.iaload, 1) := by decide +kernel
theorem dX10_shipOn_10 : decode cX10_shipOn 10 = .ok (.if_icmp .ge 21, 3) := by decide +kernel
theorem dX10_shipOn_13 : decode cX10_shipOn 13 = .ok (.aload_n 0, 1) := by decide +kernel
theorem dX10_shipOn_14 : decode cX10_shipOn 14 = .ok (.iload_n 2, 1) := by decide +kernel
theorem dX10_shipOn_15 : decode cX10_shipOn 15 = .ok (.iconst 1, 1) := by decide +kernel
theorem dX10_shipOn_16 : decode cX10_shipOn 16 = .ok (.invokevirtual 52, 3) := by decide +kernel
theorem dX10_shipOn_19 : decode cX10_shipOn 19 = .ok (.iload_n 1, 1) := by decide +kernel
theorem dX10_shipOn_20 : decode cX10_shipOn 20 = .ok (.if_icmp .ne 5, 3) := by decide +kernel
theorem dX10_shipOn_23 : decode cX10_shipOn 23 = .ok (.iload_n 2, 1) := by decide +kernel
theorem dX10_shipOn_24 : decode cX10_shipOn 24 = .ok (.ireturn, 1) := by decide +kernel
theorem dX10_shipOn_25 : decode cX10_shipOn 25 = .ok (.iinc 2 1, 3) := by decide +kernel
theorem dX10_shipOn_28 : decode cX10_shipOn 28 = .ok (.goto (-26), 3) := by decide +kernel
theorem dX10_shipOn_31 : decode cX10_shipOn 31 = .ok (.iconst (-1), 1) := by decide +kernel
theorem dX10_shipOn_32 : decode cX10_shipOn 32 = .ok (.ireturn, 1) := by decide +kernel
theorem dX10_isFree_0 : decode cX10_isFree 0 = .ok (.aload_n 0, 1) := by decide +kernel
theorem dX10_isFree_1 : decode cX10_isFree 1 = .ok (.getfield 7, 3) := by decide +kernel
theorem dX10_isFree_4 : decode cX10_isFree 4 = .ok (.bipush 12, 2) := by decide +kernel
theorem dX10_isFree_6 : decode cX10_isFree 6 = .ok (.iload_n 1, 1) := by decide +kernel
theorem dX10_isFree_7 : decode cX10_isFree 7 = .ok (.iadd, 1) := by decide +kernel
theorem dX10_isFree_8 : decode cX10_isFree 8 = .ok (.iaload, 1) := by decide +kernel
theorem dX10_isFree_9 : decode cX10_isFree 9 = .ok (.ifCond .ne 15, 3) := by decide +kernel
theorem dX10_isFree_12 : decode cX10_isFree 12 = .ok (.aload_n 0, 1) := by decide +kernel
theorem dX10_isFree_13 : decode cX10_isFree 13 = .ok (.iload_n 1, 1) := by decide +kernel
theorem dX10_isFree_14 : decode cX10_isFree 14 = .ok (.invokevirtual 55, 3) := by decide +kernel
theorem dX10_isFree_17 : decode cX10_isFree 17 = .ok (.ifCond .ge 7, 3) := by decide +kernel
theorem dX10_isFree_20 : decode cX10_isFree 20 = .ok (.iconst 1, 1) := by decide +kernel
theorem dX10_isFree_21 : decode cX10_isFree 21 = .ok (.goto 4, 3) := by decide +kernel
theorem dX10_isFree_24 : decode cX10_isFree 24 = .ok (.iconst 0, 1) := by decide +kernel
theorem dX10_isFree_25 : decode cX10_isFree 25 = .ok (.ireturn, 1) := by decide +kernel
theorem dX10_isCaptain_0 : decode cX10_isCaptain 0 = .ok (.iload_n 0, 1) := by decide +kernel
theorem dX10_isCaptain_1 : decode cX10_isCaptain 1 = .ok (.i2l, 1) := by decide +kernel
theorem dX10_isCaptain_2 : decode cX10_isCaptain 2 = .ok (.lconst 0, 1) := by decide +kernel
theorem dX10_isCaptain_3 : decode cX10_isCaptain 3 = .ok (.lconst 1, 1) := by decide +kernel
theorem dX10_isCaptain_4 : decode cX10_isCaptain 4 = .ok (.invokestatic 42, 3) := by decide +kernel
theorem dX10_isCaptain_7 : decode cX10_isCaptain 7 = .ok (.ireturn, 1) := by decide +kernel
theorem dX10_islands_0 : decode cX10_islands 0 = .ok (.iconst 0, 1) := by decide +kernel
theorem dX10_islands_1 : decode cX10_islands 1 = .ok (.istore_n 1, 1) := by decide +kernel
theorem dX10_islands_2 : decode cX10_islands 2 = .ok (.iconst 0, 1) := by decide +kernel
theorem dX10_islands_3 : decode cX10_islands 3 = .ok (.istore_n 2, 1) := by decide +kernel
theorem dX10_islands_4 : decode cX10_islands 4 = .ok (.iload_n 2, 1) := by decide +kernel
theorem dX10_islands_5 : decode cX10_islands 5 = .ok (.bipush 81, 2) := by decide +kernel
theorem dX10_islands_7 : decode cX10_islands 7 = .ok (.if_icmp .ge 21, 3) := by decide +kernel
theorem dX10_islands_10 : decode cX10_islands 10 = .ok (.iload_n 1, 1) := by decide +kernel
theorem dX10_islands_11 : decode cX10_islands 11 = .ok (.aload_n 0, 1) := by decide +kernel
theorem dX10_islands_12 : decode cX10_islands 12 = .ok (.getfield 7, 3) := by decide +kernel
theorem dX10_islands_15 : decode cX10_islands 15 = .ok (.bipush 12, 2) := by decide +kernel
theorem dX10_islands_17 : decode cX10_islands 17 = .ok (.iload_n 2, 1) := by decide +kernel
theorem dX10_islands_18 : decode cX10_islands 18 = .ok (.iadd, 1) := by decide +kernel
theorem dX10_islands_19 : decode cX10_islands 19 = .ok (.iaload, 1) := by decide +kernel
theorem dX10_islands_20 : decode cX10_islands 20 = .ok (.iadd, 1) := by decide +kernel
theorem dX10_islands_21 : decode cX10_islands 21 = .ok (.istore_n 1, 1) := by decide +kernel
theorem dX10_islands_22 : decode cX10_islands 22 = .ok (.iinc 2 1, 3) := by decide +kernel
theorem dX10_islands_25 : decode cX10_islands 25 = .ok (.goto (-21), 3) := by decide +kernel
theorem dX10_islands_28 : decode cX10_islands 28 = .ok (.iload_n 1, 1) := by decide +kernel
theorem dX10_islands_29 : decode cX10_islands 29 = .ok (.ireturn, 1) := by decide +kernel
theorem dX10_setIsland_0 : decode cX10_setIsland 0 = .ok (.iload_n 1, 1) := by decide +kernel
theorem dX10_setIsland_1 : decode cX10_setIsland 1 = .ok (.invokestatic 59, 3) := by decide +kernel
theorem dX10_setIsland_4 : decode cX10_setIsland 4 = .ok (.ifCond .eq 13, 3) := by decide +kernel
theorem dX10_setIsland_7 : decode cX10_setIsland 7 = .ok (.iload_n 2, 1) := by decide +kernel
theorem dX10_setIsland_8 : decode cX10_setIsland 8 = .ok (.i2l, 1) := by decide +kernel
theorem dX10_setIsland_9 : decode cX10_setIsland 9 = .ok (.lconst 0, 1) := by decide +kernel
theorem dX10_setIsland_10 : decode cX10_setIsland 10 = .ok (.lconst 1, 1) := by decide +kernel
theorem dX10_setIsland_11 : decode cX10_setIsland 11 = .ok (.invokestatic 42, 3) := by decide +kernel
theorem dX10_setIsland_14 : decode cX10_setIsland 14 = .ok (.ifCond .ne 5, 3) := by decide +kernel
theorem dX10_setIsland_17 : decode cX10_setIsland 17 = .ok (.iconst (-1), 1) := by decide +kernel
theorem dX10_setIsland_18 : decode cX10_setIsland 18 = .ok (.ireturn, 1) := by decide +kernel
theorem dX10_setIsland_19 : decode cX10_setIsland 19 = .ok (.aload_n 0, 1) := by decide +kernel
theorem dX10_setIsland_20 : decode cX10_setIsland 20 = .ok (.iload_n 1, 1) := by decide +kernel
theorem dX10_setIsland_21 : decode cX10_setIsland 21 = .ok (.invokevirtual 55, 3) := by decide +kernel
theorem dX10_setIsland_24 : decode cX10_setIsland 24 = .ok (.ifCond .lt 6, 3) := by decide +kernel
theorem dX10_setIsland_27 : decode cX10_setIsland 27 = .ok (.bipush (-2), 2) := by decide +kernel
theorem dX10_setIsland_29 : decode cX10_setIsland 29 = .ok (.ireturn, 1) := by decide +kernel
theorem dX10_setIsland_30 : decode cX10_setIsland 30 = .ok (.aload_n 0, 1) := by decide +kernel
theorem dX10_setIsland_31 : decode cX10_setIsland 31 = .ok (.invokevirtual 63, 3) := by decide +kernel
theorem dX10_setIsland_34 : decode cX10_setIsland 34 = .ok (.aload_n 0, 1) := by decide +kernel
theorem dX10_setIsland_35 : decode cX10_setIsland 35 = .ok (.getfield 7, 3) := by decide +kernel
theorem dX10_setIsland_38 : decode cX10_setIsland 38 = .ok (.bipush 12, 2) := by decide +kernel
theorem dX10_setIsland_40 : decode cX10_setIsland 40 = .ok (.iload_n 1, 1) := by decide +kernel
theorem dX10_setIsland_41 : decode cX10_setIsland 41 = .ok (.iadd, 1) := by decide +kernel
theorem dX10_setIsland_42 : decode cX10_setIsland 42 = .ok (.iload_n 2, 1) := by decide +kernel
theorem dX10_setIsland_43 : decode cX10_setIsland 43 = .ok (.iastore, 1) := by decide +kernel
theorem dX10_setIsland_44 : decode cX10_setIsland 44 = .ok (.aload_n 0, 1) := by decide +kernel
theorem dX10_setIsland_45 : decode cX10_setIsland 45 = .ok (.invokevirtual 66, 3) := by decide +kernel
theorem dX10_setIsland_48 : decode cX10_setIsland 48 = .ok (.ireturn, 1) := by decide +kernel
theorem dX10_addShip_0 : decode cX10_addShip 0 = .ok (.iload_n 1, 1) := by decide +kernel
theorem dX10_addShip_1 : decode cX10_addShip 1 = .ok (.invokestatic 70, 3) := by decide +kernel
theorem dX10_addShip_4 : decode cX10_addShip 4 = .ok (.ifCond .eq 61, 3) := by decide +kernel
theorem dX10_addShip_7 : decode cX10_addShip 7 = .ok (.iload_n 2, 1) := by decide +kernel
theorem dX10_addShip_8 : decode cX10_addShip 8 = .ok (.invokestatic 59, 3) := by decide +kernel
theorem dX10_addShip_11 : decode cX10_addShip 11 = .ok (.ifCond .eq 54, 3) := by decide +kernel
theorem dX10_addShip_14 : decode cX10_addShip 14 = .ok (.iload_n 3, 1) := by decide +kernel
theorem dX10_addShip_15 : decode cX10_addShip 15 = .ok (.i2l, 1) := by decide +kernel
theorem dX10_addShip_16 : decode cX10_addShip 16 = .ok (.lconst 0, 1) := by decide +kernel
theorem dX10_addShip_17 : decode cX10_addShip 17 = .ok (.ldc2_w 73, 3) := by decide +kernel
theorem dX10_addShip_20 : decode cX10_addShip 20 = .ok (.invokestatic 42, 3) := by decide +kernel
theorem dX10_addShip_23 : decode cX10_addShip 23 = .ok (.ifCond .eq 42, 3) := by decide +kernel
theorem dX10_addShip_26 : decode cX10_addShip 26 = .ok (.iload 4, 2) := by decide +kernel
theorem dX10_addShip_28 : decode cX10_addShip 28 = .ok (.i2l, 1) := by decide +kernel
theorem dX10_addShip_29 : decode cX10_addShip 29 = .ok (.lconst 1, 1) := by decide +kernel
theorem dX10_addShip_30 : decode cX10_addShip 30 = .ok (.ldc2_w 46, 3) := by decide +kernel
theorem dX10_addShip_33 : decode cX10_addShip 33 = .ok (.invokestatic 42, 3) := by decide +kernel
theorem dX10_addShip_36 : decode cX10_addShip 36 = .ok (.ifCond .eq 29, 3) := by decide +kernel
theorem dX10_addShip_39 : decode cX10_addShip 39 = .ok (.iload 5, 2) := by decide +kernel
theorem dX10_addShip_41 : decode cX10_addShip 41 = .ok (.i2l, 1) := by decide +kernel
theorem dX10_addShip_42 : decode cX10_addShip 42 = .ok (.lconst 1, 1) := by decide +kernel
theorem dX10_addShip_43 : decode cX10_addShip 43 = .ok (.ldc2_w 75, 3) := by decide +kernel
theorem dX10_addShip_46 : decode cX10_addShip 46 = .ok (.invokestatic 42, 3) := by decide +kernel
theorem dX10_addShip_49 : decode cX10_addShip 49 = .ok (.ifCond .eq 16, 3) := by decide +kernel
theorem dX10_addShip_52 : decode cX10_addShip 52 = .ok (.iload 6, 2) := by decide +kernel
theorem dX10_addShip_54 : decode cX10_addShip 54 = .ok (.i2l, 1) := by decide +kernel
theorem dX10_addShip_55 : decode cX10_addShip 55 = .ok (.lconst 0, 1) := by decide +kernel
theorem dX10_addShip_56 : decode cX10_addShip 56 = .ok (.ldc2_w 77, 3) := by decide +kernel
theorem dX10_addShip_59 : decode cX10_addShip 59 = .ok (.invokestatic 42, 3) := by decide +kernel
theorem dX10_addShip_62 : decode cX10_addShip 62 = .ok (.ifCond .ne 5, 3) := by decide +kernel
theorem dX10_addShip_65 : decode cX10_addShip 65 = .ok (.iconst (-1), 1) := by decide +kernel
theorem dX10_addShip_66 : decode cX10_addShip 66 = .ok (.ireturn, 1) := by decide +kernel
theorem dX10_addShip_67 : decode cX10_addShip 67 = .ok (.aload_n 0, 1) := by decide +kernel
theorem dX10_addShip_68 : decode cX10_addShip 68 = .ok (.iload_n 2, 1) := by decide +kernel
theorem dX10_addShip_69 : decode cX10_addShip 69 = .ok (.invokevirtual 79, 3) := by decide +kernel
theorem dX10_addShip_72 : decode cX10_addShip 72 = .ok (.ifCond .ne 6, 3) := by decide +kernel
theorem dX10_addShip_75 : decode cX10_addShip 75 = .ok (.bipush (-2), 2) := by decide +kernel
theorem dX10_addShip_77 : decode cX10_addShip 77 = .ok (.ireturn, 1) := by decide +kernel
theorem dX10_addShip_78 : decode cX10_addShip 78 = .ok (.aload_n 0, 1) := by decide +kernel
theorem dX10_addShip_79 : decode cX10_addShip 79 = .ok (.getfield 7, 3) := by decide +kernel
theorem dX10_addShip_82 : decode cX10_addShip 82 = .ok (.bipush 10, 2) := by decide +kernel
theorem dX10_addShip_84 : decode cX10_addShip 84 = .ok (.iaload, 1) := by decide +kernel
theorem dX10_addShip_85 : decode cX10_addShip 85 = .ok (.bipush 8, 2) := by decide +kernel
theorem dX10_addShip_87 : decode cX10_addShip 87 = .ok (.if_icmp .ne 6, 3) := by decide +kernel
theorem dX10_addShip_90 : decode cX10_addShip 90 = .ok (.bipush (-3), 2) := by decide +kernel
theorem dX10_addShip_92 : decode cX10_addShip 92 = .ok (.ireturn, 1) := by decide +kernel
theorem dX10_addShip_93 : decode cX10_addShip 93 = .ok (.aload_n 0, 1) := by decide +kernel
theorem dX10_addShip_94 : decode cX10_addShip 94 = .ok (.invokevirtual 63, 3) := by decide +kernel
theorem dX10_addShip_97 : decode cX10_addShip 97 = .ok (.aload_n 0, 1) := by decide +kernel
theorem dX10_addShip_98 : decode cX10_addShip 98 = .ok (.getfield 7, 3) := by decide +kernel
theorem dX10_addShip_101 : decode cX10_addShip 101 = .ok (.bipush 10, 2) := by decide +kernel
theorem dX10_addShip_103 : decode cX10_addShip 103 = .ok (.iaload, 1) := by decide +kernel
theorem dX10_addShip_104 : decode cX10_addShip 104 = .ok (.istore 7, 2) := by decide +kernel
theorem dX10_addShip_106 : decode cX10_addShip 106 = .ok (.aload_n 0, 1) := by decide +kernel
theorem dX10_addShip_107 : decode cX10_addShip 107 = .ok (.getfield 7, 3) := by decide +kernel
theorem dX10_addShip_110 : decode cX10_addShip 110 = .ok (.bipush 10, 2) := by decide +kernel
theorem dX10_addShip_112 : decode cX10_addShip 112 = .ok (.dup2, 1) := by decide +kernel
theorem dX10_addShip_113 : decode cX10_addShip 113 = .ok (.iaload, 1) := by decide +kernel
theorem dX10_addShip_114 : decode cX10_addShip 114 = .ok (.iconst 1, 1) := by decide +kernel
theorem dX10_addShip_115 : decode cX10_addShip 115 = .ok (.iadd, 1) := by decide +kernel
theorem dX10_addShip_116 : decode cX10_addShip 116 = .ok (.iastore, 1) := by decide +kernel
theorem dX10_addShip_117 : decode cX10_addShip 117 = .ok (.aload_n 0, 1) := by decide +kernel
theorem dX10_addShip_118 : decode cX10_addShip 118 = .ok (.iload 7, 2) := by decide +kernel
theorem dX10_addShip_120 : decode cX10_addShip 120 = .ok (.iconst 0, 1) := by decide +kernel
theorem dX10_addShip_121 : decode cX10_addShip 121 = .ok (.iload_n 1, 1) := by decide +kernel
theorem dX10_addShip_122 : decode cX10_addShip 122 = .ok (.invokevirtual 82, 3) := by decide +kernel
theorem dX10_addShip_125 : decode cX10_addShip 125 = .ok (.aload_n 0, 1) := by decide +kernel
theorem dX10_addShip_126 : decode cX10_addShip 126 = .ok (.iload 7, 2) := by decide +kernel
theorem dX10_addShip_128 : decode cX10_addShip 128 = .ok (.iconst 1, 1) := by decide +kernel
theorem dX10_addShip_129 : decode cX10_addShip 129 = .ok (.iload_n 2, 1) := by decide +kernel
theorem dX10_addShip_130 : decode cX10_addShip 130 = .ok (.invokevirtual 82, 3) := by decide +kernel
theorem dX10_addShip_133 : decode cX10_addShip 133 = .ok (.aload_n 0, 1) := by decide +kernel
theorem dX10_addShip_134 : decode cX10_addShip 134 = .ok (.iload 7, 2) := by decide +kernel
theorem dX10_addShip_136 : decode cX10_addShip 136 = .ok (.iconst 2, 1) := by decide +kernel
theorem dX10_addShip_137 : decode cX10_addShip 137 = .ok (.iload_n 3, 1) := by decide +kernel
theorem dX10_addShip_138 : decode cX10_addShip 138 = .ok (.invokevirtual 82, 3) := by decide +kernel
theorem dX10_addShip_141 : decode cX10_addShip 141 = .ok (.aload_n 0, 1) := by decide +kernel
theorem dX10_addShip_142 : decode cX10_addShip 142 = .ok (.iload 7, 2) := by decide +kernel
theorem dX10_addShip_144 : decode cX10_addShip 144 = .ok (.iconst 3, 1) := by decide +kernel
theorem dX10_addShip_145 : decode cX10_addShip 145 = .ok (.bipush 20, 2) := by decide +kernel
theorem dX10_addShip_147 : decode cX10_addShip 147 = .ok (.invokevirtual 82, 3) := by decide +kernel
theorem dX10_addShip_150 : decode cX10_addShip 150 = .ok (.aload_n 0, 1) := by decide +kernel
theorem dX10_addShip_151 : decode cX10_addShip 151 = .ok (.iload 7, 2) := by decide +kernel
theorem dX10_addShip_153 : decode cX10_addShip 153 = .ok (.iconst 4, 1) := by decide +kernel
theorem dX10_addShip_154 : decode cX10_addShip 154 = .ok (.iload 4, 2) := by decide +kernel
theorem dX10_addShip_156 : decode cX10_addShip 156 = .ok (.invokevirtual 82, 3) := by decide +kernel
theorem dX10_addShip_159 : decode cX10_addShip 159 = .ok (.aload_n 0, 1) := by decide +kernel
theorem dX10_addShip_160 : decode cX10_addShip 160 = .ok (.iload 7, 2) := by decide +kernel
theorem dX10_addShip_162 : decode cX10_addShip 162 = .ok (.iconst 5, 1) := by decide +kernel
theorem dX10_addShip_163 : decode cX10_addShip 163 = .ok (.iload 5, 2) := by decide +kernel
theorem dX10_addShip_165 : decode cX10_addShip 165 = .ok (.invokevirtual 82, 3) := by decide +kernel
theorem dX10_addShip_168 : decode cX10_addShip 168 = .ok (.aload_n 0, 1) := by decide +kernel
theorem dX10_addShip_169 : decode cX10_addShip 169 = .ok (.iload 7, 2) := by decide +kernel
theorem dX10_addShip_171 : decode cX10_addShip 171 = .ok (.bipush 6, 2) := by decide +kernel
theorem dX10_addShip_173 : decode cX10_addShip 173 = .ok (.iload 6, 2) := by decide +kernel
theorem dX10_addShip_175 : decode cX10_addShip 175 = .ok (.invokevirtual 82, 3) := by decide +kernel
theorem dX10_addShip_178 : decode cX10_addShip 178 = .ok (.aload_n 0, 1) := by decide +kernel
theorem dX10_addShip_179 : decode cX10_addShip 179 = .ok (.iload 7, 2) := by decide +kernel
theorem dX10_addShip_181 : decode cX10_addShip 181 = .ok (.bipush 7, 2) := by decide +kernel
theorem dX10_addShip_183 : decode cX10_addShip 183 = .ok (.iconst (-1), 1) := by decide +kernel
theorem dX10_addShip_184 : decode cX10_addShip 184 = .ok (.invokevirtual 82, 3) := by decide +kernel
theorem dX10_addShip_187 : decode cX10_addShip 187 = .ok (.aload_n 0, 1) := by decide +kernel
theorem dX10_addShip_188 : decode cX10_addShip 188 = .ok (.iload 7, 2) := by decide +kernel
theorem dX10_addShip_190 : decode cX10_addShip 190 = .ok (.bipush 8, 2) := by decide +kernel
theorem dX10_addShip_192 : decode cX10_addShip 192 = .ok (.bipush (-9), 2) := by decide +kernel
theorem dX10_addShip_194 : decode cX10_addShip 194 = .ok (.invokevirtual 82, 3) := by decide +kernel
theorem dX10_addShip_197 : decode cX10_addShip 197 = .ok (.aload_n 0, 1) := by decide +kernel
theorem dX10_addShip_198 : decode cX10_addShip 198 = .ok (.iload 7, 2) := by decide +kernel
theorem dX10_addShip_200 : decode cX10_addShip 200 = .ok (.bipush 9, 2) := by decide +kernel
theorem dX10_addShip_202 : decode cX10_addShip 202 = .ok (.bipush (-9), 2) := by decide +kernel
theorem dX10_addShip_204 : decode cX10_addShip 204 = .ok (.invokevirtual 82, 3) := by decide +kernel
theorem dX10_addShip_207 : decode cX10_addShip 207 = .ok (.aload_n 0, 1) := by decide +kernel
theorem dX10_addShip_208 : decode cX10_addShip 208 = .ok (.iload 7, 2) := by decide +kernel
theorem dX10_addShip_210 : decode cX10_addShip 210 = .ok (.bipush 10, 2) := by decide +kernel
theorem dX10_addShip_212 : decode cX10_addShip 212 = .ok (.iconst 0, 1) := by decide +kernel
theorem dX10_addShip_213 : decode cX10_addShip 213 = .ok (.invokevirtual 82, 3) := by decide +kernel
theorem dX10_addShip_216 : decode cX10_addShip 216 = .ok (.iload 7, 2) := by decide +kernel
theorem dX10_addShip_218 : decode cX10_addShip 218 = .ok (.ireturn, 1) := by decide +kernel
theorem dX10_setTimber_0 : decode cX10_setTimber 0 = .ok (.iload_n 1, 1) := by decide +kernel
theorem dX10_setTimber_1 : decode cX10_setTimber 1 = .ok (.invokestatic 70, 3) := by decide +kernel
theorem dX10_setTimber_4 : decode cX10_setTimber 4 = .ok (.ifCond .eq 15, 3) := by decide +kernel
theorem dX10_setTimber_7 : decode cX10_setTimber 7 = .ok (.iload_n 2, 1) := by decide +kernel
theorem dX10_setTimber_8 : decode cX10_setTimber 8 = .ok (.i2l, 1) := by decide +kernel
theorem dX10_setTimber_9 : decode cX10_setTimber 9 = .ok (.lconst 0, 1) := by decide +kernel
theorem dX10_setTimber_10 : decode cX10_setTimber 10 = .ok (.ldc2_w 86, 3) := by decide +kernel
theorem dX10_setTimber_13 : decode cX10_setTimber 13 = .ok (.invokestatic 42, 3) := by decide +kernel
theorem dX10_setTimber_16 : decode cX10_setTimber 16 = .ok (.ifCond .ne 5, 3) := by decide +kernel
theorem dX10_setTimber_19 : decode cX10_setTimber 19 = .ok (.iconst (-1), 1) := by decide +kernel
theorem dX10_setTimber_20 : decode cX10_setTimber 20 = .ok (.ireturn, 1) := by decide +kernel
theorem dX10_setTimber_21 : decode cX10_setTimber 21 = .ok (.aload_n 0, 1) := by decide +kernel
theorem dX10_setTimber_22 : decode cX10_setTimber 22 = .ok (.invokevirtual 63, 3) := by decide +kernel
theorem dX10_setTimber_25 : decode cX10_setTimber 25 = .ok (.aload_n 0, 1) := by decide +kernel
theorem dX10_setTimber_26 : decode cX10_setTimber 26 = .ok (.getfield 7, 3) := by decide +kernel
theorem dX10_setTimber_29 : decode cX10_setTimber 29 = .ok (.bipush 8, 2) := by decide +kernel
theorem dX10_setTimber_31 : decode cX10_setTimber 31 = .ok (.iload_n 1, 1) := by decide +kernel
theorem dX10_setTimber_32 : decode cX10_setTimber 32 = .ok (.iadd, 1) := by decide +kernel
theorem dX10_setTimber_33 : decode cX10_setTimber 33 = .ok (.iaload, 1) := by decide +kernel
theorem dX10_setTimber_34 : decode cX10_setTimber 34 = .ok (.istore_n 3, 1) := by decide +kernel
theorem dX10_setTimber_35 : decode cX10_setTimber 35 = .ok (.aload_n 0, 1) := by decide +kernel
theorem dX10_setTimber_36 : decode cX10_setTimber 36 = .ok (.getfield 7, 3) := by decide +kernel
theorem dX10_setTimber_39 : decode cX10_setTimber 39 = .ok (.bipush 8, 2) := by decide +kernel
theorem dX10_setTimber_41 : decode cX10_setTimber 41 = .ok (.iload_n 1, 1) := by decide +kernel
theorem dX10_setTimber_42 : decode cX10_setTimber 42 = .ok (.iadd, 1) := by decide +kernel
theorem dX10_setTimber_43 : decode cX10_setTimber 43 = .ok (.iload_n 2, 1) := by decide +kernel
theorem dX10_setTimber_44 : decode cX10_setTimber 44 = .ok (.iastore, 1) := by decide +kernel
theorem dX10_setTimber_45 : decode cX10_setTimber 45 = .ok (.iload_n 3, 1) := by decide +kernel
theorem dX10_setTimber_46 : decode cX10_setTimber 46 = .ok (.ireturn, 1) := by decide +kernel
theorem dX10_toldSet_0 : decode cX10_toldSet 0 = .ok (.aload_n 0, 1) := by decide +kernel
theorem dX10_toldSet_1 : decode cX10_toldSet 1 = .ok (.getfield 7, 3) := by decide +kernel
theorem dX10_toldSet_4 : decode cX10_toldSet 4 = .ok (.iconst 1, 1) := by decide +kernel
theorem dX10_toldSet_5 : decode cX10_toldSet 5 = .ok (.iaload, 1) := by decide +kernel
theorem dX10_toldSet_6 : decode cX10_toldSet 6 = .ok (.iconst 1, 1) := by decide +kernel
theorem dX10_toldSet_7 : decode cX10_toldSet 7 = .ok (.if_icmp .ne 7, 3) := by decide +kernel
theorem dX10_toldSet_10 : decode cX10_toldSet 10 = .ok (.iconst 3, 1) := by decide +kernel
theorem dX10_toldSet_11 : decode cX10_toldSet 11 = .ok (.goto 34, 3) := by decide +kernel
theorem dX10_toldSet_14 : decode cX10_toldSet 14 = .ok (.aload_n 0, 1) := by decide +kernel
theorem dX10_toldSet_15 : decode cX10_toldSet 15 = .ok (.getfield 7, 3) := by decide +kernel
theorem dX10_toldSet_18 : decode cX10_toldSet 18 = .ok (.bipush 6, 2) := by decide +kernel
theorem dX10_toldSet_20 : decode cX10_toldSet 20 = .ok (.iaload, 1) := by decide +kernel
theorem dX10_toldSet_21 : decode cX10_toldSet 21 = .ok (.ifCond .lt 7, 3) := by decide +kernel
theorem dX10_toldSet_24 : decode cX10_toldSet 24 = .ok (.iconst 1, 1) := by decide +kernel
theorem dX10_toldSet_25 : decode cX10_toldSet 25 = .ok (.goto 4, 3) := by decide +kernel
theorem dX10_toldSet_28 : decode cX10_toldSet 28 = .ok (.iconst 0, 1) := by decide +kernel
theorem dX10_toldSet_29 : decode cX10_toldSet 29 = .ok (.aload_n 0, 1) := by decide +kernel
theorem dX10_toldSet_30 : decode cX10_toldSet 30 = .ok (.getfield 7, 3) := by decide +kernel
theorem dX10_toldSet_33 : decode cX10_toldSet 33 = .ok (.bipush 7, 2) := by decide +kernel
theorem dX10_toldSet_35 : decode cX10_toldSet 35 = .ok (.iaload, 1) := by decide +kernel
theorem dX10_toldSet_36 : decode cX10_toldSet 36 = .ok (.ifCond .lt 7, 3) := by decide +kernel
theorem dX10_toldSet_39 : decode cX10_toldSet 39 = .ok (.iconst 2, 1) := by decide +kernel
theorem dX10_toldSet_40 : decode cX10_toldSet 40 = .ok (.goto 4, 3) := by decide +kernel
theorem dX10_toldSet_43 : decode cX10_toldSet 43 = .ok (.iconst 0, 1) := by decide +kernel
theorem dX10_toldSet_44 : decode cX10_toldSet 44 = .ok (.iadd, 1) := by decide +kernel
theorem dX10_toldSet_45 : decode cX10_toldSet 45 = .ok (.ireturn, 1) := by decide +kernel
theorem dX10_tell_0 : decode cX10_tell 0 = .ok (.iload_n 1, 1) := by decide +kernel
theorem dX10_tell_1 : decode cX10_tell 1 = .ok (.invokestatic 70, 3) := by decide +kernel
theorem dX10_tell_4 : decode cX10_tell 4 = .ok (.ifCond .eq 15, 3) := by decide +kernel
theorem dX10_tell_7 : decode cX10_tell 7 = .ok (.iload_n 2, 1) := by decide +kernel
theorem dX10_tell_8 : decode cX10_tell 8 = .ok (.i2l, 1) := by decide +kernel
theorem dX10_tell_9 : decode cX10_tell 9 = .ok (.lconst 0, 1) := by decide +kernel
theorem dX10_tell_10 : decode cX10_tell 10 = .ok (.ldc2_w 73, 3) := by decide +kernel
theorem dX10_tell_13 : decode cX10_tell 13 = .ok (.invokestatic 42, 3) := by decide +kernel
theorem dX10_tell_16 : decode cX10_tell 16 = .ok (.ifCond .ne 5, 3) := by decide +kernel
theorem dX10_tell_19 : decode cX10_tell 19 = .ok (.iconst (-1), 1) := by decide +kernel
theorem dX10_tell_20 : decode cX10_tell 20 = .ok (.ireturn, 1) := by decide +kernel
theorem dX10_tell_21 : decode cX10_tell 21 = .ok (.aload_n 0, 1) := by decide +kernel
theorem dX10_tell_22 : decode cX10_tell 22 = .ok (.getfield 7, 3) := by decide +kernel
theorem dX10_tell_25 : decode cX10_tell 25 = .ok (.iconst 1, 1) := by decide +kernel
theorem dX10_tell_26 : decode cX10_tell 26 = .ok (.iaload, 1) := by decide +kernel
theorem dX10_tell_27 : decode cX10_tell 27 = .ok (.iconst 1, 1) := by decide +kernel
theorem dX10_tell_28 : decode cX10_tell 28 = .ok (.if_icmp .eq 30, 3) := by decide +kernel
theorem dX10_tell_31 : decode cX10_tell 31 = .ok (.aload_n 0, 1) := by decide +kernel
theorem dX10_tell_32 : decode cX10_tell 32 = .ok (.getfield 7, 3) := by decide +kernel
theorem dX10_tell_35 : decode cX10_tell 35 = .ok (.bipush 6, 2) := by decide +kernel
theorem dX10_tell_37 : decode cX10_tell 37 = .ok (.iload_n 1, 1) := by decide +kernel
theorem dX10_tell_38 : decode cX10_tell 38 = .ok (.iadd, 1) := by decide +kernel
theorem dX10_tell_39 : decode cX10_tell 39 = .ok (.iaload, 1) := by decide +kernel
theorem dX10_tell_40 : decode cX10_tell 40 = .ok (.ifCond .ge 18, 3) := by decide +kernel
theorem dX10_tell_43 : decode cX10_tell 43 = .ok (.aload_n 0, 1) := by decide +kernel
theorem dX10_tell_44 : decode cX10_tell 44 = .ok (.getfield 7, 3) := by decide +kernel
theorem dX10_tell_47 : decode cX10_tell 47 = .ok (.iconst 4, 1) := by decide +kernel
theorem dX10_tell_48 : decode cX10_tell 48 = .ok (.iload_n 1, 1) := by decide +kernel
theorem dX10_tell_49 : decode cX10_tell 49 = .ok (.iadd, 1) := by decide +kernel
theorem dX10_tell_50 : decode cX10_tell 50 = .ok (.iaload, 1) := by decide +kernel
theorem dX10_tell_51 : decode cX10_tell 51 = .ok (.iload_n 2, 1) := by decide +kernel
theorem dX10_tell_52 : decode cX10_tell 52 = .ok (.invokestatic 88, 3) := by decide +kernel
theorem dX10_tell_55 : decode cX10_tell 55 = .ok (.ifCond .ne 6, 3) := by decide +kernel
theorem dX10_tell_58 : decode cX10_tell 58 = .ok (.bipush (-2), 2) := by decide +kernel
theorem dX10_tell_60 : decode cX10_tell 60 = .ok (.ireturn, 1) := by decide +kernel
theorem dX10_tell_61 : decode cX10_tell 61 = .ok (.aload_n 0, 1) := by decide +kernel
theorem dX10_tell_62 : decode cX10_tell 62 = .ok (.invokevirtual 63, 3) := by decide +kernel
theorem dX10_tell_65 : decode cX10_tell 65 = .ok (.aload_n 0, 1) := by decide +kernel
theorem dX10_tell_66 : decode cX10_tell 66 = .ok (.getfield 7, 3) := by decide +kernel
theorem dX10_tell_69 : decode cX10_tell 69 = .ok (.bipush 6, 2) := by decide +kernel
theorem dX10_tell_71 : decode cX10_tell 71 = .ok (.iload_n 1, 1) := by decide +kernel
theorem dX10_tell_72 : decode cX10_tell 72 = .ok (.iadd, 1) := by decide +kernel
theorem dX10_tell_73 : decode cX10_tell 73 = .ok (.iload_n 2, 1) := by decide +kernel
theorem dX10_tell_74 : decode cX10_tell 74 = .ok (.iastore, 1) := by decide +kernel
theorem dX10_tell_75 : decode cX10_tell 75 = .ok (.aload_n 0, 1) := by decide +kernel
theorem dX10_tell_76 : decode cX10_tell 76 = .ok (.getfield 7, 3) := by decide +kernel
theorem dX10_tell_79 : decode cX10_tell 79 = .ok (.bipush 6, 2) := by decide +kernel
theorem dX10_tell_81 : decode cX10_tell 81 = .ok (.iaload, 1) := by decide +kernel
theorem dX10_tell_82 : decode cX10_tell 82 = .ok (.ifCond .lt 151, 3) := by decide +kernel
theorem dX10_tell_85 : decode cX10_tell 85 = .ok (.aload_n 0, 1) := by decide +kernel
theorem dX10_tell_86 : decode cX10_tell 86 = .ok (.getfield 7, 3) := by decide +kernel
theorem dX10_tell_89 : decode cX10_tell 89 = .ok (.bipush 7, 2) := by decide +kernel
theorem dX10_tell_91 : decode cX10_tell 91 = .ok (.iaload, 1) := by decide +kernel
theorem dX10_tell_92 : decode cX10_tell 92 = .ok (.ifCond .lt 141, 3) := by decide +kernel
theorem dX10_tell_95 : decode cX10_tell 95 = .ok (.aload_n 0, 1) := by decide +kernel
theorem dX10_tell_96 : decode cX10_tell 96 = .ok (.getfield 7, 3) := by decide +kernel
theorem dX10_tell_99 : decode cX10_tell 99 = .ok (.bipush 6, 2) := by decide +kernel
theorem dX10_tell_101 : decode cX10_tell 101 = .ok (.iaload, 1) := by decide +kernel
theorem dX10_tell_102 : decode cX10_tell 102 = .ok (.aload_n 0, 1) := by decide +kernel
theorem dX10_tell_103 : decode cX10_tell 103 = .ok (.getfield 7, 3) := by decide +kernel
theorem dX10_tell_106 : decode cX10_tell 106 = .ok (.bipush 7, 2) := by decide +kernel
theorem dX10_tell_108 : decode cX10_tell 108 = .ok (.iaload, 1) := by decide +kernel
theorem dX10_tell_109 : decode cX10_tell 109 = .ok (.iadd, 1) := by decide +kernel
theorem dX10_tell_110 : decode cX10_tell 110 = .ok (.istore_n 3, 1) := by decide +kernel
theorem dX10_tell_111 : decode cX10_tell 111 = .ok (.aload_n 0, 1) := by decide +kernel
theorem dX10_tell_112 : decode cX10_tell 112 = .ok (.getfield 7, 3) := by decide +kernel
theorem dX10_tell_115 : decode cX10_tell 115 = .ok (.iconst 2, 1) := by decide +kernel
theorem dX10_tell_116 : decode cX10_tell 116 = .ok (.aload_n 0, 1) := by decide +kernel
theorem dX10_tell_117 : decode cX10_tell 117 = .ok (.getfield 7, 3) := by decide +kernel
theorem dX10_tell_120 : decode cX10_tell 120 = .ok (.iconst 2, 1) := by decide +kernel
theorem dX10_tell_121 : decode cX10_tell 121 = .ok (.iaload, 1) := by decide +kernel
theorem dX10_tell_122 : decode cX10_tell 122 = .ok (.iload_n 3, 1) := by decide +kernel
theorem dX10_tell_123 : decode cX10_tell 123 = .ok (.iadd, 1) := by decide +kernel
theorem dX10_tell_124 : decode cX10_tell 124 = .ok (.bipush 6, 2) := by decide +kernel
theorem dX10_tell_126 : decode cX10_tell 126 = .ok (.irem, 1) := by decide +kernel
theorem dX10_tell_127 : decode cX10_tell 127 = .ok (.iastore, 1) := by decide +kernel
theorem dX10_tell_128 : decode cX10_tell 128 = .ok (.aload_n 0, 1) := by decide +kernel
theorem dX10_tell_129 : decode cX10_tell 129 = .ok (.getfield 7, 3) := by decide +kernel
theorem dX10_tell_132 : decode cX10_tell 132 = .ok (.iconst 3, 1) := by decide +kernel
theorem dX10_tell_133 : decode cX10_tell 133 = .ok (.iload_n 3, 1) := by decide +kernel
theorem dX10_tell_134 : decode cX10_tell 134 = .ok (.iconst 3, 1) := by decide +kernel
theorem dX10_tell_135 : decode cX10_tell 135 = .ok (.irem, 1) := by decide +kernel
theorem dX10_tell_136 : decode cX10_tell 136 = .ok (.iconst 1, 1) := by decide +kernel
theorem dX10_tell_137 : decode cX10_tell 137 = .ok (.iadd, 1) := by decide +kernel
theorem dX10_tell_138 : decode cX10_tell 138 = .ok (.iastore, 1) := by decide +kernel
theorem dX10_tell_139 : decode cX10_tell 139 = .ok (.iconst 0, 1) := by decide +kernel
theorem dX10_tell_140 : decode cX10_tell 140 = .ok (.istore 4, 2) := by decide +kernel
theorem dX10_tell_142 : decode cX10_tell 142 = .ok (.iload 4, 2) := by decide +kernel
theorem dX10_tell_144 : decode cX10_tell 144 = .ok (.iconst 2, 1) := by decide +kernel
theorem dX10_tell_145 : decode cX10_tell 145 = .ok (.if_icmp .ge 81, 3) := by decide +kernel
theorem dX10_tell_148 : decode cX10_tell 148 = .ok (.aload_n 0, 1) := by decide +kernel
theorem dX10_tell_149 : decode cX10_tell 149 = .ok (.getfield 7, 3) := by decide +kernel
theorem dX10_tell_152 : decode cX10_tell 152 = .ok (.iconst 4, 1) := by decide +kernel
theorem dX10_tell_153 : decode cX10_tell 153 = .ok (.iload 4, 2) := by decide +kernel
theorem dX10_tell_155 : decode cX10_tell 155 = .ok (.iadd, 1) := by decide +kernel
theorem dX10_tell_156 : decode cX10_tell 156 = .ok (.dup2, 1) := by decide +kernel
theorem dX10_tell_157 : decode cX10_tell 157 = .ok (.iaload, 1) := by decide +kernel
theorem dX10_tell_158 : decode cX10_tell 158 = .ok (.iconst 1, 1) := by decide +kernel
theorem dX10_tell_159 : decode cX10_tell 159 = .ok (.aload_n 0, 1) := by decide +kernel
theorem dX10_tell_160 : decode cX10_tell 160 = .ok (.getfield 7, 3) := by decide +kernel
theorem dX10_tell_163 : decode cX10_tell 163 = .ok (.bipush 6, 2) := by decide +kernel
theorem dX10_tell_165 : decode cX10_tell 165 = .ok (.iload 4, 2) := by decide +kernel
theorem dX10_tell_167 : decode cX10_tell 167 = .ok (.iadd, 1) := by decide +kernel
theorem dX10_tell_168 : decode cX10_tell 168 = .ok (.iaload, 1) := by decide +kernel
theorem dX10_tell_169 : decode cX10_tell 169 = .ok (.ishl, 1) := by decide +kernel
theorem dX10_tell_170 : decode cX10_tell 170 = .ok (.iconst (-1), 1) := by decide +kernel
theorem dX10_tell_171 : decode cX10_tell 171 = .ok (.ixor, 1) := by decide +kernel
theorem dX10_tell_172 : decode cX10_tell 172 = .ok (.iand, 1) := by decide +kernel
theorem dX10_tell_173 : decode cX10_tell 173 = .ok (.iastore, 1) := by decide +kernel
theorem dX10_tell_174 : decode cX10_tell 174 = .ok (.aload_n 0, 1) := by decide +kernel
theorem dX10_tell_175 : decode cX10_tell 175 = .ok (.getfield 7, 3) := by decide +kernel
theorem dX10_tell_178 : decode cX10_tell 178 = .ok (.iconst 4, 1) := by decide +kernel
theorem dX10_tell_179 : decode cX10_tell 179 = .ok (.iload 4, 2) := by decide +kernel
theorem dX10_tell_181 : decode cX10_tell 181 = .ok (.iadd, 1) := by decide +kernel
theorem dX10_tell_182 : decode cX10_tell 182 = .ok (.aload_n 0, 1) := by decide +kernel
theorem dX10_tell_183 : decode cX10_tell 183 = .ok (.getfield 7, 3) := by decide +kernel
theorem dX10_tell_186 : decode cX10_tell 186 = .ok (.iconst 4, 1) := by decide +kernel
theorem dX10_tell_187 : decode cX10_tell 187 = .ok (.iload 4, 2) := by decide +kernel
theorem dX10_tell_189 : decode cX10_tell 189 = .ok (.iadd, 1) := by decide +kernel
theorem dX10_tell_190 : decode cX10_tell 190 = .ok (.iaload, 1) := by decide +kernel
theorem dX10_tell_191 : decode cX10_tell 191 = .ok (.ifCond .ne 8, 3) := by decide +kernel
theorem dX10_tell_194 : decode cX10_tell 194 = .ok (.bipush 63, 2) := by decide +kernel
theorem dX10_tell_196 : decode cX10_tell 196 = .ok (.goto 12, 3) := by decide +kernel
theorem dX10_tell_199 : decode cX10_tell 199 = .ok (.aload_n 0, 1) := by decide +kernel
theorem dX10_tell_200 : decode cX10_tell 200 = .ok (.getfield 7, 3) := by decide +kernel
theorem dX10_tell_203 : decode cX10_tell 203 = .ok (.iconst 4, 1) := by decide +kernel
theorem dX10_tell_204 : decode cX10_tell 204 = .ok (.iload 4, 2) := by decide +kernel
theorem dX10_tell_206 : decode cX10_tell 206 = .ok (.iadd, 1) := by decide +kernel
theorem dX10_tell_207 : decode cX10_tell 207 = .ok (.iaload, 1) := by decide +kernel
theorem dX10_tell_208 : decode cX10_tell 208 = .ok (.iastore, 1) := by decide +kernel
theorem dX10_tell_209 : decode cX10_tell 209 = .ok (.aload_n 0, 1) := by decide +kernel
theorem dX10_tell_210 : decode cX10_tell 210 = .ok (.getfield 7, 3) := by decide +kernel
theorem dX10_tell_213 : decode cX10_tell 213 = .ok (.bipush 6, 2) := by decide +kernel
theorem dX10_tell_215 : decode cX10_tell 215 = .ok (.iload 4, 2) := by decide +kernel
theorem dX10_tell_217 : decode cX10_tell 217 = .ok (.iadd, 1) := by decide +kernel
theorem dX10_tell_218 : decode cX10_tell 218 = .ok (.iconst (-1), 1) := by decide +kernel
theorem dX10_tell_219 : decode cX10_tell 219 = .ok (.iastore, 1) := by decide +kernel
theorem dX10_tell_220 : decode cX10_tell 220 = .ok (.iinc 4 1, 3) := by decide +kernel
theorem dX10_tell_223 : decode cX10_tell 223 = .ok (.goto (-81), 3) := by decide +kernel
theorem dX10_tell_226 : decode cX10_tell 226 = .ok (.aload_n 0, 1) := by decide +kernel
theorem dX10_tell_227 : decode cX10_tell 227 = .ok (.getfield 7, 3) := by decide +kernel
theorem dX10_tell_230 : decode cX10_tell 230 = .ok (.iconst 1, 1) := by decide +kernel
theorem dX10_tell_231 : decode cX10_tell 231 = .ok (.iconst 1, 1) := by decide +kernel
theorem dX10_tell_232 : decode cX10_tell 232 = .ok (.iastore, 1) := by decide +kernel
theorem dX10_tell_233 : decode cX10_tell 233 = .ok (.aload_n 0, 1) := by decide +kernel
theorem dX10_tell_234 : decode cX10_tell 234 = .ok (.invokevirtual 92, 3) := by decide +kernel
theorem dX10_tell_237 : decode cX10_tell 237 = .ok (.ireturn, 1) := by decide +kernel
theorem dX10_stepsBy_0 : decode cX10_stepsBy 0 = .ok (.aload_n 0, 1) := by decide +kernel
theorem dX10_stepsBy_1 : decode cX10_stepsBy 1 = .ok (.iload_n 1, 1) := by decide +kernel
theorem dX10_stepsBy_2 : decode cX10_stepsBy 2 = .ok (.invokevirtual 95, 3) := by decide +kernel
theorem dX10_stepsBy_5 : decode cX10_stepsBy 5 = .ok (.ifCond .eq 13, 3) := by decide +kernel
theorem dX10_stepsBy_8 : decode cX10_stepsBy 8 = .ok (.aload_n 0, 1) := by decide +kernel
theorem dX10_stepsBy_9 : decode cX10_stepsBy 9 = .ok (.iload_n 1, 1) := by decide +kernel
theorem dX10_stepsBy_10 : decode cX10_stepsBy 10 = .ok (.bipush 7, 2) := by decide +kernel
theorem dX10_stepsBy_12 : decode cX10_stepsBy 12 = .ok (.invokevirtual 52, 3) := by decide +kernel
theorem dX10_stepsBy_15 : decode cX10_stepsBy 15 = .ok (.ifCond .lt 5, 3) := by decide +kernel
theorem dX10_stepsBy_18 : decode cX10_stepsBy 18 = .ok (.iconst 0, 1) := by decide +kernel
theorem dX10_stepsBy_19 : decode cX10_stepsBy 19 = .ok (.ireturn, 1) := by decide +kernel
theorem dX10_stepsBy_20 : decode cX10_stepsBy 20 = .ok (.aload_n 0, 1) := by decide +kernel
theorem dX10_stepsBy_21 : decode cX10_stepsBy 21 = .ok (.iload_n 1, 1) := by decide +kernel
theorem dX10_stepsBy_22 : decode cX10_stepsBy 22 = .ok (.iconst 2, 1) := by decide +kernel
theorem dX10_stepsBy_23 : decode cX10_stepsBy 23 = .ok (.invokevirtual 52, 3) := by decide +kernel
theorem dX10_stepsBy_26 : decode cX10_stepsBy 26 = .ok (.iload_n 2, 1) := by decide +kernel
theorem dX10_stepsBy_27 : decode cX10_stepsBy 27 = .ok (.isub, 1) := by decide +kernel
theorem dX10_stepsBy_28 : decode cX10_stepsBy 28 = .ok (.bipush 6, 2) := by decide +kernel
theorem dX10_stepsBy_30 : decode cX10_stepsBy 30 = .ok (.iadd, 1) := by decide +kernel
theorem dX10_stepsBy_31 : decode cX10_stepsBy 31 = .ok (.bipush 6, 2) := by decide +kernel
theorem dX10_stepsBy_33 : decode cX10_stepsBy 33 = .ok (.irem, 1) := by decide +kernel
theorem dX10_stepsBy_34 : decode cX10_stepsBy 34 = .ok (.istore 4, 2) := by decide +kernel
theorem dX10_stepsBy_36 : decode cX10_stepsBy 36 = .ok (.iload 4, 2) := by decide +kernel
theorem dX10_stepsBy_38 : decode cX10_stepsBy 38 = .ok (.ifCond .ne 8, 3) := by decide +kernel
theorem dX10_stepsBy_41 : decode cX10_stepsBy 41 = .ok (.bipush 6, 2) := by decide +kernel
theorem dX10_stepsBy_43 : decode cX10_stepsBy 43 = .ok (.goto 31, 3) := by decide +kernel
theorem dX10_stepsBy_46 : decode cX10_stepsBy 46 = .ok (.iload 4, 2) := by decide +kernel
theorem dX10_stepsBy_48 : decode cX10_stepsBy 48 = .ok (.iconst 1, 1) := by decide +kernel
theorem dX10_stepsBy_49 : decode cX10_stepsBy 49 = .ok (.if_icmp .eq 9, 3) := by decide +kernel
theorem dX10_stepsBy_52 : decode cX10_stepsBy 52 = .ok (.iload 4, 2) := by decide +kernel
theorem dX10_stepsBy_54 : decode cX10_stepsBy 54 = .ok (.iconst 5, 1) := by decide +kernel
theorem dX10_stepsBy_55 : decode cX10_stepsBy 55 = .ok (.if_icmp .ne 8, 3) := by decide +kernel
theorem dX10_stepsBy_58 : decode cX10_stepsBy 58 = .ok (.bipush 8, 2) := by decide +kernel
theorem dX10_stepsBy_60 : decode cX10_stepsBy 60 = .ok (.goto 14, 3) := by decide +kernel
theorem dX10_stepsBy_63 : decode cX10_stepsBy 63 = .ok (.iload 4, 2) := by decide +kernel
theorem dX10_stepsBy_65 : decode cX10_stepsBy 65 = .ok (.iconst 3, 1) := by decide +kernel
theorem dX10_stepsBy_66 : decode cX10_stepsBy 66 = .ok (.if_icmp .ne 7, 3) := by decide +kernel
theorem dX10_stepsBy_69 : decode cX10_stepsBy 69 = .ok (.iconst 0, 1) := by decide +kernel
theorem dX10_stepsBy_70 : decode cX10_stepsBy 70 = .ok (.goto 4, 3) := by decide +kernel
theorem dX10_stepsBy_73 : decode cX10_stepsBy 73 = .ok (.iconst 4, 1) := by decide +kernel
theorem dX10_stepsBy_74 : decode cX10_stepsBy 74 = .ok (.istore 5, 2) := by decide +kernel
theorem dX10_stepsBy_76 : decode cX10_stepsBy 76 = .ok (.aload_n 0, 1) := by decide +kernel
theorem dX10_stepsBy_77 : decode cX10_stepsBy 77 = .ok (.iload_n 1, 1) := by decide +kernel
theorem dX10_stepsBy_78 : decode cX10_stepsBy 78 = .ok (.iconst 4, 1) := by decide +kernel
theorem dX10_stepsBy_79 : decode cX10_stepsBy 79 = .ok (.invokevirtual 52, 3) := by decide +kernel
theorem dX10_stepsBy_82 : decode cX10_stepsBy 82 = .ok (.aload_n 0, 1) := by decide +kernel
theorem dX10_stepsBy_83 : decode cX10_stepsBy 83 = .ok (.iload_n 1, 1) := by decide +kernel
theorem dX10_stepsBy_84 : decode cX10_stepsBy 84 = .ok (.iconst 5, 1) := by decide +kernel
theorem dX10_stepsBy_85 : decode cX10_stepsBy 85 = .ok (.invokevirtual 52, 3) := by decide +kernel
theorem dX10_stepsBy_88 : decode cX10_stepsBy 88 = .ok (.if_icmp .ge 12, 3) := by decide +kernel
theorem dX10_stepsBy_91 : decode cX10_stepsBy 91 = .ok (.aload_n 0, 1) := by decide +kernel
theorem dX10_stepsBy_92 : decode cX10_stepsBy 92 = .ok (.iload_n 1, 1) := by decide +kernel
theorem dX10_stepsBy_93 : decode cX10_stepsBy 93 = .ok (.iconst 4, 1) := by decide +kernel
theorem dX10_stepsBy_94 : decode cX10_stepsBy 94 = .ok (.invokevirtual 52, 3) := by decide +kernel
theorem dX10_stepsBy_97 : decode cX10_stepsBy 97 = .ok (.goto 9, 3) := by decide +kernel
theorem dX10_stepsBy_100 : decode cX10_stepsBy 100 = .ok (.aload_n 0, 1) := by decide +kernel
theorem dX10_stepsBy_101 : decode cX10_stepsBy 101 = .ok (.iload_n 1, 1) := by decide +kernel
theorem dX10_stepsBy_102 : decode cX10_stepsBy 102 = .ok (.iconst 5, 1) := by decide +kernel
theorem dX10_stepsBy_103 : decode cX10_stepsBy 103 = .ok (.invokevirtual 52, 3) := by decide +kernel
theorem dX10_stepsBy_106 : decode cX10_stepsBy 106 = .ok (.istore 6, 2) := by decide +kernel
theorem dX10_stepsBy_108 : decode cX10_stepsBy 108 = .ok (.iload 5, 2) := by decide +kernel
theorem dX10_stepsBy_110 : decode cX10_stepsBy 110 = .ok (.iload_n 3, 1) := by decide +kernel
theorem dX10_stepsBy_111 : decode cX10_stepsBy 111 = .ok (.imul, 1) := by decide +kernel
theorem dX10_stepsBy_112 : decode cX10_stepsBy 112 = .ok (.iload 6, 2) := by decide +kernel
theorem dX10_stepsBy_114 : decode cX10_stepsBy 114 = .ok (.imul, 1) := by decide +kernel
theorem dX10_stepsBy_115 : decode cX10_stepsBy 115 = .ok (.bipush 32, 2) := by decide +kernel
theorem dX10_stepsBy_117 : decode cX10_stepsBy 117 = .ok (.idiv, 1) := by decide +kernel
theorem dX10_stepsBy_118 : decode cX10_stepsBy 118 = .ok (.ireturn, 1) := by decide +kernel
theorem dX10_stepsNow_0 : decode cX10_stepsNow 0 = .ok (.aload_n 0, 1) := by decide +kernel
theorem dX10_stepsNow_1 : decode cX10_stepsNow 1 = .ok (.iload_n 1, 1) := by decide +kernel
theorem dX10_stepsNow_2 : decode cX10_stepsNow 2 = .ok (.aload_n 0, 1) := by decide +kernel
theorem dX10_stepsNow_3 : decode cX10_stepsNow 3 = .ok (.getfield 7, 3) := by decide +kernel
theorem dX10_stepsNow_6 : decode cX10_stepsNow 6 = .ok (.iconst 2, 1) := by decide +kernel
theorem dX10_stepsNow_7 : decode cX10_stepsNow 7 = .ok (.iaload, 1) := by decide +kernel
theorem dX10_stepsNow_8 : decode cX10_stepsNow 8 = .ok (.aload_n 0, 1) := by decide +kernel
theorem dX10_stepsNow_9 : decode cX10_stepsNow 9 = .ok (.getfield 7, 3) := by decide +kernel
theorem dX10_stepsNow_12 : decode cX10_stepsNow 12 = .ok (.iconst 3, 1) := by decide +kernel
theorem dX10_stepsNow_13 : decode cX10_stepsNow 13 = .ok (.iaload, 1) := by decide +kernel
theorem dX10_stepsNow_14 : decode cX10_stepsNow 14 = .ok (.invokevirtual 98, 3) := by decide +kernel
theorem dX10_stepsNow_17 : decode cX10_stepsNow 17 = .ok (.ireturn, 1) := by decide +kernel
theorem dX10_sizeOf_0 : decode cX10_sizeOf 0 = .ok (.iconst 0, 1) := by decide +kernel
theorem dX10_sizeOf_1 : decode cX10_sizeOf 1 = .ok (.istore_n 1, 1) := by decide +kernel
theorem dX10_sizeOf_2 : decode cX10_sizeOf 2 = .ok (.iload_n 0, 1) := by decide +kernel
theorem dX10_sizeOf_3 : decode cX10_sizeOf 3 = .ok (.istore_n 2, 1) := by decide +kernel
theorem dX10_sizeOf_4 : decode cX10_sizeOf 4 = .ok (.iload_n 2, 1) := by decide +kernel
theorem dX10_sizeOf_5 : decode cX10_sizeOf 5 = .ok (.ifCond .le 31, 3) := by decide +kernel
theorem dX10_sizeOf_8 : decode cX10_sizeOf 8 = .ok (.iload_n 2, 1) := by decide +kernel
theorem dX10_sizeOf_9 : decode cX10_sizeOf 9 = .ok (.bipush 10, 2) := by decide +kernel
theorem dX10_sizeOf_11 : decode cX10_sizeOf 11 = .ok (.irem, 1) := by decide +kernel
theorem dX10_sizeOf_12 : decode cX10_sizeOf 12 = .ok (.i2l, 1) := by decide +kernel
theorem dX10_sizeOf_13 : decode cX10_sizeOf 13 = .ok (.lconst 1, 1) := by decide +kernel
theorem dX10_sizeOf_14 : decode cX10_sizeOf 14 = .ok (.ldc2_w 102, 3) := by decide +kernel
theorem dX10_sizeOf_17 : decode cX10_sizeOf 17 = .ok (.invokestatic 42, 3) := by decide +kernel
theorem dX10_sizeOf_20 : decode cX10_sizeOf 20 = .ok (.ifCond .ne 5, 3) := by decide +kernel
theorem dX10_sizeOf_23 : decode cX10_sizeOf 23 = .ok (.iconst 0, 1) := by decide +kernel
theorem dX10_sizeOf_24 : decode cX10_sizeOf 24 = .ok (.ireturn, 1) := by decide +kernel
theorem dX10_sizeOf_25 : decode cX10_sizeOf 25 = .ok (.iinc 1 1, 3) := by decide +kernel
theorem dX10_sizeOf_28 : decode cX10_sizeOf 28 = .ok (.iload_n 2, 1) := by decide +kernel
theorem dX10_sizeOf_29 : decode cX10_sizeOf 29 = .ok (.bipush 10, 2) := by decide +kernel
theorem dX10_sizeOf_31 : decode cX10_sizeOf 31 = .ok (.idiv, 1) := by decide +kernel
theorem dX10_sizeOf_32 : decode cX10_sizeOf 32 = .ok (.istore_n 2, 1) := by decide +kernel
theorem dX10_sizeOf_33 : decode cX10_sizeOf 33 = .ok (.goto (-29), 3) := by decide +kernel
theorem dX10_sizeOf_36 : decode cX10_sizeOf 36 = .ok (.iload_n 1, 1) := by decide +kernel
theorem dX10_sizeOf_37 : decode cX10_sizeOf 37 = .ok (.bipush 6, 2) := by decide +kernel
theorem dX10_sizeOf_39 : decode cX10_sizeOf 39 = .ok (.if_icmp .le 7, 3) := by decide +kernel
theorem dX10_sizeOf_42 : decode cX10_sizeOf 42 = .ok (.iconst 0, 1) := by decide +kernel
theorem dX10_sizeOf_43 : decode cX10_sizeOf 43 = .ok (.goto 4, 3) := by decide +kernel
theorem dX10_sizeOf_46 : decode cX10_sizeOf 46 = .ok (.iload_n 1, 1) := by decide +kernel
theorem dX10_sizeOf_47 : decode cX10_sizeOf 47 = .ok (.ireturn, 1) := by decide +kernel
theorem dX10_goes_0 : decode cX10_goes 0 = .ok (.aload_n 0, 1) := by decide +kernel
theorem dX10_goes_1 : decode cX10_goes 1 = .ok (.iload_n 1, 1) := by decide +kernel
theorem dX10_goes_2 : decode cX10_goes 2 = .ok (.iconst 1, 1) := by decide +kernel
theorem dX10_goes_3 : decode cX10_goes 3 = .ok (.invokevirtual 52, 3) := by decide +kernel
theorem dX10_goes_6 : decode cX10_goes 6 = .ok (.istore 4, 2) := by decide +kernel
theorem dX10_goes_8 : decode cX10_goes 8 = .ok (.aload_n 0, 1) := by decide +kernel
theorem dX10_goes_9 : decode cX10_goes 9 = .ok (.iload 4, 2) := by decide +kernel
theorem dX10_goes_11 : decode cX10_goes 11 = .ok (.putfield 104, 3) := by decide +kernel
theorem dX10_goes_14 : decode cX10_goes 14 = .ok (.aload_n 0, 1) := by decide +kernel
theorem dX10_goes_15 : decode cX10_goes 15 = .ok (.aload_n 0, 1) := by decide +kernel
theorem dX10_goes_16 : decode cX10_goes 16 = .ok (.iload_n 1, 1) := by decide +kernel
theorem dX10_goes_17 : decode cX10_goes 17 = .ok (.iconst 2, 1) := by decide +kernel
theorem dX10_goes_18 : decode cX10_goes 18 = .ok (.invokevirtual 52, 3) := by decide +kernel
theorem dX10_goes_21 : decode cX10_goes 21 = .ok (.putfield 107, 3) := by decide +kernel
theorem dX10_goes_24 : decode cX10_goes 24 = .ok (.iconst 1, 1) := by decide +kernel
theorem dX10_goes_25 : decode cX10_goes 25 = .ok (.istore 5, 2) := by decide +kernel
theorem dX10_goes_27 : decode cX10_goes 27 = .ok (.iconst 1, 1) := by decide +kernel
theorem dX10_goes_28 : decode cX10_goes 28 = .ok (.istore 6, 2) := by decide +kernel
theorem dX10_goes_30 : decode cX10_goes 30 = .ok (.iload 6, 2) := by decide +kernel
theorem dX10_goes_32 : decode cX10_goes 32 = .ok (.iload_n 3, 1) := by decide +kernel
theorem dX10_goes_33 : decode cX10_goes 33 = .ok (.if_icmp .ge 16, 3) := by decide +kernel
theorem dX10_goes_36 : decode cX10_goes 36 = .ok (.iload 5, 2) := by decide +kernel
theorem dX10_goes_38 : decode cX10_goes 38 = .ok (.bipush 10, 2) := by decide +kernel
theorem dX10_goes_40 : decode cX10_goes 40 = .ok (.imul, 1) := by decide +kernel
theorem dX10_goes_41 : decode cX10_goes 41 = .ok (.istore 5, 2) := by decide +kernel
theorem dX10_goes_43 : decode cX10_goes 43 = .ok (.iinc 6 1, 3) := by decide +kernel
theorem dX10_goes_46 : decode cX10_goes 46 = .ok (.goto (-16), 3) := by decide +kernel
theorem dX10_goes_49 : decode cX10_goes 49 = .ok (.iconst 0, 1) := by decide +kernel
theorem dX10_goes_50 : decode cX10_goes 50 = .ok (.istore 6, 2) := by decide +kernel
theorem dX10_goes_52 : decode cX10_goes 52 = .ok (.iload 6, 2) := by decide +kernel
theorem dX10_goes_54 : decode cX10_goes 54 = .ok (.iload_n 3, 1) := by decide +kernel
theorem dX10_goes_55 : decode cX10_goes 55 = .ok (.if_icmp .ge 98, 3) := by decide +kernel
theorem dX10_goes_58 : decode cX10_goes 58 = .ok (.iload_n 2, 1) := by decide +kernel
theorem dX10_goes_59 : decode cX10_goes 59 = .ok (.iload 5, 2) := by decide +kernel
theorem dX10_goes_61 : decode cX10_goes 61 = .ok (.idiv, 1) := by decide +kernel
theorem dX10_goes_62 : decode cX10_goes 62 = .ok (.bipush 10, 2) := by decide +kernel
theorem dX10_goes_64 : decode cX10_goes 64 = .ok (.irem, 1) := by decide +kernel
theorem dX10_goes_65 : decode cX10_goes 65 = .ok (.istore 7, 2) := by decide +kernel
theorem dX10_goes_67 : decode cX10_goes 67 = .ok (.iload 5, 2) := by decide +kernel
theorem dX10_goes_69 : decode cX10_goes 69 = .ok (.bipush 10, 2) := by decide +kernel
theorem dX10_goes_71 : decode cX10_goes 71 = .ok (.idiv, 1) := by decide +kernel
theorem dX10_goes_72 : decode cX10_goes 72 = .ok (.istore 5, 2) := by decide +kernel
theorem dX10_goes_74 : decode cX10_goes 74 = .ok (.iload 7, 2) := by decide +kernel
theorem dX10_goes_76 : decode cX10_goes 76 = .ok (.iconst 1, 1) := by decide +kernel
theorem dX10_goes_77 : decode cX10_goes 77 = .ok (.if_icmp .ne 47, 3) := by decide +kernel
theorem dX10_goes_80 : decode cX10_goes 80 = .ok (.aload_n 0, 1) := by decide +kernel
theorem dX10_goes_81 : decode cX10_goes 81 = .ok (.aload_n 0, 1) := by decide +kernel
theorem dX10_goes_82 : decode cX10_goes 82 = .ok (.getfield 104, 3) := by decide +kernel
theorem dX10_goes_85 : decode cX10_goes 85 = .ok (.aload_n 0, 1) := by decide +kernel
theorem dX10_goes_86 : decode cX10_goes 86 = .ok (.getfield 107, 3) := by decide +kernel
theorem dX10_goes_89 : decode cX10_goes 89 = .ok (.invokestatic 48, 3) := by decide +kernel
theorem dX10_goes_92 : decode cX10_goes 92 = .ok (.putfield 104, 3) := by decide +kernel
theorem dX10_goes_95 : decode cX10_goes 95 = .ok (.aload_n 0, 1) := by decide +kernel
theorem dX10_goes_96 : decode cX10_goes 96 = .ok (.getfield 104, 3) := by decide +kernel
theorem dX10_goes_99 : decode cX10_goes 99 = .ok (.ifCond .lt 23, 3) := by decide +kernel
theorem dX10_goes_102 : decode cX10_goes 102 = .ok (.aload_n 0, 1) := by decide +kernel
theorem dX10_goes_103 : decode cX10_goes 103 = .ok (.getfield 104, 3) := by decide +kernel
theorem dX10_goes_106 : decode cX10_goes 106 = .ok (.iload 4, 2) := by decide +kernel
theorem dX10_goes_108 : decode cX10_goes 108 = .ok (.if_icmp .eq 39, 3) := by decide +kernel
theorem dX10_goes_111 : decode cX10_goes 111 = .ok (.aload_n 0, 1) := by decide +kernel
theorem dX10_goes_112 : decode cX10_goes 112 = .ok (.aload_n 0, 1) := by decide +kernel
theorem dX10_goes_113 : decode cX10_goes 113 = .ok (.getfield 104, 3) := by decide +kernel
theorem dX10_goes_116 : decode cX10_goes 116 = .ok (.invokevirtual 79, 3) := by decide +kernel
theorem dX10_goes_119 : decode cX10_goes 119 = .ok (.ifCond .ne 28, 3) := by decide +kernel
theorem dX10_goes_122 : decode cX10_goes 122 = .ok (.iconst 0, 1) := by decide +kernel
theorem dX10_goes_123 : decode cX10_goes 123 = .ok (.ireturn, 1) := by decide +kernel
theorem dX10_goes_124 : decode cX10_goes 124 = .ok (.aload_n 0, 1) := by decide +kernel
theorem dX10_goes_125 : decode cX10_goes 125 = .ok (.aload_n 0, 1) := by decide +kernel
theorem dX10_goes_126 : decode cX10_goes 126 = .ok (.getfield 107, 3) := by decide +kernel
theorem dX10_goes_129 : decode cX10_goes 129 = .ok (.iload 7, 2) := by decide +kernel
theorem dX10_goes_131 : decode cX10_goes 131 = .ok (.iconst 2, 1) := by decide +kernel
theorem dX10_goes_132 : decode cX10_goes 132 = .ok (.if_icmp .ne 7, 3) := by decide +kernel
theorem dX10_goes_135 : decode cX10_goes 135 = .ok (.iconst 1, 1) := by decide +kernel
theorem dX10_goes_136 : decode cX10_goes 136 = .ok (.goto 4, 3) := by decide +kernel
theorem dX10_goes_139 : decode cX10_goes 139 = .ok (.iconst 5, 1) := by decide +kernel
theorem dX10_goes_140 : decode cX10_goes 140 = .ok (.iadd, 1) := by decide +kernel
theorem dX10_goes_141 : decode cX10_goes 141 = .ok (.bipush 6, 2) := by decide +kernel
theorem dX10_goes_143 : decode cX10_goes 143 = .ok (.irem, 1) := by decide +kernel
theorem dX10_goes_144 : decode cX10_goes 144 = .ok (.putfield 107, 3) := by decide +kernel
theorem dX10_goes_147 : decode cX10_goes 147 = .ok (.iinc 6 1, 3) := by decide +kernel
theorem dX10_goes_150 : decode cX10_goes 150 = .ok (.goto (-98), 3) := by decide +kernel
theorem dX10_goes_153 : decode cX10_goes 153 = .ok (.iconst 1, 1) := by decide +kernel
theorem dX10_goes_154 : decode cX10_goes 154 = .ok (.ireturn, 1) := by decide +kernel
theorem dX10_sail_0 : decode cX10_sail 0 = .ok (.iload_n 2, 1) := by decide +kernel
theorem dX10_sail_1 : decode cX10_sail 1 = .ok (.invokestatic 110, 3) := by decide +kernel
theorem dX10_sail_4 : decode cX10_sail 4 = .ok (.istore_n 3, 1) := by decide +kernel
theorem dX10_sail_5 : decode cX10_sail 5 = .ok (.aload_n 0, 1) := by decide +kernel
theorem dX10_sail_6 : decode cX10_sail 6 = .ok (.iload_n 1, 1) := by decide +kernel
theorem dX10_sail_7 : decode cX10_sail 7 = .ok (.invokevirtual 113, 3) := by decide +kernel
theorem dX10_sail_10 : decode cX10_sail 10 = .ok (.ifCond .eq 7, 3) := by decide +kernel
theorem dX10_sail_13 : decode cX10_sail 13 = .ok (.iload_n 3, 1) := by decide +kernel
theorem dX10_sail_14 : decode cX10_sail 14 = .ok (.ifCond .ne 5, 3) := by decide +kernel
theorem dX10_sail_17 : decode cX10_sail 17 = .ok (.iconst (-1), 1) := by decide +kernel
theorem dX10_sail_18 : decode cX10_sail 18 = .ok (.ireturn, 1) := by decide +kernel
theorem dX10_sail_19 : decode cX10_sail 19 = .ok (.aload_n 0, 1) := by decide +kernel
theorem dX10_sail_20 : decode cX10_sail 20 = .ok (.getfield 7, 3) := by decide +kernel
theorem dX10_sail_23 : decode cX10_sail 23 = .ok (.iconst 1, 1) := by decide +kernel
theorem dX10_sail_24 : decode cX10_sail 24 = .ok (.iaload, 1) := by decide +kernel
theorem dX10_sail_25 : decode cX10_sail 25 = .ok (.ifCond .eq 44, 3) := by decide +kernel
theorem dX10_sail_28 : decode cX10_sail 28 = .ok (.aload_n 0, 1) := by decide +kernel
theorem dX10_sail_29 : decode cX10_sail 29 = .ok (.iload_n 1, 1) := by decide +kernel
theorem dX10_sail_30 : decode cX10_sail 30 = .ok (.invokevirtual 95, 3) := by decide +kernel
theorem dX10_sail_33 : decode cX10_sail 33 = .ok (.ifCond .eq 36, 3) := by decide +kernel
theorem dX10_sail_36 : decode cX10_sail 36 = .ok (.aload_n 0, 1) := by decide +kernel
theorem dX10_sail_37 : decode cX10_sail 37 = .ok (.iload_n 1, 1) := by decide +kernel
theorem dX10_sail_38 : decode cX10_sail 38 = .ok (.bipush 10, 2) := by decide +kernel
theorem dX10_sail_40 : decode cX10_sail 40 = .ok (.invokevirtual 52, 3) := by decide +kernel
theorem dX10_sail_43 : decode cX10_sail 43 = .ok (.iconst 0, 1) := by decide +kernel
theorem dX10_sail_44 : decode cX10_sail 44 = .ok (.invokestatic 88, 3) := by decide +kernel
theorem dX10_sail_47 : decode cX10_sail 47 = .ok (.ifCond .ne 22, 3) := by decide +kernel
theorem dX10_sail_50 : decode cX10_sail 50 = .ok (.iload_n 3, 1) := by decide +kernel
theorem dX10_sail_51 : decode cX10_sail 51 = .ok (.aload_n 0, 1) := by decide +kernel
theorem dX10_sail_52 : decode cX10_sail 52 = .ok (.iload_n 1, 1) := by decide +kernel
theorem dX10_sail_53 : decode cX10_sail 53 = .ok (.invokevirtual 116, 3) := by decide +kernel
theorem dX10_sail_56 : decode cX10_sail 56 = .ok (.if_icmp .gt 13, 3) := by decide +kernel
theorem dX10_sail_59 : decode cX10_sail 59 = .ok (.aload_n 0, 1) := by decide +kernel
theorem dX10_sail_60 : decode cX10_sail 60 = .ok (.iload_n 1, 1) := by decide +kernel
theorem dX10_sail_61 : decode cX10_sail 61 = .ok (.iload_n 2, 1) := by decide +kernel
theorem dX10_sail_62 : decode cX10_sail 62 = .ok (.iload_n 3, 1) := by decide +kernel
theorem dX10_sail_63 : decode cX10_sail 63 = .ok (.invokevirtual 119, 3) := by decide +kernel
theorem dX10_sail_66 : decode cX10_sail 66 = .ok (.ifCond .ne 6, 3) := by decide +kernel
theorem dX10_sail_69 : decode cX10_sail 69 = .ok (.bipush (-2), 2) := by decide +kernel
theorem dX10_sail_71 : decode cX10_sail 71 = .ok (.ireturn, 1) := by decide +kernel
theorem dX10_sail_72 : decode cX10_sail 72 = .ok (.aload_n 0, 1) := by decide +kernel
theorem dX10_sail_73 : decode cX10_sail 73 = .ok (.invokevirtual 63, 3) := by decide +kernel
theorem dX10_sail_76 : decode cX10_sail 76 = .ok (.aload_n 0, 1) := by decide +kernel
theorem dX10_sail_77 : decode cX10_sail 77 = .ok (.iload_n 1, 1) := by decide +kernel
theorem dX10_sail_78 : decode cX10_sail 78 = .ok (.iconst 1, 1) := by decide +kernel
theorem dX10_sail_79 : decode cX10_sail 79 = .ok (.aload_n 0, 1) := by decide +kernel
theorem dX10_sail_80 : decode cX10_sail 80 = .ok (.getfield 104, 3) := by decide +kernel
theorem dX10_sail_83 : decode cX10_sail 83 = .ok (.invokevirtual 82, 3) := by decide +kernel
theorem dX10_sail_86 : decode cX10_sail 86 = .ok (.aload_n 0, 1) := by decide +kernel
theorem dX10_sail_87 : decode cX10_sail 87 = .ok (.iload_n 1, 1) := by decide +kernel
theorem dX10_sail_88 : decode cX10_sail 88 = .ok (.iconst 2, 1) := by decide +kernel
theorem dX10_sail_89 : decode cX10_sail 89 = .ok (.aload_n 0, 1) := by decide +kernel
theorem dX10_sail_90 : decode cX10_sail 90 = .ok (.getfield 107, 3) := by decide +kernel
theorem dX10_sail_93 : decode cX10_sail 93 = .ok (.invokevirtual 82, 3) := by decide +kernel
theorem dX10_sail_96 : decode cX10_sail 96 = .ok (.aload_n 0, 1) := by decide +kernel
theorem dX10_sail_97 : decode cX10_sail 97 = .ok (.iload_n 1, 1) := by decide +kernel
theorem dX10_sail_98 : decode cX10_sail 98 = .ok (.bipush 10, 2) := by decide +kernel
theorem dX10_sail_100 : decode cX10_sail 100 = .ok (.aload_n 0, 1) := by decide +kernel
theorem dX10_sail_101 : decode cX10_sail 101 = .ok (.iload_n 1, 1) := by decide +kernel
theorem dX10_sail_102 : decode cX10_sail 102 = .ok (.bipush 10, 2) := by decide +kernel
theorem dX10_sail_104 : decode cX10_sail 104 = .ok (.invokevirtual 52, 3) := by decide +kernel
theorem dX10_sail_107 : decode cX10_sail 107 = .ok (.iconst 1, 1) := by decide +kernel
theorem dX10_sail_108 : decode cX10_sail 108 = .ok (.ior, 1) := by decide +kernel
theorem dX10_sail_109 : decode cX10_sail 109 = .ok (.invokevirtual 82, 3) := by decide +kernel
theorem dX10_sail_112 : decode cX10_sail 112 = .ok (.aload_n 0, 1) := by decide +kernel
theorem dX10_sail_113 : decode cX10_sail 113 = .ok (.getfield 104, 3) := by decide +kernel
theorem dX10_sail_116 : decode cX10_sail 116 = .ok (.ireturn, 1) := by decide +kernel
theorem dX10_onLine_0 : decode cX10_onLine 0 = .ok (.aload_n 0, 1) := by decide +kernel
theorem dX10_onLine_1 : decode cX10_onLine 1 = .ok (.iload_n 1, 1) := by decide +kernel
theorem dX10_onLine_2 : decode cX10_onLine 2 = .ok (.iconst 1, 1) := by decide +kernel
theorem dX10_onLine_3 : decode cX10_onLine 3 = .ok (.invokevirtual 52, 3) := by decide +kernel
theorem dX10_onLine_6 : decode cX10_onLine 6 = .ok (.istore_n 3, 1) := by decide +kernel
theorem dX10_onLine_7 : decode cX10_onLine 7 = .ok (.aload_n 0, 1) := by decide +kernel
theorem dX10_onLine_8 : decode cX10_onLine 8 = .ok (.iconst 1, 1) := by decide +kernel
theorem dX10_onLine_9 : decode cX10_onLine 9 = .ok (.putfield 123, 3) := by decide +kernel
theorem dX10_onLine_12 : decode cX10_onLine 12 = .ok (.aload_n 0, 1) := by decide +kernel
theorem dX10_onLine_13 : decode cX10_onLine 13 = .ok (.getfield 123, 3) := by decide +kernel
theorem dX10_onLine_16 : decode cX10_onLine 16 = .ok (.iconst 4, 1) := by decide +kernel
theorem dX10_onLine_17 : decode cX10_onLine 17 = .ok (.if_icmp .ge 56, 3) := by decide +kernel
theorem dX10_onLine_20 : decode cX10_onLine 20 = .ok (.iload_n 3, 1) := by decide +kernel
theorem dX10_onLine_21 : decode cX10_onLine 21 = .ok (.iload_n 2, 1) := by decide +kernel
theorem dX10_onLine_22 : decode cX10_onLine 22 = .ok (.invokestatic 48, 3) := by decide +kernel
theorem dX10_onLine_25 : decode cX10_onLine 25 = .ok (.istore_n 3, 1) := by decide +kernel
theorem dX10_onLine_26 : decode cX10_onLine 26 = .ok (.iload_n 3, 1) := by decide +kernel
theorem dX10_onLine_27 : decode cX10_onLine 27 = .ok (.ifCond .lt 16, 3) := by decide +kernel
theorem dX10_onLine_30 : decode cX10_onLine 30 = .ok (.aload_n 0, 1) := by decide +kernel
theorem dX10_onLine_31 : decode cX10_onLine 31 = .ok (.getfield 7, 3) := by decide +kernel
theorem dX10_onLine_34 : decode cX10_onLine 34 = .ok (.bipush 12, 2) := by decide +kernel
theorem dX10_onLine_36 : decode cX10_onLine 36 = .ok (.iload_n 3, 1) := by decide +kernel
theorem dX10_onLine_37 : decode cX10_onLine 37 = .ok (.iadd, 1) := by decide +kernel
theorem dX10_onLine_38 : decode cX10_onLine 38 = .ok (.iaload, 1) := by decide +kernel
theorem dX10_onLine_39 : decode cX10_onLine 39 = .ok (.iconst 1, 1) := by decide +kernel
theorem dX10_onLine_40 : decode cX10_onLine 40 = .ok (.if_icmp .ne 5, 3) := by decide +kernel
theorem dX10_onLine_43 : decode cX10_onLine 43 = .ok (.iconst (-1), 1) := by decide +kernel
theorem dX10_onLine_44 : decode cX10_onLine 44 = .ok (.ireturn, 1) := by decide +kernel
theorem dX10_onLine_45 : decode cX10_onLine 45 = .ok (.aload_n 0, 1) := by decide +kernel
theorem dX10_onLine_46 : decode cX10_onLine 46 = .ok (.iload_n 3, 1) := by decide +kernel
theorem dX10_onLine_47 : decode cX10_onLine 47 = .ok (.invokevirtual 55, 3) := by decide +kernel
theorem dX10_onLine_50 : decode cX10_onLine 50 = .ok (.istore 4, 2) := by decide +kernel
theorem dX10_onLine_52 : decode cX10_onLine 52 = .ok (.iload 4, 2) := by decide +kernel
theorem dX10_onLine_54 : decode cX10_onLine 54 = .ok (.ifCond .lt 6, 3) := by decide +kernel
theorem dX10_onLine_57 : decode cX10_onLine 57 = .ok (.iload 4, 2) := by decide +kernel
theorem dX10_onLine_59 : decode cX10_onLine 59 = .ok (.ireturn, 1) := by decide +kernel
theorem dX10_onLine_60 : decode cX10_onLine 60 = .ok (.aload_n 0, 1) := by decide +kernel
theorem dX10_onLine_61 : decode cX10_onLine 61 = .ok (.dup, 1) := by decide +kernel
theorem dX10_onLine_62 : decode cX10_onLine 62 = .ok (.getfield 123, 3) := by decide +kernel
theorem dX10_onLine_65 : decode cX10_onLine 65 = .ok (.iconst 1, 1) := by decide +kernel
theorem dX10_onLine_66 : decode cX10_onLine 66 = .ok (.iadd, 1) := by decide +kernel
theorem dX10_onLine_67 : decode cX10_onLine 67 = .ok (.putfield 123, 3) := by decide +kernel
theorem dX10_onLine_70 : decode cX10_onLine 70 = .ok (.goto (-58), 3) := by decide +kernel
theorem dX10_onLine_73 : decode cX10_onLine 73 = .ok (.iconst (-1), 1) := by decide +kernel
theorem dX10_onLine_74 : decode cX10_onLine 74 = .ok (.ireturn, 1) := by decide +kernel
theorem dX10_farBy_0 : decode cX10_farBy 0 = .ok (.aload_n 0, 1) := by decide +kernel
theorem dX10_farBy_1 : decode cX10_farBy 1 = .ok (.iload_n 1, 1) := by decide +kernel
theorem dX10_farBy_2 : decode cX10_farBy 2 = .ok (.invokevirtual 95, 3) := by decide +kernel
theorem dX10_farBy_5 : decode cX10_farBy 5 = .ok (.ifCond .eq 18, 3) := by decide +kernel
theorem dX10_farBy_8 : decode cX10_farBy 8 = .ok (.aload_n 0, 1) := by decide +kernel
theorem dX10_farBy_9 : decode cX10_farBy 9 = .ok (.iload_n 1, 1) := by decide +kernel
theorem dX10_farBy_10 : decode cX10_farBy 10 = .ok (.iconst 0, 1) := by decide +kernel
theorem dX10_farBy_11 : decode cX10_farBy 11 = .ok (.invokevirtual 52, 3) := by decide +kernel
theorem dX10_farBy_14 : decode cX10_farBy 14 = .ok (.aload_n 0, 1) := by decide +kernel
theorem dX10_farBy_15 : decode cX10_farBy 15 = .ok (.iload_n 3, 1) := by decide +kernel
theorem dX10_farBy_16 : decode cX10_farBy 16 = .ok (.iconst 0, 1) := by decide +kernel
theorem dX10_farBy_17 : decode cX10_farBy 17 = .ok (.invokevirtual 52, 3) := by decide +kernel
theorem dX10_farBy_20 : decode cX10_farBy 20 = .ok (.if_icmp .ne 5, 3) := by decide +kernel
theorem dX10_farBy_23 : decode cX10_farBy 23 = .ok (.iconst 0, 1) := by decide +kernel
theorem dX10_farBy_24 : decode cX10_farBy 24 = .ok (.ireturn, 1) := by decide +kernel
theorem dX10_farBy_25 : decode cX10_farBy 25 = .ok (.iconst 0, 1) := by decide +kernel
theorem dX10_farBy_26 : decode cX10_farBy 26 = .ok (.istore 4, 2) := by decide +kernel
theorem dX10_farBy_28 : decode cX10_farBy 28 = .ok (.iload 4, 2) := by decide +kernel
theorem dX10_farBy_30 : decode cX10_farBy 30 = .ok (.iconst 2, 1) := by decide +kernel
theorem dX10_farBy_31 : decode cX10_farBy 31 = .ok (.if_icmp .ge 49, 3) := by decide +kernel
theorem dX10_farBy_34 : decode cX10_farBy 34 = .ok (.aload_n 0, 1) := by decide +kernel
theorem dX10_farBy_35 : decode cX10_farBy 35 = .ok (.iload_n 1, 1) := by decide +kernel
theorem dX10_farBy_36 : decode cX10_farBy 36 = .ok (.iconst 2, 1) := by decide +kernel
theorem dX10_farBy_37 : decode cX10_farBy 37 = .ok (.invokevirtual 52, 3) := by decide +kernel
theorem dX10_farBy_40 : decode cX10_farBy 40 = .ok (.iload_n 2, 1) := by decide +kernel
theorem dX10_farBy_41 : decode cX10_farBy 41 = .ok (.ifCond .ne 7, 3) := by decide +kernel
theorem dX10_farBy_44 : decode cX10_farBy 44 = .ok (.iconst 4, 1) := by decide +kernel
theorem dX10_farBy_45 : decode cX10_farBy 45 = .ok (.goto 4, 3) := by decide +kernel
theorem dX10_farBy_48 : decode cX10_farBy 48 = .ok (.iconst 1, 1) := by decide +kernel
theorem dX10_farBy_49 : decode cX10_farBy 49 = .ok (.iadd, 1) := by decide +kernel
theorem dX10_farBy_50 : decode cX10_farBy 50 = .ok (.iload 4, 2) := by decide +kernel
theorem dX10_farBy_52 : decode cX10_farBy 52 = .ok (.iadd, 1) := by decide +kernel
theorem dX10_farBy_53 : decode cX10_farBy 53 = .ok (.bipush 6, 2) := by decide +kernel
theorem dX10_farBy_55 : decode cX10_farBy 55 = .ok (.irem, 1) := by decide +kernel
theorem dX10_farBy_56 : decode cX10_farBy 56 = .ok (.istore 5, 2) := by decide +kernel
theorem dX10_farBy_58 : decode cX10_farBy 58 = .ok (.aload_n 0, 1) := by decide +kernel
theorem dX10_farBy_59 : decode cX10_farBy 59 = .ok (.iload_n 1, 1) := by decide +kernel
theorem dX10_farBy_60 : decode cX10_farBy 60 = .ok (.iload 5, 2) := by decide +kernel
theorem dX10_farBy_62 : decode cX10_farBy 62 = .ok (.invokevirtual 126, 3) := by decide +kernel
theorem dX10_farBy_65 : decode cX10_farBy 65 = .ok (.iload_n 3, 1) := by decide +kernel
theorem dX10_farBy_66 : decode cX10_farBy 66 = .ok (.if_icmp .ne 8, 3) := by decide +kernel
theorem dX10_farBy_69 : decode cX10_farBy 69 = .ok (.aload_n 0, 1) := by decide +kernel
theorem dX10_farBy_70 : decode cX10_farBy 70 = .ok (.getfield 123, 3) := by decide +kernel
theorem dX10_farBy_73 : decode cX10_farBy 73 = .ok (.ireturn, 1) := by decide +kernel
theorem dX10_farBy_74 : decode cX10_farBy 74 = .ok (.iinc 4 1, 3) := by decide +kernel
theorem dX10_farBy_77 : decode cX10_farBy 77 = .ok (.goto (-49), 3) := by decide +kernel
theorem dX10_farBy_80 : decode cX10_farBy 80 = .ok (.iconst 0, 1) := by decide +kernel
theorem dX10_farBy_81 : decode cX10_farBy 81 = .ok (.ireturn, 1) := by decide +kernel
theorem dX10_hitsAt_0 : decode cX10_hitsAt 0 = .ok (.aload_n 0, 1) := by decide +kernel
theorem dX10_hitsAt_1 : decode cX10_hitsAt 1 = .ok (.iload_n 1, 1) := by decide +kernel
theorem dX10_hitsAt_2 : decode cX10_hitsAt 2 = .ok (.iconst 5, 1) := by decide +kernel
theorem dX10_hitsAt_3 : decode cX10_hitsAt 3 = .ok (.invokevirtual 52, 3) := by decide +kernel
theorem dX10_hitsAt_6 : decode cX10_hitsAt 6 = .ok (.bipush 8, 2) := by decide +kernel
theorem dX10_hitsAt_8 : decode cX10_hitsAt 8 = .ok (.if_icmp .le 8, 3) := by decide +kernel
theorem dX10_hitsAt_11 : decode cX10_hitsAt 11 = .ok (.bipush 8, 2) := by decide +kernel
theorem dX10_hitsAt_13 : decode cX10_hitsAt 13 = .ok (.goto 9, 3) := by decide +kernel
theorem dX10_hitsAt_16 : decode cX10_hitsAt 16 = .ok (.aload_n 0, 1) := by decide +kernel
theorem dX10_hitsAt_17 : decode cX10_hitsAt 17 = .ok (.iload_n 1, 1) := by decide +kernel
theorem dX10_hitsAt_18 : decode cX10_hitsAt 18 = .ok (.iconst 5, 1) := by decide +kernel
theorem dX10_hitsAt_19 : decode cX10_hitsAt 19 = .ok (.invokevirtual 52, 3) := by decide +kernel
theorem dX10_hitsAt_22 : decode cX10_hitsAt 22 = .ok (.istore_n 3, 1) := by decide +kernel
theorem dX10_hitsAt_23 : decode cX10_hitsAt 23 = .ok (.aload_n 0, 1) := by decide +kernel
theorem dX10_hitsAt_24 : decode cX10_hitsAt 24 = .ok (.iload_n 1, 1) := by decide +kernel
theorem dX10_hitsAt_25 : decode cX10_hitsAt 25 = .ok (.bipush 6, 2) := by decide +kernel
theorem dX10_hitsAt_27 : decode cX10_hitsAt 27 = .ok (.invokevirtual 52, 3) := by decide +kernel
theorem dX10_hitsAt_30 : decode cX10_hitsAt 30 = .ok (.iconst 4, 1) := by decide +kernel
theorem dX10_hitsAt_31 : decode cX10_hitsAt 31 = .ok (.iload_n 2, 1) := by decide +kernel
theorem dX10_hitsAt_32 : decode cX10_hitsAt 32 = .ok (.isub, 1) := by decide +kernel
theorem dX10_hitsAt_33 : decode cX10_hitsAt 33 = .ok (.imul, 1) := by decide +kernel
theorem dX10_hitsAt_34 : decode cX10_hitsAt 34 = .ok (.iload_n 3, 1) := by decide +kernel
theorem dX10_hitsAt_35 : decode cX10_hitsAt 35 = .ok (.imul, 1) := by decide +kernel
theorem dX10_hitsAt_36 : decode cX10_hitsAt 36 = .ok (.bipush 8, 2) := by decide +kernel
theorem dX10_hitsAt_38 : decode cX10_hitsAt 38 = .ok (.idiv, 1) := by decide +kernel
theorem dX10_hitsAt_39 : decode cX10_hitsAt 39 = .ok (.ireturn, 1) := by decide +kernel
theorem dX10_mayFire_0 : decode cX10_mayFire 0 = .ok (.aload_n 0, 1) := by decide +kernel
theorem dX10_mayFire_1 : decode cX10_mayFire 1 = .ok (.getfield 7, 3) := by decide +kernel
theorem dX10_mayFire_4 : decode cX10_mayFire 4 = .ok (.iconst 0, 1) := by decide +kernel
theorem dX10_mayFire_5 : decode cX10_mayFire 5 = .ok (.iaload, 1) := by decide +kernel
theorem dX10_mayFire_6 : decode cX10_mayFire 6 = .ok (.aload_n 0, 1) := by decide +kernel
theorem dX10_mayFire_7 : decode cX10_mayFire 7 = .ok (.iload_n 1, 1) := by decide +kernel
theorem dX10_mayFire_8 : decode cX10_mayFire 8 = .ok (.bipush 8, 2) := by decide +kernel
theorem dX10_mayFire_10 : decode cX10_mayFire 10 = .ok (.iload_n 2, 1) := by decide +kernel
theorem dX10_mayFire_11 : decode cX10_mayFire 11 = .ok (.iadd, 1) := by decide +kernel
theorem dX10_mayFire_12 : decode cX10_mayFire 12 = .ok (.invokevirtual 52, 3) := by decide +kernel
theorem dX10_mayFire_15 : decode cX10_mayFire 15 = .ok (.isub, 1) := by decide +kernel
theorem dX10_mayFire_16 : decode cX10_mayFire 16 = .ok (.iconst 1, 1) := by decide +kernel
theorem dX10_mayFire_17 : decode cX10_mayFire 17 = .ok (.if_icmp .le 7, 3) := by decide +kernel
theorem dX10_mayFire_20 : decode cX10_mayFire 20 = .ok (.iconst 1, 1) := by decide +kernel
theorem dX10_mayFire_21 : decode cX10_mayFire 21 = .ok (.goto 4, 3) := by decide +kernel
theorem dX10_mayFire_24 : decode cX10_mayFire 24 = .ok (.iconst 0, 1) := by decide +kernel
theorem dX10_mayFire_25 : decode cX10_mayFire 25 = .ok (.ireturn, 1) := by decide +kernel
theorem dX10_lose_0 : decode cX10_lose 0 = .ok (.aload_n 0, 1) := by decide +kernel
theorem dX10_lose_1 : decode cX10_lose 1 = .ok (.iload_n 1, 1) := by decide +kernel
theorem dX10_lose_2 : decode cX10_lose 2 = .ok (.iload_n 2, 1) := by decide +kernel
theorem dX10_lose_3 : decode cX10_lose 3 = .ok (.invokevirtual 52, 3) := by decide +kernel
theorem dX10_lose_6 : decode cX10_lose 6 = .ok (.iload_n 3, 1) := by decide +kernel
theorem dX10_lose_7 : decode cX10_lose 7 = .ok (.isub, 1) := by decide +kernel
theorem dX10_lose_8 : decode cX10_lose 8 = .ok (.istore 4, 2) := by decide +kernel
theorem dX10_lose_10 : decode cX10_lose 10 = .ok (.aload_n 0, 1) := by decide +kernel
theorem dX10_lose_11 : decode cX10_lose 11 = .ok (.iload_n 1, 1) := by decide +kernel
theorem dX10_lose_12 : decode cX10_lose 12 = .ok (.iload_n 2, 1) := by decide +kernel
theorem dX10_lose_13 : decode cX10_lose 13 = .ok (.iload 4, 2) := by decide +kernel
theorem dX10_lose_15 : decode cX10_lose 15 = .ok (.ifCond .ge 7, 3) := by decide +kernel
theorem dX10_lose_18 : decode cX10_lose 18 = .ok (.iconst 0, 1) := by decide +kernel
theorem dX10_lose_19 : decode cX10_lose 19 = .ok (.goto 5, 3) := by decide +kernel
theorem dX10_lose_22 : decode cX10_lose 22 = .ok (.iload 4, 2) := by decide +kernel
theorem dX10_lose_24 : decode cX10_lose 24 = .ok (.invokevirtual 82, 3) := by decide +kernel
theorem dX10_lose_27 : decode cX10_lose 27 = .ok (.return_, 1) := by decide +kernel
theorem dX10_free_0 : decode cX10_free 0 = .ok (.aload_n 0, 1) := by decide +kernel
theorem dX10_free_1 : decode cX10_free 1 = .ok (.iload_n 1, 1) := by decide +kernel
theorem dX10_free_2 : decode cX10_free 2 = .ok (.bipush 7, 2) := by decide +kernel
theorem dX10_free_4 : decode cX10_free 4 = .ok (.invokevirtual 52, 3) := by decide +kernel
theorem dX10_free_7 : decode cX10_free 7 = .ok (.istore_n 2, 1) := by decide +kernel
theorem dX10_free_8 : decode cX10_free 8 = .ok (.iload_n 2, 1) := by decide +kernel
theorem dX10_free_9 : decode cX10_free 9 = .ok (.ifCond .lt 19, 3) := by decide +kernel
theorem dX10_free_12 : decode cX10_free 12 = .ok (.aload_n 0, 1) := by decide +kernel
theorem dX10_free_13 : decode cX10_free 13 = .ok (.iload_n 2, 1) := by decide +kernel
theorem dX10_free_14 : decode cX10_free 14 = .ok (.bipush 7, 2) := by decide +kernel
theorem dX10_free_16 : decode cX10_free 16 = .ok (.iconst (-1), 1) := by decide +kernel
theorem dX10_free_17 : decode cX10_free 17 = .ok (.invokevirtual 82, 3) := by decide +kernel
theorem dX10_free_20 : decode cX10_free 20 = .ok (.aload_n 0, 1) := by decide +kernel
theorem dX10_free_21 : decode cX10_free 21 = .ok (.iload_n 1, 1) := by decide +kernel
theorem dX10_free_22 : decode cX10_free 22 = .ok (.bipush 7, 2) := by decide +kernel
theorem dX10_free_24 : decode cX10_free 24 = .ok (.iconst (-1), 1) := by decide +kernel
theorem dX10_free_25 : decode cX10_free 25 = .ok (.invokevirtual 82, 3) := by decide +kernel
theorem dX10_free_28 : decode cX10_free 28 = .ok (.return_, 1) := by decide +kernel
theorem dX10_areTwo_0 : decode cX10_areTwo 0 = .ok (.aload_n 0, 1) := by decide +kernel
theorem dX10_areTwo_1 : decode cX10_areTwo 1 = .ok (.iload_n 1, 1) := by decide +kernel
theorem dX10_areTwo_2 : decode cX10_areTwo 2 = .ok (.invokevirtual 113, 3) := by decide +kernel
theorem dX10_areTwo_5 : decode cX10_areTwo 5 = .ok (.ifCond .eq 20, 3) := by decide +kernel
theorem dX10_areTwo_8 : decode cX10_areTwo 8 = .ok (.aload_n 0, 1) := by decide +kernel
theorem dX10_areTwo_9 : decode cX10_areTwo 9 = .ok (.iload_n 2, 1) := by decide +kernel
theorem dX10_areTwo_10 : decode cX10_areTwo 10 = .ok (.invokevirtual 113, 3) := by decide +kernel
theorem dX10_areTwo_13 : decode cX10_areTwo 13 = .ok (.ifCond .eq 12, 3) := by decide +kernel
theorem dX10_areTwo_16 : decode cX10_areTwo 16 = .ok (.iload_n 1, 1) := by decide +kernel
theorem dX10_areTwo_17 : decode cX10_areTwo 17 = .ok (.iload_n 2, 1) := by decide +kernel
theorem dX10_areTwo_18 : decode cX10_areTwo 18 = .ok (.if_icmp .eq 7, 3) := by decide +kernel
theorem dX10_areTwo_21 : decode cX10_areTwo 21 = .ok (.iconst 1, 1) := by decide +kernel
theorem dX10_areTwo_22 : decode cX10_areTwo 22 = .ok (.goto 4, 3) := by decide +kernel
theorem dX10_areTwo_25 : decode cX10_areTwo 25 = .ok (.iconst 0, 1) := by decide +kernel
theorem dX10_areTwo_26 : decode cX10_areTwo 26 = .ok (.ireturn, 1) := by decide +kernel
theorem dX10_fire_0 : decode cX10_fire 0 = .ok (.aload_n 0, 1) := by decide +kernel
theorem dX10_fire_1 : decode cX10_fire 1 = .ok (.iload_n 1, 1) := by decide +kernel
theorem dX10_fire_2 : decode cX10_fire 2 = .ok (.iload_n 3, 1) := by decide +kernel
theorem dX10_fire_3 : decode cX10_fire 3 = .ok (.invokevirtual 129, 3) := by decide +kernel
theorem dX10_fire_6 : decode cX10_fire 6 = .ok (.ifCond .eq 13, 3) := by decide +kernel
theorem dX10_fire_9 : decode cX10_fire 9 = .ok (.iload_n 2, 1) := by decide +kernel
theorem dX10_fire_10 : decode cX10_fire 10 = .ok (.i2l, 1) := by decide +kernel
theorem dX10_fire_11 : decode cX10_fire 11 = .ok (.lconst 0, 1) := by decide +kernel
theorem dX10_fire_12 : decode cX10_fire 12 = .ok (.lconst 1, 1) := by decide +kernel
theorem dX10_fire_13 : decode cX10_fire 13 = .ok (.invokestatic 42, 3) := by decide +kernel
theorem dX10_fire_16 : decode cX10_fire 16 = .ok (.ifCond .ne 5, 3) := by decide +kernel
theorem dX10_fire_19 : decode cX10_fire 19 = .ok (.iconst (-1), 1) := by decide +kernel
theorem dX10_fire_20 : decode cX10_fire 20 = .ok (.ireturn, 1) := by decide +kernel
theorem dX10_fire_21 : decode cX10_fire 21 = .ok (.aload_n 0, 1) := by decide +kernel
theorem dX10_fire_22 : decode cX10_fire 22 = .ok (.iload_n 1, 1) := by decide +kernel
theorem dX10_fire_23 : decode cX10_fire 23 = .ok (.iload_n 2, 1) := by decide +kernel
theorem dX10_fire_24 : decode cX10_fire 24 = .ok (.iload_n 3, 1) := by decide +kernel
theorem dX10_fire_25 : decode cX10_fire 25 = .ok (.invokevirtual 132, 3) := by decide +kernel
theorem dX10_fire_28 : decode cX10_fire 28 = .ok (.istore 4, 2) := by decide +kernel
theorem dX10_fire_30 : decode cX10_fire 30 = .ok (.aload_n 0, 1) := by decide +kernel
theorem dX10_fire_31 : decode cX10_fire 31 = .ok (.getfield 7, 3) := by decide +kernel
theorem dX10_fire_34 : decode cX10_fire 34 = .ok (.iconst 1, 1) := by decide +kernel
theorem dX10_fire_35 : decode cX10_fire 35 = .ok (.iaload, 1) := by decide +kernel
theorem dX10_fire_36 : decode cX10_fire 36 = .ok (.ifCond .eq 17, 3) := by decide +kernel
theorem dX10_fire_39 : decode cX10_fire 39 = .ok (.iload 4, 2) := by decide +kernel
theorem dX10_fire_41 : decode cX10_fire 41 = .ok (.ifCond .eq 12, 3) := by decide +kernel
theorem dX10_fire_44 : decode cX10_fire 44 = .ok (.aload_n 0, 1) := by decide +kernel
theorem dX10_fire_45 : decode cX10_fire 45 = .ok (.iload_n 1, 1) := by decide +kernel
theorem dX10_fire_46 : decode cX10_fire 46 = .ok (.iload_n 2, 1) := by decide +kernel
theorem dX10_fire_47 : decode cX10_fire 47 = .ok (.invokevirtual 135, 3) := by decide +kernel
theorem dX10_fire_50 : decode cX10_fire 50 = .ok (.ifCond .ne 6, 3) := by decide +kernel
theorem dX10_fire_53 : decode cX10_fire 53 = .ok (.bipush (-2), 2) := by decide +kernel
theorem dX10_fire_55 : decode cX10_fire 55 = .ok (.ireturn, 1) := by decide +kernel
theorem dX10_fire_56 : decode cX10_fire 56 = .ok (.aload_n 0, 1) := by decide +kernel
theorem dX10_fire_57 : decode cX10_fire 57 = .ok (.invokevirtual 63, 3) := by decide +kernel
theorem dX10_fire_60 : decode cX10_fire 60 = .ok (.aload_n 0, 1) := by decide +kernel
theorem dX10_fire_61 : decode cX10_fire 61 = .ok (.iload_n 1, 1) := by decide +kernel
theorem dX10_fire_62 : decode cX10_fire 62 = .ok (.iload 4, 2) := by decide +kernel
theorem dX10_fire_64 : decode cX10_fire 64 = .ok (.invokevirtual 138, 3) := by decide +kernel
theorem dX10_fire_67 : decode cX10_fire 67 = .ok (.istore 5, 2) := by decide +kernel
theorem dX10_fire_69 : decode cX10_fire 69 = .ok (.aload_n 0, 1) := by decide +kernel
theorem dX10_fire_70 : decode cX10_fire 70 = .ok (.iload_n 3, 1) := by decide +kernel
theorem dX10_fire_71 : decode cX10_fire 71 = .ok (.iconst 3, 1) := by decide +kernel
theorem dX10_fire_72 : decode cX10_fire 72 = .ok (.iload 5, 2) := by decide +kernel
theorem dX10_fire_74 : decode cX10_fire 74 = .ok (.invokevirtual 141, 3) := by decide +kernel
theorem dX10_fire_77 : decode cX10_fire 77 = .ok (.aload_n 0, 1) := by decide +kernel
theorem dX10_fire_78 : decode cX10_fire 78 = .ok (.iload_n 3, 1) := by decide +kernel
theorem dX10_fire_79 : decode cX10_fire 79 = .ok (.iconst 5, 1) := by decide +kernel
theorem dX10_fire_80 : decode cX10_fire 80 = .ok (.iload 5, 2) := by decide +kernel
theorem dX10_fire_82 : decode cX10_fire 82 = .ok (.iconst 3, 1) := by decide +kernel
theorem dX10_fire_83 : decode cX10_fire 83 = .ok (.idiv, 1) := by decide +kernel
theorem dX10_fire_84 : decode cX10_fire 84 = .ok (.invokevirtual 141, 3) := by decide +kernel
theorem dX10_fire_87 : decode cX10_fire 87 = .ok (.aload_n 0, 1) := by decide +kernel
theorem dX10_fire_88 : decode cX10_fire 88 = .ok (.iload_n 3, 1) := by decide +kernel
theorem dX10_fire_89 : decode cX10_fire 89 = .ok (.iconst 4, 1) := by decide +kernel
theorem dX10_fire_90 : decode cX10_fire 90 = .ok (.iload 5, 2) := by decide +kernel
theorem dX10_fire_92 : decode cX10_fire 92 = .ok (.iconst 4, 1) := by decide +kernel
theorem dX10_fire_93 : decode cX10_fire 93 = .ok (.idiv, 1) := by decide +kernel
theorem dX10_fire_94 : decode cX10_fire 94 = .ok (.invokevirtual 141, 3) := by decide +kernel
theorem dX10_fire_97 : decode cX10_fire 97 = .ok (.aload_n 0, 1) := by decide +kernel
theorem dX10_fire_98 : decode cX10_fire 98 = .ok (.iload_n 3, 1) := by decide +kernel
theorem dX10_fire_99 : decode cX10_fire 99 = .ok (.bipush 6, 2) := by decide +kernel
theorem dX10_fire_101 : decode cX10_fire 101 = .ok (.iload 5, 2) := by decide +kernel
theorem dX10_fire_103 : decode cX10_fire 103 = .ok (.bipush 6, 2) := by decide +kernel
theorem dX10_fire_105 : decode cX10_fire 105 = .ok (.idiv, 1) := by decide +kernel
theorem dX10_fire_106 : decode cX10_fire 106 = .ok (.invokevirtual 141, 3) := by decide +kernel
theorem dX10_fire_109 : decode cX10_fire 109 = .ok (.aload_n 0, 1) := by decide +kernel
theorem dX10_fire_110 : decode cX10_fire 110 = .ok (.iload_n 1, 1) := by decide +kernel
theorem dX10_fire_111 : decode cX10_fire 111 = .ok (.bipush 8, 2) := by decide +kernel
theorem dX10_fire_113 : decode cX10_fire 113 = .ok (.iload_n 2, 1) := by decide +kernel
theorem dX10_fire_114 : decode cX10_fire 114 = .ok (.iadd, 1) := by decide +kernel
theorem dX10_fire_115 : decode cX10_fire 115 = .ok (.aload_n 0, 1) := by decide +kernel
theorem dX10_fire_116 : decode cX10_fire 116 = .ok (.getfield 7, 3) := by decide +kernel
theorem dX10_fire_119 : decode cX10_fire 119 = .ok (.iconst 0, 1) := by decide +kernel
theorem dX10_fire_120 : decode cX10_fire 120 = .ok (.iaload, 1) := by decide +kernel
theorem dX10_fire_121 : decode cX10_fire 121 = .ok (.invokevirtual 82, 3) := by decide +kernel
theorem dX10_fire_124 : decode cX10_fire 124 = .ok (.aload_n 0, 1) := by decide +kernel
theorem dX10_fire_125 : decode cX10_fire 125 = .ok (.iload_n 1, 1) := by decide +kernel
theorem dX10_fire_126 : decode cX10_fire 126 = .ok (.bipush 10, 2) := by decide +kernel
theorem dX10_fire_128 : decode cX10_fire 128 = .ok (.aload_n 0, 1) := by decide +kernel
theorem dX10_fire_129 : decode cX10_fire 129 = .ok (.iload_n 1, 1) := by decide +kernel
theorem dX10_fire_130 : decode cX10_fire 130 = .ok (.bipush 10, 2) := by decide +kernel
theorem dX10_fire_132 : decode cX10_fire 132 = .ok (.invokevirtual 52, 3) := by decide +kernel
theorem dX10_fire_135 : decode cX10_fire 135 = .ok (.iconst 2, 1) := by decide +kernel
theorem dX10_fire_136 : decode cX10_fire 136 = .ok (.ior, 1) := by decide +kernel
theorem dX10_fire_137 : decode cX10_fire 137 = .ok (.invokevirtual 82, 3) := by decide +kernel
theorem dX10_fire_140 : decode cX10_fire 140 = .ok (.aload_n 0, 1) := by decide +kernel
theorem dX10_fire_141 : decode cX10_fire 141 = .ok (.iload_n 3, 1) := by decide +kernel
theorem dX10_fire_142 : decode cX10_fire 142 = .ok (.iconst 3, 1) := by decide +kernel
theorem dX10_fire_143 : decode cX10_fire 143 = .ok (.invokevirtual 52, 3) := by decide +kernel
theorem dX10_fire_146 : decode cX10_fire 146 = .ok (.ifCond .ne 15, 3) := by decide +kernel
theorem dX10_fire_149 : decode cX10_fire 149 = .ok (.aload_n 0, 1) := by decide +kernel
theorem dX10_fire_150 : decode cX10_fire 150 = .ok (.iload_n 3, 1) := by decide +kernel
theorem dX10_fire_151 : decode cX10_fire 151 = .ok (.invokevirtual 144, 3) := by decide +kernel
theorem dX10_fire_154 : decode cX10_fire 154 = .ok (.aload_n 0, 1) := by decide +kernel
theorem dX10_fire_155 : decode cX10_fire 155 = .ok (.iload_n 3, 1) := by decide +kernel
theorem dX10_fire_156 : decode cX10_fire 156 = .ok (.iconst 1, 1) := by decide +kernel
theorem dX10_fire_157 : decode cX10_fire 157 = .ok (.iconst (-1), 1) := by decide +kernel
theorem dX10_fire_158 : decode cX10_fire 158 = .ok (.invokevirtual 82, 3) := by decide +kernel
theorem dX10_fire_161 : decode cX10_fire 161 = .ok (.iload 5, 2) := by decide +kernel
theorem dX10_fire_163 : decode cX10_fire 163 = .ok (.ireturn, 1) := by decide +kernel
theorem dX10_grapple_0 : decode cX10_grapple 0 = .ok (.aload_n 0, 1) := by decide +kernel
theorem dX10_grapple_1 : decode cX10_grapple 1 = .ok (.iload_n 1, 1) := by decide +kernel
theorem dX10_grapple_2 : decode cX10_grapple 2 = .ok (.iload_n 2, 1) := by decide +kernel
theorem dX10_grapple_3 : decode cX10_grapple 3 = .ok (.invokevirtual 129, 3) := by decide +kernel
theorem dX10_grapple_6 : decode cX10_grapple 6 = .ok (.ifCond .ne 5, 3) := by decide +kernel
theorem dX10_grapple_9 : decode cX10_grapple 9 = .ok (.iconst (-1), 1) := by decide +kernel
theorem dX10_grapple_10 : decode cX10_grapple 10 = .ok (.ireturn, 1) := by decide +kernel
theorem dX10_grapple_11 : decode cX10_grapple 11 = .ok (.aload_n 0, 1) := by decide +kernel
theorem dX10_grapple_12 : decode cX10_grapple 12 = .ok (.getfield 7, 3) := by decide +kernel
theorem dX10_grapple_15 : decode cX10_grapple 15 = .ok (.iconst 1, 1) := by decide +kernel
theorem dX10_grapple_16 : decode cX10_grapple 16 = .ok (.iaload, 1) := by decide +kernel
theorem dX10_grapple_17 : decode cX10_grapple 17 = .ok (.iconst 1, 1) := by decide +kernel
theorem dX10_grapple_18 : decode cX10_grapple 18 = .ok (.if_icmp .ne 43, 3) := by decide +kernel
theorem dX10_grapple_21 : decode cX10_grapple 21 = .ok (.aload_n 0, 1) := by decide +kernel
theorem dX10_grapple_22 : decode cX10_grapple 22 = .ok (.iload_n 1, 1) := by decide +kernel
theorem dX10_grapple_23 : decode cX10_grapple 23 = .ok (.invokevirtual 95, 3) := by decide +kernel
theorem dX10_grapple_26 : decode cX10_grapple 26 = .ok (.ifCond .eq 35, 3) := by decide +kernel
theorem dX10_grapple_29 : decode cX10_grapple 29 = .ok (.aload_n 0, 1) := by decide +kernel
theorem dX10_grapple_30 : decode cX10_grapple 30 = .ok (.iload_n 2, 1) := by decide +kernel
theorem dX10_grapple_31 : decode cX10_grapple 31 = .ok (.invokevirtual 95, 3) := by decide +kernel
theorem dX10_grapple_34 : decode cX10_grapple 34 = .ok (.ifCond .eq 27, 3) := by decide +kernel
theorem dX10_grapple_37 : decode cX10_grapple 37 = .ok (.aload_n 0, 1) := by decide +kernel
theorem dX10_grapple_38 : decode cX10_grapple 38 = .ok (.iload_n 1, 1) := by decide +kernel
theorem dX10_grapple_39 : decode cX10_grapple 39 = .ok (.bipush 7, 2) := by decide +kernel
theorem dX10_grapple_41 : decode cX10_grapple 41 = .ok (.invokevirtual 52, 3) := by decide +kernel
theorem dX10_grapple_44 : decode cX10_grapple 44 = .ok (.ifCond .ge 17, 3) := by decide +kernel
theorem dX10_grapple_47 : decode cX10_grapple 47 = .ok (.aload_n 0, 1) := by decide +kernel
theorem dX10_grapple_48 : decode cX10_grapple 48 = .ok (.iload_n 2, 1) := by decide +kernel
theorem dX10_grapple_49 : decode cX10_grapple 49 = .ok (.bipush 7, 2) := by decide +kernel
theorem dX10_grapple_51 : decode cX10_grapple 51 = .ok (.invokevirtual 52, 3) := by decide +kernel
theorem dX10_grapple_54 : decode cX10_grapple 54 = .ok (.ifCond .ge 7, 3) := by decide +kernel
theorem dX10_grapple_57 : decode cX10_grapple 57 = .ok (.iconst 1, 1) := by decide +kernel
theorem dX10_grapple_58 : decode cX10_grapple 58 = .ok (.goto 4, 3) := by decide +kernel
theorem dX10_grapple_61 : decode cX10_grapple 61 = .ok (.iconst 0, 1) := by decide +kernel
theorem dX10_grapple_62 : decode cX10_grapple 62 = .ok (.istore_n 3, 1) := by decide +kernel
theorem dX10_grapple_63 : decode cX10_grapple 63 = .ok (.iload_n 3, 1) := by decide +kernel
theorem dX10_grapple_64 : decode cX10_grapple 64 = .ok (.ifCond .eq 40, 3) := by decide +kernel
theorem dX10_grapple_67 : decode cX10_grapple 67 = .ok (.aload_n 0, 1) := by decide +kernel
theorem dX10_grapple_68 : decode cX10_grapple 68 = .ok (.iload_n 1, 1) := by decide +kernel
theorem dX10_grapple_69 : decode cX10_grapple 69 = .ok (.iconst 0, 1) := by decide +kernel
theorem dX10_grapple_70 : decode cX10_grapple 70 = .ok (.invokevirtual 52, 3) := by decide +kernel
theorem dX10_grapple_73 : decode cX10_grapple 73 = .ok (.aload_n 0, 1) := by decide +kernel
theorem dX10_grapple_74 : decode cX10_grapple 74 = .ok (.iload_n 2, 1) := by decide +kernel
theorem dX10_grapple_75 : decode cX10_grapple 75 = .ok (.iconst 0, 1) := by decide +kernel
theorem dX10_grapple_76 : decode cX10_grapple 76 = .ok (.invokevirtual 52, 3) := by decide +kernel
theorem dX10_grapple_79 : decode cX10_grapple 79 = .ok (.if_icmp .eq 25, 3) := by decide +kernel
theorem dX10_grapple_82 : decode cX10_grapple 82 = .ok (.aload_n 0, 1) := by decide +kernel
theorem dX10_grapple_83 : decode cX10_grapple 83 = .ok (.iload_n 1, 1) := by decide +kernel
theorem dX10_grapple_84 : decode cX10_grapple 84 = .ok (.iconst 1, 1) := by decide +kernel
theorem dX10_grapple_85 : decode cX10_grapple 85 = .ok (.invokevirtual 52, 3) := by decide +kernel
theorem dX10_grapple_88 : decode cX10_grapple 88 = .ok (.aload_n 0, 1) := by decide +kernel
theorem dX10_grapple_89 : decode cX10_grapple 89 = .ok (.iload_n 2, 1) := by decide +kernel
theorem dX10_grapple_90 : decode cX10_grapple 90 = .ok (.iconst 1, 1) := by decide +kernel
theorem dX10_grapple_91 : decode cX10_grapple 91 = .ok (.invokevirtual 52, 3) := by decide +kernel
theorem dX10_grapple_94 : decode cX10_grapple 94 = .ok (.invokestatic 148, 3) := by decide +kernel
theorem dX10_grapple_97 : decode cX10_grapple 97 = .ok (.ifCond .eq 7, 3) := by decide +kernel
theorem dX10_grapple_100 : decode cX10_grapple 100 = .ok (.iconst 1, 1) := by decide +kernel
theorem dX10_grapple_101 : decode cX10_grapple 101 = .ok (.goto 4, 3) := by decide +kernel
theorem dX10_grapple_104 : decode cX10_grapple 104 = .ok (.iconst 0, 1) := by decide +kernel
theorem dX10_grapple_105 : decode cX10_grapple 105 = .ok (.istore_n 3, 1) := by decide +kernel
theorem dX10_grapple_106 : decode cX10_grapple 106 = .ok (.iload_n 3, 1) := by decide +kernel
theorem dX10_grapple_107 : decode cX10_grapple 107 = .ok (.ifCond .eq 20, 3) := by decide +kernel
theorem dX10_grapple_110 : decode cX10_grapple 110 = .ok (.iconst 2, 1) := by decide +kernel
theorem dX10_grapple_111 : decode cX10_grapple 111 = .ok (.aload_n 0, 1) := by decide +kernel
theorem dX10_grapple_112 : decode cX10_grapple 112 = .ok (.iload_n 1, 1) := by decide +kernel
theorem dX10_grapple_113 : decode cX10_grapple 113 = .ok (.iconst 5, 1) := by decide +kernel
theorem dX10_grapple_114 : decode cX10_grapple 114 = .ok (.invokevirtual 52, 3) := by decide +kernel
theorem dX10_grapple_117 : decode cX10_grapple 117 = .ok (.imul, 1) := by decide +kernel
theorem dX10_grapple_118 : decode cX10_grapple 118 = .ok (.aload_n 0, 1) := by decide +kernel
theorem dX10_grapple_119 : decode cX10_grapple 119 = .ok (.iload_n 2, 1) := by decide +kernel
theorem dX10_grapple_120 : decode cX10_grapple 120 = .ok (.iconst 5, 1) := by decide +kernel
theorem dX10_grapple_121 : decode cX10_grapple 121 = .ok (.invokevirtual 52, 3) := by decide +kernel
theorem dX10_grapple_124 : decode cX10_grapple 124 = .ok (.if_icmp .ge 6, 3) := by decide +kernel
theorem dX10_grapple_127 : decode cX10_grapple 127 = .ok (.bipush (-2), 2) := by decide +kernel
theorem dX10_grapple_129 : decode cX10_grapple 129 = .ok (.ireturn, 1) := by decide +kernel
theorem dX10_grapple_130 : decode cX10_grapple 130 = .ok (.aload_n 0, 1) := by decide +kernel
theorem dX10_grapple_131 : decode cX10_grapple 131 = .ok (.invokevirtual 63, 3) := by decide +kernel
theorem dX10_grapple_134 : decode cX10_grapple 134 = .ok (.aload_n 0, 1) := by decide +kernel
theorem dX10_grapple_135 : decode cX10_grapple 135 = .ok (.iload_n 1, 1) := by decide +kernel
theorem dX10_grapple_136 : decode cX10_grapple 136 = .ok (.bipush 7, 2) := by decide +kernel
theorem dX10_grapple_138 : decode cX10_grapple 138 = .ok (.iload_n 2, 1) := by decide +kernel
theorem dX10_grapple_139 : decode cX10_grapple 139 = .ok (.invokevirtual 82, 3) := by decide +kernel
theorem dX10_grapple_142 : decode cX10_grapple 142 = .ok (.aload_n 0, 1) := by decide +kernel
theorem dX10_grapple_143 : decode cX10_grapple 143 = .ok (.iload_n 2, 1) := by decide +kernel
theorem dX10_grapple_144 : decode cX10_grapple 144 = .ok (.bipush 7, 2) := by decide +kernel
theorem dX10_grapple_146 : decode cX10_grapple 146 = .ok (.iload_n 1, 1) := by decide +kernel
theorem dX10_grapple_147 : decode cX10_grapple 147 = .ok (.invokevirtual 82, 3) := by decide +kernel
theorem dX10_grapple_150 : decode cX10_grapple 150 = .ok (.aload_n 0, 1) := by decide +kernel
theorem dX10_grapple_151 : decode cX10_grapple 151 = .ok (.iload_n 1, 1) := by decide +kernel
theorem dX10_grapple_152 : decode cX10_grapple 152 = .ok (.iconst 5, 1) := by decide +kernel
theorem dX10_grapple_153 : decode cX10_grapple 153 = .ok (.invokevirtual 52, 3) := by decide +kernel
theorem dX10_grapple_156 : decode cX10_grapple 156 = .ok (.aload_n 0, 1) := by decide +kernel
theorem dX10_grapple_157 : decode cX10_grapple 157 = .ok (.iload_n 2, 1) := by decide +kernel
theorem dX10_grapple_158 : decode cX10_grapple 158 = .ok (.iconst 5, 1) := by decide +kernel
theorem dX10_grapple_159 : decode cX10_grapple 159 = .ok (.invokevirtual 52, 3) := by decide +kernel
theorem dX10_grapple_162 : decode cX10_grapple 162 = .ok (.iadd, 1) := by decide +kernel
theorem dX10_grapple_163 : decode cX10_grapple 163 = .ok (.ireturn, 1) := by decide +kernel
theorem dX10_cut_0 : decode cX10_cut 0 = .ok (.aload_n 0, 1) := by decide +kernel
theorem dX10_cut_1 : decode cX10_cut 1 = .ok (.iload_n 1, 1) := by decide +kernel
theorem dX10_cut_2 : decode cX10_cut 2 = .ok (.invokevirtual 113, 3) := by decide +kernel
theorem dX10_cut_5 : decode cX10_cut 5 = .ok (.ifCond .ne 5, 3) := by decide +kernel
theorem dX10_cut_8 : decode cX10_cut 8 = .ok (.iconst (-1), 1) := by decide +kernel
theorem dX10_cut_9 : decode cX10_cut 9 = .ok (.ireturn, 1) := by decide +kernel
theorem dX10_cut_10 : decode cX10_cut 10 = .ok (.aload_n 0, 1) := by decide +kernel
theorem dX10_cut_11 : decode cX10_cut 11 = .ok (.iload_n 1, 1) := by decide +kernel
theorem dX10_cut_12 : decode cX10_cut 12 = .ok (.bipush 7, 2) := by decide +kernel
theorem dX10_cut_14 : decode cX10_cut 14 = .ok (.invokevirtual 52, 3) := by decide +kernel
theorem dX10_cut_17 : decode cX10_cut 17 = .ok (.istore_n 2, 1) := by decide +kernel
theorem dX10_cut_18 : decode cX10_cut 18 = .ok (.aload_n 0, 1) := by decide +kernel
theorem dX10_cut_19 : decode cX10_cut 19 = .ok (.getfield 7, 3) := by decide +kernel
theorem dX10_cut_22 : decode cX10_cut 22 = .ok (.iconst 1, 1) := by decide +kernel
theorem dX10_cut_23 : decode cX10_cut 23 = .ok (.iaload, 1) := by decide +kernel
theorem dX10_cut_24 : decode cX10_cut 24 = .ok (.ifCond .eq 22, 3) := by decide +kernel
theorem dX10_cut_27 : decode cX10_cut 27 = .ok (.iload_n 2, 1) := by decide +kernel
theorem dX10_cut_28 : decode cX10_cut 28 = .ok (.ifCond .lt 18, 3) := by decide +kernel
theorem dX10_cut_31 : decode cX10_cut 31 = .ok (.aload_n 0, 1) := by decide +kernel
theorem dX10_cut_32 : decode cX10_cut 32 = .ok (.iload_n 1, 1) := by decide +kernel
theorem dX10_cut_33 : decode cX10_cut 33 = .ok (.iconst 5, 1) := by decide +kernel
theorem dX10_cut_34 : decode cX10_cut 34 = .ok (.invokevirtual 52, 3) := by decide +kernel
theorem dX10_cut_37 : decode cX10_cut 37 = .ok (.aload_n 0, 1) := by decide +kernel
theorem dX10_cut_38 : decode cX10_cut 38 = .ok (.iload_n 2, 1) := by decide +kernel
theorem dX10_cut_39 : decode cX10_cut 39 = .ok (.iconst 5, 1) := by decide +kernel
theorem dX10_cut_40 : decode cX10_cut 40 = .ok (.invokevirtual 52, 3) := by decide +kernel
theorem dX10_cut_43 : decode cX10_cut 43 = .ok (.if_icmp .ge 6, 3) := by decide +kernel
theorem dX10_cut_46 : decode cX10_cut 46 = .ok (.bipush (-2), 2) := by decide +kernel
theorem dX10_cut_48 : decode cX10_cut 48 = .ok (.ireturn, 1) := by decide +kernel
theorem dX10_cut_49 : decode cX10_cut 49 = .ok (.aload_n 0, 1) := by decide +kernel
theorem dX10_cut_50 : decode cX10_cut 50 = .ok (.invokevirtual 63, 3) := by decide +kernel
theorem dX10_cut_53 : decode cX10_cut 53 = .ok (.aload_n 0, 1) := by decide +kernel
theorem dX10_cut_54 : decode cX10_cut 54 = .ok (.iload_n 1, 1) := by decide +kernel
theorem dX10_cut_55 : decode cX10_cut 55 = .ok (.invokevirtual 144, 3) := by decide +kernel
theorem dX10_cut_58 : decode cX10_cut 58 = .ok (.iload_n 2, 1) := by decide +kernel
theorem dX10_cut_59 : decode cX10_cut 59 = .ok (.ireturn, 1) := by decide +kernel
theorem dX10_gainOf_0 : decode cX10_gainOf 0 = .ok (.aload_n 0, 1) := by decide +kernel
theorem dX10_gainOf_1 : decode cX10_gainOf 1 = .ok (.getfield 7, 3) := by decide +kernel
theorem dX10_gainOf_4 : decode cX10_gainOf 4 = .ok (.bipush 8, 2) := by decide +kernel
theorem dX10_gainOf_6 : decode cX10_gainOf 6 = .ok (.aload_n 0, 1) := by decide +kernel
theorem dX10_gainOf_7 : decode cX10_gainOf 7 = .ok (.iload_n 1, 1) := by decide +kernel
theorem dX10_gainOf_8 : decode cX10_gainOf 8 = .ok (.iconst 0, 1) := by decide +kernel
theorem dX10_gainOf_9 : decode cX10_gainOf 9 = .ok (.invokevirtual 52, 3) := by decide +kernel
theorem dX10_gainOf_12 : decode cX10_gainOf 12 = .ok (.iadd, 1) := by decide +kernel
theorem dX10_gainOf_13 : decode cX10_gainOf 13 = .ok (.iaload, 1) := by decide +kernel
theorem dX10_gainOf_14 : decode cX10_gainOf 14 = .ok (.istore_n 3, 1) := by decide +kernel
theorem dX10_gainOf_15 : decode cX10_gainOf 15 = .ok (.iload_n 2, 1) := by decide +kernel
theorem dX10_gainOf_16 : decode cX10_gainOf 16 = .ok (.iconst 1, 1) := by decide +kernel
theorem dX10_gainOf_17 : decode cX10_gainOf 17 = .ok (.if_icmp .ne 25, 3) := by decide +kernel
theorem dX10_gainOf_20 : decode cX10_gainOf 20 = .ok (.aload_n 0, 1) := by decide +kernel
theorem dX10_gainOf_21 : decode cX10_gainOf 21 = .ok (.iload_n 1, 1) := by decide +kernel
theorem dX10_gainOf_22 : decode cX10_gainOf 22 = .ok (.iconst 4, 1) := by decide +kernel
theorem dX10_gainOf_23 : decode cX10_gainOf 23 = .ok (.invokevirtual 52, 3) := by decide +kernel
theorem dX10_gainOf_26 : decode cX10_gainOf 26 = .ok (.bipush 8, 2) := by decide +kernel
theorem dX10_gainOf_28 : decode cX10_gainOf 28 = .ok (.if_icmp .ge 12, 3) := by decide +kernel
theorem dX10_gainOf_31 : decode cX10_gainOf 31 = .ok (.iload_n 3, 1) := by decide +kernel
theorem dX10_gainOf_32 : decode cX10_gainOf 32 = .ok (.iconst 2, 1) := by decide +kernel
theorem dX10_gainOf_33 : decode cX10_gainOf 33 = .ok (.if_icmp .lt 7, 3) := by decide +kernel
theorem dX10_gainOf_36 : decode cX10_gainOf 36 = .ok (.iconst 1, 1) := by decide +kernel
theorem dX10_gainOf_37 : decode cX10_gainOf 37 = .ok (.goto 4, 3) := by decide +kernel
theorem dX10_gainOf_40 : decode cX10_gainOf 40 = .ok (.iconst 0, 1) := by decide +kernel
theorem dX10_gainOf_41 : decode cX10_gainOf 41 = .ok (.ireturn, 1) := by decide +kernel
theorem dX10_gainOf_42 : decode cX10_gainOf 42 = .ok (.iload_n 2, 1) := by decide +kernel
theorem dX10_gainOf_43 : decode cX10_gainOf 43 = .ok (.iconst 2, 1) := by decide +kernel
theorem dX10_gainOf_44 : decode cX10_gainOf 44 = .ok (.if_icmp .ne 26, 3) := by decide +kernel
theorem dX10_gainOf_47 : decode cX10_gainOf 47 = .ok (.aload_n 0, 1) := by decide +kernel
theorem dX10_gainOf_48 : decode cX10_gainOf 48 = .ok (.iload_n 1, 1) := by decide +kernel
theorem dX10_gainOf_49 : decode cX10_gainOf 49 = .ok (.bipush 6, 2) := by decide +kernel
theorem dX10_gainOf_51 : decode cX10_gainOf 51 = .ok (.invokevirtual 52, 3) := by decide +kernel
theorem dX10_gainOf_54 : decode cX10_gainOf 54 = .ok (.bipush 9, 2) := by decide +kernel
theorem dX10_gainOf_56 : decode cX10_gainOf 56 = .ok (.if_icmp .ge 12, 3) := by decide +kernel
theorem dX10_gainOf_59 : decode cX10_gainOf 59 = .ok (.iload_n 3, 1) := by decide +kernel
theorem dX10_gainOf_60 : decode cX10_gainOf 60 = .ok (.iconst 3, 1) := by decide +kernel
theorem dX10_gainOf_61 : decode cX10_gainOf 61 = .ok (.if_icmp .lt 7, 3) := by decide +kernel
theorem dX10_gainOf_64 : decode cX10_gainOf 64 = .ok (.iconst 1, 1) := by decide +kernel
theorem dX10_gainOf_65 : decode cX10_gainOf 65 = .ok (.goto 4, 3) := by decide +kernel
theorem dX10_gainOf_68 : decode cX10_gainOf 68 = .ok (.iconst 0, 1) := by decide +kernel
theorem dX10_gainOf_69 : decode cX10_gainOf 69 = .ok (.ireturn, 1) := by decide +kernel
theorem dX10_gainOf_70 : decode cX10_gainOf 70 = .ok (.bipush 20, 2) := by decide +kernel
theorem dX10_gainOf_72 : decode cX10_gainOf 72 = .ok (.aload_n 0, 1) := by decide +kernel
theorem dX10_gainOf_73 : decode cX10_gainOf 73 = .ok (.iload_n 1, 1) := by decide +kernel
theorem dX10_gainOf_74 : decode cX10_gainOf 74 = .ok (.iconst 3, 1) := by decide +kernel
theorem dX10_gainOf_75 : decode cX10_gainOf 75 = .ok (.invokevirtual 52, 3) := by decide +kernel
theorem dX10_gainOf_78 : decode cX10_gainOf 78 = .ok (.isub, 1) := by decide +kernel
theorem dX10_gainOf_79 : decode cX10_gainOf 79 = .ok (.istore 4, 2) := by decide +kernel
theorem dX10_gainOf_81 : decode cX10_gainOf 81 = .ok (.aload_n 0, 1) := by decide +kernel
theorem dX10_gainOf_82 : decode cX10_gainOf 82 = .ok (.iload_n 1, 1) := by decide +kernel
theorem dX10_gainOf_83 : decode cX10_gainOf 83 = .ok (.iconst 5, 1) := by decide +kernel
theorem dX10_gainOf_84 : decode cX10_gainOf 84 = .ok (.invokevirtual 52, 3) := by decide +kernel
theorem dX10_gainOf_87 : decode cX10_gainOf 87 = .ok (.iconst 4, 1) := by decide +kernel
theorem dX10_gainOf_88 : decode cX10_gainOf 88 = .ok (.idiv, 1) := by decide +kernel
theorem dX10_gainOf_89 : decode cX10_gainOf 89 = .ok (.iload 4, 2) := by decide +kernel
theorem dX10_gainOf_91 : decode cX10_gainOf 91 = .ok (.if_icmp .ge 14, 3) := by decide +kernel
theorem dX10_gainOf_94 : decode cX10_gainOf 94 = .ok (.aload_n 0, 1) := by decide +kernel
theorem dX10_gainOf_95 : decode cX10_gainOf 95 = .ok (.iload_n 1, 1) := by decide +kernel
theorem dX10_gainOf_96 : decode cX10_gainOf 96 = .ok (.iconst 5, 1) := by decide +kernel
theorem dX10_gainOf_97 : decode cX10_gainOf 97 = .ok (.invokevirtual 52, 3) := by decide +kernel
theorem dX10_gainOf_100 : decode cX10_gainOf 100 = .ok (.iconst 4, 1) := by decide +kernel
theorem dX10_gainOf_101 : decode cX10_gainOf 101 = .ok (.idiv, 1) := by decide +kernel
theorem dX10_gainOf_102 : decode cX10_gainOf 102 = .ok (.goto 5, 3) := by decide +kernel
theorem dX10_gainOf_105 : decode cX10_gainOf 105 = .ok (.iload 4, 2) := by decide +kernel
theorem dX10_gainOf_107 : decode cX10_gainOf 107 = .ok (.istore 4, 2) := by decide +kernel
theorem dX10_gainOf_109 : decode cX10_gainOf 109 = .ok (.iload_n 3, 1) := by decide +kernel
theorem dX10_gainOf_110 : decode cX10_gainOf 110 = .ok (.iload 4, 2) := by decide +kernel
theorem dX10_gainOf_112 : decode cX10_gainOf 112 = .ok (.if_icmp .ge 7, 3) := by decide +kernel
theorem dX10_gainOf_115 : decode cX10_gainOf 115 = .ok (.iload_n 3, 1) := by decide +kernel
theorem dX10_gainOf_116 : decode cX10_gainOf 116 = .ok (.goto 5, 3) := by decide +kernel
theorem dX10_gainOf_119 : decode cX10_gainOf 119 = .ok (.iload 4, 2) := by decide +kernel
theorem dX10_gainOf_121 : decode cX10_gainOf 121 = .ok (.ireturn, 1) := by decide +kernel
theorem dX10_repair_0 : decode cX10_repair 0 = .ok (.aload_n 0, 1) := by decide +kernel
theorem dX10_repair_1 : decode cX10_repair 1 = .ok (.iload_n 1, 1) := by decide +kernel
theorem dX10_repair_2 : decode cX10_repair 2 = .ok (.invokevirtual 113, 3) := by decide +kernel
theorem dX10_repair_5 : decode cX10_repair 5 = .ok (.ifCond .eq 15, 3) := by decide +kernel
theorem dX10_repair_8 : decode cX10_repair 8 = .ok (.iload_n 2, 1) := by decide +kernel
theorem dX10_repair_9 : decode cX10_repair 9 = .ok (.i2l, 1) := by decide +kernel
theorem dX10_repair_10 : decode cX10_repair 10 = .ok (.lconst 0, 1) := by decide +kernel
theorem dX10_repair_11 : decode cX10_repair 11 = .ok (.ldc2_w 151, 3) := by decide +kernel
theorem dX10_repair_14 : decode cX10_repair 14 = .ok (.invokestatic 42, 3) := by decide +kernel
theorem dX10_repair_17 : decode cX10_repair 17 = .ok (.ifCond .ne 5, 3) := by decide +kernel
theorem dX10_repair_20 : decode cX10_repair 20 = .ok (.iconst (-1), 1) := by decide +kernel
theorem dX10_repair_21 : decode cX10_repair 21 = .ok (.ireturn, 1) := by decide +kernel
theorem dX10_repair_22 : decode cX10_repair 22 = .ok (.aload_n 0, 1) := by decide +kernel
theorem dX10_repair_23 : decode cX10_repair 23 = .ok (.getfield 7, 3) := by decide +kernel
theorem dX10_repair_26 : decode cX10_repair 26 = .ok (.iconst 1, 1) := by decide +kernel
theorem dX10_repair_27 : decode cX10_repair 27 = .ok (.iaload, 1) := by decide +kernel
theorem dX10_repair_28 : decode cX10_repair 28 = .ok (.iconst 1, 1) := by decide +kernel
theorem dX10_repair_29 : decode cX10_repair 29 = .ok (.if_icmp .ne 35, 3) := by decide +kernel
theorem dX10_repair_32 : decode cX10_repair 32 = .ok (.aload_n 0, 1) := by decide +kernel
theorem dX10_repair_33 : decode cX10_repair 33 = .ok (.iload_n 1, 1) := by decide +kernel
theorem dX10_repair_34 : decode cX10_repair 34 = .ok (.invokevirtual 95, 3) := by decide +kernel
theorem dX10_repair_37 : decode cX10_repair 37 = .ok (.ifCond .eq 27, 3) := by decide +kernel
theorem dX10_repair_40 : decode cX10_repair 40 = .ok (.aload_n 0, 1) := by decide +kernel
theorem dX10_repair_41 : decode cX10_repair 41 = .ok (.iload_n 1, 1) := by decide +kernel
theorem dX10_repair_42 : decode cX10_repair 42 = .ok (.bipush 7, 2) := by decide +kernel
theorem dX10_repair_44 : decode cX10_repair 44 = .ok (.invokevirtual 52, 3) := by decide +kernel
theorem dX10_repair_47 : decode cX10_repair 47 = .ok (.ifCond .ge 17, 3) := by decide +kernel
theorem dX10_repair_50 : decode cX10_repair 50 = .ok (.aload_n 0, 1) := by decide +kernel
theorem dX10_repair_51 : decode cX10_repair 51 = .ok (.iload_n 1, 1) := by decide +kernel
theorem dX10_repair_52 : decode cX10_repair 52 = .ok (.bipush 10, 2) := by decide +kernel
theorem dX10_repair_54 : decode cX10_repair 54 = .ok (.invokevirtual 52, 3) := by decide +kernel
theorem dX10_repair_57 : decode cX10_repair 57 = .ok (.ifCond .ne 7, 3) := by decide +kernel
theorem dX10_repair_60 : decode cX10_repair 60 = .ok (.iconst 1, 1) := by decide +kernel
theorem dX10_repair_61 : decode cX10_repair 61 = .ok (.goto 4, 3) := by decide +kernel
theorem dX10_repair_64 : decode cX10_repair 64 = .ok (.iconst 0, 1) := by decide +kernel
theorem dX10_repair_65 : decode cX10_repair 65 = .ok (.istore_n 3, 1) := by decide +kernel
theorem dX10_repair_66 : decode cX10_repair 66 = .ok (.iload_n 3, 1) := by decide +kernel
theorem dX10_repair_67 : decode cX10_repair 67 = .ok (.ifCond .eq 12, 3) := by decide +kernel
theorem dX10_repair_70 : decode cX10_repair 70 = .ok (.aload_n 0, 1) := by decide +kernel
theorem dX10_repair_71 : decode cX10_repair 71 = .ok (.iload_n 1, 1) := by decide +kernel
theorem dX10_repair_72 : decode cX10_repair 72 = .ok (.iload_n 2, 1) := by decide +kernel
theorem dX10_repair_73 : decode cX10_repair 73 = .ok (.invokevirtual 153, 3) := by decide +kernel
theorem dX10_repair_76 : decode cX10_repair 76 = .ok (.ifCond .ne 6, 3) := by decide +kernel
theorem dX10_repair_79 : decode cX10_repair 79 = .ok (.bipush (-2), 2) := by decide +kernel
theorem dX10_repair_81 : decode cX10_repair 81 = .ok (.ireturn, 1) := by decide +kernel
theorem dX10_repair_82 : decode cX10_repair 82 = .ok (.aload_n 0, 1) := by decide +kernel
theorem dX10_repair_83 : decode cX10_repair 83 = .ok (.invokevirtual 63, 3) := by decide +kernel
theorem dX10_repair_86 : decode cX10_repair 86 = .ok (.aload_n 0, 1) := by decide +kernel
theorem dX10_repair_87 : decode cX10_repair 87 = .ok (.iload_n 1, 1) := by decide +kernel
theorem dX10_repair_88 : decode cX10_repair 88 = .ok (.iload_n 2, 1) := by decide +kernel
theorem dX10_repair_89 : decode cX10_repair 89 = .ok (.invokevirtual 153, 3) := by decide +kernel
theorem dX10_repair_92 : decode cX10_repair 92 = .ok (.istore 4, 2) := by decide +kernel
theorem dX10_repair_94 : decode cX10_repair 94 = .ok (.iload_n 2, 1) := by decide +kernel
theorem dX10_repair_95 : decode cX10_repair 95 = .ok (.ifCond .ne 8, 3) := by decide +kernel
theorem dX10_repair_98 : decode cX10_repair 98 = .ok (.iload 4, 2) := by decide +kernel
theorem dX10_repair_100 : decode cX10_repair 100 = .ok (.goto 6, 3) := by decide +kernel
theorem dX10_repair_103 : decode cX10_repair 103 = .ok (.iload_n 2, 1) := by decide +kernel
theorem dX10_repair_104 : decode cX10_repair 104 = .ok (.iconst 1, 1) := by decide +kernel
theorem dX10_repair_105 : decode cX10_repair 105 = .ok (.iadd, 1) := by decide +kernel
theorem dX10_repair_106 : decode cX10_repair 106 = .ok (.istore 5, 2) := by decide +kernel
theorem dX10_repair_108 : decode cX10_repair 108 = .ok (.iload_n 2, 1) := by decide +kernel
theorem dX10_repair_109 : decode cX10_repair 109 = .ok (.ifCond .ne 7, 3) := by decide +kernel
theorem dX10_repair_112 : decode cX10_repair 112 = .ok (.iconst 3, 1) := by decide +kernel
theorem dX10_repair_113 : decode cX10_repair 113 = .ok (.goto 14, 3) := by decide +kernel
theorem dX10_repair_116 : decode cX10_repair 116 = .ok (.iload_n 2, 1) := by decide +kernel
theorem dX10_repair_117 : decode cX10_repair 117 = .ok (.iconst 1, 1) := by decide +kernel
theorem dX10_repair_118 : decode cX10_repair 118 = .ok (.if_icmp .ne 7, 3) := by decide +kernel
theorem dX10_repair_121 : decode cX10_repair 121 = .ok (.iconst 4, 1) := by decide +kernel
theorem dX10_repair_122 : decode cX10_repair 122 = .ok (.goto 5, 3) := by decide +kernel
theorem dX10_repair_125 : decode cX10_repair 125 = .ok (.bipush 6, 2) := by decide +kernel
theorem dX10_repair_127 : decode cX10_repair 127 = .ok (.istore 6, 2) := by decide +kernel
theorem dX10_repair_129 : decode cX10_repair 129 = .ok (.aload_n 0, 1) := by decide +kernel
theorem dX10_repair_130 : decode cX10_repair 130 = .ok (.getfield 7, 3) := by decide +kernel
theorem dX10_repair_133 : decode cX10_repair 133 = .ok (.bipush 8, 2) := by decide +kernel
theorem dX10_repair_135 : decode cX10_repair 135 = .ok (.aload_n 0, 1) := by decide +kernel
theorem dX10_repair_136 : decode cX10_repair 136 = .ok (.iload_n 1, 1) := by decide +kernel
theorem dX10_repair_137 : decode cX10_repair 137 = .ok (.iconst 0, 1) := by decide +kernel
theorem dX10_repair_138 : decode cX10_repair 138 = .ok (.invokevirtual 52, 3) := by decide +kernel
theorem dX10_repair_141 : decode cX10_repair 141 = .ok (.iadd, 1) := by decide +kernel
theorem dX10_repair_142 : decode cX10_repair 142 = .ok (.dup2, 1) := by decide +kernel
theorem dX10_repair_143 : decode cX10_repair 143 = .ok (.iaload, 1) := by decide +kernel
theorem dX10_repair_144 : decode cX10_repair 144 = .ok (.iload 5, 2) := by decide +kernel
theorem dX10_repair_146 : decode cX10_repair 146 = .ok (.isub, 1) := by decide +kernel
theorem dX10_repair_147 : decode cX10_repair 147 = .ok (.iastore, 1) := by decide +kernel
theorem dX10_repair_148 : decode cX10_repair 148 = .ok (.aload_n 0, 1) := by decide +kernel
theorem dX10_repair_149 : decode cX10_repair 149 = .ok (.iload_n 1, 1) := by decide +kernel
theorem dX10_repair_150 : decode cX10_repair 150 = .ok (.iload 6, 2) := by decide +kernel
theorem dX10_repair_152 : decode cX10_repair 152 = .ok (.aload_n 0, 1) := by decide +kernel
theorem dX10_repair_153 : decode cX10_repair 153 = .ok (.iload_n 1, 1) := by decide +kernel
theorem dX10_repair_154 : decode cX10_repair 154 = .ok (.iload 6, 2) := by decide +kernel
theorem dX10_repair_156 : decode cX10_repair 156 = .ok (.invokevirtual 52, 3) := by decide +kernel
theorem dX10_repair_159 : decode cX10_repair 159 = .ok (.iload 4, 2) := by decide +kernel
theorem dX10_repair_161 : decode cX10_repair 161 = .ok (.iadd, 1) := by decide +kernel
theorem dX10_repair_162 : decode cX10_repair 162 = .ok (.invokevirtual 82, 3) := by decide +kernel
theorem dX10_repair_165 : decode cX10_repair 165 = .ok (.aload_n 0, 1) := by decide +kernel
theorem dX10_repair_166 : decode cX10_repair 166 = .ok (.iload_n 1, 1) := by decide +kernel
theorem dX10_repair_167 : decode cX10_repair 167 = .ok (.bipush 10, 2) := by decide +kernel
theorem dX10_repair_169 : decode cX10_repair 169 = .ok (.iconst 4, 1) := by decide +kernel
theorem dX10_repair_170 : decode cX10_repair 170 = .ok (.invokevirtual 82, 3) := by decide +kernel
theorem dX10_repair_173 : decode cX10_repair 173 = .ok (.iload 4, 2) := by decide +kernel
theorem dX10_repair_175 : decode cX10_repair 175 = .ok (.ireturn, 1) := by decide +kernel
theorem dX10_fight_0 : decode cX10_fight 0 = .ok (.aload_n 0, 1) := by decide +kernel
theorem dX10_fight_1 : decode cX10_fight 1 = .ok (.iload_n 1, 1) := by decide +kernel
theorem dX10_fight_2 : decode cX10_fight 2 = .ok (.iconst 5, 1) := by decide +kernel
theorem dX10_fight_3 : decode cX10_fight 3 = .ok (.invokevirtual 52, 3) := by decide +kernel
theorem dX10_fight_6 : decode cX10_fight 6 = .ok (.istore_n 3, 1) := by decide +kernel
theorem dX10_fight_7 : decode cX10_fight 7 = .ok (.aload_n 0, 1) := by decide +kernel
theorem dX10_fight_8 : decode cX10_fight 8 = .ok (.iload_n 2, 1) := by decide +kernel
theorem dX10_fight_9 : decode cX10_fight 9 = .ok (.iconst 5, 1) := by decide +kernel
theorem dX10_fight_10 : decode cX10_fight 10 = .ok (.invokevirtual 52, 3) := by decide +kernel
theorem dX10_fight_13 : decode cX10_fight 13 = .ok (.istore 4, 2) := by decide +kernel
theorem dX10_fight_15 : decode cX10_fight 15 = .ok (.aload_n 0, 1) := by decide +kernel
theorem dX10_fight_16 : decode cX10_fight 16 = .ok (.iload_n 1, 1) := by decide +kernel
theorem dX10_fight_17 : decode cX10_fight 17 = .ok (.iconst 5, 1) := by decide +kernel
theorem dX10_fight_18 : decode cX10_fight 18 = .ok (.iload 4, 2) := by decide +kernel
theorem dX10_fight_20 : decode cX10_fight 20 = .ok (.iconst 3, 1) := by decide +kernel
theorem dX10_fight_21 : decode cX10_fight 21 = .ok (.iadd, 1) := by decide +kernel
theorem dX10_fight_22 : decode cX10_fight 22 = .ok (.iconst 4, 1) := by decide +kernel
theorem dX10_fight_23 : decode cX10_fight 23 = .ok (.idiv, 1) := by decide +kernel
theorem dX10_fight_24 : decode cX10_fight 24 = .ok (.invokevirtual 141, 3) := by decide +kernel
theorem dX10_fight_27 : decode cX10_fight 27 = .ok (.aload_n 0, 1) := by decide +kernel
theorem dX10_fight_28 : decode cX10_fight 28 = .ok (.iload_n 2, 1) := by decide +kernel
theorem dX10_fight_29 : decode cX10_fight 29 = .ok (.iconst 5, 1) := by decide +kernel
theorem dX10_fight_30 : decode cX10_fight 30 = .ok (.iload_n 3, 1) := by decide +kernel
theorem dX10_fight_31 : decode cX10_fight 31 = .ok (.iconst 3, 1) := by decide +kernel
theorem dX10_fight_32 : decode cX10_fight 32 = .ok (.iadd, 1) := by decide +kernel
theorem dX10_fight_33 : decode cX10_fight 33 = .ok (.iconst 4, 1) := by decide +kernel
theorem dX10_fight_34 : decode cX10_fight 34 = .ok (.idiv, 1) := by decide +kernel
theorem dX10_fight_35 : decode cX10_fight 35 = .ok (.invokevirtual 141, 3) := by decide +kernel
theorem dX10_fight_38 : decode cX10_fight 38 = .ok (.aload_n 0, 1) := by decide +kernel
theorem dX10_fight_39 : decode cX10_fight 39 = .ok (.iload_n 1, 1) := by decide +kernel
theorem dX10_fight_40 : decode cX10_fight 40 = .ok (.iconst 5, 1) := by decide +kernel
theorem dX10_fight_41 : decode cX10_fight 41 = .ok (.invokevirtual 52, 3) := by decide +kernel
theorem dX10_fight_44 : decode cX10_fight 44 = .ok (.ifCond .ne 7, 3) := by decide +kernel
theorem dX10_fight_47 : decode cX10_fight 47 = .ok (.iconst 1, 1) := by decide +kernel
theorem dX10_fight_48 : decode cX10_fight 48 = .ok (.goto 4, 3) := by decide +kernel
theorem dX10_fight_51 : decode cX10_fight 51 = .ok (.iconst 0, 1) := by decide +kernel
theorem dX10_fight_52 : decode cX10_fight 52 = .ok (.istore 5, 2) := by decide +kernel
theorem dX10_fight_54 : decode cX10_fight 54 = .ok (.aload_n 0, 1) := by decide +kernel
theorem dX10_fight_55 : decode cX10_fight 55 = .ok (.iload_n 2, 1) := by decide +kernel
theorem dX10_fight_56 : decode cX10_fight 56 = .ok (.iconst 5, 1) := by decide +kernel
theorem dX10_fight_57 : decode cX10_fight 57 = .ok (.invokevirtual 52, 3) := by decide +kernel
theorem dX10_fight_60 : decode cX10_fight 60 = .ok (.ifCond .ne 7, 3) := by decide +kernel
theorem dX10_fight_63 : decode cX10_fight 63 = .ok (.iconst 1, 1) := by decide +kernel
theorem dX10_fight_64 : decode cX10_fight 64 = .ok (.goto 4, 3) := by decide +kernel
theorem dX10_fight_67 : decode cX10_fight 67 = .ok (.iconst 0, 1) := by decide +kernel
theorem dX10_fight_68 : decode cX10_fight 68 = .ok (.istore 6, 2) := by decide +kernel
theorem dX10_fight_70 : decode cX10_fight 70 = .ok (.iload 5, 2) := by decide +kernel
theorem dX10_fight_72 : decode cX10_fight 72 = .ok (.iload 6, 2) := by decide +kernel
theorem dX10_fight_74 : decode cX10_fight 74 = .ok (.if_icmp .eq 89, 3) := by decide +kernel
theorem dX10_fight_77 : decode cX10_fight 77 = .ok (.iload 5, 2) := by decide +kernel
theorem dX10_fight_79 : decode cX10_fight 79 = .ok (.ifCond .eq 7, 3) := by decide +kernel
theorem dX10_fight_82 : decode cX10_fight 82 = .ok (.iload_n 1, 1) := by decide +kernel
theorem dX10_fight_83 : decode cX10_fight 83 = .ok (.goto 4, 3) := by decide +kernel
theorem dX10_fight_86 : decode cX10_fight 86 = .ok (.iload_n 2, 1) := by decide +kernel
theorem dX10_fight_87 : decode cX10_fight 87 = .ok (.istore 7, 2) := by decide +kernel
theorem dX10_fight_89 : decode cX10_fight 89 = .ok (.iload 5, 2) := by decide +kernel
theorem dX10_fight_91 : decode cX10_fight 91 = .ok (.ifCond .eq 7, 3) := by decide +kernel
theorem dX10_fight_94 : decode cX10_fight 94 = .ok (.iload_n 2, 1) := by decide +kernel
theorem dX10_fight_95 : decode cX10_fight 95 = .ok (.goto 4, 3) := by decide +kernel
theorem dX10_fight_98 : decode cX10_fight 98 = .ok (.iload_n 1, 1) := by decide +kernel
theorem dX10_fight_99 : decode cX10_fight 99 = .ok (.istore 8, 2) := by decide +kernel
theorem dX10_fight_101 : decode cX10_fight 101 = .ok (.aload_n 0, 1) := by decide +kernel
theorem dX10_fight_102 : decode cX10_fight 102 = .ok (.iload 8, 2) := by decide +kernel
theorem dX10_fight_104 : decode cX10_fight 104 = .ok (.iconst 5, 1) := by decide +kernel
theorem dX10_fight_105 : decode cX10_fight 105 = .ok (.invokevirtual 52, 3) := by decide +kernel
theorem dX10_fight_108 : decode cX10_fight 108 = .ok (.iconst 2, 1) := by decide +kernel
theorem dX10_fight_109 : decode cX10_fight 109 = .ok (.idiv, 1) := by decide +kernel
theorem dX10_fight_110 : decode cX10_fight 110 = .ok (.istore 9, 2) := by decide +kernel
theorem dX10_fight_112 : decode cX10_fight 112 = .ok (.aload_n 0, 1) := by decide +kernel
theorem dX10_fight_113 : decode cX10_fight 113 = .ok (.iload 7, 2) := by decide +kernel
theorem dX10_fight_115 : decode cX10_fight 115 = .ok (.iconst 0, 1) := by decide +kernel
theorem dX10_fight_116 : decode cX10_fight 116 = .ok (.aload_n 0, 1) := by decide +kernel
theorem dX10_fight_117 : decode cX10_fight 117 = .ok (.iload 8, 2) := by decide +kernel
theorem dX10_fight_119 : decode cX10_fight 119 = .ok (.iconst 0, 1) := by decide +kernel
theorem dX10_fight_120 : decode cX10_fight 120 = .ok (.invokevirtual 52, 3) := by decide +kernel
theorem dX10_fight_123 : decode cX10_fight 123 = .ok (.invokevirtual 82, 3) := by decide +kernel
theorem dX10_fight_126 : decode cX10_fight 126 = .ok (.aload_n 0, 1) := by decide +kernel
theorem dX10_fight_127 : decode cX10_fight 127 = .ok (.iload 7, 2) := by decide +kernel
theorem dX10_fight_129 : decode cX10_fight 129 = .ok (.iconst 5, 1) := by decide +kernel
theorem dX10_fight_130 : decode cX10_fight 130 = .ok (.iload 9, 2) := by decide +kernel
theorem dX10_fight_132 : decode cX10_fight 132 = .ok (.invokevirtual 82, 3) := by decide +kernel
theorem dX10_fight_135 : decode cX10_fight 135 = .ok (.aload_n 0, 1) := by decide +kernel
theorem dX10_fight_136 : decode cX10_fight 136 = .ok (.iload 8, 2) := by decide +kernel
theorem dX10_fight_138 : decode cX10_fight 138 = .ok (.iconst 5, 1) := by decide +kernel
theorem dX10_fight_139 : decode cX10_fight 139 = .ok (.aload_n 0, 1) := by decide +kernel
theorem dX10_fight_140 : decode cX10_fight 140 = .ok (.iload 8, 2) := by decide +kernel
theorem dX10_fight_142 : decode cX10_fight 142 = .ok (.iconst 5, 1) := by decide +kernel
theorem dX10_fight_143 : decode cX10_fight 143 = .ok (.invokevirtual 52, 3) := by decide +kernel
theorem dX10_fight_146 : decode cX10_fight 146 = .ok (.iload 9, 2) := by decide +kernel
theorem dX10_fight_148 : decode cX10_fight 148 = .ok (.isub, 1) := by decide +kernel
theorem dX10_fight_149 : decode cX10_fight 149 = .ok (.invokevirtual 82, 3) := by decide +kernel
theorem dX10_fight_152 : decode cX10_fight 152 = .ok (.aload_n 0, 1) := by decide +kernel
theorem dX10_fight_153 : decode cX10_fight 153 = .ok (.getfield 7, 3) := by decide +kernel
theorem dX10_fight_156 : decode cX10_fight 156 = .ok (.bipush 11, 2) := by decide +kernel
theorem dX10_fight_158 : decode cX10_fight 158 = .ok (.dup2, 1) := by decide +kernel
theorem dX10_fight_159 : decode cX10_fight 159 = .ok (.iaload, 1) := by decide +kernel
theorem dX10_fight_160 : decode cX10_fight 160 = .ok (.iconst 1, 1) := by decide +kernel
theorem dX10_fight_161 : decode cX10_fight 161 = .ok (.iadd, 1) := by decide +kernel
theorem dX10_fight_162 : decode cX10_fight 162 = .ok (.iastore, 1) := by decide +kernel
theorem dX10_fight_163 : decode cX10_fight 163 = .ok (.iload 5, 2) := by decide +kernel
theorem dX10_fight_165 : decode cX10_fight 165 = .ok (.ifCond .ne 8, 3) := by decide +kernel
theorem dX10_fight_168 : decode cX10_fight 168 = .ok (.iload 6, 2) := by decide +kernel
theorem dX10_fight_170 : decode cX10_fight 170 = .ok (.ifCond .eq 8, 3) := by decide +kernel
theorem dX10_fight_173 : decode cX10_fight 173 = .ok (.aload_n 0, 1) := by decide +kernel
theorem dX10_fight_174 : decode cX10_fight 174 = .ok (.iload_n 1, 1) := by decide +kernel
theorem dX10_fight_175 : decode cX10_fight 175 = .ok (.invokevirtual 144, 3) := by decide +kernel
theorem dX10_fight_178 : decode cX10_fight 178 = .ok (.return_, 1) := by decide +kernel
theorem dX10_end_0 : decode cX10_end 0 = .ok (.aload_n 0, 1) := by decide +kernel
theorem dX10_end_1 : decode cX10_end 1 = .ok (.getfield 7, 3) := by decide +kernel
theorem dX10_end_4 : decode cX10_end 4 = .ok (.iconst 1, 1) := by decide +kernel
theorem dX10_end_5 : decode cX10_end 5 = .ok (.iaload, 1) := by decide +kernel
theorem dX10_end_6 : decode cX10_end 6 = .ok (.ifCond .ne 6, 3) := by decide +kernel
theorem dX10_end_9 : decode cX10_end 9 = .ok (.bipush (-2), 2) := by decide +kernel
theorem dX10_end_11 : decode cX10_end 11 = .ok (.ireturn, 1) := by decide +kernel
theorem dX10_end_12 : decode cX10_end 12 = .ok (.aload_n 0, 1) := by decide +kernel
theorem dX10_end_13 : decode cX10_end 13 = .ok (.invokevirtual 63, 3) := by decide +kernel
theorem dX10_end_16 : decode cX10_end 16 = .ok (.iconst 0, 1) := by decide +kernel
theorem dX10_end_17 : decode cX10_end 17 = .ok (.istore_n 1, 1) := by decide +kernel
theorem dX10_end_18 : decode cX10_end 18 = .ok (.iload_n 1, 1) := by decide +kernel
theorem dX10_end_19 : decode cX10_end 19 = .ok (.aload_n 0, 1) := by decide +kernel
theorem dX10_end_20 : decode cX10_end 20 = .ok (.getfield 7, 3) := by decide +kernel
theorem dX10_end_23 : decode cX10_end 23 = .ok (.bipush 10, 2) := by decide +kernel
theorem dX10_end_25 : decode cX10_end 25 = .ok (.iaload, 1) := by decide +kernel
theorem dX10_end_26 : decode cX10_end 26 = .ok (.if_icmp .ge 40, 3) := by decide +kernel
theorem dX10_end_29 : decode cX10_end 29 = .ok (.aload_n 0, 1) := by decide +kernel
theorem dX10_end_30 : decode cX10_end 30 = .ok (.iload_n 1, 1) := by decide +kernel
theorem dX10_end_31 : decode cX10_end 31 = .ok (.bipush 7, 2) := by decide +kernel
theorem dX10_end_33 : decode cX10_end 33 = .ok (.invokevirtual 52, 3) := by decide +kernel
theorem dX10_end_36 : decode cX10_end 36 = .ok (.iload_n 1, 1) := by decide +kernel
theorem dX10_end_37 : decode cX10_end 37 = .ok (.if_icmp .le 15, 3) := by decide +kernel
theorem dX10_end_40 : decode cX10_end 40 = .ok (.aload_n 0, 1) := by decide +kernel
theorem dX10_end_41 : decode cX10_end 41 = .ok (.iload_n 1, 1) := by decide +kernel
theorem dX10_end_42 : decode cX10_end 42 = .ok (.aload_n 0, 1) := by decide +kernel
theorem dX10_end_43 : decode cX10_end 43 = .ok (.iload_n 1, 1) := by decide +kernel
theorem dX10_end_44 : decode cX10_end 44 = .ok (.bipush 7, 2) := by decide +kernel
theorem dX10_end_46 : decode cX10_end 46 = .ok (.invokevirtual 52, 3) := by decide +kernel
theorem dX10_end_49 : decode cX10_end 49 = .ok (.invokevirtual 156, 3) := by decide +kernel
theorem dX10_end_52 : decode cX10_end 52 = .ok (.aload_n 0, 1) := by decide +kernel
theorem dX10_end_53 : decode cX10_end 53 = .ok (.iload_n 1, 1) := by decide +kernel
theorem dX10_end_54 : decode cX10_end 54 = .ok (.bipush 10, 2) := by decide +kernel
theorem dX10_end_56 : decode cX10_end 56 = .ok (.iconst 0, 1) := by decide +kernel
theorem dX10_end_57 : decode cX10_end 57 = .ok (.invokevirtual 82, 3) := by decide +kernel
theorem dX10_end_60 : decode cX10_end 60 = .ok (.iinc 1 1, 3) := by decide +kernel
theorem dX10_end_63 : decode cX10_end 63 = .ok (.goto (-45), 3) := by decide +kernel
theorem dX10_end_66 : decode cX10_end 66 = .ok (.aload_n 0, 1) := by decide +kernel
theorem dX10_end_67 : decode cX10_end 67 = .ok (.getfield 7, 3) := by decide +kernel
theorem dX10_end_70 : decode cX10_end 70 = .ok (.iconst 1, 1) := by decide +kernel
theorem dX10_end_71 : decode cX10_end 71 = .ok (.iconst 0, 1) := by decide +kernel
theorem dX10_end_72 : decode cX10_end 72 = .ok (.iastore, 1) := by decide +kernel
theorem dX10_end_73 : decode cX10_end 73 = .ok (.aload_n 0, 1) := by decide +kernel
theorem dX10_end_74 : decode cX10_end 74 = .ok (.getfield 7, 3) := by decide +kernel
theorem dX10_end_77 : decode cX10_end 77 = .ok (.iconst 0, 1) := by decide +kernel
theorem dX10_end_78 : decode cX10_end 78 = .ok (.dup2, 1) := by decide +kernel
theorem dX10_end_79 : decode cX10_end 79 = .ok (.iaload, 1) := by decide +kernel
theorem dX10_end_80 : decode cX10_end 80 = .ok (.iconst 1, 1) := by decide +kernel
theorem dX10_end_81 : decode cX10_end 81 = .ok (.iadd, 1) := by decide +kernel
theorem dX10_end_82 : decode cX10_end 82 = .ok (.iastore, 1) := by decide +kernel
theorem dX10_end_83 : decode cX10_end 83 = .ok (.aload_n 0, 1) := by decide +kernel
theorem dX10_end_84 : decode cX10_end 84 = .ok (.getfield 7, 3) := by decide +kernel
theorem dX10_end_87 : decode cX10_end 87 = .ok (.iconst 0, 1) := by decide +kernel
theorem dX10_end_88 : decode cX10_end 88 = .ok (.iaload, 1) := by decide +kernel
theorem dX10_end_89 : decode cX10_end 89 = .ok (.ireturn, 1) := by decide +kernel
theorem dX10_take_0 : decode cX10_take 0 = .ok (.iload_n 1, 1) := by decide +kernel
theorem dX10_take_1 : decode cX10_take 1 = .ok (.i2l, 1) := by decide +kernel
theorem dX10_take_2 : decode cX10_take 2 = .ok (.lconst 0, 1) := by decide +kernel
theorem dX10_take_3 : decode cX10_take 3 = .ok (.lconst 1, 1) := by decide +kernel
theorem dX10_take_4 : decode cX10_take 4 = .ok (.invokestatic 42, 3) := by decide +kernel
theorem dX10_take_7 : decode cX10_take 7 = .ok (.ifCond .ne 5, 3) := by decide +kernel
theorem dX10_take_10 : decode cX10_take 10 = .ok (.iconst (-1), 1) := by decide +kernel
theorem dX10_take_11 : decode cX10_take 11 = .ok (.ireturn, 1) := by decide +kernel
theorem dX10_take_12 : decode cX10_take 12 = .ok (.aload_n 0, 1) := by decide +kernel
theorem dX10_take_13 : decode cX10_take 13 = .ok (.invokevirtual 63, 3) := by decide +kernel
theorem dX10_take_16 : decode cX10_take 16 = .ok (.aload_n 0, 1) := by decide +kernel
theorem dX10_take_17 : decode cX10_take 17 = .ok (.getfield 7, 3) := by decide +kernel
theorem dX10_take_20 : decode cX10_take 20 = .ok (.sipush 181, 3) := by decide +kernel
theorem dX10_take_23 : decode cX10_take 23 = .ok (.iload_n 1, 1) := by decide +kernel
theorem dX10_take_24 : decode cX10_take 24 = .ok (.iadd, 1) := by decide +kernel
theorem dX10_take_25 : decode cX10_take 25 = .ok (.iconst 1, 1) := by decide +kernel
theorem dX10_take_26 : decode cX10_take 26 = .ok (.iastore, 1) := by decide +kernel
theorem dX10_take_27 : decode cX10_take 27 = .ok (.iconst 0, 1) := by decide +kernel
theorem dX10_take_28 : decode cX10_take 28 = .ok (.istore_n 2, 1) := by decide +kernel
theorem dX10_take_29 : decode cX10_take 29 = .ok (.iload_n 2, 1) := by decide +kernel
theorem dX10_take_30 : decode cX10_take 30 = .ok (.sipush 181, 3) := by decide +kernel
theorem dX10_take_33 : decode cX10_take 33 = .ok (.if_icmp .ge 31, 3) := by decide +kernel
theorem dX10_take_36 : decode cX10_take 36 = .ok (.aload_n 0, 1) := by decide +kernel
theorem dX10_take_37 : decode cX10_take 37 = .ok (.getfield 7, 3) := by decide +kernel
theorem dX10_take_40 : decode cX10_take 40 = .ok (.sipush 183, 3) := by decide +kernel
theorem dX10_take_43 : decode cX10_take 43 = .ok (.sipush 181, 3) := by decide +kernel
theorem dX10_take_46 : decode cX10_take 46 = .ok (.iload_n 1, 1) := by decide +kernel
theorem dX10_take_47 : decode cX10_take 47 = .ok (.imul, 1) := by decide +kernel
theorem dX10_take_48 : decode cX10_take 48 = .ok (.iadd, 1) := by decide +kernel
theorem dX10_take_49 : decode cX10_take 49 = .ok (.iload_n 2, 1) := by decide +kernel
theorem dX10_take_50 : decode cX10_take 50 = .ok (.iadd, 1) := by decide +kernel
theorem dX10_take_51 : decode cX10_take 51 = .ok (.aload_n 0, 1) := by decide +kernel
theorem dX10_take_52 : decode cX10_take 52 = .ok (.getfield 7, 3) := by decide +kernel
theorem dX10_take_55 : decode cX10_take 55 = .ok (.iload_n 2, 1) := by decide +kernel
theorem dX10_take_56 : decode cX10_take 56 = .ok (.iaload, 1) := by decide +kernel
theorem dX10_take_57 : decode cX10_take 57 = .ok (.iastore, 1) := by decide +kernel
theorem dX10_take_58 : decode cX10_take 58 = .ok (.iinc 2 1, 3) := by decide +kernel
theorem dX10_take_61 : decode cX10_take 61 = .ok (.goto (-32), 3) := by decide +kernel
theorem dX10_take_64 : decode cX10_take 64 = .ok (.aload_n 0, 1) := by decide +kernel
theorem dX10_take_65 : decode cX10_take 65 = .ok (.getfield 7, 3) := by decide +kernel
theorem dX10_take_68 : decode cX10_take 68 = .ok (.iconst 0, 1) := by decide +kernel
theorem dX10_take_69 : decode cX10_take 69 = .ok (.iaload, 1) := by decide +kernel
theorem dX10_take_70 : decode cX10_take 70 = .ok (.ireturn, 1) := by decide +kernel
theorem dX10_restore_0 : decode cX10_restore 0 = .ok (.iload_n 1, 1) := by decide +kernel
theorem dX10_restore_1 : decode cX10_restore 1 = .ok (.i2l, 1) := by decide +kernel
theorem dX10_restore_2 : decode cX10_restore 2 = .ok (.lconst 0, 1) := by decide +kernel
theorem dX10_restore_3 : decode cX10_restore 3 = .ok (.lconst 1, 1) := by decide +kernel
theorem dX10_restore_4 : decode cX10_restore 4 = .ok (.invokestatic 42, 3) := by decide +kernel
theorem dX10_restore_7 : decode cX10_restore 7 = .ok (.ifCond .ne 5, 3) := by decide +kernel
theorem dX10_restore_10 : decode cX10_restore 10 = .ok (.iconst (-1), 1) := by decide +kernel
theorem dX10_restore_11 : decode cX10_restore 11 = .ok (.ireturn, 1) := by decide +kernel
theorem dX10_restore_12 : decode cX10_restore 12 = .ok (.aload_n 0, 1) := by decide +kernel
theorem dX10_restore_13 : decode cX10_restore 13 = .ok (.getfield 7, 3) := by decide +kernel
theorem dX10_restore_16 : decode cX10_restore 16 = .ok (.sipush 181, 3) := by decide +kernel
theorem dX10_restore_19 : decode cX10_restore 19 = .ok (.iload_n 1, 1) := by decide +kernel
theorem dX10_restore_20 : decode cX10_restore 20 = .ok (.iadd, 1) := by decide +kernel
theorem dX10_restore_21 : decode cX10_restore 21 = .ok (.iaload, 1) := by decide +kernel
theorem dX10_restore_22 : decode cX10_restore 22 = .ok (.ifCond .ne 6, 3) := by decide +kernel
theorem dX10_restore_25 : decode cX10_restore 25 = .ok (.bipush (-2), 2) := by decide +kernel
theorem dX10_restore_27 : decode cX10_restore 27 = .ok (.ireturn, 1) := by decide +kernel
theorem dX10_restore_28 : decode cX10_restore 28 = .ok (.aload_n 0, 1) := by decide +kernel
theorem dX10_restore_29 : decode cX10_restore 29 = .ok (.invokevirtual 63, 3) := by decide +kernel
theorem dX10_restore_32 : decode cX10_restore 32 = .ok (.iconst 0, 1) := by decide +kernel
theorem dX10_restore_33 : decode cX10_restore 33 = .ok (.istore_n 2, 1) := by decide +kernel
theorem dX10_restore_34 : decode cX10_restore 34 = .ok (.iload_n 2, 1) := by decide +kernel
theorem dX10_restore_35 : decode cX10_restore 35 = .ok (.sipush 181, 3) := by decide +kernel
theorem dX10_restore_38 : decode cX10_restore 38 = .ok (.if_icmp .ge 31, 3) := by decide +kernel
theorem dX10_restore_41 : decode cX10_restore 41 = .ok (.aload_n 0, 1) := by decide +kernel
theorem dX10_restore_42 : decode cX10_restore 42 = .ok (.getfield 7, 3) := by decide +kernel
theorem dX10_restore_45 : decode cX10_restore 45 = .ok (.iload_n 2, 1) := by decide +kernel
theorem dX10_restore_46 : decode cX10_restore 46 = .ok (.aload_n 0, 1) := by decide +kernel
theorem dX10_restore_47 : decode cX10_restore 47 = .ok (.getfield 7, 3) := by decide +kernel
theorem dX10_restore_50 : decode cX10_restore 50 = .ok (.sipush 183, 3) := by decide +kernel
theorem dX10_restore_53 : decode cX10_restore 53 = .ok (.sipush 181, 3) := by decide +kernel
theorem dX10_restore_56 : decode cX10_restore 56 = .ok (.iload_n 1, 1) := by decide +kernel
theorem dX10_restore_57 : decode cX10_restore 57 = .ok (.imul, 1) := by decide +kernel
theorem dX10_restore_58 : decode cX10_restore 58 = .ok (.iadd, 1) := by decide +kernel
theorem dX10_restore_59 : decode cX10_restore 59 = .ok (.iload_n 2, 1) := by decide +kernel
theorem dX10_restore_60 : decode cX10_restore 60 = .ok (.iadd, 1) := by decide +kernel
theorem dX10_restore_61 : decode cX10_restore 61 = .ok (.iaload, 1) := by decide +kernel
theorem dX10_restore_62 : decode cX10_restore 62 = .ok (.iastore, 1) := by decide +kernel
theorem dX10_restore_63 : decode cX10_restore 63 = .ok (.iinc 2 1, 3) := by decide +kernel
theorem dX10_restore_66 : decode cX10_restore 66 = .ok (.goto (-32), 3) := by decide +kernel
theorem dX10_restore_69 : decode cX10_restore 69 = .ok (.aload_n 0, 1) := by decide +kernel
theorem dX10_restore_70 : decode cX10_restore 70 = .ok (.getfield 7, 3) := by decide +kernel
theorem dX10_restore_73 : decode cX10_restore 73 = .ok (.iconst 0, 1) := by decide +kernel
theorem dX10_restore_74 : decode cX10_restore 74 = .ok (.iaload, 1) := by decide +kernel
theorem dX10_restore_75 : decode cX10_restore 75 = .ok (.ireturn, 1) := by decide +kernel
theorem dX10_undo_0 : decode cX10_undo 0 = .ok (.aload_n 0, 1) := by decide +kernel
theorem dX10_undo_1 : decode cX10_undo 1 = .ok (.getfield 29, 3) := by decide +kernel
theorem dX10_undo_4 : decode cX10_undo 4 = .ok (.ifCond .ne 6, 3) := by decide +kernel
theorem dX10_undo_7 : decode cX10_undo 7 = .ok (.bipush (-2), 2) := by decide +kernel
theorem dX10_undo_9 : decode cX10_undo 9 = .ok (.ireturn, 1) := by decide +kernel
theorem dX10_undo_10 : decode cX10_undo 10 = .ok (.aload_n 0, 1) := by decide +kernel
theorem dX10_undo_11 : decode cX10_undo 11 = .ok (.dup, 1) := by decide +kernel
theorem dX10_undo_12 : decode cX10_undo 12 = .ok (.getfield 29, 3) := by decide +kernel
theorem dX10_undo_15 : decode cX10_undo 15 = .ok (.iconst 1, 1) := by decide +kernel
theorem dX10_undo_16 : decode cX10_undo 16 = .ok (.isub, 1) := by decide +kernel
theorem dX10_undo_17 : decode cX10_undo 17 = .ok (.putfield 29, 3) := by decide +kernel
theorem dX10_undo_20 : decode cX10_undo 20 = .ok (.iconst 0, 1) := by decide +kernel
theorem dX10_undo_21 : decode cX10_undo 21 = .ok (.istore_n 1, 1) := by decide +kernel
theorem dX10_undo_22 : decode cX10_undo 22 = .ok (.iload_n 1, 1) := by decide +kernel
theorem dX10_undo_23 : decode cX10_undo 23 = .ok (.sipush 545, 3) := by decide +kernel
theorem dX10_undo_26 : decode cX10_undo 26 = .ok (.if_icmp .ge 30, 3) := by decide +kernel
theorem dX10_undo_29 : decode cX10_undo 29 = .ok (.aload_n 0, 1) := by decide +kernel
theorem dX10_undo_30 : decode cX10_undo 30 = .ok (.getfield 7, 3) := by decide +kernel
theorem dX10_undo_33 : decode cX10_undo 33 = .ok (.iload_n 1, 1) := by decide +kernel
theorem dX10_undo_34 : decode cX10_undo 34 = .ok (.aload_n 0, 1) := by decide +kernel
theorem dX10_undo_35 : decode cX10_undo 35 = .ok (.getfield 13, 3) := by decide +kernel
theorem dX10_undo_38 : decode cX10_undo 38 = .ok (.sipush 545, 3) := by decide +kernel
theorem dX10_undo_41 : decode cX10_undo 41 = .ok (.aload_n 0, 1) := by decide +kernel
theorem dX10_undo_42 : decode cX10_undo 42 = .ok (.getfield 29, 3) := by decide +kernel
theorem dX10_undo_45 : decode cX10_undo 45 = .ok (.imul, 1) := by decide +kernel
theorem dX10_undo_46 : decode cX10_undo 46 = .ok (.iload_n 1, 1) := by decide +kernel
theorem dX10_undo_47 : decode cX10_undo 47 = .ok (.iadd, 1) := by decide +kernel
theorem dX10_undo_48 : decode cX10_undo 48 = .ok (.iaload, 1) := by decide +kernel
theorem dX10_undo_49 : decode cX10_undo 49 = .ok (.iastore, 1) := by decide +kernel
theorem dX10_undo_50 : decode cX10_undo 50 = .ok (.iinc 1 1, 3) := by decide +kernel
theorem dX10_undo_53 : decode cX10_undo 53 = .ok (.goto (-31), 3) := by decide +kernel
theorem dX10_undo_56 : decode cX10_undo 56 = .ok (.aload_n 0, 1) := by decide +kernel
theorem dX10_undo_57 : decode cX10_undo 57 = .ok (.getfield 29, 3) := by decide +kernel
theorem dX10_undo_60 : decode cX10_undo 60 = .ok (.ireturn, 1) := by decide +kernel
theorem dX10_append_0 : decode cX10_append 0 = .ok (.iload_n 1, 1) := by decide +kernel
theorem dX10_append_1 : decode cX10_append 1 = .ok (.i2l, 1) := by decide +kernel
theorem dX10_append_2 : decode cX10_append 2 = .ok (.lconst 1, 1) := by decide +kernel
theorem dX10_append_3 : decode cX10_append 3 = .ok (.ldc2_w 160, 3) := by decide +kernel
theorem dX10_append_6 : decode cX10_append 6 = .ok (.invokestatic 42, 3) := by decide +kernel
theorem dX10_append_9 : decode cX10_append 9 = .ok (.ifCond .ne 5, 3) := by decide +kernel
theorem dX10_append_12 : decode cX10_append 12 = .ok (.iconst (-1), 1) := by decide +kernel
theorem dX10_append_13 : decode cX10_append 13 = .ok (.ireturn, 1) := by decide +kernel
theorem dX10_append_14 : decode cX10_append 14 = .ok (.aload_n 0, 1) := by decide +kernel
theorem dX10_append_15 : decode cX10_append 15 = .ok (.getfield 162, 3) := by decide +kernel
theorem dX10_append_18 : decode cX10_append 18 = .ok (.bipush 100, 2) := by decide +kernel
theorem dX10_append_20 : decode cX10_append 20 = .ok (.if_icmp .ne 6, 3) := by decide +kernel
theorem dX10_append_23 : decode cX10_append 23 = .ok (.bipush (-3), 2) := by decide +kernel
theorem dX10_append_25 : decode cX10_append 25 = .ok (.ireturn, 1) := by decide +kernel
theorem dX10_append_26 : decode cX10_append 26 = .ok (.aload_n 0, 1) := by decide +kernel
theorem dX10_append_27 : decode cX10_append 27 = .ok (.getfield 19, 3) := by decide +kernel
theorem dX10_append_30 : decode cX10_append 30 = .ok (.aload_n 0, 1) := by decide +kernel
theorem dX10_append_31 : decode cX10_append 31 = .ok (.getfield 162, 3) := by decide +kernel
theorem dX10_append_34 : decode cX10_append 34 = .ok (.iload_n 1, 1) := by decide +kernel
theorem dX10_append_35 : decode cX10_append 35 = .ok (.iastore, 1) := by decide +kernel
theorem dX10_append_36 : decode cX10_append 36 = .ok (.aload_n 0, 1) := by decide +kernel
theorem dX10_append_37 : decode cX10_append 37 = .ok (.dup, 1) := by decide +kernel
theorem dX10_append_38 : decode cX10_append 38 = .ok (.getfield 162, 3) := by decide +kernel
theorem dX10_append_41 : decode cX10_append 41 = .ok (.iconst 1, 1) := by decide +kernel
theorem dX10_append_42 : decode cX10_append 42 = .ok (.iadd, 1) := by decide +kernel
theorem dX10_append_43 : decode cX10_append 43 = .ok (.putfield 162, 3) := by decide +kernel
theorem dX10_append_46 : decode cX10_append 46 = .ok (.aload_n 0, 1) := by decide +kernel
theorem dX10_append_47 : decode cX10_append 47 = .ok (.getfield 162, 3) := by decide +kernel
theorem dX10_append_50 : decode cX10_append 50 = .ok (.ireturn, 1) := by decide +kernel
theorem dX10_clearText_0 : decode cX10_clearText 0 = .ok (.aload_n 0, 1) := by decide +kernel
theorem dX10_clearText_1 : decode cX10_clearText 1 = .ok (.getfield 162, 3) := by decide +kernel
theorem dX10_clearText_4 : decode cX10_clearText 4 = .ok (.istore_n 1, 1) := by decide +kernel
theorem dX10_clearText_5 : decode cX10_clearText 5 = .ok (.aload_n 0, 1) := by decide +kernel
theorem dX10_clearText_6 : decode cX10_clearText 6 = .ok (.iconst 0, 1) := by decide +kernel
theorem dX10_clearText_7 : decode cX10_clearText 7 = .ok (.putfield 162, 3) := by decide +kernel
theorem dX10_clearText_10 : decode cX10_clearText 10 = .ok (.iload_n 1, 1) := by decide +kernel
theorem dX10_clearText_11 : decode cX10_clearText 11 = .ok (.ireturn, 1) := by decide +kernel
theorem dX10_letterAt_0 : decode cX10_letterAt 0 = .ok (.iload_n 1, 1) := by decide +kernel
theorem dX10_letterAt_1 : decode cX10_letterAt 1 = .ok (.aload_n 0, 1) := by decide +kernel
theorem dX10_letterAt_2 : decode cX10_letterAt 2 = .ok (.getfield 162, 3) := by decide +kernel
theorem dX10_letterAt_5 : decode cX10_letterAt 5 = .ok (.if_icmp .ge 12, 3) := by decide +kernel
theorem dX10_letterAt_8 : decode cX10_letterAt 8 = .ok (.aload_n 0, 1) := by decide +kernel
theorem dX10_letterAt_9 : decode cX10_letterAt 9 = .ok (.getfield 19, 3) := by decide +kernel
theorem dX10_letterAt_12 : decode cX10_letterAt 12 = .ok (.iload_n 1, 1) := by decide +kernel
theorem dX10_letterAt_13 : decode cX10_letterAt 13 = .ok (.iaload, 1) := by decide +kernel
theorem dX10_letterAt_14 : decode cX10_letterAt 14 = .ok (.goto 4, 3) := by decide +kernel
theorem dX10_letterAt_17 : decode cX10_letterAt 17 = .ok (.iconst 0, 1) := by decide +kernel
theorem dX10_letterAt_18 : decode cX10_letterAt 18 = .ok (.ireturn, 1) := by decide +kernel
theorem dX10_needs_0 : decode cX10_needs 0 = .ok (.iload_n 0, 1) := by decide +kernel
theorem dX10_needs_1 : decode cX10_needs 1 = .ok (.tableswitch 103 101 120 #[101, 97, 95, 103, 103, 103, 103, 103, 103, 103, 103, 103, 103, 95, 95, 95, 103, 103, 103, 99], 95) := by decide +kernel
theorem dX10_needs_96 : decode cX10_needs 96 = .ok (.iconst 2, 1) := by decide +kernel
theorem dX10_needs_97 : decode cX10_needs 97 = .ok (.ireturn, 1) := by decide +kernel
theorem dX10_needs_98 : decode cX10_needs 98 = .ok (.iconst 3, 1) := by decide +kernel
theorem dX10_needs_99 : decode cX10_needs 99 = .ok (.ireturn, 1) := by decide +kernel
theorem dX10_needs_100 : decode cX10_needs 100 = .ok (.iconst 1, 1) := by decide +kernel
theorem dX10_needs_101 : decode cX10_needs 101 = .ok (.ireturn, 1) := by decide +kernel
theorem dX10_needs_102 : decode cX10_needs 102 = .ok (.iconst 0, 1) := by decide +kernel
theorem dX10_needs_103 : decode cX10_needs 103 = .ok (.ireturn, 1) := by decide +kernel
theorem dX10_needs_104 : decode cX10_needs 104 = .ok (.iconst (-1), 1) := by decide +kernel
theorem dX10_needs_105 : decode cX10_needs 105 = .ok (.ireturn, 1) := by decide +kernel
theorem dX10_number_0 : decode cX10_number 0 = .ok (.iconst 0, 1) := by decide +kernel
theorem dX10_number_1 : decode cX10_number 1 = .ok (.istore_n 2, 1) := by decide +kernel
theorem dX10_number_2 : decode cX10_number 2 = .ok (.iconst 0, 1) := by decide +kernel
theorem dX10_number_3 : decode cX10_number 3 = .ok (.istore_n 3, 1) := by decide +kernel
theorem dX10_number_4 : decode cX10_number 4 = .ok (.aload_n 0, 1) := by decide +kernel
theorem dX10_number_5 : decode cX10_number 5 = .ok (.aload_n 0, 1) := by decide +kernel
theorem dX10_number_6 : decode cX10_number 6 = .ok (.getfield 165, 3) := by decide +kernel
theorem dX10_number_9 : decode cX10_number 9 = .ok (.invokevirtual 168, 3) := by decide +kernel
theorem dX10_number_12 : decode cX10_number 12 = .ok (.i2l, 1) := by decide +kernel
theorem dX10_number_13 : decode cX10_number 13 = .ok (.ldc2_w 171, 3) := by decide +kernel
theorem dX10_number_16 : decode cX10_number 16 = .ok (.ldc2_w 173, 3) := by decide +kernel
theorem dX10_number_19 : decode cX10_number 19 = .ok (.invokestatic 42, 3) := by decide +kernel
theorem dX10_number_22 : decode cX10_number 22 = .ok (.ifCond .eq 51, 3) := by decide +kernel
theorem dX10_number_25 : decode cX10_number 25 = .ok (.iload_n 3, 1) := by decide +kernel
theorem dX10_number_26 : decode cX10_number 26 = .ok (.bipush 6, 2) := by decide +kernel
theorem dX10_number_28 : decode cX10_number 28 = .ok (.if_icmp .ge 45, 3) := by decide +kernel
theorem dX10_number_31 : decode cX10_number 31 = .ok (.iload_n 3, 1) := by decide +kernel
theorem dX10_number_32 : decode cX10_number 32 = .ok (.iconst 1, 1) := by decide +kernel
theorem dX10_number_33 : decode cX10_number 33 = .ok (.if_icmp .ne 7, 3) := by decide +kernel
theorem dX10_number_36 : decode cX10_number 36 = .ok (.iload_n 2, 1) := by decide +kernel
theorem dX10_number_37 : decode cX10_number 37 = .ok (.ifCond .le 36, 3) := by decide +kernel
theorem dX10_number_40 : decode cX10_number 40 = .ok (.bipush 10, 2) := by decide +kernel
theorem dX10_number_42 : decode cX10_number 42 = .ok (.iload_n 2, 1) := by decide +kernel
theorem dX10_number_43 : decode cX10_number 43 = .ok (.imul, 1) := by decide +kernel
theorem dX10_number_44 : decode cX10_number 44 = .ok (.aload_n 0, 1) := by decide +kernel
theorem dX10_number_45 : decode cX10_number 45 = .ok (.aload_n 0, 1) := by decide +kernel
theorem dX10_number_46 : decode cX10_number 46 = .ok (.getfield 165, 3) := by decide +kernel
theorem dX10_number_49 : decode cX10_number 49 = .ok (.invokevirtual 168, 3) := by decide +kernel
theorem dX10_number_52 : decode cX10_number 52 = .ok (.iadd, 1) := by decide +kernel
theorem dX10_number_53 : decode cX10_number 53 = .ok (.bipush 48, 2) := by decide +kernel
theorem dX10_number_55 : decode cX10_number 55 = .ok (.isub, 1) := by decide +kernel
theorem dX10_number_56 : decode cX10_number 56 = .ok (.istore_n 2, 1) := by decide +kernel
theorem dX10_number_57 : decode cX10_number 57 = .ok (.iinc 3 1, 3) := by decide +kernel
theorem dX10_number_60 : decode cX10_number 60 = .ok (.aload_n 0, 1) := by decide +kernel
theorem dX10_number_61 : decode cX10_number 61 = .ok (.dup, 1) := by decide +kernel
theorem dX10_number_62 : decode cX10_number 62 = .ok (.getfield 165, 3) := by decide +kernel
theorem dX10_number_65 : decode cX10_number 65 = .ok (.iconst 1, 1) := by decide +kernel
theorem dX10_number_66 : decode cX10_number 66 = .ok (.iadd, 1) := by decide +kernel
theorem dX10_number_67 : decode cX10_number 67 = .ok (.putfield 165, 3) := by decide +kernel
theorem dX10_number_70 : decode cX10_number 70 = .ok (.goto (-66), 3) := by decide +kernel
theorem dX10_number_73 : decode cX10_number 73 = .ok (.aload_n 0, 1) := by decide +kernel
theorem dX10_number_74 : decode cX10_number 74 = .ok (.getfield 22, 3) := by decide +kernel
theorem dX10_number_77 : decode cX10_number 77 = .ok (.iload_n 1, 1) := by decide +kernel
theorem dX10_number_78 : decode cX10_number 78 = .ok (.iload_n 2, 1) := by decide +kernel
theorem dX10_number_79 : decode cX10_number 79 = .ok (.iastore, 1) := by decide +kernel
theorem dX10_number_80 : decode cX10_number 80 = .ok (.iload_n 3, 1) := by decide +kernel
theorem dX10_number_81 : decode cX10_number 81 = .ok (.ifCond .le 7, 3) := by decide +kernel
theorem dX10_number_84 : decode cX10_number 84 = .ok (.iconst 1, 1) := by decide +kernel
theorem dX10_number_85 : decode cX10_number 85 = .ok (.goto 4, 3) := by decide +kernel
theorem dX10_number_88 : decode cX10_number 88 = .ok (.iconst 0, 1) := by decide +kernel
theorem dX10_number_89 : decode cX10_number 89 = .ok (.ireturn, 1) := by decide +kernel
theorem dX10_order_0 : decode cX10_order 0 = .ok (.aload_n 0, 1) := by decide +kernel
theorem dX10_order_1 : decode cX10_order 1 = .ok (.aload_n 0, 1) := by decide +kernel
theorem dX10_order_2 : decode cX10_order 2 = .ok (.getfield 165, 3) := by decide +kernel
theorem dX10_order_5 : decode cX10_order 5 = .ok (.invokevirtual 168, 3) := by decide +kernel
theorem dX10_order_8 : decode cX10_order 8 = .ok (.invokestatic 175, 3) := by decide +kernel
theorem dX10_order_11 : decode cX10_order 11 = .ok (.istore_n 1, 1) := by decide +kernel
theorem dX10_order_12 : decode cX10_order 12 = .ok (.iload_n 1, 1) := by decide +kernel
theorem dX10_order_13 : decode cX10_order 13 = .ok (.ifCond .ge 5, 3) := by decide +kernel
theorem dX10_order_16 : decode cX10_order 16 = .ok (.iconst 0, 1) := by decide +kernel
theorem dX10_order_17 : decode cX10_order 17 = .ok (.ireturn, 1) := by decide +kernel
theorem dX10_order_18 : decode cX10_order 18 = .ok (.aload_n 0, 1) := by decide +kernel
theorem dX10_order_19 : decode cX10_order 19 = .ok (.dup, 1) := by decide +kernel
theorem dX10_order_20 : decode cX10_order 20 = .ok (.getfield 165, 3) := by decide +kernel
theorem dX10_order_23 : decode cX10_order 23 = .ok (.iconst 1, 1) := by decide +kernel
theorem dX10_order_24 : decode cX10_order 24 = .ok (.iadd, 1) := by decide +kernel
theorem dX10_order_25 : decode cX10_order 25 = .ok (.putfield 165, 3) := by decide +kernel
theorem dX10_order_28 : decode cX10_order 28 = .ok (.iconst 0, 1) := by decide +kernel
theorem dX10_order_29 : decode cX10_order 29 = .ok (.istore_n 2, 1) := by decide +kernel
theorem dX10_order_30 : decode cX10_order 30 = .ok (.iload_n 2, 1) := by decide +kernel
theorem dX10_order_31 : decode cX10_order 31 = .ok (.iload_n 1, 1) := by decide +kernel
theorem dX10_order_32 : decode cX10_order 32 = .ok (.if_icmp .ge 48, 3) := by decide +kernel
theorem dX10_order_35 : decode cX10_order 35 = .ok (.iload_n 2, 1) := by decide +kernel
theorem dX10_order_36 : decode cX10_order 36 = .ok (.ifCond .le 28, 3) := by decide +kernel
theorem dX10_order_39 : decode cX10_order 39 = .ok (.aload_n 0, 1) := by decide +kernel
theorem dX10_order_40 : decode cX10_order 40 = .ok (.aload_n 0, 1) := by decide +kernel
theorem dX10_order_41 : decode cX10_order 41 = .ok (.getfield 165, 3) := by decide +kernel
theorem dX10_order_44 : decode cX10_order 44 = .ok (.invokevirtual 168, 3) := by decide +kernel
theorem dX10_order_47 : decode cX10_order 47 = .ok (.bipush 44, 2) := by decide +kernel
theorem dX10_order_49 : decode cX10_order 49 = .ok (.if_icmp .eq 5, 3) := by decide +kernel
theorem dX10_order_52 : decode cX10_order 52 = .ok (.iconst 0, 1) := by decide +kernel
theorem dX10_order_53 : decode cX10_order 53 = .ok (.ireturn, 1) := by decide +kernel
theorem dX10_order_54 : decode cX10_order 54 = .ok (.aload_n 0, 1) := by decide +kernel
theorem dX10_order_55 : decode cX10_order 55 = .ok (.dup, 1) := by decide +kernel
theorem dX10_order_56 : decode cX10_order 56 = .ok (.getfield 165, 3) := by decide +kernel
theorem dX10_order_59 : decode cX10_order 59 = .ok (.iconst 1, 1) := by decide +kernel
theorem dX10_order_60 : decode cX10_order 60 = .ok (.iadd, 1) := by decide +kernel
theorem dX10_order_61 : decode cX10_order 61 = .ok (.putfield 165, 3) := by decide +kernel
theorem dX10_order_64 : decode cX10_order 64 = .ok (.aload_n 0, 1) := by decide +kernel
theorem dX10_order_65 : decode cX10_order 65 = .ok (.iload_n 2, 1) := by decide +kernel
theorem dX10_order_66 : decode cX10_order 66 = .ok (.invokevirtual 178, 3) := by decide +kernel
theorem dX10_order_69 : decode cX10_order 69 = .ok (.ifCond .ne 5, 3) := by decide +kernel
theorem dX10_order_72 : decode cX10_order 72 = .ok (.iconst 0, 1) := by decide +kernel
theorem dX10_order_73 : decode cX10_order 73 = .ok (.ireturn, 1) := by decide +kernel
theorem dX10_order_74 : decode cX10_order 74 = .ok (.iinc 2 1, 3) := by decide +kernel
theorem dX10_order_77 : decode cX10_order 77 = .ok (.goto (-47), 3) := by decide +kernel
theorem dX10_order_80 : decode cX10_order 80 = .ok (.aload_n 0, 1) := by decide +kernel
theorem dX10_order_81 : decode cX10_order 81 = .ok (.getfield 165, 3) := by decide +kernel
theorem dX10_order_84 : decode cX10_order 84 = .ok (.aload_n 0, 1) := by decide +kernel
theorem dX10_order_85 : decode cX10_order 85 = .ok (.getfield 162, 3) := by decide +kernel
theorem dX10_order_88 : decode cX10_order 88 = .ok (.if_icmp .eq 16, 3) := by decide +kernel
theorem dX10_order_91 : decode cX10_order 91 = .ok (.aload_n 0, 1) := by decide +kernel
theorem dX10_order_92 : decode cX10_order 92 = .ok (.aload_n 0, 1) := by decide +kernel
theorem dX10_order_93 : decode cX10_order 93 = .ok (.getfield 165, 3) := by decide +kernel
theorem dX10_order_96 : decode cX10_order 96 = .ok (.invokevirtual 168, 3) := by decide +kernel
theorem dX10_order_99 : decode cX10_order 99 = .ok (.bipush 59, 2) := by decide +kernel
theorem dX10_order_101 : decode cX10_order 101 = .ok (.if_icmp .ne 7, 3) := by decide +kernel
theorem dX10_order_104 : decode cX10_order 104 = .ok (.iconst 1, 1) := by decide +kernel
theorem dX10_order_105 : decode cX10_order 105 = .ok (.goto 4, 3) := by decide +kernel
theorem dX10_order_108 : decode cX10_order 108 = .ok (.iconst 0, 1) := by decide +kernel
theorem dX10_order_109 : decode cX10_order 109 = .ok (.ireturn, 1) := by decide +kernel
theorem dX10_faultAt_0 : decode cX10_faultAt 0 = .ok (.aload_n 0, 1) := by decide +kernel
theorem dX10_faultAt_1 : decode cX10_faultAt 1 = .ok (.iconst 0, 1) := by decide +kernel
theorem dX10_faultAt_2 : decode cX10_faultAt 2 = .ok (.putfield 165, 3) := by decide +kernel
theorem dX10_faultAt_5 : decode cX10_faultAt 5 = .ok (.aload_n 0, 1) := by decide +kernel
theorem dX10_faultAt_6 : decode cX10_faultAt 6 = .ok (.invokevirtual 181, 3) := by decide +kernel
theorem dX10_faultAt_9 : decode cX10_faultAt 9 = .ok (.ifCond .eq 29, 3) := by decide +kernel
theorem dX10_faultAt_12 : decode cX10_faultAt 12 = .ok (.aload_n 0, 1) := by decide +kernel
theorem dX10_faultAt_13 : decode cX10_faultAt 13 = .ok (.getfield 165, 3) := by decide +kernel
theorem dX10_faultAt_16 : decode cX10_faultAt 16 = .ok (.aload_n 0, 1) := by decide +kernel
theorem dX10_faultAt_17 : decode cX10_faultAt 17 = .ok (.getfield 162, 3) := by decide +kernel
theorem dX10_faultAt_20 : decode cX10_faultAt 20 = .ok (.if_icmp .ne 5, 3) := by decide +kernel
theorem dX10_faultAt_23 : decode cX10_faultAt 23 = .ok (.iconst (-1), 1) := by decide +kernel
theorem dX10_faultAt_24 : decode cX10_faultAt 24 = .ok (.ireturn, 1) := by decide +kernel
theorem dX10_faultAt_25 : decode cX10_faultAt 25 = .ok (.aload_n 0, 1) := by decide +kernel
theorem dX10_faultAt_26 : decode cX10_faultAt 26 = .ok (.dup, 1) := by decide +kernel
theorem dX10_faultAt_27 : decode cX10_faultAt 27 = .ok (.getfield 165, 3) := by decide +kernel
theorem dX10_faultAt_30 : decode cX10_faultAt 30 = .ok (.iconst 1, 1) := by decide +kernel
theorem dX10_faultAt_31 : decode cX10_faultAt 31 = .ok (.iadd, 1) := by decide +kernel
theorem dX10_faultAt_32 : decode cX10_faultAt 32 = .ok (.putfield 165, 3) := by decide +kernel
theorem dX10_faultAt_35 : decode cX10_faultAt 35 = .ok (.goto (-30), 3) := by decide +kernel
theorem dX10_faultAt_38 : decode cX10_faultAt 38 = .ok (.aload_n 0, 1) := by decide +kernel
theorem dX10_faultAt_39 : decode cX10_faultAt 39 = .ok (.getfield 165, 3) := by decide +kernel
theorem dX10_faultAt_42 : decode cX10_faultAt 42 = .ok (.ireturn, 1) := by decide +kernel
theorem dX10_doOrder_0 : decode cX10_doOrder 0 = .ok (.iload_n 1, 1) := by decide +kernel
theorem dX10_doOrder_1 : decode cX10_doOrder 1 = .ok (.tableswitch 193 102 120 #[125, 148, 193, 193, 193, 193, 193, 193, 193, 193, 193, 193, 176, 108, 91, 193, 193, 193, 165], 91) := by decide +kernel
theorem dX10_doOrder_92 : decode cX10_doOrder 92 = .ok (.aload_n 0, 1) := by decide +kernel
theorem dX10_doOrder_93 : decode cX10_doOrder 93 = .ok (.aload_n 0, 1) := by decide +kernel
theorem dX10_doOrder_94 : decode cX10_doOrder 94 = .ok (.getfield 22, 3) := by decide +kernel
theorem dX10_doOrder_97 : decode cX10_doOrder 97 = .ok (.iconst 0, 1) := by decide +kernel
theorem dX10_doOrder_98 : decode cX10_doOrder 98 = .ok (.iaload, 1) := by decide +kernel
theorem dX10_doOrder_99 : decode cX10_doOrder 99 = .ok (.aload_n 0, 1) := by decide +kernel
theorem dX10_doOrder_100 : decode cX10_doOrder 100 = .ok (.getfield 22, 3) := by decide +kernel
theorem dX10_doOrder_103 : decode cX10_doOrder 103 = .ok (.iconst 1, 1) := by decide +kernel
theorem dX10_doOrder_104 : decode cX10_doOrder 104 = .ok (.iaload, 1) := by decide +kernel
theorem dX10_doOrder_105 : decode cX10_doOrder 105 = .ok (.invokevirtual 185, 3) := by decide +kernel
theorem dX10_doOrder_108 : decode cX10_doOrder 108 = .ok (.ireturn, 1) := by decide +kernel
theorem dX10_doOrder_109 : decode cX10_doOrder 109 = .ok (.aload_n 0, 1) := by decide +kernel
theorem dX10_doOrder_110 : decode cX10_doOrder 110 = .ok (.aload_n 0, 1) := by decide +kernel
theorem dX10_doOrder_111 : decode cX10_doOrder 111 = .ok (.getfield 22, 3) := by decide +kernel
theorem dX10_doOrder_114 : decode cX10_doOrder 114 = .ok (.iconst 0, 1) := by decide +kernel
theorem dX10_doOrder_115 : decode cX10_doOrder 115 = .ok (.iaload, 1) := by decide +kernel
theorem dX10_doOrder_116 : decode cX10_doOrder 116 = .ok (.aload_n 0, 1) := by decide +kernel
theorem dX10_doOrder_117 : decode cX10_doOrder 117 = .ok (.getfield 22, 3) := by decide +kernel
theorem dX10_doOrder_120 : decode cX10_doOrder 120 = .ok (.iconst 1, 1) := by decide +kernel
theorem dX10_doOrder_121 : decode cX10_doOrder 121 = .ok (.iaload, 1) := by decide +kernel
theorem dX10_doOrder_122 : decode cX10_doOrder 122 = .ok (.invokevirtual 188, 3) := by decide +kernel
theorem dX10_doOrder_125 : decode cX10_doOrder 125 = .ok (.ireturn, 1) := by decide +kernel
theorem dX10_doOrder_126 : decode cX10_doOrder 126 = .ok (.aload_n 0, 1) := by decide +kernel
theorem dX10_doOrder_127 : decode cX10_doOrder 127 = .ok (.aload_n 0, 1) := by decide +kernel
theorem dX10_doOrder_128 : decode cX10_doOrder 128 = .ok (.getfield 22, 3) := by decide +kernel
theorem dX10_doOrder_131 : decode cX10_doOrder 131 = .ok (.iconst 0, 1) := by decide +kernel
theorem dX10_doOrder_132 : decode cX10_doOrder 132 = .ok (.iaload, 1) := by decide +kernel
theorem dX10_doOrder_133 : decode cX10_doOrder 133 = .ok (.aload_n 0, 1) := by decide +kernel
theorem dX10_doOrder_134 : decode cX10_doOrder 134 = .ok (.getfield 22, 3) := by decide +kernel
theorem dX10_doOrder_137 : decode cX10_doOrder 137 = .ok (.iconst 1, 1) := by decide +kernel
theorem dX10_doOrder_138 : decode cX10_doOrder 138 = .ok (.iaload, 1) := by decide +kernel
theorem dX10_doOrder_139 : decode cX10_doOrder 139 = .ok (.aload_n 0, 1) := by decide +kernel
theorem dX10_doOrder_140 : decode cX10_doOrder 140 = .ok (.getfield 22, 3) := by decide +kernel
theorem dX10_doOrder_143 : decode cX10_doOrder 143 = .ok (.iconst 2, 1) := by decide +kernel
theorem dX10_doOrder_144 : decode cX10_doOrder 144 = .ok (.iaload, 1) := by decide +kernel
theorem dX10_doOrder_145 : decode cX10_doOrder 145 = .ok (.invokevirtual 191, 3) := by decide +kernel
theorem dX10_doOrder_148 : decode cX10_doOrder 148 = .ok (.ireturn, 1) := by decide +kernel
theorem dX10_doOrder_149 : decode cX10_doOrder 149 = .ok (.aload_n 0, 1) := by decide +kernel
theorem dX10_doOrder_150 : decode cX10_doOrder 150 = .ok (.aload_n 0, 1) := by decide +kernel
theorem dX10_doOrder_151 : decode cX10_doOrder 151 = .ok (.getfield 22, 3) := by decide +kernel
theorem dX10_doOrder_154 : decode cX10_doOrder 154 = .ok (.iconst 0, 1) := by decide +kernel
theorem dX10_doOrder_155 : decode cX10_doOrder 155 = .ok (.iaload, 1) := by decide +kernel
theorem dX10_doOrder_156 : decode cX10_doOrder 156 = .ok (.aload_n 0, 1) := by decide +kernel
theorem dX10_doOrder_157 : decode cX10_doOrder 157 = .ok (.getfield 22, 3) := by decide +kernel
theorem dX10_doOrder_160 : decode cX10_doOrder 160 = .ok (.iconst 1, 1) := by decide +kernel
theorem dX10_doOrder_161 : decode cX10_doOrder 161 = .ok (.iaload, 1) := by decide +kernel
theorem dX10_doOrder_162 : decode cX10_doOrder 162 = .ok (.invokevirtual 194, 3) := by decide +kernel
theorem dX10_doOrder_165 : decode cX10_doOrder 165 = .ok (.ireturn, 1) := by decide +kernel
theorem dX10_doOrder_166 : decode cX10_doOrder 166 = .ok (.aload_n 0, 1) := by decide +kernel
theorem dX10_doOrder_167 : decode cX10_doOrder 167 = .ok (.aload_n 0, 1) := by decide +kernel
theorem dX10_doOrder_168 : decode cX10_doOrder 168 = .ok (.getfield 22, 3) := by decide +kernel
theorem dX10_doOrder_171 : decode cX10_doOrder 171 = .ok (.iconst 0, 1) := by decide +kernel
theorem dX10_doOrder_172 : decode cX10_doOrder 172 = .ok (.iaload, 1) := by decide +kernel
theorem dX10_doOrder_173 : decode cX10_doOrder 173 = .ok (.invokevirtual 197, 3) := by decide +kernel
theorem dX10_doOrder_176 : decode cX10_doOrder 176 = .ok (.ireturn, 1) := by decide +kernel
theorem dX10_doOrder_177 : decode cX10_doOrder 177 = .ok (.aload_n 0, 1) := by decide +kernel
theorem dX10_doOrder_178 : decode cX10_doOrder 178 = .ok (.aload_n 0, 1) := by decide +kernel
theorem dX10_doOrder_179 : decode cX10_doOrder 179 = .ok (.getfield 22, 3) := by decide +kernel
theorem dX10_doOrder_182 : decode cX10_doOrder 182 = .ok (.iconst 0, 1) := by decide +kernel
theorem dX10_doOrder_183 : decode cX10_doOrder 183 = .ok (.iaload, 1) := by decide +kernel
theorem dX10_doOrder_184 : decode cX10_doOrder 184 = .ok (.aload_n 0, 1) := by decide +kernel
theorem dX10_doOrder_185 : decode cX10_doOrder 185 = .ok (.getfield 22, 3) := by decide +kernel
theorem dX10_doOrder_188 : decode cX10_doOrder 188 = .ok (.iconst 1, 1) := by decide +kernel
theorem dX10_doOrder_189 : decode cX10_doOrder 189 = .ok (.iaload, 1) := by decide +kernel
theorem dX10_doOrder_190 : decode cX10_doOrder 190 = .ok (.invokevirtual 200, 3) := by decide +kernel
theorem dX10_doOrder_193 : decode cX10_doOrder 193 = .ok (.ireturn, 1) := by decide +kernel
theorem dX10_doOrder_194 : decode cX10_doOrder 194 = .ok (.aload_n 0, 1) := by decide +kernel
theorem dX10_doOrder_195 : decode cX10_doOrder 195 = .ok (.invokevirtual 203, 3) := by decide +kernel
theorem dX10_doOrder_198 : decode cX10_doOrder 198 = .ok (.ireturn, 1) := by decide +kernel
theorem dX10_carryOut_0 : decode cX10_carryOut 0 = .ok (.aload_n 0, 1) := by decide +kernel
theorem dX10_carryOut_1 : decode cX10_carryOut 1 = .ok (.invokevirtual 206, 3) := by decide +kernel
theorem dX10_carryOut_4 : decode cX10_carryOut 4 = .ok (.istore_n 1, 1) := by decide +kernel
theorem dX10_carryOut_5 : decode cX10_carryOut 5 = .ok (.iload_n 1, 1) := by decide +kernel
theorem dX10_carryOut_6 : decode cX10_carryOut 6 = .ok (.ifCond .lt 9, 3) := by decide +kernel
theorem dX10_carryOut_9 : decode cX10_carryOut 9 = .ok (.sipush (-1000), 3) := by decide +kernel
theorem dX10_carryOut_12 : decode cX10_carryOut 12 = .ok (.iload_n 1, 1) := by decide +kernel
theorem dX10_carryOut_13 : decode cX10_carryOut 13 = .ok (.isub, 1) := by decide +kernel
theorem dX10_carryOut_14 : decode cX10_carryOut 14 = .ok (.ireturn, 1) := by decide +kernel
theorem dX10_carryOut_15 : decode cX10_carryOut 15 = .ok (.aload_n 0, 1) := by decide +kernel
theorem dX10_carryOut_16 : decode cX10_carryOut 16 = .ok (.invokevirtual 37, 3) := by decide +kernel
theorem dX10_carryOut_19 : decode cX10_carryOut 19 = .ok (.aload_n 0, 1) := by decide +kernel
theorem dX10_carryOut_20 : decode cX10_carryOut 20 = .ok (.iconst 1, 1) := by decide +kernel
theorem dX10_carryOut_21 : decode cX10_carryOut 21 = .ok (.putfield 33, 3) := by decide +kernel
theorem dX10_carryOut_24 : decode cX10_carryOut 24 = .ok (.iconst 0, 1) := by decide +kernel
theorem dX10_carryOut_25 : decode cX10_carryOut 25 = .ok (.istore_n 2, 1) := by decide +kernel
theorem dX10_carryOut_26 : decode cX10_carryOut 26 = .ok (.iconst 0, 1) := by decide +kernel
theorem dX10_carryOut_27 : decode cX10_carryOut 27 = .ok (.istore_n 3, 1) := by decide +kernel
theorem dX10_carryOut_28 : decode cX10_carryOut 28 = .ok (.iconst 1, 1) := by decide +kernel
theorem dX10_carryOut_29 : decode cX10_carryOut 29 = .ok (.istore 4, 2) := by decide +kernel
theorem dX10_carryOut_31 : decode cX10_carryOut 31 = .ok (.iload 4, 2) := by decide +kernel
theorem dX10_carryOut_33 : decode cX10_carryOut 33 = .ok (.ifCond .eq 74, 3) := by decide +kernel
theorem dX10_carryOut_36 : decode cX10_carryOut 36 = .ok (.aload_n 0, 1) := by decide +kernel
theorem dX10_carryOut_37 : decode cX10_carryOut 37 = .ok (.iload_n 3, 1) := by decide +kernel
theorem dX10_carryOut_38 : decode cX10_carryOut 38 = .ok (.putfield 165, 3) := by decide +kernel
theorem dX10_carryOut_41 : decode cX10_carryOut 41 = .ok (.aload_n 0, 1) := by decide +kernel
theorem dX10_carryOut_42 : decode cX10_carryOut 42 = .ok (.invokevirtual 181, 3) := by decide +kernel
theorem dX10_carryOut_45 : decode cX10_carryOut 45 = .ok (.pop, 1) := by decide +kernel
theorem dX10_carryOut_46 : decode cX10_carryOut 46 = .ok (.aload_n 0, 1) := by decide +kernel
theorem dX10_carryOut_47 : decode cX10_carryOut 47 = .ok (.getfield 165, 3) := by decide +kernel
theorem dX10_carryOut_50 : decode cX10_carryOut 50 = .ok (.iconst 1, 1) := by decide +kernel
theorem dX10_carryOut_51 : decode cX10_carryOut 51 = .ok (.iadd, 1) := by decide +kernel
theorem dX10_carryOut_52 : decode cX10_carryOut 52 = .ok (.istore_n 3, 1) := by decide +kernel
theorem dX10_carryOut_53 : decode cX10_carryOut 53 = .ok (.aload_n 0, 1) := by decide +kernel
theorem dX10_carryOut_54 : decode cX10_carryOut 54 = .ok (.aload_n 0, 1) := by decide +kernel
theorem dX10_carryOut_55 : decode cX10_carryOut 55 = .ok (.invokevirtual 209, 3) := by decide +kernel
theorem dX10_carryOut_58 : decode cX10_carryOut 58 = .ok (.invokevirtual 212, 3) := by decide +kernel
theorem dX10_carryOut_61 : decode cX10_carryOut 61 = .ok (.ifCond .lt 7, 3) := by decide +kernel
theorem dX10_carryOut_64 : decode cX10_carryOut 64 = .ok (.iconst 1, 1) := by decide +kernel
theorem dX10_carryOut_65 : decode cX10_carryOut 65 = .ok (.goto 4, 3) := by decide +kernel
theorem dX10_carryOut_68 : decode cX10_carryOut 68 = .ok (.iconst 0, 1) := by decide +kernel
theorem dX10_carryOut_69 : decode cX10_carryOut 69 = .ok (.istore 4, 2) := by decide +kernel
theorem dX10_carryOut_71 : decode cX10_carryOut 71 = .ok (.iload_n 2, 1) := by decide +kernel
theorem dX10_carryOut_72 : decode cX10_carryOut 72 = .ok (.iload 4, 2) := by decide +kernel
theorem dX10_carryOut_74 : decode cX10_carryOut 74 = .ok (.ifCond .eq 7, 3) := by decide +kernel
theorem dX10_carryOut_77 : decode cX10_carryOut 77 = .ok (.iconst 1, 1) := by decide +kernel
theorem dX10_carryOut_78 : decode cX10_carryOut 78 = .ok (.goto 4, 3) := by decide +kernel
theorem dX10_carryOut_81 : decode cX10_carryOut 81 = .ok (.iconst 0, 1) := by decide +kernel
theorem dX10_carryOut_82 : decode cX10_carryOut 82 = .ok (.iadd, 1) := by decide +kernel
theorem dX10_carryOut_83 : decode cX10_carryOut 83 = .ok (.istore_n 2, 1) := by decide +kernel
theorem dX10_carryOut_84 : decode cX10_carryOut 84 = .ok (.iload 4, 2) := by decide +kernel
theorem dX10_carryOut_86 : decode cX10_carryOut 86 = .ok (.ifCond .eq 15, 3) := by decide +kernel
theorem dX10_carryOut_89 : decode cX10_carryOut 89 = .ok (.iload_n 3, 1) := by decide +kernel
theorem dX10_carryOut_90 : decode cX10_carryOut 90 = .ok (.aload_n 0, 1) := by decide +kernel
theorem dX10_carryOut_91 : decode cX10_carryOut 91 = .ok (.getfield 162, 3) := by decide +kernel
theorem dX10_carryOut_94 : decode cX10_carryOut 94 = .ok (.if_icmp .gt 7, 3) := by decide +kernel
theorem dX10_carryOut_97 : decode cX10_carryOut 97 = .ok (.iconst 1, 1) := by decide +kernel
theorem dX10_carryOut_98 : decode cX10_carryOut 98 = .ok (.goto 4, 3) := by decide +kernel
theorem dX10_carryOut_101 : decode cX10_carryOut 101 = .ok (.iconst 0, 1) := by decide +kernel
theorem dX10_carryOut_102 : decode cX10_carryOut 102 = .ok (.istore 4, 2) := by decide +kernel
theorem dX10_carryOut_104 : decode cX10_carryOut 104 = .ok (.goto (-73), 3) := by decide +kernel
theorem dX10_carryOut_107 : decode cX10_carryOut 107 = .ok (.aload_n 0, 1) := by decide +kernel
theorem dX10_carryOut_108 : decode cX10_carryOut 108 = .ok (.iconst 0, 1) := by decide +kernel
theorem dX10_carryOut_109 : decode cX10_carryOut 109 = .ok (.putfield 33, 3) := by decide +kernel
theorem dX10_carryOut_112 : decode cX10_carryOut 112 = .ok (.aload_n 0, 1) := by decide +kernel
theorem dX10_carryOut_113 : decode cX10_carryOut 113 = .ok (.iconst 0, 1) := by decide +kernel
theorem dX10_carryOut_114 : decode cX10_carryOut 114 = .ok (.putfield 162, 3) := by decide +kernel
theorem dX10_carryOut_117 : decode cX10_carryOut 117 = .ok (.iload_n 2, 1) := by decide +kernel
theorem dX10_carryOut_118 : decode cX10_carryOut 118 = .ok (.ireturn, 1) := by decide +kernel
theorem dX10_letterAtBegin_0 : decode cX10_letterAtBegin 0 = .ok (.aload_n 0, 1) := by decide +kernel
theorem dX10_letterAtBegin_1 : decode cX10_letterAtBegin 1 = .ok (.getfield 165, 3) := by decide +kernel
theorem dX10_letterAtBegin_4 : decode cX10_letterAtBegin 4 = .ok (.iconst 1, 1) := by decide +kernel
theorem dX10_letterAtBegin_5 : decode cX10_letterAtBegin 5 = .ok (.isub, 1) := by decide +kernel
theorem dX10_letterAtBegin_6 : decode cX10_letterAtBegin 6 = .ok (.istore_n 1, 1) := by decide +kernel
theorem dX10_letterAtBegin_7 : decode cX10_letterAtBegin 7 = .ok (.aload_n 0, 1) := by decide +kernel
theorem dX10_letterAtBegin_8 : decode cX10_letterAtBegin 8 = .ok (.iload_n 1, 1) := by decide +kernel
theorem dX10_letterAtBegin_9 : decode cX10_letterAtBegin 9 = .ok (.invokevirtual 168, 3) := by decide +kernel
theorem dX10_letterAtBegin_12 : decode cX10_letterAtBegin 12 = .ok (.i2l, 1) := by decide +kernel
theorem dX10_letterAtBegin_13 : decode cX10_letterAtBegin 13 = .ok (.ldc2_w 215, 3) := by decide +kernel
theorem dX10_letterAtBegin_16 : decode cX10_letterAtBegin 16 = .ok (.ldc2_w 217, 3) := by decide +kernel
theorem dX10_letterAtBegin_19 : decode cX10_letterAtBegin 19 = .ok (.invokestatic 42, 3) := by decide +kernel
theorem dX10_letterAtBegin_22 : decode cX10_letterAtBegin 22 = .ok (.ifCond .ne 9, 3) := by decide +kernel
theorem dX10_letterAtBegin_25 : decode cX10_letterAtBegin 25 = .ok (.iinc 1 (-1), 3) := by decide +kernel
theorem dX10_letterAtBegin_28 : decode cX10_letterAtBegin 28 = .ok (.goto (-21), 3) := by decide +kernel
theorem dX10_letterAtBegin_31 : decode cX10_letterAtBegin 31 = .ok (.aload_n 0, 1) := by decide +kernel
theorem dX10_letterAtBegin_32 : decode cX10_letterAtBegin 32 = .ok (.iload_n 1, 1) := by decide +kernel
theorem dX10_letterAtBegin_33 : decode cX10_letterAtBegin 33 = .ok (.invokevirtual 168, 3) := by decide +kernel
theorem dX10_letterAtBegin_36 : decode cX10_letterAtBegin 36 = .ok (.ireturn, 1) := by decide +kernel
theorem dX10_afloat_0 : decode cX10_afloat 0 = .ok (.iconst 0, 1) := by decide +kernel
theorem dX10_afloat_1 : decode cX10_afloat 1 = .ok (.istore_n 2, 1) := by decide +kernel
theorem dX10_afloat_2 : decode cX10_afloat 2 = .ok (.iconst 0, 1) := by decide +kernel
theorem dX10_afloat_3 : decode cX10_afloat 3 = .ok (.istore_n 3, 1) := by decide +kernel
theorem dX10_afloat_4 : decode cX10_afloat 4 = .ok (.iload_n 3, 1) := by decide +kernel
theorem dX10_afloat_5 : decode cX10_afloat 5 = .ok (.aload_n 0, 1) := by decide +kernel
theorem dX10_afloat_6 : decode cX10_afloat 6 = .ok (.getfield 7, 3) := by decide +kernel
theorem dX10_afloat_9 : decode cX10_afloat 9 = .ok (.bipush 10, 2) := by decide +kernel
theorem dX10_afloat_11 : decode cX10_afloat 11 = .ok (.iaload, 1) := by decide +kernel
theorem dX10_afloat_12 : decode cX10_afloat 12 = .ok (.if_icmp .ge 41, 3) := by decide +kernel
theorem dX10_afloat_15 : decode cX10_afloat 15 = .ok (.iload_n 2, 1) := by decide +kernel
theorem dX10_afloat_16 : decode cX10_afloat 16 = .ok (.aload_n 0, 1) := by decide +kernel
theorem dX10_afloat_17 : decode cX10_afloat 17 = .ok (.iload_n 3, 1) := by decide +kernel
theorem dX10_afloat_18 : decode cX10_afloat 18 = .ok (.invokevirtual 95, 3) := by decide +kernel
theorem dX10_afloat_21 : decode cX10_afloat 21 = .ok (.ifCond .eq 23, 3) := by decide +kernel
theorem dX10_afloat_24 : decode cX10_afloat 24 = .ok (.iload_n 1, 1) := by decide +kernel
theorem dX10_afloat_25 : decode cX10_afloat 25 = .ok (.ifCond .lt 13, 3) := by decide +kernel
theorem dX10_afloat_28 : decode cX10_afloat 28 = .ok (.aload_n 0, 1) := by decide +kernel
theorem dX10_afloat_29 : decode cX10_afloat 29 = .ok (.iload_n 3, 1) := by decide +kernel
theorem dX10_afloat_30 : decode cX10_afloat 30 = .ok (.iconst 0, 1) := by decide +kernel
theorem dX10_afloat_31 : decode cX10_afloat 31 = .ok (.invokevirtual 52, 3) := by decide +kernel
theorem dX10_afloat_34 : decode cX10_afloat 34 = .ok (.iload_n 1, 1) := by decide +kernel
theorem dX10_afloat_35 : decode cX10_afloat 35 = .ok (.if_icmp .ne 9, 3) := by decide +kernel
theorem dX10_afloat_38 : decode cX10_afloat 38 = .ok (.iconst 1, 1) := by decide +kernel
theorem dX10_afloat_39 : decode cX10_afloat 39 = .ok (.iload_n 3, 1) := by decide +kernel
theorem dX10_afloat_40 : decode cX10_afloat 40 = .ok (.ishl, 1) := by decide +kernel
theorem dX10_afloat_41 : decode cX10_afloat 41 = .ok (.goto 4, 3) := by decide +kernel
theorem dX10_afloat_44 : decode cX10_afloat 44 = .ok (.iconst 0, 1) := by decide +kernel
theorem dX10_afloat_45 : decode cX10_afloat 45 = .ok (.ior, 1) := by decide +kernel
theorem dX10_afloat_46 : decode cX10_afloat 46 = .ok (.istore_n 2, 1) := by decide +kernel
theorem dX10_afloat_47 : decode cX10_afloat 47 = .ok (.iinc 3 1, 3) := by decide +kernel
theorem dX10_afloat_50 : decode cX10_afloat 50 = .ok (.goto (-46), 3) := by decide +kernel
theorem dX10_afloat_53 : decode cX10_afloat 53 = .ok (.iload_n 2, 1) := by decide +kernel
theorem dX10_afloat_54 : decode cX10_afloat 54 = .ok (.ireturn, 1) := by decide +kernel
theorem dX10_count_0 : decode cX10_count 0 = .ok (.iload_n 1, 1) := by decide +kernel
theorem dX10_count_1 : decode cX10_count 1 = .ok (.tableswitch 151 0 11 #[63, 70, 77, 84, 91, 96, 104, 110, 115, 123, 141, 146], 63) := by decide +kernel
theorem dX10_count_64 : decode cX10_count 64 = .ok (.aload_n 0, 1) := by decide +kernel
theorem dX10_count_65 : decode cX10_count 65 = .ok (.getfield 7, 3) := by decide +kernel
theorem dX10_count_68 : decode cX10_count 68 = .ok (.iconst 0, 1) := by decide +kernel
theorem dX10_count_69 : decode cX10_count 69 = .ok (.iaload, 1) := by decide +kernel
theorem dX10_count_70 : decode cX10_count 70 = .ok (.ireturn, 1) := by decide +kernel
theorem dX10_count_71 : decode cX10_count 71 = .ok (.aload_n 0, 1) := by decide +kernel
theorem dX10_count_72 : decode cX10_count 72 = .ok (.getfield 7, 3) := by decide +kernel
theorem dX10_count_75 : decode cX10_count 75 = .ok (.iconst 1, 1) := by decide +kernel
theorem dX10_count_76 : decode cX10_count 76 = .ok (.iaload, 1) := by decide +kernel
theorem dX10_count_77 : decode cX10_count 77 = .ok (.ireturn, 1) := by decide +kernel
theorem dX10_count_78 : decode cX10_count 78 = .ok (.aload_n 0, 1) := by decide +kernel
theorem dX10_count_79 : decode cX10_count 79 = .ok (.getfield 7, 3) := by decide +kernel
theorem dX10_count_82 : decode cX10_count 82 = .ok (.iconst 2, 1) := by decide +kernel
theorem dX10_count_83 : decode cX10_count 83 = .ok (.iaload, 1) := by decide +kernel
theorem dX10_count_84 : decode cX10_count 84 = .ok (.ireturn, 1) := by decide +kernel
theorem dX10_count_85 : decode cX10_count 85 = .ok (.aload_n 0, 1) := by decide +kernel
theorem dX10_count_86 : decode cX10_count 86 = .ok (.getfield 7, 3) := by decide +kernel
theorem dX10_count_89 : decode cX10_count 89 = .ok (.iconst 3, 1) := by decide +kernel
theorem dX10_count_90 : decode cX10_count 90 = .ok (.iaload, 1) := by decide +kernel
theorem dX10_count_91 : decode cX10_count 91 = .ok (.ireturn, 1) := by decide +kernel
theorem dX10_count_92 : decode cX10_count 92 = .ok (.aload_n 0, 1) := by decide +kernel
theorem dX10_count_93 : decode cX10_count 93 = .ok (.invokevirtual 92, 3) := by decide +kernel
theorem dX10_count_96 : decode cX10_count 96 = .ok (.ireturn, 1) := by decide +kernel
theorem dX10_count_97 : decode cX10_count 97 = .ok (.aload_n 0, 1) := by decide +kernel
theorem dX10_count_98 : decode cX10_count 98 = .ok (.getfield 7, 3) := by decide +kernel
theorem dX10_count_101 : decode cX10_count 101 = .ok (.bipush 10, 2) := by decide +kernel
theorem dX10_count_103 : decode cX10_count 103 = .ok (.iaload, 1) := by decide +kernel
theorem dX10_count_104 : decode cX10_count 104 = .ok (.ireturn, 1) := by decide +kernel
theorem dX10_count_105 : decode cX10_count 105 = .ok (.aload_n 0, 1) := by decide +kernel
theorem dX10_count_106 : decode cX10_count 106 = .ok (.iconst (-1), 1) := by decide +kernel
theorem dX10_count_107 : decode cX10_count 107 = .ok (.invokevirtual 219, 3) := by decide +kernel
theorem dX10_count_110 : decode cX10_count 110 = .ok (.ireturn, 1) := by decide +kernel
theorem dX10_count_111 : decode cX10_count 111 = .ok (.aload_n 0, 1) := by decide +kernel
theorem dX10_count_112 : decode cX10_count 112 = .ok (.invokevirtual 66, 3) := by decide +kernel
theorem dX10_count_115 : decode cX10_count 115 = .ok (.ireturn, 1) := by decide +kernel
theorem dX10_count_116 : decode cX10_count 116 = .ok (.aload_n 0, 1) := by decide +kernel
theorem dX10_count_117 : decode cX10_count 117 = .ok (.getfield 7, 3) := by decide +kernel
theorem dX10_count_120 : decode cX10_count 120 = .ok (.bipush 11, 2) := by decide +kernel
theorem dX10_count_122 : decode cX10_count 122 = .ok (.iaload, 1) := by decide +kernel
theorem dX10_count_123 : decode cX10_count 123 = .ok (.ireturn, 1) := by decide +kernel
theorem dX10_count_124 : decode cX10_count 124 = .ok (.aload_n 0, 1) := by decide +kernel
theorem dX10_count_125 : decode cX10_count 125 = .ok (.getfield 7, 3) := by decide +kernel
theorem dX10_count_128 : decode cX10_count 128 = .ok (.sipush 181, 3) := by decide +kernel
theorem dX10_count_131 : decode cX10_count 131 = .ok (.iaload, 1) := by decide +kernel
theorem dX10_count_132 : decode cX10_count 132 = .ok (.aload_n 0, 1) := by decide +kernel
theorem dX10_count_133 : decode cX10_count 133 = .ok (.getfield 7, 3) := by decide +kernel
theorem dX10_count_136 : decode cX10_count 136 = .ok (.sipush 182, 3) := by decide +kernel
theorem dX10_count_139 : decode cX10_count 139 = .ok (.iaload, 1) := by decide +kernel
theorem dX10_count_140 : decode cX10_count 140 = .ok (.iadd, 1) := by decide +kernel
theorem dX10_count_141 : decode cX10_count 141 = .ok (.ireturn, 1) := by decide +kernel
theorem dX10_count_142 : decode cX10_count 142 = .ok (.aload_n 0, 1) := by decide +kernel
theorem dX10_count_143 : decode cX10_count 143 = .ok (.getfield 29, 3) := by decide +kernel
theorem dX10_count_146 : decode cX10_count 146 = .ok (.ireturn, 1) := by decide +kernel
theorem dX10_count_147 : decode cX10_count 147 = .ok (.aload_n 0, 1) := by decide +kernel
theorem dX10_count_148 : decode cX10_count 148 = .ok (.getfield 162, 3) := by decide +kernel
theorem dX10_count_151 : decode cX10_count 151 = .ok (.ireturn, 1) := by decide +kernel
theorem dX10_count_152 : decode cX10_count 152 = .ok (.iconst (-1), 1) := by decide +kernel
theorem dX10_count_153 : decode cX10_count 153 = .ok (.ireturn, 1) := by decide +kernel
theorem dX10_captain_0 : decode cX10_captain 0 = .ok (.iload_n 1, 1) := by decide +kernel
theorem dX10_captain_1 : decode cX10_captain 1 = .ok (.invokestatic 70, 3) := by decide +kernel
theorem dX10_captain_4 : decode cX10_captain 4 = .ok (.ifCond .eq 15, 3) := by decide +kernel
theorem dX10_captain_7 : decode cX10_captain 7 = .ok (.iload_n 2, 1) := by decide +kernel
theorem dX10_captain_8 : decode cX10_captain 8 = .ok (.i2l, 1) := by decide +kernel
theorem dX10_captain_9 : decode cX10_captain 9 = .ok (.lconst 0, 1) := by decide +kernel
theorem dX10_captain_10 : decode cX10_captain 10 = .ok (.ldc2_w 222, 3) := by decide +kernel
theorem dX10_captain_13 : decode cX10_captain 13 = .ok (.invokestatic 42, 3) := by decide +kernel
theorem dX10_captain_16 : decode cX10_captain 16 = .ok (.ifCond .ne 5, 3) := by decide +kernel
theorem dX10_captain_19 : decode cX10_captain 19 = .ok (.iconst (-1), 1) := by decide +kernel
theorem dX10_captain_20 : decode cX10_captain 20 = .ok (.ireturn, 1) := by decide +kernel
theorem dX10_captain_21 : decode cX10_captain 21 = .ok (.aload_n 0, 1) := by decide +kernel
theorem dX10_captain_22 : decode cX10_captain 22 = .ok (.iload_n 1, 1) := by decide +kernel
theorem dX10_captain_23 : decode cX10_captain 23 = .ok (.invokevirtual 219, 3) := by decide +kernel
theorem dX10_captain_26 : decode cX10_captain 26 = .ok (.istore_n 3, 1) := by decide +kernel
theorem dX10_captain_27 : decode cX10_captain 27 = .ok (.iconst 0, 1) := by decide +kernel
theorem dX10_captain_28 : decode cX10_captain 28 = .ok (.istore 4, 2) := by decide +kernel
theorem dX10_captain_30 : decode cX10_captain 30 = .ok (.iconst 0, 1) := by decide +kernel
theorem dX10_captain_31 : decode cX10_captain 31 = .ok (.istore 5, 2) := by decide +kernel
theorem dX10_captain_33 : decode cX10_captain 33 = .ok (.iload 5, 2) := by decide +kernel
theorem dX10_captain_35 : decode cX10_captain 35 = .ok (.aload_n 0, 1) := by decide +kernel
theorem dX10_captain_36 : decode cX10_captain 36 = .ok (.getfield 7, 3) := by decide +kernel
theorem dX10_captain_39 : decode cX10_captain 39 = .ok (.bipush 10, 2) := by decide +kernel
theorem dX10_captain_41 : decode cX10_captain 41 = .ok (.iaload, 1) := by decide +kernel
theorem dX10_captain_42 : decode cX10_captain 42 = .ok (.if_icmp .ge 34, 3) := by decide +kernel
theorem dX10_captain_45 : decode cX10_captain 45 = .ok (.iload 4, 2) := by decide +kernel
theorem dX10_captain_47 : decode cX10_captain 47 = .ok (.iload_n 3, 1) := by decide +kernel
theorem dX10_captain_48 : decode cX10_captain 48 = .ok (.iload 5, 2) := by decide +kernel
theorem dX10_captain_50 : decode cX10_captain 50 = .ok (.invokestatic 88, 3) := by decide +kernel
theorem dX10_captain_53 : decode cX10_captain 53 = .ok (.ifCond .eq 13, 3) := by decide +kernel
theorem dX10_captain_56 : decode cX10_captain 56 = .ok (.aload_n 0, 1) := by decide +kernel
theorem dX10_captain_57 : decode cX10_captain 57 = .ok (.iload 5, 2) := by decide +kernel
theorem dX10_captain_59 : decode cX10_captain 59 = .ok (.iconst 3, 1) := by decide +kernel
theorem dX10_captain_60 : decode cX10_captain 60 = .ok (.invokevirtual 52, 3) := by decide +kernel
theorem dX10_captain_63 : decode cX10_captain 63 = .ok (.goto 4, 3) := by decide +kernel
theorem dX10_captain_66 : decode cX10_captain 66 = .ok (.iconst 0, 1) := by decide +kernel
theorem dX10_captain_67 : decode cX10_captain 67 = .ok (.iadd, 1) := by decide +kernel
theorem dX10_captain_68 : decode cX10_captain 68 = .ok (.istore 4, 2) := by decide +kernel
theorem dX10_captain_70 : decode cX10_captain 70 = .ok (.iinc 5 1, 3) := by decide +kernel
theorem dX10_captain_73 : decode cX10_captain 73 = .ok (.goto (-40), 3) := by decide +kernel
theorem dX10_captain_76 : decode cX10_captain 76 = .ok (.iload_n 2, 1) := by decide +kernel
theorem dX10_captain_77 : decode cX10_captain 77 = .ok (.ifCond .ne 14, 3) := by decide +kernel
theorem dX10_captain_80 : decode cX10_captain 80 = .ok (.aload_n 0, 1) := by decide +kernel
theorem dX10_captain_81 : decode cX10_captain 81 = .ok (.getfield 7, 3) := by decide +kernel
theorem dX10_captain_84 : decode cX10_captain 84 = .ok (.iconst 4, 1) := by decide +kernel
theorem dX10_captain_85 : decode cX10_captain 85 = .ok (.iload_n 1, 1) := by decide +kernel
theorem dX10_captain_86 : decode cX10_captain 86 = .ok (.iadd, 1) := by decide +kernel
theorem dX10_captain_87 : decode cX10_captain 87 = .ok (.iaload, 1) := by decide +kernel
theorem dX10_captain_88 : decode cX10_captain 88 = .ok (.goto 65, 3) := by decide +kernel
theorem dX10_captain_91 : decode cX10_captain 91 = .ok (.iload_n 2, 1) := by decide +kernel
theorem dX10_captain_92 : decode cX10_captain 92 = .ok (.iconst 1, 1) := by decide +kernel
theorem dX10_captain_93 : decode cX10_captain 93 = .ok (.if_icmp .ne 32, 3) := by decide +kernel
theorem dX10_captain_96 : decode cX10_captain 96 = .ok (.aload_n 0, 1) := by decide +kernel
theorem dX10_captain_97 : decode cX10_captain 97 = .ok (.getfield 7, 3) := by decide +kernel
theorem dX10_captain_100 : decode cX10_captain 100 = .ok (.bipush 6, 2) := by decide +kernel
theorem dX10_captain_102 : decode cX10_captain 102 = .ok (.iload_n 1, 1) := by decide +kernel
theorem dX10_captain_103 : decode cX10_captain 103 = .ok (.iadd, 1) := by decide +kernel
theorem dX10_captain_104 : decode cX10_captain 104 = .ok (.iaload, 1) := by decide +kernel
theorem dX10_captain_105 : decode cX10_captain 105 = .ok (.ifCond .ge 8, 3) := by decide +kernel
theorem dX10_captain_108 : decode cX10_captain 108 = .ok (.bipush (-9), 2) := by decide +kernel
theorem dX10_captain_110 : decode cX10_captain 110 = .ok (.goto 43, 3) := by decide +kernel
theorem dX10_captain_113 : decode cX10_captain 113 = .ok (.aload_n 0, 1) := by decide +kernel
theorem dX10_captain_114 : decode cX10_captain 114 = .ok (.getfield 7, 3) := by decide +kernel
theorem dX10_captain_117 : decode cX10_captain 117 = .ok (.bipush 6, 2) := by decide +kernel
theorem dX10_captain_119 : decode cX10_captain 119 = .ok (.iload_n 1, 1) := by decide +kernel
theorem dX10_captain_120 : decode cX10_captain 120 = .ok (.iadd, 1) := by decide +kernel
theorem dX10_captain_121 : decode cX10_captain 121 = .ok (.iaload, 1) := by decide +kernel
theorem dX10_captain_122 : decode cX10_captain 122 = .ok (.goto 31, 3) := by decide +kernel
theorem dX10_captain_125 : decode cX10_captain 125 = .ok (.iload_n 2, 1) := by decide +kernel
theorem dX10_captain_126 : decode cX10_captain 126 = .ok (.iconst 2, 1) := by decide +kernel
theorem dX10_captain_127 : decode cX10_captain 127 = .ok (.if_icmp .ne 15, 3) := by decide +kernel
theorem dX10_captain_130 : decode cX10_captain 130 = .ok (.aload_n 0, 1) := by decide +kernel
theorem dX10_captain_131 : decode cX10_captain 131 = .ok (.getfield 7, 3) := by decide +kernel
theorem dX10_captain_134 : decode cX10_captain 134 = .ok (.bipush 8, 2) := by decide +kernel
theorem dX10_captain_136 : decode cX10_captain 136 = .ok (.iload_n 1, 1) := by decide +kernel
theorem dX10_captain_137 : decode cX10_captain 137 = .ok (.iadd, 1) := by decide +kernel
theorem dX10_captain_138 : decode cX10_captain 138 = .ok (.iaload, 1) := by decide +kernel
theorem dX10_captain_139 : decode cX10_captain 139 = .ok (.goto 14, 3) := by decide +kernel
theorem dX10_captain_142 : decode cX10_captain 142 = .ok (.iload_n 2, 1) := by decide +kernel
theorem dX10_captain_143 : decode cX10_captain 143 = .ok (.iconst 3, 1) := by decide +kernel
theorem dX10_captain_144 : decode cX10_captain 144 = .ok (.if_icmp .ne 7, 3) := by decide +kernel
theorem dX10_captain_147 : decode cX10_captain 147 = .ok (.iload_n 3, 1) := by decide +kernel
theorem dX10_captain_148 : decode cX10_captain 148 = .ok (.goto 5, 3) := by decide +kernel
theorem dX10_captain_151 : decode cX10_captain 151 = .ok (.iload 4, 2) := by decide +kernel
theorem dX10_captain_153 : decode cX10_captain 153 = .ok (.ireturn, 1) := by decide +kernel
theorem dX10_ship_0 : decode cX10_ship 0 = .ok (.aload_n 0, 1) := by decide +kernel
theorem dX10_ship_1 : decode cX10_ship 1 = .ok (.iload_n 1, 1) := by decide +kernel
theorem dX10_ship_2 : decode cX10_ship 2 = .ok (.invokevirtual 113, 3) := by decide +kernel
theorem dX10_ship_5 : decode cX10_ship 5 = .ok (.ifCond .eq 15, 3) := by decide +kernel
theorem dX10_ship_8 : decode cX10_ship 8 = .ok (.iload_n 2, 1) := by decide +kernel
theorem dX10_ship_9 : decode cX10_ship 9 = .ok (.i2l, 1) := by decide +kernel
theorem dX10_ship_10 : decode cX10_ship 10 = .ok (.lconst 0, 1) := by decide +kernel
theorem dX10_ship_11 : decode cX10_ship 11 = .ok (.ldc2_w 224, 3) := by decide +kernel
theorem dX10_ship_14 : decode cX10_ship 14 = .ok (.invokestatic 42, 3) := by decide +kernel
theorem dX10_ship_17 : decode cX10_ship 17 = .ok (.ifCond .ne 5, 3) := by decide +kernel
theorem dX10_ship_20 : decode cX10_ship 20 = .ok (.iconst (-1), 1) := by decide +kernel
theorem dX10_ship_21 : decode cX10_ship 21 = .ok (.ireturn, 1) := by decide +kernel
theorem dX10_ship_22 : decode cX10_ship 22 = .ok (.iload_n 2, 1) := by decide +kernel
theorem dX10_ship_23 : decode cX10_ship 23 = .ok (.tableswitch 106 1 9 #[49, 106, 106, 106, 106, 106, 49, 70, 76], 49) := by decide +kernel
theorem dX10_ship_72 : decode cX10_ship 72 = .ok (.aload_n 0, 1) := by decide +kernel
theorem dX10_ship_73 : decode cX10_ship 73 = .ok (.iload_n 1, 1) := by decide +kernel
theorem dX10_ship_74 : decode cX10_ship 74 = .ok (.iload_n 2, 1) := by decide +kernel
theorem dX10_ship_75 : decode cX10_ship 75 = .ok (.invokevirtual 52, 3) := by decide +kernel
theorem dX10_ship_78 : decode cX10_ship 78 = .ok (.ifCond .ge 8, 3) := by decide +kernel
theorem dX10_ship_81 : decode cX10_ship 81 = .ok (.bipush (-9), 2) := by decide +kernel
theorem dX10_ship_83 : decode cX10_ship 83 = .ok (.goto 9, 3) := by decide +kernel
theorem dX10_ship_86 : decode cX10_ship 86 = .ok (.aload_n 0, 1) := by decide +kernel
theorem dX10_ship_87 : decode cX10_ship 87 = .ok (.iload_n 1, 1) := by decide +kernel
theorem dX10_ship_88 : decode cX10_ship 88 = .ok (.iload_n 2, 1) := by decide +kernel
theorem dX10_ship_89 : decode cX10_ship 89 = .ok (.invokevirtual 52, 3) := by decide +kernel
theorem dX10_ship_92 : decode cX10_ship 92 = .ok (.ireturn, 1) := by decide +kernel
theorem dX10_ship_93 : decode cX10_ship 93 = .ok (.aload_n 0, 1) := by decide +kernel
theorem dX10_ship_94 : decode cX10_ship 94 = .ok (.iload_n 1, 1) := by decide +kernel
theorem dX10_ship_95 : decode cX10_ship 95 = .ok (.invokevirtual 116, 3) := by decide +kernel
theorem dX10_ship_98 : decode cX10_ship 98 = .ok (.ireturn, 1) := by decide +kernel
theorem dX10_ship_99 : decode cX10_ship 99 = .ok (.aload_n 0, 1) := by decide +kernel
theorem dX10_ship_100 : decode cX10_ship 100 = .ok (.iload_n 1, 1) := by decide +kernel
theorem dX10_ship_101 : decode cX10_ship 101 = .ok (.iconst 0, 1) := by decide +kernel
theorem dX10_ship_102 : decode cX10_ship 102 = .ok (.invokevirtual 135, 3) := by decide +kernel
theorem dX10_ship_105 : decode cX10_ship 105 = .ok (.ifCond .eq 7, 3) := by decide +kernel
theorem dX10_ship_108 : decode cX10_ship 108 = .ok (.iconst 0, 1) := by decide +kernel
theorem dX10_ship_109 : decode cX10_ship 109 = .ok (.goto 4, 3) := by decide +kernel
theorem dX10_ship_112 : decode cX10_ship 112 = .ok (.iconst 1, 1) := by decide +kernel
theorem dX10_ship_113 : decode cX10_ship 113 = .ok (.aload_n 0, 1) := by decide +kernel
theorem dX10_ship_114 : decode cX10_ship 114 = .ok (.iload_n 1, 1) := by decide +kernel
theorem dX10_ship_115 : decode cX10_ship 115 = .ok (.iconst 1, 1) := by decide +kernel
theorem dX10_ship_116 : decode cX10_ship 116 = .ok (.invokevirtual 135, 3) := by decide +kernel
theorem dX10_ship_119 : decode cX10_ship 119 = .ok (.ifCond .eq 7, 3) := by decide +kernel
theorem dX10_ship_122 : decode cX10_ship 122 = .ok (.iconst 0, 1) := by decide +kernel
theorem dX10_ship_123 : decode cX10_ship 123 = .ok (.goto 4, 3) := by decide +kernel
theorem dX10_ship_126 : decode cX10_ship 126 = .ok (.iconst 2, 1) := by decide +kernel
theorem dX10_ship_127 : decode cX10_ship 127 = .ok (.iadd, 1) := by decide +kernel
theorem dX10_ship_128 : decode cX10_ship 128 = .ok (.ireturn, 1) := by decide +kernel
theorem dX10_ship_129 : decode cX10_ship 129 = .ok (.aload_n 0, 1) := by decide +kernel
theorem dX10_ship_130 : decode cX10_ship 130 = .ok (.iload_n 1, 1) := by decide +kernel
theorem dX10_ship_131 : decode cX10_ship 131 = .ok (.iload_n 2, 1) := by decide +kernel
theorem dX10_ship_132 : decode cX10_ship 132 = .ok (.invokevirtual 52, 3) := by decide +kernel
theorem dX10_ship_135 : decode cX10_ship 135 = .ok (.ireturn, 1) := by decide +kernel
theorem dX10_on_0 : decode cX10_on 0 = .ok (.iload_n 1, 1) := by decide +kernel
theorem dX10_on_1 : decode cX10_on 1 = .ok (.invokestatic 59, 3) := by decide +kernel
theorem dX10_on_4 : decode cX10_on 4 = .ok (.ifCond .ne 5, 3) := by decide +kernel
theorem dX10_on_7 : decode cX10_on 7 = .ok (.iconst (-1), 1) := by decide +kernel
theorem dX10_on_8 : decode cX10_on 8 = .ok (.ireturn, 1) := by decide +kernel
theorem dX10_on_9 : decode cX10_on 9 = .ok (.aload_n 0, 1) := by decide +kernel
theorem dX10_on_10 : decode cX10_on 10 = .ok (.getfield 7, 3) := by decide +kernel
theorem dX10_on_13 : decode cX10_on 13 = .ok (.bipush 12, 2) := by decide +kernel
theorem dX10_on_15 : decode cX10_on 15 = .ok (.iload_n 1, 1) := by decide +kernel
theorem dX10_on_16 : decode cX10_on 16 = .ok (.iadd, 1) := by decide +kernel
theorem dX10_on_17 : decode cX10_on 17 = .ok (.iaload, 1) := by decide +kernel
theorem dX10_on_18 : decode cX10_on 18 = .ok (.iconst 1, 1) := by decide +kernel
theorem dX10_on_19 : decode cX10_on 19 = .ok (.if_icmp .ne 8, 3) := by decide +kernel
theorem dX10_on_22 : decode cX10_on 22 = .ok (.bipush 8, 2) := by decide +kernel
theorem dX10_on_24 : decode cX10_on 24 = .ok (.goto 21, 3) := by decide +kernel
theorem dX10_on_27 : decode cX10_on 27 = .ok (.aload_n 0, 1) := by decide +kernel
theorem dX10_on_28 : decode cX10_on 28 = .ok (.iload_n 1, 1) := by decide +kernel
theorem dX10_on_29 : decode cX10_on 29 = .ok (.invokevirtual 55, 3) := by decide +kernel
theorem dX10_on_32 : decode cX10_on 32 = .ok (.ifCond .ge 8, 3) := by decide +kernel
theorem dX10_on_35 : decode cX10_on 35 = .ok (.bipush (-9), 2) := by decide +kernel
theorem dX10_on_37 : decode cX10_on 37 = .ok (.goto 8, 3) := by decide +kernel
theorem dX10_on_40 : decode cX10_on 40 = .ok (.aload_n 0, 1) := by decide +kernel
theorem dX10_on_41 : decode cX10_on 41 = .ok (.iload_n 1, 1) := by decide +kernel
theorem dX10_on_42 : decode cX10_on 42 = .ok (.invokevirtual 55, 3) := by decide +kernel
theorem dX10_on_45 : decode cX10_on 45 = .ok (.ireturn, 1) := by decide +kernel
theorem dX10_targets_0 : decode cX10_targets 0 = .ok (.aload_n 0, 1) := by decide +kernel
theorem dX10_targets_1 : decode cX10_targets 1 = .ok (.iload_n 1, 1) := by decide +kernel
theorem dX10_targets_2 : decode cX10_targets 2 = .ok (.invokevirtual 113, 3) := by decide +kernel
theorem dX10_targets_5 : decode cX10_targets 5 = .ok (.ifCond .eq 13, 3) := by decide +kernel
theorem dX10_targets_8 : decode cX10_targets 8 = .ok (.iload_n 2, 1) := by decide +kernel
theorem dX10_targets_9 : decode cX10_targets 9 = .ok (.i2l, 1) := by decide +kernel
theorem dX10_targets_10 : decode cX10_targets 10 = .ok (.lconst 0, 1) := by decide +kernel
theorem dX10_targets_11 : decode cX10_targets 11 = .ok (.lconst 1, 1) := by decide +kernel
theorem dX10_targets_12 : decode cX10_targets 12 = .ok (.invokestatic 42, 3) := by decide +kernel
theorem dX10_targets_15 : decode cX10_targets 15 = .ok (.ifCond .ne 5, 3) := by decide +kernel
theorem dX10_targets_18 : decode cX10_targets 18 = .ok (.iconst (-1), 1) := by decide +kernel
theorem dX10_targets_19 : decode cX10_targets 19 = .ok (.ireturn, 1) := by decide +kernel
theorem dX10_targets_20 : decode cX10_targets 20 = .ok (.iconst 0, 1) := by decide +kernel
theorem dX10_targets_21 : decode cX10_targets 21 = .ok (.istore_n 3, 1) := by decide +kernel
theorem dX10_targets_22 : decode cX10_targets 22 = .ok (.iconst 0, 1) := by decide +kernel
theorem dX10_targets_23 : decode cX10_targets 23 = .ok (.istore 4, 2) := by decide +kernel
theorem dX10_targets_25 : decode cX10_targets 25 = .ok (.iload 4, 2) := by decide +kernel
theorem dX10_targets_27 : decode cX10_targets 27 = .ok (.aload_n 0, 1) := by decide +kernel
theorem dX10_targets_28 : decode cX10_targets 28 = .ok (.getfield 7, 3) := by decide +kernel
theorem dX10_targets_31 : decode cX10_targets 31 = .ok (.bipush 10, 2) := by decide +kernel
theorem dX10_targets_33 : decode cX10_targets 33 = .ok (.iaload, 1) := by decide +kernel
theorem dX10_targets_34 : decode cX10_targets 34 = .ok (.if_icmp .ge 37, 3) := by decide +kernel
theorem dX10_targets_37 : decode cX10_targets 37 = .ok (.iload_n 3, 1) := by decide +kernel
theorem dX10_targets_38 : decode cX10_targets 38 = .ok (.iload 4, 2) := by decide +kernel
theorem dX10_targets_40 : decode cX10_targets 40 = .ok (.iload_n 1, 1) := by decide +kernel
theorem dX10_targets_41 : decode cX10_targets 41 = .ok (.if_icmp .eq 21, 3) := by decide +kernel
theorem dX10_targets_44 : decode cX10_targets 44 = .ok (.aload_n 0, 1) := by decide +kernel
theorem dX10_targets_45 : decode cX10_targets 45 = .ok (.iload_n 1, 1) := by decide +kernel
theorem dX10_targets_46 : decode cX10_targets 46 = .ok (.iload_n 2, 1) := by decide +kernel
theorem dX10_targets_47 : decode cX10_targets 47 = .ok (.iload 4, 2) := by decide +kernel
theorem dX10_targets_49 : decode cX10_targets 49 = .ok (.invokevirtual 132, 3) := by decide +kernel
theorem dX10_targets_52 : decode cX10_targets 52 = .ok (.ifCond .le 10, 3) := by decide +kernel
theorem dX10_targets_55 : decode cX10_targets 55 = .ok (.iconst 1, 1) := by decide +kernel
theorem dX10_targets_56 : decode cX10_targets 56 = .ok (.iload 4, 2) := by decide +kernel
theorem dX10_targets_58 : decode cX10_targets 58 = .ok (.ishl, 1) := by decide +kernel
theorem dX10_targets_59 : decode cX10_targets 59 = .ok (.goto 4, 3) := by decide +kernel
theorem dX10_targets_62 : decode cX10_targets 62 = .ok (.iconst 0, 1) := by decide +kernel
theorem dX10_targets_63 : decode cX10_targets 63 = .ok (.ior, 1) := by decide +kernel
theorem dX10_targets_64 : decode cX10_targets 64 = .ok (.istore_n 3, 1) := by decide +kernel
theorem dX10_targets_65 : decode cX10_targets 65 = .ok (.iinc 4 1, 3) := by decide +kernel
theorem dX10_targets_68 : decode cX10_targets 68 = .ok (.goto (-43), 3) := by decide +kernel
theorem dX10_targets_71 : decode cX10_targets 71 = .ok (.iload_n 3, 1) := by decide +kernel
theorem dX10_targets_72 : decode cX10_targets 72 = .ok (.ireturn, 1) := by decide +kernel
theorem dX10_hits_0 : decode cX10_hits 0 = .ok (.aload_n 0, 1) := by decide +kernel
theorem dX10_hits_1 : decode cX10_hits 1 = .ok (.iload_n 1, 1) := by decide +kernel
theorem dX10_hits_2 : decode cX10_hits 2 = .ok (.iload_n 3, 1) := by decide +kernel
theorem dX10_hits_3 : decode cX10_hits 3 = .ok (.invokevirtual 129, 3) := by decide +kernel
theorem dX10_hits_6 : decode cX10_hits 6 = .ok (.ifCond .eq 13, 3) := by decide +kernel
theorem dX10_hits_9 : decode cX10_hits 9 = .ok (.iload_n 2, 1) := by decide +kernel
theorem dX10_hits_10 : decode cX10_hits 10 = .ok (.i2l, 1) := by decide +kernel
theorem dX10_hits_11 : decode cX10_hits 11 = .ok (.lconst 0, 1) := by decide +kernel
theorem dX10_hits_12 : decode cX10_hits 12 = .ok (.lconst 1, 1) := by decide +kernel
theorem dX10_hits_13 : decode cX10_hits 13 = .ok (.invokestatic 42, 3) := by decide +kernel
theorem dX10_hits_16 : decode cX10_hits 16 = .ok (.ifCond .ne 5, 3) := by decide +kernel
theorem dX10_hits_19 : decode cX10_hits 19 = .ok (.iconst (-1), 1) := by decide +kernel
theorem dX10_hits_20 : decode cX10_hits 20 = .ok (.ireturn, 1) := by decide +kernel
theorem dX10_hits_21 : decode cX10_hits 21 = .ok (.aload_n 0, 1) := by decide +kernel
theorem dX10_hits_22 : decode cX10_hits 22 = .ok (.iload_n 1, 1) := by decide +kernel
theorem dX10_hits_23 : decode cX10_hits 23 = .ok (.iload_n 2, 1) := by decide +kernel
theorem dX10_hits_24 : decode cX10_hits 24 = .ok (.iload_n 3, 1) := by decide +kernel
theorem dX10_hits_25 : decode cX10_hits 25 = .ok (.invokevirtual 132, 3) := by decide +kernel
theorem dX10_hits_28 : decode cX10_hits 28 = .ok (.istore 4, 2) := by decide +kernel
theorem dX10_hits_30 : decode cX10_hits 30 = .ok (.iload 4, 2) := by decide +kernel
theorem dX10_hits_32 : decode cX10_hits 32 = .ok (.ifCond .ne 8, 3) := by decide +kernel
theorem dX10_hits_35 : decode cX10_hits 35 = .ok (.bipush (-9), 2) := by decide +kernel
theorem dX10_hits_37 : decode cX10_hits 37 = .ok (.goto 10, 3) := by decide +kernel
theorem dX10_hits_40 : decode cX10_hits 40 = .ok (.aload_n 0, 1) := by decide +kernel
theorem dX10_hits_41 : decode cX10_hits 41 = .ok (.iload_n 1, 1) := by decide +kernel
theorem dX10_hits_42 : decode cX10_hits 42 = .ok (.iload 4, 2) := by decide +kernel
theorem dX10_hits_44 : decode cX10_hits 44 = .ok (.invokevirtual 138, 3) := by decide +kernel
theorem dX10_hits_47 : decode cX10_hits 47 = .ok (.ireturn, 1) := by decide +kernel
theorem dX10_pathBehind_0 : decode cX10_pathBehind 0 = .ok (.iload_n 0, 1) := by decide +kernel
theorem dX10_pathBehind_1 : decode cX10_pathBehind 1 = .ok (.istore_n 1, 1) := by decide +kernel
theorem dX10_pathBehind_2 : decode cX10_pathBehind 2 = .ok (.iconst 1, 1) := by decide +kernel
theorem dX10_pathBehind_3 : decode cX10_pathBehind 3 = .ok (.istore_n 2, 1) := by decide +kernel
theorem dX10_pathBehind_4 : decode cX10_pathBehind 4 = .ok (.iconst 0, 1) := by decide +kernel
theorem dX10_pathBehind_5 : decode cX10_pathBehind 5 = .ok (.istore_n 3, 1) := by decide +kernel
theorem dX10_pathBehind_6 : decode cX10_pathBehind 6 = .ok (.iload_n 1, 1) := by decide +kernel
theorem dX10_pathBehind_7 : decode cX10_pathBehind 7 = .ok (.bipush 10, 2) := by decide +kernel
theorem dX10_pathBehind_9 : decode cX10_pathBehind 9 = .ok (.irem, 1) := by decide +kernel
theorem dX10_pathBehind_10 : decode cX10_pathBehind 10 = .ok (.iconst 3, 1) := by decide +kernel
theorem dX10_pathBehind_11 : decode cX10_pathBehind 11 = .ok (.if_icmp .ne 20, 3) := by decide +kernel
theorem dX10_pathBehind_14 : decode cX10_pathBehind 14 = .ok (.iload_n 1, 1) := by decide +kernel
theorem dX10_pathBehind_15 : decode cX10_pathBehind 15 = .ok (.bipush 10, 2) := by decide +kernel
theorem dX10_pathBehind_17 : decode cX10_pathBehind 17 = .ok (.idiv, 1) := by decide +kernel
theorem dX10_pathBehind_18 : decode cX10_pathBehind 18 = .ok (.istore_n 1, 1) := by decide +kernel
theorem dX10_pathBehind_19 : decode cX10_pathBehind 19 = .ok (.iload_n 3, 1) := by decide +kernel
theorem dX10_pathBehind_20 : decode cX10_pathBehind 20 = .ok (.iload_n 2, 1) := by decide +kernel
theorem dX10_pathBehind_21 : decode cX10_pathBehind 21 = .ok (.iadd, 1) := by decide +kernel
theorem dX10_pathBehind_22 : decode cX10_pathBehind 22 = .ok (.istore_n 3, 1) := by decide +kernel
theorem dX10_pathBehind_23 : decode cX10_pathBehind 23 = .ok (.iload_n 2, 1) := by decide +kernel
theorem dX10_pathBehind_24 : decode cX10_pathBehind 24 = .ok (.bipush 10, 2) := by decide +kernel
theorem dX10_pathBehind_26 : decode cX10_pathBehind 26 = .ok (.imul, 1) := by decide +kernel
theorem dX10_pathBehind_27 : decode cX10_pathBehind 27 = .ok (.istore_n 2, 1) := by decide +kernel
theorem dX10_pathBehind_28 : decode cX10_pathBehind 28 = .ok (.goto (-22), 3) := by decide +kernel
theorem dX10_pathBehind_31 : decode cX10_pathBehind 31 = .ok (.iload_n 1, 1) := by decide +kernel
theorem dX10_pathBehind_32 : decode cX10_pathBehind 32 = .ok (.iconst 1, 1) := by decide +kernel
theorem dX10_pathBehind_33 : decode cX10_pathBehind 33 = .ok (.iadd, 1) := by decide +kernel
theorem dX10_pathBehind_34 : decode cX10_pathBehind 34 = .ok (.iload_n 2, 1) := by decide +kernel
theorem dX10_pathBehind_35 : decode cX10_pathBehind 35 = .ok (.imul, 1) := by decide +kernel
theorem dX10_pathBehind_36 : decode cX10_pathBehind 36 = .ok (.iload_n 3, 1) := by decide +kernel
theorem dX10_pathBehind_37 : decode cX10_pathBehind 37 = .ok (.iadd, 1) := by decide +kernel
theorem dX10_pathBehind_38 : decode cX10_pathBehind 38 = .ok (.ireturn, 1) := by decide +kernel
theorem dX10_pathTo_0 : decode cX10_pathTo 0 = .ok (.aload_n 0, 1) := by decide +kernel
theorem dX10_pathTo_1 : decode cX10_pathTo 1 = .ok (.iload_n 1, 1) := by decide +kernel
theorem dX10_pathTo_2 : decode cX10_pathTo 2 = .ok (.invokevirtual 95, 3) := by decide +kernel
theorem dX10_pathTo_5 : decode cX10_pathTo 5 = .ok (.ifCond .eq 13, 3) := by decide +kernel
theorem dX10_pathTo_8 : decode cX10_pathTo 8 = .ok (.aload_n 0, 1) := by decide +kernel
theorem dX10_pathTo_9 : decode cX10_pathTo 9 = .ok (.iload_n 1, 1) := by decide +kernel
theorem dX10_pathTo_10 : decode cX10_pathTo 10 = .ok (.iconst 1, 1) := by decide +kernel
theorem dX10_pathTo_11 : decode cX10_pathTo 11 = .ok (.invokevirtual 52, 3) := by decide +kernel
theorem dX10_pathTo_14 : decode cX10_pathTo 14 = .ok (.iload_n 2, 1) := by decide +kernel
theorem dX10_pathTo_15 : decode cX10_pathTo 15 = .ok (.if_icmp .ne 5, 3) := by decide +kernel
theorem dX10_pathTo_18 : decode cX10_pathTo 18 = .ok (.iconst 0, 1) := by decide +kernel
theorem dX10_pathTo_19 : decode cX10_pathTo 19 = .ok (.ireturn, 1) := by decide +kernel
theorem dX10_pathTo_20 : decode cX10_pathTo 20 = .ok (.iconst 1, 1) := by decide +kernel
theorem dX10_pathTo_21 : decode cX10_pathTo 21 = .ok (.istore 4, 2) := by decide +kernel
theorem dX10_pathTo_23 : decode cX10_pathTo 23 = .ok (.iload 4, 2) := by decide +kernel
theorem dX10_pathTo_25 : decode cX10_pathTo 25 = .ok (.invokestatic 110, 3) := by decide +kernel
theorem dX10_pathTo_28 : decode cX10_pathTo 28 = .ok (.ifCond .le 48, 3) := by decide +kernel
theorem dX10_pathTo_31 : decode cX10_pathTo 31 = .ok (.iload 4, 2) := by decide +kernel
theorem dX10_pathTo_33 : decode cX10_pathTo 33 = .ok (.invokestatic 110, 3) := by decide +kernel
theorem dX10_pathTo_36 : decode cX10_pathTo 36 = .ok (.iload_n 3, 1) := by decide +kernel
theorem dX10_pathTo_37 : decode cX10_pathTo 37 = .ok (.if_icmp .gt 39, 3) := by decide +kernel
theorem dX10_pathTo_40 : decode cX10_pathTo 40 = .ok (.aload_n 0, 1) := by decide +kernel
theorem dX10_pathTo_41 : decode cX10_pathTo 41 = .ok (.iload_n 1, 1) := by decide +kernel
theorem dX10_pathTo_42 : decode cX10_pathTo 42 = .ok (.iload 4, 2) := by decide +kernel
theorem dX10_pathTo_44 : decode cX10_pathTo 44 = .ok (.iload 4, 2) := by decide +kernel
theorem dX10_pathTo_46 : decode cX10_pathTo 46 = .ok (.invokestatic 110, 3) := by decide +kernel
theorem dX10_pathTo_49 : decode cX10_pathTo 49 = .ok (.invokevirtual 119, 3) := by decide +kernel
theorem dX10_pathTo_52 : decode cX10_pathTo 52 = .ok (.ifCond .eq 14, 3) := by decide +kernel
theorem dX10_pathTo_55 : decode cX10_pathTo 55 = .ok (.aload_n 0, 1) := by decide +kernel
theorem dX10_pathTo_56 : decode cX10_pathTo 56 = .ok (.getfield 104, 3) := by decide +kernel
theorem dX10_pathTo_59 : decode cX10_pathTo 59 = .ok (.iload_n 2, 1) := by decide +kernel
theorem dX10_pathTo_60 : decode cX10_pathTo 60 = .ok (.if_icmp .ne 6, 3) := by decide +kernel
theorem dX10_pathTo_63 : decode cX10_pathTo 63 = .ok (.iload 4, 2) := by decide +kernel
theorem dX10_pathTo_65 : decode cX10_pathTo 65 = .ok (.ireturn, 1) := by decide +kernel
theorem dX10_pathTo_66 : decode cX10_pathTo 66 = .ok (.iload 4, 2) := by decide +kernel
theorem dX10_pathTo_68 : decode cX10_pathTo 68 = .ok (.invokestatic 226, 3) := by decide +kernel
theorem dX10_pathTo_71 : decode cX10_pathTo 71 = .ok (.istore 4, 2) := by decide +kernel
theorem dX10_pathTo_73 : decode cX10_pathTo 73 = .ok (.goto (-50), 3) := by decide +kernel
theorem dX10_pathTo_76 : decode cX10_pathTo 76 = .ok (.iconst 0, 1) := by decide +kernel
theorem dX10_pathTo_77 : decode cX10_pathTo 77 = .ok (.ireturn, 1) := by decide +kernel
theorem dX10_way_0 : decode cX10_way 0 = .ok (.aload_n 0, 1) := by decide +kernel
theorem dX10_way_1 : decode cX10_way 1 = .ok (.iload_n 1, 1) := by decide +kernel
theorem dX10_way_2 : decode cX10_way 2 = .ok (.invokevirtual 113, 3) := by decide +kernel
theorem dX10_way_5 : decode cX10_way 5 = .ok (.ifCond .eq 22, 3) := by decide +kernel
theorem dX10_way_8 : decode cX10_way 8 = .ok (.iload_n 2, 1) := by decide +kernel
theorem dX10_way_9 : decode cX10_way 9 = .ok (.invokestatic 59, 3) := by decide +kernel
theorem dX10_way_12 : decode cX10_way 12 = .ok (.ifCond .eq 15, 3) := by decide +kernel
theorem dX10_way_15 : decode cX10_way 15 = .ok (.iload_n 3, 1) := by decide +kernel
theorem dX10_way_16 : decode cX10_way 16 = .ok (.i2l, 1) := by decide +kernel
theorem dX10_way_17 : decode cX10_way 17 = .ok (.lconst 0, 1) := by decide +kernel
theorem dX10_way_18 : decode cX10_way 18 = .ok (.ldc2_w 151, 3) := by decide +kernel
theorem dX10_way_21 : decode cX10_way 21 = .ok (.invokestatic 42, 3) := by decide +kernel
theorem dX10_way_24 : decode cX10_way 24 = .ok (.ifCond .ne 5, 3) := by decide +kernel
theorem dX10_way_27 : decode cX10_way 27 = .ok (.iconst (-1), 1) := by decide +kernel
theorem dX10_way_28 : decode cX10_way 28 = .ok (.ireturn, 1) := by decide +kernel
theorem dX10_way_29 : decode cX10_way 29 = .ok (.aload_n 0, 1) := by decide +kernel
theorem dX10_way_30 : decode cX10_way 30 = .ok (.iload_n 1, 1) := by decide +kernel
theorem dX10_way_31 : decode cX10_way 31 = .ok (.iload_n 2, 1) := by decide +kernel
theorem dX10_way_32 : decode cX10_way 32 = .ok (.aload_n 0, 1) := by decide +kernel
theorem dX10_way_33 : decode cX10_way 33 = .ok (.iload_n 1, 1) := by decide +kernel
theorem dX10_way_34 : decode cX10_way 34 = .ok (.invokevirtual 116, 3) := by decide +kernel
theorem dX10_way_37 : decode cX10_way 37 = .ok (.invokevirtual 229, 3) := by decide +kernel
theorem dX10_way_40 : decode cX10_way 40 = .ok (.istore 4, 2) := by decide +kernel
theorem dX10_way_42 : decode cX10_way 42 = .ok (.iload 4, 2) := by decide +kernel
theorem dX10_way_44 : decode cX10_way 44 = .ok (.ifCond .ne 6, 3) := by decide +kernel
theorem dX10_way_47 : decode cX10_way 47 = .ok (.bipush (-9), 2) := by decide +kernel
theorem dX10_way_49 : decode cX10_way 49 = .ok (.ireturn, 1) := by decide +kernel
theorem dX10_way_50 : decode cX10_way 50 = .ok (.iload_n 3, 1) := by decide +kernel
theorem dX10_way_51 : decode cX10_way 51 = .ok (.ifCond .ne 8, 3) := by decide +kernel
theorem dX10_way_54 : decode cX10_way 54 = .ok (.iload 4, 2) := by decide +kernel
theorem dX10_way_56 : decode cX10_way 56 = .ok (.goto 20, 3) := by decide +kernel
theorem dX10_way_59 : decode cX10_way 59 = .ok (.iload_n 3, 1) := by decide +kernel
theorem dX10_way_60 : decode cX10_way 60 = .ok (.iconst 1, 1) := by decide +kernel
theorem dX10_way_61 : decode cX10_way 61 = .ok (.if_icmp .ne 11, 3) := by decide +kernel
theorem dX10_way_64 : decode cX10_way 64 = .ok (.iload 4, 2) := by decide +kernel
theorem dX10_way_66 : decode cX10_way 66 = .ok (.invokestatic 110, 3) := by decide +kernel
theorem dX10_way_69 : decode cX10_way 69 = .ok (.goto 7, 3) := by decide +kernel
theorem dX10_way_72 : decode cX10_way 72 = .ok (.aload_n 0, 1) := by decide +kernel
theorem dX10_way_73 : decode cX10_way 73 = .ok (.getfield 107, 3) := by decide +kernel
theorem dX10_way_76 : decode cX10_way 76 = .ok (.ireturn, 1) := by decide +kernel
theorem dX10_reach_0 : decode cX10_reach 0 = .ok (.aload_n 0, 1) := by decide +kernel
theorem dX10_reach_1 : decode cX10_reach 1 = .ok (.iload_n 1, 1) := by decide +kernel
theorem dX10_reach_2 : decode cX10_reach 2 = .ok (.invokevirtual 113, 3) := by decide +kernel
theorem dX10_reach_5 : decode cX10_reach 5 = .ok (.ifCond .ne 5, 3) := by decide +kernel
theorem dX10_reach_8 : decode cX10_reach 8 = .ok (.iconst (-1), 1) := by decide +kernel
theorem dX10_reach_9 : decode cX10_reach 9 = .ok (.ireturn, 1) := by decide +kernel
theorem dX10_reach_10 : decode cX10_reach 10 = .ok (.iconst 0, 1) := by decide +kernel
theorem dX10_reach_11 : decode cX10_reach 11 = .ok (.istore_n 2, 1) := by decide +kernel
theorem dX10_reach_12 : decode cX10_reach 12 = .ok (.iload_n 2, 1) := by decide +kernel
theorem dX10_reach_13 : decode cX10_reach 13 = .ok (.bipush 81, 2) := by decide +kernel
theorem dX10_reach_15 : decode cX10_reach 15 = .ok (.if_icmp .ge 16, 3) := by decide +kernel
theorem dX10_reach_18 : decode cX10_reach 18 = .ok (.aload_n 0, 1) := by decide +kernel
theorem dX10_reach_19 : decode cX10_reach 19 = .ok (.getfield 25, 3) := by decide +kernel
theorem dX10_reach_22 : decode cX10_reach 22 = .ok (.iload_n 2, 1) := by decide +kernel
theorem dX10_reach_23 : decode cX10_reach 23 = .ok (.iconst 0, 1) := by decide +kernel
theorem dX10_reach_24 : decode cX10_reach 24 = .ok (.bastore, 1) := by decide +kernel
theorem dX10_reach_25 : decode cX10_reach 25 = .ok (.iinc 2 1, 3) := by decide +kernel
theorem dX10_reach_28 : decode cX10_reach 28 = .ok (.goto (-16), 3) := by decide +kernel
theorem dX10_reach_31 : decode cX10_reach 31 = .ok (.aload_n 0, 1) := by decide +kernel
theorem dX10_reach_32 : decode cX10_reach 32 = .ok (.iload_n 1, 1) := by decide +kernel
theorem dX10_reach_33 : decode cX10_reach 33 = .ok (.invokevirtual 116, 3) := by decide +kernel
theorem dX10_reach_36 : decode cX10_reach 36 = .ok (.istore_n 2, 1) := by decide +kernel
theorem dX10_reach_37 : decode cX10_reach 37 = .ok (.iconst 1, 1) := by decide +kernel
theorem dX10_reach_38 : decode cX10_reach 38 = .ok (.istore_n 3, 1) := by decide +kernel
theorem dX10_reach_39 : decode cX10_reach 39 = .ok (.iload_n 3, 1) := by decide +kernel
theorem dX10_reach_40 : decode cX10_reach 40 = .ok (.invokestatic 110, 3) := by decide +kernel
theorem dX10_reach_43 : decode cX10_reach 43 = .ok (.ifCond .le 42, 3) := by decide +kernel
theorem dX10_reach_46 : decode cX10_reach 46 = .ok (.iload_n 3, 1) := by decide +kernel
theorem dX10_reach_47 : decode cX10_reach 47 = .ok (.invokestatic 110, 3) := by decide +kernel
theorem dX10_reach_50 : decode cX10_reach 50 = .ok (.iload_n 2, 1) := by decide +kernel
theorem dX10_reach_51 : decode cX10_reach 51 = .ok (.if_icmp .gt 34, 3) := by decide +kernel
theorem dX10_reach_54 : decode cX10_reach 54 = .ok (.aload_n 0, 1) := by decide +kernel
theorem dX10_reach_55 : decode cX10_reach 55 = .ok (.iload_n 1, 1) := by decide +kernel
theorem dX10_reach_56 : decode cX10_reach 56 = .ok (.iload_n 3, 1) := by decide +kernel
theorem dX10_reach_57 : decode cX10_reach 57 = .ok (.iload_n 3, 1) := by decide +kernel
theorem dX10_reach_58 : decode cX10_reach 58 = .ok (.invokestatic 110, 3) := by decide +kernel
theorem dX10_reach_61 : decode cX10_reach 61 = .ok (.invokevirtual 119, 3) := by decide +kernel
theorem dX10_reach_64 : decode cX10_reach 64 = .ok (.ifCond .eq 13, 3) := by decide +kernel
theorem dX10_reach_67 : decode cX10_reach 67 = .ok (.aload_n 0, 1) := by decide +kernel
theorem dX10_reach_68 : decode cX10_reach 68 = .ok (.getfield 25, 3) := by decide +kernel
theorem dX10_reach_71 : decode cX10_reach 71 = .ok (.aload_n 0, 1) := by decide +kernel
theorem dX10_reach_72 : decode cX10_reach 72 = .ok (.getfield 104, 3) := by decide +kernel
theorem dX10_reach_75 : decode cX10_reach 75 = .ok (.iconst 1, 1) := by decide +kernel
theorem dX10_reach_76 : decode cX10_reach 76 = .ok (.bastore, 1) := by decide +kernel
theorem dX10_reach_77 : decode cX10_reach 77 = .ok (.iload_n 3, 1) := by decide +kernel
theorem dX10_reach_78 : decode cX10_reach 78 = .ok (.invokestatic 226, 3) := by decide +kernel
theorem dX10_reach_81 : decode cX10_reach 81 = .ok (.istore_n 3, 1) := by decide +kernel
theorem dX10_reach_82 : decode cX10_reach 82 = .ok (.goto (-43), 3) := by decide +kernel
theorem dX10_reach_85 : decode cX10_reach 85 = .ok (.iconst 0, 1) := by decide +kernel
theorem dX10_reach_86 : decode cX10_reach 86 = .ok (.istore_n 3, 1) := by decide +kernel
theorem dX10_reach_87 : decode cX10_reach 87 = .ok (.iconst 0, 1) := by decide +kernel
theorem dX10_reach_88 : decode cX10_reach 88 = .ok (.istore 4, 2) := by decide +kernel
theorem dX10_reach_90 : decode cX10_reach 90 = .ok (.iload 4, 2) := by decide +kernel
theorem dX10_reach_92 : decode cX10_reach 92 = .ok (.bipush 81, 2) := by decide +kernel
theorem dX10_reach_94 : decode cX10_reach 94 = .ok (.if_icmp .ge 38, 3) := by decide +kernel
theorem dX10_reach_97 : decode cX10_reach 97 = .ok (.iload_n 3, 1) := by decide +kernel
theorem dX10_reach_98 : decode cX10_reach 98 = .ok (.aload_n 0, 1) := by decide +kernel
theorem dX10_reach_99 : decode cX10_reach 99 = .ok (.getfield 25, 3) := by decide +kernel
theorem dX10_reach_102 : decode cX10_reach 102 = .ok (.iload 4, 2) := by decide +kernel
theorem dX10_reach_104 : decode cX10_reach 104 = .ok (.baload, 1) := by decide +kernel
theorem dX10_reach_105 : decode cX10_reach 105 = .ok (.ifCond .eq 18, 3) := by decide +kernel
theorem dX10_reach_108 : decode cX10_reach 108 = .ok (.iload 4, 2) := by decide +kernel
theorem dX10_reach_110 : decode cX10_reach 110 = .ok (.aload_n 0, 1) := by decide +kernel
theorem dX10_reach_111 : decode cX10_reach 111 = .ok (.iload_n 1, 1) := by decide +kernel
theorem dX10_reach_112 : decode cX10_reach 112 = .ok (.iconst 1, 1) := by decide +kernel
theorem dX10_reach_113 : decode cX10_reach 113 = .ok (.invokevirtual 52, 3) := by decide +kernel
theorem dX10_reach_116 : decode cX10_reach 116 = .ok (.if_icmp .eq 7, 3) := by decide +kernel
theorem dX10_reach_119 : decode cX10_reach 119 = .ok (.iconst 1, 1) := by decide +kernel
theorem dX10_reach_120 : decode cX10_reach 120 = .ok (.goto 4, 3) := by decide +kernel
theorem dX10_reach_123 : decode cX10_reach 123 = .ok (.iconst 0, 1) := by decide +kernel
theorem dX10_reach_124 : decode cX10_reach 124 = .ok (.iadd, 1) := by decide +kernel
theorem dX10_reach_125 : decode cX10_reach 125 = .ok (.istore_n 3, 1) := by decide +kernel
theorem dX10_reach_126 : decode cX10_reach 126 = .ok (.iinc 4 1, 3) := by decide +kernel
theorem dX10_reach_129 : decode cX10_reach 129 = .ok (.goto (-39), 3) := by decide +kernel
theorem dX10_reach_132 : decode cX10_reach 132 = .ok (.iload_n 3, 1) := by decide +kernel
theorem dX10_reach_133 : decode cX10_reach 133 = .ok (.ireturn, 1) := by decide +kernel
theorem dX10_windBy_0 : decode cX10_windBy 0 = .ok (.iload_n 1, 1) := by decide +kernel
theorem dX10_windBy_1 : decode cX10_windBy 1 = .ok (.i2l, 1) := by decide +kernel
theorem dX10_windBy_2 : decode cX10_windBy 2 = .ok (.lconst 0, 1) := by decide +kernel
theorem dX10_windBy_3 : decode cX10_windBy 3 = .ok (.ldc2_w 73, 3) := by decide +kernel
theorem dX10_windBy_6 : decode cX10_windBy 6 = .ok (.invokestatic 42, 3) := by decide +kernel
theorem dX10_windBy_9 : decode cX10_windBy 9 = .ok (.ifCond .eq 15, 3) := by decide +kernel
theorem dX10_windBy_12 : decode cX10_windBy 12 = .ok (.iload_n 2, 1) := by decide +kernel
theorem dX10_windBy_13 : decode cX10_windBy 13 = .ok (.i2l, 1) := by decide +kernel
theorem dX10_windBy_14 : decode cX10_windBy 14 = .ok (.lconst 0, 1) := by decide +kernel
theorem dX10_windBy_15 : decode cX10_windBy 15 = .ok (.ldc2_w 73, 3) := by decide +kernel
theorem dX10_windBy_18 : decode cX10_windBy 18 = .ok (.invokestatic 42, 3) := by decide +kernel
theorem dX10_windBy_21 : decode cX10_windBy 21 = .ok (.ifCond .ne 5, 3) := by decide +kernel
theorem dX10_windBy_24 : decode cX10_windBy 24 = .ok (.iconst (-1), 1) := by decide +kernel
theorem dX10_windBy_25 : decode cX10_windBy 25 = .ok (.ireturn, 1) := by decide +kernel
theorem dX10_windBy_26 : decode cX10_windBy 26 = .ok (.bipush 10, 2) := by decide +kernel
theorem dX10_windBy_28 : decode cX10_windBy 28 = .ok (.aload_n 0, 1) := by decide +kernel
theorem dX10_windBy_29 : decode cX10_windBy 29 = .ok (.getfield 7, 3) := by decide +kernel
theorem dX10_windBy_32 : decode cX10_windBy 32 = .ok (.iconst 2, 1) := by decide +kernel
theorem dX10_windBy_33 : decode cX10_windBy 33 = .ok (.iaload, 1) := by decide +kernel
theorem dX10_windBy_34 : decode cX10_windBy 34 = .ok (.iload_n 1, 1) := by decide +kernel
theorem dX10_windBy_35 : decode cX10_windBy 35 = .ok (.iadd, 1) := by decide +kernel
theorem dX10_windBy_36 : decode cX10_windBy 36 = .ok (.iload_n 2, 1) := by decide +kernel
theorem dX10_windBy_37 : decode cX10_windBy 37 = .ok (.iadd, 1) := by decide +kernel
theorem dX10_windBy_38 : decode cX10_windBy 38 = .ok (.bipush 6, 2) := by decide +kernel
theorem dX10_windBy_40 : decode cX10_windBy 40 = .ok (.irem, 1) := by decide +kernel
theorem dX10_windBy_41 : decode cX10_windBy 41 = .ok (.imul, 1) := by decide +kernel
theorem dX10_windBy_42 : decode cX10_windBy 42 = .ok (.iload_n 1, 1) := by decide +kernel
theorem dX10_windBy_43 : decode cX10_windBy 43 = .ok (.iload_n 2, 1) := by decide +kernel
theorem dX10_windBy_44 : decode cX10_windBy 44 = .ok (.iadd, 1) := by decide +kernel
theorem dX10_windBy_45 : decode cX10_windBy 45 = .ok (.iconst 3, 1) := by decide +kernel
theorem dX10_windBy_46 : decode cX10_windBy 46 = .ok (.irem, 1) := by decide +kernel
theorem dX10_windBy_47 : decode cX10_windBy 47 = .ok (.iadd, 1) := by decide +kernel
theorem dX10_windBy_48 : decode cX10_windBy 48 = .ok (.iconst 1, 1) := by decide +kernel
theorem dX10_windBy_49 : decode cX10_windBy 49 = .ok (.iadd, 1) := by decide +kernel
theorem dX10_windBy_50 : decode cX10_windBy 50 = .ok (.ireturn, 1) := by decide +kernel
theorem dX10_cardsFor_0 : decode cX10_cardsFor 0 = .ok (.iconst 0, 1) := by decide +kernel
theorem dX10_cardsFor_1 : decode cX10_cardsFor 1 = .ok (.istore 4, 2) := by decide +kernel
theorem dX10_cardsFor_3 : decode cX10_cardsFor 3 = .ok (.iconst 0, 1) := by decide +kernel
theorem dX10_cardsFor_4 : decode cX10_cardsFor 4 = .ok (.istore 5, 2) := by decide +kernel
theorem dX10_cardsFor_6 : decode cX10_cardsFor 6 = .ok (.iload 5, 2) := by decide +kernel
theorem dX10_cardsFor_8 : decode cX10_cardsFor 8 = .ok (.bipush 6, 2) := by decide +kernel
theorem dX10_cardsFor_10 : decode cX10_cardsFor 10 = .ok (.if_icmp .ge 77, 3) := by decide +kernel
theorem dX10_cardsFor_13 : decode cX10_cardsFor 13 = .ok (.aload_n 0, 1) := by decide +kernel
theorem dX10_cardsFor_14 : decode cX10_cardsFor 14 = .ok (.iload_n 3, 1) := by decide +kernel
theorem dX10_cardsFor_15 : decode cX10_cardsFor 15 = .ok (.iload 5, 2) := by decide +kernel
theorem dX10_cardsFor_17 : decode cX10_cardsFor 17 = .ok (.invokevirtual 232, 3) := by decide +kernel
theorem dX10_cardsFor_20 : decode cX10_cardsFor 20 = .ok (.istore 6, 2) := by decide +kernel
theorem dX10_cardsFor_22 : decode cX10_cardsFor 22 = .ok (.aload_n 0, 1) := by decide +kernel
theorem dX10_cardsFor_23 : decode cX10_cardsFor 23 = .ok (.getfield 7, 3) := by decide +kernel
theorem dX10_cardsFor_26 : decode cX10_cardsFor 26 = .ok (.iconst 5, 1) := by decide +kernel
theorem dX10_cardsFor_27 : decode cX10_cardsFor 27 = .ok (.aload_n 0, 1) := by decide +kernel
theorem dX10_cardsFor_28 : decode cX10_cardsFor 28 = .ok (.iload_n 1, 1) := by decide +kernel
theorem dX10_cardsFor_29 : decode cX10_cardsFor 29 = .ok (.iconst 0, 1) := by decide +kernel
theorem dX10_cardsFor_30 : decode cX10_cardsFor 30 = .ok (.invokevirtual 52, 3) := by decide +kernel
theorem dX10_cardsFor_33 : decode cX10_cardsFor 33 = .ok (.isub, 1) := by decide +kernel
theorem dX10_cardsFor_34 : decode cX10_cardsFor 34 = .ok (.iaload, 1) := by decide +kernel
theorem dX10_cardsFor_35 : decode cX10_cardsFor 35 = .ok (.iload 5, 2) := by decide +kernel
theorem dX10_cardsFor_37 : decode cX10_cardsFor 37 = .ok (.invokestatic 88, 3) := by decide +kernel
theorem dX10_cardsFor_40 : decode cX10_cardsFor 40 = .ok (.istore 7, 2) := by decide +kernel
theorem dX10_cardsFor_42 : decode cX10_cardsFor 42 = .ok (.iload 4, 2) := by decide +kernel
theorem dX10_cardsFor_44 : decode cX10_cardsFor 44 = .ok (.iload 7, 2) := by decide +kernel
theorem dX10_cardsFor_46 : decode cX10_cardsFor 46 = .ok (.ifCond .eq 31, 3) := by decide +kernel
theorem dX10_cardsFor_49 : decode cX10_cardsFor 49 = .ok (.aload_n 0, 1) := by decide +kernel
theorem dX10_cardsFor_50 : decode cX10_cardsFor 50 = .ok (.iload_n 1, 1) := by decide +kernel
theorem dX10_cardsFor_51 : decode cX10_cardsFor 51 = .ok (.iload_n 2, 1) := by decide +kernel
theorem dX10_cardsFor_52 : decode cX10_cardsFor 52 = .ok (.aload_n 0, 1) := by decide +kernel
theorem dX10_cardsFor_53 : decode cX10_cardsFor 53 = .ok (.iload_n 1, 1) := by decide +kernel
theorem dX10_cardsFor_54 : decode cX10_cardsFor 54 = .ok (.iload 6, 2) := by decide +kernel
theorem dX10_cardsFor_56 : decode cX10_cardsFor 56 = .ok (.bipush 10, 2) := by decide +kernel
theorem dX10_cardsFor_58 : decode cX10_cardsFor 58 = .ok (.idiv, 1) := by decide +kernel
theorem dX10_cardsFor_59 : decode cX10_cardsFor 59 = .ok (.iload 6, 2) := by decide +kernel
theorem dX10_cardsFor_61 : decode cX10_cardsFor 61 = .ok (.bipush 10, 2) := by decide +kernel
theorem dX10_cardsFor_63 : decode cX10_cardsFor 63 = .ok (.irem, 1) := by decide +kernel
theorem dX10_cardsFor_64 : decode cX10_cardsFor 64 = .ok (.invokevirtual 98, 3) := by decide +kernel
theorem dX10_cardsFor_67 : decode cX10_cardsFor 67 = .ok (.invokevirtual 229, 3) := by decide +kernel
theorem dX10_cardsFor_70 : decode cX10_cardsFor 70 = .ok (.ifCond .le 7, 3) := by decide +kernel
theorem dX10_cardsFor_73 : decode cX10_cardsFor 73 = .ok (.iconst 1, 1) := by decide +kernel
theorem dX10_cardsFor_74 : decode cX10_cardsFor 74 = .ok (.goto 4, 3) := by decide +kernel
theorem dX10_cardsFor_77 : decode cX10_cardsFor 77 = .ok (.iconst 0, 1) := by decide +kernel
theorem dX10_cardsFor_78 : decode cX10_cardsFor 78 = .ok (.iadd, 1) := by decide +kernel
theorem dX10_cardsFor_79 : decode cX10_cardsFor 79 = .ok (.istore 4, 2) := by decide +kernel
theorem dX10_cardsFor_81 : decode cX10_cardsFor 81 = .ok (.iinc 5 1, 3) := by decide +kernel
theorem dX10_cardsFor_84 : decode cX10_cardsFor 84 = .ok (.goto (-78), 3) := by decide +kernel
theorem dX10_cardsFor_87 : decode cX10_cardsFor 87 = .ok (.iload 4, 2) := by decide +kernel
theorem dX10_cardsFor_89 : decode cX10_cardsFor 89 = .ok (.ireturn, 1) := by decide +kernel
theorem dX10_bestCard_0 : decode cX10_bestCard 0 = .ok (.aload_n 0, 1) := by decide +kernel
theorem dX10_bestCard_1 : decode cX10_bestCard 1 = .ok (.iload_n 1, 1) := by decide +kernel
theorem dX10_bestCard_2 : decode cX10_bestCard 2 = .ok (.invokevirtual 113, 3) := by decide +kernel
theorem dX10_bestCard_5 : decode cX10_bestCard 5 = .ok (.ifCond .eq 20, 3) := by decide +kernel
theorem dX10_bestCard_8 : decode cX10_bestCard 8 = .ok (.iload_n 2, 1) := by decide +kernel
theorem dX10_bestCard_9 : decode cX10_bestCard 9 = .ok (.invokestatic 59, 3) := by decide +kernel
theorem dX10_bestCard_12 : decode cX10_bestCard 12 = .ok (.ifCond .eq 13, 3) := by decide +kernel
theorem dX10_bestCard_15 : decode cX10_bestCard 15 = .ok (.iload_n 3, 1) := by decide +kernel
theorem dX10_bestCard_16 : decode cX10_bestCard 16 = .ok (.i2l, 1) := by decide +kernel
theorem dX10_bestCard_17 : decode cX10_bestCard 17 = .ok (.lconst 0, 1) := by decide +kernel
theorem dX10_bestCard_18 : decode cX10_bestCard 18 = .ok (.lconst 1, 1) := by decide +kernel
theorem dX10_bestCard_19 : decode cX10_bestCard 19 = .ok (.invokestatic 42, 3) := by decide +kernel
theorem dX10_bestCard_22 : decode cX10_bestCard 22 = .ok (.ifCond .ne 5, 3) := by decide +kernel
theorem dX10_bestCard_25 : decode cX10_bestCard 25 = .ok (.iconst (-1), 1) := by decide +kernel
theorem dX10_bestCard_26 : decode cX10_bestCard 26 = .ok (.ireturn, 1) := by decide +kernel
theorem dX10_bestCard_27 : decode cX10_bestCard 27 = .ok (.bipush (-9), 2) := by decide +kernel
theorem dX10_bestCard_29 : decode cX10_bestCard 29 = .ok (.istore 4, 2) := by decide +kernel
theorem dX10_bestCard_31 : decode cX10_bestCard 31 = .ok (.iconst 0, 1) := by decide +kernel
theorem dX10_bestCard_32 : decode cX10_bestCard 32 = .ok (.istore 5, 2) := by decide +kernel
theorem dX10_bestCard_34 : decode cX10_bestCard 34 = .ok (.iconst 0, 1) := by decide +kernel
theorem dX10_bestCard_35 : decode cX10_bestCard 35 = .ok (.istore 6, 2) := by decide +kernel
theorem dX10_bestCard_37 : decode cX10_bestCard 37 = .ok (.iload 6, 2) := by decide +kernel
theorem dX10_bestCard_39 : decode cX10_bestCard 39 = .ok (.bipush 6, 2) := by decide +kernel
theorem dX10_bestCard_41 : decode cX10_bestCard 41 = .ok (.if_icmp .ge 76, 3) := by decide +kernel
theorem dX10_bestCard_44 : decode cX10_bestCard 44 = .ok (.aload_n 0, 1) := by decide +kernel
theorem dX10_bestCard_45 : decode cX10_bestCard 45 = .ok (.getfield 7, 3) := by decide +kernel
theorem dX10_bestCard_48 : decode cX10_bestCard 48 = .ok (.iconst 4, 1) := by decide +kernel
theorem dX10_bestCard_49 : decode cX10_bestCard 49 = .ok (.aload_n 0, 1) := by decide +kernel
theorem dX10_bestCard_50 : decode cX10_bestCard 50 = .ok (.iload_n 1, 1) := by decide +kernel
theorem dX10_bestCard_51 : decode cX10_bestCard 51 = .ok (.iconst 0, 1) := by decide +kernel
theorem dX10_bestCard_52 : decode cX10_bestCard 52 = .ok (.invokevirtual 52, 3) := by decide +kernel
theorem dX10_bestCard_55 : decode cX10_bestCard 55 = .ok (.iadd, 1) := by decide +kernel
theorem dX10_bestCard_56 : decode cX10_bestCard 56 = .ok (.iaload, 1) := by decide +kernel
theorem dX10_bestCard_57 : decode cX10_bestCard 57 = .ok (.iload 6, 2) := by decide +kernel
theorem dX10_bestCard_59 : decode cX10_bestCard 59 = .ok (.invokestatic 88, 3) := by decide +kernel
theorem dX10_bestCard_62 : decode cX10_bestCard 62 = .ok (.ifCond .eq 14, 3) := by decide +kernel
theorem dX10_bestCard_65 : decode cX10_bestCard 65 = .ok (.aload_n 0, 1) := by decide +kernel
theorem dX10_bestCard_66 : decode cX10_bestCard 66 = .ok (.iload_n 1, 1) := by decide +kernel
theorem dX10_bestCard_67 : decode cX10_bestCard 67 = .ok (.iload_n 2, 1) := by decide +kernel
theorem dX10_bestCard_68 : decode cX10_bestCard 68 = .ok (.iload 6, 2) := by decide +kernel
theorem dX10_bestCard_70 : decode cX10_bestCard 70 = .ok (.invokevirtual 235, 3) := by decide +kernel
theorem dX10_bestCard_73 : decode cX10_bestCard 73 = .ok (.goto 4, 3) := by decide +kernel
theorem dX10_bestCard_76 : decode cX10_bestCard 76 = .ok (.iconst 0, 1) := by decide +kernel
theorem dX10_bestCard_77 : decode cX10_bestCard 77 = .ok (.istore 7, 2) := by decide +kernel
theorem dX10_bestCard_79 : decode cX10_bestCard 79 = .ok (.iload 7, 2) := by decide +kernel
theorem dX10_bestCard_81 : decode cX10_bestCard 81 = .ok (.iload 5, 2) := by decide +kernel
theorem dX10_bestCard_83 : decode cX10_bestCard 83 = .ok (.if_icmp .le 8, 3) := by decide +kernel
theorem dX10_bestCard_86 : decode cX10_bestCard 86 = .ok (.iload 6, 2) := by decide +kernel
theorem dX10_bestCard_88 : decode cX10_bestCard 88 = .ok (.goto 5, 3) := by decide +kernel
theorem dX10_bestCard_91 : decode cX10_bestCard 91 = .ok (.iload 4, 2) := by decide +kernel
theorem dX10_bestCard_93 : decode cX10_bestCard 93 = .ok (.istore 4, 2) := by decide +kernel
theorem dX10_bestCard_95 : decode cX10_bestCard 95 = .ok (.iload 7, 2) := by decide +kernel
theorem dX10_bestCard_97 : decode cX10_bestCard 97 = .ok (.iload 5, 2) := by decide +kernel
theorem dX10_bestCard_99 : decode cX10_bestCard 99 = .ok (.if_icmp .le 8, 3) := by decide +kernel
theorem dX10_bestCard_102 : decode cX10_bestCard 102 = .ok (.iload 7, 2) := by decide +kernel
theorem dX10_bestCard_104 : decode cX10_bestCard 104 = .ok (.goto 5, 3) := by decide +kernel
theorem dX10_bestCard_107 : decode cX10_bestCard 107 = .ok (.iload 5, 2) := by decide +kernel
theorem dX10_bestCard_109 : decode cX10_bestCard 109 = .ok (.istore 5, 2) := by decide +kernel
theorem dX10_bestCard_111 : decode cX10_bestCard 111 = .ok (.iinc 6 1, 3) := by decide +kernel
theorem dX10_bestCard_114 : decode cX10_bestCard 114 = .ok (.goto (-77), 3) := by decide +kernel
theorem dX10_bestCard_117 : decode cX10_bestCard 117 = .ok (.iload 4, 2) := by decide +kernel
theorem dX10_bestCard_119 : decode cX10_bestCard 119 = .ok (.bipush (-9), 2) := by decide +kernel
theorem dX10_bestCard_121 : decode cX10_bestCard 121 = .ok (.if_icmp .eq 7, 3) := by decide +kernel
theorem dX10_bestCard_124 : decode cX10_bestCard 124 = .ok (.iload_n 3, 1) := by decide +kernel
theorem dX10_bestCard_125 : decode cX10_bestCard 125 = .ok (.ifCond .ne 8, 3) := by decide +kernel
theorem dX10_bestCard_128 : decode cX10_bestCard 128 = .ok (.iload 4, 2) := by decide +kernel
theorem dX10_bestCard_130 : decode cX10_bestCard 130 = .ok (.goto 5, 3) := by decide +kernel
theorem dX10_bestCard_133 : decode cX10_bestCard 133 = .ok (.iload 5, 2) := by decide +kernel
theorem dX10_bestCard_135 : decode cX10_bestCard 135 = .ok (.ireturn, 1) := by decide +kernel
theorem dX10_threats_0 : decode cX10_threats 0 = .ok (.aload_n 0, 1) := by decide +kernel
theorem dX10_threats_1 : decode cX10_threats 1 = .ok (.iload_n 1, 1) := by decide +kernel
theorem dX10_threats_2 : decode cX10_threats 2 = .ok (.invokevirtual 113, 3) := by decide +kernel
theorem dX10_threats_5 : decode cX10_threats 5 = .ok (.ifCond .ne 5, 3) := by decide +kernel
theorem dX10_threats_8 : decode cX10_threats 8 = .ok (.iconst (-1), 1) := by decide +kernel
theorem dX10_threats_9 : decode cX10_threats 9 = .ok (.ireturn, 1) := by decide +kernel
theorem dX10_threats_10 : decode cX10_threats 10 = .ok (.iconst 0, 1) := by decide +kernel
theorem dX10_threats_11 : decode cX10_threats 11 = .ok (.istore_n 2, 1) := by decide +kernel
theorem dX10_threats_12 : decode cX10_threats 12 = .ok (.iconst 0, 1) := by decide +kernel
theorem dX10_threats_13 : decode cX10_threats 13 = .ok (.istore_n 3, 1) := by decide +kernel
theorem dX10_threats_14 : decode cX10_threats 14 = .ok (.iload_n 3, 1) := by decide +kernel
theorem dX10_threats_15 : decode cX10_threats 15 = .ok (.aload_n 0, 1) := by decide +kernel
theorem dX10_threats_16 : decode cX10_threats 16 = .ok (.getfield 7, 3) := by decide +kernel
theorem dX10_threats_19 : decode cX10_threats 19 = .ok (.bipush 10, 2) := by decide +kernel
theorem dX10_threats_21 : decode cX10_threats 21 = .ok (.iaload, 1) := by decide +kernel
theorem dX10_threats_22 : decode cX10_threats 22 = .ok (.if_icmp .ge 56, 3) := by decide +kernel
theorem dX10_threats_25 : decode cX10_threats 25 = .ok (.iload_n 3, 1) := by decide +kernel
theorem dX10_threats_26 : decode cX10_threats 26 = .ok (.iload_n 1, 1) := by decide +kernel
theorem dX10_threats_27 : decode cX10_threats 27 = .ok (.if_icmp .eq 27, 3) := by decide +kernel
theorem dX10_threats_30 : decode cX10_threats 30 = .ok (.aload_n 0, 1) := by decide +kernel
theorem dX10_threats_31 : decode cX10_threats 31 = .ok (.iload_n 3, 1) := by decide +kernel
theorem dX10_threats_32 : decode cX10_threats 32 = .ok (.iconst 0, 1) := by decide +kernel
theorem dX10_threats_33 : decode cX10_threats 33 = .ok (.iload_n 1, 1) := by decide +kernel
theorem dX10_threats_34 : decode cX10_threats 34 = .ok (.invokevirtual 132, 3) := by decide +kernel
theorem dX10_threats_37 : decode cX10_threats 37 = .ok (.ifCond .gt 13, 3) := by decide +kernel
theorem dX10_threats_40 : decode cX10_threats 40 = .ok (.aload_n 0, 1) := by decide +kernel
theorem dX10_threats_41 : decode cX10_threats 41 = .ok (.iload_n 3, 1) := by decide +kernel
theorem dX10_threats_42 : decode cX10_threats 42 = .ok (.iconst 1, 1) := by decide +kernel
theorem dX10_threats_43 : decode cX10_threats 43 = .ok (.iload_n 1, 1) := by decide +kernel
theorem dX10_threats_44 : decode cX10_threats 44 = .ok (.invokevirtual 132, 3) := by decide +kernel
theorem dX10_threats_47 : decode cX10_threats 47 = .ok (.ifCond .le 7, 3) := by decide +kernel
theorem dX10_threats_50 : decode cX10_threats 50 = .ok (.iconst 1, 1) := by decide +kernel
theorem dX10_threats_51 : decode cX10_threats 51 = .ok (.goto 4, 3) := by decide +kernel
theorem dX10_threats_54 : decode cX10_threats 54 = .ok (.iconst 0, 1) := by decide +kernel
theorem dX10_threats_55 : decode cX10_threats 55 = .ok (.istore 4, 2) := by decide +kernel
theorem dX10_threats_57 : decode cX10_threats 57 = .ok (.iload_n 2, 1) := by decide +kernel
theorem dX10_threats_58 : decode cX10_threats 58 = .ok (.iload 4, 2) := by decide +kernel
theorem dX10_threats_60 : decode cX10_threats 60 = .ok (.ifCond .eq 9, 3) := by decide +kernel
theorem dX10_threats_63 : decode cX10_threats 63 = .ok (.iconst 1, 1) := by decide +kernel
theorem dX10_threats_64 : decode cX10_threats 64 = .ok (.iload_n 3, 1) := by decide +kernel
theorem dX10_threats_65 : decode cX10_threats 65 = .ok (.ishl, 1) := by decide +kernel
theorem dX10_threats_66 : decode cX10_threats 66 = .ok (.goto 4, 3) := by decide +kernel
theorem dX10_threats_69 : decode cX10_threats 69 = .ok (.iconst 0, 1) := by decide +kernel
theorem dX10_threats_70 : decode cX10_threats 70 = .ok (.ior, 1) := by decide +kernel
theorem dX10_threats_71 : decode cX10_threats 71 = .ok (.istore_n 2, 1) := by decide +kernel
theorem dX10_threats_72 : decode cX10_threats 72 = .ok (.iinc 3 1, 3) := by decide +kernel
theorem dX10_threats_75 : decode cX10_threats 75 = .ok (.goto (-61), 3) := by decide +kernel
theorem dX10_threats_78 : decode cX10_threats 78 = .ok (.iload_n 2, 1) := by decide +kernel
theorem dX10_threats_79 : decode cX10_threats 79 = .ok (.ireturn, 1) := by decide +kernel
theorem dX10_strength_0 : decode cX10_strength 0 = .ok (.iload_n 1, 1) := by decide +kernel
theorem dX10_strength_1 : decode cX10_strength 1 = .ok (.invokestatic 70, 3) := by decide +kernel
theorem dX10_strength_4 : decode cX10_strength 4 = .ok (.ifCond .ne 5, 3) := by decide +kernel
theorem dX10_strength_7 : decode cX10_strength 7 = .ok (.iconst (-1), 1) := by decide +kernel
theorem dX10_strength_8 : decode cX10_strength 8 = .ok (.ireturn, 1) := by decide +kernel
theorem dX10_strength_9 : decode cX10_strength 9 = .ok (.aload_n 0, 1) := by decide +kernel
theorem dX10_strength_10 : decode cX10_strength 10 = .ok (.iload_n 1, 1) := by decide +kernel
theorem dX10_strength_11 : decode cX10_strength 11 = .ok (.invokevirtual 219, 3) := by decide +kernel
theorem dX10_strength_14 : decode cX10_strength 14 = .ok (.istore_n 2, 1) := by decide +kernel
theorem dX10_strength_15 : decode cX10_strength 15 = .ok (.iconst 0, 1) := by decide +kernel
theorem dX10_strength_16 : decode cX10_strength 16 = .ok (.istore_n 3, 1) := by decide +kernel
theorem dX10_strength_17 : decode cX10_strength 17 = .ok (.iconst 0, 1) := by decide +kernel
theorem dX10_strength_18 : decode cX10_strength 18 = .ok (.istore 4, 2) := by decide +kernel
theorem dX10_strength_20 : decode cX10_strength 20 = .ok (.iload 4, 2) := by decide +kernel
theorem dX10_strength_22 : decode cX10_strength 22 = .ok (.aload_n 0, 1) := by decide +kernel
theorem dX10_strength_23 : decode cX10_strength 23 = .ok (.getfield 7, 3) := by decide +kernel
theorem dX10_strength_26 : decode cX10_strength 26 = .ok (.bipush 10, 2) := by decide +kernel
theorem dX10_strength_28 : decode cX10_strength 28 = .ok (.iaload, 1) := by decide +kernel
theorem dX10_strength_29 : decode cX10_strength 29 = .ok (.if_icmp .ge 62, 3) := by decide +kernel
theorem dX10_strength_32 : decode cX10_strength 32 = .ok (.iload_n 3, 1) := by decide +kernel
theorem dX10_strength_33 : decode cX10_strength 33 = .ok (.iload_n 2, 1) := by decide +kernel
theorem dX10_strength_34 : decode cX10_strength 34 = .ok (.iload 4, 2) := by decide +kernel
theorem dX10_strength_36 : decode cX10_strength 36 = .ok (.invokestatic 88, 3) := by decide +kernel
theorem dX10_strength_39 : decode cX10_strength 39 = .ok (.ifCond .eq 43, 3) := by decide +kernel
theorem dX10_strength_42 : decode cX10_strength 42 = .ok (.bipush 6, 2) := by decide +kernel
theorem dX10_strength_44 : decode cX10_strength 44 = .ok (.aload_n 0, 1) := by decide +kernel
theorem dX10_strength_45 : decode cX10_strength 45 = .ok (.iload 4, 2) := by decide +kernel
theorem dX10_strength_47 : decode cX10_strength 47 = .ok (.iconst 3, 1) := by decide +kernel
theorem dX10_strength_48 : decode cX10_strength 48 = .ok (.invokevirtual 52, 3) := by decide +kernel
theorem dX10_strength_51 : decode cX10_strength 51 = .ok (.imul, 1) := by decide +kernel
theorem dX10_strength_52 : decode cX10_strength 52 = .ok (.iconst 4, 1) := by decide +kernel
theorem dX10_strength_53 : decode cX10_strength 53 = .ok (.aload_n 0, 1) := by decide +kernel
theorem dX10_strength_54 : decode cX10_strength 54 = .ok (.iload 4, 2) := by decide +kernel
theorem dX10_strength_56 : decode cX10_strength 56 = .ok (.iconst 5, 1) := by decide +kernel
theorem dX10_strength_57 : decode cX10_strength 57 = .ok (.invokevirtual 52, 3) := by decide +kernel
theorem dX10_strength_60 : decode cX10_strength 60 = .ok (.imul, 1) := by decide +kernel
theorem dX10_strength_61 : decode cX10_strength 61 = .ok (.iadd, 1) := by decide +kernel
theorem dX10_strength_62 : decode cX10_strength 62 = .ok (.aload_n 0, 1) := by decide +kernel
theorem dX10_strength_63 : decode cX10_strength 63 = .ok (.iload 4, 2) := by decide +kernel
theorem dX10_strength_65 : decode cX10_strength 65 = .ok (.bipush 6, 2) := by decide +kernel
theorem dX10_strength_67 : decode cX10_strength 67 = .ok (.invokevirtual 52, 3) := by decide +kernel
theorem dX10_strength_70 : decode cX10_strength 70 = .ok (.aload_n 0, 1) := by decide +kernel
theorem dX10_strength_71 : decode cX10_strength 71 = .ok (.iload 4, 2) := by decide +kernel
theorem dX10_strength_73 : decode cX10_strength 73 = .ok (.iconst 4, 1) := by decide +kernel
theorem dX10_strength_74 : decode cX10_strength 74 = .ok (.invokevirtual 52, 3) := by decide +kernel
theorem dX10_strength_77 : decode cX10_strength 77 = .ok (.imul, 1) := by decide +kernel
theorem dX10_strength_78 : decode cX10_strength 78 = .ok (.iadd, 1) := by decide +kernel
theorem dX10_strength_79 : decode cX10_strength 79 = .ok (.goto 4, 3) := by decide +kernel
theorem dX10_strength_82 : decode cX10_strength 82 = .ok (.iconst 0, 1) := by decide +kernel
theorem dX10_strength_83 : decode cX10_strength 83 = .ok (.iadd, 1) := by decide +kernel
theorem dX10_strength_84 : decode cX10_strength 84 = .ok (.istore_n 3, 1) := by decide +kernel
theorem dX10_strength_85 : decode cX10_strength 85 = .ok (.iinc 4 1, 3) := by decide +kernel
theorem dX10_strength_88 : decode cX10_strength 88 = .ok (.goto (-68), 3) := by decide +kernel
theorem dX10_strength_91 : decode cX10_strength 91 = .ok (.iload_n 3, 1) := by decide +kernel
theorem dX10_strength_92 : decode cX10_strength 92 = .ok (.bipush 8, 2) := by decide +kernel
theorem dX10_strength_94 : decode cX10_strength 94 = .ok (.idiv, 1) := by decide +kernel
theorem dX10_strength_95 : decode cX10_strength 95 = .ok (.ireturn, 1) := by decide +kernel
