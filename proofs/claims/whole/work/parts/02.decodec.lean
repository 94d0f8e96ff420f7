theorem dX11_isPerson_5 : decode cX11_isPerson 5 = .ok (.aload_n 0, 1) := by decide +kernel
theorem dX11_isPerson_6 : decode cX11_isPerson 6 = .ok (.getfield 78, 3) := by decide +kernel
theorem dX11_isPerson_9 : decode cX11_isPerson 9 = .ok (.getfield 410, 3) := by decide +kernel
theorem dX11_isPerson_12 : decode cX11_isPerson 12 = .ok (.if_icmp .ge 7, 3) := by decide +kernel
theorem dX11_isPerson_15 : decode cX11_isPerson 15 = .ok (.iconst 1, 1) := by decide +kernel
theorem dX11_isPerson_16 : decode cX11_isPerson 16 = .ok (.goto 4, 3) := by decide +kernel
theorem dX11_isPerson_19 : decode cX11_isPerson 19 = .ok (.iconst 0, 1) := by decide +kernel
theorem dX11_isPerson_20 : decode cX11_isPerson 20 = .ok (.ireturn, 1) := by decide +kernel
theorem dX11_isLost_0 : decode cX11_isLost 0 = .ok (.iload_n 1, 1) := by decide +kernel
theorem dX11_isLost_1 : decode cX11_isLost 1 = .ok (.ifCond .lt 21, 3) := by decide +kernel
theorem dX11_isLost_4 : decode cX11_isLost 4 = .ok (.iload_n 1, 1) := by decide +kernel
theorem dX11_isLost_5 : decode cX11_isLost 5 = .ok (.aload_n 0, 1) := by decide +kernel
theorem dX11_isLost_6 : decode cX11_isLost 6 = .ok (.getfield 78, 3) := by decide +kernel
theorem dX11_isLost_9 : decode cX11_isLost 9 = .ok (.getfield 237, 3) := by decide +kernel
theorem dX11_isLost_12 : decode cX11_isLost 12 = .ok (.getfield 293, 3) := by decide +kernel
theorem dX11_isLost_15 : decode cX11_isLost 15 = .ok (.if_icmp .ge 7, 3) := by decide +kernel
theorem dX11_isLost_18 : decode cX11_isLost 18 = .ok (.iconst 1, 1) := by decide +kernel
theorem dX11_isLost_19 : decode cX11_isLost 19 = .ok (.goto 4, 3) := by decide +kernel
theorem dX11_isLost_22 : decode cX11_isLost 22 = .ok (.iconst 0, 1) := by decide +kernel
theorem dX11_isLost_23 : decode cX11_isLost 23 = .ok (.ireturn, 1) := by decide +kernel
theorem dX11_isHung_0 : decode cX11_isHung 0 = .ok (.iload_n 0, 1) := by decide +kernel
theorem dX11_isHung_1 : decode cX11_isHung 1 = .ok (.ifCond .lt 12, 3) := by decide +kernel
theorem dX11_isHung_4 : decode cX11_isHung 4 = .ok (.iload_n 0, 1) := by decide +kernel
theorem dX11_isHung_5 : decode cX11_isHung 5 = .ok (.iconst 2, 1) := by decide +kernel
theorem dX11_isHung_6 : decode cX11_isHung 6 = .ok (.if_icmp .gt 7, 3) := by decide +kernel
theorem dX11_isHung_9 : decode cX11_isHung 9 = .ok (.iconst 1, 1) := by decide +kernel
theorem dX11_isHung_10 : decode cX11_isHung 10 = .ok (.goto 4, 3) := by decide +kernel
theorem dX11_isHung_13 : decode cX11_isHung 13 = .ok (.iconst 0, 1) := by decide +kernel
theorem dX11_isHung_14 : decode cX11_isHung 14 = .ok (.ireturn, 1) := by decide +kernel
theorem dX11_isMuch_0 : decode cX11_isMuch 0 = .ok (.iload_n 0, 1) := by decide +kernel
theorem dX11_isMuch_1 : decode cX11_isMuch 1 = .ok (.ifCond .lt 14, 3) := by decide +kernel
theorem dX11_isMuch_4 : decode cX11_isMuch 4 = .ok (.iload_n 0, 1) := by decide +kernel
theorem dX11_isMuch_5 : decode cX11_isMuch 5 = .ok (.sipush 599, 3) := by decide +kernel
theorem dX11_isMuch_8 : decode cX11_isMuch 8 = .ok (.if_icmp .gt 7, 3) := by decide +kernel
theorem dX11_isMuch_11 : decode cX11_isMuch 11 = .ok (.iconst 1, 1) := by decide +kernel
theorem dX11_isMuch_12 : decode cX11_isMuch 12 = .ok (.goto 4, 3) := by decide +kernel
theorem dX11_isMuch_15 : decode cX11_isMuch 15 = .ok (.iconst 0, 1) := by decide +kernel
theorem dX11_isMuch_16 : decode cX11_isMuch 16 = .ok (.ireturn, 1) := by decide +kernel
theorem dX11_isSeed_0 : decode cX11_isSeed 0 = .ok (.iload_n 0, 1) := by decide +kernel
theorem dX11_isSeed_1 : decode cX11_isSeed 1 = .ok (.ifCond .lt 14, 3) := by decide +kernel
theorem dX11_isSeed_4 : decode cX11_isSeed 4 = .ok (.iload_n 0, 1) := by decide +kernel
theorem dX11_isSeed_5 : decode cX11_isSeed 5 = .ok (.ldc_w 429, 3) := by decide +kernel
theorem dX11_isSeed_8 : decode cX11_isSeed 8 = .ok (.if_icmp .ge 7, 3) := by decide +kernel
theorem dX11_isSeed_11 : decode cX11_isSeed 11 = .ok (.iconst 1, 1) := by decide +kernel
theorem dX11_isSeed_12 : decode cX11_isSeed 12 = .ok (.goto 4, 3) := by decide +kernel
theorem dX11_isSeed_15 : decode cX11_isSeed 15 = .ok (.iconst 0, 1) := by decide +kernel
theorem dX11_isSeed_16 : decode cX11_isSeed 16 = .ok (.ireturn, 1) := by decide +kernel
theorem dX11_isDrawnYears_0 : decode cX11_isDrawnYears 0 = .ok (.iload_n 0, 1) := by decide +kernel
theorem dX11_isDrawnYears_1 : decode cX11_isDrawnYears 1 = .ok (.ifCond .lt 13, 3) := by decide +kernel
theorem dX11_isDrawnYears_4 : decode cX11_isDrawnYears 4 = .ok (.iload_n 0, 1) := by decide +kernel
theorem dX11_isDrawnYears_5 : decode cX11_isDrawnYears 5 = .ok (.bipush 60, 2) := by decide +kernel
theorem dX11_isDrawnYears_7 : decode cX11_isDrawnYears 7 = .ok (.if_icmp .gt 7, 3) := by decide +kernel
theorem dX11_isDrawnYears_10 : decode cX11_isDrawnYears 10 = .ok (.iconst 1, 1) := by decide +kernel
theorem dX11_isDrawnYears_11 : decode cX11_isDrawnYears 11 = .ok (.goto 4, 3) := by decide +kernel
theorem dX11_isDrawnYears_14 : decode cX11_isDrawnYears 14 = .ok (.iconst 0, 1) := by decide +kernel
theorem dX11_isDrawnYears_15 : decode cX11_isDrawnYears 15 = .ok (.ireturn, 1) := by decide +kernel
theorem dX11_at_0 : decode cX11_at 0 = .ok (.iload_n 1, 1) := by decide +kernel
theorem dX11_at_1 : decode cX11_at 1 = .ok (.ifCond .lt 15, 3) := by decide +kernel
theorem dX11_at_4 : decode cX11_at 4 = .ok (.iload_n 1, 1) := by decide +kernel
theorem dX11_at_5 : decode cX11_at 5 = .ok (.aload_n 0, 1) := by decide +kernel
theorem dX11_at_6 : decode cX11_at 6 = .ok (.arraylength, 1) := by decide +kernel
theorem dX11_at_7 : decode cX11_at 7 = .ok (.if_icmp .ge 9, 3) := by decide +kernel
theorem dX11_at_10 : decode cX11_at 10 = .ok (.aload_n 0, 1) := by decide +kernel
theorem dX11_at_11 : decode cX11_at 11 = .ok (.iload_n 1, 1) := by decide +kernel
theorem dX11_at_12 : decode cX11_at 12 = .ok (.iaload, 1) := by decide +kernel
theorem dX11_at_13 : decode cX11_at 13 = .ok (.goto 4, 3) := by decide +kernel
theorem dX11_at_16 : decode cX11_at 16 = .ok (.iconst 0, 1) := by decide +kernel
theorem dX11_at_17 : decode cX11_at 17 = .ok (.ireturn, 1) := by decide +kernel
theorem dX11_put_0 : decode cX11_put 0 = .ok (.iload_n 1, 1) := by decide +kernel
theorem dX11_put_1 : decode cX11_put 1 = .ok (.ifCond .lt 13, 3) := by decide +kernel
theorem dX11_put_4 : decode cX11_put 4 = .ok (.iload_n 1, 1) := by decide +kernel
theorem dX11_put_5 : decode cX11_put 5 = .ok (.aload_n 0, 1) := by decide +kernel
theorem dX11_put_6 : decode cX11_put 6 = .ok (.arraylength, 1) := by decide +kernel
theorem dX11_put_7 : decode cX11_put 7 = .ok (.if_icmp .ge 7, 3) := by decide +kernel
theorem dX11_put_10 : decode cX11_put 10 = .ok (.aload_n 0, 1) := by decide +kernel
theorem dX11_put_11 : decode cX11_put 11 = .ok (.iload_n 1, 1) := by decide +kernel
theorem dX11_put_12 : decode cX11_put 12 = .ok (.iload_n 2, 1) := by decide +kernel
theorem dX11_put_13 : decode cX11_put 13 = .ok (.iastore, 1) := by decide +kernel
theorem dX11_put_14 : decode cX11_put 14 = .ok (.return_, 1) := by decide +kernel
theorem dX11_hasBit_0 : decode cX11_hasBit 0 = .ok (.iload_n 0, 1) := by decide +kernel
theorem dX11_hasBit_1 : decode cX11_hasBit 1 = .ok (.iload_n 1, 1) := by decide +kernel
theorem dX11_hasBit_2 : decode cX11_hasBit 2 = .ok (.ishr, 1) := by decide +kernel
theorem dX11_hasBit_3 : decode cX11_hasBit 3 = .ok (.iconst 1, 1) := by decide +kernel
theorem dX11_hasBit_4 : decode cX11_hasBit 4 = .ok (.iand, 1) := by decide +kernel
theorem dX11_hasBit_5 : decode cX11_hasBit 5 = .ok (.iconst 1, 1) := by decide +kernel
theorem dX11_hasBit_6 : decode cX11_hasBit 6 = .ok (.if_icmp .ne 7, 3) := by decide +kernel
theorem dX11_hasBit_9 : decode cX11_hasBit 9 = .ok (.iconst 1, 1) := by decide +kernel
theorem dX11_hasBit_10 : decode cX11_hasBit 10 = .ok (.goto 4, 3) := by decide +kernel
theorem dX11_hasBit_13 : decode cX11_hasBit 13 = .ok (.iconst 0, 1) := by decide +kernel
theorem dX11_hasBit_14 : decode cX11_hasBit 14 = .ok (.ireturn, 1) := by decide +kernel
theorem dX12_init_0 : decode cX12_init 0 = .ok (.aload_n 0, 1) := by decide +kernel
theorem dX12_init_1 : decode cX12_init 1 = .ok (.invokespecial 3, 3) := by decide +kernel
theorem dX12_init_4 : decode cX12_init 4 = .ok (.aload_n 0, 1) := by decide +kernel
theorem dX12_init_5 : decode cX12_init 5 = .ok (.iconst (-1), 1) := by decide +kernel
theorem dX12_init_6 : decode cX12_init 6 = .ok (.putfield 9, 3) := by decide +kernel
theorem dX12_init_9 : decode cX12_init 9 = .ok (.aload_n 0, 1) := by decide +kernel
theorem dX12_init_10 : decode cX12_init 10 = .ok (.iconst 4, 1) := by decide +kernel
theorem dX12_init_11 : decode cX12_init 11 = .ok (.newarray .int, 2) := by decide +kernel
theorem dX12_init_13 : decode cX12_init 13 = .ok (.putfield 15, 3) := by decide +kernel
theorem dX12_init_16 : decode cX12_init 16 = .ok (.aload_n 0, 1) := by decide +kernel
theorem dX12_init_17 : decode cX12_init 17 = .ok (.iconst 4, 1) := by decide +kernel
theorem dX12_init_18 : decode cX12_init 18 = .ok (.newarray .int, 2) := by decide +kernel
theorem dX12_init_20 : decode cX12_init 20 = .ok (.putfield 19, 3) := by decide +kernel
theorem dX12_init_23 : decode cX12_init 23 = .ok (.aload_n 0, 1) := by decide +kernel
theorem dX12_init_24 : decode cX12_init 24 = .ok (.bipush 6, 2) := by decide +kernel
theorem dX12_init_26 : decode cX12_init 26 = .ok (.newarray .int, 2) := by decide +kernel
theorem dX12_init_28 : decode cX12_init 28 = .ok (.putfield 22, 3) := by decide +kernel
theorem dX12_init_31 : decode cX12_init 31 = .ok (.aload_n 0, 1) := by decide +kernel
theorem dX12_init_32 : decode cX12_init 32 = .ok (.bipush 6, 2) := by decide +kernel
theorem dX12_init_34 : decode cX12_init 34 = .ok (.newarray .int, 2) := by decide +kernel
theorem dX12_init_36 : decode cX12_init 36 = .ok (.putfield 25, 3) := by decide +kernel
theorem dX12_init_39 : decode cX12_init 39 = .ok (.aload_n 0, 1) := by decide +kernel
theorem dX12_init_40 : decode cX12_init 40 = .ok (.bipush 6, 2) := by decide +kernel
theorem dX12_init_42 : decode cX12_init 42 = .ok (.newarray .int, 2) := by decide +kernel
theorem dX12_init_44 : decode cX12_init 44 = .ok (.putfield 28, 3) := by decide +kernel
theorem dX12_init_47 : decode cX12_init 47 = .ok (.aload_n 0, 1) := by decide +kernel
theorem dX12_init_48 : decode cX12_init 48 = .ok (.bipush 6, 2) := by decide +kernel
theorem dX12_init_50 : decode cX12_init 50 = .ok (.newarray .int, 2) := by decide +kernel
theorem dX12_init_52 : decode cX12_init 52 = .ok (.putfield 31, 3) := by decide +kernel
theorem dX12_init_55 : decode cX12_init 55 = .ok (.aload_n 0, 1) := by decide +kernel
theorem dX12_init_56 : decode cX12_init 56 = .ok (.bipush 6, 2) := by decide +kernel
theorem dX12_init_58 : decode cX12_init 58 = .ok (.newarray .int, 2) := by decide +kernel
theorem dX12_init_60 : decode cX12_init 60 = .ok (.putfield 34, 3) := by decide +kernel
theorem dX12_init_63 : decode cX12_init 63 = .ok (.aload_n 0, 1) := by decide +kernel
theorem dX12_init_64 : decode cX12_init 64 = .ok (.iconst 4, 1) := by decide +kernel
theorem dX12_init_65 : decode cX12_init 65 = .ok (.newarray .int, 2) := by decide +kernel
theorem dX12_init_67 : decode cX12_init 67 = .ok (.putfield 37, 3) := by decide +kernel
theorem dX12_init_70 : decode cX12_init 70 = .ok (.aload_n 0, 1) := by decide +kernel
theorem dX12_init_71 : decode cX12_init 71 = .ok (.iconst 4, 1) := by decide +kernel
theorem dX12_init_72 : decode cX12_init 72 = .ok (.newarray .int, 2) := by decide +kernel
theorem dX12_init_74 : decode cX12_init 74 = .ok (.putfield 40, 3) := by decide +kernel
theorem dX12_init_77 : decode cX12_init 77 = .ok (.aload_n 0, 1) := by decide +kernel
theorem dX12_init_78 : decode cX12_init 78 = .ok (.iconst 4, 1) := by decide +kernel
theorem dX12_init_79 : decode cX12_init 79 = .ok (.newarray .int, 2) := by decide +kernel
theorem dX12_init_81 : decode cX12_init 81 = .ok (.putfield 43, 3) := by decide +kernel
theorem dX12_init_84 : decode cX12_init 84 = .ok (.aload_n 0, 1) := by decide +kernel
theorem dX12_init_85 : decode cX12_init 85 = .ok (.iconst 5, 1) := by decide +kernel
theorem dX12_init_86 : decode cX12_init 86 = .ok (.newarray .int, 2) := by decide +kernel
theorem dX12_init_88 : decode cX12_init 88 = .ok (.putfield 46, 3) := by decide +kernel
theorem dX12_init_91 : decode cX12_init 91 = .ok (.aload_n 0, 1) := by decide +kernel
theorem dX12_init_92 : decode cX12_init 92 = .ok (.bipush 15, 2) := by decide +kernel
theorem dX12_init_94 : decode cX12_init 94 = .ok (.newarray .long, 2) := by decide +kernel
theorem dX12_init_96 : decode cX12_init 96 = .ok (.putfield 49, 3) := by decide +kernel
theorem dX12_init_99 : decode cX12_init 99 = .ok (.aload_n 0, 1) := by decide +kernel
theorem dX12_init_100 : decode cX12_init 100 = .ok (.bipush 15, 2) := by decide +kernel
theorem dX12_init_102 : decode cX12_init 102 = .ok (.newarray .int, 2) := by decide +kernel
theorem dX12_init_104 : decode cX12_init 104 = .ok (.putfield 53, 3) := by decide +kernel
theorem dX12_init_107 : decode cX12_init 107 = .ok (.aload_n 0, 1) := by decide +kernel
theorem dX12_init_108 : decode cX12_init 108 = .ok (.bipush 15, 2) := by decide +kernel
theorem dX12_init_110 : decode cX12_init 110 = .ok (.newarray .int, 2) := by decide +kernel
theorem dX12_init_112 : decode cX12_init 112 = .ok (.putfield 56, 3) := by decide +kernel
theorem dX12_init_115 : decode cX12_init 115 = .ok (.iconst 0, 1) := by decide +kernel
theorem dX12_init_116 : decode cX12_init 116 = .ok (.istore_n 1, 1) := by decide +kernel
theorem dX12_init_117 : decode cX12_init 117 = .ok (.iload_n 1, 1) := by decide +kernel
theorem dX12_init_118 : decode cX12_init 118 = .ok (.iconst 5, 1) := by decide +kernel
theorem dX12_init_119 : decode cX12_init 119 = .ok (.if_icmp .ge 16, 3) := by decide +kernel
theorem dX12_init_122 : decode cX12_init 122 = .ok (.aload_n 0, 1) := by decide +kernel
theorem dX12_init_123 : decode cX12_init 123 = .ok (.getfield 46, 3) := by decide +kernel
theorem dX12_init_126 : decode cX12_init 126 = .ok (.iload_n 1, 1) := by decide +kernel
theorem dX12_init_127 : decode cX12_init 127 = .ok (.iconst (-1), 1) := by decide +kernel
theorem dX12_init_128 : decode cX12_init 128 = .ok (.iastore, 1) := by decide +kernel
theorem dX12_init_129 : decode cX12_init 129 = .ok (.iinc 1 1, 3) := by decide +kernel
theorem dX12_init_132 : decode cX12_init 132 = .ok (.goto (-15), 3) := by decide +kernel
theorem dX12_init_135 : decode cX12_init 135 = .ok (.return_, 1) := by decide +kernel
theorem dX12_find_0 : decode cX12_find 0 = .ok (.iconst 0, 1) := by decide +kernel
theorem dX12_find_1 : decode cX12_find 1 = .ok (.istore_n 3, 1) := by decide +kernel
theorem dX12_find_2 : decode cX12_find 2 = .ok (.iload_n 3, 1) := by decide +kernel
theorem dX12_find_3 : decode cX12_find 3 = .ok (.aload_n 0, 1) := by decide +kernel
theorem dX12_find_4 : decode cX12_find 4 = .ok (.getfield 59, 3) := by decide +kernel
theorem dX12_find_7 : decode cX12_find 7 = .ok (.if_icmp .ge 22, 3) := by decide +kernel
theorem dX12_find_10 : decode cX12_find 10 = .ok (.aload_n 0, 1) := by decide +kernel
theorem dX12_find_11 : decode cX12_find 11 = .ok (.getfield 49, 3) := by decide +kernel
theorem dX12_find_14 : decode cX12_find 14 = .ok (.iload_n 3, 1) := by decide +kernel
theorem dX12_find_15 : decode cX12_find 15 = .ok (.laload, 1) := by decide +kernel
theorem dX12_find_16 : decode cX12_find 16 = .ok (.lload_n 1, 1) := by decide +kernel
theorem dX12_find_17 : decode cX12_find 17 = .ok (.lcmp, 1) := by decide +kernel
theorem dX12_find_18 : decode cX12_find 18 = .ok (.ifCond .ne 5, 3) := by decide +kernel
theorem dX12_find_21 : decode cX12_find 21 = .ok (.iload_n 3, 1) := by decide +kernel
theorem dX12_find_22 : decode cX12_find 22 = .ok (.ireturn, 1) := by decide +kernel
theorem dX12_find_23 : decode cX12_find 23 = .ok (.iinc 3 1, 3) := by decide +kernel
theorem dX12_find_26 : decode cX12_find 26 = .ok (.goto (-24), 3) := by decide +kernel
theorem dX12_find_29 : decode cX12_find 29 = .ok (.iconst (-1), 1) := by decide +kernel
theorem dX12_find_30 : decode cX12_find 30 = .ok (.ireturn, 1) := by decide +kernel
theorem dX12_isLost_0 : decode cX12_isLost 0 = .ok (.iconst 0, 1) := by decide +kernel
theorem dX12_isLost_1 : decode cX12_isLost 1 = .ok (.istore_n 2, 1) := by decide +kernel
theorem dX12_isLost_2 : decode cX12_isLost 2 = .ok (.iload_n 2, 1) := by decide +kernel
theorem dX12_isLost_3 : decode cX12_isLost 3 = .ok (.aload_n 0, 1) := by decide +kernel
theorem dX12_isLost_4 : decode cX12_isLost 4 = .ok (.getfield 62, 3) := by decide +kernel
theorem dX12_isLost_7 : decode cX12_isLost 7 = .ok (.if_icmp .ge 21, 3) := by decide +kernel
theorem dX12_isLost_10 : decode cX12_isLost 10 = .ok (.aload_n 0, 1) := by decide +kernel
theorem dX12_isLost_11 : decode cX12_isLost 11 = .ok (.getfield 43, 3) := by decide +kernel
theorem dX12_isLost_14 : decode cX12_isLost 14 = .ok (.iload_n 2, 1) := by decide +kernel
theorem dX12_isLost_15 : decode cX12_isLost 15 = .ok (.iaload, 1) := by decide +kernel
theorem dX12_isLost_16 : decode cX12_isLost 16 = .ok (.iload_n 1, 1) := by decide +kernel
theorem dX12_isLost_17 : decode cX12_isLost 17 = .ok (.if_icmp .ne 5, 3) := by decide +kernel
theorem dX12_isLost_20 : decode cX12_isLost 20 = .ok (.iconst 1, 1) := by decide +kernel
theorem dX12_isLost_21 : decode cX12_isLost 21 = .ok (.ireturn, 1) := by decide +kernel
theorem dX12_isLost_22 : decode cX12_isLost 22 = .ok (.iinc 2 1, 3) := by decide +kernel
theorem dX12_isLost_25 : decode cX12_isLost 25 = .ok (.goto (-23), 3) := by decide +kernel
theorem dX12_isLost_28 : decode cX12_isLost 28 = .ok (.iconst 0, 1) := by decide +kernel
theorem dX12_isLost_29 : decode cX12_isLost 29 = .ok (.ireturn, 1) := by decide +kernel
theorem dX13_init_0 : decode cX13_init 0 = .ok (.aload_n 0, 1) := by decide +kernel
theorem dX13_init_1 : decode cX13_init 1 = .ok (.invokespecial 3, 3) := by decide +kernel
theorem dX13_init_4 : decode cX13_init 4 = .ok (.aload_n 0, 1) := by decide +kernel
theorem dX13_init_5 : decode cX13_init 5 = .ok (.iconst (-1), 1) := by decide +kernel
theorem dX13_init_6 : decode cX13_init 6 = .ok (.putfield 9, 3) := by decide +kernel
theorem dX13_init_9 : decode cX13_init 9 = .ok (.aload_n 0, 1) := by decide +kernel
theorem dX13_init_10 : decode cX13_init 10 = .ok (.sipush 900, 3) := by decide +kernel
theorem dX13_init_13 : decode cX13_init 13 = .ok (.newarray .byte, 2) := by decide +kernel
theorem dX13_init_15 : decode cX13_init 15 = .ok (.putfield 13, 3) := by decide +kernel
theorem dX13_init_18 : decode cX13_init 18 = .ok (.aload_n 0, 1) := by decide +kernel
theorem dX13_init_19 : decode cX13_init 19 = .ok (.bipush 9, 2) := by decide +kernel
theorem dX13_init_21 : decode cX13_init 21 = .ok (.newarray .int, 2) := by decide +kernel
theorem dX13_init_23 : decode cX13_init 23 = .ok (.putfield 17, 3) := by decide +kernel
theorem dX13_init_26 : decode cX13_init 26 = .ok (.aload_n 0, 1) := by decide +kernel
theorem dX13_init_27 : decode cX13_init 27 = .ok (.bipush 6, 2) := by decide +kernel
theorem dX13_init_29 : decode cX13_init 29 = .ok (.newarray .int, 2) := by decide +kernel
theorem dX13_init_31 : decode cX13_init 31 = .ok (.putfield 21, 3) := by decide +kernel
theorem dX13_init_34 : decode cX13_init 34 = .ok (.aload_n 0, 1) := by decide +kernel
theorem dX13_init_35 : decode cX13_init 35 = .ok (.sipush 144, 3) := by decide +kernel
theorem dX13_init_38 : decode cX13_init 38 = .ok (.newarray .int, 2) := by decide +kernel
theorem dX13_init_40 : decode cX13_init 40 = .ok (.putfield 24, 3) := by decide +kernel
theorem dX13_init_43 : decode cX13_init 43 = .ok (.aload_n 0, 1) := by decide +kernel
theorem dX13_init_44 : decode cX13_init 44 = .ok (.bipush 27, 2) := by decide +kernel
theorem dX13_init_46 : decode cX13_init 46 = .ok (.newarray .int, 2) := by decide +kernel
theorem dX13_init_48 : decode cX13_init 48 = .ok (.putfield 27, 3) := by decide +kernel
theorem dX13_init_51 : decode cX13_init 51 = .ok (.aload_n 0, 1) := by decide +kernel
theorem dX13_init_52 : decode cX13_init 52 = .ok (.sipush 729, 3) := by decide +kernel
theorem dX13_init_55 : decode cX13_init 55 = .ok (.newarray .int, 2) := by decide +kernel
theorem dX13_init_57 : decode cX13_init 57 = .ok (.putfield 30, 3) := by decide +kernel
theorem dX13_init_60 : decode cX13_init 60 = .ok (.aload_n 0, 1) := by decide +kernel
theorem dX13_init_61 : decode cX13_init 61 = .ok (.sipush 729, 3) := by decide +kernel
theorem dX13_init_64 : decode cX13_init 64 = .ok (.newarray .int, 2) := by decide +kernel
theorem dX13_init_66 : decode cX13_init 66 = .ok (.putfield 33, 3) := by decide +kernel
theorem dX13_init_69 : decode cX13_init 69 = .ok (.aload_n 0, 1) := by decide +kernel
theorem dX13_init_70 : decode cX13_init 70 = .ok (.sipush 729, 3) := by decide +kernel
theorem dX13_init_73 : decode cX13_init 73 = .ok (.newarray .int, 2) := by decide +kernel
theorem dX13_init_75 : decode cX13_init 75 = .ok (.putfield 36, 3) := by decide +kernel
theorem dX13_init_78 : decode cX13_init 78 = .ok (.aload_n 0, 1) := by decide +kernel
theorem dX13_init_79 : decode cX13_init 79 = .ok (.bipush 12, 2) := by decide +kernel
theorem dX13_init_81 : decode cX13_init 81 = .ok (.newarray .int, 2) := by decide +kernel
theorem dX13_init_83 : decode cX13_init 83 = .ok (.putfield 39, 3) := by decide +kernel
theorem dX13_init_86 : decode cX13_init 86 = .ok (.return_, 1) := by decide +kernel
theorem dX13_thrown_0 : decode cX13_thrown 0 = .ok (.aload_n 0, 1) := by decide +kernel
theorem dX13_thrown_1 : decode cX13_thrown 1 = .ok (.getfield 42, 3) := by decide +kernel
theorem dX13_thrown_4 : decode cX13_thrown 4 = .ok (.ireturn, 1) := by decide +kernel
theorem dX13_refused_0 : decode cX13_refused 0 = .ok (.aload_n 0, 1) := by decide +kernel
theorem dX13_refused_1 : decode cX13_refused 1 = .ok (.iload_n 1, 1) := by decide +kernel
theorem dX13_refused_2 : decode cX13_refused 2 = .ok (.putfield 45, 3) := by decide +kernel
theorem dX13_refused_5 : decode cX13_refused 5 = .ok (.aload_n 0, 1) := by decide +kernel
theorem dX13_refused_6 : decode cX13_refused 6 = .ok (.iconst (-1), 1) := by decide +kernel
theorem dX13_refused_7 : decode cX13_refused 7 = .ok (.putfield 9, 3) := by decide +kernel
theorem dX13_refused_10 : decode cX13_refused 10 = .ok (.iconst (-1), 1) := by decide +kernel
theorem dX13_refused_11 : decode cX13_refused 11 = .ok (.ireturn, 1) := by decide +kernel
theorem dX13_lost_0 : decode cX13_lost 0 = .ok (.aload_n 0, 1) := by decide +kernel
theorem dX13_lost_1 : decode cX13_lost 1 = .ok (.iload_n 1, 1) := by decide +kernel
theorem dX13_lost_2 : decode cX13_lost 2 = .ok (.invokevirtual 48, 3) := by decide +kernel
theorem dX13_lost_5 : decode cX13_lost 5 = .ok (.pop, 1) := by decide +kernel
theorem dX13_lost_6 : decode cX13_lost 6 = .ok (.bipush (-100), 2) := by decide +kernel
theorem dX13_lost_8 : decode cX13_lost 8 = .ok (.ireturn, 1) := by decide +kernel
theorem dX13_denied_0 : decode cX13_denied 0 = .ok (.aload_n 0, 1) := by decide +kernel
theorem dX13_denied_1 : decode cX13_denied 1 = .ok (.iload_n 1, 1) := by decide +kernel
theorem dX13_denied_2 : decode cX13_denied 2 = .ok (.invokevirtual 48, 3) := by decide +kernel
theorem dX13_denied_5 : decode cX13_denied 5 = .ok (.pop, 1) := by decide +kernel
theorem dX13_denied_6 : decode cX13_denied 6 = .ok (.iconst 0, 1) := by decide +kernel
theorem dX13_denied_7 : decode cX13_denied 7 = .ok (.ireturn, 1) := by decide +kernel
theorem dX13_good_0 : decode cX13_good 0 = .ok (.aload_n 0, 1) := by decide +kernel
theorem dX13_good_1 : decode cX13_good 1 = .ok (.iconst 0, 1) := by decide +kernel
theorem dX13_good_2 : decode cX13_good 2 = .ok (.putfield 45, 3) := by decide +kernel
theorem dX13_good_5 : decode cX13_good 5 = .ok (.aload_n 0, 1) := by decide +kernel
theorem dX13_good_6 : decode cX13_good 6 = .ok (.iconst (-1), 1) := by decide +kernel
theorem dX13_good_7 : decode cX13_good 7 = .ok (.putfield 9, 3) := by decide +kernel
theorem dX13_good_10 : decode cX13_good 10 = .ok (.iload_n 1, 1) := by decide +kernel
theorem dX13_good_11 : decode cX13_good 11 = .ok (.ireturn, 1) := by decide +kernel
theorem dX13_granted_0 : decode cX13_granted 0 = .ok (.aload_n 0, 1) := by decide +kernel
theorem dX13_granted_1 : decode cX13_granted 1 = .ok (.iconst 0, 1) := by decide +kernel
theorem dX13_granted_2 : decode cX13_granted 2 = .ok (.invokevirtual 52, 3) := by decide +kernel
theorem dX13_granted_5 : decode cX13_granted 5 = .ok (.pop, 1) := by decide +kernel
theorem dX13_granted_6 : decode cX13_granted 6 = .ok (.iconst 1, 1) := by decide +kernel
theorem dX13_granted_7 : decode cX13_granted 7 = .ok (.ireturn, 1) := by decide +kernel
theorem dX13_in_0 : decode cX13_in 0 = .ok (.iload_n 0, 1) := by decide +kernel
theorem dX13_in_1 : decode cX13_in 1 = .ok (.iload_n 1, 1) := by decide +kernel
theorem dX13_in_2 : decode cX13_in 2 = .ok (.if_icmp .lt 12, 3) := by decide +kernel
theorem dX13_in_5 : decode cX13_in 5 = .ok (.iload_n 0, 1) := by decide +kernel
theorem dX13_in_6 : decode cX13_in 6 = .ok (.iload_n 2, 1) := by decide +kernel
theorem dX13_in_7 : decode cX13_in 7 = .ok (.if_icmp .gt 7, 3) := by decide +kernel
theorem dX13_in_10 : decode cX13_in 10 = .ok (.iconst 1, 1) := by decide +kernel
theorem dX13_in_11 : decode cX13_in 11 = .ok (.goto 4, 3) := by decide +kernel
theorem dX13_in_14 : decode cX13_in 14 = .ok (.iconst 0, 1) := by decide +kernel
theorem dX13_in_15 : decode cX13_in 15 = .ok (.ireturn, 1) := by decide +kernel
theorem dX13_bit_0 : decode cX13_bit 0 = .ok (.iload_n 0, 1) := by decide +kernel
theorem dX13_bit_1 : decode cX13_bit 1 = .ok (.iload_n 1, 1) := by decide +kernel
theorem dX13_bit_2 : decode cX13_bit 2 = .ok (.ishr, 1) := by decide +kernel
theorem dX13_bit_3 : decode cX13_bit 3 = .ok (.iconst 1, 1) := by decide +kernel
theorem dX13_bit_4 : decode cX13_bit 4 = .ok (.iand, 1) := by decide +kernel
theorem dX13_bit_5 : decode cX13_bit 5 = .ok (.iconst 1, 1) := by decide +kernel
theorem dX13_bit_6 : decode cX13_bit 6 = .ok (.if_icmp .ne 7, 3) := by decide +kernel
theorem dX13_bit_9 : decode cX13_bit 9 = .ok (.iconst 1, 1) := by decide +kernel
theorem dX13_bit_10 : decode cX13_bit 10 = .ok (.goto 4, 3) := by decide +kernel
theorem dX13_bit_13 : decode cX13_bit 13 = .ok (.iconst 0, 1) := by decide +kernel
theorem dX13_bit_14 : decode cX13_bit 14 = .ok (.ireturn, 1) := by decide +kernel
theorem dX13_bits_0 : decode cX13_bits 0 = .ok (.iconst 0, 1) := by decide +kernel
theorem dX13_bits_1 : decode cX13_bits 1 = .ok (.istore_n 1, 1) := by decide +kernel
theorem dX13_bits_2 : decode cX13_bits 2 = .ok (.iload_n 0, 1) := by decide +kernel
theorem dX13_bits_3 : decode cX13_bits 3 = .ok (.istore_n 2, 1) := by decide +kernel
theorem dX13_bits_4 : decode cX13_bits 4 = .ok (.iload_n 2, 1) := by decide +kernel
theorem dX13_bits_5 : decode cX13_bits 5 = .ok (.ifCond .eq 15, 3) := by decide +kernel
theorem dX13_bits_8 : decode cX13_bits 8 = .ok (.iinc 1 1, 3) := by decide +kernel
theorem dX13_bits_11 : decode cX13_bits 11 = .ok (.iload_n 2, 1) := by decide +kernel
theorem dX13_bits_12 : decode cX13_bits 12 = .ok (.iload_n 2, 1) := by decide +kernel
theorem dX13_bits_13 : decode cX13_bits 13 = .ok (.iconst 1, 1) := by decide +kernel
theorem dX13_bits_14 : decode cX13_bits 14 = .ok (.isub, 1) := by decide +kernel
theorem dX13_bits_15 : decode cX13_bits 15 = .ok (.iand, 1) := by decide +kernel
theorem dX13_bits_16 : decode cX13_bits 16 = .ok (.istore_n 2, 1) := by decide +kernel
theorem dX13_bits_17 : decode cX13_bits 17 = .ok (.goto (-13), 3) := by decide +kernel
theorem dX13_bits_20 : decode cX13_bits 20 = .ok (.iload_n 1, 1) := by decide +kernel
theorem dX13_bits_21 : decode cX13_bits 21 = .ok (.ireturn, 1) := by decide +kernel
theorem dX13_common_0 : decode cX13_common 0 = .ok (.lload_n 0, 1) := by decide +kernel
theorem dX13_common_1 : decode cX13_common 1 = .ok (.lstore 4, 2) := by decide +kernel
theorem dX13_common_3 : decode cX13_common 3 = .ok (.lload_n 2, 1) := by decide +kernel
theorem dX13_common_4 : decode cX13_common 4 = .ok (.lstore 6, 2) := by decide +kernel
theorem dX13_common_6 : decode cX13_common 6 = .ok (.lload 6, 2) := by decide +kernel
theorem dX13_common_8 : decode cX13_common 8 = .ok (.lconst 0, 1) := by decide +kernel
theorem dX13_common_9 : decode cX13_common 9 = .ok (.lcmp, 1) := by decide +kernel
theorem dX13_common_10 : decode cX13_common 10 = .ok (.ifCond .eq 21, 3) := by decide +kernel
theorem dX13_common_13 : decode cX13_common 13 = .ok (.lload 4, 2) := by decide +kernel
theorem dX13_common_15 : decode cX13_common 15 = .ok (.lload 6, 2) := by decide +kernel
theorem dX13_common_17 : decode cX13_common 17 = .ok (.lrem, 1) := by decide +kernel
theorem dX13_common_18 : decode cX13_common 18 = .ok (.lstore 8, 2) := by decide +kernel
theorem dX13_common_20 : decode cX13_common 20 = .ok (.lload 6, 2) := by decide +kernel
theorem dX13_common_22 : decode cX13_common 22 = .ok (.lstore 4, 2) := by decide +kernel
theorem dX13_common_24 : decode cX13_common 24 = .ok (.lload 8, 2) := by decide +kernel
theorem dX13_common_26 : decode cX13_common 26 = .ok (.lstore 6, 2) := by decide +kernel
theorem dX13_common_28 : decode cX13_common 28 = .ok (.goto (-22), 3) := by decide +kernel
theorem dX13_common_31 : decode cX13_common 31 = .ok (.lload 4, 2) := by decide +kernel
theorem dX13_common_33 : decode cX13_common 33 = .ok (.lreturn, 1) := by decide +kernel
theorem dX13_fraction_0 : decode cX13_fraction 0 = .ok (.aload_n 0, 1) := by decide +kernel
theorem dX13_fraction_1 : decode cX13_fraction 1 = .ok (.iconst 0, 1) := by decide +kernel
theorem dX13_fraction_2 : decode cX13_fraction 2 = .ok (.invokevirtual 52, 3) := by decide +kernel
theorem dX13_fraction_5 : decode cX13_fraction 5 = .ok (.pop, 1) := by decide +kernel
theorem dX13_fraction_6 : decode cX13_fraction 6 = .ok (.iload 5, 2) := by decide +kernel
theorem dX13_fraction_8 : decode cX13_fraction 8 = .ok (.ifCond .eq 7, 3) := by decide +kernel
theorem dX13_fraction_11 : decode cX13_fraction 11 = .ok (.lload_n 3, 1) := by decide +kernel
theorem dX13_fraction_12 : decode cX13_fraction 12 = .ok (.goto 4, 3) := by decide +kernel
theorem dX13_fraction_15 : decode cX13_fraction 15 = .ok (.lload_n 1, 1) := by decide +kernel
theorem dX13_fraction_16 : decode cX13_fraction 16 = .ok (.lload_n 1, 1) := by decide +kernel
theorem dX13_fraction_17 : decode cX13_fraction 17 = .ok (.lload_n 3, 1) := by decide +kernel
theorem dX13_fraction_18 : decode cX13_fraction 18 = .ok (.invokestatic 55, 3) := by decide +kernel
theorem dX13_fraction_21 : decode cX13_fraction 21 = .ok (.ldiv, 1) := by decide +kernel
theorem dX13_fraction_22 : decode cX13_fraction 22 = .ok (.lreturn, 1) := by decide +kernel
theorem dX13_byteAt_0 : decode cX13_byteAt 0 = .ok (.iload_n 1, 1) := by decide +kernel
theorem dX13_byteAt_1 : decode cX13_byteAt 1 = .ok (.aload_n 0, 1) := by decide +kernel
theorem dX13_byteAt_2 : decode cX13_byteAt 2 = .ok (.getfield 59, 3) := by decide +kernel
theorem dX13_byteAt_5 : decode cX13_byteAt 5 = .ok (.if_icmp .ge 16, 3) := by decide +kernel
theorem dX13_byteAt_8 : decode cX13_byteAt 8 = .ok (.aload_n 0, 1) := by decide +kernel
theorem dX13_byteAt_9 : decode cX13_byteAt 9 = .ok (.getfield 13, 3) := by decide +kernel
theorem dX13_byteAt_12 : decode cX13_byteAt 12 = .ok (.iload_n 1, 1) := by decide +kernel
theorem dX13_byteAt_13 : decode cX13_byteAt 13 = .ok (.baload, 1) := by decide +kernel
theorem dX13_byteAt_14 : decode cX13_byteAt 14 = .ok (.sipush 255, 3) := by decide +kernel
theorem dX13_byteAt_17 : decode cX13_byteAt 17 = .ok (.iand, 1) := by decide +kernel
theorem dX13_byteAt_18 : decode cX13_byteAt 18 = .ok (.goto 4, 3) := by decide +kernel
theorem dX13_byteAt_21 : decode cX13_byteAt 21 = .ok (.iconst (-1), 1) := by decide +kernel
theorem dX13_byteAt_22 : decode cX13_byteAt 22 = .ok (.ireturn, 1) := by decide +kernel
theorem dX13_isLetter_0 : decode cX13_isLetter 0 = .ok (.iload_n 0, 1) := by decide +kernel
theorem dX13_isLetter_1 : decode cX13_isLetter 1 = .ok (.bipush 97, 2) := by decide +kernel
theorem dX13_isLetter_3 : decode cX13_isLetter 3 = .ok (.if_icmp .lt 13, 3) := by decide +kernel
theorem dX13_isLetter_6 : decode cX13_isLetter 6 = .ok (.iload_n 0, 1) := by decide +kernel
theorem dX13_isLetter_7 : decode cX13_isLetter 7 = .ok (.bipush 122, 2) := by decide +kernel
theorem dX13_isLetter_9 : decode cX13_isLetter 9 = .ok (.if_icmp .gt 7, 3) := by decide +kernel
theorem dX13_isLetter_12 : decode cX13_isLetter 12 = .ok (.iconst 1, 1) := by decide +kernel
theorem dX13_isLetter_13 : decode cX13_isLetter 13 = .ok (.goto 4, 3) := by decide +kernel
theorem dX13_isLetter_16 : decode cX13_isLetter 16 = .ok (.iconst 0, 1) := by decide +kernel
theorem dX13_isLetter_17 : decode cX13_isLetter 17 = .ok (.ireturn, 1) := by decide +kernel
theorem dX13_isDigit_0 : decode cX13_isDigit 0 = .ok (.iload_n 0, 1) := by decide +kernel
theorem dX13_isDigit_1 : decode cX13_isDigit 1 = .ok (.bipush 48, 2) := by decide +kernel
theorem dX13_isDigit_3 : decode cX13_isDigit 3 = .ok (.if_icmp .lt 13, 3) := by decide +kernel
theorem dX13_isDigit_6 : decode cX13_isDigit 6 = .ok (.iload_n 0, 1) := by decide +kernel
theorem dX13_isDigit_7 : decode cX13_isDigit 7 = .ok (.bipush 57, 2) := by decide +kernel
theorem dX13_isDigit_9 : decode cX13_isDigit 9 = .ok (.if_icmp .gt 7, 3) := by decide +kernel
theorem dX13_isDigit_12 : decode cX13_isDigit 12 = .ok (.iconst 1, 1) := by decide +kernel
theorem dX13_isDigit_13 : decode cX13_isDigit 13 = .ok (.goto 4, 3) := by decide +kernel
theorem dX13_isDigit_16 : decode cX13_isDigit 16 = .ok (.iconst 0, 1) := by decide +kernel
theorem dX13_isDigit_17 : decode cX13_isDigit 17 = .ok (.ireturn, 1) := by decide +kernel
theorem dX13_packed_0 : decode cX13_packed 0 = .ok (.lconst 0, 1) := by decide +kernel
theorem dX13_packed_1 : decode cX13_packed 1 = .ok (.lstore_n 1, 1) := by decide +kernel
theorem dX13_packed_2 : decode cX13_packed 2 = .ok (.iconst 0, 1) := by decide +kernel
theorem dX13_packed_3 : decode cX13_packed 3 = .ok (.istore_n 3, 1) := by decide +kernel
theorem dX13_packed_4 : decode cX13_packed 4 = .ok (.iload_n 3, 1) := by decide +kernel
theorem dX13_packed_5 : decode cX13_packed 5 = .ok (.aload_n 0, 1) := by decide +kernel
theorem dX13_packed_6 : decode cX13_packed 6 = .ok (.invokevirtual 62, 3) := by decide +kernel
theorem dX13_packed_9 : decode cX13_packed 9 = .ok (.if_icmp .ge 27, 3) := by decide +kernel
theorem dX13_packed_12 : decode cX13_packed 12 = .ok (.ldc2_w 68, 3) := by decide +kernel
theorem dX13_packed_15 : decode cX13_packed 15 = .ok (.lload_n 1, 1) := by decide +kernel
theorem dX13_packed_16 : decode cX13_packed 16 = .ok (.lmul, 1) := by decide +kernel
theorem dX13_packed_17 : decode cX13_packed 17 = .ok (.aload_n 0, 1) := by decide +kernel
theorem dX13_packed_18 : decode cX13_packed 18 = .ok (.iload_n 3, 1) := by decide +kernel
theorem dX13_packed_19 : decode cX13_packed 19 = .ok (.invokevirtual 70, 3) := by decide +kernel
theorem dX13_packed_22 : decode cX13_packed 22 = .ok (.bipush 97, 2) := by decide +kernel
theorem dX13_packed_24 : decode cX13_packed 24 = .ok (.isub, 1) := by decide +kernel
theorem dX13_packed_25 : decode cX13_packed 25 = .ok (.iconst 1, 1) := by decide +kernel
theorem dX13_packed_26 : decode cX13_packed 26 = .ok (.iadd, 1) := by decide +kernel
theorem dX13_packed_27 : decode cX13_packed 27 = .ok (.i2l, 1) := by decide +kernel
theorem dX13_packed_28 : decode cX13_packed 28 = .ok (.ladd, 1) := by decide +kernel
theorem dX13_packed_29 : decode cX13_packed 29 = .ok (.lstore_n 1, 1) := by decide +kernel
theorem dX13_packed_30 : decode cX13_packed 30 = .ok (.iinc 3 1, 3) := by decide +kernel
theorem dX13_packed_33 : decode cX13_packed 33 = .ok (.goto (-29), 3) := by decide +kernel
theorem dX13_packed_36 : decode cX13_packed 36 = .ok (.lload_n 1, 1) := by decide +kernel
theorem dX13_packed_37 : decode cX13_packed 37 = .ok (.lreturn, 1) := by decide +kernel
theorem dX13_goesOn_0 : decode cX13_goesOn 0 = .ok (.aload_n 0, 1) := by decide +kernel
theorem dX13_goesOn_1 : decode cX13_goesOn 1 = .ok (.getfield 74, 3) := by decide +kernel
theorem dX13_goesOn_4 : decode cX13_goesOn 4 = .ok (.iconst 5, 1) := by decide +kernel
theorem dX13_goesOn_5 : decode cX13_goesOn 5 = .ok (.if_icmp .ne 4, 3) := by decide +kernel
theorem dX13_goesOn_8 : decode cX13_goesOn 8 = .ok (.return_, 1) := by decide +kernel
theorem dX13_goesOn_9 : decode cX13_goesOn 9 = .ok (.aload_n 0, 1) := by decide +kernel
theorem dX13_goesOn_10 : decode cX13_goesOn 10 = .ok (.aload_n 0, 1) := by decide +kernel
theorem dX13_goesOn_11 : decode cX13_goesOn 11 = .ok (.getfield 77, 3) := by decide +kernel
theorem dX13_goesOn_14 : decode cX13_goesOn 14 = .ok (.invokevirtual 80, 3) := by decide +kernel
theorem dX13_goesOn_17 : decode cX13_goesOn 17 = .ok (.bipush 32, 2) := by decide +kernel
theorem dX13_goesOn_19 : decode cX13_goesOn 19 = .ok (.if_icmp .ne 16, 3) := by decide +kernel
theorem dX13_goesOn_22 : decode cX13_goesOn 22 = .ok (.aload_n 0, 1) := by decide +kernel
theorem dX13_goesOn_23 : decode cX13_goesOn 23 = .ok (.dup, 1) := by decide +kernel
theorem dX13_goesOn_24 : decode cX13_goesOn 24 = .ok (.getfield 77, 3) := by decide +kernel
theorem dX13_goesOn_27 : decode cX13_goesOn 27 = .ok (.iconst 1, 1) := by decide +kernel
theorem dX13_goesOn_28 : decode cX13_goesOn 28 = .ok (.iadd, 1) := by decide +kernel
theorem dX13_goesOn_29 : decode cX13_goesOn 29 = .ok (.putfield 77, 3) := by decide +kernel
theorem dX13_goesOn_32 : decode cX13_goesOn 32 = .ok (.goto (-23), 3) := by decide +kernel
theorem dX13_goesOn_35 : decode cX13_goesOn 35 = .ok (.aload_n 0, 1) := by decide +kernel
theorem dX13_goesOn_36 : decode cX13_goesOn 36 = .ok (.aload_n 0, 1) := by decide +kernel
theorem dX13_goesOn_37 : decode cX13_goesOn 37 = .ok (.getfield 77, 3) := by decide +kernel
theorem dX13_goesOn_40 : decode cX13_goesOn 40 = .ok (.putfield 83, 3) := by decide +kernel
theorem dX13_goesOn_43 : decode cX13_goesOn 43 = .ok (.aload_n 0, 1) := by decide +kernel
theorem dX13_goesOn_44 : decode cX13_goesOn 44 = .ok (.iconst 0, 1) := by decide +kernel
theorem dX13_goesOn_45 : decode cX13_goesOn 45 = .ok (.putfield 74, 3) := by decide +kernel
theorem dX13_goesOn_48 : decode cX13_goesOn 48 = .ok (.aload_n 0, 1) := by decide +kernel
theorem dX13_goesOn_49 : decode cX13_goesOn 49 = .ok (.aload_n 0, 1) := by decide +kernel
theorem dX13_goesOn_50 : decode cX13_goesOn 50 = .ok (.getfield 77, 3) := by decide +kernel
theorem dX13_goesOn_53 : decode cX13_goesOn 53 = .ok (.invokevirtual 80, 3) := by decide +kernel
theorem dX13_goesOn_56 : decode cX13_goesOn 56 = .ok (.istore_n 1, 1) := by decide +kernel
theorem dX13_goesOn_57 : decode cX13_goesOn 57 = .ok (.iconst 0, 1) := by decide +kernel
theorem dX13_goesOn_58 : decode cX13_goesOn 58 = .ok (.istore_n 2, 1) := by decide +kernel
theorem dX13_goesOn_59 : decode cX13_goesOn 59 = .ok (.iload_n 1, 1) := by decide +kernel
theorem dX13_goesOn_60 : decode cX13_goesOn 60 = .ok (.iconst (-1), 1) := by decide +kernel
theorem dX13_goesOn_61 : decode cX13_goesOn 61 = .ok (.if_icmp .ne 11, 3) := by decide +kernel
theorem dX13_goesOn_64 : decode cX13_goesOn 64 = .ok (.aload_n 0, 1) := by decide +kernel
theorem dX13_goesOn_65 : decode cX13_goesOn 65 = .ok (.iconst 1, 1) := by decide +kernel
theorem dX13_goesOn_66 : decode cX13_goesOn 66 = .ok (.putfield 74, 3) := by decide +kernel
theorem dX13_goesOn_69 : decode cX13_goesOn 69 = .ok (.goto 207, 3) := by decide +kernel
theorem dX13_goesOn_72 : decode cX13_goesOn 72 = .ok (.iload_n 1, 1) := by decide +kernel
theorem dX13_goesOn_73 : decode cX13_goesOn 73 = .ok (.invokestatic 86, 3) := by decide +kernel
theorem dX13_goesOn_76 : decode cX13_goesOn 76 = .ok (.ifCond .eq 85, 3) := by decide +kernel
theorem dX13_goesOn_79 : decode cX13_goesOn 79 = .ok (.aload_n 0, 1) := by decide +kernel
theorem dX13_goesOn_80 : decode cX13_goesOn 80 = .ok (.lconst 0, 1) := by decide +kernel
theorem dX13_goesOn_81 : decode cX13_goesOn 81 = .ok (.putfield 90, 3) := by decide +kernel
theorem dX13_goesOn_84 : decode cX13_goesOn 84 = .ok (.aload_n 0, 1) := by decide +kernel
theorem dX13_goesOn_85 : decode cX13_goesOn 85 = .ok (.aload_n 0, 1) := by decide +kernel
theorem dX13_goesOn_86 : decode cX13_goesOn 86 = .ok (.getfield 77, 3) := by decide +kernel
theorem dX13_goesOn_89 : decode cX13_goesOn 89 = .ok (.invokevirtual 80, 3) := by decide +kernel
theorem dX13_goesOn_92 : decode cX13_goesOn 92 = .ok (.invokestatic 86, 3) := by decide +kernel
theorem dX13_goesOn_95 : decode cX13_goesOn 95 = .ok (.ifCond .eq 52, 3) := by decide +kernel
theorem dX13_goesOn_98 : decode cX13_goesOn 98 = .ok (.iload_n 2, 1) := by decide +kernel
theorem dX13_goesOn_99 : decode cX13_goesOn 99 = .ok (.bipush 8, 2) := by decide +kernel
theorem dX13_goesOn_101 : decode cX13_goesOn 101 = .ok (.if_icmp .ge 30, 3) := by decide +kernel
theorem dX13_goesOn_104 : decode cX13_goesOn 104 = .ok (.aload_n 0, 1) := by decide +kernel
theorem dX13_goesOn_105 : decode cX13_goesOn 105 = .ok (.ldc2_w 68, 3) := by decide +kernel
theorem dX13_goesOn_108 : decode cX13_goesOn 108 = .ok (.aload_n 0, 1) := by decide +kernel
theorem dX13_goesOn_109 : decode cX13_goesOn 109 = .ok (.getfield 90, 3) := by decide +kernel
theorem dX13_goesOn_112 : decode cX13_goesOn 112 = .ok (.lmul, 1) := by decide +kernel
theorem dX13_goesOn_113 : decode cX13_goesOn 113 = .ok (.aload_n 0, 1) := by decide +kernel
theorem dX13_goesOn_114 : decode cX13_goesOn 114 = .ok (.aload_n 0, 1) := by decide +kernel
theorem dX13_goesOn_115 : decode cX13_goesOn 115 = .ok (.getfield 77, 3) := by decide +kernel
theorem dX13_goesOn_118 : decode cX13_goesOn 118 = .ok (.invokevirtual 80, 3) := by decide +kernel
theorem dX13_goesOn_121 : decode cX13_goesOn 121 = .ok (.bipush 97, 2) := by decide +kernel
theorem dX13_goesOn_123 : decode cX13_goesOn 123 = .ok (.isub, 1) := by decide +kernel
theorem dX13_goesOn_124 : decode cX13_goesOn 124 = .ok (.iconst 1, 1) := by decide +kernel
theorem dX13_goesOn_125 : decode cX13_goesOn 125 = .ok (.iadd, 1) := by decide +kernel
theorem dX13_goesOn_126 : decode cX13_goesOn 126 = .ok (.i2l, 1) := by decide +kernel
theorem dX13_goesOn_127 : decode cX13_goesOn 127 = .ok (.ladd, 1) := by decide +kernel
theorem dX13_goesOn_128 : decode cX13_goesOn 128 = .ok (.putfield 90, 3) := by decide +kernel
theorem dX13_goesOn_131 : decode cX13_goesOn 131 = .ok (.iinc 2 1, 3) := by decide +kernel
theorem dX13_goesOn_134 : decode cX13_goesOn 134 = .ok (.aload_n 0, 1) := by decide +kernel
theorem dX13_goesOn_135 : decode cX13_goesOn 135 = .ok (.dup, 1) := by decide +kernel
theorem dX13_goesOn_136 : decode cX13_goesOn 136 = .ok (.getfield 77, 3) := by decide +kernel
theorem dX13_goesOn_139 : decode cX13_goesOn 139 = .ok (.iconst 1, 1) := by decide +kernel
theorem dX13_goesOn_140 : decode cX13_goesOn 140 = .ok (.iadd, 1) := by decide +kernel
theorem dX13_goesOn_141 : decode cX13_goesOn 141 = .ok (.putfield 77, 3) := by decide +kernel
theorem dX13_goesOn_144 : decode cX13_goesOn 144 = .ok (.goto (-60), 3) := by decide +kernel
theorem dX13_goesOn_147 : decode cX13_goesOn 147 = .ok (.iload_n 2, 1) := by decide +kernel
theorem dX13_goesOn_148 : decode cX13_goesOn 148 = .ok (.bipush 8, 2) := by decide +kernel
theorem dX13_goesOn_150 : decode cX13_goesOn 150 = .ok (.if_icmp .gt 126, 3) := by decide +kernel
theorem dX13_goesOn_153 : decode cX13_goesOn 153 = .ok (.aload_n 0, 1) := by decide +kernel
theorem dX13_goesOn_154 : decode cX13_goesOn 154 = .ok (.iconst 2, 1) := by decide +kernel
theorem dX13_goesOn_155 : decode cX13_goesOn 155 = .ok (.putfield 74, 3) := by decide +kernel
theorem dX13_goesOn_158 : decode cX13_goesOn 158 = .ok (.goto 118, 3) := by decide +kernel
theorem dX13_goesOn_161 : decode cX13_goesOn 161 = .ok (.iload_n 1, 1) := by decide +kernel
theorem dX13_goesOn_162 : decode cX13_goesOn 162 = .ok (.invokestatic 94, 3) := by decide +kernel
theorem dX13_goesOn_165 : decode cX13_goesOn 165 = .ok (.ifCond .eq 79, 3) := by decide +kernel
theorem dX13_goesOn_168 : decode cX13_goesOn 168 = .ok (.aload_n 0, 1) := by decide +kernel
theorem dX13_goesOn_169 : decode cX13_goesOn 169 = .ok (.iconst 0, 1) := by decide +kernel
theorem dX13_goesOn_170 : decode cX13_goesOn 170 = .ok (.putfield 97, 3) := by decide +kernel
theorem dX13_goesOn_173 : decode cX13_goesOn 173 = .ok (.aload_n 0, 1) := by decide +kernel
theorem dX13_goesOn_174 : decode cX13_goesOn 174 = .ok (.aload_n 0, 1) := by decide +kernel
theorem dX13_goesOn_175 : decode cX13_goesOn 175 = .ok (.getfield 77, 3) := by decide +kernel
theorem dX13_goesOn_178 : decode cX13_goesOn 178 = .ok (.invokevirtual 80, 3) := by decide +kernel
theorem dX13_goesOn_181 : decode cX13_goesOn 181 = .ok (.invokestatic 94, 3) := by decide +kernel
theorem dX13_goesOn_184 : decode cX13_goesOn 184 = .ok (.ifCond .eq 47, 3) := by decide +kernel
theorem dX13_goesOn_187 : decode cX13_goesOn 187 = .ok (.iload_n 2, 1) := by decide +kernel
theorem dX13_goesOn_188 : decode cX13_goesOn 188 = .ok (.iconst 3, 1) := by decide +kernel
theorem dX13_goesOn_189 : decode cX13_goesOn 189 = .ok (.if_icmp .ge 26, 3) := by decide +kernel
theorem dX13_goesOn_192 : decode cX13_goesOn 192 = .ok (.aload_n 0, 1) := by decide +kernel
theorem dX13_goesOn_193 : decode cX13_goesOn 193 = .ok (.bipush 10, 2) := by decide +kernel
theorem dX13_goesOn_195 : decode cX13_goesOn 195 = .ok (.aload_n 0, 1) := by decide +kernel
theorem dX13_goesOn_196 : decode cX13_goesOn 196 = .ok (.getfield 97, 3) := by decide +kernel
theorem dX13_goesOn_199 : decode cX13_goesOn 199 = .ok (.imul, 1) := by decide +kernel
theorem dX13_goesOn_200 : decode cX13_goesOn 200 = .ok (.aload_n 0, 1) := by decide +kernel
theorem dX13_goesOn_201 : decode cX13_goesOn 201 = .ok (.aload_n 0, 1) := by decide +kernel
theorem dX13_goesOn_202 : decode cX13_goesOn 202 = .ok (.getfield 77, 3) := by decide +kernel
theorem dX13_goesOn_205 : decode cX13_goesOn 205 = .ok (.invokevirtual 80, 3) := by decide +kernel
theorem dX13_goesOn_208 : decode cX13_goesOn 208 = .ok (.iadd, 1) := by decide +kernel
theorem dX13_goesOn_209 : decode cX13_goesOn 209 = .ok (.bipush 48, 2) := by decide +kernel
theorem dX13_goesOn_211 : decode cX13_goesOn 211 = .ok (.isub, 1) := by decide +kernel
theorem dX13_goesOn_212 : decode cX13_goesOn 212 = .ok (.putfield 97, 3) := by decide +kernel
theorem dX13_goesOn_215 : decode cX13_goesOn 215 = .ok (.iinc 2 1, 3) := by decide +kernel
theorem dX13_goesOn_218 : decode cX13_goesOn 218 = .ok (.aload_n 0, 1) := by decide +kernel
theorem dX13_goesOn_219 : decode cX13_goesOn 219 = .ok (.dup, 1) := by decide +kernel
theorem dX13_goesOn_220 : decode cX13_goesOn 220 = .ok (.getfield 77, 3) := by decide +kernel
theorem dX13_goesOn_223 : decode cX13_goesOn 223 = .ok (.iconst 1, 1) := by decide +kernel
theorem dX13_goesOn_224 : decode cX13_goesOn 224 = .ok (.iadd, 1) := by decide +kernel
theorem dX13_goesOn_225 : decode cX13_goesOn 225 = .ok (.putfield 77, 3) := by decide +kernel
theorem dX13_goesOn_228 : decode cX13_goesOn 228 = .ok (.goto (-55), 3) := by decide +kernel
theorem dX13_goesOn_231 : decode cX13_goesOn 231 = .ok (.iload_n 2, 1) := by decide +kernel
theorem dX13_goesOn_232 : decode cX13_goesOn 232 = .ok (.iconst 3, 1) := by decide +kernel
theorem dX13_goesOn_233 : decode cX13_goesOn 233 = .ok (.if_icmp .gt 43, 3) := by decide +kernel
theorem dX13_goesOn_236 : decode cX13_goesOn 236 = .ok (.aload_n 0, 1) := by decide +kernel
theorem dX13_goesOn_237 : decode cX13_goesOn 237 = .ok (.iconst 3, 1) := by decide +kernel
theorem dX13_goesOn_238 : decode cX13_goesOn 238 = .ok (.putfield 74, 3) := by decide +kernel
theorem dX13_goesOn_241 : decode cX13_goesOn 241 = .ok (.goto 35, 3) := by decide +kernel
theorem dX13_goesOn_244 : decode cX13_goesOn 244 = .ok (.iload_n 1, 1) := by decide +kernel
theorem dX13_goesOn_245 : decode cX13_goesOn 245 = .ok (.bipush 59, 2) := by decide +kernel
theorem dX13_goesOn_247 : decode cX13_goesOn 247 = .ok (.if_icmp .eq 9, 3) := by decide +kernel
theorem dX13_goesOn_250 : decode cX13_goesOn 250 = .ok (.iload_n 1, 1) := by decide +kernel
theorem dX13_goesOn_251 : decode cX13_goesOn 251 = .ok (.bipush 44, 2) := by decide +kernel
theorem dX13_goesOn_253 : decode cX13_goesOn 253 = .ok (.if_icmp .ne 23, 3) := by decide +kernel
theorem dX13_goesOn_256 : decode cX13_goesOn 256 = .ok (.aload_n 0, 1) := by decide +kernel
theorem dX13_goesOn_257 : decode cX13_goesOn 257 = .ok (.iconst 4, 1) := by decide +kernel
theorem dX13_goesOn_258 : decode cX13_goesOn 258 = .ok (.putfield 74, 3) := by decide +kernel
theorem dX13_goesOn_261 : decode cX13_goesOn 261 = .ok (.aload_n 0, 1) := by decide +kernel
theorem dX13_goesOn_262 : decode cX13_goesOn 262 = .ok (.iload_n 1, 1) := by decide +kernel
theorem dX13_goesOn_263 : decode cX13_goesOn 263 = .ok (.putfield 97, 3) := by decide +kernel
theorem dX13_goesOn_266 : decode cX13_goesOn 266 = .ok (.aload_n 0, 1) := by decide +kernel
theorem dX13_goesOn_267 : decode cX13_goesOn 267 = .ok (.dup, 1) := by decide +kernel
theorem dX13_goesOn_268 : decode cX13_goesOn 268 = .ok (.getfield 77, 3) := by decide +kernel
theorem dX13_goesOn_271 : decode cX13_goesOn 271 = .ok (.iconst 1, 1) := by decide +kernel
theorem dX13_goesOn_272 : decode cX13_goesOn 272 = .ok (.iadd, 1) := by decide +kernel
theorem dX13_goesOn_273 : decode cX13_goesOn 273 = .ok (.putfield 77, 3) := by decide +kernel
theorem dX13_goesOn_276 : decode cX13_goesOn 276 = .ok (.return_, 1) := by decide +kernel
theorem dX13_flaw_0 : decode cX13_flaw 0 = .ok (.aload_n 0, 1) := by decide +kernel
theorem dX13_flaw_1 : decode cX13_flaw 1 = .ok (.getfield 74, 3) := by decide +kernel
theorem dX13_flaw_4 : decode cX13_flaw 4 = .ok (.iconst 5, 1) := by decide +kernel
theorem dX13_flaw_5 : decode cX13_flaw 5 = .ok (.if_icmp .ne 4, 3) := by decide +kernel
theorem dX13_flaw_8 : decode cX13_flaw 8 = .ok (.return_, 1) := by decide +kernel
theorem dX13_flaw_9 : decode cX13_flaw 9 = .ok (.aload_n 0, 1) := by decide +kernel
theorem dX13_flaw_10 : decode cX13_flaw 10 = .ok (.iload_n 1, 1) := by decide +kernel
theorem dX13_flaw_11 : decode cX13_flaw 11 = .ok (.putfield 100, 3) := by decide +kernel
theorem dX13_flaw_14 : decode cX13_flaw 14 = .ok (.aload_n 0, 1) := by decide +kernel
theorem dX13_flaw_15 : decode cX13_flaw 15 = .ok (.aload_n 0, 1) := by decide +kernel
theorem dX13_flaw_16 : decode cX13_flaw 16 = .ok (.getfield 83, 3) := by decide +kernel
theorem dX13_flaw_19 : decode cX13_flaw 19 = .ok (.putfield 103, 3) := by decide +kernel
theorem dX13_flaw_22 : decode cX13_flaw 22 = .ok (.aload_n 0, 1) := by decide +kernel
theorem dX13_flaw_23 : decode cX13_flaw 23 = .ok (.iconst 5, 1) := by decide +kernel
theorem dX13_flaw_24 : decode cX13_flaw 24 = .ok (.putfield 74, 3) := by decide +kernel
theorem dX13_flaw_27 : decode cX13_flaw 27 = .ok (.return_, 1) := by decide +kernel
theorem dX13_isWord_0 : decode cX13_isWord 0 = .ok (.aload_n 0, 1) := by decide +kernel
theorem dX13_isWord_1 : decode cX13_isWord 1 = .ok (.getfield 74, 3) := by decide +kernel
theorem dX13_isWord_4 : decode cX13_isWord 4 = .ok (.iconst 2, 1) := by decide +kernel
theorem dX13_isWord_5 : decode cX13_isWord 5 = .ok (.if_icmp .ne 19, 3) := by decide +kernel
theorem dX13_isWord_8 : decode cX13_isWord 8 = .ok (.aload_n 0, 1) := by decide +kernel
theorem dX13_isWord_9 : decode cX13_isWord 9 = .ok (.getfield 90, 3) := by decide +kernel
theorem dX13_isWord_12 : decode cX13_isWord 12 = .ok (.aload_n 1, 1) := by decide +kernel
theorem dX13_isWord_13 : decode cX13_isWord 13 = .ok (.invokestatic 106, 3) := by decide +kernel
theorem dX13_isWord_16 : decode cX13_isWord 16 = .ok (.lcmp, 1) := by decide +kernel
theorem dX13_isWord_17 : decode cX13_isWord 17 = .ok (.ifCond .ne 7, 3) := by decide +kernel
theorem dX13_isWord_20 : decode cX13_isWord 20 = .ok (.iconst 1, 1) := by decide +kernel
theorem dX13_isWord_21 : decode cX13_isWord 21 = .ok (.goto 4, 3) := by decide +kernel
theorem dX13_isWord_24 : decode cX13_isWord 24 = .ok (.iconst 0, 1) := by decide +kernel
theorem dX13_isWord_25 : decode cX13_isWord 25 = .ok (.ireturn, 1) := by decide +kernel
theorem dX13_eats_0 : decode cX13_eats 0 = .ok (.aload_n 0, 1) := by decide +kernel
theorem dX13_eats_1 : decode cX13_eats 1 = .ok (.getfield 74, 3) := by decide +kernel
theorem dX13_eats_4 : decode cX13_eats 4 = .ok (.iconst 4, 1) := by decide +kernel
theorem dX13_eats_5 : decode cX13_eats 5 = .ok (.if_icmp .ne 15, 3) := by decide +kernel
theorem dX13_eats_8 : decode cX13_eats 8 = .ok (.aload_n 0, 1) := by decide +kernel
theorem dX13_eats_9 : decode cX13_eats 9 = .ok (.getfield 97, 3) := by decide +kernel
theorem dX13_eats_12 : decode cX13_eats 12 = .ok (.iload_n 1, 1) := by decide +kernel
theorem dX13_eats_13 : decode cX13_eats 13 = .ok (.if_icmp .ne 7, 3) := by decide +kernel
theorem dX13_eats_16 : decode cX13_eats 16 = .ok (.iconst 1, 1) := by decide +kernel
theorem dX13_eats_17 : decode cX13_eats 17 = .ok (.goto 4, 3) := by decide +kernel
theorem dX13_eats_20 : decode cX13_eats 20 = .ok (.iconst 0, 1) := by decide +kernel
theorem dX13_eats_21 : decode cX13_eats 21 = .ok (.istore_n 2, 1) := by decide +kernel
theorem dX13_eats_22 : decode cX13_eats 22 = .ok (.iload_n 2, 1) := by decide +kernel
theorem dX13_eats_23 : decode cX13_eats 23 = .ok (.ifCond .eq 7, 3) := by decide +kernel
theorem dX13_eats_26 : decode cX13_eats 26 = .ok (.aload_n 0, 1) := by decide +kernel
theorem dX13_eats_27 : decode cX13_eats 27 = .ok (.invokevirtual 110, 3) := by decide +kernel
theorem dX13_eats_30 : decode cX13_eats 30 = .ok (.iload_n 2, 1) := by decide +kernel
theorem dX13_eats_31 : decode cX13_eats 31 = .ok (.ireturn, 1) := by decide +kernel
theorem dX13_needs_0 : decode cX13_needs 0 = .ok (.aload_n 0, 1) := by decide +kernel
theorem dX13_needs_1 : decode cX13_needs 1 = .ok (.aload_n 1, 1) := by decide +kernel
theorem dX13_needs_2 : decode cX13_needs 2 = .ok (.invokevirtual 113, 3) := by decide +kernel
theorem dX13_needs_5 : decode cX13_needs 5 = .ok (.ifCond .ne 8, 3) := by decide +kernel
theorem dX13_needs_8 : decode cX13_needs 8 = .ok (.aload_n 0, 1) := by decide +kernel
theorem dX13_needs_9 : decode cX13_needs 9 = .ok (.iconst 1, 1) := by decide +kernel
theorem dX13_needs_10 : decode cX13_needs 10 = .ok (.invokevirtual 117, 3) := by decide +kernel
theorem dX13_needs_13 : decode cX13_needs 13 = .ok (.aload_n 0, 1) := by decide +kernel
theorem dX13_needs_14 : decode cX13_needs 14 = .ok (.invokevirtual 110, 3) := by decide +kernel
theorem dX13_needs_17 : decode cX13_needs 17 = .ok (.return_, 1) := by decide +kernel
theorem dX13_readWhole_0 : decode cX13_readWhole 0 = .ok (.aload_n 0, 1) := by decide +kernel
theorem dX13_readWhole_1 : decode cX13_readWhole 1 = .ok (.getfield 74, 3) := by decide +kernel
theorem dX13_readWhole_4 : decode cX13_readWhole 4 = .ok (.iconst 3, 1) := by decide +kernel
theorem dX13_readWhole_5 : decode cX13_readWhole 5 = .ok (.if_icmp .eq 11, 3) := by decide +kernel
theorem dX13_readWhole_8 : decode cX13_readWhole 8 = .ok (.aload_n 0, 1) := by decide +kernel
theorem dX13_readWhole_9 : decode cX13_readWhole 9 = .ok (.iconst 1, 1) := by decide +kernel
theorem dX13_readWhole_10 : decode cX13_readWhole 10 = .ok (.invokevirtual 117, 3) := by decide +kernel
theorem dX13_readWhole_13 : decode cX13_readWhole 13 = .ok (.goto 20, 3) := by decide +kernel
theorem dX13_readWhole_16 : decode cX13_readWhole 16 = .ok (.aload_n 0, 1) := by decide +kernel
theorem dX13_readWhole_17 : decode cX13_readWhole 17 = .ok (.getfield 97, 3) := by decide +kernel
theorem dX13_readWhole_20 : decode cX13_readWhole 20 = .ok (.iload_n 1, 1) := by decide +kernel
theorem dX13_readWhole_21 : decode cX13_readWhole 21 = .ok (.iload_n 2, 1) := by decide +kernel
theorem dX13_readWhole_22 : decode cX13_readWhole 22 = .ok (.invokestatic 121, 3) := by decide +kernel
theorem dX13_readWhole_25 : decode cX13_readWhole 25 = .ok (.ifCond .ne 8, 3) := by decide +kernel
theorem dX13_readWhole_28 : decode cX13_readWhole 28 = .ok (.aload_n 0, 1) := by decide +kernel
theorem dX13_readWhole_29 : decode cX13_readWhole 29 = .ok (.iconst 4, 1) := by decide +kernel
theorem dX13_readWhole_30 : decode cX13_readWhole 30 = .ok (.invokevirtual 117, 3) := by decide +kernel
theorem dX13_readWhole_33 : decode cX13_readWhole 33 = .ok (.aload_n 0, 1) := by decide +kernel
theorem dX13_readWhole_34 : decode cX13_readWhole 34 = .ok (.getfield 74, 3) := by decide +kernel
theorem dX13_readWhole_37 : decode cX13_readWhole 37 = .ok (.iconst 5, 1) := by decide +kernel
theorem dX13_readWhole_38 : decode cX13_readWhole 38 = .ok (.if_icmp .ne 7, 3) := by decide +kernel
theorem dX13_readWhole_41 : decode cX13_readWhole 41 = .ok (.iload_n 1, 1) := by decide +kernel
theorem dX13_readWhole_42 : decode cX13_readWhole 42 = .ok (.goto 7, 3) := by decide +kernel
theorem dX13_readWhole_45 : decode cX13_readWhole 45 = .ok (.aload_n 0, 1) := by decide +kernel
theorem dX13_readWhole_46 : decode cX13_readWhole 46 = .ok (.getfield 97, 3) := by decide +kernel
theorem dX13_readWhole_49 : decode cX13_readWhole 49 = .ok (.istore_n 3, 1) := by decide +kernel
theorem dX13_readWhole_50 : decode cX13_readWhole 50 = .ok (.aload_n 0, 1) := by decide +kernel
theorem dX13_readWhole_51 : decode cX13_readWhole 51 = .ok (.invokevirtual 110, 3) := by decide +kernel
theorem dX13_readWhole_54 : decode cX13_readWhole 54 = .ok (.iload_n 3, 1) := by decide +kernel
theorem dX13_readWhole_55 : decode cX13_readWhole 55 = .ok (.ireturn, 1) := by decide +kernel
theorem dX13_readPart_0 : decode cX13_readPart 0 = .ok (.aload_n 0, 1) := by decide +kernel
theorem dX13_readPart_1 : decode cX13_readPart 1 = .ok (.aload_n 1, 1) := by decide +kernel
theorem dX13_readPart_2 : decode cX13_readPart 2 = .ok (.invokevirtual 125, 3) := by decide +kernel
theorem dX13_readPart_5 : decode cX13_readPart 5 = .ok (.aload_n 0, 1) := by decide +kernel
theorem dX13_readPart_6 : decode cX13_readPart 6 = .ok (.iload_n 2, 1) := by decide +kernel
theorem dX13_readPart_7 : decode cX13_readPart 7 = .ok (.iload_n 3, 1) := by decide +kernel
theorem dX13_readPart_8 : decode cX13_readPart 8 = .ok (.invokevirtual 129, 3) := by decide +kernel
theorem dX13_readPart_11 : decode cX13_readPart 11 = .ok (.ireturn, 1) := by decide +kernel
theorem dX13_isName_0 : decode cX13_isName 0 = .ok (.aload_n 0, 1) := by decide +kernel
theorem dX13_isName_1 : decode cX13_isName 1 = .ok (.getfield 74, 3) := by decide +kernel
theorem dX13_isName_4 : decode cX13_isName 4 = .ok (.iconst 2, 1) := by decide +kernel
theorem dX13_isName_5 : decode cX13_isName 5 = .ok (.if_icmp .ne 48, 3) := by decide +kernel
theorem dX13_isName_8 : decode cX13_isName 8 = .ok (.aload_n 0, 1) := by decide +kernel
theorem dX13_isName_9 : decode cX13_isName 9 = .ok (.ldc 133, 2) := by decide +kernel
theorem dX13_isName_11 : decode cX13_isName 11 = .ok (.invokevirtual 113, 3) := by decide +kernel
theorem dX13_isName_14 : decode cX13_isName 14 = .ok (.ifCond .ne 39, 3) := by decide +kernel
theorem dX13_isName_17 : decode cX13_isName 17 = .ok (.aload_n 0, 1) := by decide +kernel
theorem dX13_isName_18 : decode cX13_isName 18 = .ok (.ldc 135, 2) := by decide +kernel
theorem dX13_isName_20 : decode cX13_isName 20 = .ok (.invokevirtual 113, 3) := by decide +kernel
theorem dX13_isName_23 : decode cX13_isName 23 = .ok (.ifCond .ne 30, 3) := by decide +kernel
theorem dX13_isName_26 : decode cX13_isName 26 = .ok (.aload_n 0, 1) := by decide +kernel
theorem dX13_isName_27 : decode cX13_isName 27 = .ok (.ldc 137, 2) := by decide +kernel
theorem dX13_isName_29 : decode cX13_isName 29 = .ok (.invokevirtual 113, 3) := by decide +kernel
theorem dX13_isName_32 : decode cX13_isName 32 = .ok (.ifCond .ne 21, 3) := by decide +kernel
theorem dX13_isName_35 : decode cX13_isName 35 = .ok (.aload_n 0, 1) := by decide +kernel
theorem dX13_isName_36 : decode cX13_isName 36 = .ok (.ldc 139, 2) := by decide +kernel
theorem dX13_isName_38 : decode cX13_isName 38 = .ok (.invokevirtual 113, 3) := by decide +kernel
theorem dX13_isName_41 : decode cX13_isName 41 = .ok (.ifCond .ne 12, 3) := by decide +kernel
theorem dX13_isName_44 : decode cX13_isName 44 = .ok (.aload_n 0, 1) := by decide +kernel
theorem dX13_isName_45 : decode cX13_isName 45 = .ok (.ldc 141, 2) := by decide +kernel
theorem dX13_isName_47 : decode cX13_isName 47 = .ok (.invokevirtual 113, 3) := by decide +kernel
theorem dX13_isName_50 : decode cX13_isName 50 = .ok (.ifCond .eq 5, 3) := by decide +kernel
theorem dX13_isName_53 : decode cX13_isName 53 = .ok (.iconst 0, 1) := by decide +kernel
theorem dX13_isName_54 : decode cX13_isName 54 = .ok (.ireturn, 1) := by decide +kernel
theorem dX13_isName_55 : decode cX13_isName 55 = .ok (.aload_n 0, 1) := by decide +kernel
theorem dX13_isName_56 : decode cX13_isName 56 = .ok (.ldc 143, 2) := by decide +kernel
theorem dX13_isName_58 : decode cX13_isName 58 = .ok (.invokevirtual 113, 3) := by decide +kernel
theorem dX13_isName_61 : decode cX13_isName 61 = .ok (.ifCond .ne 34, 3) := by decide +kernel
theorem dX13_isName_64 : decode cX13_isName 64 = .ok (.aload_n 0, 1) := by decide +kernel
theorem dX13_isName_65 : decode cX13_isName 65 = .ok (.ldc 145, 2) := by decide +kernel
theorem dX13_isName_67 : decode cX13_isName 67 = .ok (.invokevirtual 113, 3) := by decide +kernel
theorem dX13_isName_70 : decode cX13_isName 70 = .ok (.ifCond .ne 25, 3) := by decide +kernel
theorem dX13_isName_73 : decode cX13_isName 73 = .ok (.aload_n 0, 1) := by decide +kernel
theorem dX13_isName_74 : decode cX13_isName 74 = .ok (.ldc 147, 2) := by decide +kernel
theorem dX13_isName_76 : decode cX13_isName 76 = .ok (.invokevirtual 113, 3) := by decide +kernel
theorem dX13_isName_79 : decode cX13_isName 79 = .ok (.ifCond .ne 16, 3) := by decide +kernel
theorem dX13_isName_82 : decode cX13_isName 82 = .ok (.aload_n 0, 1) := by decide +kernel
theorem dX13_isName_83 : decode cX13_isName 83 = .ok (.ldc 149, 2) := by decide +kernel
theorem dX13_isName_85 : decode cX13_isName 85 = .ok (.invokevirtual 113, 3) := by decide +kernel
theorem dX13_isName_88 : decode cX13_isName 88 = .ok (.ifCond .ne 7, 3) := by decide +kernel
theorem dX13_isName_91 : decode cX13_isName 91 = .ok (.iconst 1, 1) := by decide +kernel
theorem dX13_isName_92 : decode cX13_isName 92 = .ok (.goto 4, 3) := by decide +kernel
theorem dX13_isName_95 : decode cX13_isName 95 = .ok (.iconst 0, 1) := by decide +kernel
theorem dX13_isName_96 : decode cX13_isName 96 = .ok (.ireturn, 1) := by decide +kernel
theorem dX13_lineBegins_0 : decode cX13_lineBegins 0 = .ok (.iload_n 1, 1) := by decide +kernel
theorem dX13_lineBegins_1 : decode cX13_lineBegins 1 = .ok (.iload_n 2, 1) := by decide +kernel
theorem dX13_lineBegins_2 : decode cX13_lineBegins 2 = .ok (.if_icmp .ne 8, 3) := by decide +kernel
theorem dX13_lineBegins_5 : decode cX13_lineBegins 5 = .ok (.aload_n 0, 1) := by decide +kernel
theorem dX13_lineBegins_6 : decode cX13_lineBegins 6 = .ok (.iconst 5, 1) := by decide +kernel
theorem dX13_lineBegins_7 : decode cX13_lineBegins 7 = .ok (.invokevirtual 117, 3) := by decide +kernel
theorem dX13_lineBegins_10 : decode cX13_lineBegins 10 = .ok (.aload_n 0, 1) := by decide +kernel
theorem dX13_lineBegins_11 : decode cX13_lineBegins 11 = .ok (.getfield 151, 3) := by decide +kernel
theorem dX13_lineBegins_14 : decode cX13_lineBegins 14 = .ok (.getfield 155, 3) := by decide +kernel
theorem dX13_lineBegins_17 : decode cX13_lineBegins 17 = .ok (.iconst (-1), 1) := by decide +kernel
theorem dX13_lineBegins_18 : decode cX13_lineBegins 18 = .ok (.if_icmp .ne 9, 3) := by decide +kernel
theorem dX13_lineBegins_21 : decode cX13_lineBegins 21 = .ok (.aload_n 0, 1) := by decide +kernel
theorem dX13_lineBegins_22 : decode cX13_lineBegins 22 = .ok (.bipush 6, 2) := by decide +kernel
theorem dX13_lineBegins_24 : decode cX13_lineBegins 24 = .ok (.invokevirtual 117, 3) := by decide +kernel
theorem dX13_lineBegins_27 : decode cX13_lineBegins 27 = .ok (.aload_n 0, 1) := by decide +kernel
theorem dX13_lineBegins_28 : decode cX13_lineBegins 28 = .ok (.invokevirtual 110, 3) := by decide +kernel
theorem dX13_lineBegins_31 : decode cX13_lineBegins 31 = .ok (.return_, 1) := by decide +kernel
theorem dX13_readFresh_0 : decode cX13_readFresh 0 = .ok (.aload_n 0, 1) := by decide +kernel
theorem dX13_readFresh_1 : decode cX13_readFresh 1 = .ok (.invokevirtual 160, 3) := by decide +kernel
theorem dX13_readFresh_4 : decode cX13_readFresh 4 = .ok (.ifCond .ne 8, 3) := by decide +kernel
theorem dX13_readFresh_7 : decode cX13_readFresh 7 = .ok (.aload_n 0, 1) := by decide +kernel
theorem dX13_readFresh_8 : decode cX13_readFresh 8 = .ok (.iconst 1, 1) := by decide +kernel
theorem dX13_readFresh_9 : decode cX13_readFresh 9 = .ok (.invokevirtual 117, 3) := by decide +kernel
theorem dX13_readFresh_12 : decode cX13_readFresh 12 = .ok (.aload_n 0, 1) := by decide +kernel
theorem dX13_readFresh_13 : decode cX13_readFresh 13 = .ok (.getfield 151, 3) := by decide +kernel
theorem dX13_readFresh_16 : decode cX13_readFresh 16 = .ok (.aload_n 0, 1) := by decide +kernel
theorem dX13_readFresh_17 : decode cX13_readFresh 17 = .ok (.getfield 90, 3) := by decide +kernel
theorem dX13_readFresh_20 : decode cX13_readFresh 20 = .ok (.invokevirtual 164, 3) := by decide +kernel
theorem dX13_readFresh_23 : decode cX13_readFresh 23 = .ok (.iconst (-1), 1) := by decide +kernel
theorem dX13_readFresh_24 : decode cX13_readFresh 24 = .ok (.if_icmp .eq 8, 3) := by decide +kernel
theorem dX13_readFresh_27 : decode cX13_readFresh 27 = .ok (.aload_n 0, 1) := by decide +kernel
theorem dX13_readFresh_28 : decode cX13_readFresh 28 = .ok (.iconst 3, 1) := by decide +kernel
theorem dX13_readFresh_29 : decode cX13_readFresh 29 = .ok (.invokevirtual 117, 3) := by decide +kernel
theorem dX13_readFresh_32 : decode cX13_readFresh 32 = .ok (.aload_n 0, 1) := by decide +kernel
theorem dX13_readFresh_33 : decode cX13_readFresh 33 = .ok (.getfield 90, 3) := by decide +kernel
theorem dX13_readFresh_36 : decode cX13_readFresh 36 = .ok (.lstore_n 1, 1) := by decide +kernel
theorem dX13_readFresh_37 : decode cX13_readFresh 37 = .ok (.aload_n 0, 1) := by decide +kernel
theorem dX13_readFresh_38 : decode cX13_readFresh 38 = .ok (.invokevirtual 110, 3) := by decide +kernel
theorem dX13_readFresh_41 : decode cX13_readFresh 41 = .ok (.lload_n 1, 1) := by decide +kernel
theorem dX13_readFresh_42 : decode cX13_readFresh 42 = .ok (.lreturn, 1) := by decide +kernel
theorem dX13_names_0 : decode cX13_names 0 = .ok (.aload_n 0, 1) := by decide +kernel
theorem dX13_names_1 : decode cX13_names 1 = .ok (.getfield 151, 3) := by decide +kernel
theorem dX13_names_4 : decode cX13_names 4 = .ok (.getfield 168, 3) := by decide +kernel
theorem dX13_names_7 : decode cX13_names 7 = .ok (.aload_n 0, 1) := by decide +kernel
theorem dX13_names_8 : decode cX13_names 8 = .ok (.getfield 151, 3) := by decide +kernel
theorem dX13_names_11 : decode cX13_names 11 = .ok (.getfield 172, 3) := by decide +kernel
theorem dX13_names_14 : decode cX13_names 14 = .ok (.lload_n 1, 1) := by decide +kernel
theorem dX13_names_15 : decode cX13_names 15 = .ok (.lastore, 1) := by decide +kernel
theorem dX13_names_16 : decode cX13_names 16 = .ok (.aload_n 0, 1) := by decide +kernel
theorem dX13_names_17 : decode cX13_names 17 = .ok (.getfield 151, 3) := by decide +kernel
theorem dX13_names_20 : decode cX13_names 20 = .ok (.getfield 175, 3) := by decide +kernel
theorem dX13_names_23 : decode cX13_names 23 = .ok (.aload_n 0, 1) := by decide +kernel
theorem dX13_names_24 : decode cX13_names 24 = .ok (.getfield 151, 3) := by decide +kernel
theorem dX13_names_27 : decode cX13_names 27 = .ok (.getfield 172, 3) := by decide +kernel
theorem dX13_names_30 : decode cX13_names 30 = .ok (.iload_n 3, 1) := by decide +kernel
theorem dX13_names_31 : decode cX13_names 31 = .ok (.iastore, 1) := by decide +kernel
theorem dX13_names_32 : decode cX13_names 32 = .ok (.aload_n 0, 1) := by decide +kernel
theorem dX13_names_33 : decode cX13_names 33 = .ok (.getfield 151, 3) := by decide +kernel
theorem dX13_names_36 : decode cX13_names 36 = .ok (.getfield 178, 3) := by decide +kernel
theorem dX13_names_39 : decode cX13_names 39 = .ok (.aload_n 0, 1) := by decide +kernel
theorem dX13_names_40 : decode cX13_names 40 = .ok (.getfield 151, 3) := by decide +kernel
theorem dX13_names_43 : decode cX13_names 43 = .ok (.getfield 172, 3) := by decide +kernel
theorem dX13_names_46 : decode cX13_names 46 = .ok (.iload 4, 2) := by decide +kernel
theorem dX13_names_48 : decode cX13_names 48 = .ok (.iastore, 1) := by decide +kernel
theorem dX13_names_49 : decode cX13_names 49 = .ok (.aload_n 0, 1) := by decide +kernel
theorem dX13_names_50 : decode cX13_names 50 = .ok (.getfield 151, 3) := by decide +kernel
theorem dX13_names_53 : decode cX13_names 53 = .ok (.dup, 1) := by decide +kernel
theorem dX13_names_54 : decode cX13_names 54 = .ok (.getfield 172, 3) := by decide +kernel
theorem dX13_names_57 : decode cX13_names 57 = .ok (.iconst 1, 1) := by decide +kernel
theorem dX13_names_58 : decode cX13_names 58 = .ok (.iadd, 1) := by decide +kernel
theorem dX13_names_59 : decode cX13_names 59 = .ok (.putfield 172, 3) := by decide +kernel
theorem dX13_names_62 : decode cX13_names 62 = .ok (.return_, 1) := by decide +kernel
theorem dX13_knownOne_0 : decode cX13_knownOne 0 = .ok (.aload_n 0, 1) := by decide +kernel
theorem dX13_knownOne_1 : decode cX13_knownOne 1 = .ok (.invokevirtual 160, 3) := by decide +kernel
theorem dX13_knownOne_4 : decode cX13_knownOne 4 = .ok (.ifCond .ne 8, 3) := by decide +kernel
theorem dX13_knownOne_7 : decode cX13_knownOne 7 = .ok (.aload_n 0, 1) := by decide +kernel
theorem dX13_knownOne_8 : decode cX13_knownOne 8 = .ok (.iconst 1, 1) := by decide +kernel
theorem dX13_knownOne_9 : decode cX13_knownOne 9 = .ok (.invokevirtual 117, 3) := by decide +kernel
theorem dX13_knownOne_12 : decode cX13_knownOne 12 = .ok (.aload_n 0, 1) := by decide +kernel
theorem dX13_knownOne_13 : decode cX13_knownOne 13 = .ok (.getfield 151, 3) := by decide +kernel
theorem dX13_knownOne_16 : decode cX13_knownOne 16 = .ok (.aload_n 0, 1) := by decide +kernel
theorem dX13_knownOne_17 : decode cX13_knownOne 17 = .ok (.getfield 90, 3) := by decide +kernel
theorem dX13_knownOne_20 : decode cX13_knownOne 20 = .ok (.invokevirtual 164, 3) := by decide +kernel
theorem dX13_knownOne_23 : decode cX13_knownOne 23 = .ok (.istore_n 2, 1) := by decide +kernel
theorem dX13_knownOne_24 : decode cX13_knownOne 24 = .ok (.iload_n 2, 1) := by decide +kernel
theorem dX13_knownOne_25 : decode cX13_knownOne 25 = .ok (.iconst (-1), 1) := by decide +kernel
theorem dX13_knownOne_26 : decode cX13_knownOne 26 = .ok (.if_icmp .eq 16, 3) := by decide +kernel
theorem dX13_knownOne_29 : decode cX13_knownOne 29 = .ok (.aload_n 0, 1) := by decide +kernel
theorem dX13_knownOne_30 : decode cX13_knownOne 30 = .ok (.getfield 151, 3) := by decide +kernel
theorem dX13_knownOne_33 : decode cX13_knownOne 33 = .ok (.getfield 175, 3) := by decide +kernel
theorem dX13_knownOne_36 : decode cX13_knownOne 36 = .ok (.iload_n 2, 1) := by decide +kernel
theorem dX13_knownOne_37 : decode cX13_knownOne 37 = .ok (.iaload, 1) := by decide +kernel
theorem dX13_knownOne_38 : decode cX13_knownOne 38 = .ok (.iload_n 1, 1) := by decide +kernel
theorem dX13_knownOne_39 : decode cX13_knownOne 39 = .ok (.if_icmp .eq 8, 3) := by decide +kernel
theorem dX13_knownOne_42 : decode cX13_knownOne 42 = .ok (.aload_n 0, 1) := by decide +kernel
theorem dX13_knownOne_43 : decode cX13_knownOne 43 = .ok (.iconst 2, 1) := by decide +kernel
theorem dX13_knownOne_44 : decode cX13_knownOne 44 = .ok (.invokevirtual 117, 3) := by decide +kernel
theorem dX13_knownOne_47 : decode cX13_knownOne 47 = .ok (.aload_n 0, 1) := by decide +kernel
theorem dX13_knownOne_48 : decode cX13_knownOne 48 = .ok (.getfield 74, 3) := by decide +kernel
theorem dX13_knownOne_51 : decode cX13_knownOne 51 = .ok (.iconst 5, 1) := by decide +kernel
theorem dX13_knownOne_52 : decode cX13_knownOne 52 = .ok (.if_icmp .ne 7, 3) := by decide +kernel
theorem dX13_knownOne_55 : decode cX13_knownOne 55 = .ok (.iconst 0, 1) := by decide +kernel
theorem dX13_knownOne_56 : decode cX13_knownOne 56 = .ok (.goto 12, 3) := by decide +kernel
theorem dX13_knownOne_59 : decode cX13_knownOne 59 = .ok (.aload_n 0, 1) := by decide +kernel
theorem dX13_knownOne_60 : decode cX13_knownOne 60 = .ok (.getfield 151, 3) := by decide +kernel
theorem dX13_knownOne_63 : decode cX13_knownOne 63 = .ok (.getfield 178, 3) := by decide +kernel
theorem dX13_knownOne_66 : decode cX13_knownOne 66 = .ok (.iload_n 2, 1) := by decide +kernel
theorem dX13_knownOne_67 : decode cX13_knownOne 67 = .ok (.iaload, 1) := by decide +kernel
theorem dX13_knownOne_68 : decode cX13_knownOne 68 = .ok (.ireturn, 1) := by decide +kernel
theorem dX13_readKnown_0 : decode cX13_readKnown 0 = .ok (.aload_n 0, 1) := by decide +kernel
theorem dX13_readKnown_1 : decode cX13_readKnown 1 = .ok (.iload_n 1, 1) := by decide +kernel
theorem dX13_readKnown_2 : decode cX13_readKnown 2 = .ok (.invokevirtual 181, 3) := by decide +kernel
theorem dX13_readKnown_5 : decode cX13_readKnown 5 = .ok (.istore_n 2, 1) := by decide +kernel
theorem dX13_readKnown_6 : decode cX13_readKnown 6 = .ok (.aload_n 0, 1) := by decide +kernel
theorem dX13_readKnown_7 : decode cX13_readKnown 7 = .ok (.invokevirtual 110, 3) := by decide +kernel
theorem dX13_readKnown_10 : decode cX13_readKnown 10 = .ok (.iload_n 2, 1) := by decide +kernel
theorem dX13_readKnown_11 : decode cX13_readKnown 11 = .ok (.ireturn, 1) := by decide +kernel
theorem dX13_readAll_0 : decode cX13_readAll 0 = .ok (.iconst 1, 1) := by decide +kernel
theorem dX13_readAll_1 : decode cX13_readAll 1 = .ok (.istore_n 1, 1) := by decide +kernel
theorem dX13_readAll_2 : decode cX13_readAll 2 = .ok (.iload_n 1, 1) := by decide +kernel
theorem dX13_readAll_3 : decode cX13_readAll 3 = .ok (.ifCond .eq 17, 3) := by decide +kernel
theorem dX13_readAll_6 : decode cX13_readAll 6 = .ok (.aload_n 0, 1) := by decide +kernel
theorem dX13_readAll_7 : decode cX13_readAll 7 = .ok (.invokevirtual 184, 3) := by decide +kernel
theorem dX13_readAll_10 : decode cX13_readAll 10 = .ok (.aload_n 0, 1) := by decide +kernel
theorem dX13_readAll_11 : decode cX13_readAll 11 = .ok (.bipush 59, 2) := by decide +kernel
theorem dX13_readAll_13 : decode cX13_readAll 13 = .ok (.invokevirtual 187, 3) := by decide +kernel
theorem dX13_readAll_16 : decode cX13_readAll 16 = .ok (.istore_n 1, 1) := by decide +kernel
theorem dX13_readAll_17 : decode cX13_readAll 17 = .ok (.goto (-15), 3) := by decide +kernel
theorem dX13_readAll_20 : decode cX13_readAll 20 = .ok (.aload_n 0, 1) := by decide +kernel
theorem dX13_readAll_21 : decode cX13_readAll 21 = .ok (.getfield 74, 3) := by decide +kernel
theorem dX13_readAll_24 : decode cX13_readAll 24 = .ok (.iconst 1, 1) := by decide +kernel
theorem dX13_readAll_25 : decode cX13_readAll 25 = .ok (.if_icmp .eq 8, 3) := by decide +kernel
theorem dX13_readAll_28 : decode cX13_readAll 28 = .ok (.aload_n 0, 1) := by decide +kernel
theorem dX13_readAll_29 : decode cX13_readAll 29 = .ok (.iconst 1, 1) := by decide +kernel
theorem dX13_readAll_30 : decode cX13_readAll 30 = .ok (.invokevirtual 117, 3) := by decide +kernel
theorem dX13_readAll_33 : decode cX13_readAll 33 = .ok (.aload_n 0, 1) := by decide +kernel
theorem dX13_readAll_34 : decode cX13_readAll 34 = .ok (.getfield 151, 3) := by decide +kernel
theorem dX13_readAll_37 : decode cX13_readAll 37 = .ok (.getfield 191, 3) := by decide +kernel
theorem dX13_readAll_40 : decode cX13_readAll 40 = .ok (.ifCond .ne 9, 3) := by decide +kernel
theorem dX13_readAll_43 : decode cX13_readAll 43 = .ok (.aload_n 0, 1) := by decide +kernel
theorem dX13_readAll_44 : decode cX13_readAll 44 = .ok (.bipush 6, 2) := by decide +kernel
theorem dX13_readAll_46 : decode cX13_readAll 46 = .ok (.invokevirtual 117, 3) := by decide +kernel
theorem dX13_readAll_49 : decode cX13_readAll 49 = .ok (.return_, 1) := by decide +kernel
theorem dX13_readLine_0 : decode cX13_readLine 0 = .ok (.aload_n 0, 1) := by decide +kernel
theorem dX13_readLine_1 : decode cX13_readLine 1 = .ok (.ldc 133, 2) := by decide +kernel
theorem dX13_readLine_3 : decode cX13_readLine 3 = .ok (.invokevirtual 113, 3) := by decide +kernel
theorem dX13_readLine_6 : decode cX13_readLine 6 = .ok (.ifCond .eq 10, 3) := by decide +kernel
theorem dX13_readLine_9 : decode cX13_readLine 9 = .ok (.aload_n 0, 1) := by decide +kernel
theorem dX13_readLine_10 : decode cX13_readLine 10 = .ok (.invokevirtual 194, 3) := by decide +kernel
theorem dX13_readLine_13 : decode cX13_readLine 13 = .ok (.goto 138, 3) := by decide +kernel
theorem dX13_readLine_16 : decode cX13_readLine 16 = .ok (.aload_n 0, 1) := by decide +kernel
theorem dX13_readLine_17 : decode cX13_readLine 17 = .ok (.ldc 135, 2) := by decide +kernel
theorem dX13_readLine_19 : decode cX13_readLine 19 = .ok (.invokevirtual 113, 3) := by decide +kernel
theorem dX13_readLine_22 : decode cX13_readLine 22 = .ok (.ifCond .eq 10, 3) := by decide +kernel
theorem dX13_readLine_25 : decode cX13_readLine 25 = .ok (.aload_n 0, 1) := by decide +kernel
theorem dX13_readLine_26 : decode cX13_readLine 26 = .ok (.invokevirtual 197, 3) := by decide +kernel
theorem dX13_readLine_29 : decode cX13_readLine 29 = .ok (.goto 122, 3) := by decide +kernel
theorem dX13_readLine_32 : decode cX13_readLine 32 = .ok (.aload_n 0, 1) := by decide +kernel
theorem dX13_readLine_33 : decode cX13_readLine 33 = .ok (.ldc 137, 2) := by decide +kernel
theorem dX13_readLine_35 : decode cX13_readLine 35 = .ok (.invokevirtual 113, 3) := by decide +kernel
theorem dX13_readLine_38 : decode cX13_readLine 38 = .ok (.ifCond .eq 10, 3) := by decide +kernel
theorem dX13_readLine_41 : decode cX13_readLine 41 = .ok (.aload_n 0, 1) := by decide +kernel
theorem dX13_readLine_42 : decode cX13_readLine 42 = .ok (.invokevirtual 200, 3) := by decide +kernel
theorem dX13_readLine_45 : decode cX13_readLine 45 = .ok (.goto 106, 3) := by decide +kernel
theorem dX13_readLine_48 : decode cX13_readLine 48 = .ok (.aload_n 0, 1) := by decide +kernel
theorem dX13_readLine_49 : decode cX13_readLine 49 = .ok (.ldc 139, 2) := by decide +kernel
theorem dX13_readLine_51 : decode cX13_readLine 51 = .ok (.invokevirtual 113, 3) := by decide +kernel
theorem dX13_readLine_54 : decode cX13_readLine 54 = .ok (.ifCond .eq 10, 3) := by decide +kernel
theorem dX13_readLine_57 : decode cX13_readLine 57 = .ok (.aload_n 0, 1) := by decide +kernel
theorem dX13_readLine_58 : decode cX13_readLine 58 = .ok (.invokevirtual 203, 3) := by decide +kernel
theorem dX13_readLine_61 : decode cX13_readLine 61 = .ok (.goto 90, 3) := by decide +kernel
theorem dX13_readLine_64 : decode cX13_readLine 64 = .ok (.aload_n 0, 1) := by decide +kernel
theorem dX13_readLine_65 : decode cX13_readLine 65 = .ok (.ldc 141, 2) := by decide +kernel
theorem dX13_readLine_67 : decode cX13_readLine 67 = .ok (.invokevirtual 113, 3) := by decide +kernel
theorem dX13_readLine_70 : decode cX13_readLine 70 = .ok (.ifCond .eq 10, 3) := by decide +kernel
theorem dX13_readLine_73 : decode cX13_readLine 73 = .ok (.aload_n 0, 1) := by decide +kernel
theorem dX13_readLine_74 : decode cX13_readLine 74 = .ok (.invokevirtual 206, 3) := by decide +kernel
theorem dX13_readLine_77 : decode cX13_readLine 77 = .ok (.goto 74, 3) := by decide +kernel
theorem dX13_readLine_80 : decode cX13_readLine 80 = .ok (.aload_n 0, 1) := by decide +kernel
theorem dX13_readLine_81 : decode cX13_readLine 81 = .ok (.ldc 143, 2) := by decide +kernel
theorem dX13_readLine_83 : decode cX13_readLine 83 = .ok (.invokevirtual 113, 3) := by decide +kernel
theorem dX13_readLine_86 : decode cX13_readLine 86 = .ok (.ifCond .eq 11, 3) := by decide +kernel
theorem dX13_readLine_89 : decode cX13_readLine 89 = .ok (.aload_n 0, 1) := by decide +kernel
theorem dX13_readLine_90 : decode cX13_readLine 90 = .ok (.iconst 0, 1) := by decide +kernel
theorem dX13_readLine_91 : decode cX13_readLine 91 = .ok (.invokevirtual 209, 3) := by decide +kernel
theorem dX13_readLine_94 : decode cX13_readLine 94 = .ok (.goto 57, 3) := by decide +kernel
theorem dX13_readLine_97 : decode cX13_readLine 97 = .ok (.aload_n 0, 1) := by decide +kernel
theorem dX13_readLine_98 : decode cX13_readLine 98 = .ok (.ldc 145, 2) := by decide +kernel
theorem dX13_readLine_100 : decode cX13_readLine 100 = .ok (.invokevirtual 113, 3) := by decide +kernel
theorem dX13_readLine_103 : decode cX13_readLine 103 = .ok (.ifCond .eq 11, 3) := by decide +kernel
theorem dX13_readLine_106 : decode cX13_readLine 106 = .ok (.aload_n 0, 1) := by decide +kernel
theorem dX13_readLine_107 : decode cX13_readLine 107 = .ok (.iconst 1, 1) := by decide +kernel
theorem dX13_readLine_108 : decode cX13_readLine 108 = .ok (.invokevirtual 209, 3) := by decide +kernel
theorem dX13_readLine_111 : decode cX13_readLine 111 = .ok (.goto 40, 3) := by decide +kernel
theorem dX13_readLine_114 : decode cX13_readLine 114 = .ok (.aload_n 0, 1) := by decide +kernel
theorem dX13_readLine_115 : decode cX13_readLine 115 = .ok (.ldc 147, 2) := by decide +kernel
theorem dX13_readLine_117 : decode cX13_readLine 117 = .ok (.invokevirtual 113, 3) := by decide +kernel
theorem dX13_readLine_120 : decode cX13_readLine 120 = .ok (.ifCond .eq 10, 3) := by decide +kernel
theorem dX13_readLine_123 : decode cX13_readLine 123 = .ok (.aload_n 0, 1) := by decide +kernel
theorem dX13_readLine_124 : decode cX13_readLine 124 = .ok (.invokevirtual 213, 3) := by decide +kernel
theorem dX13_readLine_127 : decode cX13_readLine 127 = .ok (.goto 24, 3) := by decide +kernel
theorem dX13_readLine_130 : decode cX13_readLine 130 = .ok (.aload_n 0, 1) := by decide +kernel
theorem dX13_readLine_131 : decode cX13_readLine 131 = .ok (.ldc 149, 2) := by decide +kernel
theorem dX13_readLine_133 : decode cX13_readLine 133 = .ok (.invokevirtual 113, 3) := by decide +kernel
theorem dX13_readLine_136 : decode cX13_readLine 136 = .ok (.ifCond .eq 10, 3) := by decide +kernel
theorem dX13_readLine_139 : decode cX13_readLine 139 = .ok (.aload_n 0, 1) := by decide +kernel
theorem dX13_readLine_140 : decode cX13_readLine 140 = .ok (.invokevirtual 216, 3) := by decide +kernel
theorem dX13_readLine_143 : decode cX13_readLine 143 = .ok (.goto 8, 3) := by decide +kernel
theorem dX13_readLine_146 : decode cX13_readLine 146 = .ok (.aload_n 0, 1) := by decide +kernel
theorem dX13_readLine_147 : decode cX13_readLine 147 = .ok (.iconst 1, 1) := by decide +kernel
theorem dX13_readLine_148 : decode cX13_readLine 148 = .ok (.invokevirtual 117, 3) := by decide +kernel
theorem dX13_readLine_151 : decode cX13_readLine 151 = .ok (.return_, 1) := by decide +kernel
theorem dX13_readLand_0 : decode cX13_readLand 0 = .ok (.aload_n 0, 1) := by decide +kernel
theorem dX13_readLand_1 : decode cX13_readLand 1 = .ok (.getfield 151, 3) := by decide +kernel
theorem dX13_readLand_4 : decode cX13_readLand 4 = .ok (.getfield 155, 3) := by decide +kernel
theorem dX13_readLand_7 : decode cX13_readLand 7 = .ok (.iconst (-1), 1) := by decide +kernel
theorem dX13_readLand_8 : decode cX13_readLand 8 = .ok (.if_icmp .eq 8, 3) := by decide +kernel
theorem dX13_readLand_11 : decode cX13_readLand 11 = .ok (.aload_n 0, 1) := by decide +kernel
theorem dX13_readLand_12 : decode cX13_readLand 12 = .ok (.iconst 3, 1) := by decide +kernel
theorem dX13_readLand_13 : decode cX13_readLand 13 = .ok (.invokevirtual 117, 3) := by decide +kernel
theorem dX13_readLand_16 : decode cX13_readLand 16 = .ok (.aload_n 0, 1) := by decide +kernel
theorem dX13_readLand_17 : decode cX13_readLand 17 = .ok (.invokevirtual 110, 3) := by decide +kernel
theorem dX13_readLand_20 : decode cX13_readLand 20 = .ok (.aload_n 0, 1) := by decide +kernel
theorem dX13_readLand_21 : decode cX13_readLand 21 = .ok (.ldc 219, 2) := by decide +kernel
theorem dX13_readLand_23 : decode cX13_readLand 23 = .ok (.iconst 0, 1) := by decide +kernel
theorem dX13_readLand_24 : decode cX13_readLand 24 = .ok (.bipush 6, 2) := by decide +kernel
theorem dX13_readLand_26 : decode cX13_readLand 26 = .ok (.invokevirtual 221, 3) := by decide +kernel
theorem dX13_readLand_29 : decode cX13_readLand 29 = .ok (.istore_n 1, 1) := by decide +kernel
theorem dX13_readLand_30 : decode cX13_readLand 30 = .ok (.aload_n 0, 1) := by decide +kernel
theorem dX13_readLand_31 : decode cX13_readLand 31 = .ok (.ldc 225, 2) := by decide +kernel
theorem dX13_readLand_33 : decode cX13_readLand 33 = .ok (.iconst 0, 1) := by decide +kernel
theorem dX13_readLand_34 : decode cX13_readLand 34 = .ok (.bipush 100, 2) := by decide +kernel
theorem dX13_readLand_36 : decode cX13_readLand 36 = .ok (.invokevirtual 221, 3) := by decide +kernel
theorem dX13_readLand_39 : decode cX13_readLand 39 = .ok (.istore_n 2, 1) := by decide +kernel
theorem dX13_readLand_40 : decode cX13_readLand 40 = .ok (.aload_n 0, 1) := by decide +kernel
theorem dX13_readLand_41 : decode cX13_readLand 41 = .ok (.getfield 74, 3) := by decide +kernel
theorem dX13_readLand_44 : decode cX13_readLand 44 = .ok (.iconst 5, 1) := by decide +kernel
theorem dX13_readLand_45 : decode cX13_readLand 45 = .ok (.if_icmp .ne 4, 3) := by decide +kernel
theorem dX13_readLand_48 : decode cX13_readLand 48 = .ok (.return_, 1) := by decide +kernel
theorem dX13_readLand_49 : decode cX13_readLand 49 = .ok (.aload_n 0, 1) := by decide +kernel
theorem dX13_readLand_50 : decode cX13_readLand 50 = .ok (.getfield 151, 3) := by decide +kernel
theorem dX13_readLand_53 : decode cX13_readLand 53 = .ok (.iload_n 1, 1) := by decide +kernel
theorem dX13_readLand_54 : decode cX13_readLand 54 = .ok (.putfield 155, 3) := by decide +kernel
theorem dX13_readLand_57 : decode cX13_readLand 57 = .ok (.aload_n 0, 1) := by decide +kernel
theorem dX13_readLand_58 : decode cX13_readLand 58 = .ok (.getfield 151, 3) := by decide +kernel
theorem dX13_readLand_61 : decode cX13_readLand 61 = .ok (.iload_n 2, 1) := by decide +kernel
theorem dX13_readLand_62 : decode cX13_readLand 62 = .ok (.putfield 227, 3) := by decide +kernel
theorem dX13_readLand_65 : decode cX13_readLand 65 = .ok (.return_, 1) := by decide +kernel
theorem dX13_readPerson_0 : decode cX13_readPerson 0 = .ok (.aload_n 0, 1) := by decide +kernel
theorem dX13_readPerson_1 : decode cX13_readPerson 1 = .ok (.aload_n 0, 1) := by decide +kernel
theorem dX13_readPerson_2 : decode cX13_readPerson 2 = .ok (.getfield 151, 3) := by decide +kernel
theorem dX13_readPerson_5 : decode cX13_readPerson 5 = .ok (.getfield 229, 3) := by decide +kernel
theorem dX13_readPerson_8 : decode cX13_readPerson 8 = .ok (.iconst 5, 1) := by decide +kernel
theorem dX13_readPerson_9 : decode cX13_readPerson 9 = .ok (.invokevirtual 232, 3) := by decide +kernel
theorem dX13_readPerson_12 : decode cX13_readPerson 12 = .ok (.aload_n 0, 1) := by decide +kernel
theorem dX13_readPerson_13 : decode cX13_readPerson 13 = .ok (.invokevirtual 236, 3) := by decide +kernel
theorem dX13_readPerson_16 : decode cX13_readPerson 16 = .ok (.lstore_n 1, 1) := by decide +kernel
theorem dX13_readPerson_17 : decode cX13_readPerson 17 = .ok (.aload_n 0, 1) := by decide +kernel
theorem dX13_readPerson_18 : decode cX13_readPerson 18 = .ok (.getfield 74, 3) := by decide +kernel
theorem dX13_readPerson_21 : decode cX13_readPerson 21 = .ok (.iconst 5, 1) := by decide +kernel
theorem dX13_readPerson_22 : decode cX13_readPerson 22 = .ok (.if_icmp .ne 4, 3) := by decide +kernel
theorem dX13_readPerson_25 : decode cX13_readPerson 25 = .ok (.return_, 1) := by decide +kernel
theorem dX13_readPerson_26 : decode cX13_readPerson 26 = .ok (.aload_n 0, 1) := by decide +kernel
theorem dX13_readPerson_27 : decode cX13_readPerson 27 = .ok (.lload_n 1, 1) := by decide +kernel
theorem dX13_readPerson_28 : decode cX13_readPerson 28 = .ok (.iconst 0, 1) := by decide +kernel
theorem dX13_readPerson_29 : decode cX13_readPerson 29 = .ok (.aload_n 0, 1) := by decide +kernel
theorem dX13_readPerson_30 : decode cX13_readPerson 30 = .ok (.getfield 151, 3) := by decide +kernel
theorem dX13_readPerson_33 : decode cX13_readPerson 33 = .ok (.getfield 229, 3) := by decide +kernel
theorem dX13_readPerson_36 : decode cX13_readPerson 36 = .ok (.invokevirtual 240, 3) := by decide +kernel
theorem dX13_readPerson_39 : decode cX13_readPerson 39 = .ok (.aload_n 0, 1) := by decide +kernel
theorem dX13_readPerson_40 : decode cX13_readPerson 40 = .ok (.getfield 151, 3) := by decide +kernel
theorem dX13_readPerson_43 : decode cX13_readPerson 43 = .ok (.dup, 1) := by decide +kernel
theorem dX13_readPerson_44 : decode cX13_readPerson 44 = .ok (.getfield 229, 3) := by decide +kernel
theorem dX13_readPerson_47 : decode cX13_readPerson 47 = .ok (.iconst 1, 1) := by decide +kernel
theorem dX13_readPerson_48 : decode cX13_readPerson 48 = .ok (.iadd, 1) := by decide +kernel
theorem dX13_readPerson_49 : decode cX13_readPerson 49 = .ok (.putfield 229, 3) := by decide +kernel
theorem dX13_readPerson_52 : decode cX13_readPerson 52 = .ok (.return_, 1) := by decide +kernel
theorem dX13_readFirm_0 : decode cX13_readFirm 0 = .ok (.aload_n 0, 1) := by decide +kernel
theorem dX13_readFirm_1 : decode cX13_readFirm 1 = .ok (.aload_n 0, 1) := by decide +kernel
theorem dX13_readFirm_2 : decode cX13_readFirm 2 = .ok (.getfield 151, 3) := by decide +kernel
theorem dX13_readFirm_5 : decode cX13_readFirm 5 = .ok (.getfield 243, 3) := by decide +kernel
theorem dX13_readFirm_8 : decode cX13_readFirm 8 = .ok (.iconst 4, 1) := by decide +kernel
theorem dX13_readFirm_9 : decode cX13_readFirm 9 = .ok (.invokevirtual 232, 3) := by decide +kernel
theorem dX13_readFirm_12 : decode cX13_readFirm 12 = .ok (.aload_n 0, 1) := by decide +kernel
theorem dX13_readFirm_13 : decode cX13_readFirm 13 = .ok (.invokevirtual 236, 3) := by decide +kernel
theorem dX13_readFirm_16 : decode cX13_readFirm 16 = .ok (.lstore_n 1, 1) := by decide +kernel
theorem dX13_readFirm_17 : decode cX13_readFirm 17 = .ok (.aload_n 0, 1) := by decide +kernel
theorem dX13_readFirm_18 : decode cX13_readFirm 18 = .ok (.iconst 0, 1) := by decide +kernel
theorem dX13_readFirm_19 : decode cX13_readFirm 19 = .ok (.invokevirtual 246, 3) := by decide +kernel
theorem dX13_readFirm_22 : decode cX13_readFirm 22 = .ok (.istore_n 3, 1) := by decide +kernel
theorem dX13_readFirm_23 : decode cX13_readFirm 23 = .ok (.iconst 1, 1) := by decide +kernel
theorem dX13_readFirm_24 : decode cX13_readFirm 24 = .ok (.iload_n 3, 1) := by decide +kernel
theorem dX13_readFirm_25 : decode cX13_readFirm 25 = .ok (.ishl, 1) := by decide +kernel
theorem dX13_readFirm_26 : decode cX13_readFirm 26 = .ok (.istore 4, 2) := by decide +kernel
theorem dX13_readFirm_28 : decode cX13_readFirm 28 = .ok (.aload_n 0, 1) := by decide +kernel
theorem dX13_readFirm_29 : decode cX13_readFirm 29 = .ok (.bipush 44, 2) := by decide +kernel
theorem dX13_readFirm_31 : decode cX13_readFirm 31 = .ok (.invokevirtual 187, 3) := by decide +kernel
theorem dX13_readFirm_34 : decode cX13_readFirm 34 = .ok (.ifCond .eq 49, 3) := by decide +kernel
theorem dX13_readFirm_37 : decode cX13_readFirm 37 = .ok (.aload_n 0, 1) := by decide +kernel
theorem dX13_readFirm_38 : decode cX13_readFirm 38 = .ok (.iconst 0, 1) := by decide +kernel
theorem dX13_readFirm_39 : decode cX13_readFirm 39 = .ok (.invokevirtual 181, 3) := by decide +kernel
theorem dX13_readFirm_42 : decode cX13_readFirm 42 = .ok (.istore 5, 2) := by decide +kernel
theorem dX13_readFirm_44 : decode cX13_readFirm 44 = .ok (.aload_n 0, 1) := by decide +kernel
theorem dX13_readFirm_45 : decode cX13_readFirm 45 = .ok (.getfield 74, 3) := by decide +kernel
theorem dX13_readFirm_48 : decode cX13_readFirm 48 = .ok (.iconst 5, 1) := by decide +kernel
theorem dX13_readFirm_49 : decode cX13_readFirm 49 = .ok (.if_icmp .eq 18, 3) := by decide +kernel
theorem dX13_readFirm_52 : decode cX13_readFirm 52 = .ok (.iload 4, 2) := by decide +kernel
theorem dX13_readFirm_54 : decode cX13_readFirm 54 = .ok (.iload 5, 2) := by decide +kernel
theorem dX13_readFirm_56 : decode cX13_readFirm 56 = .ok (.invokestatic 249, 3) := by decide +kernel
theorem dX13_readFirm_59 : decode cX13_readFirm 59 = .ok (.ifCond .eq 8, 3) := by decide +kernel
theorem dX13_readFirm_62 : decode cX13_readFirm 62 = .ok (.aload_n 0, 1) := by decide +kernel
theorem dX13_readFirm_63 : decode cX13_readFirm 63 = .ok (.iconst 3, 1) := by decide +kernel
theorem dX13_readFirm_64 : decode cX13_readFirm 64 = .ok (.invokevirtual 117, 3) := by decide +kernel
theorem dX13_readFirm_67 : decode cX13_readFirm 67 = .ok (.aload_n 0, 1) := by decide +kernel
theorem dX13_readFirm_68 : decode cX13_readFirm 68 = .ok (.invokevirtual 110, 3) := by decide +kernel
theorem dX13_readFirm_71 : decode cX13_readFirm 71 = .ok (.iload 4, 2) := by decide +kernel
theorem dX13_readFirm_73 : decode cX13_readFirm 73 = .ok (.iconst 1, 1) := by decide +kernel
theorem dX13_readFirm_74 : decode cX13_readFirm 74 = .ok (.iload 5, 2) := by decide +kernel
theorem dX13_readFirm_76 : decode cX13_readFirm 76 = .ok (.ishl, 1) := by decide +kernel
theorem dX13_readFirm_77 : decode cX13_readFirm 77 = .ok (.ior, 1) := by decide +kernel
theorem dX13_readFirm_78 : decode cX13_readFirm 78 = .ok (.istore 4, 2) := by decide +kernel
theorem dX13_readFirm_80 : decode cX13_readFirm 80 = .ok (.goto (-52), 3) := by decide +kernel
theorem dX13_readFirm_83 : decode cX13_readFirm 83 = .ok (.aload_n 0, 1) := by decide +kernel
theorem dX13_readFirm_84 : decode cX13_readFirm 84 = .ok (.getfield 74, 3) := by decide +kernel
theorem dX13_readFirm_87 : decode cX13_readFirm 87 = .ok (.iconst 5, 1) := by decide +kernel
theorem dX13_readFirm_88 : decode cX13_readFirm 88 = .ok (.if_icmp .ne 4, 3) := by decide +kernel
theorem dX13_readFirm_91 : decode cX13_readFirm 91 = .ok (.return_, 1) := by decide +kernel
theorem dX13_readFirm_92 : decode cX13_readFirm 92 = .ok (.aload_n 0, 1) := by decide +kernel
theorem dX13_readFirm_93 : decode cX13_readFirm 93 = .ok (.lload_n 1, 1) := by decide +kernel
theorem dX13_readFirm_94 : decode cX13_readFirm 94 = .ok (.iconst 1, 1) := by decide +kernel
theorem dX13_readFirm_95 : decode cX13_readFirm 95 = .ok (.aload_n 0, 1) := by decide +kernel
theorem dX13_readFirm_96 : decode cX13_readFirm 96 = .ok (.getfield 151, 3) := by decide +kernel
theorem dX13_readFirm_99 : decode cX13_readFirm 99 = .ok (.getfield 243, 3) := by decide +kernel
theorem dX13_readFirm_102 : decode cX13_readFirm 102 = .ok (.invokevirtual 240, 3) := by decide +kernel
theorem dX13_readFirm_105 : decode cX13_readFirm 105 = .ok (.aload_n 0, 1) := by decide +kernel
theorem dX13_readFirm_106 : decode cX13_readFirm 106 = .ok (.getfield 151, 3) := by decide +kernel
theorem dX13_readFirm_109 : decode cX13_readFirm 109 = .ok (.getfield 253, 3) := by decide +kernel
theorem dX13_readFirm_112 : decode cX13_readFirm 112 = .ok (.aload_n 0, 1) := by decide +kernel
theorem dX13_readFirm_113 : decode cX13_readFirm 113 = .ok (.getfield 151, 3) := by decide +kernel
theorem dX13_readFirm_116 : decode cX13_readFirm 116 = .ok (.getfield 243, 3) := by decide +kernel
theorem dX13_readFirm_119 : decode cX13_readFirm 119 = .ok (.iload_n 3, 1) := by decide +kernel
theorem dX13_readFirm_120 : decode cX13_readFirm 120 = .ok (.iastore, 1) := by decide +kernel
theorem dX13_readFirm_121 : decode cX13_readFirm 121 = .ok (.aload_n 0, 1) := by decide +kernel
theorem dX13_readFirm_122 : decode cX13_readFirm 122 = .ok (.getfield 151, 3) := by decide +kernel
theorem dX13_readFirm_125 : decode cX13_readFirm 125 = .ok (.getfield 256, 3) := by decide +kernel
theorem dX13_readFirm_128 : decode cX13_readFirm 128 = .ok (.aload_n 0, 1) := by decide +kernel
theorem dX13_readFirm_129 : decode cX13_readFirm 129 = .ok (.getfield 151, 3) := by decide +kernel
theorem dX13_readFirm_132 : decode cX13_readFirm 132 = .ok (.getfield 243, 3) := by decide +kernel
theorem dX13_readFirm_135 : decode cX13_readFirm 135 = .ok (.iload 4, 2) := by decide +kernel
theorem dX13_readFirm_137 : decode cX13_readFirm 137 = .ok (.iastore, 1) := by decide +kernel
theorem dX13_readFirm_138 : decode cX13_readFirm 138 = .ok (.aload_n 0, 1) := by decide +kernel
theorem dX13_readFirm_139 : decode cX13_readFirm 139 = .ok (.getfield 151, 3) := by decide +kernel
theorem dX13_readFirm_142 : decode cX13_readFirm 142 = .ok (.dup, 1) := by decide +kernel
theorem dX13_readFirm_143 : decode cX13_readFirm 143 = .ok (.getfield 243, 3) := by decide +kernel
theorem dX13_readFirm_146 : decode cX13_readFirm 146 = .ok (.iconst 1, 1) := by decide +kernel
theorem dX13_readFirm_147 : decode cX13_readFirm 147 = .ok (.iadd, 1) := by decide +kernel
theorem dX13_readFirm_148 : decode cX13_readFirm 148 = .ok (.putfield 243, 3) := by decide +kernel
theorem dX13_readFirm_151 : decode cX13_readFirm 151 = .ok (.return_, 1) := by decide +kernel
theorem dX13_readGate_0 : decode cX13_readGate 0 = .ok (.aload_n 0, 1) := by decide +kernel
theorem dX13_readGate_1 : decode cX13_readGate 1 = .ok (.aload_n 0, 1) := by decide +kernel
theorem dX13_readGate_2 : decode cX13_readGate 2 = .ok (.getfield 151, 3) := by decide +kernel
theorem dX13_readGate_5 : decode cX13_readGate 5 = .ok (.getfield 191, 3) := by decide +kernel
theorem dX13_readGate_8 : decode cX13_readGate 8 = .ok (.bipush 6, 2) := by decide +kernel
theorem dX13_readGate_10 : decode cX13_readGate 10 = .ok (.invokevirtual 232, 3) := by decide +kernel
theorem dX13_readGate_13 : decode cX13_readGate 13 = .ok (.aload_n 0, 1) := by decide +kernel
theorem dX13_readGate_14 : decode cX13_readGate 14 = .ok (.invokevirtual 236, 3) := by decide +kernel
theorem dX13_readGate_17 : decode cX13_readGate 17 = .ok (.lstore_n 1, 1) := by decide +kernel
theorem dX13_readGate_18 : decode cX13_readGate 18 = .ok (.aload_n 0, 1) := by decide +kernel
theorem dX13_readGate_19 : decode cX13_readGate 19 = .ok (.ldc_w 259, 3) := by decide +kernel
theorem dX13_readGate_22 : decode cX13_readGate 22 = .ok (.invokevirtual 113, 3) := by decide +kernel
theorem dX13_readGate_25 : decode cX13_readGate 25 = .ok (.ifCond .eq 7, 3) := by decide +kernel
theorem dX13_readGate_28 : decode cX13_readGate 28 = .ok (.iconst 0, 1) := by decide +kernel
theorem dX13_readGate_29 : decode cX13_readGate 29 = .ok (.goto 46, 3) := by decide +kernel
theorem dX13_readGate_32 : decode cX13_readGate 32 = .ok (.aload_n 0, 1) := by decide +kernel
theorem dX13_readGate_33 : decode cX13_readGate 33 = .ok (.ldc_w 261, 3) := by decide +kernel
theorem dX13_readGate_36 : decode cX13_readGate 36 = .ok (.invokevirtual 113, 3) := by decide +kernel
theorem dX13_readGate_39 : decode cX13_readGate 39 = .ok (.ifCond .eq 7, 3) := by decide +kernel
theorem dX13_readGate_42 : decode cX13_readGate 42 = .ok (.iconst 1, 1) := by decide +kernel
theorem dX13_readGate_43 : decode cX13_readGate 43 = .ok (.goto 32, 3) := by decide +kernel
theorem dX13_readGate_46 : decode cX13_readGate 46 = .ok (.aload_n 0, 1) := by decide +kernel
theorem dX13_readGate_47 : decode cX13_readGate 47 = .ok (.ldc_w 263, 3) := by decide +kernel
theorem dX13_readGate_50 : decode cX13_readGate 50 = .ok (.invokevirtual 113, 3) := by decide +kernel
theorem dX13_readGate_53 : decode cX13_readGate 53 = .ok (.ifCond .eq 7, 3) := by decide +kernel
theorem dX13_readGate_56 : decode cX13_readGate 56 = .ok (.iconst 2, 1) := by decide +kernel
theorem dX13_readGate_57 : decode cX13_readGate 57 = .ok (.goto 18, 3) := by decide +kernel
theorem dX13_readGate_60 : decode cX13_readGate 60 = .ok (.aload_n 0, 1) := by decide +kernel
theorem dX13_readGate_61 : decode cX13_readGate 61 = .ok (.ldc_w 265, 3) := by decide +kernel
theorem dX13_readGate_64 : decode cX13_readGate 64 = .ok (.invokevirtual 113, 3) := by decide +kernel
theorem dX13_readGate_67 : decode cX13_readGate 67 = .ok (.ifCond .eq 7, 3) := by decide +kernel
theorem dX13_readGate_70 : decode cX13_readGate 70 = .ok (.iconst 3, 1) := by decide +kernel
theorem dX13_readGate_71 : decode cX13_readGate 71 = .ok (.goto 4, 3) := by decide +kernel
theorem dX13_readGate_74 : decode cX13_readGate 74 = .ok (.iconst (-1), 1) := by decide +kernel
theorem dX13_readGate_75 : decode cX13_readGate 75 = .ok (.istore_n 3, 1) := by decide +kernel
theorem dX13_readGate_76 : decode cX13_readGate 76 = .ok (.iload_n 3, 1) := by decide +kernel
theorem dX13_readGate_77 : decode cX13_readGate 77 = .ok (.iconst (-1), 1) := by decide +kernel
theorem dX13_readGate_78 : decode cX13_readGate 78 = .ok (.if_icmp .ne 8, 3) := by decide +kernel
theorem dX13_readGate_81 : decode cX13_readGate 81 = .ok (.aload_n 0, 1) := by decide +kernel
theorem dX13_readGate_82 : decode cX13_readGate 82 = .ok (.iconst 1, 1) := by decide +kernel
theorem dX13_readGate_83 : decode cX13_readGate 83 = .ok (.invokevirtual 117, 3) := by decide +kernel
theorem dX13_readGate_86 : decode cX13_readGate 86 = .ok (.aload_n 0, 1) := by decide +kernel
theorem dX13_readGate_87 : decode cX13_readGate 87 = .ok (.invokevirtual 110, 3) := by decide +kernel
theorem dX13_readGate_90 : decode cX13_readGate 90 = .ok (.aload_n 0, 1) := by decide +kernel
theorem dX13_readGate_91 : decode cX13_readGate 91 = .ok (.iconst 1, 1) := by decide +kernel
theorem dX13_readGate_92 : decode cX13_readGate 92 = .ok (.invokevirtual 246, 3) := by decide +kernel
theorem dX13_readGate_95 : decode cX13_readGate 95 = .ok (.istore 4, 2) := by decide +kernel
theorem dX13_readGate_97 : decode cX13_readGate 97 = .ok (.aload_n 0, 1) := by decide +kernel
theorem dX13_readGate_98 : decode cX13_readGate 98 = .ok (.ldc_w 267, 3) := by decide +kernel
theorem dX13_readGate_101 : decode cX13_readGate 101 = .ok (.iconst 0, 1) := by decide +kernel
theorem dX13_readGate_102 : decode cX13_readGate 102 = .ok (.bipush 99, 2) := by decide +kernel
theorem dX13_readGate_104 : decode cX13_readGate 104 = .ok (.invokevirtual 221, 3) := by decide +kernel
theorem dX13_readGate_107 : decode cX13_readGate 107 = .ok (.istore 5, 2) := by decide +kernel
theorem dX13_readGate_109 : decode cX13_readGate 109 = .ok (.aload_n 0, 1) := by decide +kernel
theorem dX13_readGate_110 : decode cX13_readGate 110 = .ok (.ldc_w 269, 3) := by decide +kernel
theorem dX13_readGate_113 : decode cX13_readGate 113 = .ok (.invokevirtual 113, 3) := by decide +kernel
theorem dX13_readGate_116 : decode cX13_readGate 116 = .ok (.ifCond .eq 7, 3) := by decide +kernel
theorem dX13_readGate_119 : decode cX13_readGate 119 = .ok (.iconst 0, 1) := by decide +kernel
theorem dX13_readGate_120 : decode cX13_readGate 120 = .ok (.goto 32, 3) := by decide +kernel
theorem dX13_readGate_123 : decode cX13_readGate 123 = .ok (.aload_n 0, 1) := by decide +kernel
theorem dX13_readGate_124 : decode cX13_readGate 124 = .ok (.ldc_w 271, 3) := by decide +kernel
theorem dX13_readGate_127 : decode cX13_readGate 127 = .ok (.invokevirtual 113, 3) := by decide +kernel
theorem dX13_readGate_130 : decode cX13_readGate 130 = .ok (.ifCond .eq 7, 3) := by decide +kernel
theorem dX13_readGate_133 : decode cX13_readGate 133 = .ok (.iconst 1, 1) := by decide +kernel
theorem dX13_readGate_134 : decode cX13_readGate 134 = .ok (.goto 18, 3) := by decide +kernel
theorem dX13_readGate_137 : decode cX13_readGate 137 = .ok (.aload_n 0, 1) := by decide +kernel
theorem dX13_readGate_138 : decode cX13_readGate 138 = .ok (.ldc_w 273, 3) := by decide +kernel
theorem dX13_readGate_141 : decode cX13_readGate 141 = .ok (.invokevirtual 113, 3) := by decide +kernel
theorem dX13_readGate_144 : decode cX13_readGate 144 = .ok (.ifCond .eq 7, 3) := by decide +kernel
theorem dX13_readGate_147 : decode cX13_readGate 147 = .ok (.iconst 2, 1) := by decide +kernel
theorem dX13_readGate_148 : decode cX13_readGate 148 = .ok (.goto 4, 3) := by decide +kernel
theorem dX13_readGate_151 : decode cX13_readGate 151 = .ok (.iconst (-1), 1) := by decide +kernel
theorem dX13_readGate_152 : decode cX13_readGate 152 = .ok (.istore 6, 2) := by decide +kernel
theorem dX13_readGate_154 : decode cX13_readGate 154 = .ok (.iload 6, 2) := by decide +kernel
theorem dX13_readGate_156 : decode cX13_readGate 156 = .ok (.iconst (-1), 1) := by decide +kernel
theorem dX13_readGate_157 : decode cX13_readGate 157 = .ok (.if_icmp .ne 8, 3) := by decide +kernel
theorem dX13_readGate_160 : decode cX13_readGate 160 = .ok (.aload_n 0, 1) := by decide +kernel
theorem dX13_readGate_161 : decode cX13_readGate 161 = .ok (.iconst 1, 1) := by decide +kernel
theorem dX13_readGate_162 : decode cX13_readGate 162 = .ok (.invokevirtual 117, 3) := by decide +kernel
theorem dX13_readGate_165 : decode cX13_readGate 165 = .ok (.aload_n 0, 1) := by decide +kernel
theorem dX13_readGate_166 : decode cX13_readGate 166 = .ok (.invokevirtual 110, 3) := by decide +kernel
theorem dX13_readGate_169 : decode cX13_readGate 169 = .ok (.aload_n 0, 1) := by decide +kernel
theorem dX13_readGate_170 : decode cX13_readGate 170 = .ok (.getfield 74, 3) := by decide +kernel
theorem dX13_readGate_173 : decode cX13_readGate 173 = .ok (.iconst 5, 1) := by decide +kernel
theorem dX13_readGate_174 : decode cX13_readGate 174 = .ok (.if_icmp .ne 4, 3) := by decide +kernel
theorem dX13_readGate_177 : decode cX13_readGate 177 = .ok (.return_, 1) := by decide +kernel
theorem dX13_readGate_178 : decode cX13_readGate 178 = .ok (.aload_n 0, 1) := by decide +kernel
theorem dX13_readGate_179 : decode cX13_readGate 179 = .ok (.getfield 151, 3) := by decide +kernel
theorem dX13_readGate_182 : decode cX13_readGate 182 = .ok (.getfield 191, 3) := by decide +kernel
theorem dX13_readGate_185 : decode cX13_readGate 185 = .ok (.istore 7, 2) := by decide +kernel
theorem dX13_readGate_187 : decode cX13_readGate 187 = .ok (.aload_n 0, 1) := by decide +kernel
theorem dX13_readGate_188 : decode cX13_readGate 188 = .ok (.lload_n 1, 1) := by decide +kernel
theorem dX13_readGate_189 : decode cX13_readGate 189 = .ok (.iconst 2, 1) := by decide +kernel
theorem dX13_readGate_190 : decode cX13_readGate 190 = .ok (.iload 7, 2) := by decide +kernel
theorem dX13_readGate_192 : decode cX13_readGate 192 = .ok (.invokevirtual 240, 3) := by decide +kernel
theorem dX13_readGate_195 : decode cX13_readGate 195 = .ok (.aload_n 0, 1) := by decide +kernel
theorem dX13_readGate_196 : decode cX13_readGate 196 = .ok (.getfield 151, 3) := by decide +kernel
theorem dX13_readGate_199 : decode cX13_readGate 199 = .ok (.getfield 275, 3) := by decide +kernel
theorem dX13_readGate_202 : decode cX13_readGate 202 = .ok (.iload 7, 2) := by decide +kernel
theorem dX13_readGate_204 : decode cX13_readGate 204 = .ok (.iload_n 3, 1) := by decide +kernel
theorem dX13_readGate_205 : decode cX13_readGate 205 = .ok (.iastore, 1) := by decide +kernel
theorem dX13_readGate_206 : decode cX13_readGate 206 = .ok (.aload_n 0, 1) := by decide +kernel
theorem dX13_readGate_207 : decode cX13_readGate 207 = .ok (.getfield 151, 3) := by decide +kernel
theorem dX13_readGate_210 : decode cX13_readGate 210 = .ok (.getfield 278, 3) := by decide +kernel
theorem dX13_readGate_213 : decode cX13_readGate 213 = .ok (.iload 7, 2) := by decide +kernel
theorem dX13_readGate_215 : decode cX13_readGate 215 = .ok (.iload 4, 2) := by decide +kernel
theorem dX13_readGate_217 : decode cX13_readGate 217 = .ok (.iastore, 1) := by decide +kernel
theorem dX13_readGate_218 : decode cX13_readGate 218 = .ok (.aload_n 0, 1) := by decide +kernel
theorem dX13_readGate_219 : decode cX13_readGate 219 = .ok (.getfield 151, 3) := by decide +kernel
theorem dX13_readGate_222 : decode cX13_readGate 222 = .ok (.getfield 280, 3) := by decide +kernel
theorem dX13_readGate_225 : decode cX13_readGate 225 = .ok (.iload 7, 2) := by decide +kernel
theorem dX13_readGate_227 : decode cX13_readGate 227 = .ok (.iload 5, 2) := by decide +kernel
theorem dX13_readGate_229 : decode cX13_readGate 229 = .ok (.iastore, 1) := by decide +kernel
theorem dX13_readGate_230 : decode cX13_readGate 230 = .ok (.aload_n 0, 1) := by decide +kernel
theorem dX13_readGate_231 : decode cX13_readGate 231 = .ok (.getfield 151, 3) := by decide +kernel
theorem dX13_readGate_234 : decode cX13_readGate 234 = .ok (.getfield 282, 3) := by decide +kernel
theorem dX13_readGate_237 : decode cX13_readGate 237 = .ok (.iload 7, 2) := by decide +kernel
theorem dX13_readGate_239 : decode cX13_readGate 239 = .ok (.iload 6, 2) := by decide +kernel
theorem dX13_readGate_241 : decode cX13_readGate 241 = .ok (.iastore, 1) := by decide +kernel
theorem dX13_readGate_242 : decode cX13_readGate 242 = .ok (.aload_n 0, 1) := by decide +kernel
theorem dX13_readGate_243 : decode cX13_readGate 243 = .ok (.getfield 151, 3) := by decide +kernel
theorem dX13_readGate_246 : decode cX13_readGate 246 = .ok (.dup, 1) := by decide +kernel
theorem dX13_readGate_247 : decode cX13_readGate 247 = .ok (.getfield 191, 3) := by decide +kernel
theorem dX13_readGate_250 : decode cX13_readGate 250 = .ok (.iconst 1, 1) := by decide +kernel
theorem dX13_readGate_251 : decode cX13_readGate 251 = .ok (.iadd, 1) := by decide +kernel
theorem dX13_readGate_252 : decode cX13_readGate 252 = .ok (.putfield 191, 3) := by decide +kernel
theorem dX13_readGate_255 : decode cX13_readGate 255 = .ok (.return_, 1) := by decide +kernel
theorem dX13_readPath_0 : decode cX13_readPath 0 = .ok (.aload_n 0, 1) := by decide +kernel
theorem dX13_readPath_1 : decode cX13_readPath 1 = .ok (.aload_n 0, 1) := by decide +kernel
theorem dX13_readPath_2 : decode cX13_readPath 2 = .ok (.getfield 151, 3) := by decide +kernel
theorem dX13_readPath_5 : decode cX13_readPath 5 = .ok (.getfield 285, 3) := by decide +kernel
theorem dX13_readPath_8 : decode cX13_readPath 8 = .ok (.bipush 8, 2) := by decide +kernel
theorem dX13_readPath_10 : decode cX13_readPath 10 = .ok (.invokevirtual 232, 3) := by decide +kernel
theorem dX13_readPath_13 : decode cX13_readPath 13 = .ok (.aload_n 0, 1) := by decide +kernel
theorem dX13_readPath_14 : decode cX13_readPath 14 = .ok (.iconst 2, 1) := by decide +kernel
theorem dX13_readPath_15 : decode cX13_readPath 15 = .ok (.invokevirtual 246, 3) := by decide +kernel
theorem dX13_readPath_18 : decode cX13_readPath 18 = .ok (.istore_n 1, 1) := by decide +kernel
theorem dX13_readPath_19 : decode cX13_readPath 19 = .ok (.aload_n 0, 1) := by decide +kernel
theorem dX13_readPath_20 : decode cX13_readPath 20 = .ok (.iconst 2, 1) := by decide +kernel
theorem dX13_readPath_21 : decode cX13_readPath 21 = .ok (.invokevirtual 181, 3) := by decide +kernel
theorem dX13_readPath_24 : decode cX13_readPath 24 = .ok (.istore_n 2, 1) := by decide +kernel
theorem dX13_readPath_25 : decode cX13_readPath 25 = .ok (.aload_n 0, 1) := by decide +kernel
theorem dX13_readPath_26 : decode cX13_readPath 26 = .ok (.getfield 74, 3) := by decide +kernel
theorem dX13_readPath_29 : decode cX13_readPath 29 = .ok (.iconst 5, 1) := by decide +kernel
theorem dX13_readPath_30 : decode cX13_readPath 30 = .ok (.if_icmp .eq 29, 3) := by decide +kernel
theorem dX13_readPath_33 : decode cX13_readPath 33 = .ok (.iload_n 1, 1) := by decide +kernel
theorem dX13_readPath_34 : decode cX13_readPath 34 = .ok (.iload_n 2, 1) := by decide +kernel
theorem dX13_readPath_35 : decode cX13_readPath 35 = .ok (.if_icmp .eq 19, 3) := by decide +kernel
theorem dX13_readPath_38 : decode cX13_readPath 38 = .ok (.aload_n 0, 1) := by decide +kernel
theorem dX13_readPath_39 : decode cX13_readPath 39 = .ok (.getfield 151, 3) := by decide +kernel
theorem dX13_readPath_42 : decode cX13_readPath 42 = .ok (.getfield 288, 3) := by decide +kernel
theorem dX13_readPath_45 : decode cX13_readPath 45 = .ok (.iload_n 1, 1) := by decide +kernel
theorem dX13_readPath_46 : decode cX13_readPath 46 = .ok (.iaload, 1) := by decide +kernel
theorem dX13_readPath_47 : decode cX13_readPath 47 = .ok (.iload_n 2, 1) := by decide +kernel
theorem dX13_readPath_48 : decode cX13_readPath 48 = .ok (.invokestatic 249, 3) := by decide +kernel
theorem dX13_readPath_51 : decode cX13_readPath 51 = .ok (.ifCond .eq 8, 3) := by decide +kernel
theorem dX13_readPath_54 : decode cX13_readPath 54 = .ok (.aload_n 0, 1) := by decide +kernel
theorem dX13_readPath_55 : decode cX13_readPath 55 = .ok (.iconst 3, 1) := by decide +kernel
theorem dX13_readPath_56 : decode cX13_readPath 56 = .ok (.invokevirtual 117, 3) := by decide +kernel
theorem dX13_readPath_59 : decode cX13_readPath 59 = .ok (.aload_n 0, 1) := by decide +kernel
theorem dX13_readPath_60 : decode cX13_readPath 60 = .ok (.invokevirtual 110, 3) := by decide +kernel
theorem dX13_readPath_63 : decode cX13_readPath 63 = .ok (.aload_n 0, 1) := by decide +kernel
theorem dX13_readPath_64 : decode cX13_readPath 64 = .ok (.getfield 74, 3) := by decide +kernel
theorem dX13_readPath_67 : decode cX13_readPath 67 = .ok (.iconst 5, 1) := by decide +kernel
theorem dX13_readPath_68 : decode cX13_readPath 68 = .ok (.if_icmp .ne 4, 3) := by decide +kernel
theorem dX13_readPath_71 : decode cX13_readPath 71 = .ok (.return_, 1) := by decide +kernel
theorem dX13_readPath_72 : decode cX13_readPath 72 = .ok (.aload_n 0, 1) := by decide +kernel
theorem dX13_readPath_73 : decode cX13_readPath 73 = .ok (.getfield 151, 3) := by decide +kernel
theorem dX13_readPath_76 : decode cX13_readPath 76 = .ok (.getfield 288, 3) := by decide +kernel
theorem dX13_readPath_79 : decode cX13_readPath 79 = .ok (.iload_n 1, 1) := by decide +kernel
theorem dX13_readPath_80 : decode cX13_readPath 80 = .ok (.dup2, 1) := by decide +kernel
theorem dX13_readPath_81 : decode cX13_readPath 81 = .ok (.iaload, 1) := by decide +kernel
theorem dX13_readPath_82 : decode cX13_readPath 82 = .ok (.iconst 1, 1) := by decide +kernel
theorem dX13_readPath_83 : decode cX13_readPath 83 = .ok (.iload_n 2, 1) := by decide +kernel
theorem dX13_readPath_84 : decode cX13_readPath 84 = .ok (.ishl, 1) := by decide +kernel
theorem dX13_readPath_85 : decode cX13_readPath 85 = .ok (.ior, 1) := by decide +kernel
theorem dX13_readPath_86 : decode cX13_readPath 86 = .ok (.iastore, 1) := by decide +kernel
theorem dX13_readPath_87 : decode cX13_readPath 87 = .ok (.aload_n 0, 1) := by decide +kernel
theorem dX13_readPath_88 : decode cX13_readPath 88 = .ok (.getfield 151, 3) := by decide +kernel
theorem dX13_readPath_91 : decode cX13_readPath 91 = .ok (.getfield 288, 3) := by decide +kernel
theorem dX13_readPath_94 : decode cX13_readPath 94 = .ok (.iload_n 2, 1) := by decide +kernel
theorem dX13_readPath_95 : decode cX13_readPath 95 = .ok (.dup2, 1) := by decide +kernel
theorem dX13_readPath_96 : decode cX13_readPath 96 = .ok (.iaload, 1) := by decide +kernel
theorem dX13_readPath_97 : decode cX13_readPath 97 = .ok (.iconst 1, 1) := by decide +kernel
theorem dX13_readPath_98 : decode cX13_readPath 98 = .ok (.iload_n 1, 1) := by decide +kernel
theorem dX13_readPath_99 : decode cX13_readPath 99 = .ok (.ishl, 1) := by decide +kernel
theorem dX13_readPath_100 : decode cX13_readPath 100 = .ok (.ior, 1) := by decide +kernel
theorem dX13_readPath_101 : decode cX13_readPath 101 = .ok (.iastore, 1) := by decide +kernel
theorem dX13_readPath_102 : decode cX13_readPath 102 = .ok (.aload_n 0, 1) := by decide +kernel
theorem dX13_readPath_103 : decode cX13_readPath 103 = .ok (.getfield 151, 3) := by decide +kernel
theorem dX13_readPath_106 : decode cX13_readPath 106 = .ok (.dup, 1) := by decide +kernel
theorem dX13_readPath_107 : decode cX13_readPath 107 = .ok (.getfield 285, 3) := by decide +kernel
theorem dX13_readPath_110 : decode cX13_readPath 110 = .ok (.iconst 1, 1) := by decide +kernel
theorem dX13_readPath_111 : decode cX13_readPath 111 = .ok (.iadd, 1) := by decide +kernel
theorem dX13_readPath_112 : decode cX13_readPath 112 = .ok (.putfield 285, 3) := by decide +kernel
theorem dX13_readPath_115 : decode cX13_readPath 115 = .ok (.return_, 1) := by decide +kernel
theorem dX13_readWants_0 : decode cX13_readWants 0 = .ok (.aload_n 0, 1) := by decide +kernel
theorem dX13_readWants_1 : decode cX13_readWants 1 = .ok (.aload_n 0, 1) := by decide +kernel
theorem dX13_readWants_2 : decode cX13_readWants 2 = .ok (.getfield 151, 3) := by decide +kernel
theorem dX13_readWants_5 : decode cX13_readWants 5 = .ok (.getfield 291, 3) := by decide +kernel
theorem dX13_readWants_8 : decode cX13_readWants 8 = .ok (.iconst 4, 1) := by decide +kernel
theorem dX13_readWants_9 : decode cX13_readWants 9 = .ok (.invokevirtual 232, 3) := by decide +kernel
theorem dX13_readWants_12 : decode cX13_readWants 12 = .ok (.aload_n 0, 1) := by decide +kernel
theorem dX13_readWants_13 : decode cX13_readWants 13 = .ok (.iconst 0, 1) := by decide +kernel
theorem dX13_readWants_14 : decode cX13_readWants 14 = .ok (.invokevirtual 246, 3) := by decide +kernel
theorem dX13_readWants_17 : decode cX13_readWants 17 = .ok (.istore_n 2, 1) := by decide +kernel
theorem dX13_readWants_18 : decode cX13_readWants 18 = .ok (.aload_n 0, 1) := by decide +kernel
theorem dX13_readWants_19 : decode cX13_readWants 19 = .ok (.iconst 2, 1) := by decide +kernel
theorem dX13_readWants_20 : decode cX13_readWants 20 = .ok (.invokevirtual 246, 3) := by decide +kernel
theorem dX13_readWants_23 : decode cX13_readWants 23 = .ok (.istore_n 3, 1) := by decide +kernel
theorem dX13_readWants_24 : decode cX13_readWants 24 = .ok (.aload_n 0, 1) := by decide +kernel
theorem dX13_readWants_25 : decode cX13_readWants 25 = .ok (.getfield 74, 3) := by decide +kernel
theorem dX13_readWants_28 : decode cX13_readWants 28 = .ok (.iconst 5, 1) := by decide +kernel
theorem dX13_readWants_29 : decode cX13_readWants 29 = .ok (.if_icmp .ne 4, 3) := by decide +kernel
theorem dX13_readWants_32 : decode cX13_readWants 32 = .ok (.return_, 1) := by decide +kernel
theorem dX13_readWants_33 : decode cX13_readWants 33 = .ok (.aload_n 0, 1) := by decide +kernel
theorem dX13_readWants_34 : decode cX13_readWants 34 = .ok (.getfield 151, 3) := by decide +kernel
theorem dX13_readWants_37 : decode cX13_readWants 37 = .ok (.getfield 293, 3) := by decide +kernel
theorem dX13_readWants_40 : decode cX13_readWants 40 = .ok (.aload_n 0, 1) := by decide +kernel
theorem dX13_readWants_41 : decode cX13_readWants 41 = .ok (.getfield 151, 3) := by decide +kernel
theorem dX13_readWants_44 : decode cX13_readWants 44 = .ok (.getfield 291, 3) := by decide +kernel
theorem dX13_readWants_47 : decode cX13_readWants 47 = .ok (.iload_n 2, 1) := by decide +kernel
theorem dX13_readWants_48 : decode cX13_readWants 48 = .ok (.iastore, 1) := by decide +kernel
theorem dX13_readWants_49 : decode cX13_readWants 49 = .ok (.aload_n 0, 1) := by decide +kernel
theorem dX13_readWants_50 : decode cX13_readWants 50 = .ok (.getfield 151, 3) := by decide +kernel
theorem dX13_readWants_53 : decode cX13_readWants 53 = .ok (.getfield 296, 3) := by decide +kernel
theorem dX13_readWants_56 : decode cX13_readWants 56 = .ok (.aload_n 0, 1) := by decide +kernel
theorem dX13_readWants_57 : decode cX13_readWants 57 = .ok (.getfield 151, 3) := by decide +kernel
theorem dX13_readWants_60 : decode cX13_readWants 60 = .ok (.getfield 291, 3) := by decide +kernel
theorem dX13_readWants_63 : decode cX13_readWants 63 = .ok (.iload_n 3, 1) := by decide +kernel
theorem dX13_readWants_64 : decode cX13_readWants 64 = .ok (.iastore, 1) := by decide +kernel
theorem dX13_readWants_65 : decode cX13_readWants 65 = .ok (.iload_n 1, 1) := by decide +kernel
theorem dX13_readWants_66 : decode cX13_readWants 66 = .ok (.ifCond .eq 24, 3) := by decide +kernel
theorem dX13_readWants_69 : decode cX13_readWants 69 = .ok (.aload_n 0, 1) := by decide +kernel
theorem dX13_readWants_70 : decode cX13_readWants 70 = .ok (.getfield 151, 3) := by decide +kernel
theorem dX13_readWants_73 : decode cX13_readWants 73 = .ok (.dup, 1) := by decide +kernel
theorem dX13_readWants_74 : decode cX13_readWants 74 = .ok (.getfield 299, 3) := by decide +kernel
theorem dX13_readWants_77 : decode cX13_readWants 77 = .ok (.iconst 1, 1) := by decide +kernel
theorem dX13_readWants_78 : decode cX13_readWants 78 = .ok (.aload_n 0, 1) := by decide +kernel
theorem dX13_readWants_79 : decode cX13_readWants 79 = .ok (.getfield 151, 3) := by decide +kernel
theorem dX13_readWants_82 : decode cX13_readWants 82 = .ok (.getfield 291, 3) := by decide +kernel
theorem dX13_readWants_85 : decode cX13_readWants 85 = .ok (.ishl, 1) := by decide +kernel
theorem dX13_readWants_86 : decode cX13_readWants 86 = .ok (.ior, 1) := by decide +kernel
theorem dX13_readWants_87 : decode cX13_readWants 87 = .ok (.putfield 299, 3) := by decide +kernel
theorem dX13_readWants_90 : decode cX13_readWants 90 = .ok (.aload_n 0, 1) := by decide +kernel
theorem dX13_readWants_91 : decode cX13_readWants 91 = .ok (.getfield 151, 3) := by decide +kernel
theorem dX13_readWants_94 : decode cX13_readWants 94 = .ok (.dup, 1) := by decide +kernel
theorem dX13_readWants_95 : decode cX13_readWants 95 = .ok (.getfield 291, 3) := by decide +kernel
theorem dX13_readWants_98 : decode cX13_readWants 98 = .ok (.iconst 1, 1) := by decide +kernel
theorem dX13_readWants_99 : decode cX13_readWants 99 = .ok (.iadd, 1) := by decide +kernel
theorem dX13_readWants_100 : decode cX13_readWants 100 = .ok (.putfield 291, 3) := by decide +kernel
theorem dX13_readWants_103 : decode cX13_readWants 103 = .ok (.return_, 1) := by decide +kernel
theorem dX13_readLost_0 : decode cX13_readLost 0 = .ok (.aload_n 0, 1) := by decide +kernel
theorem dX13_readLost_1 : decode cX13_readLost 1 = .ok (.aload_n 0, 1) := by decide +kernel
theorem dX13_readLost_2 : decode cX13_readLost 2 = .ok (.getfield 151, 3) := by decide +kernel
theorem dX13_readLost_5 : decode cX13_readLost 5 = .ok (.getfield 301, 3) := by decide +kernel
theorem dX13_readLost_8 : decode cX13_readLost 8 = .ok (.iconst 4, 1) := by decide +kernel
theorem dX13_readLost_9 : decode cX13_readLost 9 = .ok (.invokevirtual 232, 3) := by decide +kernel
theorem dX13_readLost_12 : decode cX13_readLost 12 = .ok (.aload_n 0, 1) := by decide +kernel
theorem dX13_readLost_13 : decode cX13_readLost 13 = .ok (.iconst 2, 1) := by decide +kernel
theorem dX13_readLost_14 : decode cX13_readLost 14 = .ok (.invokevirtual 181, 3) := by decide +kernel
theorem dX13_readLost_17 : decode cX13_readLost 17 = .ok (.istore_n 1, 1) := by decide +kernel
theorem dX13_readLost_18 : decode cX13_readLost 18 = .ok (.aload_n 0, 1) := by decide +kernel
theorem dX13_readLost_19 : decode cX13_readLost 19 = .ok (.getfield 74, 3) := by decide +kernel
theorem dX13_readLost_22 : decode cX13_readLost 22 = .ok (.iconst 5, 1) := by decide +kernel
theorem dX13_readLost_23 : decode cX13_readLost 23 = .ok (.if_icmp .eq 19, 3) := by decide +kernel
theorem dX13_readLost_26 : decode cX13_readLost 26 = .ok (.aload_n 0, 1) := by decide +kernel
theorem dX13_readLost_27 : decode cX13_readLost 27 = .ok (.getfield 151, 3) := by decide +kernel
theorem dX13_readLost_30 : decode cX13_readLost 30 = .ok (.iload_n 1, 1) := by decide +kernel
theorem dX13_readLost_31 : decode cX13_readLost 31 = .ok (.invokevirtual 304, 3) := by decide +kernel
theorem dX13_readLost_34 : decode cX13_readLost 34 = .ok (.ifCond .eq 8, 3) := by decide +kernel
theorem dX13_readLost_37 : decode cX13_readLost 37 = .ok (.aload_n 0, 1) := by decide +kernel
theorem dX13_readLost_38 : decode cX13_readLost 38 = .ok (.iconst 3, 1) := by decide +kernel
theorem dX13_readLost_39 : decode cX13_readLost 39 = .ok (.invokevirtual 117, 3) := by decide +kernel
theorem dX13_readLost_42 : decode cX13_readLost 42 = .ok (.aload_n 0, 1) := by decide +kernel
theorem dX13_readLost_43 : decode cX13_readLost 43 = .ok (.invokevirtual 110, 3) := by decide +kernel
theorem dX13_readLost_46 : decode cX13_readLost 46 = .ok (.aload_n 0, 1) := by decide +kernel
theorem dX13_readLost_47 : decode cX13_readLost 47 = .ok (.getfield 74, 3) := by decide +kernel
theorem dX13_readLost_50 : decode cX13_readLost 50 = .ok (.iconst 5, 1) := by decide +kernel
theorem dX13_readLost_51 : decode cX13_readLost 51 = .ok (.if_icmp .ne 4, 3) := by decide +kernel
theorem dX13_readLost_54 : decode cX13_readLost 54 = .ok (.return_, 1) := by decide +kernel
theorem dX13_readLost_55 : decode cX13_readLost 55 = .ok (.aload_n 0, 1) := by decide +kernel
theorem dX13_readLost_56 : decode cX13_readLost 56 = .ok (.getfield 151, 3) := by decide +kernel
theorem dX13_readLost_59 : decode cX13_readLost 59 = .ok (.getfield 307, 3) := by decide +kernel
theorem dX13_readLost_62 : decode cX13_readLost 62 = .ok (.aload_n 0, 1) := by decide +kernel
theorem dX13_readLost_63 : decode cX13_readLost 63 = .ok (.getfield 151, 3) := by decide +kernel
theorem dX13_readLost_66 : decode cX13_readLost 66 = .ok (.getfield 301, 3) := by decide +kernel
theorem dX13_readLost_69 : decode cX13_readLost 69 = .ok (.iload_n 1, 1) := by decide +kernel
theorem dX13_readLost_70 : decode cX13_readLost 70 = .ok (.iastore, 1) := by decide +kernel
theorem dX13_readLost_71 : decode cX13_readLost 71 = .ok (.aload_n 0, 1) := by decide +kernel
theorem dX13_readLost_72 : decode cX13_readLost 72 = .ok (.getfield 151, 3) := by decide +kernel
theorem dX13_readLost_75 : decode cX13_readLost 75 = .ok (.dup, 1) := by decide +kernel
theorem dX13_readLost_76 : decode cX13_readLost 76 = .ok (.getfield 301, 3) := by decide +kernel
theorem dX13_readLost_79 : decode cX13_readLost 79 = .ok (.iconst 1, 1) := by decide +kernel
theorem dX13_readLost_80 : decode cX13_readLost 80 = .ok (.iadd, 1) := by decide +kernel
theorem dX13_readLost_81 : decode cX13_readLost 81 = .ok (.putfield 301, 3) := by decide +kernel
theorem dX13_readLost_84 : decode cX13_readLost 84 = .ok (.return_, 1) := by decide +kernel
theorem dX13_readHad_0 : decode cX13_readHad 0 = .ok (.aload_n 0, 1) := by decide +kernel
theorem dX13_readHad_1 : decode cX13_readHad 1 = .ok (.iconst 0, 1) := by decide +kernel
theorem dX13_readHad_2 : decode cX13_readHad 2 = .ok (.iconst 1, 1) := by decide +kernel
theorem dX13_readHad_3 : decode cX13_readHad 3 = .ok (.invokevirtual 232, 3) := by decide +kernel
theorem dX13_readHad_6 : decode cX13_readHad 6 = .ok (.aload_n 0, 1) := by decide +kernel
theorem dX13_readHad_7 : decode cX13_readHad 7 = .ok (.iconst 0, 1) := by decide +kernel
theorem dX13_readHad_8 : decode cX13_readHad 8 = .ok (.invokevirtual 181, 3) := by decide +kernel
theorem dX13_readHad_11 : decode cX13_readHad 11 = .ok (.istore_n 1, 1) := by decide +kernel
theorem dX13_readHad_12 : decode cX13_readHad 12 = .ok (.aload_n 0, 1) := by decide +kernel
theorem dX13_readHad_13 : decode cX13_readHad 13 = .ok (.getfield 74, 3) := by decide +kernel
theorem dX13_readHad_16 : decode cX13_readHad 16 = .ok (.iconst 5, 1) := by decide +kernel
theorem dX13_readHad_17 : decode cX13_readHad 17 = .ok (.if_icmp .eq 21, 3) := by decide +kernel
theorem dX13_readHad_20 : decode cX13_readHad 20 = .ok (.aload_n 0, 1) := by decide +kernel
theorem dX13_readHad_21 : decode cX13_readHad 21 = .ok (.getfield 151, 3) := by decide +kernel
theorem dX13_readHad_24 : decode cX13_readHad 24 = .ok (.getfield 309, 3) := by decide +kernel
theorem dX13_readHad_27 : decode cX13_readHad 27 = .ok (.iload_n 1, 1) := by decide +kernel
theorem dX13_readHad_28 : decode cX13_readHad 28 = .ok (.iaload, 1) := by decide +kernel
theorem dX13_readHad_29 : decode cX13_readHad 29 = .ok (.iconst (-1), 1) := by decide +kernel
theorem dX13_readHad_30 : decode cX13_readHad 30 = .ok (.if_icmp .eq 8, 3) := by decide +kernel
theorem dX13_readHad_33 : decode cX13_readHad 33 = .ok (.aload_n 0, 1) := by decide +kernel
theorem dX13_readHad_34 : decode cX13_readHad 34 = .ok (.iconst 3, 1) := by decide +kernel
theorem dX13_readHad_35 : decode cX13_readHad 35 = .ok (.invokevirtual 117, 3) := by decide +kernel
theorem dX13_readHad_38 : decode cX13_readHad 38 = .ok (.aload_n 0, 1) := by decide +kernel
theorem dX13_readHad_39 : decode cX13_readHad 39 = .ok (.invokevirtual 110, 3) := by decide +kernel
theorem dX13_readHad_42 : decode cX13_readHad 42 = .ok (.aload_n 0, 1) := by decide +kernel
theorem dX13_readHad_43 : decode cX13_readHad 43 = .ok (.iconst 0, 1) := by decide +kernel
theorem dX13_readHad_44 : decode cX13_readHad 44 = .ok (.sipush 599, 3) := by decide +kernel
theorem dX13_readHad_47 : decode cX13_readHad 47 = .ok (.invokevirtual 129, 3) := by decide +kernel
theorem dX13_readHad_50 : decode cX13_readHad 50 = .ok (.istore_n 2, 1) := by decide +kernel
theorem dX13_readHad_51 : decode cX13_readHad 51 = .ok (.aload_n 0, 1) := by decide +kernel
theorem dX13_readHad_52 : decode cX13_readHad 52 = .ok (.getfield 74, 3) := by decide +kernel
theorem dX13_readHad_55 : decode cX13_readHad 55 = .ok (.iconst 5, 1) := by decide +kernel
theorem dX13_readHad_56 : decode cX13_readHad 56 = .ok (.if_icmp .ne 4, 3) := by decide +kernel
theorem dX13_readHad_59 : decode cX13_readHad 59 = .ok (.return_, 1) := by decide +kernel
theorem dX13_readHad_60 : decode cX13_readHad 60 = .ok (.aload_n 0, 1) := by decide +kernel
theorem dX13_readHad_61 : decode cX13_readHad 61 = .ok (.getfield 151, 3) := by decide +kernel
theorem dX13_readHad_64 : decode cX13_readHad 64 = .ok (.getfield 309, 3) := by decide +kernel
theorem dX13_readHad_67 : decode cX13_readHad 67 = .ok (.iload_n 1, 1) := by decide +kernel
theorem dX13_readHad_68 : decode cX13_readHad 68 = .ok (.iload_n 2, 1) := by decide +kernel
theorem dX13_readHad_69 : decode cX13_readHad 69 = .ok (.iastore, 1) := by decide +kernel
theorem dX13_readHad_70 : decode cX13_readHad 70 = .ok (.aload_n 0, 1) := by decide +kernel
theorem dX13_readHad_71 : decode cX13_readHad 71 = .ok (.getfield 151, 3) := by decide +kernel
theorem dX13_readHad_74 : decode cX13_readHad 74 = .ok (.dup, 1) := by decide +kernel
theorem dX13_readHad_75 : decode cX13_readHad 75 = .ok (.getfield 311, 3) := by decide +kernel
theorem dX13_readHad_78 : decode cX13_readHad 78 = .ok (.iconst 1, 1) := by decide +kernel
theorem dX13_readHad_79 : decode cX13_readHad 79 = .ok (.iadd, 1) := by decide +kernel
theorem dX13_readHad_80 : decode cX13_readHad 80 = .ok (.putfield 311, 3) := by decide +kernel
theorem dX13_readHad_83 : decode cX13_readHad 83 = .ok (.return_, 1) := by decide +kernel
theorem dX13_feed_0 : decode cX13_feed 0 = .ok (.aload_n 0, 1) := by decide +kernel
theorem dX13_feed_1 : decode cX13_feed 1 = .ok (.iconst 0, 1) := by decide +kernel
theorem dX13_feed_2 : decode cX13_feed 2 = .ok (.putfield 42, 3) := by decide +kernel
theorem dX13_feed_5 : decode cX13_feed 5 = .ok (.aload_n 0, 1) := by decide +kernel
theorem dX13_feed_6 : decode cX13_feed 6 = .ok (.getfield 314, 3) := by decide +kernel
theorem dX13_feed_9 : decode cX13_feed 9 = .ok (.bipush 20, 2) := by decide +kernel
theorem dX13_feed_11 : decode cX13_feed 11 = .ok (.iadd, 1) := by decide +kernel
theorem dX13_feed_12 : decode cX13_feed 12 = .ok (.sipush 900, 3) := by decide +kernel
theorem dX13_feed_15 : decode cX13_feed 15 = .ok (.if_icmp .le 5, 3) := by decide +kernel
theorem dX13_feed_18 : decode cX13_feed 18 = .ok (.iconst (-1), 1) := by decide +kernel
theorem dX13_feed_19 : decode cX13_feed 19 = .ok (.ireturn, 1) := by decide +kernel
theorem dX13_feed_20 : decode cX13_feed 20 = .ok (.iconst 0, 1) := by decide +kernel
theorem dX13_feed_21 : decode cX13_feed 21 = .ok (.istore 6, 2) := by decide +kernel
theorem dX13_feed_23 : decode cX13_feed 23 = .ok (.iload 6, 2) := by decide +kernel
theorem dX13_feed_25 : decode cX13_feed 25 = .ok (.bipush 20, 2) := by decide +kernel
theorem dX13_feed_27 : decode cX13_feed 27 = .ok (.if_icmp .ge 90, 3) := by decide +kernel
theorem dX13_feed_30 : decode cX13_feed 30 = .ok (.iload 6, 2) := by decide +kernel
theorem dX13_feed_32 : decode cX13_feed 32 = .ok (.iconst 4, 1) := by decide +kernel
theorem dX13_feed_33 : decode cX13_feed 33 = .ok (.if_icmp .ge 7, 3) := by decide +kernel
theorem dX13_feed_36 : decode cX13_feed 36 = .ok (.iload_n 1, 1) := by decide +kernel
theorem dX13_feed_37 : decode cX13_feed 37 = .ok (.goto 39, 3) := by decide +kernel
theorem dX13_feed_40 : decode cX13_feed 40 = .ok (.iload 6, 2) := by decide +kernel
theorem dX13_feed_42 : decode cX13_feed 42 = .ok (.bipush 8, 2) := by decide +kernel
theorem dX13_feed_44 : decode cX13_feed 44 = .ok (.if_icmp .ge 7, 3) := by decide +kernel
theorem dX13_feed_47 : decode cX13_feed 47 = .ok (.iload_n 2, 1) := by decide +kernel
theorem dX13_feed_48 : decode cX13_feed 48 = .ok (.goto 28, 3) := by decide +kernel
theorem dX13_feed_51 : decode cX13_feed 51 = .ok (.iload 6, 2) := by decide +kernel
theorem dX13_feed_53 : decode cX13_feed 53 = .ok (.bipush 12, 2) := by decide +kernel
theorem dX13_feed_55 : decode cX13_feed 55 = .ok (.if_icmp .ge 7, 3) := by decide +kernel
theorem dX13_feed_58 : decode cX13_feed 58 = .ok (.iload_n 3, 1) := by decide +kernel
theorem dX13_feed_59 : decode cX13_feed 59 = .ok (.goto 17, 3) := by decide +kernel
theorem dX13_feed_62 : decode cX13_feed 62 = .ok (.iload 6, 2) := by decide +kernel
theorem dX13_feed_64 : decode cX13_feed 64 = .ok (.bipush 16, 2) := by decide +kernel
theorem dX13_feed_66 : decode cX13_feed 66 = .ok (.if_icmp .ge 8, 3) := by decide +kernel
theorem dX13_feed_69 : decode cX13_feed 69 = .ok (.iload 4, 2) := by decide +kernel
theorem dX13_feed_71 : decode cX13_feed 71 = .ok (.goto 5, 3) := by decide +kernel
theorem dX13_feed_74 : decode cX13_feed 74 = .ok (.iload 5, 2) := by decide +kernel
theorem dX13_feed_76 : decode cX13_feed 76 = .ok (.istore 7, 2) := by decide +kernel
theorem dX13_feed_78 : decode cX13_feed 78 = .ok (.aload_n 0, 1) := by decide +kernel
theorem dX13_feed_79 : decode cX13_feed 79 = .ok (.getfield 13, 3) := by decide +kernel
theorem dX13_feed_82 : decode cX13_feed 82 = .ok (.aload_n 0, 1) := by decide +kernel
theorem dX13_feed_83 : decode cX13_feed 83 = .ok (.getfield 314, 3) := by decide +kernel
theorem dX13_feed_86 : decode cX13_feed 86 = .ok (.iload 7, 2) := by decide +kernel
theorem dX13_feed_88 : decode cX13_feed 88 = .ok (.bipush 24, 2) := by decide +kernel
theorem dX13_feed_90 : decode cX13_feed 90 = .ok (.bipush 8, 2) := by decide +kernel
theorem dX13_feed_92 : decode cX13_feed 92 = .ok (.iload 6, 2) := by decide +kernel
theorem dX13_feed_94 : decode cX13_feed 94 = .ok (.iconst 4, 1) := by decide +kernel
theorem dX13_feed_95 : decode cX13_feed 95 = .ok (.irem, 1) := by decide +kernel
theorem dX13_feed_96 : decode cX13_feed 96 = .ok (.imul, 1) := by decide +kernel
theorem dX13_feed_97 : decode cX13_feed 97 = .ok (.isub, 1) := by decide +kernel
theorem dX13_feed_98 : decode cX13_feed 98 = .ok (.ishr, 1) := by decide +kernel
theorem dX13_feed_99 : decode cX13_feed 99 = .ok (.i2b, 1) := by decide +kernel
theorem dX13_feed_100 : decode cX13_feed 100 = .ok (.bastore, 1) := by decide +kernel
theorem dX13_feed_101 : decode cX13_feed 101 = .ok (.aload_n 0, 1) := by decide +kernel
theorem dX13_feed_102 : decode cX13_feed 102 = .ok (.dup, 1) := by decide +kernel
theorem dX13_feed_103 : decode cX13_feed 103 = .ok (.getfield 314, 3) := by decide +kernel
theorem dX13_feed_106 : decode cX13_feed 106 = .ok (.iconst 1, 1) := by decide +kernel
theorem dX13_feed_107 : decode cX13_feed 107 = .ok (.iadd, 1) := by decide +kernel
theorem dX13_feed_108 : decode cX13_feed 108 = .ok (.putfield 314, 3) := by decide +kernel
theorem dX13_feed_111 : decode cX13_feed 111 = .ok (.iinc 6 1, 3) := by decide +kernel
theorem dX13_feed_114 : decode cX13_feed 114 = .ok (.goto (-91), 3) := by decide +kernel
theorem dX13_feed_117 : decode cX13_feed 117 = .ok (.aload_n 0, 1) := by decide +kernel
theorem dX13_feed_118 : decode cX13_feed 118 = .ok (.getfield 314, 3) := by decide +kernel
theorem dX13_feed_121 : decode cX13_feed 121 = .ok (.ireturn, 1) := by decide +kernel
theorem dX13_land_0 : decode cX13_land 0 = .ok (.aload_n 0, 1) := by decide +kernel
theorem dX13_land_1 : decode cX13_land 1 = .ok (.iconst 0, 1) := by decide +kernel
theorem dX13_land_2 : decode cX13_land 2 = .ok (.putfield 42, 3) := by decide +kernel
theorem dX13_land_5 : decode cX13_land 5 = .ok (.iload_n 1, 1) := by decide +kernel
theorem dX13_land_6 : decode cX13_land 6 = .ok (.ifCond .lt 11, 3) := by decide +kernel
theorem dX13_land_9 : decode cX13_land 9 = .ok (.iload_n 1, 1) := by decide +kernel
theorem dX13_land_10 : decode cX13_land 10 = .ok (.aload_n 0, 1) := by decide +kernel
theorem dX13_land_11 : decode cX13_land 11 = .ok (.getfield 314, 3) := by decide +kernel
theorem dX13_land_14 : decode cX13_land 14 = .ok (.if_icmp .le 9, 3) := by decide +kernel
theorem dX13_land_17 : decode cX13_land 17 = .ok (.aload_n 0, 1) := by decide +kernel
theorem dX13_land_18 : decode cX13_land 18 = .ok (.iconst 2, 1) := by decide +kernel
theorem dX13_land_19 : decode cX13_land 19 = .ok (.invokevirtual 48, 3) := by decide +kernel
theorem dX13_land_22 : decode cX13_land 22 = .ok (.ireturn, 1) := by decide +kernel
theorem dX13_land_23 : decode cX13_land 23 = .ok (.aload_n 0, 1) := by decide +kernel
theorem dX13_land_24 : decode cX13_land 24 = .ok (.iload_n 1, 1) := by decide +kernel
theorem dX13_land_25 : decode cX13_land 25 = .ok (.putfield 59, 3) := by decide +kernel
theorem dX13_land_28 : decode cX13_land 28 = .ok (.aload_n 0, 1) := by decide +kernel
theorem dX13_land_29 : decode cX13_land 29 = .ok (.iconst 0, 1) := by decide +kernel
theorem dX13_land_30 : decode cX13_land 30 = .ok (.putfield 314, 3) := by decide +kernel
theorem dX13_land_33 : decode cX13_land 33 = .ok (.aload_n 0, 1) := by decide +kernel
theorem dX13_land_34 : decode cX13_land 34 = .ok (.iconst 0, 1) := by decide +kernel
theorem dX13_land_35 : decode cX13_land 35 = .ok (.putfield 77, 3) := by decide +kernel
theorem dX13_land_38 : decode cX13_land 38 = .ok (.aload_n 0, 1) := by decide +kernel
theorem dX13_land_39 : decode cX13_land 39 = .ok (.iconst 0, 1) := by decide +kernel
theorem dX13_land_40 : decode cX13_land 40 = .ok (.putfield 100, 3) := by decide +kernel
theorem dX13_land_43 : decode cX13_land 43 = .ok (.aload_n 0, 1) := by decide +kernel
theorem dX13_land_44 : decode cX13_land 44 = .ok (.new 156, 3) := by decide +kernel
theorem dX13_land_47 : decode cX13_land 47 = .ok (.dup, 1) := by decide +kernel
theorem dX13_land_48 : decode cX13_land 48 = .ok (.invokespecial 317, 3) := by decide +kernel
theorem dX13_land_51 : decode cX13_land 51 = .ok (.putfield 151, 3) := by decide +kernel
theorem dX13_land_54 : decode cX13_land 54 = .ok (.aload_n 0, 1) := by decide +kernel
theorem dX13_land_55 : decode cX13_land 55 = .ok (.iconst 0, 1) := by decide +kernel
theorem dX13_land_56 : decode cX13_land 56 = .ok (.putfield 74, 3) := by decide +kernel
theorem dX13_land_59 : decode cX13_land 59 = .ok (.aload_n 0, 1) := by decide +kernel
theorem dX13_land_60 : decode cX13_land 60 = .ok (.invokevirtual 110, 3) := by decide +kernel
theorem dX13_land_63 : decode cX13_land 63 = .ok (.aload_n 0, 1) := by decide +kernel
theorem dX13_land_64 : decode cX13_land 64 = .ok (.invokevirtual 318, 3) := by decide +kernel
theorem dX13_land_67 : decode cX13_land 67 = .ok (.aload_n 0, 1) := by decide +kernel
theorem dX13_land_68 : decode cX13_land 68 = .ok (.getfield 100, 3) := by decide +kernel
theorem dX13_land_71 : decode cX13_land 71 = .ok (.ifCond .le 18, 3) := by decide +kernel
theorem dX13_land_74 : decode cX13_land 74 = .ok (.aload_n 0, 1) := by decide +kernel
theorem dX13_land_75 : decode cX13_land 75 = .ok (.iconst 4, 1) := by decide +kernel
theorem dX13_land_76 : decode cX13_land 76 = .ok (.putfield 45, 3) := by decide +kernel
theorem dX13_land_79 : decode cX13_land 79 = .ok (.aload_n 0, 1) := by decide +kernel
theorem dX13_land_80 : decode cX13_land 80 = .ok (.aload_n 0, 1) := by decide +kernel
theorem dX13_land_81 : decode cX13_land 81 = .ok (.getfield 103, 3) := by decide +kernel
theorem dX13_land_84 : decode cX13_land 84 = .ok (.putfield 9, 3) := by decide +kernel
theorem dX13_land_87 : decode cX13_land 87 = .ok (.iconst (-1), 1) := by decide +kernel
theorem dX13_land_88 : decode cX13_land 88 = .ok (.ireturn, 1) := by decide +kernel
theorem dX13_land_89 : decode cX13_land 89 = .ok (.aload_n 0, 1) := by decide +kernel
theorem dX13_land_90 : decode cX13_land 90 = .ok (.aload_n 0, 1) := by decide +kernel
theorem dX13_land_91 : decode cX13_land 91 = .ok (.getfield 151, 3) := by decide +kernel
theorem dX13_land_94 : decode cX13_land 94 = .ok (.putfield 321, 3) := by decide +kernel
theorem dX13_land_97 : decode cX13_land 97 = .ok (.aload_n 0, 1) := by decide +kernel
theorem dX13_land_98 : decode cX13_land 98 = .ok (.invokevirtual 323, 3) := by decide +kernel
theorem dX13_land_101 : decode cX13_land 101 = .ok (.aload_n 0, 1) := by decide +kernel
theorem dX13_land_102 : decode cX13_land 102 = .ok (.getfield 17, 3) := by decide +kernel
theorem dX13_land_105 : decode cX13_land 105 = .ok (.bipush 6, 2) := by decide +kernel
theorem dX13_land_107 : decode cX13_land 107 = .ok (.aload_n 0, 1) := by decide +kernel
theorem dX13_land_108 : decode cX13_land 108 = .ok (.getfield 321, 3) := by decide +kernel
theorem dX13_land_111 : decode cX13_land 111 = .ok (.getfield 155, 3) := by decide +kernel
theorem dX13_land_114 : decode cX13_land 114 = .ok (.iastore, 1) := by decide +kernel
theorem dX13_land_115 : decode cX13_land 115 = .ok (.aload_n 0, 1) := by decide +kernel
theorem dX13_land_116 : decode cX13_land 116 = .ok (.getfield 17, 3) := by decide +kernel
theorem dX13_land_119 : decode cX13_land 119 = .ok (.bipush 7, 2) := by decide +kernel
theorem dX13_land_121 : decode cX13_land 121 = .ok (.iconst 0, 1) := by decide +kernel
theorem dX13_land_122 : decode cX13_land 122 = .ok (.iastore, 1) := by decide +kernel
theorem dX13_land_123 : decode cX13_land 123 = .ok (.aload_n 0, 1) := by decide +kernel
theorem dX13_land_124 : decode cX13_land 124 = .ok (.getfield 17, 3) := by decide +kernel
theorem dX13_land_127 : decode cX13_land 127 = .ok (.bipush 8, 2) := by decide +kernel
theorem dX13_land_129 : decode cX13_land 129 = .ok (.iconst 0, 1) := by decide +kernel
theorem dX13_land_130 : decode cX13_land 130 = .ok (.iastore, 1) := by decide +kernel
theorem dX13_land_131 : decode cX13_land 131 = .ok (.iconst 0, 1) := by decide +kernel
theorem dX13_land_132 : decode cX13_land 132 = .ok (.istore_n 2, 1) := by decide +kernel
theorem dX13_land_133 : decode cX13_land 133 = .ok (.iload_n 2, 1) := by decide +kernel
theorem dX13_land_134 : decode cX13_land 134 = .ok (.bipush 6, 2) := by decide +kernel
theorem dX13_land_136 : decode cX13_land 136 = .ok (.if_icmp .ge 21, 3) := by decide +kernel
theorem dX13_land_139 : decode cX13_land 139 = .ok (.aload_n 0, 1) := by decide +kernel
theorem dX13_land_140 : decode cX13_land 140 = .ok (.getfield 17, 3) := by decide +kernel
theorem dX13_land_143 : decode cX13_land 143 = .ok (.iload_n 2, 1) := by decide +kernel
theorem dX13_land_144 : decode cX13_land 144 = .ok (.aload_n 0, 1) := by decide +kernel
theorem dX13_land_145 : decode cX13_land 145 = .ok (.getfield 21, 3) := by decide +kernel
theorem dX13_land_148 : decode cX13_land 148 = .ok (.iload_n 2, 1) := by decide +kernel
theorem dX13_land_149 : decode cX13_land 149 = .ok (.iaload, 1) := by decide +kernel
theorem dX13_land_150 : decode cX13_land 150 = .ok (.iastore, 1) := by decide +kernel
theorem dX13_land_151 : decode cX13_land 151 = .ok (.iinc 2 1, 3) := by decide +kernel
theorem dX13_land_154 : decode cX13_land 154 = .ok (.goto (-21), 3) := by decide +kernel
theorem dX13_land_157 : decode cX13_land 157 = .ok (.aload_n 0, 1) := by decide +kernel
theorem dX13_land_158 : decode cX13_land 158 = .ok (.iconst 0, 1) := by decide +kernel
theorem dX13_land_159 : decode cX13_land 159 = .ok (.putfield 326, 3) := by decide +kernel
theorem dX13_land_162 : decode cX13_land 162 = .ok (.aload_n 0, 1) := by decide +kernel
theorem dX13_land_163 : decode cX13_land 163 = .ok (.iconst 0, 1) := by decide +kernel
theorem dX13_land_164 : decode cX13_land 164 = .ok (.putfield 329, 3) := by decide +kernel
theorem dX13_land_167 : decode cX13_land 167 = .ok (.aload_n 0, 1) := by decide +kernel
theorem dX13_land_168 : decode cX13_land 168 = .ok (.aload_n 0, 1) := by decide +kernel
theorem dX13_land_169 : decode cX13_land 169 = .ok (.getfield 321, 3) := by decide +kernel
theorem dX13_land_172 : decode cX13_land 172 = .ok (.getfield 191, 3) := by decide +kernel
theorem dX13_land_175 : decode cX13_land 175 = .ok (.invokevirtual 52, 3) := by decide +kernel
theorem dX13_land_178 : decode cX13_land 178 = .ok (.ireturn, 1) := by decide +kernel
theorem dX13_fault_0 : decode cX13_fault 0 = .ok (.aload_n 0, 1) := by decide +kernel
theorem dX13_fault_1 : decode cX13_fault 1 = .ok (.iconst 0, 1) := by decide +kernel
theorem dX13_fault_2 : decode cX13_fault 2 = .ok (.putfield 42, 3) := by decide +kernel
theorem dX13_fault_5 : decode cX13_fault 5 = .ok (.aload_n 0, 1) := by decide +kernel
theorem dX13_fault_6 : decode cX13_fault 6 = .ok (.getfield 100, 3) := by decide +kernel
theorem dX13_fault_9 : decode cX13_fault 9 = .ok (.ireturn, 1) := by decide +kernel
theorem dX13_where_0 : decode cX13_where 0 = .ok (.aload_n 0, 1) := by decide +kernel
theorem dX13_where_1 : decode cX13_where 1 = .ok (.iconst 0, 1) := by decide +kernel
theorem dX13_where_2 : decode cX13_where 2 = .ok (.putfield 42, 3) := by decide +kernel
theorem dX13_where_5 : decode cX13_where 5 = .ok (.aload_n 0, 1) := by decide +kernel
theorem dX13_where_6 : decode cX13_where 6 = .ok (.getfield 9, 3) := by decide +kernel
theorem dX13_where_9 : decode cX13_where 9 = .ok (.ireturn, 1) := by decide +kernel
theorem dX13_isGate_0 : decode cX13_isGate 0 = .ok (.aload_n 0, 1) := by decide +kernel
theorem dX13_isGate_1 : decode cX13_isGate 1 = .ok (.getfield 321, 3) := by decide +kernel
theorem dX13_isGate_4 : decode cX13_isGate 4 = .ok (.ifnull 22, 3) := by decide +kernel
theorem dX13_isGate_7 : decode cX13_isGate 7 = .ok (.iload_n 1, 1) := by decide +kernel
theorem dX13_isGate_8 : decode cX13_isGate 8 = .ok (.ifCond .lt 18, 3) := by decide +kernel
theorem dX13_isGate_11 : decode cX13_isGate 11 = .ok (.iload_n 1, 1) := by decide +kernel
theorem dX13_isGate_12 : decode cX13_isGate 12 = .ok (.aload_n 0, 1) := by decide +kernel
theorem dX13_isGate_13 : decode cX13_isGate 13 = .ok (.getfield 321, 3) := by decide +kernel
theorem dX13_isGate_16 : decode cX13_isGate 16 = .ok (.getfield 191, 3) := by decide +kernel
theorem dX13_isGate_19 : decode cX13_isGate 19 = .ok (.if_icmp .ge 7, 3) := by decide +kernel
theorem dX13_isGate_22 : decode cX13_isGate 22 = .ok (.iconst 1, 1) := by decide +kernel
theorem dX13_isGate_23 : decode cX13_isGate 23 = .ok (.goto 4, 3) := by decide +kernel
theorem dX13_isGate_26 : decode cX13_isGate 26 = .ok (.iconst 0, 1) := by decide +kernel
theorem dX13_isGate_27 : decode cX13_isGate 27 = .ok (.ireturn, 1) := by decide +kernel
theorem dX13_isPerson_0 : decode cX13_isPerson 0 = .ok (.aload_n 0, 1) := by decide +kernel
theorem dX13_isPerson_1 : decode cX13_isPerson 1 = .ok (.getfield 321, 3) := by decide +kernel
theorem dX13_isPerson_4 : decode cX13_isPerson 4 = .ok (.ifnull 22, 3) := by decide +kernel
theorem dX13_isPerson_7 : decode cX13_isPerson 7 = .ok (.iload_n 1, 1) := by decide +kernel
theorem dX13_isPerson_8 : decode cX13_isPerson 8 = .ok (.ifCond .lt 18, 3) := by decide +kernel
theorem dX13_isPerson_11 : decode cX13_isPerson 11 = .ok (.iload_n 1, 1) := by decide +kernel
theorem dX13_isPerson_12 : decode cX13_isPerson 12 = .ok (.aload_n 0, 1) := by decide +kernel
theorem dX13_isPerson_13 : decode cX13_isPerson 13 = .ok (.getfield 321, 3) := by decide +kernel
theorem dX13_isPerson_16 : decode cX13_isPerson 16 = .ok (.getfield 229, 3) := by decide +kernel
theorem dX13_isPerson_19 : decode cX13_isPerson 19 = .ok (.if_icmp .ge 7, 3) := by decide +kernel
theorem dX13_isPerson_22 : decode cX13_isPerson 22 = .ok (.iconst 1, 1) := by decide +kernel
theorem dX13_isPerson_23 : decode cX13_isPerson 23 = .ok (.goto 4, 3) := by decide +kernel
theorem dX13_isPerson_26 : decode cX13_isPerson 26 = .ok (.iconst 0, 1) := by decide +kernel
theorem dX13_isPerson_27 : decode cX13_isPerson 27 = .ok (.ireturn, 1) := by decide +kernel
theorem dX13_isFirm_0 : decode cX13_isFirm 0 = .ok (.aload_n 0, 1) := by decide +kernel
theorem dX13_isFirm_1 : decode cX13_isFirm 1 = .ok (.getfield 321, 3) := by decide +kernel
theorem dX13_isFirm_4 : decode cX13_isFirm 4 = .ok (.ifnull 22, 3) := by decide +kernel
theorem dX13_isFirm_7 : decode cX13_isFirm 7 = .ok (.iload_n 1, 1) := by decide +kernel
theorem dX13_isFirm_8 : decode cX13_isFirm 8 = .ok (.ifCond .lt 18, 3) := by decide +kernel
theorem dX13_isFirm_11 : decode cX13_isFirm 11 = .ok (.iload_n 1, 1) := by decide +kernel
theorem dX13_isFirm_12 : decode cX13_isFirm 12 = .ok (.aload_n 0, 1) := by decide +kernel
theorem dX13_isFirm_13 : decode cX13_isFirm 13 = .ok (.getfield 321, 3) := by decide +kernel
theorem dX13_isFirm_16 : decode cX13_isFirm 16 = .ok (.getfield 243, 3) := by decide +kernel
theorem dX13_isFirm_19 : decode cX13_isFirm 19 = .ok (.if_icmp .ge 7, 3) := by decide +kernel
theorem dX13_isFirm_22 : decode cX13_isFirm 22 = .ok (.iconst 1, 1) := by decide +kernel
theorem dX13_isFirm_23 : decode cX13_isFirm 23 = .ok (.goto 4, 3) := by decide +kernel
theorem dX13_isFirm_26 : decode cX13_isFirm 26 = .ok (.iconst 0, 1) := by decide +kernel
theorem dX13_isFirm_27 : decode cX13_isFirm 27 = .ok (.ireturn, 1) := by decide +kernel
theorem dX13_works_0 : decode cX13_works 0 = .ok (.iconst 0, 1) := by decide +kernel
theorem dX13_works_1 : decode cX13_works 1 = .ok (.istore_n 1, 1) := by decide +kernel
theorem dX13_works_2 : decode cX13_works 2 = .ok (.iload_n 1, 1) := by decide +kernel
theorem dX13_works_3 : decode cX13_works 3 = .ok (.bipush 6, 2) := by decide +kernel
theorem dX13_works_5 : decode cX13_works 5 = .ok (.if_icmp .ge 21, 3) := by decide +kernel
theorem dX13_works_8 : decode cX13_works 8 = .ok (.aload_n 0, 1) := by decide +kernel
theorem dX13_works_9 : decode cX13_works 9 = .ok (.getfield 21, 3) := by decide +kernel
theorem dX13_works_12 : decode cX13_works 12 = .ok (.iload_n 1, 1) := by decide +kernel
theorem dX13_works_13 : decode cX13_works 13 = .ok (.aload_n 0, 1) := by decide +kernel
theorem dX13_works_14 : decode cX13_works 14 = .ok (.getfield 17, 3) := by decide +kernel
theorem dX13_works_17 : decode cX13_works 17 = .ok (.iload_n 1, 1) := by decide +kernel
theorem dX13_works_18 : decode cX13_works 18 = .ok (.iaload, 1) := by decide +kernel
theorem dX13_works_19 : decode cX13_works 19 = .ok (.iastore, 1) := by decide +kernel
theorem dX13_works_20 : decode cX13_works 20 = .ok (.iinc 1 1, 3) := by decide +kernel
theorem dX13_works_23 : decode cX13_works 23 = .ok (.goto (-21), 3) := by decide +kernel
theorem dX13_works_26 : decode cX13_works 26 = .ok (.return_, 1) := by decide +kernel
theorem dX13_asTold_0 : decode cX13_asTold 0 = .ok (.iconst 0, 1) := by decide +kernel
theorem dX13_asTold_1 : decode cX13_asTold 1 = .ok (.istore_n 1, 1) := by decide +kernel
theorem dX13_asTold_2 : decode cX13_asTold 2 = .ok (.iload_n 1, 1) := by decide +kernel
theorem dX13_asTold_3 : decode cX13_asTold 3 = .ok (.bipush 6, 2) := by decide +kernel
theorem dX13_asTold_5 : decode cX13_asTold 5 = .ok (.if_icmp .ge 24, 3) := by decide +kernel
theorem dX13_asTold_8 : decode cX13_asTold 8 = .ok (.aload_n 0, 1) := by decide +kernel
theorem dX13_asTold_9 : decode cX13_asTold 9 = .ok (.getfield 21, 3) := by decide +kernel
theorem dX13_asTold_12 : decode cX13_asTold 12 = .ok (.iload_n 1, 1) := by decide +kernel
theorem dX13_asTold_13 : decode cX13_asTold 13 = .ok (.aload_n 0, 1) := by decide +kernel
theorem dX13_asTold_14 : decode cX13_asTold 14 = .ok (.getfield 321, 3) := by decide +kernel
theorem dX13_asTold_17 : decode cX13_asTold 17 = .ok (.getfield 282, 3) := by decide +kernel
theorem dX13_asTold_20 : decode cX13_asTold 20 = .ok (.iload_n 1, 1) := by decide +kernel
theorem dX13_asTold_21 : decode cX13_asTold 21 = .ok (.iaload, 1) := by decide +kernel
theorem dX13_asTold_22 : decode cX13_asTold 22 = .ok (.iastore, 1) := by decide +kernel
theorem dX13_asTold_23 : decode cX13_asTold 23 = .ok (.iinc 1 1, 3) := by decide +kernel
theorem dX13_asTold_26 : decode cX13_asTold 26 = .ok (.goto (-24), 3) := by decide +kernel
theorem dX13_asTold_29 : decode cX13_asTold 29 = .ok (.return_, 1) := by decide +kernel
theorem dX13_ownersIf_0 : decode cX13_ownersIf 0 = .ok (.aload_n 0, 1) := by decide +kernel
theorem dX13_ownersIf_1 : decode cX13_ownersIf 1 = .ok (.getfield 321, 3) := by decide +kernel
theorem dX13_ownersIf_4 : decode cX13_ownersIf 4 = .ok (.getfield 278, 3) := by decide +kernel
theorem dX13_ownersIf_7 : decode cX13_ownersIf 7 = .ok (.iload_n 1, 1) := by decide +kernel
theorem dX13_ownersIf_8 : decode cX13_ownersIf 8 = .ok (.iaload, 1) := by decide +kernel
theorem dX13_ownersIf_9 : decode cX13_ownersIf 9 = .ok (.istore_n 3, 1) := by decide +kernel
theorem dX13_ownersIf_10 : decode cX13_ownersIf 10 = .ok (.aload_n 0, 1) := by decide +kernel
theorem dX13_ownersIf_11 : decode cX13_ownersIf 11 = .ok (.getfield 321, 3) := by decide +kernel
theorem dX13_ownersIf_14 : decode cX13_ownersIf 14 = .ok (.getfield 275, 3) := by decide +kernel
theorem dX13_ownersIf_17 : decode cX13_ownersIf 17 = .ok (.iload_n 1, 1) := by decide +kernel
theorem dX13_ownersIf_18 : decode cX13_ownersIf 18 = .ok (.iaload, 1) := by decide +kernel
theorem dX13_ownersIf_19 : decode cX13_ownersIf 19 = .ok (.iconst 1, 1) := by decide +kernel
theorem dX13_ownersIf_20 : decode cX13_ownersIf 20 = .ok (.if_icmp .ne 41, 3) := by decide +kernel
theorem dX13_ownersIf_23 : decode cX13_ownersIf 23 = .ok (.iload_n 2, 1) := by decide +kernel
theorem dX13_ownersIf_24 : decode cX13_ownersIf 24 = .ok (.iconst 1, 1) := by decide +kernel
theorem dX13_ownersIf_25 : decode cX13_ownersIf 25 = .ok (.if_icmp .ne 15, 3) := by decide +kernel
theorem dX13_ownersIf_28 : decode cX13_ownersIf 28 = .ok (.aload_n 0, 1) := by decide +kernel
theorem dX13_ownersIf_29 : decode cX13_ownersIf 29 = .ok (.getfield 321, 3) := by decide +kernel
theorem dX13_ownersIf_32 : decode cX13_ownersIf 32 = .ok (.getfield 256, 3) := by decide +kernel
theorem dX13_ownersIf_35 : decode cX13_ownersIf 35 = .ok (.iload_n 3, 1) := by decide +kernel
theorem dX13_ownersIf_36 : decode cX13_ownersIf 36 = .ok (.iaload, 1) := by decide +kernel
theorem dX13_ownersIf_37 : decode cX13_ownersIf 37 = .ok (.goto 23, 3) := by decide +kernel
theorem dX13_ownersIf_40 : decode cX13_ownersIf 40 = .ok (.iload_n 2, 1) := by decide +kernel
theorem dX13_ownersIf_41 : decode cX13_ownersIf 41 = .ok (.iconst 2, 1) := by decide +kernel
theorem dX13_ownersIf_42 : decode cX13_ownersIf 42 = .ok (.if_icmp .ne 7, 3) := by decide +kernel
theorem dX13_ownersIf_45 : decode cX13_ownersIf 45 = .ok (.iconst 0, 1) := by decide +kernel
theorem dX13_ownersIf_46 : decode cX13_ownersIf 46 = .ok (.goto 14, 3) := by decide +kernel
theorem dX13_ownersIf_49 : decode cX13_ownersIf 49 = .ok (.iconst 1, 1) := by decide +kernel
theorem dX13_ownersIf_50 : decode cX13_ownersIf 50 = .ok (.aload_n 0, 1) := by decide +kernel
theorem dX13_ownersIf_51 : decode cX13_ownersIf 51 = .ok (.getfield 321, 3) := by decide +kernel
theorem dX13_ownersIf_54 : decode cX13_ownersIf 54 = .ok (.getfield 253, 3) := by decide +kernel
theorem dX13_ownersIf_57 : decode cX13_ownersIf 57 = .ok (.iload_n 3, 1) := by decide +kernel
theorem dX13_ownersIf_58 : decode cX13_ownersIf 58 = .ok (.iaload, 1) := by decide +kernel
theorem dX13_ownersIf_59 : decode cX13_ownersIf 59 = .ok (.ishl, 1) := by decide +kernel
theorem dX13_ownersIf_60 : decode cX13_ownersIf 60 = .ok (.ireturn, 1) := by decide +kernel
theorem dX13_ownersIf_61 : decode cX13_ownersIf 61 = .ok (.iload_n 2, 1) := by decide +kernel
theorem dX13_ownersIf_62 : decode cX13_ownersIf 62 = .ok (.iconst 1, 1) := by decide +kernel
theorem dX13_ownersIf_63 : decode cX13_ownersIf 63 = .ok (.if_icmp .ne 17, 3) := by decide +kernel
theorem dX13_ownersIf_66 : decode cX13_ownersIf 66 = .ok (.iconst 1, 1) := by decide +kernel
theorem dX13_ownersIf_67 : decode cX13_ownersIf 67 = .ok (.aload_n 0, 1) := by decide +kernel
theorem dX13_ownersIf_68 : decode cX13_ownersIf 68 = .ok (.getfield 321, 3) := by decide +kernel
theorem dX13_ownersIf_71 : decode cX13_ownersIf 71 = .ok (.getfield 253, 3) := by decide +kernel
theorem dX13_ownersIf_74 : decode cX13_ownersIf 74 = .ok (.iload_n 3, 1) := by decide +kernel
theorem dX13_ownersIf_75 : decode cX13_ownersIf 75 = .ok (.iaload, 1) := by decide +kernel
theorem dX13_ownersIf_76 : decode cX13_ownersIf 76 = .ok (.ishl, 1) := by decide +kernel
theorem dX13_ownersIf_77 : decode cX13_ownersIf 77 = .ok (.goto 21, 3) := by decide +kernel
theorem dX13_ownersIf_80 : decode cX13_ownersIf 80 = .ok (.iload_n 2, 1) := by decide +kernel
theorem dX13_ownersIf_81 : decode cX13_ownersIf 81 = .ok (.iconst 2, 1) := by decide +kernel
theorem dX13_ownersIf_82 : decode cX13_ownersIf 82 = .ok (.if_icmp .ne 15, 3) := by decide +kernel
theorem dX13_ownersIf_85 : decode cX13_ownersIf 85 = .ok (.aload_n 0, 1) := by decide +kernel
theorem dX13_ownersIf_86 : decode cX13_ownersIf 86 = .ok (.getfield 321, 3) := by decide +kernel
theorem dX13_ownersIf_89 : decode cX13_ownersIf 89 = .ok (.getfield 256, 3) := by decide +kernel
theorem dX13_ownersIf_92 : decode cX13_ownersIf 92 = .ok (.iload_n 3, 1) := by decide +kernel
theorem dX13_ownersIf_93 : decode cX13_ownersIf 93 = .ok (.iaload, 1) := by decide +kernel
theorem dX13_ownersIf_94 : decode cX13_ownersIf 94 = .ok (.goto 4, 3) := by decide +kernel
theorem dX13_ownersIf_97 : decode cX13_ownersIf 97 = .ok (.iconst 0, 1) := by decide +kernel
theorem dX13_ownersIf_98 : decode cX13_ownersIf 98 = .ok (.ireturn, 1) := by decide +kernel
theorem dX13_owners_0 : decode cX13_owners 0 = .ok (.aload_n 0, 1) := by decide +kernel
theorem dX13_owners_1 : decode cX13_owners 1 = .ok (.iload_n 1, 1) := by decide +kernel
theorem dX13_owners_2 : decode cX13_owners 2 = .ok (.aload_n 0, 1) := by decide +kernel
theorem dX13_owners_3 : decode cX13_owners 3 = .ok (.getfield 21, 3) := by decide +kernel
theorem dX13_owners_6 : decode cX13_owners 6 = .ok (.iload_n 1, 1) := by decide +kernel
theorem dX13_owners_7 : decode cX13_owners 7 = .ok (.iaload, 1) := by decide +kernel
theorem dX13_owners_8 : decode cX13_owners 8 = .ok (.invokevirtual 332, 3) := by decide +kernel
theorem dX13_owners_11 : decode cX13_owners 11 = .ok (.ireturn, 1) := by decide +kernel
theorem dX13_shareIf_0 : decode cX13_shareIf 0 = .ok (.aload_n 0, 1) := by decide +kernel
theorem dX13_shareIf_1 : decode cX13_shareIf 1 = .ok (.iload_n 2, 1) := by decide +kernel
theorem dX13_shareIf_2 : decode cX13_shareIf 2 = .ok (.iload_n 3, 1) := by decide +kernel
theorem dX13_shareIf_3 : decode cX13_shareIf 3 = .ok (.invokevirtual 332, 3) := by decide +kernel
theorem dX13_shareIf_6 : decode cX13_shareIf 6 = .ok (.istore 4, 2) := by decide +kernel
theorem dX13_shareIf_8 : decode cX13_shareIf 8 = .ok (.iload 4, 2) := by decide +kernel
theorem dX13_shareIf_10 : decode cX13_shareIf 10 = .ok (.iload_n 1, 1) := by decide +kernel
theorem dX13_shareIf_11 : decode cX13_shareIf 11 = .ok (.invokestatic 249, 3) := by decide +kernel
theorem dX13_shareIf_14 : decode cX13_shareIf 14 = .ok (.ifCond .eq 21, 3) := by decide +kernel
theorem dX13_shareIf_17 : decode cX13_shareIf 17 = .ok (.aload_n 0, 1) := by decide +kernel
theorem dX13_shareIf_18 : decode cX13_shareIf 18 = .ok (.getfield 321, 3) := by decide +kernel
theorem dX13_shareIf_21 : decode cX13_shareIf 21 = .ok (.getfield 280, 3) := by decide +kernel
theorem dX13_shareIf_24 : decode cX13_shareIf 24 = .ok (.iload_n 2, 1) := by decide +kernel
theorem dX13_shareIf_25 : decode cX13_shareIf 25 = .ok (.iaload, 1) := by decide +kernel
theorem dX13_shareIf_26 : decode cX13_shareIf 26 = .ok (.iload 4, 2) := by decide +kernel
theorem dX13_shareIf_28 : decode cX13_shareIf 28 = .ok (.invokestatic 335, 3) := by decide +kernel
theorem dX13_shareIf_31 : decode cX13_shareIf 31 = .ok (.idiv, 1) := by decide +kernel
theorem dX13_shareIf_32 : decode cX13_shareIf 32 = .ok (.goto 4, 3) := by decide +kernel
theorem dX13_shareIf_35 : decode cX13_shareIf 35 = .ok (.iconst 0, 1) := by decide +kernel
theorem dX13_shareIf_36 : decode cX13_shareIf 36 = .ok (.ireturn, 1) := by decide +kernel
theorem dX13_has_0 : decode cX13_has 0 = .ok (.iconst 0, 1) := by decide +kernel
theorem dX13_has_1 : decode cX13_has 1 = .ok (.istore_n 2, 1) := by decide +kernel
theorem dX13_has_2 : decode cX13_has 2 = .ok (.iconst 0, 1) := by decide +kernel
theorem dX13_has_3 : decode cX13_has 3 = .ok (.istore_n 3, 1) := by decide +kernel
theorem dX13_has_4 : decode cX13_has 4 = .ok (.iload_n 3, 1) := by decide +kernel
theorem dX13_has_5 : decode cX13_has 5 = .ok (.aload_n 0, 1) := by decide +kernel
theorem dX13_has_6 : decode cX13_has 6 = .ok (.getfield 321, 3) := by decide +kernel
theorem dX13_has_9 : decode cX13_has 9 = .ok (.getfield 191, 3) := by decide +kernel
theorem dX13_has_12 : decode cX13_has 12 = .ok (.if_icmp .ge 24, 3) := by decide +kernel
theorem dX13_has_15 : decode cX13_has 15 = .ok (.iload_n 2, 1) := by decide +kernel
theorem dX13_has_16 : decode cX13_has 16 = .ok (.aload_n 0, 1) := by decide +kernel
theorem dX13_has_17 : decode cX13_has 17 = .ok (.iload_n 1, 1) := by decide +kernel
theorem dX13_has_18 : decode cX13_has 18 = .ok (.iload_n 3, 1) := by decide +kernel
theorem dX13_has_19 : decode cX13_has 19 = .ok (.aload_n 0, 1) := by decide +kernel
theorem dX13_has_20 : decode cX13_has 20 = .ok (.getfield 21, 3) := by decide +kernel
theorem dX13_has_23 : decode cX13_has 23 = .ok (.iload_n 3, 1) := by decide +kernel
theorem dX13_has_24 : decode cX13_has 24 = .ok (.iaload, 1) := by decide +kernel
theorem dX13_has_25 : decode cX13_has 25 = .ok (.invokevirtual 338, 3) := by decide +kernel
theorem dX13_has_28 : decode cX13_has 28 = .ok (.iadd, 1) := by decide +kernel
theorem dX13_has_29 : decode cX13_has 29 = .ok (.istore_n 2, 1) := by decide +kernel
theorem dX13_has_30 : decode cX13_has 30 = .ok (.iinc 3 1, 3) := by decide +kernel
theorem dX13_has_33 : decode cX13_has 33 = .ok (.goto (-29), 3) := by decide +kernel
theorem dX13_has_36 : decode cX13_has 36 = .ok (.iload_n 2, 1) := by decide +kernel
theorem dX13_has_37 : decode cX13_has 37 = .ok (.ireturn, 1) := by decide +kernel
theorem dX13_owned_0 : decode cX13_owned 0 = .ok (.iconst 0, 1) := by decide +kernel
theorem dX13_owned_1 : decode cX13_owned 1 = .ok (.istore_n 2, 1) := by decide +kernel
theorem dX13_owned_2 : decode cX13_owned 2 = .ok (.iconst 0, 1) := by decide +kernel
theorem dX13_owned_3 : decode cX13_owned 3 = .ok (.istore_n 3, 1) := by decide +kernel
theorem dX13_owned_4 : decode cX13_owned 4 = .ok (.iload_n 3, 1) := by decide +kernel
theorem dX13_owned_5 : decode cX13_owned 5 = .ok (.aload_n 0, 1) := by decide +kernel
theorem dX13_owned_6 : decode cX13_owned 6 = .ok (.getfield 321, 3) := by decide +kernel
theorem dX13_owned_9 : decode cX13_owned 9 = .ok (.getfield 191, 3) := by decide +kernel
theorem dX13_owned_12 : decode cX13_owned 12 = .ok (.if_icmp .ge 31, 3) := by decide +kernel
theorem dX13_owned_15 : decode cX13_owned 15 = .ok (.iload_n 2, 1) := by decide +kernel
theorem dX13_owned_16 : decode cX13_owned 16 = .ok (.aload_n 0, 1) := by decide +kernel
theorem dX13_owned_17 : decode cX13_owned 17 = .ok (.iload_n 3, 1) := by decide +kernel
theorem dX13_owned_18 : decode cX13_owned 18 = .ok (.invokevirtual 342, 3) := by decide +kernel
theorem dX13_owned_21 : decode cX13_owned 21 = .ok (.iload_n 1, 1) := by decide +kernel
theorem dX13_owned_22 : decode cX13_owned 22 = .ok (.invokestatic 249, 3) := by decide +kernel
theorem dX13_owned_25 : decode cX13_owned 25 = .ok (.ifCond .eq 9, 3) := by decide +kernel
theorem dX13_owned_28 : decode cX13_owned 28 = .ok (.iconst 1, 1) := by decide +kernel
theorem dX13_owned_29 : decode cX13_owned 29 = .ok (.iload_n 3, 1) := by decide +kernel
theorem dX13_owned_30 : decode cX13_owned 30 = .ok (.ishl, 1) := by decide +kernel
theorem dX13_owned_31 : decode cX13_owned 31 = .ok (.goto 4, 3) := by decide +kernel
theorem dX13_owned_34 : decode cX13_owned 34 = .ok (.iconst 0, 1) := by decide +kernel
theorem dX13_owned_35 : decode cX13_owned 35 = .ok (.ior, 1) := by decide +kernel
theorem dX13_owned_36 : decode cX13_owned 36 = .ok (.istore_n 2, 1) := by decide +kernel
theorem dX13_owned_37 : decode cX13_owned 37 = .ok (.iinc 3 1, 3) := by decide +kernel
theorem dX13_owned_40 : decode cX13_owned 40 = .ok (.goto (-36), 3) := by decide +kernel
theorem dX13_owned_43 : decode cX13_owned 43 = .ok (.iload_n 2, 1) := by decide +kernel
theorem dX13_owned_44 : decode cX13_owned 44 = .ok (.ireturn, 1) := by decide +kernel
theorem dX13_hung_0 : decode cX13_hung 0 = .ok (.iconst 0, 1) := by decide +kernel
theorem dX13_hung_1 : decode cX13_hung 1 = .ok (.istore_n 1, 1) := by decide +kernel
theorem dX13_hung_2 : decode cX13_hung 2 = .ok (.iconst 0, 1) := by decide +kernel
theorem dX13_hung_3 : decode cX13_hung 3 = .ok (.istore_n 2, 1) := by decide +kernel
theorem dX13_hung_4 : decode cX13_hung 4 = .ok (.iload_n 2, 1) := by decide +kernel
theorem dX13_hung_5 : decode cX13_hung 5 = .ok (.aload_n 0, 1) := by decide +kernel
theorem dX13_hung_6 : decode cX13_hung 6 = .ok (.getfield 321, 3) := by decide +kernel
theorem dX13_hung_9 : decode cX13_hung 9 = .ok (.getfield 191, 3) := by decide +kernel
theorem dX13_hung_12 : decode cX13_hung 12 = .ok (.if_icmp .ge 26, 3) := by decide +kernel
theorem dX13_hung_15 : decode cX13_hung 15 = .ok (.iload_n 1, 1) := by decide +kernel
theorem dX13_hung_16 : decode cX13_hung 16 = .ok (.aload_n 0, 1) := by decide +kernel
theorem dX13_hung_17 : decode cX13_hung 17 = .ok (.getfield 21, 3) := by decide +kernel
theorem dX13_hung_20 : decode cX13_hung 20 = .ok (.iload_n 2, 1) := by decide +kernel
theorem dX13_hung_21 : decode cX13_hung 21 = .ok (.iaload, 1) := by decide +kernel
theorem dX13_hung_22 : decode cX13_hung 22 = .ok (.ifCond .le 7, 3) := by decide +kernel
theorem dX13_hung_25 : decode cX13_hung 25 = .ok (.iconst 1, 1) := by decide +kernel
theorem dX13_hung_26 : decode cX13_hung 26 = .ok (.goto 4, 3) := by decide +kernel
theorem dX13_hung_29 : decode cX13_hung 29 = .ok (.iconst 0, 1) := by decide +kernel
theorem dX13_hung_30 : decode cX13_hung 30 = .ok (.iadd, 1) := by decide +kernel
theorem dX13_hung_31 : decode cX13_hung 31 = .ok (.istore_n 1, 1) := by decide +kernel
theorem dX13_hung_32 : decode cX13_hung 32 = .ok (.iinc 2 1, 3) := by decide +kernel
theorem dX13_hung_35 : decode cX13_hung 35 = .ok (.goto (-31), 3) := by decide +kernel
theorem dX13_hung_38 : decode cX13_hung 38 = .ok (.iload_n 1, 1) := by decide +kernel
theorem dX13_hung_39 : decode cX13_hung 39 = .ok (.ireturn, 1) := by decide +kernel
theorem dX13_hooks_0 : decode cX13_hooks 0 = .ok (.aload_n 0, 1) := by decide +kernel
theorem dX13_hooks_1 : decode cX13_hooks 1 = .ok (.getfield 17, 3) := by decide +kernel
theorem dX13_hooks_4 : decode cX13_hooks 4 = .ok (.bipush 6, 2) := by decide +kernel
theorem dX13_hooks_6 : decode cX13_hooks 6 = .ok (.iaload, 1) := by decide +kernel
theorem dX13_hooks_7 : decode cX13_hooks 7 = .ok (.istore_n 1, 1) := by decide +kernel
theorem dX13_hooks_8 : decode cX13_hooks 8 = .ok (.iconst 0, 1) := by decide +kernel
theorem dX13_hooks_9 : decode cX13_hooks 9 = .ok (.istore_n 2, 1) := by decide +kernel
theorem dX13_hooks_10 : decode cX13_hooks 10 = .ok (.iload_n 2, 1) := by decide +kernel
theorem dX13_hooks_11 : decode cX13_hooks 11 = .ok (.aload_n 0, 1) := by decide +kernel
theorem dX13_hooks_12 : decode cX13_hooks 12 = .ok (.getfield 321, 3) := by decide +kernel
theorem dX13_hooks_15 : decode cX13_hooks 15 = .ok (.getfield 191, 3) := by decide +kernel
theorem dX13_hooks_18 : decode cX13_hooks 18 = .ok (.if_icmp .ge 26, 3) := by decide +kernel
theorem dX13_hooks_21 : decode cX13_hooks 21 = .ok (.iload_n 1, 1) := by decide +kernel
theorem dX13_hooks_22 : decode cX13_hooks 22 = .ok (.aload_n 0, 1) := by decide +kernel
theorem dX13_hooks_23 : decode cX13_hooks 23 = .ok (.getfield 17, 3) := by decide +kernel
theorem dX13_hooks_26 : decode cX13_hooks 26 = .ok (.iload_n 2, 1) := by decide +kernel
theorem dX13_hooks_27 : decode cX13_hooks 27 = .ok (.iaload, 1) := by decide +kernel
theorem dX13_hooks_28 : decode cX13_hooks 28 = .ok (.ifCond .le 7, 3) := by decide +kernel
theorem dX13_hooks_31 : decode cX13_hooks 31 = .ok (.iconst 1, 1) := by decide +kernel
theorem dX13_hooks_32 : decode cX13_hooks 32 = .ok (.goto 4, 3) := by decide +kernel
theorem dX13_hooks_35 : decode cX13_hooks 35 = .ok (.iconst 0, 1) := by decide +kernel
theorem dX13_hooks_36 : decode cX13_hooks 36 = .ok (.iadd, 1) := by decide +kernel
theorem dX13_hooks_37 : decode cX13_hooks 37 = .ok (.istore_n 1, 1) := by decide +kernel
theorem dX13_hooks_38 : decode cX13_hooks 38 = .ok (.iinc 2 1, 3) := by decide +kernel
theorem dX13_hooks_41 : decode cX13_hooks 41 = .ok (.goto (-31), 3) := by decide +kernel
theorem dX13_hooks_44 : decode cX13_hooks 44 = .ok (.iload_n 1, 1) := by decide +kernel
theorem dX13_hooks_45 : decode cX13_hooks 45 = .ok (.ireturn, 1) := by decide +kernel
theorem dX13_gate_0 : decode cX13_gate 0 = .ok (.aload_n 0, 1) := by decide +kernel
theorem dX13_gate_1 : decode cX13_gate 1 = .ok (.iconst 0, 1) := by decide +kernel
theorem dX13_gate_2 : decode cX13_gate 2 = .ok (.putfield 42, 3) := by decide +kernel
theorem dX13_gate_5 : decode cX13_gate 5 = .ok (.aload_n 0, 1) := by decide +kernel
theorem dX13_gate_6 : decode cX13_gate 6 = .ok (.iload_n 1, 1) := by decide +kernel
theorem dX13_gate_7 : decode cX13_gate 7 = .ok (.invokevirtual 345, 3) := by decide +kernel
theorem dX13_gate_10 : decode cX13_gate 10 = .ok (.ifCond .eq 12, 3) := by decide +kernel
theorem dX13_gate_13 : decode cX13_gate 13 = .ok (.iload_n 2, 1) := by decide +kernel
theorem dX13_gate_14 : decode cX13_gate 14 = .ok (.iconst 0, 1) := by decide +kernel
theorem dX13_gate_15 : decode cX13_gate 15 = .ok (.iconst 5, 1) := by decide +kernel
theorem dX13_gate_16 : decode cX13_gate 16 = .ok (.invokestatic 121, 3) := by decide +kernel
theorem dX13_gate_19 : decode cX13_gate 19 = .ok (.ifCond .ne 9, 3) := by decide +kernel
theorem dX13_gate_22 : decode cX13_gate 22 = .ok (.aload_n 0, 1) := by decide +kernel
theorem dX13_gate_23 : decode cX13_gate 23 = .ok (.iconst 1, 1) := by decide +kernel
theorem dX13_gate_24 : decode cX13_gate 24 = .ok (.invokevirtual 48, 3) := by decide +kernel
theorem dX13_gate_27 : decode cX13_gate 27 = .ok (.ireturn, 1) := by decide +kernel
theorem dX13_gate_28 : decode cX13_gate 28 = .ok (.aload_n 0, 1) := by decide +kernel
theorem dX13_gate_29 : decode cX13_gate 29 = .ok (.invokevirtual 348, 3) := by decide +kernel
theorem dX13_gate_32 : decode cX13_gate 32 = .ok (.iload_n 2, 1) := by decide +kernel
theorem dX13_gate_33 : decode cX13_gate 33 = .ok (.tableswitch 98 0 4 #[35, 49, 63, 77, 88], 35) := by decide +kernel
theorem dX13_gate_68 : decode cX13_gate 68 = .ok (.aload_n 0, 1) := by decide +kernel
theorem dX13_gate_69 : decode cX13_gate 69 = .ok (.aload_n 0, 1) := by decide +kernel
theorem dX13_gate_70 : decode cX13_gate 70 = .ok (.getfield 321, 3) := by decide +kernel
theorem dX13_gate_73 : decode cX13_gate 73 = .ok (.getfield 275, 3) := by decide +kernel
theorem dX13_gate_76 : decode cX13_gate 76 = .ok (.iload_n 1, 1) := by decide +kernel
theorem dX13_gate_77 : decode cX13_gate 77 = .ok (.iaload, 1) := by decide +kernel
theorem dX13_gate_78 : decode cX13_gate 78 = .ok (.invokevirtual 52, 3) := by decide +kernel
theorem dX13_gate_81 : decode cX13_gate 81 = .ok (.ireturn, 1) := by decide +kernel
theorem dX13_gate_82 : decode cX13_gate 82 = .ok (.aload_n 0, 1) := by decide +kernel
theorem dX13_gate_83 : decode cX13_gate 83 = .ok (.aload_n 0, 1) := by decide +kernel
theorem dX13_gate_84 : decode cX13_gate 84 = .ok (.getfield 321, 3) := by decide +kernel
theorem dX13_gate_87 : decode cX13_gate 87 = .ok (.getfield 278, 3) := by decide +kernel
theorem dX13_gate_90 : decode cX13_gate 90 = .ok (.iload_n 1, 1) := by decide +kernel
theorem dX13_gate_91 : decode cX13_gate 91 = .ok (.iaload, 1) := by decide +kernel
theorem dX13_gate_92 : decode cX13_gate 92 = .ok (.invokevirtual 52, 3) := by decide +kernel
theorem dX13_gate_95 : decode cX13_gate 95 = .ok (.ireturn, 1) := by decide +kernel
theorem dX13_gate_96 : decode cX13_gate 96 = .ok (.aload_n 0, 1) := by decide +kernel
theorem dX13_gate_97 : decode cX13_gate 97 = .ok (.aload_n 0, 1) := by decide +kernel
theorem dX13_gate_98 : decode cX13_gate 98 = .ok (.getfield 321, 3) := by decide +kernel
theorem dX13_gate_101 : decode cX13_gate 101 = .ok (.getfield 280, 3) := by decide +kernel
theorem dX13_gate_104 : decode cX13_gate 104 = .ok (.iload_n 1, 1) := by decide +kernel
theorem dX13_gate_105 : decode cX13_gate 105 = .ok (.iaload, 1) := by decide +kernel
theorem dX13_gate_106 : decode cX13_gate 106 = .ok (.invokevirtual 52, 3) := by decide +kernel
theorem dX13_gate_109 : decode cX13_gate 109 = .ok (.ireturn, 1) := by decide +kernel
theorem dX13_gate_110 : decode cX13_gate 110 = .ok (.aload_n 0, 1) := by decide +kernel
theorem dX13_gate_111 : decode cX13_gate 111 = .ok (.aload_n 0, 1) := by decide +kernel
theorem dX13_gate_112 : decode cX13_gate 112 = .ok (.getfield 17, 3) := by decide +kernel
theorem dX13_gate_115 : decode cX13_gate 115 = .ok (.iload_n 1, 1) := by decide +kernel
theorem dX13_gate_116 : decode cX13_gate 116 = .ok (.iaload, 1) := by decide +kernel
theorem dX13_gate_117 : decode cX13_gate 117 = .ok (.invokevirtual 52, 3) := by decide +kernel
theorem dX13_gate_120 : decode cX13_gate 120 = .ok (.ireturn, 1) := by decide +kernel
theorem dX13_gate_121 : decode cX13_gate 121 = .ok (.aload_n 0, 1) := by decide +kernel
theorem dX13_gate_122 : decode cX13_gate 122 = .ok (.aload_n 0, 1) := by decide +kernel
theorem dX13_gate_123 : decode cX13_gate 123 = .ok (.iload_n 1, 1) := by decide +kernel
theorem dX13_gate_124 : decode cX13_gate 124 = .ok (.invokevirtual 342, 3) := by decide +kernel
theorem dX13_gate_127 : decode cX13_gate 127 = .ok (.invokevirtual 52, 3) := by decide +kernel
theorem dX13_gate_130 : decode cX13_gate 130 = .ok (.ireturn, 1) := by decide +kernel
theorem dX13_gate_131 : decode cX13_gate 131 = .ok (.aload_n 0, 1) := by decide +kernel
theorem dX13_gate_132 : decode cX13_gate 132 = .ok (.aload_n 0, 1) := by decide +kernel
theorem dX13_gate_133 : decode cX13_gate 133 = .ok (.getfield 321, 3) := by decide +kernel
theorem dX13_gate_136 : decode cX13_gate 136 = .ok (.getfield 288, 3) := by decide +kernel
theorem dX13_gate_139 : decode cX13_gate 139 = .ok (.iload_n 1, 1) := by decide +kernel
theorem dX13_gate_140 : decode cX13_gate 140 = .ok (.iaload, 1) := by decide +kernel
theorem dX13_gate_141 : decode cX13_gate 141 = .ok (.invokevirtual 52, 3) := by decide +kernel
theorem dX13_gate_144 : decode cX13_gate 144 = .ok (.ireturn, 1) := by decide +kernel
theorem dX13_ownedAlone_0 : decode cX13_ownedAlone 0 = .ok (.iconst 0, 1) := by decide +kernel
theorem dX13_ownedAlone_1 : decode cX13_ownedAlone 1 = .ok (.istore_n 2, 1) := by decide +kernel
theorem dX13_ownedAlone_2 : decode cX13_ownedAlone 2 = .ok (.iconst 0, 1) := by decide +kernel
theorem dX13_ownedAlone_3 : decode cX13_ownedAlone 3 = .ok (.istore_n 3, 1) := by decide +kernel
theorem dX13_ownedAlone_4 : decode cX13_ownedAlone 4 = .ok (.iload_n 3, 1) := by decide +kernel
theorem dX13_ownedAlone_5 : decode cX13_ownedAlone 5 = .ok (.aload_n 0, 1) := by decide +kernel
theorem dX13_ownedAlone_6 : decode cX13_ownedAlone 6 = .ok (.getfield 321, 3) := by decide +kernel
theorem dX13_ownedAlone_9 : decode cX13_ownedAlone 9 = .ok (.getfield 191, 3) := by decide +kernel
theorem dX13_ownedAlone_12 : decode cX13_ownedAlone 12 = .ok (.if_icmp .ge 30, 3) := by decide +kernel
theorem dX13_ownedAlone_15 : decode cX13_ownedAlone 15 = .ok (.iload_n 2, 1) := by decide +kernel
theorem dX13_ownedAlone_16 : decode cX13_ownedAlone 16 = .ok (.aload_n 0, 1) := by decide +kernel
theorem dX13_ownedAlone_17 : decode cX13_ownedAlone 17 = .ok (.iload_n 3, 1) := by decide +kernel
theorem dX13_ownedAlone_18 : decode cX13_ownedAlone 18 = .ok (.invokevirtual 342, 3) := by decide +kernel
theorem dX13_ownedAlone_21 : decode cX13_ownedAlone 21 = .ok (.iconst 1, 1) := by decide +kernel
theorem dX13_ownedAlone_22 : decode cX13_ownedAlone 22 = .ok (.iload_n 1, 1) := by decide +kernel
theorem dX13_ownedAlone_23 : decode cX13_ownedAlone 23 = .ok (.ishl, 1) := by decide +kernel
theorem dX13_ownedAlone_24 : decode cX13_ownedAlone 24 = .ok (.if_icmp .ne 9, 3) := by decide +kernel
theorem dX13_ownedAlone_27 : decode cX13_ownedAlone 27 = .ok (.iconst 1, 1) := by decide +kernel
theorem dX13_ownedAlone_28 : decode cX13_ownedAlone 28 = .ok (.iload_n 3, 1) := by decide +kernel
theorem dX13_ownedAlone_29 : decode cX13_ownedAlone 29 = .ok (.ishl, 1) := by decide +kernel
theorem dX13_ownedAlone_30 : decode cX13_ownedAlone 30 = .ok (.goto 4, 3) := by decide +kernel
theorem dX13_ownedAlone_33 : decode cX13_ownedAlone 33 = .ok (.iconst 0, 1) := by decide +kernel
theorem dX13_ownedAlone_34 : decode cX13_ownedAlone 34 = .ok (.ior, 1) := by decide +kernel
theorem dX13_ownedAlone_35 : decode cX13_ownedAlone 35 = .ok (.istore_n 2, 1) := by decide +kernel
theorem dX13_ownedAlone_36 : decode cX13_ownedAlone 36 = .ok (.iinc 3 1, 3) := by decide +kernel
theorem dX13_ownedAlone_39 : decode cX13_ownedAlone 39 = .ok (.goto (-35), 3) := by decide +kernel
theorem dX13_ownedAlone_42 : decode cX13_ownedAlone 42 = .ok (.iload_n 2, 1) := by decide +kernel
theorem dX13_ownedAlone_43 : decode cX13_ownedAlone 43 = .ok (.ireturn, 1) := by decide +kernel
theorem dX13_firmsOf_0 : decode cX13_firmsOf 0 = .ok (.iconst 0, 1) := by decide +kernel
theorem dX13_firmsOf_1 : decode cX13_firmsOf 1 = .ok (.istore_n 2, 1) := by decide +kernel
theorem dX13_firmsOf_2 : decode cX13_firmsOf 2 = .ok (.iconst 0, 1) := by decide +kernel
theorem dX13_firmsOf_3 : decode cX13_firmsOf 3 = .ok (.istore_n 3, 1) := by decide +kernel
theorem dX13_firmsOf_4 : decode cX13_firmsOf 4 = .ok (.iload_n 3, 1) := by decide +kernel
theorem dX13_firmsOf_5 : decode cX13_firmsOf 5 = .ok (.aload_n 0, 1) := by decide +kernel
theorem dX13_firmsOf_6 : decode cX13_firmsOf 6 = .ok (.getfield 321, 3) := by decide +kernel
theorem dX13_firmsOf_9 : decode cX13_firmsOf 9 = .ok (.getfield 243, 3) := by decide +kernel
theorem dX13_firmsOf_12 : decode cX13_firmsOf 12 = .ok (.if_icmp .ge 35, 3) := by decide +kernel
theorem dX13_firmsOf_15 : decode cX13_firmsOf 15 = .ok (.iload_n 2, 1) := by decide +kernel
theorem dX13_firmsOf_16 : decode cX13_firmsOf 16 = .ok (.aload_n 0, 1) := by decide +kernel
theorem dX13_firmsOf_17 : decode cX13_firmsOf 17 = .ok (.getfield 321, 3) := by decide +kernel
theorem dX13_firmsOf_20 : decode cX13_firmsOf 20 = .ok (.getfield 256, 3) := by decide +kernel
theorem dX13_firmsOf_23 : decode cX13_firmsOf 23 = .ok (.iload_n 3, 1) := by decide +kernel
theorem dX13_firmsOf_24 : decode cX13_firmsOf 24 = .ok (.iaload, 1) := by decide +kernel
theorem dX13_firmsOf_25 : decode cX13_firmsOf 25 = .ok (.iload_n 1, 1) := by decide +kernel
theorem dX13_firmsOf_26 : decode cX13_firmsOf 26 = .ok (.invokestatic 249, 3) := by decide +kernel
theorem dX13_firmsOf_29 : decode cX13_firmsOf 29 = .ok (.ifCond .eq 9, 3) := by decide +kernel
theorem dX13_firmsOf_32 : decode cX13_firmsOf 32 = .ok (.iconst 1, 1) := by decide +kernel
theorem dX13_firmsOf_33 : decode cX13_firmsOf 33 = .ok (.iload_n 3, 1) := by decide +kernel
theorem dX13_firmsOf_34 : decode cX13_firmsOf 34 = .ok (.ishl, 1) := by decide +kernel
theorem dX13_firmsOf_35 : decode cX13_firmsOf 35 = .ok (.goto 4, 3) := by decide +kernel
theorem dX13_firmsOf_38 : decode cX13_firmsOf 38 = .ok (.iconst 0, 1) := by decide +kernel
theorem dX13_firmsOf_39 : decode cX13_firmsOf 39 = .ok (.ior, 1) := by decide +kernel
theorem dX13_firmsOf_40 : decode cX13_firmsOf 40 = .ok (.istore_n 2, 1) := by decide +kernel
theorem dX13_firmsOf_41 : decode cX13_firmsOf 41 = .ok (.iinc 3 1, 3) := by decide +kernel
theorem dX13_firmsOf_44 : decode cX13_firmsOf 44 = .ok (.goto (-40), 3) := by decide +kernel
theorem dX13_firmsOf_47 : decode cX13_firmsOf 47 = .ok (.iload_n 2, 1) := by decide +kernel
theorem dX13_firmsOf_48 : decode cX13_firmsOf 48 = .ok (.ireturn, 1) := by decide +kernel
theorem dX13_person_0 : decode cX13_person 0 = .ok (.aload_n 0, 1) := by decide +kernel
theorem dX13_person_1 : decode cX13_person 1 = .ok (.iconst 0, 1) := by decide +kernel
theorem dX13_person_2 : decode cX13_person 2 = .ok (.putfield 42, 3) := by decide +kernel
theorem dX13_person_5 : decode cX13_person 5 = .ok (.aload_n 0, 1) := by decide +kernel
theorem dX13_person_6 : decode cX13_person 6 = .ok (.iload_n 1, 1) := by decide +kernel
theorem dX13_person_7 : decode cX13_person 7 = .ok (.invokevirtual 351, 3) := by decide +kernel
theorem dX13_person_10 : decode cX13_person 10 = .ok (.ifCond .eq 12, 3) := by decide +kernel
theorem dX13_person_13 : decode cX13_person 13 = .ok (.iload_n 2, 1) := by decide +kernel
theorem dX13_person_14 : decode cX13_person 14 = .ok (.iconst 0, 1) := by decide +kernel
theorem dX13_person_15 : decode cX13_person 15 = .ok (.iconst 3, 1) := by decide +kernel
theorem dX13_person_16 : decode cX13_person 16 = .ok (.invokestatic 121, 3) := by decide +kernel
theorem dX13_person_19 : decode cX13_person 19 = .ok (.ifCond .ne 9, 3) := by decide +kernel
theorem dX13_person_22 : decode cX13_person 22 = .ok (.aload_n 0, 1) := by decide +kernel
theorem dX13_person_23 : decode cX13_person 23 = .ok (.iconst 1, 1) := by decide +kernel
theorem dX13_person_24 : decode cX13_person 24 = .ok (.invokevirtual 48, 3) := by decide +kernel
theorem dX13_person_27 : decode cX13_person 27 = .ok (.ireturn, 1) := by decide +kernel
theorem dX13_person_28 : decode cX13_person 28 = .ok (.aload_n 0, 1) := by decide +kernel
theorem dX13_person_29 : decode cX13_person 29 = .ok (.invokevirtual 348, 3) := by decide +kernel
theorem dX13_person_32 : decode cX13_person 32 = .ok (.aload_n 0, 1) := by decide +kernel
theorem dX13_person_33 : decode cX13_person 33 = .ok (.iload_n 2, 1) := by decide +kernel
theorem dX13_person_34 : decode cX13_person 34 = .ok (.ifCond .ne 11, 3) := by decide +kernel
theorem dX13_person_37 : decode cX13_person 37 = .ok (.aload_n 0, 1) := by decide +kernel
theorem dX13_person_38 : decode cX13_person 38 = .ok (.iload_n 1, 1) := by decide +kernel
theorem dX13_person_39 : decode cX13_person 39 = .ok (.invokevirtual 354, 3) := by decide +kernel
theorem dX13_person_42 : decode cX13_person 42 = .ok (.goto 34, 3) := by decide +kernel
theorem dX13_person_45 : decode cX13_person 45 = .ok (.iload_n 2, 1) := by decide +kernel
theorem dX13_person_46 : decode cX13_person 46 = .ok (.iconst 1, 1) := by decide +kernel
theorem dX13_person_47 : decode cX13_person 47 = .ok (.if_icmp .ne 11, 3) := by decide +kernel
theorem dX13_person_50 : decode cX13_person 50 = .ok (.aload_n 0, 1) := by decide +kernel
theorem dX13_person_51 : decode cX13_person 51 = .ok (.iload_n 1, 1) := by decide +kernel
theorem dX13_person_52 : decode cX13_person 52 = .ok (.invokevirtual 357, 3) := by decide +kernel
theorem dX13_person_55 : decode cX13_person 55 = .ok (.goto 21, 3) := by decide +kernel
theorem dX13_person_58 : decode cX13_person 58 = .ok (.iload_n 2, 1) := by decide +kernel
theorem dX13_person_59 : decode cX13_person 59 = .ok (.iconst 2, 1) := by decide +kernel
theorem dX13_person_60 : decode cX13_person 60 = .ok (.if_icmp .ne 11, 3) := by decide +kernel
theorem dX13_person_63 : decode cX13_person 63 = .ok (.aload_n 0, 1) := by decide +kernel
theorem dX13_person_64 : decode cX13_person 64 = .ok (.iload_n 1, 1) := by decide +kernel
theorem dX13_person_65 : decode cX13_person 65 = .ok (.invokevirtual 360, 3) := by decide +kernel
theorem dX13_person_68 : decode cX13_person 68 = .ok (.goto 8, 3) := by decide +kernel
theorem dX13_person_71 : decode cX13_person 71 = .ok (.aload_n 0, 1) := by decide +kernel
theorem dX13_person_72 : decode cX13_person 72 = .ok (.iload_n 1, 1) := by decide +kernel
theorem dX13_person_73 : decode cX13_person 73 = .ok (.invokevirtual 363, 3) := by decide +kernel
theorem dX13_person_76 : decode cX13_person 76 = .ok (.invokevirtual 52, 3) := by decide +kernel
theorem dX13_person_79 : decode cX13_person 79 = .ok (.ireturn, 1) := by decide +kernel
theorem dX13_firm_0 : decode cX13_firm 0 = .ok (.aload_n 0, 1) := by decide +kernel
theorem dX13_firm_1 : decode cX13_firm 1 = .ok (.iconst 0, 1) := by decide +kernel
theorem dX13_firm_2 : decode cX13_firm 2 = .ok (.putfield 42, 3) := by decide +kernel
theorem dX13_firm_5 : decode cX13_firm 5 = .ok (.aload_n 0, 1) := by decide +kernel
theorem dX13_firm_6 : decode cX13_firm 6 = .ok (.iload_n 1, 1) := by decide +kernel
theorem dX13_firm_7 : decode cX13_firm 7 = .ok (.invokevirtual 366, 3) := by decide +kernel
theorem dX13_firm_10 : decode cX13_firm 10 = .ok (.ifCond .eq 12, 3) := by decide +kernel
theorem dX13_firm_13 : decode cX13_firm 13 = .ok (.iload_n 2, 1) := by decide +kernel
theorem dX13_firm_14 : decode cX13_firm 14 = .ok (.iconst 0, 1) := by decide +kernel
theorem dX13_firm_15 : decode cX13_firm 15 = .ok (.iconst 2, 1) := by decide +kernel
theorem dX13_firm_16 : decode cX13_firm 16 = .ok (.invokestatic 121, 3) := by decide +kernel
theorem dX13_firm_19 : decode cX13_firm 19 = .ok (.ifCond .ne 9, 3) := by decide +kernel
theorem dX13_firm_22 : decode cX13_firm 22 = .ok (.aload_n 0, 1) := by decide +kernel
theorem dX13_firm_23 : decode cX13_firm 23 = .ok (.iconst 1, 1) := by decide +kernel
theorem dX13_firm_24 : decode cX13_firm 24 = .ok (.invokevirtual 48, 3) := by decide +kernel
theorem dX13_firm_27 : decode cX13_firm 27 = .ok (.ireturn, 1) := by decide +kernel
theorem dX13_firm_28 : decode cX13_firm 28 = .ok (.aload_n 0, 1) := by decide +kernel
theorem dX13_firm_29 : decode cX13_firm 29 = .ok (.invokevirtual 348, 3) := by decide +kernel
theorem dX13_firm_32 : decode cX13_firm 32 = .ok (.iconst 0, 1) := by decide +kernel
theorem dX13_firm_33 : decode cX13_firm 33 = .ok (.istore_n 3, 1) := by decide +kernel
theorem dX13_firm_34 : decode cX13_firm 34 = .ok (.iconst 0, 1) := by decide +kernel
theorem dX13_firm_35 : decode cX13_firm 35 = .ok (.istore 4, 2) := by decide +kernel
theorem dX13_firm_37 : decode cX13_firm 37 = .ok (.iload 4, 2) := by decide +kernel
theorem dX13_firm_39 : decode cX13_firm 39 = .ok (.aload_n 0, 1) := by decide +kernel
theorem dX13_firm_40 : decode cX13_firm 40 = .ok (.getfield 321, 3) := by decide +kernel
theorem dX13_firm_43 : decode cX13_firm 43 = .ok (.getfield 191, 3) := by decide +kernel
theorem dX13_firm_46 : decode cX13_firm 46 = .ok (.if_icmp .ge 65, 3) := by decide +kernel
theorem dX13_firm_49 : decode cX13_firm 49 = .ok (.aload_n 0, 1) := by decide +kernel
theorem dX13_firm_50 : decode cX13_firm 50 = .ok (.getfield 321, 3) := by decide +kernel
theorem dX13_firm_53 : decode cX13_firm 53 = .ok (.getfield 278, 3) := by decide +kernel
theorem dX13_firm_56 : decode cX13_firm 56 = .ok (.iload 4, 2) := by decide +kernel
theorem dX13_firm_58 : decode cX13_firm 58 = .ok (.iaload, 1) := by decide +kernel
theorem dX13_firm_59 : decode cX13_firm 59 = .ok (.iload_n 1, 1) := by decide +kernel
theorem dX13_firm_60 : decode cX13_firm 60 = .ok (.if_icmp .eq 6, 3) := by decide +kernel
theorem dX13_firm_63 : decode cX13_firm 63 = .ok (.goto 42, 3) := by decide +kernel
theorem dX13_firm_66 : decode cX13_firm 66 = .ok (.iconst 0, 1) := by decide +kernel
theorem dX13_firm_67 : decode cX13_firm 67 = .ok (.istore 5, 2) := by decide +kernel
theorem dX13_firm_69 : decode cX13_firm 69 = .ok (.iload 5, 2) := by decide +kernel
theorem dX13_firm_71 : decode cX13_firm 71 = .ok (.aload_n 0, 1) := by decide +kernel
theorem dX13_firm_72 : decode cX13_firm 72 = .ok (.getfield 321, 3) := by decide +kernel
theorem dX13_firm_75 : decode cX13_firm 75 = .ok (.getfield 229, 3) := by decide +kernel
theorem dX13_firm_78 : decode cX13_firm 78 = .ok (.if_icmp .ge 27, 3) := by decide +kernel
theorem dX13_firm_81 : decode cX13_firm 81 = .ok (.iload_n 3, 1) := by decide +kernel
theorem dX13_firm_82 : decode cX13_firm 82 = .ok (.aload_n 0, 1) := by decide +kernel
theorem dX13_firm_83 : decode cX13_firm 83 = .ok (.iload 5, 2) := by decide +kernel
theorem dX13_firm_85 : decode cX13_firm 85 = .ok (.iload 4, 2) := by decide +kernel
theorem dX13_firm_87 : decode cX13_firm 87 = .ok (.aload_n 0, 1) := by decide +kernel
theorem dX13_firm_88 : decode cX13_firm 88 = .ok (.getfield 21, 3) := by decide +kernel
theorem dX13_firm_91 : decode cX13_firm 91 = .ok (.iload 4, 2) := by decide +kernel
theorem dX13_firm_93 : decode cX13_firm 93 = .ok (.iaload, 1) := by decide +kernel
theorem dX13_firm_94 : decode cX13_firm 94 = .ok (.invokevirtual 338, 3) := by decide +kernel
theorem dX13_firm_97 : decode cX13_firm 97 = .ok (.iadd, 1) := by decide +kernel
theorem dX13_firm_98 : decode cX13_firm 98 = .ok (.istore_n 3, 1) := by decide +kernel
theorem dX13_firm_99 : decode cX13_firm 99 = .ok (.iinc 5 1, 3) := by decide +kernel
theorem dX13_firm_102 : decode cX13_firm 102 = .ok (.goto (-33), 3) := by decide +kernel
theorem dX13_firm_105 : decode cX13_firm 105 = .ok (.iinc 4 1, 3) := by decide +kernel
theorem dX13_firm_108 : decode cX13_firm 108 = .ok (.goto (-71), 3) := by decide +kernel
theorem dX13_firm_111 : decode cX13_firm 111 = .ok (.aload_n 0, 1) := by decide +kernel
theorem dX13_firm_112 : decode cX13_firm 112 = .ok (.iload_n 2, 1) := by decide +kernel
theorem dX13_firm_113 : decode cX13_firm 113 = .ok (.ifCond .ne 15, 3) := by decide +kernel
theorem dX13_firm_116 : decode cX13_firm 116 = .ok (.aload_n 0, 1) := by decide +kernel
theorem dX13_firm_117 : decode cX13_firm 117 = .ok (.getfield 321, 3) := by decide +kernel
theorem dX13_firm_120 : decode cX13_firm 120 = .ok (.getfield 253, 3) := by decide +kernel
theorem dX13_firm_123 : decode cX13_firm 123 = .ok (.iload_n 1, 1) := by decide +kernel
theorem dX13_firm_124 : decode cX13_firm 124 = .ok (.iaload, 1) := by decide +kernel
theorem dX13_firm_125 : decode cX13_firm 125 = .ok (.goto 21, 3) := by decide +kernel
theorem dX13_firm_128 : decode cX13_firm 128 = .ok (.iload_n 2, 1) := by decide +kernel
theorem dX13_firm_129 : decode cX13_firm 129 = .ok (.iconst 1, 1) := by decide +kernel
theorem dX13_firm_130 : decode cX13_firm 130 = .ok (.if_icmp .ne 15, 3) := by decide +kernel
theorem dX13_firm_133 : decode cX13_firm 133 = .ok (.aload_n 0, 1) := by decide +kernel
theorem dX13_firm_134 : decode cX13_firm 134 = .ok (.getfield 321, 3) := by decide +kernel
theorem dX13_firm_137 : decode cX13_firm 137 = .ok (.getfield 256, 3) := by decide +kernel
theorem dX13_firm_140 : decode cX13_firm 140 = .ok (.iload_n 1, 1) := by decide +kernel
theorem dX13_firm_141 : decode cX13_firm 141 = .ok (.iaload, 1) := by decide +kernel
theorem dX13_firm_142 : decode cX13_firm 142 = .ok (.goto 4, 3) := by decide +kernel
theorem dX13_firm_145 : decode cX13_firm 145 = .ok (.iload_n 3, 1) := by decide +kernel
theorem dX13_firm_146 : decode cX13_firm 146 = .ok (.invokevirtual 52, 3) := by decide +kernel
theorem dX13_firm_149 : decode cX13_firm 149 = .ok (.ireturn, 1) := by decide +kernel
theorem dX13_commons_0 : decode cX13_commons 0 = .ok (.aload_n 0, 1) := by decide +kernel
theorem dX13_commons_1 : decode cX13_commons 1 = .ok (.iconst 0, 1) := by decide +kernel
theorem dX13_commons_2 : decode cX13_commons 2 = .ok (.putfield 42, 3) := by decide +kernel
theorem dX13_commons_5 : decode cX13_commons 5 = .ok (.aload_n 0, 1) := by decide +kernel
theorem dX13_commons_6 : decode cX13_commons 6 = .ok (.getfield 321, 3) := by decide +kernel
theorem dX13_commons_9 : decode cX13_commons 9 = .ok (.ifnonnull 9, 3) := by decide +kernel
theorem dX13_commons_12 : decode cX13_commons 12 = .ok (.aload_n 0, 1) := by decide +kernel
theorem dX13_commons_13 : decode cX13_commons 13 = .ok (.iconst 1, 1) := by decide +kernel
theorem dX13_commons_14 : decode cX13_commons 14 = .ok (.invokevirtual 48, 3) := by decide +kernel
theorem dX13_commons_17 : decode cX13_commons 17 = .ok (.ireturn, 1) := by decide +kernel
theorem dX13_commons_18 : decode cX13_commons 18 = .ok (.aload_n 0, 1) := by decide +kernel
theorem dX13_commons_19 : decode cX13_commons 19 = .ok (.invokevirtual 348, 3) := by decide +kernel
theorem dX13_commons_22 : decode cX13_commons 22 = .ok (.iconst 0, 1) := by decide +kernel
theorem dX13_commons_23 : decode cX13_commons 23 = .ok (.istore_n 1, 1) := by decide +kernel
theorem dX13_commons_24 : decode cX13_commons 24 = .ok (.iconst 0, 1) := by decide +kernel
theorem dX13_commons_25 : decode cX13_commons 25 = .ok (.istore_n 2, 1) := by decide +kernel
theorem dX13_commons_26 : decode cX13_commons 26 = .ok (.iload_n 2, 1) := by decide +kernel
theorem dX13_commons_27 : decode cX13_commons 27 = .ok (.aload_n 0, 1) := by decide +kernel
theorem dX13_commons_28 : decode cX13_commons 28 = .ok (.getfield 321, 3) := by decide +kernel
theorem dX13_commons_31 : decode cX13_commons 31 = .ok (.getfield 191, 3) := by decide +kernel
theorem dX13_commons_34 : decode cX13_commons 34 = .ok (.if_icmp .ge 27, 3) := by decide +kernel
theorem dX13_commons_37 : decode cX13_commons 37 = .ok (.iload_n 1, 1) := by decide +kernel
theorem dX13_commons_38 : decode cX13_commons 38 = .ok (.aload_n 0, 1) := by decide +kernel
theorem dX13_commons_39 : decode cX13_commons 39 = .ok (.iload_n 2, 1) := by decide +kernel
theorem dX13_commons_40 : decode cX13_commons 40 = .ok (.invokevirtual 342, 3) := by decide +kernel
theorem dX13_commons_43 : decode cX13_commons 43 = .ok (.ifCond .ne 9, 3) := by decide +kernel
theorem dX13_commons_46 : decode cX13_commons 46 = .ok (.iconst 1, 1) := by decide +kernel
theorem dX13_commons_47 : decode cX13_commons 47 = .ok (.iload_n 2, 1) := by decide +kernel
theorem dX13_commons_48 : decode cX13_commons 48 = .ok (.ishl, 1) := by decide +kernel
theorem dX13_commons_49 : decode cX13_commons 49 = .ok (.goto 4, 3) := by decide +kernel
theorem dX13_commons_52 : decode cX13_commons 52 = .ok (.iconst 0, 1) := by decide +kernel
theorem dX13_commons_53 : decode cX13_commons 53 = .ok (.ior, 1) := by decide +kernel
theorem dX13_commons_54 : decode cX13_commons 54 = .ok (.istore_n 1, 1) := by decide +kernel
theorem dX13_commons_55 : decode cX13_commons 55 = .ok (.iinc 2 1, 3) := by decide +kernel
theorem dX13_commons_58 : decode cX13_commons 58 = .ok (.goto (-32), 3) := by decide +kernel
theorem dX13_commons_61 : decode cX13_commons 61 = .ok (.aload_n 0, 1) := by decide +kernel
theorem dX13_commons_62 : decode cX13_commons 62 = .ok (.iload_n 1, 1) := by decide +kernel
theorem dX13_commons_63 : decode cX13_commons 63 = .ok (.invokevirtual 52, 3) := by decide +kernel
theorem dX13_commons_66 : decode cX13_commons 66 = .ok (.ireturn, 1) := by decide +kernel
theorem dX13_richest_0 : decode cX13_richest 0 = .ok (.aload_n 0, 1) := by decide +kernel
theorem dX13_richest_1 : decode cX13_richest 1 = .ok (.iconst 0, 1) := by decide +kernel
theorem dX13_richest_2 : decode cX13_richest 2 = .ok (.putfield 42, 3) := by decide +kernel
theorem dX13_richest_5 : decode cX13_richest 5 = .ok (.aload_n 0, 1) := by decide +kernel
theorem dX13_richest_6 : decode cX13_richest 6 = .ok (.getfield 321, 3) := by decide +kernel
theorem dX13_richest_9 : decode cX13_richest 9 = .ok (.ifnonnull 9, 3) := by decide +kernel
theorem dX13_richest_12 : decode cX13_richest 12 = .ok (.aload_n 0, 1) := by decide +kernel
theorem dX13_richest_13 : decode cX13_richest 13 = .ok (.iconst 1, 1) := by decide +kernel
theorem dX13_richest_14 : decode cX13_richest 14 = .ok (.invokevirtual 48, 3) := by decide +kernel
theorem dX13_richest_17 : decode cX13_richest 17 = .ok (.ireturn, 1) := by decide +kernel
theorem dX13_richest_18 : decode cX13_richest 18 = .ok (.aload_n 0, 1) := by decide +kernel
theorem dX13_richest_19 : decode cX13_richest 19 = .ok (.invokevirtual 348, 3) := by decide +kernel
theorem dX13_richest_22 : decode cX13_richest 22 = .ok (.bipush (-2), 2) := by decide +kernel
theorem dX13_richest_24 : decode cX13_richest 24 = .ok (.istore_n 1, 1) := by decide +kernel
theorem dX13_richest_25 : decode cX13_richest 25 = .ok (.iconst 0, 1) := by decide +kernel
theorem dX13_richest_26 : decode cX13_richest 26 = .ok (.istore_n 2, 1) := by decide +kernel
theorem dX13_richest_27 : decode cX13_richest 27 = .ok (.iload_n 2, 1) := by decide +kernel
theorem dX13_richest_28 : decode cX13_richest 28 = .ok (.aload_n 0, 1) := by decide +kernel
theorem dX13_richest_29 : decode cX13_richest 29 = .ok (.getfield 321, 3) := by decide +kernel
theorem dX13_richest_32 : decode cX13_richest 32 = .ok (.getfield 229, 3) := by decide +kernel
theorem dX13_richest_35 : decode cX13_richest 35 = .ok (.if_icmp .ge 30, 3) := by decide +kernel
theorem dX13_richest_38 : decode cX13_richest 38 = .ok (.iload_n 1, 1) := by decide +kernel
theorem dX13_richest_39 : decode cX13_richest 39 = .ok (.bipush (-2), 2) := by decide +kernel
theorem dX13_richest_41 : decode cX13_richest 41 = .ok (.if_icmp .eq 16, 3) := by decide +kernel
theorem dX13_richest_44 : decode cX13_richest 44 = .ok (.aload_n 0, 1) := by decide +kernel
theorem dX13_richest_45 : decode cX13_richest 45 = .ok (.iload_n 2, 1) := by decide +kernel
theorem dX13_richest_46 : decode cX13_richest 46 = .ok (.invokevirtual 354, 3) := by decide +kernel
theorem dX13_richest_49 : decode cX13_richest 49 = .ok (.aload_n 0, 1) := by decide +kernel
theorem dX13_richest_50 : decode cX13_richest 50 = .ok (.iload_n 1, 1) := by decide +kernel
theorem dX13_richest_51 : decode cX13_richest 51 = .ok (.invokevirtual 354, 3) := by decide +kernel
theorem dX13_richest_54 : decode cX13_richest 54 = .ok (.if_icmp .le 5, 3) := by decide +kernel
theorem dX13_richest_57 : decode cX13_richest 57 = .ok (.iload_n 2, 1) := by decide +kernel
theorem dX13_richest_58 : decode cX13_richest 58 = .ok (.istore_n 1, 1) := by decide +kernel
theorem dX13_richest_59 : decode cX13_richest 59 = .ok (.iinc 2 1, 3) := by decide +kernel
theorem dX13_richest_62 : decode cX13_richest 62 = .ok (.goto (-35), 3) := by decide +kernel
theorem dX13_richest_65 : decode cX13_richest 65 = .ok (.aload_n 0, 1) := by decide +kernel
theorem dX13_richest_66 : decode cX13_richest 66 = .ok (.iload_n 1, 1) := by decide +kernel
theorem dX13_richest_67 : decode cX13_richest 67 = .ok (.invokevirtual 52, 3) := by decide +kernel
theorem dX13_richest_70 : decode cX13_richest 70 = .ok (.ireturn, 1) := by decide +kernel
theorem dX13_ground_0 : decode cX13_ground 0 = .ok (.aload_n 0, 1) := by decide +kernel
theorem dX13_ground_1 : decode cX13_ground 1 = .ok (.iconst 0, 1) := by decide +kernel
theorem dX13_ground_2 : decode cX13_ground 2 = .ok (.putfield 42, 3) := by decide +kernel
theorem dX13_ground_5 : decode cX13_ground 5 = .ok (.aload_n 0, 1) := by decide +kernel
theorem dX13_ground_6 : decode cX13_ground 6 = .ok (.getfield 321, 3) := by decide +kernel
theorem dX13_ground_9 : decode cX13_ground 9 = .ok (.ifnonnull 11, 3) := by decide +kernel
theorem dX13_ground_12 : decode cX13_ground 12 = .ok (.aload_n 0, 1) := by decide +kernel
theorem dX13_ground_13 : decode cX13_ground 13 = .ok (.iconst 1, 1) := by decide +kernel
theorem dX13_ground_14 : decode cX13_ground 14 = .ok (.invokevirtual 48, 3) := by decide +kernel
theorem dX13_ground_17 : decode cX13_ground 17 = .ok (.goto 14, 3) := by decide +kernel
theorem dX13_ground_20 : decode cX13_ground 20 = .ok (.aload_n 0, 1) := by decide +kernel
theorem dX13_ground_21 : decode cX13_ground 21 = .ok (.aload_n 0, 1) := by decide +kernel
theorem dX13_ground_22 : decode cX13_ground 22 = .ok (.getfield 17, 3) := by decide +kernel
theorem dX13_ground_25 : decode cX13_ground 25 = .ok (.bipush 6, 2) := by decide +kernel
theorem dX13_ground_27 : decode cX13_ground 27 = .ok (.iaload, 1) := by decide +kernel
theorem dX13_ground_28 : decode cX13_ground 28 = .ok (.invokevirtual 52, 3) := by decide +kernel
theorem dX13_ground_31 : decode cX13_ground 31 = .ok (.ireturn, 1) := by decide +kernel
theorem dX13_hasIf_0 : decode cX13_hasIf 0 = .ok (.aload_n 0, 1) := by decide +kernel
theorem dX13_hasIf_1 : decode cX13_hasIf 1 = .ok (.iconst 0, 1) := by decide +kernel
theorem dX13_hasIf_2 : decode cX13_hasIf 2 = .ok (.putfield 42, 3) := by decide +kernel
theorem dX13_hasIf_5 : decode cX13_hasIf 5 = .ok (.aload_n 0, 1) := by decide +kernel
theorem dX13_hasIf_6 : decode cX13_hasIf 6 = .ok (.iload_n 1, 1) := by decide +kernel
theorem dX13_hasIf_7 : decode cX13_hasIf 7 = .ok (.invokevirtual 351, 3) := by decide +kernel
theorem dX13_hasIf_10 : decode cX13_hasIf 10 = .ok (.ifCond .eq 11, 3) := by decide +kernel
theorem dX13_hasIf_13 : decode cX13_hasIf 13 = .ok (.aload_n 0, 1) := by decide +kernel
theorem dX13_hasIf_14 : decode cX13_hasIf 14 = .ok (.iload_n 2, 1) := by decide +kernel
theorem dX13_hasIf_15 : decode cX13_hasIf 15 = .ok (.invokevirtual 345, 3) := by decide +kernel
theorem dX13_hasIf_18 : decode cX13_hasIf 18 = .ok (.ifCond .ne 9, 3) := by decide +kernel
theorem dX13_hasIf_21 : decode cX13_hasIf 21 = .ok (.aload_n 0, 1) := by decide +kernel
theorem dX13_hasIf_22 : decode cX13_hasIf 22 = .ok (.iconst 1, 1) := by decide +kernel
theorem dX13_hasIf_23 : decode cX13_hasIf 23 = .ok (.invokevirtual 48, 3) := by decide +kernel
theorem dX13_hasIf_26 : decode cX13_hasIf 26 = .ok (.ireturn, 1) := by decide +kernel
theorem dX13_hasIf_27 : decode cX13_hasIf 27 = .ok (.iload_n 3, 1) := by decide +kernel
theorem dX13_hasIf_28 : decode cX13_hasIf 28 = .ok (.iconst 0, 1) := by decide +kernel
theorem dX13_hasIf_29 : decode cX13_hasIf 29 = .ok (.iconst 2, 1) := by decide +kernel
theorem dX13_hasIf_30 : decode cX13_hasIf 30 = .ok (.invokestatic 121, 3) := by decide +kernel
theorem dX13_hasIf_33 : decode cX13_hasIf 33 = .ok (.ifCond .ne 9, 3) := by decide +kernel
theorem dX13_hasIf_36 : decode cX13_hasIf 36 = .ok (.aload_n 0, 1) := by decide +kernel
theorem dX13_hasIf_37 : decode cX13_hasIf 37 = .ok (.iconst 2, 1) := by decide +kernel
theorem dX13_hasIf_38 : decode cX13_hasIf 38 = .ok (.invokevirtual 48, 3) := by decide +kernel
theorem dX13_hasIf_41 : decode cX13_hasIf 41 = .ok (.ireturn, 1) := by decide +kernel
theorem dX13_hasIf_42 : decode cX13_hasIf 42 = .ok (.aload_n 0, 1) := by decide +kernel
theorem dX13_hasIf_43 : decode cX13_hasIf 43 = .ok (.invokevirtual 348, 3) := by decide +kernel
theorem dX13_hasIf_46 : decode cX13_hasIf 46 = .ok (.aload_n 0, 1) := by decide +kernel
theorem dX13_hasIf_47 : decode cX13_hasIf 47 = .ok (.getfield 21, 3) := by decide +kernel
theorem dX13_hasIf_50 : decode cX13_hasIf 50 = .ok (.iload_n 2, 1) := by decide +kernel
theorem dX13_hasIf_51 : decode cX13_hasIf 51 = .ok (.iload_n 3, 1) := by decide +kernel
theorem dX13_hasIf_52 : decode cX13_hasIf 52 = .ok (.iastore, 1) := by decide +kernel
theorem dX13_hasIf_53 : decode cX13_hasIf 53 = .ok (.aload_n 0, 1) := by decide +kernel
theorem dX13_hasIf_54 : decode cX13_hasIf 54 = .ok (.aload_n 0, 1) := by decide +kernel
theorem dX13_hasIf_55 : decode cX13_hasIf 55 = .ok (.iload_n 1, 1) := by decide +kernel
theorem dX13_hasIf_56 : decode cX13_hasIf 56 = .ok (.invokevirtual 354, 3) := by decide +kernel
theorem dX13_hasIf_59 : decode cX13_hasIf 59 = .ok (.invokevirtual 52, 3) := by decide +kernel
theorem dX13_hasIf_62 : decode cX13_hasIf 62 = .ok (.ireturn, 1) := by decide +kernel
theorem dX13_canMove_0 : decode cX13_canMove 0 = .ok (.iload_n 1, 1) := by decide +kernel
theorem dX13_canMove_1 : decode cX13_canMove 1 = .ok (.aload_n 0, 1) := by decide +kernel
theorem dX13_canMove_2 : decode cX13_canMove 2 = .ok (.getfield 321, 3) := by decide +kernel
theorem dX13_canMove_5 : decode cX13_canMove 5 = .ok (.getfield 191, 3) := by decide +kernel
theorem dX13_canMove_8 : decode cX13_canMove 8 = .ok (.irem, 1) := by decide +kernel
theorem dX13_canMove_9 : decode cX13_canMove 9 = .ok (.istore_n 2, 1) := by decide +kernel
theorem dX13_canMove_10 : decode cX13_canMove 10 = .ok (.aload_n 0, 1) := by decide +kernel
theorem dX13_canMove_11 : decode cX13_canMove 11 = .ok (.getfield 321, 3) := by decide +kernel
theorem dX13_canMove_14 : decode cX13_canMove 14 = .ok (.getfield 275, 3) := by decide +kernel
theorem dX13_canMove_17 : decode cX13_canMove 17 = .ok (.iload_n 2, 1) := by decide +kernel
theorem dX13_canMove_18 : decode cX13_canMove 18 = .ok (.iaload, 1) := by decide +kernel
theorem dX13_canMove_19 : decode cX13_canMove 19 = .ok (.iconst 2, 1) := by decide +kernel
theorem dX13_canMove_20 : decode cX13_canMove 20 = .ok (.if_icmp .ne 5, 3) := by decide +kernel
theorem dX13_canMove_23 : decode cX13_canMove 23 = .ok (.iconst 0, 1) := by decide +kernel
theorem dX13_canMove_24 : decode cX13_canMove 24 = .ok (.ireturn, 1) := by decide +kernel
theorem dX13_canMove_25 : decode cX13_canMove 25 = .ok (.iload_n 1, 1) := by decide +kernel
theorem dX13_canMove_26 : decode cX13_canMove 26 = .ok (.aload_n 0, 1) := by decide +kernel
theorem dX13_canMove_27 : decode cX13_canMove 27 = .ok (.getfield 321, 3) := by decide +kernel
theorem dX13_canMove_30 : decode cX13_canMove 30 = .ok (.getfield 191, 3) := by decide +kernel
theorem dX13_canMove_33 : decode cX13_canMove 33 = .ok (.idiv, 1) := by decide +kernel
theorem dX13_canMove_34 : decode cX13_canMove 34 = .ok (.iconst 2, 1) := by decide +kernel
theorem dX13_canMove_35 : decode cX13_canMove 35 = .ok (.if_icmp .ge 31, 3) := by decide +kernel
theorem dX13_canMove_38 : decode cX13_canMove 38 = .ok (.aload_n 0, 1) := by decide +kernel
theorem dX13_canMove_39 : decode cX13_canMove 39 = .ok (.getfield 21, 3) := by decide +kernel
theorem dX13_canMove_42 : decode cX13_canMove 42 = .ok (.iload_n 2, 1) := by decide +kernel
theorem dX13_canMove_43 : decode cX13_canMove 43 = .ok (.iaload, 1) := by decide +kernel
theorem dX13_canMove_44 : decode cX13_canMove 44 = .ok (.ifCond .ne 18, 3) := by decide +kernel
theorem dX13_canMove_47 : decode cX13_canMove 47 = .ok (.aload_n 0, 1) := by decide +kernel
theorem dX13_canMove_48 : decode cX13_canMove 48 = .ok (.invokevirtual 369, 3) := by decide +kernel
theorem dX13_canMove_51 : decode cX13_canMove 51 = .ok (.aload_n 0, 1) := by decide +kernel
theorem dX13_canMove_52 : decode cX13_canMove 52 = .ok (.invokevirtual 372, 3) := by decide +kernel
theorem dX13_canMove_55 : decode cX13_canMove 55 = .ok (.if_icmp .ge 7, 3) := by decide +kernel
theorem dX13_canMove_58 : decode cX13_canMove 58 = .ok (.iconst 1, 1) := by decide +kernel
theorem dX13_canMove_59 : decode cX13_canMove 59 = .ok (.goto 21, 3) := by decide +kernel
theorem dX13_canMove_62 : decode cX13_canMove 62 = .ok (.iconst 0, 1) := by decide +kernel
theorem dX13_canMove_63 : decode cX13_canMove 63 = .ok (.goto 17, 3) := by decide +kernel
theorem dX13_canMove_66 : decode cX13_canMove 66 = .ok (.aload_n 0, 1) := by decide +kernel
theorem dX13_canMove_67 : decode cX13_canMove 67 = .ok (.getfield 21, 3) := by decide +kernel
theorem dX13_canMove_70 : decode cX13_canMove 70 = .ok (.iload_n 2, 1) := by decide +kernel
theorem dX13_canMove_71 : decode cX13_canMove 71 = .ok (.iaload, 1) := by decide +kernel
theorem dX13_canMove_72 : decode cX13_canMove 72 = .ok (.ifCond .le 7, 3) := by decide +kernel
theorem dX13_canMove_75 : decode cX13_canMove 75 = .ok (.iconst 1, 1) := by decide +kernel
theorem dX13_canMove_76 : decode cX13_canMove 76 = .ok (.goto 4, 3) := by decide +kernel
theorem dX13_canMove_79 : decode cX13_canMove 79 = .ok (.iconst 0, 1) := by decide +kernel
theorem dX13_canMove_80 : decode cX13_canMove 80 = .ok (.ireturn, 1) := by decide +kernel
theorem dX13_moves_0 : decode cX13_moves 0 = .ok (.iload_n 1, 1) := by decide +kernel
theorem dX13_moves_1 : decode cX13_moves 1 = .ok (.aload_n 0, 1) := by decide +kernel
theorem dX13_moves_2 : decode cX13_moves 2 = .ok (.getfield 321, 3) := by decide +kernel
theorem dX13_moves_5 : decode cX13_moves 5 = .ok (.getfield 191, 3) := by decide +kernel
theorem dX13_moves_8 : decode cX13_moves 8 = .ok (.irem, 1) := by decide +kernel
theorem dX13_moves_9 : decode cX13_moves 9 = .ok (.istore_n 2, 1) := by decide +kernel
theorem dX13_moves_10 : decode cX13_moves 10 = .ok (.iload_n 1, 1) := by decide +kernel
theorem dX13_moves_11 : decode cX13_moves 11 = .ok (.aload_n 0, 1) := by decide +kernel
theorem dX13_moves_12 : decode cX13_moves 12 = .ok (.getfield 321, 3) := by decide +kernel
theorem dX13_moves_15 : decode cX13_moves 15 = .ok (.getfield 191, 3) := by decide +kernel
theorem dX13_moves_18 : decode cX13_moves 18 = .ok (.idiv, 1) := by decide +kernel
theorem dX13_moves_19 : decode cX13_moves 19 = .ok (.istore_n 3, 1) := by decide +kernel
theorem dX13_moves_20 : decode cX13_moves 20 = .ok (.aload_n 0, 1) := by decide +kernel
theorem dX13_moves_21 : decode cX13_moves 21 = .ok (.getfield 21, 3) := by decide +kernel
theorem dX13_moves_24 : decode cX13_moves 24 = .ok (.iload_n 2, 1) := by decide +kernel
theorem dX13_moves_25 : decode cX13_moves 25 = .ok (.iload_n 3, 1) := by decide +kernel
theorem dX13_moves_26 : decode cX13_moves 26 = .ok (.ifCond .ne 7, 3) := by decide +kernel
theorem dX13_moves_29 : decode cX13_moves 29 = .ok (.iconst 1, 1) := by decide +kernel
theorem dX13_moves_30 : decode cX13_moves 30 = .ok (.goto 29, 3) := by decide +kernel
theorem dX13_moves_33 : decode cX13_moves 33 = .ok (.iload_n 3, 1) := by decide +kernel
theorem dX13_moves_34 : decode cX13_moves 34 = .ok (.iconst 1, 1) := by decide +kernel
theorem dX13_moves_35 : decode cX13_moves 35 = .ok (.if_icmp .ne 7, 3) := by decide +kernel
theorem dX13_moves_38 : decode cX13_moves 38 = .ok (.iconst 2, 1) := by decide +kernel
theorem dX13_moves_39 : decode cX13_moves 39 = .ok (.goto 20, 3) := by decide +kernel
theorem dX13_moves_42 : decode cX13_moves 42 = .ok (.iload_n 3, 1) := by decide +kernel
theorem dX13_moves_43 : decode cX13_moves 43 = .ok (.iconst 2, 1) := by decide +kernel
theorem dX13_moves_44 : decode cX13_moves 44 = .ok (.if_icmp .ne 7, 3) := by decide +kernel
theorem dX13_moves_47 : decode cX13_moves 47 = .ok (.iconst 0, 1) := by decide +kernel
theorem dX13_moves_48 : decode cX13_moves 48 = .ok (.goto 11, 3) := by decide +kernel
theorem dX13_moves_51 : decode cX13_moves 51 = .ok (.iconst 3, 1) := by decide +kernel
theorem dX13_moves_52 : decode cX13_moves 52 = .ok (.aload_n 0, 1) := by decide +kernel
theorem dX13_moves_53 : decode cX13_moves 53 = .ok (.getfield 21, 3) := by decide +kernel
theorem dX13_moves_56 : decode cX13_moves 56 = .ok (.iload_n 2, 1) := by decide +kernel
theorem dX13_moves_57 : decode cX13_moves 57 = .ok (.iaload, 1) := by decide +kernel
theorem dX13_moves_58 : decode cX13_moves 58 = .ok (.isub, 1) := by decide +kernel
theorem dX13_moves_59 : decode cX13_moves 59 = .ok (.iastore, 1) := by decide +kernel
theorem dX13_moves_60 : decode cX13_moves 60 = .ok (.return_, 1) := by decide +kernel
theorem dX13_can_0 : decode cX13_can 0 = .ok (.aload_n 0, 1) := by decide +kernel
theorem dX13_can_1 : decode cX13_can 1 = .ok (.iconst 0, 1) := by decide +kernel
theorem dX13_can_2 : decode cX13_can 2 = .ok (.putfield 42, 3) := by decide +kernel
theorem dX13_can_5 : decode cX13_can 5 = .ok (.aload_n 0, 1) := by decide +kernel
theorem dX13_can_6 : decode cX13_can 6 = .ok (.getfield 321, 3) := by decide +kernel
theorem dX13_can_9 : decode cX13_can 9 = .ok (.ifnull 20, 3) := by decide +kernel
theorem dX13_can_12 : decode cX13_can 12 = .ok (.iload_n 1, 1) := by decide +kernel
theorem dX13_can_13 : decode cX13_can 13 = .ok (.ifCond .lt 16, 3) := by decide +kernel
theorem dX13_can_16 : decode cX13_can 16 = .ok (.iload_n 1, 1) := by decide +kernel
theorem dX13_can_17 : decode cX13_can 17 = .ok (.iconst 4, 1) := by decide +kernel
theorem dX13_can_18 : decode cX13_can 18 = .ok (.aload_n 0, 1) := by decide +kernel
theorem dX13_can_19 : decode cX13_can 19 = .ok (.getfield 321, 3) := by decide +kernel
theorem dX13_can_22 : decode cX13_can 22 = .ok (.getfield 191, 3) := by decide +kernel
theorem dX13_can_25 : decode cX13_can 25 = .ok (.imul, 1) := by decide +kernel
theorem dX13_can_26 : decode cX13_can 26 = .ok (.if_icmp .lt 9, 3) := by decide +kernel
theorem dX13_can_29 : decode cX13_can 29 = .ok (.aload_n 0, 1) := by decide +kernel
theorem dX13_can_30 : decode cX13_can 30 = .ok (.iconst 1, 1) := by decide +kernel
theorem dX13_can_31 : decode cX13_can 31 = .ok (.invokevirtual 48, 3) := by decide +kernel
theorem dX13_can_34 : decode cX13_can 34 = .ok (.ireturn, 1) := by decide +kernel
theorem dX13_can_35 : decode cX13_can 35 = .ok (.aload_n 0, 1) := by decide +kernel
theorem dX13_can_36 : decode cX13_can 36 = .ok (.invokevirtual 348, 3) := by decide +kernel
theorem dX13_can_39 : decode cX13_can 39 = .ok (.aload_n 0, 1) := by decide +kernel
theorem dX13_can_40 : decode cX13_can 40 = .ok (.aload_n 0, 1) := by decide +kernel
theorem dX13_can_41 : decode cX13_can 41 = .ok (.iload_n 1, 1) := by decide +kernel
theorem dX13_can_42 : decode cX13_can 42 = .ok (.invokevirtual 374, 3) := by decide +kernel
theorem dX13_can_45 : decode cX13_can 45 = .ok (.ifCond .eq 7, 3) := by decide +kernel
theorem dX13_can_48 : decode cX13_can 48 = .ok (.iconst 1, 1) := by decide +kernel
theorem dX13_can_49 : decode cX13_can 49 = .ok (.goto 4, 3) := by decide +kernel
theorem dX13_can_52 : decode cX13_can 52 = .ok (.iconst 0, 1) := by decide +kernel
theorem dX13_can_53 : decode cX13_can 53 = .ok (.invokevirtual 52, 3) := by decide +kernel
theorem dX13_can_56 : decode cX13_can 56 = .ok (.ireturn, 1) := by decide +kernel
theorem dX13_ways_0 : decode cX13_ways 0 = .ok (.iconst 1, 1) := by decide +kernel
theorem dX13_ways_1 : decode cX13_ways 1 = .ok (.istore_n 1, 1) := by decide +kernel
theorem dX13_ways_2 : decode cX13_ways 2 = .ok (.iconst 0, 1) := by decide +kernel
theorem dX13_ways_3 : decode cX13_ways 3 = .ok (.istore_n 2, 1) := by decide +kernel
theorem dX13_ways_4 : decode cX13_ways 4 = .ok (.iload_n 2, 1) := by decide +kernel
theorem dX13_ways_5 : decode cX13_ways 5 = .ok (.aload_n 0, 1) := by decide +kernel
theorem dX13_ways_6 : decode cX13_ways 6 = .ok (.getfield 321, 3) := by decide +kernel
theorem dX13_ways_9 : decode cX13_ways 9 = .ok (.getfield 191, 3) := by decide +kernel
theorem dX13_ways_12 : decode cX13_ways 12 = .ok (.if_icmp .ge 13, 3) := by decide +kernel
theorem dX13_ways_15 : decode cX13_ways 15 = .ok (.iload_n 1, 1) := by decide +kernel
theorem dX13_ways_16 : decode cX13_ways 16 = .ok (.iconst 3, 1) := by decide +kernel
theorem dX13_ways_17 : decode cX13_ways 17 = .ok (.imul, 1) := by decide +kernel
theorem dX13_ways_18 : decode cX13_ways 18 = .ok (.istore_n 1, 1) := by decide +kernel
theorem dX13_ways_19 : decode cX13_ways 19 = .ok (.iinc 2 1, 3) := by decide +kernel
theorem dX13_ways_22 : decode cX13_ways 22 = .ok (.goto (-18), 3) := by decide +kernel
theorem dX13_ways_25 : decode cX13_ways 25 = .ok (.iload_n 1, 1) := by decide +kernel
theorem dX13_ways_26 : decode cX13_ways 26 = .ok (.ireturn, 1) := by decide +kernel
theorem dX13_numbered_0 : decode cX13_numbered 0 = .ok (.iconst 0, 1) := by decide +kernel
theorem dX13_numbered_1 : decode cX13_numbered 1 = .ok (.istore_n 1, 1) := by decide +kernel
theorem dX13_numbered_2 : decode cX13_numbered 2 = .ok (.iconst 0, 1) := by decide +kernel
theorem dX13_numbered_3 : decode cX13_numbered 3 = .ok (.istore_n 2, 1) := by decide +kernel
theorem dX13_numbered_4 : decode cX13_numbered 4 = .ok (.iload_n 2, 1) := by decide +kernel
theorem dX13_numbered_5 : decode cX13_numbered 5 = .ok (.aload_n 0, 1) := by decide +kernel
theorem dX13_numbered_6 : decode cX13_numbered 6 = .ok (.getfield 321, 3) := by decide +kernel
theorem dX13_numbered_9 : decode cX13_numbered 9 = .ok (.getfield 191, 3) := by decide +kernel
theorem dX13_numbered_12 : decode cX13_numbered 12 = .ok (.if_icmp .ge 20, 3) := by decide +kernel
theorem dX13_numbered_15 : decode cX13_numbered 15 = .ok (.iconst 3, 1) := by decide +kernel
theorem dX13_numbered_16 : decode cX13_numbered 16 = .ok (.iload_n 1, 1) := by decide +kernel
theorem dX13_numbered_17 : decode cX13_numbered 17 = .ok (.imul, 1) := by decide +kernel
theorem dX13_numbered_18 : decode cX13_numbered 18 = .ok (.aload_n 0, 1) := by decide +kernel
theorem dX13_numbered_19 : decode cX13_numbered 19 = .ok (.getfield 21, 3) := by decide +kernel
theorem dX13_numbered_22 : decode cX13_numbered 22 = .ok (.iload_n 2, 1) := by decide +kernel
theorem dX13_numbered_23 : decode cX13_numbered 23 = .ok (.iaload, 1) := by decide +kernel
theorem dX13_numbered_24 : decode cX13_numbered 24 = .ok (.iadd, 1) := by decide +kernel
theorem dX13_numbered_25 : decode cX13_numbered 25 = .ok (.istore_n 1, 1) := by decide +kernel
theorem dX13_numbered_26 : decode cX13_numbered 26 = .ok (.iinc 2 1, 3) := by decide +kernel
theorem dX13_numbered_29 : decode cX13_numbered 29 = .ok (.goto (-25), 3) := by decide +kernel
theorem dX13_numbered_32 : decode cX13_numbered 32 = .ok (.iload_n 1, 1) := by decide +kernel
theorem dX13_numbered_33 : decode cX13_numbered 33 = .ok (.ireturn, 1) := by decide +kernel
theorem dX13_lays_0 : decode cX13_lays 0 = .ok (.iload_n 1, 1) := by decide +kernel
theorem dX13_lays_1 : decode cX13_lays 1 = .ok (.istore_n 2, 1) := by decide +kernel
theorem dX13_lays_2 : decode cX13_lays 2 = .ok (.aload_n 0, 1) := by decide +kernel
theorem dX13_lays_3 : decode cX13_lays 3 = .ok (.getfield 321, 3) := by decide +kernel
theorem dX13_lays_6 : decode cX13_lays 6 = .ok (.getfield 191, 3) := by decide +kernel
theorem dX13_lays_9 : decode cX13_lays 9 = .ok (.iconst 1, 1) := by decide +kernel
theorem dX13_lays_10 : decode cX13_lays 10 = .ok (.isub, 1) := by decide +kernel
theorem dX13_lays_11 : decode cX13_lays 11 = .ok (.istore_n 3, 1) := by decide +kernel
theorem dX13_lays_12 : decode cX13_lays 12 = .ok (.iload_n 3, 1) := by decide +kernel
theorem dX13_lays_13 : decode cX13_lays 13 = .ok (.ifCond .lt 22, 3) := by decide +kernel
theorem dX13_lays_16 : decode cX13_lays 16 = .ok (.aload_n 0, 1) := by decide +kernel
theorem dX13_lays_17 : decode cX13_lays 17 = .ok (.getfield 21, 3) := by decide +kernel
theorem dX13_lays_20 : decode cX13_lays 20 = .ok (.iload_n 3, 1) := by decide +kernel
theorem dX13_lays_21 : decode cX13_lays 21 = .ok (.iload_n 2, 1) := by decide +kernel
theorem dX13_lays_22 : decode cX13_lays 22 = .ok (.iconst 3, 1) := by decide +kernel
theorem dX13_lays_23 : decode cX13_lays 23 = .ok (.irem, 1) := by decide +kernel
theorem dX13_lays_24 : decode cX13_lays 24 = .ok (.iastore, 1) := by decide +kernel
theorem dX13_lays_25 : decode cX13_lays 25 = .ok (.iload_n 2, 1) := by decide +kernel
theorem dX13_lays_26 : decode cX13_lays 26 = .ok (.iconst 3, 1) := by decide +kernel
theorem dX13_lays_27 : decode cX13_lays 27 = .ok (.idiv, 1) := by decide +kernel
theorem dX13_lays_28 : decode cX13_lays 28 = .ok (.istore_n 2, 1) := by decide +kernel
theorem dX13_lays_29 : decode cX13_lays 29 = .ok (.iinc 3 (-1), 3) := by decide +kernel
theorem dX13_lays_32 : decode cX13_lays 32 = .ok (.goto (-20), 3) := by decide +kernel
theorem dX13_lays_35 : decode cX13_lays 35 = .ok (.return_, 1) := by decide +kernel
theorem dX13_reaches_0 : decode cX13_reaches 0 = .ok (.iconst 0, 1) := by decide +kernel
theorem dX13_reaches_1 : decode cX13_reaches 1 = .ok (.istore_n 1, 1) := by decide +kernel
theorem dX13_reaches_2 : decode cX13_reaches 2 = .ok (.iload_n 1, 1) := by decide +kernel
theorem dX13_reaches_3 : decode cX13_reaches 3 = .ok (.sipush 729, 3) := by decide +kernel
theorem dX13_reaches_6 : decode cX13_reaches 6 = .ok (.if_icmp .ge 18, 3) := by decide +kernel
theorem dX13_reaches_9 : decode cX13_reaches 9 = .ok (.aload_n 0, 1) := by decide +kernel
theorem dX13_reaches_10 : decode cX13_reaches 10 = .ok (.getfield 30, 3) := by decide +kernel
theorem dX13_reaches_13 : decode cX13_reaches 13 = .ok (.iload_n 1, 1) := by decide +kernel
theorem dX13_reaches_14 : decode cX13_reaches 14 = .ok (.sipush 9999, 3) := by decide +kernel
theorem dX13_reaches_17 : decode cX13_reaches 17 = .ok (.iastore, 1) := by decide +kernel
theorem dX13_reaches_18 : decode cX13_reaches 18 = .ok (.iinc 1 1, 3) := by decide +kernel
theorem dX13_reaches_21 : decode cX13_reaches 21 = .ok (.goto (-19), 3) := by decide +kernel
theorem dX13_reaches_24 : decode cX13_reaches 24 = .ok (.aload_n 0, 1) := by decide +kernel
theorem dX13_reaches_25 : decode cX13_reaches 25 = .ok (.invokevirtual 348, 3) := by decide +kernel
theorem dX13_reaches_28 : decode cX13_reaches 28 = .ok (.aload_n 0, 1) := by decide +kernel
theorem dX13_reaches_29 : decode cX13_reaches 29 = .ok (.getfield 36, 3) := by decide +kernel
theorem dX13_reaches_32 : decode cX13_reaches 32 = .ok (.iconst 0, 1) := by decide +kernel
theorem dX13_reaches_33 : decode cX13_reaches 33 = .ok (.aload_n 0, 1) := by decide +kernel
theorem dX13_reaches_34 : decode cX13_reaches 34 = .ok (.invokevirtual 377, 3) := by decide +kernel
theorem dX13_reaches_37 : decode cX13_reaches 37 = .ok (.iastore, 1) := by decide +kernel
theorem dX13_reaches_38 : decode cX13_reaches 38 = .ok (.aload_n 0, 1) := by decide +kernel
theorem dX13_reaches_39 : decode cX13_reaches 39 = .ok (.getfield 30, 3) := by decide +kernel
theorem dX13_reaches_42 : decode cX13_reaches 42 = .ok (.aload_n 0, 1) := by decide +kernel
theorem dX13_reaches_43 : decode cX13_reaches 43 = .ok (.getfield 36, 3) := by decide +kernel
theorem dX13_reaches_46 : decode cX13_reaches 46 = .ok (.iconst 0, 1) := by decide +kernel
theorem dX13_reaches_47 : decode cX13_reaches 47 = .ok (.iaload, 1) := by decide +kernel
theorem dX13_reaches_48 : decode cX13_reaches 48 = .ok (.iconst 0, 1) := by decide +kernel
theorem dX13_reaches_49 : decode cX13_reaches 49 = .ok (.iastore, 1) := by decide +kernel
theorem dX13_reaches_50 : decode cX13_reaches 50 = .ok (.aload_n 0, 1) := by decide +kernel
theorem dX13_reaches_51 : decode cX13_reaches 51 = .ok (.iconst 1, 1) := by decide +kernel
theorem dX13_reaches_52 : decode cX13_reaches 52 = .ok (.putfield 380, 3) := by decide +kernel
theorem dX13_reaches_55 : decode cX13_reaches 55 = .ok (.iconst 0, 1) := by decide +kernel
theorem dX13_reaches_56 : decode cX13_reaches 56 = .ok (.istore_n 1, 1) := by decide +kernel
theorem dX13_reaches_57 : decode cX13_reaches 57 = .ok (.iload_n 1, 1) := by decide +kernel
theorem dX13_reaches_58 : decode cX13_reaches 58 = .ok (.aload_n 0, 1) := by decide +kernel
theorem dX13_reaches_59 : decode cX13_reaches 59 = .ok (.getfield 380, 3) := by decide +kernel
theorem dX13_reaches_62 : decode cX13_reaches 62 = .ok (.if_icmp .ge 132, 3) := by decide +kernel
theorem dX13_reaches_65 : decode cX13_reaches 65 = .ok (.iconst 0, 1) := by decide +kernel
theorem dX13_reaches_66 : decode cX13_reaches 66 = .ok (.istore_n 2, 1) := by decide +kernel
theorem dX13_reaches_67 : decode cX13_reaches 67 = .ok (.iload_n 2, 1) := by decide +kernel
theorem dX13_reaches_68 : decode cX13_reaches 68 = .ok (.iconst 4, 1) := by decide +kernel
theorem dX13_reaches_69 : decode cX13_reaches 69 = .ok (.aload_n 0, 1) := by decide +kernel
theorem dX13_reaches_70 : decode cX13_reaches 70 = .ok (.getfield 321, 3) := by decide +kernel
theorem dX13_reaches_73 : decode cX13_reaches 73 = .ok (.getfield 191, 3) := by decide +kernel
theorem dX13_reaches_76 : decode cX13_reaches 76 = .ok (.imul, 1) := by decide +kernel
theorem dX13_reaches_77 : decode cX13_reaches 77 = .ok (.if_icmp .ge 111, 3) := by decide +kernel
theorem dX13_reaches_80 : decode cX13_reaches 80 = .ok (.aload_n 0, 1) := by decide +kernel
theorem dX13_reaches_81 : decode cX13_reaches 81 = .ok (.aload_n 0, 1) := by decide +kernel
theorem dX13_reaches_82 : decode cX13_reaches 82 = .ok (.getfield 36, 3) := by decide +kernel
theorem dX13_reaches_85 : decode cX13_reaches 85 = .ok (.iload_n 1, 1) := by decide +kernel
theorem dX13_reaches_86 : decode cX13_reaches 86 = .ok (.iaload, 1) := by decide +kernel
theorem dX13_reaches_87 : decode cX13_reaches 87 = .ok (.invokevirtual 383, 3) := by decide +kernel
theorem dX13_reaches_90 : decode cX13_reaches 90 = .ok (.aload_n 0, 1) := by decide +kernel
theorem dX13_reaches_91 : decode cX13_reaches 91 = .ok (.iload_n 2, 1) := by decide +kernel
theorem dX13_reaches_92 : decode cX13_reaches 92 = .ok (.invokevirtual 374, 3) := by decide +kernel
theorem dX13_reaches_95 : decode cX13_reaches 95 = .ok (.ifCond .ne 6, 3) := by decide +kernel
theorem dX13_reaches_98 : decode cX13_reaches 98 = .ok (.goto 84, 3) := by decide +kernel
theorem dX13_reaches_101 : decode cX13_reaches 101 = .ok (.aload_n 0, 1) := by decide +kernel
theorem dX13_reaches_102 : decode cX13_reaches 102 = .ok (.iload_n 2, 1) := by decide +kernel
theorem dX13_reaches_103 : decode cX13_reaches 103 = .ok (.invokevirtual 386, 3) := by decide +kernel
theorem dX13_reaches_106 : decode cX13_reaches 106 = .ok (.aload_n 0, 1) := by decide +kernel
theorem dX13_reaches_107 : decode cX13_reaches 107 = .ok (.invokevirtual 377, 3) := by decide +kernel
theorem dX13_reaches_110 : decode cX13_reaches 110 = .ok (.istore_n 3, 1) := by decide +kernel
theorem dX13_reaches_111 : decode cX13_reaches 111 = .ok (.aload_n 0, 1) := by decide +kernel
theorem dX13_reaches_112 : decode cX13_reaches 112 = .ok (.getfield 30, 3) := by decide +kernel
theorem dX13_reaches_115 : decode cX13_reaches 115 = .ok (.iload_n 3, 1) := by decide +kernel
theorem dX13_reaches_116 : decode cX13_reaches 116 = .ok (.iaload, 1) := by decide +kernel
theorem dX13_reaches_117 : decode cX13_reaches 117 = .ok (.sipush 9999, 3) := by decide +kernel
theorem dX13_reaches_120 : decode cX13_reaches 120 = .ok (.if_icmp .eq 6, 3) := by decide +kernel
theorem dX13_reaches_123 : decode cX13_reaches 123 = .ok (.goto 59, 3) := by decide +kernel
theorem dX13_reaches_126 : decode cX13_reaches 126 = .ok (.aload_n 0, 1) := by decide +kernel
theorem dX13_reaches_127 : decode cX13_reaches 127 = .ok (.getfield 30, 3) := by decide +kernel
theorem dX13_reaches_130 : decode cX13_reaches 130 = .ok (.iload_n 3, 1) := by decide +kernel
theorem dX13_reaches_131 : decode cX13_reaches 131 = .ok (.aload_n 0, 1) := by decide +kernel
theorem dX13_reaches_132 : decode cX13_reaches 132 = .ok (.getfield 30, 3) := by decide +kernel
theorem dX13_reaches_135 : decode cX13_reaches 135 = .ok (.aload_n 0, 1) := by decide +kernel
theorem dX13_reaches_136 : decode cX13_reaches 136 = .ok (.getfield 36, 3) := by decide +kernel
theorem dX13_reaches_139 : decode cX13_reaches 139 = .ok (.iload_n 1, 1) := by decide +kernel
theorem dX13_reaches_140 : decode cX13_reaches 140 = .ok (.iaload, 1) := by decide +kernel
theorem dX13_reaches_141 : decode cX13_reaches 141 = .ok (.iaload, 1) := by decide +kernel
theorem dX13_reaches_142 : decode cX13_reaches 142 = .ok (.iconst 1, 1) := by decide +kernel
theorem dX13_reaches_143 : decode cX13_reaches 143 = .ok (.iadd, 1) := by decide +kernel
theorem dX13_reaches_144 : decode cX13_reaches 144 = .ok (.iastore, 1) := by decide +kernel
theorem dX13_reaches_145 : decode cX13_reaches 145 = .ok (.aload_n 0, 1) := by decide +kernel
theorem dX13_reaches_146 : decode cX13_reaches 146 = .ok (.getfield 33, 3) := by decide +kernel
theorem dX13_reaches_149 : decode cX13_reaches 149 = .ok (.iload_n 3, 1) := by decide +kernel
theorem dX13_reaches_150 : decode cX13_reaches 150 = .ok (.bipush 24, 2) := by decide +kernel
theorem dX13_reaches_152 : decode cX13_reaches 152 = .ok (.aload_n 0, 1) := by decide +kernel
theorem dX13_reaches_153 : decode cX13_reaches 153 = .ok (.getfield 36, 3) := by decide +kernel
theorem dX13_reaches_156 : decode cX13_reaches 156 = .ok (.iload_n 1, 1) := by decide +kernel
theorem dX13_reaches_157 : decode cX13_reaches 157 = .ok (.iaload, 1) := by decide +kernel
theorem dX13_reaches_158 : decode cX13_reaches 158 = .ok (.imul, 1) := by decide +kernel
theorem dX13_reaches_159 : decode cX13_reaches 159 = .ok (.iload_n 2, 1) := by decide +kernel
theorem dX13_reaches_160 : decode cX13_reaches 160 = .ok (.iadd, 1) := by decide +kernel
theorem dX13_reaches_161 : decode cX13_reaches 161 = .ok (.iastore, 1) := by decide +kernel
theorem dX13_reaches_162 : decode cX13_reaches 162 = .ok (.aload_n 0, 1) := by decide +kernel
theorem dX13_reaches_163 : decode cX13_reaches 163 = .ok (.getfield 36, 3) := by decide +kernel
theorem dX13_reaches_166 : decode cX13_reaches 166 = .ok (.aload_n 0, 1) := by decide +kernel
theorem dX13_reaches_167 : decode cX13_reaches 167 = .ok (.getfield 380, 3) := by decide +kernel
theorem dX13_reaches_170 : decode cX13_reaches 170 = .ok (.iload_n 3, 1) := by decide +kernel
theorem dX13_reaches_171 : decode cX13_reaches 171 = .ok (.iastore, 1) := by decide +kernel
theorem dX13_reaches_172 : decode cX13_reaches 172 = .ok (.aload_n 0, 1) := by decide +kernel
theorem dX13_reaches_173 : decode cX13_reaches 173 = .ok (.dup, 1) := by decide +kernel
theorem dX13_reaches_174 : decode cX13_reaches 174 = .ok (.getfield 380, 3) := by decide +kernel
theorem dX13_reaches_177 : decode cX13_reaches 177 = .ok (.iconst 1, 1) := by decide +kernel
theorem dX13_reaches_178 : decode cX13_reaches 178 = .ok (.iadd, 1) := by decide +kernel
theorem dX13_reaches_179 : decode cX13_reaches 179 = .ok (.putfield 380, 3) := by decide +kernel
theorem dX13_reaches_182 : decode cX13_reaches 182 = .ok (.iinc 2 1, 3) := by decide +kernel
theorem dX13_reaches_185 : decode cX13_reaches 185 = .ok (.goto (-118), 3) := by decide +kernel
theorem dX13_reaches_188 : decode cX13_reaches 188 = .ok (.iinc 1 1, 3) := by decide +kernel
theorem dX13_reaches_191 : decode cX13_reaches 191 = .ok (.goto (-134), 3) := by decide +kernel
theorem dX13_reaches_194 : decode cX13_reaches 194 = .ok (.return_, 1) := by decide +kernel
theorem dX13_isMet_0 : decode cX13_isMet 0 = .ok (.aload_n 0, 1) := by decide +kernel
theorem dX13_isMet_1 : decode cX13_isMet 1 = .ok (.aload_n 0, 1) := by decide +kernel
theorem dX13_isMet_2 : decode cX13_isMet 2 = .ok (.getfield 321, 3) := by decide +kernel
theorem dX13_isMet_5 : decode cX13_isMet 5 = .ok (.getfield 296, 3) := by decide +kernel
theorem dX13_isMet_8 : decode cX13_isMet 8 = .ok (.iload_n 1, 1) := by decide +kernel
theorem dX13_isMet_9 : decode cX13_isMet 9 = .ok (.iaload, 1) := by decide +kernel
theorem dX13_isMet_10 : decode cX13_isMet 10 = .ok (.invokevirtual 342, 3) := by decide +kernel
theorem dX13_isMet_13 : decode cX13_isMet 13 = .ok (.istore_n 2, 1) := by decide +kernel
theorem dX13_isMet_14 : decode cX13_isMet 14 = .ok (.aload_n 0, 1) := by decide +kernel
theorem dX13_isMet_15 : decode cX13_isMet 15 = .ok (.getfield 321, 3) := by decide +kernel
theorem dX13_isMet_18 : decode cX13_isMet 18 = .ok (.getfield 299, 3) := by decide +kernel
theorem dX13_isMet_21 : decode cX13_isMet 21 = .ok (.iload_n 1, 1) := by decide +kernel
theorem dX13_isMet_22 : decode cX13_isMet 22 = .ok (.invokestatic 249, 3) := by decide +kernel
theorem dX13_isMet_25 : decode cX13_isMet 25 = .ok (.ifCond .eq 26, 3) := by decide +kernel
theorem dX13_isMet_28 : decode cX13_isMet 28 = .ok (.iload_n 2, 1) := by decide +kernel
theorem dX13_isMet_29 : decode cX13_isMet 29 = .ok (.iconst 1, 1) := by decide +kernel
theorem dX13_isMet_30 : decode cX13_isMet 30 = .ok (.aload_n 0, 1) := by decide +kernel
theorem dX13_isMet_31 : decode cX13_isMet 31 = .ok (.getfield 321, 3) := by decide +kernel
theorem dX13_isMet_34 : decode cX13_isMet 34 = .ok (.getfield 293, 3) := by decide +kernel
theorem dX13_isMet_37 : decode cX13_isMet 37 = .ok (.iload_n 1, 1) := by decide +kernel
theorem dX13_isMet_38 : decode cX13_isMet 38 = .ok (.iaload, 1) := by decide +kernel
theorem dX13_isMet_39 : decode cX13_isMet 39 = .ok (.ishl, 1) := by decide +kernel
theorem dX13_isMet_40 : decode cX13_isMet 40 = .ok (.if_icmp .ne 7, 3) := by decide +kernel
theorem dX13_isMet_43 : decode cX13_isMet 43 = .ok (.iconst 1, 1) := by decide +kernel
theorem dX13_isMet_44 : decode cX13_isMet 44 = .ok (.goto 20, 3) := by decide +kernel
theorem dX13_isMet_47 : decode cX13_isMet 47 = .ok (.iconst 0, 1) := by decide +kernel
theorem dX13_isMet_48 : decode cX13_isMet 48 = .ok (.goto 16, 3) := by decide +kernel
theorem dX13_isMet_51 : decode cX13_isMet 51 = .ok (.iload_n 2, 1) := by decide +kernel
theorem dX13_isMet_52 : decode cX13_isMet 52 = .ok (.aload_n 0, 1) := by decide +kernel
theorem dX13_isMet_53 : decode cX13_isMet 53 = .ok (.getfield 321, 3) := by decide +kernel
theorem dX13_isMet_56 : decode cX13_isMet 56 = .ok (.getfield 293, 3) := by decide +kernel
theorem dX13_isMet_59 : decode cX13_isMet 59 = .ok (.iload_n 1, 1) := by decide +kernel
theorem dX13_isMet_60 : decode cX13_isMet 60 = .ok (.iaload, 1) := by decide +kernel
theorem dX13_isMet_61 : decode cX13_isMet 61 = .ok (.invokestatic 249, 3) := by decide +kernel
theorem dX13_isMet_64 : decode cX13_isMet 64 = .ok (.ireturn, 1) := by decide +kernel
theorem dX13_metNow_0 : decode cX13_metNow 0 = .ok (.iconst 0, 1) := by decide +kernel
theorem dX13_metNow_1 : decode cX13_metNow 1 = .ok (.istore_n 1, 1) := by decide +kernel
theorem dX13_metNow_2 : decode cX13_metNow 2 = .ok (.iconst 0, 1) := by decide +kernel
theorem dX13_metNow_3 : decode cX13_metNow 3 = .ok (.istore_n 2, 1) := by decide +kernel
theorem dX13_metNow_4 : decode cX13_metNow 4 = .ok (.iload_n 2, 1) := by decide +kernel
theorem dX13_metNow_5 : decode cX13_metNow 5 = .ok (.aload_n 0, 1) := by decide +kernel
theorem dX13_metNow_6 : decode cX13_metNow 6 = .ok (.getfield 321, 3) := by decide +kernel
theorem dX13_metNow_9 : decode cX13_metNow 9 = .ok (.getfield 291, 3) := by decide +kernel
theorem dX13_metNow_12 : decode cX13_metNow 12 = .ok (.if_icmp .ge 27, 3) := by decide +kernel
theorem dX13_metNow_15 : decode cX13_metNow 15 = .ok (.iload_n 1, 1) := by decide +kernel
theorem dX13_metNow_16 : decode cX13_metNow 16 = .ok (.aload_n 0, 1) := by decide +kernel
theorem dX13_metNow_17 : decode cX13_metNow 17 = .ok (.iload_n 2, 1) := by decide +kernel
theorem dX13_metNow_18 : decode cX13_metNow 18 = .ok (.invokevirtual 389, 3) := by decide +kernel
theorem dX13_metNow_21 : decode cX13_metNow 21 = .ok (.ifCond .eq 9, 3) := by decide +kernel
theorem dX13_metNow_24 : decode cX13_metNow 24 = .ok (.iconst 1, 1) := by decide +kernel
theorem dX13_metNow_25 : decode cX13_metNow 25 = .ok (.iload_n 2, 1) := by decide +kernel
theorem dX13_metNow_26 : decode cX13_metNow 26 = .ok (.ishl, 1) := by decide +kernel
theorem dX13_metNow_27 : decode cX13_metNow 27 = .ok (.goto 4, 3) := by decide +kernel
theorem dX13_metNow_30 : decode cX13_metNow 30 = .ok (.iconst 0, 1) := by decide +kernel
theorem dX13_metNow_31 : decode cX13_metNow 31 = .ok (.ior, 1) := by decide +kernel
theorem dX13_metNow_32 : decode cX13_metNow 32 = .ok (.istore_n 1, 1) := by decide +kernel
theorem dX13_metNow_33 : decode cX13_metNow 33 = .ok (.iinc 2 1, 3) := by decide +kernel
theorem dX13_metNow_36 : decode cX13_metNow 36 = .ok (.goto (-32), 3) := by decide +kernel
theorem dX13_metNow_39 : decode cX13_metNow 39 = .ok (.iload_n 1, 1) := by decide +kernel
theorem dX13_metNow_40 : decode cX13_metNow 40 = .ok (.ireturn, 1) := by decide +kernel
theorem dX13_errandEnd_0 : decode cX13_errandEnd 0 = .ok (.aload_n 0, 1) := by decide +kernel
theorem dX13_errandEnd_1 : decode cX13_errandEnd 1 = .ok (.invokevirtual 392, 3) := by decide +kernel
theorem dX13_errandEnd_4 : decode cX13_errandEnd 4 = .ok (.iconst 0, 1) := by decide +kernel
theorem dX13_errandEnd_5 : decode cX13_errandEnd 5 = .ok (.istore_n 1, 1) := by decide +kernel
theorem dX13_errandEnd_6 : decode cX13_errandEnd 6 = .ok (.iload_n 1, 1) := by decide +kernel
theorem dX13_errandEnd_7 : decode cX13_errandEnd 7 = .ok (.aload_n 0, 1) := by decide +kernel
theorem dX13_errandEnd_8 : decode cX13_errandEnd 8 = .ok (.getfield 380, 3) := by decide +kernel
theorem dX13_errandEnd_11 : decode cX13_errandEnd 11 = .ok (.if_icmp .ge 43, 3) := by decide +kernel
theorem dX13_errandEnd_14 : decode cX13_errandEnd 14 = .ok (.aload_n 0, 1) := by decide +kernel
theorem dX13_errandEnd_15 : decode cX13_errandEnd 15 = .ok (.aload_n 0, 1) := by decide +kernel
theorem dX13_errandEnd_16 : decode cX13_errandEnd 16 = .ok (.getfield 36, 3) := by decide +kernel
theorem dX13_errandEnd_19 : decode cX13_errandEnd 19 = .ok (.iload_n 1, 1) := by decide +kernel
theorem dX13_errandEnd_20 : decode cX13_errandEnd 20 = .ok (.iaload, 1) := by decide +kernel
theorem dX13_errandEnd_21 : decode cX13_errandEnd 21 = .ok (.invokevirtual 383, 3) := by decide +kernel
theorem dX13_errandEnd_24 : decode cX13_errandEnd 24 = .ok (.aload_n 0, 1) := by decide +kernel
theorem dX13_errandEnd_25 : decode cX13_errandEnd 25 = .ok (.invokevirtual 395, 3) := by decide +kernel
theorem dX13_errandEnd_28 : decode cX13_errandEnd 28 = .ok (.invokestatic 335, 3) := by decide +kernel
theorem dX13_errandEnd_31 : decode cX13_errandEnd 31 = .ok (.aload_n 0, 1) := by decide +kernel
theorem dX13_errandEnd_32 : decode cX13_errandEnd 32 = .ok (.getfield 321, 3) := by decide +kernel
theorem dX13_errandEnd_35 : decode cX13_errandEnd 35 = .ok (.getfield 291, 3) := by decide +kernel
theorem dX13_errandEnd_38 : decode cX13_errandEnd 38 = .ok (.if_icmp .ne 10, 3) := by decide +kernel
theorem dX13_errandEnd_41 : decode cX13_errandEnd 41 = .ok (.aload_n 0, 1) := by decide +kernel
theorem dX13_errandEnd_42 : decode cX13_errandEnd 42 = .ok (.getfield 36, 3) := by decide +kernel
theorem dX13_errandEnd_45 : decode cX13_errandEnd 45 = .ok (.iload_n 1, 1) := by decide +kernel
theorem dX13_errandEnd_46 : decode cX13_errandEnd 46 = .ok (.iaload, 1) := by decide +kernel
theorem dX13_errandEnd_47 : decode cX13_errandEnd 47 = .ok (.ireturn, 1) := by decide +kernel
theorem dX13_errandEnd_48 : decode cX13_errandEnd 48 = .ok (.iinc 1 1, 3) := by decide +kernel
theorem dX13_errandEnd_51 : decode cX13_errandEnd 51 = .ok (.goto (-45), 3) := by decide +kernel
theorem dX13_errandEnd_54 : decode cX13_errandEnd 54 = .ok (.iconst (-1), 1) := by decide +kernel
theorem dX13_errandEnd_55 : decode cX13_errandEnd 55 = .ok (.ireturn, 1) := by decide +kernel
theorem dX13_errand_0 : decode cX13_errand 0 = .ok (.aload_n 0, 1) := by decide +kernel
theorem dX13_errand_1 : decode cX13_errand 1 = .ok (.iconst 0, 1) := by decide +kernel
theorem dX13_errand_2 : decode cX13_errand 2 = .ok (.putfield 42, 3) := by decide +kernel
theorem dX13_errand_5 : decode cX13_errand 5 = .ok (.aload_n 0, 1) := by decide +kernel
theorem dX13_errand_6 : decode cX13_errand 6 = .ok (.getfield 321, 3) := by decide +kernel
theorem dX13_errand_9 : decode cX13_errand 9 = .ok (.ifnonnull 9, 3) := by decide +kernel
theorem dX13_errand_12 : decode cX13_errand 12 = .ok (.aload_n 0, 1) := by decide +kernel
theorem dX13_errand_13 : decode cX13_errand 13 = .ok (.iconst 1, 1) := by decide +kernel
theorem dX13_errand_14 : decode cX13_errand 14 = .ok (.invokevirtual 48, 3) := by decide +kernel
