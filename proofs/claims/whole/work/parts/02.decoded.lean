theorem dX13_errand_17 : decode cX13_errand 17 = .ok (.ireturn, 1) := by decide +kernel
theorem dX13_errand_18 : decode cX13_errand 18 = .ok (.aload_n 0, 1) := by decide +kernel
theorem dX13_errand_19 : decode cX13_errand 19 = .ok (.invokevirtual 398, 3) := by decide +kernel
theorem dX13_errand_22 : decode cX13_errand 22 = .ok (.istore_n 1, 1) := by decide +kernel
theorem dX13_errand_23 : decode cX13_errand 23 = .ok (.aload_n 0, 1) := by decide +kernel
theorem dX13_errand_24 : decode cX13_errand 24 = .ok (.iload_n 1, 1) := by decide +kernel
theorem dX13_errand_25 : decode cX13_errand 25 = .ok (.iconst (-1), 1) := by decide +kernel
theorem dX13_errand_26 : decode cX13_errand 26 = .ok (.if_icmp .ne 8, 3) := by decide +kernel
theorem dX13_errand_29 : decode cX13_errand 29 = .ok (.bipush (-2), 2) := by decide +kernel
theorem dX13_errand_31 : decode cX13_errand 31 = .ok (.goto 9, 3) := by decide +kernel
theorem dX13_errand_34 : decode cX13_errand 34 = .ok (.aload_n 0, 1) := by decide +kernel
theorem dX13_errand_35 : decode cX13_errand 35 = .ok (.getfield 30, 3) := by decide +kernel
theorem dX13_errand_38 : decode cX13_errand 38 = .ok (.iload_n 1, 1) := by decide +kernel
theorem dX13_errand_39 : decode cX13_errand 39 = .ok (.iaload, 1) := by decide +kernel
theorem dX13_errand_40 : decode cX13_errand 40 = .ok (.invokevirtual 52, 3) := by decide +kernel
theorem dX13_errand_43 : decode cX13_errand 43 = .ok (.ireturn, 1) := by decide +kernel
theorem dX13_errandAt_0 : decode cX13_errandAt 0 = .ok (.aload_n 0, 1) := by decide +kernel
theorem dX13_errandAt_1 : decode cX13_errandAt 1 = .ok (.iconst 0, 1) := by decide +kernel
theorem dX13_errandAt_2 : decode cX13_errandAt 2 = .ok (.putfield 42, 3) := by decide +kernel
theorem dX13_errandAt_5 : decode cX13_errandAt 5 = .ok (.aload_n 0, 1) := by decide +kernel
theorem dX13_errandAt_6 : decode cX13_errandAt 6 = .ok (.getfield 321, 3) := by decide +kernel
theorem dX13_errandAt_9 : decode cX13_errandAt 9 = .ok (.ifnonnull 9, 3) := by decide +kernel
theorem dX13_errandAt_12 : decode cX13_errandAt 12 = .ok (.aload_n 0, 1) := by decide +kernel
theorem dX13_errandAt_13 : decode cX13_errandAt 13 = .ok (.iconst 1, 1) := by decide +kernel
theorem dX13_errandAt_14 : decode cX13_errandAt 14 = .ok (.invokevirtual 48, 3) := by decide +kernel
theorem dX13_errandAt_17 : decode cX13_errandAt 17 = .ok (.ireturn, 1) := by decide +kernel
theorem dX13_errandAt_18 : decode cX13_errandAt 18 = .ok (.aload_n 0, 1) := by decide +kernel
theorem dX13_errandAt_19 : decode cX13_errandAt 19 = .ok (.invokevirtual 398, 3) := by decide +kernel
theorem dX13_errandAt_22 : decode cX13_errandAt 22 = .ok (.istore_n 2, 1) := by decide +kernel
theorem dX13_errandAt_23 : decode cX13_errandAt 23 = .ok (.iload_n 2, 1) := by decide +kernel
theorem dX13_errandAt_24 : decode cX13_errandAt 24 = .ok (.iconst (-1), 1) := by decide +kernel
theorem dX13_errandAt_25 : decode cX13_errandAt 25 = .ok (.if_icmp .eq 17, 3) := by decide +kernel
theorem dX13_errandAt_28 : decode cX13_errandAt 28 = .ok (.iload_n 1, 1) := by decide +kernel
theorem dX13_errandAt_29 : decode cX13_errandAt 29 = .ok (.ifCond .lt 13, 3) := by decide +kernel
theorem dX13_errandAt_32 : decode cX13_errandAt 32 = .ok (.iload_n 1, 1) := by decide +kernel
theorem dX13_errandAt_33 : decode cX13_errandAt 33 = .ok (.aload_n 0, 1) := by decide +kernel
theorem dX13_errandAt_34 : decode cX13_errandAt 34 = .ok (.getfield 30, 3) := by decide +kernel
theorem dX13_errandAt_37 : decode cX13_errandAt 37 = .ok (.iload_n 2, 1) := by decide +kernel
theorem dX13_errandAt_38 : decode cX13_errandAt 38 = .ok (.iaload, 1) := by decide +kernel
theorem dX13_errandAt_39 : decode cX13_errandAt 39 = .ok (.if_icmp .lt 9, 3) := by decide +kernel
theorem dX13_errandAt_42 : decode cX13_errandAt 42 = .ok (.aload_n 0, 1) := by decide +kernel
theorem dX13_errandAt_43 : decode cX13_errandAt 43 = .ok (.iconst 1, 1) := by decide +kernel
theorem dX13_errandAt_44 : decode cX13_errandAt 44 = .ok (.invokevirtual 48, 3) := by decide +kernel
theorem dX13_errandAt_47 : decode cX13_errandAt 47 = .ok (.ireturn, 1) := by decide +kernel
theorem dX13_errandAt_48 : decode cX13_errandAt 48 = .ok (.aload_n 0, 1) := by decide +kernel
theorem dX13_errandAt_49 : decode cX13_errandAt 49 = .ok (.getfield 30, 3) := by decide +kernel
theorem dX13_errandAt_52 : decode cX13_errandAt 52 = .ok (.iload_n 2, 1) := by decide +kernel
theorem dX13_errandAt_53 : decode cX13_errandAt 53 = .ok (.iaload, 1) := by decide +kernel
theorem dX13_errandAt_54 : decode cX13_errandAt 54 = .ok (.iload_n 1, 1) := by decide +kernel
theorem dX13_errandAt_55 : decode cX13_errandAt 55 = .ok (.iconst 1, 1) := by decide +kernel
theorem dX13_errandAt_56 : decode cX13_errandAt 56 = .ok (.iadd, 1) := by decide +kernel
theorem dX13_errandAt_57 : decode cX13_errandAt 57 = .ok (.if_icmp .le 16, 3) := by decide +kernel
theorem dX13_errandAt_60 : decode cX13_errandAt 60 = .ok (.aload_n 0, 1) := by decide +kernel
theorem dX13_errandAt_61 : decode cX13_errandAt 61 = .ok (.getfield 33, 3) := by decide +kernel
theorem dX13_errandAt_64 : decode cX13_errandAt 64 = .ok (.iload_n 2, 1) := by decide +kernel
theorem dX13_errandAt_65 : decode cX13_errandAt 65 = .ok (.iaload, 1) := by decide +kernel
theorem dX13_errandAt_66 : decode cX13_errandAt 66 = .ok (.bipush 24, 2) := by decide +kernel
theorem dX13_errandAt_68 : decode cX13_errandAt 68 = .ok (.idiv, 1) := by decide +kernel
theorem dX13_errandAt_69 : decode cX13_errandAt 69 = .ok (.istore_n 2, 1) := by decide +kernel
theorem dX13_errandAt_70 : decode cX13_errandAt 70 = .ok (.goto (-22), 3) := by decide +kernel
theorem dX13_errandAt_73 : decode cX13_errandAt 73 = .ok (.aload_n 0, 1) := by decide +kernel
theorem dX13_errandAt_74 : decode cX13_errandAt 74 = .ok (.aload_n 0, 1) := by decide +kernel
theorem dX13_errandAt_75 : decode cX13_errandAt 75 = .ok (.getfield 33, 3) := by decide +kernel
theorem dX13_errandAt_78 : decode cX13_errandAt 78 = .ok (.iload_n 2, 1) := by decide +kernel
theorem dX13_errandAt_79 : decode cX13_errandAt 79 = .ok (.iaload, 1) := by decide +kernel
theorem dX13_errandAt_80 : decode cX13_errandAt 80 = .ok (.bipush 24, 2) := by decide +kernel
theorem dX13_errandAt_82 : decode cX13_errandAt 82 = .ok (.irem, 1) := by decide +kernel
theorem dX13_errandAt_83 : decode cX13_errandAt 83 = .ok (.invokevirtual 52, 3) := by decide +kernel
theorem dX13_errandAt_86 : decode cX13_errandAt 86 = .ok (.ireturn, 1) := by decide +kernel
theorem dX13_met_0 : decode cX13_met 0 = .ok (.aload_n 0, 1) := by decide +kernel
theorem dX13_met_1 : decode cX13_met 1 = .ok (.iconst 0, 1) := by decide +kernel
theorem dX13_met_2 : decode cX13_met 2 = .ok (.putfield 42, 3) := by decide +kernel
theorem dX13_met_5 : decode cX13_met 5 = .ok (.aload_n 0, 1) := by decide +kernel
theorem dX13_met_6 : decode cX13_met 6 = .ok (.getfield 321, 3) := by decide +kernel
theorem dX13_met_9 : decode cX13_met 9 = .ok (.ifnonnull 9, 3) := by decide +kernel
theorem dX13_met_12 : decode cX13_met 12 = .ok (.aload_n 0, 1) := by decide +kernel
theorem dX13_met_13 : decode cX13_met 13 = .ok (.iconst 1, 1) := by decide +kernel
theorem dX13_met_14 : decode cX13_met 14 = .ok (.invokevirtual 48, 3) := by decide +kernel
theorem dX13_met_17 : decode cX13_met 17 = .ok (.ireturn, 1) := by decide +kernel
theorem dX13_met_18 : decode cX13_met 18 = .ok (.aload_n 0, 1) := by decide +kernel
theorem dX13_met_19 : decode cX13_met 19 = .ok (.invokevirtual 348, 3) := by decide +kernel
theorem dX13_met_22 : decode cX13_met 22 = .ok (.aload_n 0, 1) := by decide +kernel
theorem dX13_met_23 : decode cX13_met 23 = .ok (.aload_n 0, 1) := by decide +kernel
theorem dX13_met_24 : decode cX13_met 24 = .ok (.invokevirtual 395, 3) := by decide +kernel
theorem dX13_met_27 : decode cX13_met 27 = .ok (.invokevirtual 52, 3) := by decide +kernel
theorem dX13_met_30 : decode cX13_met 30 = .ok (.ireturn, 1) := by decide +kernel
theorem dX13_refusesMuch_0 : decode cX13_refusesMuch 0 = .ok (.iload_n 1, 1) := by decide +kernel
theorem dX13_refusesMuch_1 : decode cX13_refusesMuch 1 = .ok (.ifCond .ne 7, 3) := by decide +kernel
theorem dX13_refusesMuch_4 : decode cX13_refusesMuch 4 = .ok (.iconst 1, 1) := by decide +kernel
theorem dX13_refusesMuch_5 : decode cX13_refusesMuch 5 = .ok (.goto 19, 3) := by decide +kernel
theorem dX13_refusesMuch_8 : decode cX13_refusesMuch 8 = .ok (.iload_n 2, 1) := by decide +kernel
theorem dX13_refusesMuch_9 : decode cX13_refusesMuch 9 = .ok (.iconst 0, 1) := by decide +kernel
theorem dX13_refusesMuch_10 : decode cX13_refusesMuch 10 = .ok (.sipush 599, 3) := by decide +kernel
theorem dX13_refusesMuch_13 : decode cX13_refusesMuch 13 = .ok (.invokestatic 121, 3) := by decide +kernel
theorem dX13_refusesMuch_16 : decode cX13_refusesMuch 16 = .ok (.ifCond .eq 7, 3) := by decide +kernel
theorem dX13_refusesMuch_19 : decode cX13_refusesMuch 19 = .ok (.iconst 0, 1) := by decide +kernel
theorem dX13_refusesMuch_20 : decode cX13_refusesMuch 20 = .ok (.goto 4, 3) := by decide +kernel
theorem dX13_refusesMuch_23 : decode cX13_refusesMuch 23 = .ok (.iconst 2, 1) := by decide +kernel
theorem dX13_refusesMuch_24 : decode cX13_refusesMuch 24 = .ok (.ireturn, 1) := by decide +kernel
theorem dX13_movesFor_0 : decode cX13_movesFor 0 = .ok (.aload_n 0, 1) := by decide +kernel
theorem dX13_movesFor_1 : decode cX13_movesFor 1 = .ok (.iconst 0, 1) := by decide +kernel
theorem dX13_movesFor_2 : decode cX13_movesFor 2 = .ok (.putfield 42, 3) := by decide +kernel
theorem dX13_movesFor_5 : decode cX13_movesFor 5 = .ok (.aload_n 0, 1) := by decide +kernel
theorem dX13_movesFor_6 : decode cX13_movesFor 6 = .ok (.aload_n 0, 1) := by decide +kernel
theorem dX13_movesFor_7 : decode cX13_movesFor 7 = .ok (.iload_n 1, 1) := by decide +kernel
theorem dX13_movesFor_8 : decode cX13_movesFor 8 = .ok (.invokevirtual 351, 3) := by decide +kernel
theorem dX13_movesFor_11 : decode cX13_movesFor 11 = .ok (.iload_n 2, 1) := by decide +kernel
theorem dX13_movesFor_12 : decode cX13_movesFor 12 = .ok (.invokevirtual 401, 3) := by decide +kernel
theorem dX13_movesFor_15 : decode cX13_movesFor 15 = .ok (.istore_n 3, 1) := by decide +kernel
theorem dX13_movesFor_16 : decode cX13_movesFor 16 = .ok (.iload_n 3, 1) := by decide +kernel
theorem dX13_movesFor_17 : decode cX13_movesFor 17 = .ok (.ifCond .le 9, 3) := by decide +kernel
theorem dX13_movesFor_20 : decode cX13_movesFor 20 = .ok (.aload_n 0, 1) := by decide +kernel
theorem dX13_movesFor_21 : decode cX13_movesFor 21 = .ok (.iload_n 3, 1) := by decide +kernel
theorem dX13_movesFor_22 : decode cX13_movesFor 22 = .ok (.invokevirtual 48, 3) := by decide +kernel
theorem dX13_movesFor_25 : decode cX13_movesFor 25 = .ok (.ireturn, 1) := by decide +kernel
theorem dX13_movesFor_26 : decode cX13_movesFor 26 = .ok (.aload_n 0, 1) := by decide +kernel
theorem dX13_movesFor_27 : decode cX13_movesFor 27 = .ok (.invokevirtual 392, 3) := by decide +kernel
theorem dX13_movesFor_30 : decode cX13_movesFor 30 = .ok (.iconst 0, 1) := by decide +kernel
theorem dX13_movesFor_31 : decode cX13_movesFor 31 = .ok (.istore 4, 2) := by decide +kernel
theorem dX13_movesFor_33 : decode cX13_movesFor 33 = .ok (.iload 4, 2) := by decide +kernel
theorem dX13_movesFor_35 : decode cX13_movesFor 35 = .ok (.aload_n 0, 1) := by decide +kernel
theorem dX13_movesFor_36 : decode cX13_movesFor 36 = .ok (.getfield 380, 3) := by decide +kernel
theorem dX13_movesFor_39 : decode cX13_movesFor 39 = .ok (.if_icmp .ge 46, 3) := by decide +kernel
theorem dX13_movesFor_42 : decode cX13_movesFor 42 = .ok (.aload_n 0, 1) := by decide +kernel
theorem dX13_movesFor_43 : decode cX13_movesFor 43 = .ok (.aload_n 0, 1) := by decide +kernel
theorem dX13_movesFor_44 : decode cX13_movesFor 44 = .ok (.getfield 36, 3) := by decide +kernel
theorem dX13_movesFor_47 : decode cX13_movesFor 47 = .ok (.iload 4, 2) := by decide +kernel
theorem dX13_movesFor_49 : decode cX13_movesFor 49 = .ok (.iaload, 1) := by decide +kernel
theorem dX13_movesFor_50 : decode cX13_movesFor 50 = .ok (.invokevirtual 383, 3) := by decide +kernel
theorem dX13_movesFor_53 : decode cX13_movesFor 53 = .ok (.aload_n 0, 1) := by decide +kernel
theorem dX13_movesFor_54 : decode cX13_movesFor 54 = .ok (.iload_n 1, 1) := by decide +kernel
theorem dX13_movesFor_55 : decode cX13_movesFor 55 = .ok (.invokevirtual 354, 3) := by decide +kernel
theorem dX13_movesFor_58 : decode cX13_movesFor 58 = .ok (.iload_n 2, 1) := by decide +kernel
theorem dX13_movesFor_59 : decode cX13_movesFor 59 = .ok (.if_icmp .lt 20, 3) := by decide +kernel
theorem dX13_movesFor_62 : decode cX13_movesFor 62 = .ok (.aload_n 0, 1) := by decide +kernel
theorem dX13_movesFor_63 : decode cX13_movesFor 63 = .ok (.aload_n 0, 1) := by decide +kernel
theorem dX13_movesFor_64 : decode cX13_movesFor 64 = .ok (.getfield 30, 3) := by decide +kernel
theorem dX13_movesFor_67 : decode cX13_movesFor 67 = .ok (.aload_n 0, 1) := by decide +kernel
theorem dX13_movesFor_68 : decode cX13_movesFor 68 = .ok (.getfield 36, 3) := by decide +kernel
theorem dX13_movesFor_71 : decode cX13_movesFor 71 = .ok (.iload 4, 2) := by decide +kernel
theorem dX13_movesFor_73 : decode cX13_movesFor 73 = .ok (.iaload, 1) := by decide +kernel
theorem dX13_movesFor_74 : decode cX13_movesFor 74 = .ok (.iaload, 1) := by decide +kernel
theorem dX13_movesFor_75 : decode cX13_movesFor 75 = .ok (.invokevirtual 52, 3) := by decide +kernel
theorem dX13_movesFor_78 : decode cX13_movesFor 78 = .ok (.ireturn, 1) := by decide +kernel
theorem dX13_movesFor_79 : decode cX13_movesFor 79 = .ok (.iinc 4 1, 3) := by decide +kernel
theorem dX13_movesFor_82 : decode cX13_movesFor 82 = .ok (.goto (-49), 3) := by decide +kernel
theorem dX13_movesFor_85 : decode cX13_movesFor 85 = .ok (.aload_n 0, 1) := by decide +kernel
theorem dX13_movesFor_86 : decode cX13_movesFor 86 = .ok (.bipush (-2), 2) := by decide +kernel
theorem dX13_movesFor_88 : decode cX13_movesFor 88 = .ok (.invokevirtual 52, 3) := by decide +kernel
theorem dX13_movesFor_91 : decode cX13_movesFor 91 = .ok (.ireturn, 1) := by decide +kernel
theorem dX13_mostBy_0 : decode cX13_mostBy 0 = .ok (.aload_n 0, 1) := by decide +kernel
theorem dX13_mostBy_1 : decode cX13_mostBy 1 = .ok (.iconst 0, 1) := by decide +kernel
theorem dX13_mostBy_2 : decode cX13_mostBy 2 = .ok (.putfield 42, 3) := by decide +kernel
theorem dX13_mostBy_5 : decode cX13_mostBy 5 = .ok (.aload_n 0, 1) := by decide +kernel
theorem dX13_mostBy_6 : decode cX13_mostBy 6 = .ok (.iload_n 1, 1) := by decide +kernel
theorem dX13_mostBy_7 : decode cX13_mostBy 7 = .ok (.invokevirtual 351, 3) := by decide +kernel
theorem dX13_mostBy_10 : decode cX13_mostBy 10 = .ok (.ifCond .ne 9, 3) := by decide +kernel
theorem dX13_mostBy_13 : decode cX13_mostBy 13 = .ok (.aload_n 0, 1) := by decide +kernel
theorem dX13_mostBy_14 : decode cX13_mostBy 14 = .ok (.iconst 1, 1) := by decide +kernel
theorem dX13_mostBy_15 : decode cX13_mostBy 15 = .ok (.invokevirtual 48, 3) := by decide +kernel
theorem dX13_mostBy_18 : decode cX13_mostBy 18 = .ok (.ireturn, 1) := by decide +kernel
theorem dX13_mostBy_19 : decode cX13_mostBy 19 = .ok (.iload_n 2, 1) := by decide +kernel
theorem dX13_mostBy_20 : decode cX13_mostBy 20 = .ok (.iconst 0, 1) := by decide +kernel
theorem dX13_mostBy_21 : decode cX13_mostBy 21 = .ok (.bipush 20, 2) := by decide +kernel
theorem dX13_mostBy_23 : decode cX13_mostBy 23 = .ok (.invokestatic 121, 3) := by decide +kernel
theorem dX13_mostBy_26 : decode cX13_mostBy 26 = .ok (.ifCond .ne 9, 3) := by decide +kernel
theorem dX13_mostBy_29 : decode cX13_mostBy 29 = .ok (.aload_n 0, 1) := by decide +kernel
theorem dX13_mostBy_30 : decode cX13_mostBy 30 = .ok (.iconst 2, 1) := by decide +kernel
theorem dX13_mostBy_31 : decode cX13_mostBy 31 = .ok (.invokevirtual 48, 3) := by decide +kernel
theorem dX13_mostBy_34 : decode cX13_mostBy 34 = .ok (.ireturn, 1) := by decide +kernel
theorem dX13_mostBy_35 : decode cX13_mostBy 35 = .ok (.aload_n 0, 1) := by decide +kernel
theorem dX13_mostBy_36 : decode cX13_mostBy 36 = .ok (.invokevirtual 392, 3) := by decide +kernel
theorem dX13_mostBy_39 : decode cX13_mostBy 39 = .ok (.iconst 0, 1) := by decide +kernel
theorem dX13_mostBy_40 : decode cX13_mostBy 40 = .ok (.istore_n 3, 1) := by decide +kernel
theorem dX13_mostBy_41 : decode cX13_mostBy 41 = .ok (.iconst 0, 1) := by decide +kernel
theorem dX13_mostBy_42 : decode cX13_mostBy 42 = .ok (.istore 4, 2) := by decide +kernel
theorem dX13_mostBy_44 : decode cX13_mostBy 44 = .ok (.iload 4, 2) := by decide +kernel
theorem dX13_mostBy_46 : decode cX13_mostBy 46 = .ok (.aload_n 0, 1) := by decide +kernel
theorem dX13_mostBy_47 : decode cX13_mostBy 47 = .ok (.getfield 380, 3) := by decide +kernel
theorem dX13_mostBy_50 : decode cX13_mostBy 50 = .ok (.if_icmp .ge 54, 3) := by decide +kernel
theorem dX13_mostBy_53 : decode cX13_mostBy 53 = .ok (.aload_n 0, 1) := by decide +kernel
theorem dX13_mostBy_54 : decode cX13_mostBy 54 = .ok (.getfield 30, 3) := by decide +kernel
theorem dX13_mostBy_57 : decode cX13_mostBy 57 = .ok (.aload_n 0, 1) := by decide +kernel
theorem dX13_mostBy_58 : decode cX13_mostBy 58 = .ok (.getfield 36, 3) := by decide +kernel
theorem dX13_mostBy_61 : decode cX13_mostBy 61 = .ok (.iload 4, 2) := by decide +kernel
theorem dX13_mostBy_63 : decode cX13_mostBy 63 = .ok (.iaload, 1) := by decide +kernel
theorem dX13_mostBy_64 : decode cX13_mostBy 64 = .ok (.iaload, 1) := by decide +kernel
theorem dX13_mostBy_65 : decode cX13_mostBy 65 = .ok (.iload_n 2, 1) := by decide +kernel
theorem dX13_mostBy_66 : decode cX13_mostBy 66 = .ok (.if_icmp .le 6, 3) := by decide +kernel
theorem dX13_mostBy_69 : decode cX13_mostBy 69 = .ok (.goto 35, 3) := by decide +kernel
theorem dX13_mostBy_72 : decode cX13_mostBy 72 = .ok (.aload_n 0, 1) := by decide +kernel
theorem dX13_mostBy_73 : decode cX13_mostBy 73 = .ok (.aload_n 0, 1) := by decide +kernel
theorem dX13_mostBy_74 : decode cX13_mostBy 74 = .ok (.getfield 36, 3) := by decide +kernel
theorem dX13_mostBy_77 : decode cX13_mostBy 77 = .ok (.iload 4, 2) := by decide +kernel
theorem dX13_mostBy_79 : decode cX13_mostBy 79 = .ok (.iaload, 1) := by decide +kernel
theorem dX13_mostBy_80 : decode cX13_mostBy 80 = .ok (.invokevirtual 383, 3) := by decide +kernel
theorem dX13_mostBy_83 : decode cX13_mostBy 83 = .ok (.aload_n 0, 1) := by decide +kernel
theorem dX13_mostBy_84 : decode cX13_mostBy 84 = .ok (.iload_n 1, 1) := by decide +kernel
theorem dX13_mostBy_85 : decode cX13_mostBy 85 = .ok (.invokevirtual 354, 3) := by decide +kernel
theorem dX13_mostBy_88 : decode cX13_mostBy 88 = .ok (.iload_n 3, 1) := by decide +kernel
theorem dX13_mostBy_89 : decode cX13_mostBy 89 = .ok (.if_icmp .le 9, 3) := by decide +kernel
theorem dX13_mostBy_92 : decode cX13_mostBy 92 = .ok (.aload_n 0, 1) := by decide +kernel
theorem dX13_mostBy_93 : decode cX13_mostBy 93 = .ok (.iload_n 1, 1) := by decide +kernel
theorem dX13_mostBy_94 : decode cX13_mostBy 94 = .ok (.invokevirtual 354, 3) := by decide +kernel
theorem dX13_mostBy_97 : decode cX13_mostBy 97 = .ok (.istore_n 3, 1) := by decide +kernel
theorem dX13_mostBy_98 : decode cX13_mostBy 98 = .ok (.iinc 4 1, 3) := by decide +kernel
theorem dX13_mostBy_101 : decode cX13_mostBy 101 = .ok (.goto (-57), 3) := by decide +kernel
theorem dX13_mostBy_104 : decode cX13_mostBy 104 = .ok (.aload_n 0, 1) := by decide +kernel
theorem dX13_mostBy_105 : decode cX13_mostBy 105 = .ok (.iload_n 3, 1) := by decide +kernel
theorem dX13_mostBy_106 : decode cX13_mostBy 106 = .ok (.invokevirtual 52, 3) := by decide +kernel
theorem dX13_mostBy_109 : decode cX13_mostBy 109 = .ok (.ireturn, 1) := by decide +kernel
theorem dX13_reach_0 : decode cX13_reach 0 = .ok (.aload_n 0, 1) := by decide +kernel
theorem dX13_reach_1 : decode cX13_reach 1 = .ok (.iconst 0, 1) := by decide +kernel
theorem dX13_reach_2 : decode cX13_reach 2 = .ok (.putfield 42, 3) := by decide +kernel
theorem dX13_reach_5 : decode cX13_reach 5 = .ok (.aload_n 0, 1) := by decide +kernel
theorem dX13_reach_6 : decode cX13_reach 6 = .ok (.getfield 321, 3) := by decide +kernel
theorem dX13_reach_9 : decode cX13_reach 9 = .ok (.ifnonnull 9, 3) := by decide +kernel
theorem dX13_reach_12 : decode cX13_reach 12 = .ok (.aload_n 0, 1) := by decide +kernel
theorem dX13_reach_13 : decode cX13_reach 13 = .ok (.iconst 1, 1) := by decide +kernel
theorem dX13_reach_14 : decode cX13_reach 14 = .ok (.invokevirtual 48, 3) := by decide +kernel
theorem dX13_reach_17 : decode cX13_reach 17 = .ok (.ireturn, 1) := by decide +kernel
theorem dX13_reach_18 : decode cX13_reach 18 = .ok (.aload_n 0, 1) := by decide +kernel
theorem dX13_reach_19 : decode cX13_reach 19 = .ok (.invokevirtual 392, 3) := by decide +kernel
theorem dX13_reach_22 : decode cX13_reach 22 = .ok (.aload_n 0, 1) := by decide +kernel
theorem dX13_reach_23 : decode cX13_reach 23 = .ok (.aload_n 0, 1) := by decide +kernel
theorem dX13_reach_24 : decode cX13_reach 24 = .ok (.getfield 380, 3) := by decide +kernel
theorem dX13_reach_27 : decode cX13_reach 27 = .ok (.invokevirtual 52, 3) := by decide +kernel
theorem dX13_reach_30 : decode cX13_reach 30 = .ok (.ireturn, 1) := by decide +kernel
theorem dX13_may_0 : decode cX13_may 0 = .ok (.aload_n 0, 1) := by decide +kernel
theorem dX13_may_1 : decode cX13_may 1 = .ok (.iload_n 1, 1) := by decide +kernel
theorem dX13_may_2 : decode cX13_may 2 = .ok (.invokevirtual 383, 3) := by decide +kernel
theorem dX13_may_5 : decode cX13_may 5 = .ok (.iconst 0, 1) := by decide +kernel
theorem dX13_may_6 : decode cX13_may 6 = .ok (.istore_n 2, 1) := by decide +kernel
theorem dX13_may_7 : decode cX13_may 7 = .ok (.iload_n 2, 1) := by decide +kernel
theorem dX13_may_8 : decode cX13_may 8 = .ok (.aload_n 0, 1) := by decide +kernel
theorem dX13_may_9 : decode cX13_may 9 = .ok (.getfield 321, 3) := by decide +kernel
theorem dX13_may_12 : decode cX13_may 12 = .ok (.getfield 191, 3) := by decide +kernel
theorem dX13_may_15 : decode cX13_may 15 = .ok (.if_icmp .ge 39, 3) := by decide +kernel
theorem dX13_may_18 : decode cX13_may 18 = .ok (.aload_n 0, 1) := by decide +kernel
theorem dX13_may_19 : decode cX13_may 19 = .ok (.getfield 321, 3) := by decide +kernel
theorem dX13_may_22 : decode cX13_may 22 = .ok (.getfield 275, 3) := by decide +kernel
theorem dX13_may_25 : decode cX13_may 25 = .ok (.iload_n 2, 1) := by decide +kernel
theorem dX13_may_26 : decode cX13_may 26 = .ok (.iaload, 1) := by decide +kernel
theorem dX13_may_27 : decode cX13_may 27 = .ok (.iconst 2, 1) := by decide +kernel
theorem dX13_may_28 : decode cX13_may 28 = .ok (.if_icmp .ne 20, 3) := by decide +kernel
theorem dX13_may_31 : decode cX13_may 31 = .ok (.aload_n 0, 1) := by decide +kernel
theorem dX13_may_32 : decode cX13_may 32 = .ok (.getfield 21, 3) := by decide +kernel
theorem dX13_may_35 : decode cX13_may 35 = .ok (.iload_n 2, 1) := by decide +kernel
theorem dX13_may_36 : decode cX13_may 36 = .ok (.iaload, 1) := by decide +kernel
theorem dX13_may_37 : decode cX13_may 37 = .ok (.aload_n 0, 1) := by decide +kernel
theorem dX13_may_38 : decode cX13_may 38 = .ok (.getfield 17, 3) := by decide +kernel
theorem dX13_may_41 : decode cX13_may 41 = .ok (.iload_n 2, 1) := by decide +kernel
theorem dX13_may_42 : decode cX13_may 42 = .ok (.iaload, 1) := by decide +kernel
theorem dX13_may_43 : decode cX13_may 43 = .ok (.if_icmp .eq 5, 3) := by decide +kernel
theorem dX13_may_46 : decode cX13_may 46 = .ok (.iconst 0, 1) := by decide +kernel
theorem dX13_may_47 : decode cX13_may 47 = .ok (.ireturn, 1) := by decide +kernel
theorem dX13_may_48 : decode cX13_may 48 = .ok (.iinc 2 1, 3) := by decide +kernel
theorem dX13_may_51 : decode cX13_may 51 = .ok (.goto (-44), 3) := by decide +kernel
theorem dX13_may_54 : decode cX13_may 54 = .ok (.aload_n 0, 1) := by decide +kernel
theorem dX13_may_55 : decode cX13_may 55 = .ok (.invokevirtual 369, 3) := by decide +kernel
theorem dX13_may_58 : decode cX13_may 58 = .ok (.aload_n 0, 1) := by decide +kernel
theorem dX13_may_59 : decode cX13_may 59 = .ok (.invokevirtual 372, 3) := by decide +kernel
theorem dX13_may_62 : decode cX13_may 62 = .ok (.if_icmp .gt 7, 3) := by decide +kernel
theorem dX13_may_65 : decode cX13_may 65 = .ok (.iconst 1, 1) := by decide +kernel
theorem dX13_may_66 : decode cX13_may 66 = .ok (.goto 4, 3) := by decide +kernel
theorem dX13_may_69 : decode cX13_may 69 = .ok (.iconst 0, 1) := by decide +kernel
theorem dX13_may_70 : decode cX13_may 70 = .ok (.ireturn, 1) := by decide +kernel
theorem dX13_least_0 : decode cX13_least 0 = .ok (.sipush 9999, 3) := by decide +kernel
theorem dX13_least_3 : decode cX13_least 3 = .ok (.istore_n 1, 1) := by decide +kernel
theorem dX13_least_4 : decode cX13_least 4 = .ok (.iconst 0, 1) := by decide +kernel
theorem dX13_least_5 : decode cX13_least 5 = .ok (.istore_n 2, 1) := by decide +kernel
theorem dX13_least_6 : decode cX13_least 6 = .ok (.iload_n 2, 1) := by decide +kernel
theorem dX13_least_7 : decode cX13_least 7 = .ok (.aload_n 0, 1) := by decide +kernel
theorem dX13_least_8 : decode cX13_least 8 = .ok (.getfield 321, 3) := by decide +kernel
theorem dX13_least_11 : decode cX13_least 11 = .ok (.getfield 229, 3) := by decide +kernel
theorem dX13_least_14 : decode cX13_least 14 = .ok (.if_icmp .ge 24, 3) := by decide +kernel
theorem dX13_least_17 : decode cX13_least 17 = .ok (.aload_n 0, 1) := by decide +kernel
theorem dX13_least_18 : decode cX13_least 18 = .ok (.iload_n 2, 1) := by decide +kernel
theorem dX13_least_19 : decode cX13_least 19 = .ok (.invokevirtual 354, 3) := by decide +kernel
theorem dX13_least_22 : decode cX13_least 22 = .ok (.iload_n 1, 1) := by decide +kernel
theorem dX13_least_23 : decode cX13_least 23 = .ok (.if_icmp .ge 9, 3) := by decide +kernel
theorem dX13_least_26 : decode cX13_least 26 = .ok (.aload_n 0, 1) := by decide +kernel
theorem dX13_least_27 : decode cX13_least 27 = .ok (.iload_n 2, 1) := by decide +kernel
theorem dX13_least_28 : decode cX13_least 28 = .ok (.invokevirtual 354, 3) := by decide +kernel
theorem dX13_least_31 : decode cX13_least 31 = .ok (.istore_n 1, 1) := by decide +kernel
theorem dX13_least_32 : decode cX13_least 32 = .ok (.iinc 2 1, 3) := by decide +kernel
theorem dX13_least_35 : decode cX13_least 35 = .ok (.goto (-29), 3) := by decide +kernel
theorem dX13_least_38 : decode cX13_least 38 = .ok (.aload_n 0, 1) := by decide +kernel
theorem dX13_least_39 : decode cX13_least 39 = .ok (.getfield 321, 3) := by decide +kernel
theorem dX13_least_42 : decode cX13_least 42 = .ok (.getfield 229, 3) := by decide +kernel
theorem dX13_least_45 : decode cX13_least 45 = .ok (.ifCond .ne 7, 3) := by decide +kernel
theorem dX13_least_48 : decode cX13_least 48 = .ok (.iconst 0, 1) := by decide +kernel
theorem dX13_least_49 : decode cX13_least 49 = .ok (.goto 4, 3) := by decide +kernel
theorem dX13_least_52 : decode cX13_least 52 = .ok (.iload_n 1, 1) := by decide +kernel
theorem dX13_least_53 : decode cX13_least 53 = .ok (.ireturn, 1) := by decide +kernel
theorem dX13_coverWay_0 : decode cX13_coverWay 0 = .ok (.iconst (-1), 1) := by decide +kernel
theorem dX13_coverWay_1 : decode cX13_coverWay 1 = .ok (.istore_n 1, 1) := by decide +kernel
theorem dX13_coverWay_2 : decode cX13_coverWay 2 = .ok (.bipush 7, 2) := by decide +kernel
theorem dX13_coverWay_4 : decode cX13_coverWay 4 = .ok (.istore_n 2, 1) := by decide +kernel
theorem dX13_coverWay_5 : decode cX13_coverWay 5 = .ok (.iconst 0, 1) := by decide +kernel
theorem dX13_coverWay_6 : decode cX13_coverWay 6 = .ok (.istore_n 3, 1) := by decide +kernel
theorem dX13_coverWay_7 : decode cX13_coverWay 7 = .ok (.iload_n 3, 1) := by decide +kernel
theorem dX13_coverWay_8 : decode cX13_coverWay 8 = .ok (.aload_n 0, 1) := by decide +kernel
theorem dX13_coverWay_9 : decode cX13_coverWay 9 = .ok (.invokevirtual 405, 3) := by decide +kernel
theorem dX13_coverWay_12 : decode cX13_coverWay 12 = .ok (.if_icmp .ge 52, 3) := by decide +kernel
theorem dX13_coverWay_15 : decode cX13_coverWay 15 = .ok (.aload_n 0, 1) := by decide +kernel
theorem dX13_coverWay_16 : decode cX13_coverWay 16 = .ok (.iload_n 3, 1) := by decide +kernel
theorem dX13_coverWay_17 : decode cX13_coverWay 17 = .ok (.invokevirtual 408, 3) := by decide +kernel
theorem dX13_coverWay_20 : decode cX13_coverWay 20 = .ok (.ifCond .eq 38, 3) := by decide +kernel
theorem dX13_coverWay_23 : decode cX13_coverWay 23 = .ok (.aload_n 0, 1) := by decide +kernel
theorem dX13_coverWay_24 : decode cX13_coverWay 24 = .ok (.invokevirtual 369, 3) := by decide +kernel
theorem dX13_coverWay_27 : decode cX13_coverWay 27 = .ok (.iload_n 2, 1) := by decide +kernel
theorem dX13_coverWay_28 : decode cX13_coverWay 28 = .ok (.if_icmp .ge 30, 3) := by decide +kernel
theorem dX13_coverWay_31 : decode cX13_coverWay 31 = .ok (.aload_n 0, 1) := by decide +kernel
theorem dX13_coverWay_32 : decode cX13_coverWay 32 = .ok (.getfield 321, 3) := by decide +kernel
theorem dX13_coverWay_35 : decode cX13_coverWay 35 = .ok (.getfield 229, 3) := by decide +kernel
theorem dX13_coverWay_38 : decode cX13_coverWay 38 = .ok (.ifCond .le 13, 3) := by decide +kernel
theorem dX13_coverWay_41 : decode cX13_coverWay 41 = .ok (.aload_n 0, 1) := by decide +kernel
theorem dX13_coverWay_42 : decode cX13_coverWay 42 = .ok (.invokevirtual 411, 3) := by decide +kernel
theorem dX13_coverWay_45 : decode cX13_coverWay 45 = .ok (.ifCond .ne 6, 3) := by decide +kernel
theorem dX13_coverWay_48 : decode cX13_coverWay 48 = .ok (.goto 10, 3) := by decide +kernel
theorem dX13_coverWay_51 : decode cX13_coverWay 51 = .ok (.aload_n 0, 1) := by decide +kernel
theorem dX13_coverWay_52 : decode cX13_coverWay 52 = .ok (.invokevirtual 369, 3) := by decide +kernel
theorem dX13_coverWay_55 : decode cX13_coverWay 55 = .ok (.istore_n 2, 1) := by decide +kernel
theorem dX13_coverWay_56 : decode cX13_coverWay 56 = .ok (.iload_n 3, 1) := by decide +kernel
theorem dX13_coverWay_57 : decode cX13_coverWay 57 = .ok (.istore_n 1, 1) := by decide +kernel
theorem dX13_coverWay_58 : decode cX13_coverWay 58 = .ok (.iinc 3 1, 3) := by decide +kernel
theorem dX13_coverWay_61 : decode cX13_coverWay 61 = .ok (.goto (-54), 3) := by decide +kernel
theorem dX13_coverWay_64 : decode cX13_coverWay 64 = .ok (.iload_n 1, 1) := by decide +kernel
theorem dX13_coverWay_65 : decode cX13_coverWay 65 = .ok (.ireturn, 1) := by decide +kernel
theorem dX13_cover_0 : decode cX13_cover 0 = .ok (.aload_n 0, 1) := by decide +kernel
theorem dX13_cover_1 : decode cX13_cover 1 = .ok (.iconst 0, 1) := by decide +kernel
theorem dX13_cover_2 : decode cX13_cover 2 = .ok (.putfield 42, 3) := by decide +kernel
theorem dX13_cover_5 : decode cX13_cover 5 = .ok (.aload_n 0, 1) := by decide +kernel
theorem dX13_cover_6 : decode cX13_cover 6 = .ok (.getfield 321, 3) := by decide +kernel
theorem dX13_cover_9 : decode cX13_cover 9 = .ok (.ifnonnull 9, 3) := by decide +kernel
theorem dX13_cover_12 : decode cX13_cover 12 = .ok (.aload_n 0, 1) := by decide +kernel
theorem dX13_cover_13 : decode cX13_cover 13 = .ok (.iconst 1, 1) := by decide +kernel
theorem dX13_cover_14 : decode cX13_cover 14 = .ok (.invokevirtual 48, 3) := by decide +kernel
theorem dX13_cover_17 : decode cX13_cover 17 = .ok (.ireturn, 1) := by decide +kernel
theorem dX13_cover_18 : decode cX13_cover 18 = .ok (.aload_n 0, 1) := by decide +kernel
theorem dX13_cover_19 : decode cX13_cover 19 = .ok (.invokevirtual 414, 3) := by decide +kernel
theorem dX13_cover_22 : decode cX13_cover 22 = .ok (.istore_n 1, 1) := by decide +kernel
theorem dX13_cover_23 : decode cX13_cover 23 = .ok (.iload_n 1, 1) := by decide +kernel
theorem dX13_cover_24 : decode cX13_cover 24 = .ok (.iconst (-1), 1) := by decide +kernel
theorem dX13_cover_25 : decode cX13_cover 25 = .ok (.if_icmp .ne 10, 3) := by decide +kernel
theorem dX13_cover_28 : decode cX13_cover 28 = .ok (.aload_n 0, 1) := by decide +kernel
theorem dX13_cover_29 : decode cX13_cover 29 = .ok (.bipush (-2), 2) := by decide +kernel
theorem dX13_cover_31 : decode cX13_cover 31 = .ok (.invokevirtual 52, 3) := by decide +kernel
theorem dX13_cover_34 : decode cX13_cover 34 = .ok (.ireturn, 1) := by decide +kernel
theorem dX13_cover_35 : decode cX13_cover 35 = .ok (.aload_n 0, 1) := by decide +kernel
theorem dX13_cover_36 : decode cX13_cover 36 = .ok (.iload_n 1, 1) := by decide +kernel
theorem dX13_cover_37 : decode cX13_cover 37 = .ok (.invokevirtual 383, 3) := by decide +kernel
theorem dX13_cover_40 : decode cX13_cover 40 = .ok (.aload_n 0, 1) := by decide +kernel
theorem dX13_cover_41 : decode cX13_cover 41 = .ok (.aload_n 0, 1) := by decide +kernel
theorem dX13_cover_42 : decode cX13_cover 42 = .ok (.invokevirtual 369, 3) := by decide +kernel
theorem dX13_cover_45 : decode cX13_cover 45 = .ok (.invokevirtual 52, 3) := by decide +kernel
theorem dX13_cover_48 : decode cX13_cover 48 = .ok (.ireturn, 1) := by decide +kernel
theorem dX13_coverAt_0 : decode cX13_coverAt 0 = .ok (.aload_n 0, 1) := by decide +kernel
theorem dX13_coverAt_1 : decode cX13_coverAt 1 = .ok (.iconst 0, 1) := by decide +kernel
theorem dX13_coverAt_2 : decode cX13_coverAt 2 = .ok (.putfield 42, 3) := by decide +kernel
theorem dX13_coverAt_5 : decode cX13_coverAt 5 = .ok (.aload_n 0, 1) := by decide +kernel
theorem dX13_coverAt_6 : decode cX13_coverAt 6 = .ok (.iload_n 1, 1) := by decide +kernel
theorem dX13_coverAt_7 : decode cX13_coverAt 7 = .ok (.invokevirtual 345, 3) := by decide +kernel
theorem dX13_coverAt_10 : decode cX13_coverAt 10 = .ok (.ifCond .ne 9, 3) := by decide +kernel
theorem dX13_coverAt_13 : decode cX13_coverAt 13 = .ok (.aload_n 0, 1) := by decide +kernel
theorem dX13_coverAt_14 : decode cX13_coverAt 14 = .ok (.iconst 1, 1) := by decide +kernel
theorem dX13_coverAt_15 : decode cX13_coverAt 15 = .ok (.invokevirtual 48, 3) := by decide +kernel
theorem dX13_coverAt_18 : decode cX13_coverAt 18 = .ok (.ireturn, 1) := by decide +kernel
theorem dX13_coverAt_19 : decode cX13_coverAt 19 = .ok (.aload_n 0, 1) := by decide +kernel
theorem dX13_coverAt_20 : decode cX13_coverAt 20 = .ok (.invokevirtual 414, 3) := by decide +kernel
theorem dX13_coverAt_23 : decode cX13_coverAt 23 = .ok (.istore_n 2, 1) := by decide +kernel
theorem dX13_coverAt_24 : decode cX13_coverAt 24 = .ok (.iload_n 2, 1) := by decide +kernel
theorem dX13_coverAt_25 : decode cX13_coverAt 25 = .ok (.iconst (-1), 1) := by decide +kernel
theorem dX13_coverAt_26 : decode cX13_coverAt 26 = .ok (.if_icmp .ne 10, 3) := by decide +kernel
theorem dX13_coverAt_29 : decode cX13_coverAt 29 = .ok (.aload_n 0, 1) := by decide +kernel
theorem dX13_coverAt_30 : decode cX13_coverAt 30 = .ok (.bipush (-2), 2) := by decide +kernel
theorem dX13_coverAt_32 : decode cX13_coverAt 32 = .ok (.invokevirtual 52, 3) := by decide +kernel
theorem dX13_coverAt_35 : decode cX13_coverAt 35 = .ok (.ireturn, 1) := by decide +kernel
theorem dX13_coverAt_36 : decode cX13_coverAt 36 = .ok (.aload_n 0, 1) := by decide +kernel
theorem dX13_coverAt_37 : decode cX13_coverAt 37 = .ok (.iload_n 2, 1) := by decide +kernel
theorem dX13_coverAt_38 : decode cX13_coverAt 38 = .ok (.invokevirtual 383, 3) := by decide +kernel
theorem dX13_coverAt_41 : decode cX13_coverAt 41 = .ok (.aload_n 0, 1) := by decide +kernel
theorem dX13_coverAt_42 : decode cX13_coverAt 42 = .ok (.aload_n 0, 1) := by decide +kernel
theorem dX13_coverAt_43 : decode cX13_coverAt 43 = .ok (.getfield 21, 3) := by decide +kernel
theorem dX13_coverAt_46 : decode cX13_coverAt 46 = .ok (.iload_n 1, 1) := by decide +kernel
theorem dX13_coverAt_47 : decode cX13_coverAt 47 = .ok (.iaload, 1) := by decide +kernel
theorem dX13_coverAt_48 : decode cX13_coverAt 48 = .ok (.invokevirtual 52, 3) := by decide +kernel
theorem dX13_coverAt_51 : decode cX13_coverAt 51 = .ok (.ireturn, 1) := by decide +kernel
theorem dX13_isCalm_0 : decode cX13_isCalm 0 = .ok (.iconst 0, 1) := by decide +kernel
theorem dX13_isCalm_1 : decode cX13_isCalm 1 = .ok (.istore_n 1, 1) := by decide +kernel
theorem dX13_isCalm_2 : decode cX13_isCalm 2 = .ok (.iload_n 1, 1) := by decide +kernel
theorem dX13_isCalm_3 : decode cX13_isCalm 3 = .ok (.aload_n 0, 1) := by decide +kernel
theorem dX13_isCalm_4 : decode cX13_isCalm 4 = .ok (.getfield 321, 3) := by decide +kernel
theorem dX13_isCalm_7 : decode cX13_isCalm 7 = .ok (.getfield 191, 3) := by decide +kernel
theorem dX13_isCalm_10 : decode cX13_isCalm 10 = .ok (.if_icmp .ge 112, 3) := by decide +kernel
theorem dX13_isCalm_13 : decode cX13_isCalm 13 = .ok (.aload_n 0, 1) := by decide +kernel
theorem dX13_isCalm_14 : decode cX13_isCalm 14 = .ok (.getfield 321, 3) := by decide +kernel
theorem dX13_isCalm_17 : decode cX13_isCalm 17 = .ok (.getfield 275, 3) := by decide +kernel
theorem dX13_isCalm_20 : decode cX13_isCalm 20 = .ok (.iload_n 1, 1) := by decide +kernel
theorem dX13_isCalm_21 : decode cX13_isCalm 21 = .ok (.iaload, 1) := by decide +kernel
theorem dX13_isCalm_22 : decode cX13_isCalm 22 = .ok (.iconst 2, 1) := by decide +kernel
theorem dX13_isCalm_23 : decode cX13_isCalm 23 = .ok (.if_icmp .eq 93, 3) := by decide +kernel
theorem dX13_isCalm_26 : decode cX13_isCalm 26 = .ok (.aload_n 0, 1) := by decide +kernel
theorem dX13_isCalm_27 : decode cX13_isCalm 27 = .ok (.getfield 21, 3) := by decide +kernel
theorem dX13_isCalm_30 : decode cX13_isCalm 30 = .ok (.iload_n 1, 1) := by decide +kernel
theorem dX13_isCalm_31 : decode cX13_isCalm 31 = .ok (.iaload, 1) := by decide +kernel
theorem dX13_isCalm_32 : decode cX13_isCalm 32 = .ok (.ifCond .ne 6, 3) := by decide +kernel
theorem dX13_isCalm_35 : decode cX13_isCalm 35 = .ok (.goto 81, 3) := by decide +kernel
theorem dX13_isCalm_38 : decode cX13_isCalm 38 = .ok (.iconst 0, 1) := by decide +kernel
theorem dX13_isCalm_39 : decode cX13_isCalm 39 = .ok (.istore_n 2, 1) := by decide +kernel
theorem dX13_isCalm_40 : decode cX13_isCalm 40 = .ok (.iload_n 2, 1) := by decide +kernel
theorem dX13_isCalm_41 : decode cX13_isCalm 41 = .ok (.aload_n 0, 1) := by decide +kernel
theorem dX13_isCalm_42 : decode cX13_isCalm 42 = .ok (.getfield 321, 3) := by decide +kernel
theorem dX13_isCalm_45 : decode cX13_isCalm 45 = .ok (.getfield 229, 3) := by decide +kernel
theorem dX13_isCalm_48 : decode cX13_isCalm 48 = .ok (.if_icmp .ge 68, 3) := by decide +kernel
theorem dX13_isCalm_51 : decode cX13_isCalm 51 = .ok (.aload_n 0, 1) := by decide +kernel
theorem dX13_isCalm_52 : decode cX13_isCalm 52 = .ok (.iload_n 1, 1) := by decide +kernel
theorem dX13_isCalm_53 : decode cX13_isCalm 53 = .ok (.invokevirtual 342, 3) := by decide +kernel
theorem dX13_isCalm_56 : decode cX13_isCalm 56 = .ok (.iload_n 2, 1) := by decide +kernel
theorem dX13_isCalm_57 : decode cX13_isCalm 57 = .ok (.invokestatic 249, 3) := by decide +kernel
theorem dX13_isCalm_60 : decode cX13_isCalm 60 = .ok (.ifCond .ne 6, 3) := by decide +kernel
theorem dX13_isCalm_63 : decode cX13_isCalm 63 = .ok (.goto 47, 3) := by decide +kernel
theorem dX13_isCalm_66 : decode cX13_isCalm 66 = .ok (.aload_n 0, 1) := by decide +kernel
theorem dX13_isCalm_67 : decode cX13_isCalm 67 = .ok (.iload_n 2, 1) := by decide +kernel
theorem dX13_isCalm_68 : decode cX13_isCalm 68 = .ok (.iload_n 1, 1) := by decide +kernel
theorem dX13_isCalm_69 : decode cX13_isCalm 69 = .ok (.aload_n 0, 1) := by decide +kernel
theorem dX13_isCalm_70 : decode cX13_isCalm 70 = .ok (.getfield 21, 3) := by decide +kernel
theorem dX13_isCalm_73 : decode cX13_isCalm 73 = .ok (.iload_n 1, 1) := by decide +kernel
theorem dX13_isCalm_74 : decode cX13_isCalm 74 = .ok (.iaload, 1) := by decide +kernel
theorem dX13_isCalm_75 : decode cX13_isCalm 75 = .ok (.invokevirtual 338, 3) := by decide +kernel
theorem dX13_isCalm_78 : decode cX13_isCalm 78 = .ok (.istore_n 3, 1) := by decide +kernel
theorem dX13_isCalm_79 : decode cX13_isCalm 79 = .ok (.aload_n 0, 1) := by decide +kernel
theorem dX13_isCalm_80 : decode cX13_isCalm 80 = .ok (.iload_n 2, 1) := by decide +kernel
theorem dX13_isCalm_81 : decode cX13_isCalm 81 = .ok (.iload_n 1, 1) := by decide +kernel
theorem dX13_isCalm_82 : decode cX13_isCalm 82 = .ok (.iconst 3, 1) := by decide +kernel
theorem dX13_isCalm_83 : decode cX13_isCalm 83 = .ok (.aload_n 0, 1) := by decide +kernel
theorem dX13_isCalm_84 : decode cX13_isCalm 84 = .ok (.getfield 21, 3) := by decide +kernel
theorem dX13_isCalm_87 : decode cX13_isCalm 87 = .ok (.iload_n 1, 1) := by decide +kernel
theorem dX13_isCalm_88 : decode cX13_isCalm 88 = .ok (.iaload, 1) := by decide +kernel
theorem dX13_isCalm_89 : decode cX13_isCalm 89 = .ok (.isub, 1) := by decide +kernel
theorem dX13_isCalm_90 : decode cX13_isCalm 90 = .ok (.invokevirtual 338, 3) := by decide +kernel
theorem dX13_isCalm_93 : decode cX13_isCalm 93 = .ok (.iload_n 3, 1) := by decide +kernel
theorem dX13_isCalm_94 : decode cX13_isCalm 94 = .ok (.if_icmp .gt 14, 3) := by decide +kernel
theorem dX13_isCalm_97 : decode cX13_isCalm 97 = .ok (.aload_n 0, 1) := by decide +kernel
theorem dX13_isCalm_98 : decode cX13_isCalm 98 = .ok (.iload_n 2, 1) := by decide +kernel
theorem dX13_isCalm_99 : decode cX13_isCalm 99 = .ok (.iload_n 1, 1) := by decide +kernel
theorem dX13_isCalm_100 : decode cX13_isCalm 100 = .ok (.iconst 0, 1) := by decide +kernel
theorem dX13_isCalm_101 : decode cX13_isCalm 101 = .ok (.invokevirtual 338, 3) := by decide +kernel
theorem dX13_isCalm_104 : decode cX13_isCalm 104 = .ok (.iload_n 3, 1) := by decide +kernel
theorem dX13_isCalm_105 : decode cX13_isCalm 105 = .ok (.if_icmp .le 5, 3) := by decide +kernel
theorem dX13_isCalm_108 : decode cX13_isCalm 108 = .ok (.iconst 0, 1) := by decide +kernel
theorem dX13_isCalm_109 : decode cX13_isCalm 109 = .ok (.ireturn, 1) := by decide +kernel
theorem dX13_isCalm_110 : decode cX13_isCalm 110 = .ok (.iinc 2 1, 3) := by decide +kernel
theorem dX13_isCalm_113 : decode cX13_isCalm 113 = .ok (.goto (-73), 3) := by decide +kernel
theorem dX13_isCalm_116 : decode cX13_isCalm 116 = .ok (.iinc 1 1, 3) := by decide +kernel
theorem dX13_isCalm_119 : decode cX13_isCalm 119 = .ok (.goto (-117), 3) := by decide +kernel
theorem dX13_isCalm_122 : decode cX13_isCalm 122 = .ok (.iconst 1, 1) := by decide +kernel
theorem dX13_isCalm_123 : decode cX13_isCalm 123 = .ok (.ireturn, 1) := by decide +kernel
theorem dX13_stills_0 : decode cX13_stills 0 = .ok (.aload_n 0, 1) := by decide +kernel
theorem dX13_stills_1 : decode cX13_stills 1 = .ok (.iconst 0, 1) := by decide +kernel
theorem dX13_stills_2 : decode cX13_stills 2 = .ok (.putfield 42, 3) := by decide +kernel
theorem dX13_stills_5 : decode cX13_stills 5 = .ok (.aload_n 0, 1) := by decide +kernel
theorem dX13_stills_6 : decode cX13_stills 6 = .ok (.getfield 321, 3) := by decide +kernel
theorem dX13_stills_9 : decode cX13_stills 9 = .ok (.ifnonnull 9, 3) := by decide +kernel
theorem dX13_stills_12 : decode cX13_stills 12 = .ok (.aload_n 0, 1) := by decide +kernel
theorem dX13_stills_13 : decode cX13_stills 13 = .ok (.iconst 1, 1) := by decide +kernel
theorem dX13_stills_14 : decode cX13_stills 14 = .ok (.invokevirtual 48, 3) := by decide +kernel
theorem dX13_stills_17 : decode cX13_stills 17 = .ok (.ireturn, 1) := by decide +kernel
theorem dX13_stills_18 : decode cX13_stills 18 = .ok (.iconst 0, 1) := by decide +kernel
theorem dX13_stills_19 : decode cX13_stills 19 = .ok (.istore_n 1, 1) := by decide +kernel
theorem dX13_stills_20 : decode cX13_stills 20 = .ok (.iconst 0, 1) := by decide +kernel
theorem dX13_stills_21 : decode cX13_stills 21 = .ok (.istore_n 2, 1) := by decide +kernel
theorem dX13_stills_22 : decode cX13_stills 22 = .ok (.iload_n 2, 1) := by decide +kernel
theorem dX13_stills_23 : decode cX13_stills 23 = .ok (.aload_n 0, 1) := by decide +kernel
theorem dX13_stills_24 : decode cX13_stills 24 = .ok (.invokevirtual 405, 3) := by decide +kernel
theorem dX13_stills_27 : decode cX13_stills 27 = .ok (.if_icmp .ge 32, 3) := by decide +kernel
theorem dX13_stills_30 : decode cX13_stills 30 = .ok (.iload_n 1, 1) := by decide +kernel
theorem dX13_stills_31 : decode cX13_stills 31 = .ok (.aload_n 0, 1) := by decide +kernel
theorem dX13_stills_32 : decode cX13_stills 32 = .ok (.iload_n 2, 1) := by decide +kernel
theorem dX13_stills_33 : decode cX13_stills 33 = .ok (.invokevirtual 408, 3) := by decide +kernel
theorem dX13_stills_36 : decode cX13_stills 36 = .ok (.ifCond .eq 14, 3) := by decide +kernel
theorem dX13_stills_39 : decode cX13_stills 39 = .ok (.aload_n 0, 1) := by decide +kernel
theorem dX13_stills_40 : decode cX13_stills 40 = .ok (.invokevirtual 417, 3) := by decide +kernel
theorem dX13_stills_43 : decode cX13_stills 43 = .ok (.ifCond .eq 7, 3) := by decide +kernel
theorem dX13_stills_46 : decode cX13_stills 46 = .ok (.iconst 1, 1) := by decide +kernel
theorem dX13_stills_47 : decode cX13_stills 47 = .ok (.goto 4, 3) := by decide +kernel
theorem dX13_stills_50 : decode cX13_stills 50 = .ok (.iconst 0, 1) := by decide +kernel
theorem dX13_stills_51 : decode cX13_stills 51 = .ok (.iadd, 1) := by decide +kernel
theorem dX13_stills_52 : decode cX13_stills 52 = .ok (.istore_n 1, 1) := by decide +kernel
theorem dX13_stills_53 : decode cX13_stills 53 = .ok (.iinc 2 1, 3) := by decide +kernel
theorem dX13_stills_56 : decode cX13_stills 56 = .ok (.goto (-34), 3) := by decide +kernel
theorem dX13_stills_59 : decode cX13_stills 59 = .ok (.aload_n 0, 1) := by decide +kernel
theorem dX13_stills_60 : decode cX13_stills 60 = .ok (.iload_n 1, 1) := by decide +kernel
theorem dX13_stills_61 : decode cX13_stills 61 = .ok (.invokevirtual 52, 3) := by decide +kernel
theorem dX13_stills_64 : decode cX13_stills 64 = .ok (.ireturn, 1) := by decide +kernel
theorem dX13_isStill_0 : decode cX13_isStill 0 = .ok (.aload_n 0, 1) := by decide +kernel
theorem dX13_isStill_1 : decode cX13_isStill 1 = .ok (.iconst 0, 1) := by decide +kernel
theorem dX13_isStill_2 : decode cX13_isStill 2 = .ok (.putfield 42, 3) := by decide +kernel
theorem dX13_isStill_5 : decode cX13_isStill 5 = .ok (.aload_n 0, 1) := by decide +kernel
theorem dX13_isStill_6 : decode cX13_isStill 6 = .ok (.getfield 321, 3) := by decide +kernel
theorem dX13_isStill_9 : decode cX13_isStill 9 = .ok (.ifnonnull 9, 3) := by decide +kernel
theorem dX13_isStill_12 : decode cX13_isStill 12 = .ok (.aload_n 0, 1) := by decide +kernel
theorem dX13_isStill_13 : decode cX13_isStill 13 = .ok (.iconst 1, 1) := by decide +kernel
theorem dX13_isStill_14 : decode cX13_isStill 14 = .ok (.invokevirtual 48, 3) := by decide +kernel
theorem dX13_isStill_17 : decode cX13_isStill 17 = .ok (.ireturn, 1) := by decide +kernel
theorem dX13_isStill_18 : decode cX13_isStill 18 = .ok (.aload_n 0, 1) := by decide +kernel
theorem dX13_isStill_19 : decode cX13_isStill 19 = .ok (.invokevirtual 348, 3) := by decide +kernel
theorem dX13_isStill_22 : decode cX13_isStill 22 = .ok (.aload_n 0, 1) := by decide +kernel
theorem dX13_isStill_23 : decode cX13_isStill 23 = .ok (.aload_n 0, 1) := by decide +kernel
theorem dX13_isStill_24 : decode cX13_isStill 24 = .ok (.invokevirtual 417, 3) := by decide +kernel
theorem dX13_isStill_27 : decode cX13_isStill 27 = .ok (.ifCond .eq 7, 3) := by decide +kernel
theorem dX13_isStill_30 : decode cX13_isStill 30 = .ok (.iconst 1, 1) := by decide +kernel
theorem dX13_isStill_31 : decode cX13_isStill 31 = .ok (.goto 4, 3) := by decide +kernel
theorem dX13_isStill_34 : decode cX13_isStill 34 = .ok (.iconst 0, 1) := by decide +kernel
theorem dX13_isStill_35 : decode cX13_isStill 35 = .ok (.invokevirtual 52, 3) := by decide +kernel
theorem dX13_isStill_38 : decode cX13_isStill 38 = .ok (.ireturn, 1) := by decide +kernel
theorem dX13_fairWay_0 : decode cX13_fairWay 0 = .ok (.iconst (-1), 1) := by decide +kernel
theorem dX13_fairWay_1 : decode cX13_fairWay 1 = .ok (.istore_n 1, 1) := by decide +kernel
theorem dX13_fairWay_2 : decode cX13_fairWay 2 = .ok (.iconst (-1), 1) := by decide +kernel
theorem dX13_fairWay_3 : decode cX13_fairWay 3 = .ok (.istore_n 2, 1) := by decide +kernel
theorem dX13_fairWay_4 : decode cX13_fairWay 4 = .ok (.iconst 0, 1) := by decide +kernel
theorem dX13_fairWay_5 : decode cX13_fairWay 5 = .ok (.istore_n 3, 1) := by decide +kernel
theorem dX13_fairWay_6 : decode cX13_fairWay 6 = .ok (.iload_n 3, 1) := by decide +kernel
theorem dX13_fairWay_7 : decode cX13_fairWay 7 = .ok (.aload_n 0, 1) := by decide +kernel
theorem dX13_fairWay_8 : decode cX13_fairWay 8 = .ok (.invokevirtual 405, 3) := by decide +kernel
theorem dX13_fairWay_11 : decode cX13_fairWay 11 = .ok (.if_icmp .ge 35, 3) := by decide +kernel
theorem dX13_fairWay_14 : decode cX13_fairWay 14 = .ok (.aload_n 0, 1) := by decide +kernel
theorem dX13_fairWay_15 : decode cX13_fairWay 15 = .ok (.iload_n 3, 1) := by decide +kernel
theorem dX13_fairWay_16 : decode cX13_fairWay 16 = .ok (.invokevirtual 408, 3) := by decide +kernel
theorem dX13_fairWay_19 : decode cX13_fairWay 19 = .ok (.ifCond .eq 21, 3) := by decide +kernel
theorem dX13_fairWay_22 : decode cX13_fairWay 22 = .ok (.aload_n 0, 1) := by decide +kernel
theorem dX13_fairWay_23 : decode cX13_fairWay 23 = .ok (.invokevirtual 411, 3) := by decide +kernel
theorem dX13_fairWay_26 : decode cX13_fairWay 26 = .ok (.iload_n 2, 1) := by decide +kernel
theorem dX13_fairWay_27 : decode cX13_fairWay 27 = .ok (.if_icmp .gt 6, 3) := by decide +kernel
theorem dX13_fairWay_30 : decode cX13_fairWay 30 = .ok (.goto 10, 3) := by decide +kernel
theorem dX13_fairWay_33 : decode cX13_fairWay 33 = .ok (.aload_n 0, 1) := by decide +kernel
theorem dX13_fairWay_34 : decode cX13_fairWay 34 = .ok (.invokevirtual 411, 3) := by decide +kernel
theorem dX13_fairWay_37 : decode cX13_fairWay 37 = .ok (.istore_n 2, 1) := by decide +kernel
theorem dX13_fairWay_38 : decode cX13_fairWay 38 = .ok (.iload_n 3, 1) := by decide +kernel
theorem dX13_fairWay_39 : decode cX13_fairWay 39 = .ok (.istore_n 1, 1) := by decide +kernel
theorem dX13_fairWay_40 : decode cX13_fairWay 40 = .ok (.iinc 3 1, 3) := by decide +kernel
theorem dX13_fairWay_43 : decode cX13_fairWay 43 = .ok (.goto (-37), 3) := by decide +kernel
theorem dX13_fairWay_46 : decode cX13_fairWay 46 = .ok (.iload_n 1, 1) := by decide +kernel
theorem dX13_fairWay_47 : decode cX13_fairWay 47 = .ok (.ireturn, 1) := by decide +kernel
theorem dX13_fairest_0 : decode cX13_fairest 0 = .ok (.aload_n 0, 1) := by decide +kernel
theorem dX13_fairest_1 : decode cX13_fairest 1 = .ok (.iconst 0, 1) := by decide +kernel
theorem dX13_fairest_2 : decode cX13_fairest 2 = .ok (.putfield 42, 3) := by decide +kernel
theorem dX13_fairest_5 : decode cX13_fairest 5 = .ok (.aload_n 0, 1) := by decide +kernel
theorem dX13_fairest_6 : decode cX13_fairest 6 = .ok (.getfield 321, 3) := by decide +kernel
theorem dX13_fairest_9 : decode cX13_fairest 9 = .ok (.ifnonnull 9, 3) := by decide +kernel
theorem dX13_fairest_12 : decode cX13_fairest 12 = .ok (.aload_n 0, 1) := by decide +kernel
theorem dX13_fairest_13 : decode cX13_fairest 13 = .ok (.iconst 1, 1) := by decide +kernel
theorem dX13_fairest_14 : decode cX13_fairest 14 = .ok (.invokevirtual 48, 3) := by decide +kernel
theorem dX13_fairest_17 : decode cX13_fairest 17 = .ok (.ireturn, 1) := by decide +kernel
theorem dX13_fairest_18 : decode cX13_fairest 18 = .ok (.aload_n 0, 1) := by decide +kernel
theorem dX13_fairest_19 : decode cX13_fairest 19 = .ok (.aload_n 0, 1) := by decide +kernel
theorem dX13_fairest_20 : decode cX13_fairest 20 = .ok (.invokevirtual 420, 3) := by decide +kernel
theorem dX13_fairest_23 : decode cX13_fairest 23 = .ok (.invokevirtual 383, 3) := by decide +kernel
theorem dX13_fairest_26 : decode cX13_fairest 26 = .ok (.aload_n 0, 1) := by decide +kernel
theorem dX13_fairest_27 : decode cX13_fairest 27 = .ok (.aload_n 0, 1) := by decide +kernel
theorem dX13_fairest_28 : decode cX13_fairest 28 = .ok (.invokevirtual 411, 3) := by decide +kernel
theorem dX13_fairest_31 : decode cX13_fairest 31 = .ok (.invokevirtual 52, 3) := by decide +kernel
theorem dX13_fairest_34 : decode cX13_fairest 34 = .ok (.ireturn, 1) := by decide +kernel
theorem dX13_fairAt_0 : decode cX13_fairAt 0 = .ok (.aload_n 0, 1) := by decide +kernel
theorem dX13_fairAt_1 : decode cX13_fairAt 1 = .ok (.iconst 0, 1) := by decide +kernel
theorem dX13_fairAt_2 : decode cX13_fairAt 2 = .ok (.putfield 42, 3) := by decide +kernel
theorem dX13_fairAt_5 : decode cX13_fairAt 5 = .ok (.aload_n 0, 1) := by decide +kernel
theorem dX13_fairAt_6 : decode cX13_fairAt 6 = .ok (.iload_n 1, 1) := by decide +kernel
theorem dX13_fairAt_7 : decode cX13_fairAt 7 = .ok (.invokevirtual 345, 3) := by decide +kernel
theorem dX13_fairAt_10 : decode cX13_fairAt 10 = .ok (.ifCond .ne 9, 3) := by decide +kernel
theorem dX13_fairAt_13 : decode cX13_fairAt 13 = .ok (.aload_n 0, 1) := by decide +kernel
theorem dX13_fairAt_14 : decode cX13_fairAt 14 = .ok (.iconst 1, 1) := by decide +kernel
theorem dX13_fairAt_15 : decode cX13_fairAt 15 = .ok (.invokevirtual 48, 3) := by decide +kernel
theorem dX13_fairAt_18 : decode cX13_fairAt 18 = .ok (.ireturn, 1) := by decide +kernel
theorem dX13_fairAt_19 : decode cX13_fairAt 19 = .ok (.aload_n 0, 1) := by decide +kernel
theorem dX13_fairAt_20 : decode cX13_fairAt 20 = .ok (.aload_n 0, 1) := by decide +kernel
theorem dX13_fairAt_21 : decode cX13_fairAt 21 = .ok (.invokevirtual 420, 3) := by decide +kernel
theorem dX13_fairAt_24 : decode cX13_fairAt 24 = .ok (.invokevirtual 383, 3) := by decide +kernel
theorem dX13_fairAt_27 : decode cX13_fairAt 27 = .ok (.aload_n 0, 1) := by decide +kernel
theorem dX13_fairAt_28 : decode cX13_fairAt 28 = .ok (.aload_n 0, 1) := by decide +kernel
theorem dX13_fairAt_29 : decode cX13_fairAt 29 = .ok (.getfield 21, 3) := by decide +kernel
theorem dX13_fairAt_32 : decode cX13_fairAt 32 = .ok (.iload_n 1, 1) := by decide +kernel
theorem dX13_fairAt_33 : decode cX13_fairAt 33 = .ok (.iaload, 1) := by decide +kernel
theorem dX13_fairAt_34 : decode cX13_fairAt 34 = .ok (.invokevirtual 52, 3) := by decide +kernel
theorem dX13_fairAt_37 : decode cX13_fairAt 37 = .ok (.ireturn, 1) := by decide +kernel
theorem dX13_guesses_0 : decode cX13_guesses 0 = .ok (.iconst 1, 1) := by decide +kernel
theorem dX13_guesses_1 : decode cX13_guesses 1 = .ok (.istore_n 1, 1) := by decide +kernel
theorem dX13_guesses_2 : decode cX13_guesses 2 = .ok (.iconst 0, 1) := by decide +kernel
theorem dX13_guesses_3 : decode cX13_guesses 3 = .ok (.istore_n 2, 1) := by decide +kernel
theorem dX13_guesses_4 : decode cX13_guesses 4 = .ok (.iload_n 2, 1) := by decide +kernel
theorem dX13_guesses_5 : decode cX13_guesses 5 = .ok (.aload_n 0, 1) := by decide +kernel
theorem dX13_guesses_6 : decode cX13_guesses 6 = .ok (.getfield 321, 3) := by decide +kernel
theorem dX13_guesses_9 : decode cX13_guesses 9 = .ok (.getfield 301, 3) := by decide +kernel
theorem dX13_guesses_12 : decode cX13_guesses 12 = .ok (.if_icmp .ge 13, 3) := by decide +kernel
theorem dX13_guesses_15 : decode cX13_guesses 15 = .ok (.iload_n 1, 1) := by decide +kernel
theorem dX13_guesses_16 : decode cX13_guesses 16 = .ok (.iconst 3, 1) := by decide +kernel
theorem dX13_guesses_17 : decode cX13_guesses 17 = .ok (.imul, 1) := by decide +kernel
theorem dX13_guesses_18 : decode cX13_guesses 18 = .ok (.istore_n 1, 1) := by decide +kernel
theorem dX13_guesses_19 : decode cX13_guesses 19 = .ok (.iinc 2 1, 3) := by decide +kernel
theorem dX13_guesses_22 : decode cX13_guesses 22 = .ok (.goto (-18), 3) := by decide +kernel
theorem dX13_guesses_25 : decode cX13_guesses 25 = .ok (.iload_n 1, 1) := by decide +kernel
theorem dX13_guesses_26 : decode cX13_guesses 26 = .ok (.ireturn, 1) := by decide +kernel
theorem dX13_guess_0 : decode cX13_guess 0 = .ok (.iload_n 1, 1) := by decide +kernel
theorem dX13_guess_1 : decode cX13_guess 1 = .ok (.istore_n 3, 1) := by decide +kernel
theorem dX13_guess_2 : decode cX13_guess 2 = .ok (.aload_n 0, 1) := by decide +kernel
theorem dX13_guess_3 : decode cX13_guess 3 = .ok (.getfield 321, 3) := by decide +kernel
theorem dX13_guess_6 : decode cX13_guess 6 = .ok (.getfield 301, 3) := by decide +kernel
theorem dX13_guess_9 : decode cX13_guess 9 = .ok (.iconst 1, 1) := by decide +kernel
theorem dX13_guess_10 : decode cX13_guess 10 = .ok (.isub, 1) := by decide +kernel
theorem dX13_guess_11 : decode cX13_guess 11 = .ok (.istore 4, 2) := by decide +kernel
theorem dX13_guess_13 : decode cX13_guess 13 = .ok (.iload 4, 2) := by decide +kernel
theorem dX13_guess_15 : decode cX13_guess 15 = .ok (.iload_n 2, 1) := by decide +kernel
theorem dX13_guess_16 : decode cX13_guess 16 = .ok (.if_icmp .le 13, 3) := by decide +kernel
theorem dX13_guess_19 : decode cX13_guess 19 = .ok (.iload_n 3, 1) := by decide +kernel
theorem dX13_guess_20 : decode cX13_guess 20 = .ok (.iconst 3, 1) := by decide +kernel
theorem dX13_guess_21 : decode cX13_guess 21 = .ok (.idiv, 1) := by decide +kernel
theorem dX13_guess_22 : decode cX13_guess 22 = .ok (.istore_n 3, 1) := by decide +kernel
theorem dX13_guess_23 : decode cX13_guess 23 = .ok (.iinc 4 (-1), 3) := by decide +kernel
theorem dX13_guess_26 : decode cX13_guess 26 = .ok (.goto (-13), 3) := by decide +kernel
theorem dX13_guess_29 : decode cX13_guess 29 = .ok (.iload_n 3, 1) := by decide +kernel
theorem dX13_guess_30 : decode cX13_guess 30 = .ok (.iconst 3, 1) := by decide +kernel
theorem dX13_guess_31 : decode cX13_guess 31 = .ok (.irem, 1) := by decide +kernel
theorem dX13_guess_32 : decode cX13_guess 32 = .ok (.ireturn, 1) := by decide +kernel
theorem dX13_wrong_0 : decode cX13_wrong 0 = .ok (.iconst 0, 1) := by decide +kernel
theorem dX13_wrong_1 : decode cX13_wrong 1 = .ok (.istore_n 1, 1) := by decide +kernel
theorem dX13_wrong_2 : decode cX13_wrong 2 = .ok (.iload_n 1, 1) := by decide +kernel
theorem dX13_wrong_3 : decode cX13_wrong 3 = .ok (.aload_n 0, 1) := by decide +kernel
theorem dX13_wrong_4 : decode cX13_wrong 4 = .ok (.getfield 321, 3) := by decide +kernel
theorem dX13_wrong_7 : decode cX13_wrong 7 = .ok (.getfield 229, 3) := by decide +kernel
theorem dX13_wrong_10 : decode cX13_wrong 10 = .ok (.if_icmp .ge 41, 3) := by decide +kernel
theorem dX13_wrong_13 : decode cX13_wrong 13 = .ok (.aload_n 0, 1) := by decide +kernel
theorem dX13_wrong_14 : decode cX13_wrong 14 = .ok (.getfield 321, 3) := by decide +kernel
theorem dX13_wrong_17 : decode cX13_wrong 17 = .ok (.getfield 309, 3) := by decide +kernel
theorem dX13_wrong_20 : decode cX13_wrong 20 = .ok (.iload_n 1, 1) := by decide +kernel
theorem dX13_wrong_21 : decode cX13_wrong 21 = .ok (.iaload, 1) := by decide +kernel
theorem dX13_wrong_22 : decode cX13_wrong 22 = .ok (.iconst (-1), 1) := by decide +kernel
theorem dX13_wrong_23 : decode cX13_wrong 23 = .ok (.if_icmp .eq 22, 3) := by decide +kernel
theorem dX13_wrong_26 : decode cX13_wrong 26 = .ok (.aload_n 0, 1) := by decide +kernel
theorem dX13_wrong_27 : decode cX13_wrong 27 = .ok (.iload_n 1, 1) := by decide +kernel
theorem dX13_wrong_28 : decode cX13_wrong 28 = .ok (.invokevirtual 354, 3) := by decide +kernel
theorem dX13_wrong_31 : decode cX13_wrong 31 = .ok (.aload_n 0, 1) := by decide +kernel
theorem dX13_wrong_32 : decode cX13_wrong 32 = .ok (.getfield 321, 3) := by decide +kernel
theorem dX13_wrong_35 : decode cX13_wrong 35 = .ok (.getfield 309, 3) := by decide +kernel
theorem dX13_wrong_38 : decode cX13_wrong 38 = .ok (.iload_n 1, 1) := by decide +kernel
theorem dX13_wrong_39 : decode cX13_wrong 39 = .ok (.iaload, 1) := by decide +kernel
theorem dX13_wrong_40 : decode cX13_wrong 40 = .ok (.if_icmp .eq 5, 3) := by decide +kernel
theorem dX13_wrong_43 : decode cX13_wrong 43 = .ok (.iload_n 1, 1) := by decide +kernel
theorem dX13_wrong_44 : decode cX13_wrong 44 = .ok (.ireturn, 1) := by decide +kernel
theorem dX13_wrong_45 : decode cX13_wrong 45 = .ok (.iinc 1 1, 3) := by decide +kernel
theorem dX13_wrong_48 : decode cX13_wrong 48 = .ok (.goto (-46), 3) := by decide +kernel
theorem dX13_wrong_51 : decode cX13_wrong 51 = .ok (.bipush (-2), 2) := by decide +kernel
theorem dX13_wrong_53 : decode cX13_wrong 53 = .ok (.ireturn, 1) := by decide +kernel
theorem dX13_fitting_0 : decode cX13_fitting 0 = .ok (.aload_n 0, 1) := by decide +kernel
theorem dX13_fitting_1 : decode cX13_fitting 1 = .ok (.iconst 0, 1) := by decide +kernel
theorem dX13_fitting_2 : decode cX13_fitting 2 = .ok (.putfield 423, 3) := by decide +kernel
theorem dX13_fitting_5 : decode cX13_fitting 5 = .ok (.aload_n 0, 1) := by decide +kernel
theorem dX13_fitting_6 : decode cX13_fitting 6 = .ok (.iconst (-1), 1) := by decide +kernel
theorem dX13_fitting_7 : decode cX13_fitting 7 = .ok (.putfield 426, 3) := by decide +kernel
theorem dX13_fitting_10 : decode cX13_fitting 10 = .ok (.iconst 0, 1) := by decide +kernel
theorem dX13_fitting_11 : decode cX13_fitting 11 = .ok (.istore_n 2, 1) := by decide +kernel
theorem dX13_fitting_12 : decode cX13_fitting 12 = .ok (.iload_n 2, 1) := by decide +kernel
theorem dX13_fitting_13 : decode cX13_fitting 13 = .ok (.bipush 12, 2) := by decide +kernel
theorem dX13_fitting_15 : decode cX13_fitting 15 = .ok (.if_icmp .ge 16, 3) := by decide +kernel
theorem dX13_fitting_18 : decode cX13_fitting 18 = .ok (.aload_n 0, 1) := by decide +kernel
theorem dX13_fitting_19 : decode cX13_fitting 19 = .ok (.getfield 39, 3) := by decide +kernel
theorem dX13_fitting_22 : decode cX13_fitting 22 = .ok (.iload_n 2, 1) := by decide +kernel
theorem dX13_fitting_23 : decode cX13_fitting 23 = .ok (.iconst 0, 1) := by decide +kernel
theorem dX13_fitting_24 : decode cX13_fitting 24 = .ok (.iastore, 1) := by decide +kernel
theorem dX13_fitting_25 : decode cX13_fitting 25 = .ok (.iinc 2 1, 3) := by decide +kernel
theorem dX13_fitting_28 : decode cX13_fitting 28 = .ok (.goto (-16), 3) := by decide +kernel
theorem dX13_fitting_31 : decode cX13_fitting 31 = .ok (.iconst 0, 1) := by decide +kernel
theorem dX13_fitting_32 : decode cX13_fitting 32 = .ok (.istore_n 2, 1) := by decide +kernel
theorem dX13_fitting_33 : decode cX13_fitting 33 = .ok (.iload_n 2, 1) := by decide +kernel
theorem dX13_fitting_34 : decode cX13_fitting 34 = .ok (.aload_n 0, 1) := by decide +kernel
theorem dX13_fitting_35 : decode cX13_fitting 35 = .ok (.invokevirtual 429, 3) := by decide +kernel
theorem dX13_fitting_38 : decode cX13_fitting 38 = .ok (.if_icmp .ge 125, 3) := by decide +kernel
theorem dX13_fitting_41 : decode cX13_fitting 41 = .ok (.aload_n 0, 1) := by decide +kernel
theorem dX13_fitting_42 : decode cX13_fitting 42 = .ok (.invokevirtual 323, 3) := by decide +kernel
theorem dX13_fitting_45 : decode cX13_fitting 45 = .ok (.iconst 0, 1) := by decide +kernel
theorem dX13_fitting_46 : decode cX13_fitting 46 = .ok (.istore_n 3, 1) := by decide +kernel
theorem dX13_fitting_47 : decode cX13_fitting 47 = .ok (.iload_n 3, 1) := by decide +kernel
theorem dX13_fitting_48 : decode cX13_fitting 48 = .ok (.aload_n 0, 1) := by decide +kernel
theorem dX13_fitting_49 : decode cX13_fitting 49 = .ok (.getfield 321, 3) := by decide +kernel
theorem dX13_fitting_52 : decode cX13_fitting 52 = .ok (.getfield 301, 3) := by decide +kernel
theorem dX13_fitting_55 : decode cX13_fitting 55 = .ok (.if_icmp .ge 29, 3) := by decide +kernel
theorem dX13_fitting_58 : decode cX13_fitting 58 = .ok (.aload_n 0, 1) := by decide +kernel
theorem dX13_fitting_59 : decode cX13_fitting 59 = .ok (.getfield 21, 3) := by decide +kernel
theorem dX13_fitting_62 : decode cX13_fitting 62 = .ok (.aload_n 0, 1) := by decide +kernel
theorem dX13_fitting_63 : decode cX13_fitting 63 = .ok (.getfield 321, 3) := by decide +kernel
theorem dX13_fitting_66 : decode cX13_fitting 66 = .ok (.getfield 307, 3) := by decide +kernel
theorem dX13_fitting_69 : decode cX13_fitting 69 = .ok (.iload_n 3, 1) := by decide +kernel
theorem dX13_fitting_70 : decode cX13_fitting 70 = .ok (.iaload, 1) := by decide +kernel
theorem dX13_fitting_71 : decode cX13_fitting 71 = .ok (.aload_n 0, 1) := by decide +kernel
theorem dX13_fitting_72 : decode cX13_fitting 72 = .ok (.iload_n 2, 1) := by decide +kernel
theorem dX13_fitting_73 : decode cX13_fitting 73 = .ok (.iload_n 3, 1) := by decide +kernel
theorem dX13_fitting_74 : decode cX13_fitting 74 = .ok (.invokevirtual 432, 3) := by decide +kernel
theorem dX13_fitting_77 : decode cX13_fitting 77 = .ok (.iastore, 1) := by decide +kernel
theorem dX13_fitting_78 : decode cX13_fitting 78 = .ok (.iinc 3 1, 3) := by decide +kernel
theorem dX13_fitting_81 : decode cX13_fitting 81 = .ok (.goto (-34), 3) := by decide +kernel
theorem dX13_fitting_84 : decode cX13_fitting 84 = .ok (.aload_n 0, 1) := by decide +kernel
theorem dX13_fitting_85 : decode cX13_fitting 85 = .ok (.invokevirtual 435, 3) := by decide +kernel
theorem dX13_fitting_88 : decode cX13_fitting 88 = .ok (.bipush (-2), 2) := by decide +kernel
theorem dX13_fitting_90 : decode cX13_fitting 90 = .ok (.if_icmp .eq 6, 3) := by decide +kernel
theorem dX13_fitting_93 : decode cX13_fitting 93 = .ok (.goto 64, 3) := by decide +kernel
theorem dX13_fitting_96 : decode cX13_fitting 96 = .ok (.aload_n 0, 1) := by decide +kernel
theorem dX13_fitting_97 : decode cX13_fitting 97 = .ok (.getfield 423, 3) := by decide +kernel
theorem dX13_fitting_100 : decode cX13_fitting 100 = .ok (.iload_n 1, 1) := by decide +kernel
theorem dX13_fitting_101 : decode cX13_fitting 101 = .ok (.if_icmp .ne 8, 3) := by decide +kernel
theorem dX13_fitting_104 : decode cX13_fitting 104 = .ok (.aload_n 0, 1) := by decide +kernel
theorem dX13_fitting_105 : decode cX13_fitting 105 = .ok (.iload_n 2, 1) := by decide +kernel
theorem dX13_fitting_106 : decode cX13_fitting 106 = .ok (.putfield 426, 3) := by decide +kernel
theorem dX13_fitting_109 : decode cX13_fitting 109 = .ok (.aload_n 0, 1) := by decide +kernel
theorem dX13_fitting_110 : decode cX13_fitting 110 = .ok (.dup, 1) := by decide +kernel
theorem dX13_fitting_111 : decode cX13_fitting 111 = .ok (.getfield 423, 3) := by decide +kernel
theorem dX13_fitting_114 : decode cX13_fitting 114 = .ok (.iconst 1, 1) := by decide +kernel
theorem dX13_fitting_115 : decode cX13_fitting 115 = .ok (.iadd, 1) := by decide +kernel
theorem dX13_fitting_116 : decode cX13_fitting 116 = .ok (.putfield 423, 3) := by decide +kernel
theorem dX13_fitting_119 : decode cX13_fitting 119 = .ok (.iconst 0, 1) := by decide +kernel
theorem dX13_fitting_120 : decode cX13_fitting 120 = .ok (.istore_n 3, 1) := by decide +kernel
theorem dX13_fitting_121 : decode cX13_fitting 121 = .ok (.iload_n 3, 1) := by decide +kernel
theorem dX13_fitting_122 : decode cX13_fitting 122 = .ok (.aload_n 0, 1) := by decide +kernel
theorem dX13_fitting_123 : decode cX13_fitting 123 = .ok (.getfield 321, 3) := by decide +kernel
theorem dX13_fitting_126 : decode cX13_fitting 126 = .ok (.getfield 301, 3) := by decide +kernel
theorem dX13_fitting_129 : decode cX13_fitting 129 = .ok (.if_icmp .ge 28, 3) := by decide +kernel
theorem dX13_fitting_132 : decode cX13_fitting 132 = .ok (.aload_n 0, 1) := by decide +kernel
theorem dX13_fitting_133 : decode cX13_fitting 133 = .ok (.getfield 39, 3) := by decide +kernel
theorem dX13_fitting_136 : decode cX13_fitting 136 = .ok (.iconst 3, 1) := by decide +kernel
theorem dX13_fitting_137 : decode cX13_fitting 137 = .ok (.iload_n 3, 1) := by decide +kernel
theorem dX13_fitting_138 : decode cX13_fitting 138 = .ok (.imul, 1) := by decide +kernel
theorem dX13_fitting_139 : decode cX13_fitting 139 = .ok (.aload_n 0, 1) := by decide +kernel
theorem dX13_fitting_140 : decode cX13_fitting 140 = .ok (.iload_n 2, 1) := by decide +kernel
theorem dX13_fitting_141 : decode cX13_fitting 141 = .ok (.iload_n 3, 1) := by decide +kernel
theorem dX13_fitting_142 : decode cX13_fitting 142 = .ok (.invokevirtual 432, 3) := by decide +kernel
theorem dX13_fitting_145 : decode cX13_fitting 145 = .ok (.iadd, 1) := by decide +kernel
theorem dX13_fitting_146 : decode cX13_fitting 146 = .ok (.dup2, 1) := by decide +kernel
theorem dX13_fitting_147 : decode cX13_fitting 147 = .ok (.iaload, 1) := by decide +kernel
theorem dX13_fitting_148 : decode cX13_fitting 148 = .ok (.iconst 1, 1) := by decide +kernel
theorem dX13_fitting_149 : decode cX13_fitting 149 = .ok (.iadd, 1) := by decide +kernel
theorem dX13_fitting_150 : decode cX13_fitting 150 = .ok (.iastore, 1) := by decide +kernel
theorem dX13_fitting_151 : decode cX13_fitting 151 = .ok (.iinc 3 1, 3) := by decide +kernel
theorem dX13_fitting_154 : decode cX13_fitting 154 = .ok (.goto (-33), 3) := by decide +kernel
theorem dX13_fitting_157 : decode cX13_fitting 157 = .ok (.iinc 2 1, 3) := by decide +kernel
theorem dX13_fitting_160 : decode cX13_fitting 160 = .ok (.goto (-127), 3) := by decide +kernel
theorem dX13_fitting_163 : decode cX13_fitting 163 = .ok (.return_, 1) := by decide +kernel
theorem dX13_fits_0 : decode cX13_fits 0 = .ok (.aload_n 0, 1) := by decide +kernel
theorem dX13_fits_1 : decode cX13_fits 1 = .ok (.iconst 0, 1) := by decide +kernel
theorem dX13_fits_2 : decode cX13_fits 2 = .ok (.putfield 42, 3) := by decide +kernel
theorem dX13_fits_5 : decode cX13_fits 5 = .ok (.aload_n 0, 1) := by decide +kernel
theorem dX13_fits_6 : decode cX13_fits 6 = .ok (.getfield 321, 3) := by decide +kernel
theorem dX13_fits_9 : decode cX13_fits 9 = .ok (.ifnonnull 9, 3) := by decide +kernel
theorem dX13_fits_12 : decode cX13_fits 12 = .ok (.aload_n 0, 1) := by decide +kernel
theorem dX13_fits_13 : decode cX13_fits 13 = .ok (.iconst 1, 1) := by decide +kernel
theorem dX13_fits_14 : decode cX13_fits 14 = .ok (.invokevirtual 48, 3) := by decide +kernel
theorem dX13_fits_17 : decode cX13_fits 17 = .ok (.ireturn, 1) := by decide +kernel
theorem dX13_fits_18 : decode cX13_fits 18 = .ok (.aload_n 0, 1) := by decide +kernel
theorem dX13_fits_19 : decode cX13_fits 19 = .ok (.iconst (-1), 1) := by decide +kernel
theorem dX13_fits_20 : decode cX13_fits 20 = .ok (.invokevirtual 438, 3) := by decide +kernel
theorem dX13_fits_23 : decode cX13_fits 23 = .ok (.aload_n 0, 1) := by decide +kernel
theorem dX13_fits_24 : decode cX13_fits 24 = .ok (.aload_n 0, 1) := by decide +kernel
theorem dX13_fits_25 : decode cX13_fits 25 = .ok (.getfield 423, 3) := by decide +kernel
theorem dX13_fits_28 : decode cX13_fits 28 = .ok (.invokevirtual 52, 3) := by decide +kernel
theorem dX13_fits_31 : decode cX13_fits 31 = .ok (.ireturn, 1) := by decide +kernel
theorem dX13_isLostOne_0 : decode cX13_isLostOne 0 = .ok (.aload_n 0, 1) := by decide +kernel
theorem dX13_isLostOne_1 : decode cX13_isLostOne 1 = .ok (.getfield 321, 3) := by decide +kernel
theorem dX13_isLostOne_4 : decode cX13_isLostOne 4 = .ok (.ifnull 22, 3) := by decide +kernel
theorem dX13_isLostOne_7 : decode cX13_isLostOne 7 = .ok (.iload_n 1, 1) := by decide +kernel
theorem dX13_isLostOne_8 : decode cX13_isLostOne 8 = .ok (.ifCond .lt 18, 3) := by decide +kernel
theorem dX13_isLostOne_11 : decode cX13_isLostOne 11 = .ok (.iload_n 1, 1) := by decide +kernel
theorem dX13_isLostOne_12 : decode cX13_isLostOne 12 = .ok (.aload_n 0, 1) := by decide +kernel
theorem dX13_isLostOne_13 : decode cX13_isLostOne 13 = .ok (.getfield 321, 3) := by decide +kernel
theorem dX13_isLostOne_16 : decode cX13_isLostOne 16 = .ok (.getfield 301, 3) := by decide +kernel
theorem dX13_isLostOne_19 : decode cX13_isLostOne 19 = .ok (.if_icmp .ge 7, 3) := by decide +kernel
theorem dX13_isLostOne_22 : decode cX13_isLostOne 22 = .ok (.iconst 1, 1) := by decide +kernel
theorem dX13_isLostOne_23 : decode cX13_isLostOne 23 = .ok (.goto 4, 3) := by decide +kernel
theorem dX13_isLostOne_26 : decode cX13_isLostOne 26 = .ok (.iconst 0, 1) := by decide +kernel
theorem dX13_isLostOne_27 : decode cX13_isLostOne 27 = .ok (.ireturn, 1) := by decide +kernel
theorem dX13_fitAt_0 : decode cX13_fitAt 0 = .ok (.aload_n 0, 1) := by decide +kernel
theorem dX13_fitAt_1 : decode cX13_fitAt 1 = .ok (.iconst 0, 1) := by decide +kernel
theorem dX13_fitAt_2 : decode cX13_fitAt 2 = .ok (.putfield 42, 3) := by decide +kernel
theorem dX13_fitAt_5 : decode cX13_fitAt 5 = .ok (.aload_n 0, 1) := by decide +kernel
theorem dX13_fitAt_6 : decode cX13_fitAt 6 = .ok (.iload_n 2, 1) := by decide +kernel
theorem dX13_fitAt_7 : decode cX13_fitAt 7 = .ok (.invokevirtual 441, 3) := by decide +kernel
theorem dX13_fitAt_10 : decode cX13_fitAt 10 = .ok (.ifCond .eq 7, 3) := by decide +kernel
theorem dX13_fitAt_13 : decode cX13_fitAt 13 = .ok (.iload_n 1, 1) := by decide +kernel
theorem dX13_fitAt_14 : decode cX13_fitAt 14 = .ok (.ifCond .ge 9, 3) := by decide +kernel
theorem dX13_fitAt_17 : decode cX13_fitAt 17 = .ok (.aload_n 0, 1) := by decide +kernel
theorem dX13_fitAt_18 : decode cX13_fitAt 18 = .ok (.iconst 1, 1) := by decide +kernel
theorem dX13_fitAt_19 : decode cX13_fitAt 19 = .ok (.invokevirtual 48, 3) := by decide +kernel
theorem dX13_fitAt_22 : decode cX13_fitAt 22 = .ok (.ireturn, 1) := by decide +kernel
theorem dX13_fitAt_23 : decode cX13_fitAt 23 = .ok (.aload_n 0, 1) := by decide +kernel
theorem dX13_fitAt_24 : decode cX13_fitAt 24 = .ok (.iload_n 1, 1) := by decide +kernel
theorem dX13_fitAt_25 : decode cX13_fitAt 25 = .ok (.invokevirtual 438, 3) := by decide +kernel
theorem dX13_fitAt_28 : decode cX13_fitAt 28 = .ok (.aload_n 0, 1) := by decide +kernel
theorem dX13_fitAt_29 : decode cX13_fitAt 29 = .ok (.getfield 426, 3) := by decide +kernel
theorem dX13_fitAt_32 : decode cX13_fitAt 32 = .ok (.iconst (-1), 1) := by decide +kernel
theorem dX13_fitAt_33 : decode cX13_fitAt 33 = .ok (.if_icmp .ne 11, 3) := by decide +kernel
theorem dX13_fitAt_36 : decode cX13_fitAt 36 = .ok (.aload_n 0, 1) := by decide +kernel
theorem dX13_fitAt_37 : decode cX13_fitAt 37 = .ok (.iconst 1, 1) := by decide +kernel
theorem dX13_fitAt_38 : decode cX13_fitAt 38 = .ok (.invokevirtual 48, 3) := by decide +kernel
theorem dX13_fitAt_41 : decode cX13_fitAt 41 = .ok (.goto 16, 3) := by decide +kernel
theorem dX13_fitAt_44 : decode cX13_fitAt 44 = .ok (.aload_n 0, 1) := by decide +kernel
theorem dX13_fitAt_45 : decode cX13_fitAt 45 = .ok (.aload_n 0, 1) := by decide +kernel
theorem dX13_fitAt_46 : decode cX13_fitAt 46 = .ok (.aload_n 0, 1) := by decide +kernel
theorem dX13_fitAt_47 : decode cX13_fitAt 47 = .ok (.getfield 426, 3) := by decide +kernel
theorem dX13_fitAt_50 : decode cX13_fitAt 50 = .ok (.iload_n 2, 1) := by decide +kernel
theorem dX13_fitAt_51 : decode cX13_fitAt 51 = .ok (.invokevirtual 432, 3) := by decide +kernel
theorem dX13_fitAt_54 : decode cX13_fitAt 54 = .ok (.invokevirtual 52, 3) := by decide +kernel
theorem dX13_fitAt_57 : decode cX13_fitAt 57 = .ok (.ireturn, 1) := by decide +kernel
theorem dX13_hungBy_0 : decode cX13_hungBy 0 = .ok (.aload_n 0, 1) := by decide +kernel
theorem dX13_hungBy_1 : decode cX13_hungBy 1 = .ok (.iconst 0, 1) := by decide +kernel
theorem dX13_hungBy_2 : decode cX13_hungBy 2 = .ok (.putfield 42, 3) := by decide +kernel
theorem dX13_hungBy_5 : decode cX13_hungBy 5 = .ok (.aload_n 0, 1) := by decide +kernel
theorem dX13_hungBy_6 : decode cX13_hungBy 6 = .ok (.iload_n 1, 1) := by decide +kernel
theorem dX13_hungBy_7 : decode cX13_hungBy 7 = .ok (.invokevirtual 441, 3) := by decide +kernel
theorem dX13_hungBy_10 : decode cX13_hungBy 10 = .ok (.ifCond .ne 9, 3) := by decide +kernel
theorem dX13_hungBy_13 : decode cX13_hungBy 13 = .ok (.aload_n 0, 1) := by decide +kernel
theorem dX13_hungBy_14 : decode cX13_hungBy 14 = .ok (.iconst 1, 1) := by decide +kernel
theorem dX13_hungBy_15 : decode cX13_hungBy 15 = .ok (.invokevirtual 48, 3) := by decide +kernel
theorem dX13_hungBy_18 : decode cX13_hungBy 18 = .ok (.ireturn, 1) := by decide +kernel
theorem dX13_hungBy_19 : decode cX13_hungBy 19 = .ok (.iload_n 2, 1) := by decide +kernel
theorem dX13_hungBy_20 : decode cX13_hungBy 20 = .ok (.iconst 0, 1) := by decide +kernel
theorem dX13_hungBy_21 : decode cX13_hungBy 21 = .ok (.iconst 2, 1) := by decide +kernel
theorem dX13_hungBy_22 : decode cX13_hungBy 22 = .ok (.invokestatic 121, 3) := by decide +kernel
theorem dX13_hungBy_25 : decode cX13_hungBy 25 = .ok (.ifCond .ne 9, 3) := by decide +kernel
theorem dX13_hungBy_28 : decode cX13_hungBy 28 = .ok (.aload_n 0, 1) := by decide +kernel
theorem dX13_hungBy_29 : decode cX13_hungBy 29 = .ok (.iconst 2, 1) := by decide +kernel
theorem dX13_hungBy_30 : decode cX13_hungBy 30 = .ok (.invokevirtual 48, 3) := by decide +kernel
theorem dX13_hungBy_33 : decode cX13_hungBy 33 = .ok (.ireturn, 1) := by decide +kernel
theorem dX13_hungBy_34 : decode cX13_hungBy 34 = .ok (.aload_n 0, 1) := by decide +kernel
theorem dX13_hungBy_35 : decode cX13_hungBy 35 = .ok (.iconst (-1), 1) := by decide +kernel
theorem dX13_hungBy_36 : decode cX13_hungBy 36 = .ok (.invokevirtual 438, 3) := by decide +kernel
theorem dX13_hungBy_39 : decode cX13_hungBy 39 = .ok (.aload_n 0, 1) := by decide +kernel
theorem dX13_hungBy_40 : decode cX13_hungBy 40 = .ok (.aload_n 0, 1) := by decide +kernel
theorem dX13_hungBy_41 : decode cX13_hungBy 41 = .ok (.getfield 39, 3) := by decide +kernel
theorem dX13_hungBy_44 : decode cX13_hungBy 44 = .ok (.iconst 3, 1) := by decide +kernel
theorem dX13_hungBy_45 : decode cX13_hungBy 45 = .ok (.iload_n 1, 1) := by decide +kernel
theorem dX13_hungBy_46 : decode cX13_hungBy 46 = .ok (.imul, 1) := by decide +kernel
theorem dX13_hungBy_47 : decode cX13_hungBy 47 = .ok (.iload_n 2, 1) := by decide +kernel
theorem dX13_hungBy_48 : decode cX13_hungBy 48 = .ok (.iadd, 1) := by decide +kernel
theorem dX13_hungBy_49 : decode cX13_hungBy 49 = .ok (.iaload, 1) := by decide +kernel
theorem dX13_hungBy_50 : decode cX13_hungBy 50 = .ok (.invokevirtual 52, 3) := by decide +kernel
theorem dX13_hungBy_53 : decode cX13_hungBy 53 = .ok (.ireturn, 1) := by decide +kernel
theorem dX13_looks_0 : decode cX13_looks 0 = .ok (.aload_n 0, 1) := by decide +kernel
theorem dX13_looks_1 : decode cX13_looks 1 = .ok (.iconst (-1), 1) := by decide +kernel
theorem dX13_looks_2 : decode cX13_looks 2 = .ok (.invokevirtual 438, 3) := by decide +kernel
theorem dX13_looks_5 : decode cX13_looks 5 = .ok (.bipush (-2), 2) := by decide +kernel
theorem dX13_looks_7 : decode cX13_looks 7 = .ok (.istore_n 1, 1) := by decide +kernel
theorem dX13_looks_8 : decode cX13_looks 8 = .ok (.aload_n 0, 1) := by decide +kernel
theorem dX13_looks_9 : decode cX13_looks 9 = .ok (.bipush (-2), 2) := by decide +kernel
theorem dX13_looks_11 : decode cX13_looks 11 = .ok (.putfield 444, 3) := by decide +kernel
theorem dX13_looks_14 : decode cX13_looks 14 = .ok (.iconst 0, 1) := by decide +kernel
theorem dX13_looks_15 : decode cX13_looks 15 = .ok (.istore_n 2, 1) := by decide +kernel
theorem dX13_looks_16 : decode cX13_looks 16 = .ok (.iload_n 2, 1) := by decide +kernel
theorem dX13_looks_17 : decode cX13_looks 17 = .ok (.aload_n 0, 1) := by decide +kernel
theorem dX13_looks_18 : decode cX13_looks 18 = .ok (.getfield 321, 3) := by decide +kernel
theorem dX13_looks_21 : decode cX13_looks 21 = .ok (.getfield 301, 3) := by decide +kernel
theorem dX13_looks_24 : decode cX13_looks 24 = .ok (.if_icmp .ge 84, 3) := by decide +kernel
theorem dX13_looks_27 : decode cX13_looks 27 = .ok (.aload_n 0, 1) := by decide +kernel
theorem dX13_looks_28 : decode cX13_looks 28 = .ok (.getfield 423, 3) := by decide +kernel
theorem dX13_looks_31 : decode cX13_looks 31 = .ok (.ifCond .le 77, 3) := by decide +kernel
theorem dX13_looks_34 : decode cX13_looks 34 = .ok (.iconst 0, 1) := by decide +kernel
theorem dX13_looks_35 : decode cX13_looks 35 = .ok (.istore_n 3, 1) := by decide +kernel
theorem dX13_looks_36 : decode cX13_looks 36 = .ok (.iconst 0, 1) := by decide +kernel
theorem dX13_looks_37 : decode cX13_looks 37 = .ok (.istore 4, 2) := by decide +kernel
theorem dX13_looks_39 : decode cX13_looks 39 = .ok (.iload 4, 2) := by decide +kernel
theorem dX13_looks_41 : decode cX13_looks 41 = .ok (.iconst 3, 1) := by decide +kernel
theorem dX13_looks_42 : decode cX13_looks 42 = .ok (.if_icmp .ge 36, 3) := by decide +kernel
theorem dX13_looks_45 : decode cX13_looks 45 = .ok (.aload_n 0, 1) := by decide +kernel
theorem dX13_looks_46 : decode cX13_looks 46 = .ok (.getfield 39, 3) := by decide +kernel
theorem dX13_looks_49 : decode cX13_looks 49 = .ok (.iconst 3, 1) := by decide +kernel
theorem dX13_looks_50 : decode cX13_looks 50 = .ok (.iload_n 2, 1) := by decide +kernel
theorem dX13_looks_51 : decode cX13_looks 51 = .ok (.imul, 1) := by decide +kernel
theorem dX13_looks_52 : decode cX13_looks 52 = .ok (.iload 4, 2) := by decide +kernel
theorem dX13_looks_54 : decode cX13_looks 54 = .ok (.iadd, 1) := by decide +kernel
theorem dX13_looks_55 : decode cX13_looks 55 = .ok (.iaload, 1) := by decide +kernel
theorem dX13_looks_56 : decode cX13_looks 56 = .ok (.iload_n 3, 1) := by decide +kernel
theorem dX13_looks_57 : decode cX13_looks 57 = .ok (.if_icmp .le 15, 3) := by decide +kernel
theorem dX13_looks_60 : decode cX13_looks 60 = .ok (.aload_n 0, 1) := by decide +kernel
theorem dX13_looks_61 : decode cX13_looks 61 = .ok (.getfield 39, 3) := by decide +kernel
theorem dX13_looks_64 : decode cX13_looks 64 = .ok (.iconst 3, 1) := by decide +kernel
theorem dX13_looks_65 : decode cX13_looks 65 = .ok (.iload_n 2, 1) := by decide +kernel
theorem dX13_looks_66 : decode cX13_looks 66 = .ok (.imul, 1) := by decide +kernel
theorem dX13_looks_67 : decode cX13_looks 67 = .ok (.iload 4, 2) := by decide +kernel
theorem dX13_looks_69 : decode cX13_looks 69 = .ok (.iadd, 1) := by decide +kernel
theorem dX13_looks_70 : decode cX13_looks 70 = .ok (.iaload, 1) := by decide +kernel
theorem dX13_looks_71 : decode cX13_looks 71 = .ok (.istore_n 3, 1) := by decide +kernel
theorem dX13_looks_72 : decode cX13_looks 72 = .ok (.iinc 4 1, 3) := by decide +kernel
theorem dX13_looks_75 : decode cX13_looks 75 = .ok (.goto (-36), 3) := by decide +kernel
theorem dX13_looks_78 : decode cX13_looks 78 = .ok (.iload_n 1, 1) := by decide +kernel
theorem dX13_looks_79 : decode cX13_looks 79 = .ok (.bipush (-2), 2) := by decide +kernel
theorem dX13_looks_81 : decode cX13_looks 81 = .ok (.if_icmp .eq 14, 3) := by decide +kernel
theorem dX13_looks_84 : decode cX13_looks 84 = .ok (.iload_n 3, 1) := by decide +kernel
theorem dX13_looks_85 : decode cX13_looks 85 = .ok (.aload_n 0, 1) := by decide +kernel
theorem dX13_looks_86 : decode cX13_looks 86 = .ok (.getfield 444, 3) := by decide +kernel
theorem dX13_looks_89 : decode cX13_looks 89 = .ok (.if_icmp .lt 6, 3) := by decide +kernel
theorem dX13_looks_92 : decode cX13_looks 92 = .ok (.goto 10, 3) := by decide +kernel
theorem dX13_looks_95 : decode cX13_looks 95 = .ok (.iload_n 2, 1) := by decide +kernel
theorem dX13_looks_96 : decode cX13_looks 96 = .ok (.istore_n 1, 1) := by decide +kernel
theorem dX13_looks_97 : decode cX13_looks 97 = .ok (.aload_n 0, 1) := by decide +kernel
theorem dX13_looks_98 : decode cX13_looks 98 = .ok (.iload_n 3, 1) := by decide +kernel
theorem dX13_looks_99 : decode cX13_looks 99 = .ok (.putfield 444, 3) := by decide +kernel
theorem dX13_looks_102 : decode cX13_looks 102 = .ok (.iinc 2 1, 3) := by decide +kernel
theorem dX13_looks_105 : decode cX13_looks 105 = .ok (.goto (-89), 3) := by decide +kernel
theorem dX13_looks_108 : decode cX13_looks 108 = .ok (.iload_n 1, 1) := by decide +kernel
theorem dX13_looks_109 : decode cX13_looks 109 = .ok (.ireturn, 1) := by decide +kernel
theorem dX13_look_0 : decode cX13_look 0 = .ok (.aload_n 0, 1) := by decide +kernel
theorem dX13_look_1 : decode cX13_look 1 = .ok (.iconst 0, 1) := by decide +kernel
theorem dX13_look_2 : decode cX13_look 2 = .ok (.putfield 42, 3) := by decide +kernel
theorem dX13_look_5 : decode cX13_look 5 = .ok (.aload_n 0, 1) := by decide +kernel
theorem dX13_look_6 : decode cX13_look 6 = .ok (.getfield 321, 3) := by decide +kernel
theorem dX13_look_9 : decode cX13_look 9 = .ok (.ifnonnull 11, 3) := by decide +kernel
theorem dX13_look_12 : decode cX13_look 12 = .ok (.aload_n 0, 1) := by decide +kernel
theorem dX13_look_13 : decode cX13_look 13 = .ok (.iconst 1, 1) := by decide +kernel
theorem dX13_look_14 : decode cX13_look 14 = .ok (.invokevirtual 48, 3) := by decide +kernel
theorem dX13_look_17 : decode cX13_look 17 = .ok (.goto 11, 3) := by decide +kernel
theorem dX13_look_20 : decode cX13_look 20 = .ok (.aload_n 0, 1) := by decide +kernel
theorem dX13_look_21 : decode cX13_look 21 = .ok (.aload_n 0, 1) := by decide +kernel
theorem dX13_look_22 : decode cX13_look 22 = .ok (.invokevirtual 447, 3) := by decide +kernel
theorem dX13_look_25 : decode cX13_look 25 = .ok (.invokevirtual 52, 3) := by decide +kernel
theorem dX13_look_28 : decode cX13_look 28 = .ok (.ireturn, 1) := by decide +kernel
theorem dX13_lookLeaves_0 : decode cX13_lookLeaves 0 = .ok (.aload_n 0, 1) := by decide +kernel
theorem dX13_lookLeaves_1 : decode cX13_lookLeaves 1 = .ok (.iconst 0, 1) := by decide +kernel
theorem dX13_lookLeaves_2 : decode cX13_lookLeaves 2 = .ok (.putfield 42, 3) := by decide +kernel
theorem dX13_lookLeaves_5 : decode cX13_lookLeaves 5 = .ok (.aload_n 0, 1) := by decide +kernel
theorem dX13_lookLeaves_6 : decode cX13_lookLeaves 6 = .ok (.getfield 321, 3) := by decide +kernel
theorem dX13_lookLeaves_9 : decode cX13_lookLeaves 9 = .ok (.ifnonnull 9, 3) := by decide +kernel
theorem dX13_lookLeaves_12 : decode cX13_lookLeaves 12 = .ok (.aload_n 0, 1) := by decide +kernel
theorem dX13_lookLeaves_13 : decode cX13_lookLeaves 13 = .ok (.iconst 1, 1) := by decide +kernel
theorem dX13_lookLeaves_14 : decode cX13_lookLeaves 14 = .ok (.invokevirtual 48, 3) := by decide +kernel
theorem dX13_lookLeaves_17 : decode cX13_lookLeaves 17 = .ok (.ireturn, 1) := by decide +kernel
theorem dX13_lookLeaves_18 : decode cX13_lookLeaves 18 = .ok (.aload_n 0, 1) := by decide +kernel
theorem dX13_lookLeaves_19 : decode cX13_lookLeaves 19 = .ok (.invokevirtual 447, 3) := by decide +kernel
theorem dX13_lookLeaves_22 : decode cX13_lookLeaves 22 = .ok (.pop, 1) := by decide +kernel
theorem dX13_lookLeaves_23 : decode cX13_lookLeaves 23 = .ok (.aload_n 0, 1) := by decide +kernel
theorem dX13_lookLeaves_24 : decode cX13_lookLeaves 24 = .ok (.aload_n 0, 1) := by decide +kernel
theorem dX13_lookLeaves_25 : decode cX13_lookLeaves 25 = .ok (.getfield 444, 3) := by decide +kernel
theorem dX13_lookLeaves_28 : decode cX13_lookLeaves 28 = .ok (.invokevirtual 52, 3) := by decide +kernel
theorem dX13_lookLeaves_31 : decode cX13_lookLeaves 31 = .ok (.ireturn, 1) := by decide +kernel
theorem dX13_judge_0 : decode cX13_judge 0 = .ok (.aload_n 0, 1) := by decide +kernel
theorem dX13_judge_1 : decode cX13_judge 1 = .ok (.iconst 0, 1) := by decide +kernel
theorem dX13_judge_2 : decode cX13_judge 2 = .ok (.putfield 42, 3) := by decide +kernel
theorem dX13_judge_5 : decode cX13_judge 5 = .ok (.aload_n 0, 1) := by decide +kernel
theorem dX13_judge_6 : decode cX13_judge 6 = .ok (.getfield 321, 3) := by decide +kernel
theorem dX13_judge_9 : decode cX13_judge 9 = .ok (.ifnonnull 9, 3) := by decide +kernel
theorem dX13_judge_12 : decode cX13_judge 12 = .ok (.aload_n 0, 1) := by decide +kernel
theorem dX13_judge_13 : decode cX13_judge 13 = .ok (.iconst 1, 1) := by decide +kernel
theorem dX13_judge_14 : decode cX13_judge 14 = .ok (.invokevirtual 48, 3) := by decide +kernel
theorem dX13_judge_17 : decode cX13_judge 17 = .ok (.ireturn, 1) := by decide +kernel
theorem dX13_judge_18 : decode cX13_judge 18 = .ok (.aload_n 0, 1) := by decide +kernel
theorem dX13_judge_19 : decode cX13_judge 19 = .ok (.invokevirtual 323, 3) := by decide +kernel
theorem dX13_judge_22 : decode cX13_judge 22 = .ok (.aload_n 0, 1) := by decide +kernel
theorem dX13_judge_23 : decode cX13_judge 23 = .ok (.aload_n 0, 1) := by decide +kernel
theorem dX13_judge_24 : decode cX13_judge 24 = .ok (.invokevirtual 435, 3) := by decide +kernel
theorem dX13_judge_27 : decode cX13_judge 27 = .ok (.invokevirtual 52, 3) := by decide +kernel
theorem dX13_judge_30 : decode cX13_judge 30 = .ok (.ireturn, 1) := by decide +kernel
theorem dX13_around_0 : decode cX13_around 0 = .ok (.iload_n 1, 1) := by decide +kernel
theorem dX13_around_1 : decode cX13_around 1 = .ok (.istore_n 2, 1) := by decide +kernel
theorem dX13_around_2 : decode cX13_around 2 = .ok (.iconst 0, 1) := by decide +kernel
theorem dX13_around_3 : decode cX13_around 3 = .ok (.istore_n 3, 1) := by decide +kernel
theorem dX13_around_4 : decode cX13_around 4 = .ok (.iload_n 3, 1) := by decide +kernel
theorem dX13_around_5 : decode cX13_around 5 = .ok (.aload_n 0, 1) := by decide +kernel
theorem dX13_around_6 : decode cX13_around 6 = .ok (.getfield 321, 3) := by decide +kernel
theorem dX13_around_9 : decode cX13_around 9 = .ok (.getfield 191, 3) := by decide +kernel
theorem dX13_around_12 : decode cX13_around 12 = .ok (.if_icmp .ge 33, 3) := by decide +kernel
theorem dX13_around_15 : decode cX13_around 15 = .ok (.iload_n 2, 1) := by decide +kernel
theorem dX13_around_16 : decode cX13_around 16 = .ok (.iload_n 1, 1) := by decide +kernel
theorem dX13_around_17 : decode cX13_around 17 = .ok (.iload_n 3, 1) := by decide +kernel
theorem dX13_around_18 : decode cX13_around 18 = .ok (.invokestatic 249, 3) := by decide +kernel
theorem dX13_around_21 : decode cX13_around 21 = .ok (.ifCond .eq 15, 3) := by decide +kernel
theorem dX13_around_24 : decode cX13_around 24 = .ok (.aload_n 0, 1) := by decide +kernel
theorem dX13_around_25 : decode cX13_around 25 = .ok (.getfield 321, 3) := by decide +kernel
theorem dX13_around_28 : decode cX13_around 28 = .ok (.getfield 288, 3) := by decide +kernel
theorem dX13_around_31 : decode cX13_around 31 = .ok (.iload_n 3, 1) := by decide +kernel
theorem dX13_around_32 : decode cX13_around 32 = .ok (.iaload, 1) := by decide +kernel
theorem dX13_around_33 : decode cX13_around 33 = .ok (.goto 4, 3) := by decide +kernel
theorem dX13_around_36 : decode cX13_around 36 = .ok (.iconst 0, 1) := by decide +kernel
theorem dX13_around_37 : decode cX13_around 37 = .ok (.ior, 1) := by decide +kernel
theorem dX13_around_38 : decode cX13_around 38 = .ok (.istore_n 2, 1) := by decide +kernel
theorem dX13_around_39 : decode cX13_around 39 = .ok (.iinc 3 1, 3) := by decide +kernel
theorem dX13_around_42 : decode cX13_around 42 = .ok (.goto (-38), 3) := by decide +kernel
theorem dX13_around_45 : decode cX13_around 45 = .ok (.iload_n 2, 1) := by decide +kernel
theorem dX13_around_46 : decode cX13_around 46 = .ok (.ireturn, 1) := by decide +kernel
theorem dX13_steps_0 : decode cX13_steps 0 = .ok (.iconst 1, 1) := by decide +kernel
theorem dX13_steps_1 : decode cX13_steps 1 = .ok (.iload_n 1, 1) := by decide +kernel
theorem dX13_steps_2 : decode cX13_steps 2 = .ok (.ishl, 1) := by decide +kernel
theorem dX13_steps_3 : decode cX13_steps 3 = .ok (.istore_n 3, 1) := by decide +kernel
theorem dX13_steps_4 : decode cX13_steps 4 = .ok (.iconst 0, 1) := by decide +kernel
theorem dX13_steps_5 : decode cX13_steps 5 = .ok (.istore 4, 2) := by decide +kernel
theorem dX13_steps_7 : decode cX13_steps 7 = .ok (.iload 4, 2) := by decide +kernel
theorem dX13_steps_9 : decode cX13_steps 9 = .ok (.aload_n 0, 1) := by decide +kernel
theorem dX13_steps_10 : decode cX13_steps 10 = .ok (.getfield 321, 3) := by decide +kernel
theorem dX13_steps_13 : decode cX13_steps 13 = .ok (.getfield 191, 3) := by decide +kernel
theorem dX13_steps_16 : decode cX13_steps 16 = .ok (.if_icmp .ge 26, 3) := by decide +kernel
theorem dX13_steps_19 : decode cX13_steps 19 = .ok (.iload_n 3, 1) := by decide +kernel
theorem dX13_steps_20 : decode cX13_steps 20 = .ok (.iload_n 2, 1) := by decide +kernel
theorem dX13_steps_21 : decode cX13_steps 21 = .ok (.invokestatic 249, 3) := by decide +kernel
theorem dX13_steps_24 : decode cX13_steps 24 = .ok (.ifCond .eq 6, 3) := by decide +kernel
theorem dX13_steps_27 : decode cX13_steps 27 = .ok (.iload 4, 2) := by decide +kernel
theorem dX13_steps_29 : decode cX13_steps 29 = .ok (.ireturn, 1) := by decide +kernel
theorem dX13_steps_30 : decode cX13_steps 30 = .ok (.aload_n 0, 1) := by decide +kernel
theorem dX13_steps_31 : decode cX13_steps 31 = .ok (.iload_n 3, 1) := by decide +kernel
theorem dX13_steps_32 : decode cX13_steps 32 = .ok (.invokevirtual 450, 3) := by decide +kernel
theorem dX13_steps_35 : decode cX13_steps 35 = .ok (.istore_n 3, 1) := by decide +kernel
theorem dX13_steps_36 : decode cX13_steps 36 = .ok (.iinc 4 1, 3) := by decide +kernel
theorem dX13_steps_39 : decode cX13_steps 39 = .ok (.goto (-32), 3) := by decide +kernel
theorem dX13_steps_42 : decode cX13_steps 42 = .ok (.bipush (-2), 2) := by decide +kernel
theorem dX13_steps_44 : decode cX13_steps 44 = .ok (.ireturn, 1) := by decide +kernel
theorem dX13_apart_0 : decode cX13_apart 0 = .ok (.aload_n 0, 1) := by decide +kernel
theorem dX13_apart_1 : decode cX13_apart 1 = .ok (.iconst 0, 1) := by decide +kernel
theorem dX13_apart_2 : decode cX13_apart 2 = .ok (.putfield 42, 3) := by decide +kernel
theorem dX13_apart_5 : decode cX13_apart 5 = .ok (.aload_n 0, 1) := by decide +kernel
theorem dX13_apart_6 : decode cX13_apart 6 = .ok (.iload_n 1, 1) := by decide +kernel
theorem dX13_apart_7 : decode cX13_apart 7 = .ok (.invokevirtual 345, 3) := by decide +kernel
theorem dX13_apart_10 : decode cX13_apart 10 = .ok (.ifCond .eq 24, 3) := by decide +kernel
theorem dX13_apart_13 : decode cX13_apart 13 = .ok (.aload_n 0, 1) := by decide +kernel
theorem dX13_apart_14 : decode cX13_apart 14 = .ok (.iload_n 2, 1) := by decide +kernel
theorem dX13_apart_15 : decode cX13_apart 15 = .ok (.invokevirtual 345, 3) := by decide +kernel
theorem dX13_apart_18 : decode cX13_apart 18 = .ok (.ifCond .eq 16, 3) := by decide +kernel
theorem dX13_apart_21 : decode cX13_apart 21 = .ok (.aload_n 0, 1) := by decide +kernel
theorem dX13_apart_22 : decode cX13_apart 22 = .ok (.aload_n 0, 1) := by decide +kernel
theorem dX13_apart_23 : decode cX13_apart 23 = .ok (.iload_n 1, 1) := by decide +kernel
theorem dX13_apart_24 : decode cX13_apart 24 = .ok (.iload_n 2, 1) := by decide +kernel
theorem dX13_apart_25 : decode cX13_apart 25 = .ok (.invokevirtual 453, 3) := by decide +kernel
theorem dX13_apart_28 : decode cX13_apart 28 = .ok (.invokevirtual 52, 3) := by decide +kernel
theorem dX13_apart_31 : decode cX13_apart 31 = .ok (.goto 8, 3) := by decide +kernel
theorem dX13_apart_34 : decode cX13_apart 34 = .ok (.aload_n 0, 1) := by decide +kernel
theorem dX13_apart_35 : decode cX13_apart 35 = .ok (.iconst 1, 1) := by decide +kernel
theorem dX13_apart_36 : decode cX13_apart 36 = .ok (.invokevirtual 48, 3) := by decide +kernel
theorem dX13_apart_39 : decode cX13_apart 39 = .ok (.ireturn, 1) := by decide +kernel
theorem dX13_sentries_0 : decode cX13_sentries 0 = .ok (.aload_n 0, 1) := by decide +kernel
theorem dX13_sentries_1 : decode cX13_sentries 1 = .ok (.iconst 0, 1) := by decide +kernel
theorem dX13_sentries_2 : decode cX13_sentries 2 = .ok (.putfield 42, 3) := by decide +kernel
theorem dX13_sentries_5 : decode cX13_sentries 5 = .ok (.aload_n 0, 1) := by decide +kernel
theorem dX13_sentries_6 : decode cX13_sentries 6 = .ok (.getfield 321, 3) := by decide +kernel
theorem dX13_sentries_9 : decode cX13_sentries 9 = .ok (.ifnonnull 9, 3) := by decide +kernel
theorem dX13_sentries_12 : decode cX13_sentries 12 = .ok (.aload_n 0, 1) := by decide +kernel
theorem dX13_sentries_13 : decode cX13_sentries 13 = .ok (.iconst 1, 1) := by decide +kernel
theorem dX13_sentries_14 : decode cX13_sentries 14 = .ok (.invokevirtual 48, 3) := by decide +kernel
theorem dX13_sentries_17 : decode cX13_sentries 17 = .ok (.ireturn, 1) := by decide +kernel
theorem dX13_sentries_18 : decode cX13_sentries 18 = .ok (.iconst 1, 1) := by decide +kernel
theorem dX13_sentries_19 : decode cX13_sentries 19 = .ok (.aload_n 0, 1) := by decide +kernel
theorem dX13_sentries_20 : decode cX13_sentries 20 = .ok (.getfield 321, 3) := by decide +kernel
theorem dX13_sentries_23 : decode cX13_sentries 23 = .ok (.getfield 191, 3) := by decide +kernel
theorem dX13_sentries_26 : decode cX13_sentries 26 = .ok (.ishl, 1) := by decide +kernel
theorem dX13_sentries_27 : decode cX13_sentries 27 = .ok (.iconst 1, 1) := by decide +kernel
theorem dX13_sentries_28 : decode cX13_sentries 28 = .ok (.isub, 1) := by decide +kernel
theorem dX13_sentries_29 : decode cX13_sentries 29 = .ok (.istore_n 1, 1) := by decide +kernel
theorem dX13_sentries_30 : decode cX13_sentries 30 = .ok (.iload_n 1, 1) := by decide +kernel
theorem dX13_sentries_31 : decode cX13_sentries 31 = .ok (.istore_n 2, 1) := by decide +kernel
theorem dX13_sentries_32 : decode cX13_sentries 32 = .ok (.iconst 0, 1) := by decide +kernel
theorem dX13_sentries_33 : decode cX13_sentries 33 = .ok (.istore_n 3, 1) := by decide +kernel
theorem dX13_sentries_34 : decode cX13_sentries 34 = .ok (.iload_n 3, 1) := by decide +kernel
theorem dX13_sentries_35 : decode cX13_sentries 35 = .ok (.iload_n 1, 1) := by decide +kernel
theorem dX13_sentries_36 : decode cX13_sentries 36 = .ok (.if_icmp .gt 31, 3) := by decide +kernel
theorem dX13_sentries_39 : decode cX13_sentries 39 = .ok (.iload_n 3, 1) := by decide +kernel
theorem dX13_sentries_40 : decode cX13_sentries 40 = .ok (.invokestatic 335, 3) := by decide +kernel
theorem dX13_sentries_43 : decode cX13_sentries 43 = .ok (.iload_n 2, 1) := by decide +kernel
theorem dX13_sentries_44 : decode cX13_sentries 44 = .ok (.invokestatic 335, 3) := by decide +kernel
theorem dX13_sentries_47 : decode cX13_sentries 47 = .ok (.if_icmp .ge 14, 3) := by decide +kernel
theorem dX13_sentries_50 : decode cX13_sentries 50 = .ok (.aload_n 0, 1) := by decide +kernel
theorem dX13_sentries_51 : decode cX13_sentries 51 = .ok (.iload_n 3, 1) := by decide +kernel
theorem dX13_sentries_52 : decode cX13_sentries 52 = .ok (.invokevirtual 450, 3) := by decide +kernel
theorem dX13_sentries_55 : decode cX13_sentries 55 = .ok (.iload_n 1, 1) := by decide +kernel
theorem dX13_sentries_56 : decode cX13_sentries 56 = .ok (.if_icmp .ne 5, 3) := by decide +kernel
theorem dX13_sentries_59 : decode cX13_sentries 59 = .ok (.iload_n 3, 1) := by decide +kernel
theorem dX13_sentries_60 : decode cX13_sentries 60 = .ok (.istore_n 2, 1) := by decide +kernel
theorem dX13_sentries_61 : decode cX13_sentries 61 = .ok (.iinc 3 1, 3) := by decide +kernel
theorem dX13_sentries_64 : decode cX13_sentries 64 = .ok (.goto (-30), 3) := by decide +kernel
theorem dX13_sentries_67 : decode cX13_sentries 67 = .ok (.aload_n 0, 1) := by decide +kernel
theorem dX13_sentries_68 : decode cX13_sentries 68 = .ok (.iload_n 2, 1) := by decide +kernel
theorem dX13_sentries_69 : decode cX13_sentries 69 = .ok (.invokevirtual 52, 3) := by decide +kernel
theorem dX13_sentries_72 : decode cX13_sentries 72 = .ok (.ireturn, 1) := by decide +kernel
theorem dX13_parts_0 : decode cX13_parts 0 = .ok (.aload_n 0, 1) := by decide +kernel
theorem dX13_parts_1 : decode cX13_parts 1 = .ok (.iconst 0, 1) := by decide +kernel
theorem dX13_parts_2 : decode cX13_parts 2 = .ok (.putfield 42, 3) := by decide +kernel
theorem dX13_parts_5 : decode cX13_parts 5 = .ok (.aload_n 0, 1) := by decide +kernel
theorem dX13_parts_6 : decode cX13_parts 6 = .ok (.getfield 321, 3) := by decide +kernel
theorem dX13_parts_9 : decode cX13_parts 9 = .ok (.ifnonnull 9, 3) := by decide +kernel
theorem dX13_parts_12 : decode cX13_parts 12 = .ok (.aload_n 0, 1) := by decide +kernel
theorem dX13_parts_13 : decode cX13_parts 13 = .ok (.iconst 1, 1) := by decide +kernel
theorem dX13_parts_14 : decode cX13_parts 14 = .ok (.invokevirtual 48, 3) := by decide +kernel
theorem dX13_parts_17 : decode cX13_parts 17 = .ok (.ireturn, 1) := by decide +kernel
theorem dX13_parts_18 : decode cX13_parts 18 = .ok (.iconst 0, 1) := by decide +kernel
theorem dX13_parts_19 : decode cX13_parts 19 = .ok (.istore_n 1, 1) := by decide +kernel
theorem dX13_parts_20 : decode cX13_parts 20 = .ok (.iconst 0, 1) := by decide +kernel
theorem dX13_parts_21 : decode cX13_parts 21 = .ok (.istore_n 2, 1) := by decide +kernel
theorem dX13_parts_22 : decode cX13_parts 22 = .ok (.iload_n 2, 1) := by decide +kernel
theorem dX13_parts_23 : decode cX13_parts 23 = .ok (.aload_n 0, 1) := by decide +kernel
theorem dX13_parts_24 : decode cX13_parts 24 = .ok (.getfield 321, 3) := by decide +kernel
theorem dX13_parts_27 : decode cX13_parts 27 = .ok (.getfield 191, 3) := by decide +kernel
theorem dX13_parts_30 : decode cX13_parts 30 = .ok (.if_icmp .ge 52, 3) := by decide +kernel
theorem dX13_parts_33 : decode cX13_parts 33 = .ok (.iconst 1, 1) := by decide +kernel
theorem dX13_parts_34 : decode cX13_parts 34 = .ok (.istore_n 3, 1) := by decide +kernel
theorem dX13_parts_35 : decode cX13_parts 35 = .ok (.iconst 0, 1) := by decide +kernel
theorem dX13_parts_36 : decode cX13_parts 36 = .ok (.istore 4, 2) := by decide +kernel
theorem dX13_parts_38 : decode cX13_parts 38 = .ok (.iload 4, 2) := by decide +kernel
theorem dX13_parts_40 : decode cX13_parts 40 = .ok (.iload_n 2, 1) := by decide +kernel
theorem dX13_parts_41 : decode cX13_parts 41 = .ok (.if_icmp .ge 23, 3) := by decide +kernel
theorem dX13_parts_44 : decode cX13_parts 44 = .ok (.aload_n 0, 1) := by decide +kernel
theorem dX13_parts_45 : decode cX13_parts 45 = .ok (.iload 4, 2) := by decide +kernel
theorem dX13_parts_47 : decode cX13_parts 47 = .ok (.iload_n 2, 1) := by decide +kernel
theorem dX13_parts_48 : decode cX13_parts 48 = .ok (.invokevirtual 453, 3) := by decide +kernel
theorem dX13_parts_51 : decode cX13_parts 51 = .ok (.bipush (-2), 2) := by decide +kernel
theorem dX13_parts_53 : decode cX13_parts 53 = .ok (.if_icmp .eq 5, 3) := by decide +kernel
theorem dX13_parts_56 : decode cX13_parts 56 = .ok (.iconst 0, 1) := by decide +kernel
theorem dX13_parts_57 : decode cX13_parts 57 = .ok (.istore_n 3, 1) := by decide +kernel
theorem dX13_parts_58 : decode cX13_parts 58 = .ok (.iinc 4 1, 3) := by decide +kernel
theorem dX13_parts_61 : decode cX13_parts 61 = .ok (.goto (-23), 3) := by decide +kernel
theorem dX13_parts_64 : decode cX13_parts 64 = .ok (.iload_n 1, 1) := by decide +kernel
theorem dX13_parts_65 : decode cX13_parts 65 = .ok (.iload_n 3, 1) := by decide +kernel
theorem dX13_parts_66 : decode cX13_parts 66 = .ok (.ifCond .eq 7, 3) := by decide +kernel
theorem dX13_parts_69 : decode cX13_parts 69 = .ok (.iconst 1, 1) := by decide +kernel
theorem dX13_parts_70 : decode cX13_parts 70 = .ok (.goto 4, 3) := by decide +kernel
theorem dX13_parts_73 : decode cX13_parts 73 = .ok (.iconst 0, 1) := by decide +kernel
theorem dX13_parts_74 : decode cX13_parts 74 = .ok (.iadd, 1) := by decide +kernel
theorem dX13_parts_75 : decode cX13_parts 75 = .ok (.istore_n 1, 1) := by decide +kernel
theorem dX13_parts_76 : decode cX13_parts 76 = .ok (.iinc 2 1, 3) := by decide +kernel
theorem dX13_parts_79 : decode cX13_parts 79 = .ok (.goto (-57), 3) := by decide +kernel
theorem dX13_parts_82 : decode cX13_parts 82 = .ok (.aload_n 0, 1) := by decide +kernel
theorem dX13_parts_83 : decode cX13_parts 83 = .ok (.iload_n 1, 1) := by decide +kernel
theorem dX13_parts_84 : decode cX13_parts 84 = .ok (.invokevirtual 52, 3) := by decide +kernel
theorem dX13_parts_87 : decode cX13_parts 87 = .ok (.ireturn, 1) := by decide +kernel
theorem dX13_estate_0 : decode cX13_estate 0 = .ok (.aload_n 0, 1) := by decide +kernel
theorem dX13_estate_1 : decode cX13_estate 1 = .ok (.iconst 0, 1) := by decide +kernel
theorem dX13_estate_2 : decode cX13_estate 2 = .ok (.putfield 42, 3) := by decide +kernel
theorem dX13_estate_5 : decode cX13_estate 5 = .ok (.aload_n 0, 1) := by decide +kernel
theorem dX13_estate_6 : decode cX13_estate 6 = .ok (.iload_n 1, 1) := by decide +kernel
theorem dX13_estate_7 : decode cX13_estate 7 = .ok (.invokevirtual 351, 3) := by decide +kernel
theorem dX13_estate_10 : decode cX13_estate 10 = .ok (.ifCond .eq 11, 3) := by decide +kernel
theorem dX13_estate_13 : decode cX13_estate 13 = .ok (.aload_n 0, 1) := by decide +kernel
theorem dX13_estate_14 : decode cX13_estate 14 = .ok (.iload_n 2, 1) := by decide +kernel
theorem dX13_estate_15 : decode cX13_estate 15 = .ok (.invokevirtual 345, 3) := by decide +kernel
theorem dX13_estate_18 : decode cX13_estate 18 = .ok (.ifCond .ne 9, 3) := by decide +kernel
theorem dX13_estate_21 : decode cX13_estate 21 = .ok (.aload_n 0, 1) := by decide +kernel
theorem dX13_estate_22 : decode cX13_estate 22 = .ok (.iconst 1, 1) := by decide +kernel
theorem dX13_estate_23 : decode cX13_estate 23 = .ok (.invokevirtual 48, 3) := by decide +kernel
theorem dX13_estate_26 : decode cX13_estate 26 = .ok (.ireturn, 1) := by decide +kernel
theorem dX13_estate_27 : decode cX13_estate 27 = .ok (.aload_n 0, 1) := by decide +kernel
theorem dX13_estate_28 : decode cX13_estate 28 = .ok (.invokevirtual 348, 3) := by decide +kernel
theorem dX13_estate_31 : decode cX13_estate 31 = .ok (.aload_n 0, 1) := by decide +kernel
theorem dX13_estate_32 : decode cX13_estate 32 = .ok (.iload_n 1, 1) := by decide +kernel
theorem dX13_estate_33 : decode cX13_estate 33 = .ok (.invokevirtual 357, 3) := by decide +kernel
theorem dX13_estate_36 : decode cX13_estate 36 = .ok (.istore_n 3, 1) := by decide +kernel
theorem dX13_estate_37 : decode cX13_estate 37 = .ok (.iload_n 3, 1) := by decide +kernel
theorem dX13_estate_38 : decode cX13_estate 38 = .ok (.iconst 1, 1) := by decide +kernel
theorem dX13_estate_39 : decode cX13_estate 39 = .ok (.iload_n 2, 1) := by decide +kernel
theorem dX13_estate_40 : decode cX13_estate 40 = .ok (.ishl, 1) := by decide +kernel
theorem dX13_estate_41 : decode cX13_estate 41 = .ok (.iand, 1) := by decide +kernel
theorem dX13_estate_42 : decode cX13_estate 42 = .ok (.istore 4, 2) := by decide +kernel
theorem dX13_estate_44 : decode cX13_estate 44 = .ok (.iconst 0, 1) := by decide +kernel
theorem dX13_estate_45 : decode cX13_estate 45 = .ok (.istore 5, 2) := by decide +kernel
theorem dX13_estate_47 : decode cX13_estate 47 = .ok (.iload 5, 2) := by decide +kernel
theorem dX13_estate_49 : decode cX13_estate 49 = .ok (.aload_n 0, 1) := by decide +kernel
theorem dX13_estate_50 : decode cX13_estate 50 = .ok (.getfield 321, 3) := by decide +kernel
theorem dX13_estate_53 : decode cX13_estate 53 = .ok (.getfield 191, 3) := by decide +kernel
theorem dX13_estate_56 : decode cX13_estate 56 = .ok (.if_icmp .ge 19, 3) := by decide +kernel
theorem dX13_estate_59 : decode cX13_estate 59 = .ok (.aload_n 0, 1) := by decide +kernel
theorem dX13_estate_60 : decode cX13_estate 60 = .ok (.iload 4, 2) := by decide +kernel
theorem dX13_estate_62 : decode cX13_estate 62 = .ok (.invokevirtual 450, 3) := by decide +kernel
theorem dX13_estate_65 : decode cX13_estate 65 = .ok (.iload_n 3, 1) := by decide +kernel
theorem dX13_estate_66 : decode cX13_estate 66 = .ok (.iand, 1) := by decide +kernel
theorem dX13_estate_67 : decode cX13_estate 67 = .ok (.istore 4, 2) := by decide +kernel
theorem dX13_estate_69 : decode cX13_estate 69 = .ok (.iinc 5 1, 3) := by decide +kernel
theorem dX13_estate_72 : decode cX13_estate 72 = .ok (.goto (-25), 3) := by decide +kernel
theorem dX13_estate_75 : decode cX13_estate 75 = .ok (.iconst 0, 1) := by decide +kernel
theorem dX13_estate_76 : decode cX13_estate 76 = .ok (.istore 5, 2) := by decide +kernel
theorem dX13_estate_78 : decode cX13_estate 78 = .ok (.iconst 0, 1) := by decide +kernel
theorem dX13_estate_79 : decode cX13_estate 79 = .ok (.istore 6, 2) := by decide +kernel
theorem dX13_estate_81 : decode cX13_estate 81 = .ok (.iload 6, 2) := by decide +kernel
theorem dX13_estate_83 : decode cX13_estate 83 = .ok (.aload_n 0, 1) := by decide +kernel
theorem dX13_estate_84 : decode cX13_estate 84 = .ok (.getfield 321, 3) := by decide +kernel
theorem dX13_estate_87 : decode cX13_estate 87 = .ok (.getfield 191, 3) := by decide +kernel
theorem dX13_estate_90 : decode cX13_estate 90 = .ok (.if_icmp .ge 42, 3) := by decide +kernel
theorem dX13_estate_93 : decode cX13_estate 93 = .ok (.iload 5, 2) := by decide +kernel
theorem dX13_estate_95 : decode cX13_estate 95 = .ok (.iload 4, 2) := by decide +kernel
theorem dX13_estate_97 : decode cX13_estate 97 = .ok (.iload 6, 2) := by decide +kernel
theorem dX13_estate_99 : decode cX13_estate 99 = .ok (.invokestatic 249, 3) := by decide +kernel
theorem dX13_estate_102 : decode cX13_estate 102 = .ok (.ifCond .eq 20, 3) := by decide +kernel
theorem dX13_estate_105 : decode cX13_estate 105 = .ok (.aload_n 0, 1) := by decide +kernel
theorem dX13_estate_106 : decode cX13_estate 106 = .ok (.iload_n 1, 1) := by decide +kernel
theorem dX13_estate_107 : decode cX13_estate 107 = .ok (.iload 6, 2) := by decide +kernel
theorem dX13_estate_109 : decode cX13_estate 109 = .ok (.aload_n 0, 1) := by decide +kernel
theorem dX13_estate_110 : decode cX13_estate 110 = .ok (.getfield 21, 3) := by decide +kernel
theorem dX13_estate_113 : decode cX13_estate 113 = .ok (.iload 6, 2) := by decide +kernel
theorem dX13_estate_115 : decode cX13_estate 115 = .ok (.iaload, 1) := by decide +kernel
theorem dX13_estate_116 : decode cX13_estate 116 = .ok (.invokevirtual 338, 3) := by decide +kernel
theorem dX13_estate_119 : decode cX13_estate 119 = .ok (.goto 4, 3) := by decide +kernel
theorem dX13_estate_122 : decode cX13_estate 122 = .ok (.iconst 0, 1) := by decide +kernel
theorem dX13_estate_123 : decode cX13_estate 123 = .ok (.iadd, 1) := by decide +kernel
theorem dX13_estate_124 : decode cX13_estate 124 = .ok (.istore 5, 2) := by decide +kernel
theorem dX13_estate_126 : decode cX13_estate 126 = .ok (.iinc 6 1, 3) := by decide +kernel
theorem dX13_estate_129 : decode cX13_estate 129 = .ok (.goto (-48), 3) := by decide +kernel
theorem dX13_estate_132 : decode cX13_estate 132 = .ok (.aload_n 0, 1) := by decide +kernel
theorem dX13_estate_133 : decode cX13_estate 133 = .ok (.iload 5, 2) := by decide +kernel
theorem dX13_estate_135 : decode cX13_estate 135 = .ok (.invokevirtual 52, 3) := by decide +kernel
theorem dX13_estate_138 : decode cX13_estate 138 = .ok (.ireturn, 1) := by decide +kernel
theorem dX13_votes_0 : decode cX13_votes 0 = .ok (.iconst 0, 1) := by decide +kernel
theorem dX13_votes_1 : decode cX13_votes 1 = .ok (.istore_n 2, 1) := by decide +kernel
theorem dX13_votes_2 : decode cX13_votes 2 = .ok (.iconst 0, 1) := by decide +kernel
theorem dX13_votes_3 : decode cX13_votes 3 = .ok (.istore_n 3, 1) := by decide +kernel
theorem dX13_votes_4 : decode cX13_votes 4 = .ok (.iload_n 3, 1) := by decide +kernel
theorem dX13_votes_5 : decode cX13_votes 5 = .ok (.aload_n 0, 1) := by decide +kernel
theorem dX13_votes_6 : decode cX13_votes 6 = .ok (.getfield 321, 3) := by decide +kernel
theorem dX13_votes_9 : decode cX13_votes 9 = .ok (.getfield 229, 3) := by decide +kernel
theorem dX13_votes_12 : decode cX13_votes 12 = .ok (.if_icmp .ge 29, 3) := by decide +kernel
theorem dX13_votes_15 : decode cX13_votes 15 = .ok (.iload_n 2, 1) := by decide +kernel
theorem dX13_votes_16 : decode cX13_votes 16 = .ok (.iload_n 1, 1) := by decide +kernel
theorem dX13_votes_17 : decode cX13_votes 17 = .ok (.iload_n 3, 1) := by decide +kernel
theorem dX13_votes_18 : decode cX13_votes 18 = .ok (.invokestatic 249, 3) := by decide +kernel
theorem dX13_votes_21 : decode cX13_votes 21 = .ok (.ifCond .eq 11, 3) := by decide +kernel
theorem dX13_votes_24 : decode cX13_votes 24 = .ok (.aload_n 0, 1) := by decide +kernel
theorem dX13_votes_25 : decode cX13_votes 25 = .ok (.iload_n 3, 1) := by decide +kernel
theorem dX13_votes_26 : decode cX13_votes 26 = .ok (.invokevirtual 354, 3) := by decide +kernel
theorem dX13_votes_29 : decode cX13_votes 29 = .ok (.goto 4, 3) := by decide +kernel
theorem dX13_votes_32 : decode cX13_votes 32 = .ok (.iconst 0, 1) := by decide +kernel
theorem dX13_votes_33 : decode cX13_votes 33 = .ok (.iadd, 1) := by decide +kernel
theorem dX13_votes_34 : decode cX13_votes 34 = .ok (.istore_n 2, 1) := by decide +kernel
theorem dX13_votes_35 : decode cX13_votes 35 = .ok (.iinc 3 1, 3) := by decide +kernel
theorem dX13_votes_38 : decode cX13_votes 38 = .ok (.goto (-34), 3) := by decide +kernel
theorem dX13_votes_41 : decode cX13_votes 41 = .ok (.iload_n 2, 1) := by decide +kernel
theorem dX13_votes_42 : decode cX13_votes 42 = .ok (.ireturn, 1) := by decide +kernel
theorem dX13_everybody_0 : decode cX13_everybody 0 = .ok (.iconst 1, 1) := by decide +kernel
theorem dX13_everybody_1 : decode cX13_everybody 1 = .ok (.aload_n 0, 1) := by decide +kernel
theorem dX13_everybody_2 : decode cX13_everybody 2 = .ok (.getfield 321, 3) := by decide +kernel
theorem dX13_everybody_5 : decode cX13_everybody 5 = .ok (.getfield 229, 3) := by decide +kernel
theorem dX13_everybody_8 : decode cX13_everybody 8 = .ok (.ishl, 1) := by decide +kernel
theorem dX13_everybody_9 : decode cX13_everybody 9 = .ok (.iconst 1, 1) := by decide +kernel
theorem dX13_everybody_10 : decode cX13_everybody 10 = .ok (.isub, 1) := by decide +kernel
theorem dX13_everybody_11 : decode cX13_everybody 11 = .ok (.ireturn, 1) := by decide +kernel
theorem dX13_voters_0 : decode cX13_voters 0 = .ok (.iconst 0, 1) := by decide +kernel
theorem dX13_voters_1 : decode cX13_voters 1 = .ok (.istore_n 1, 1) := by decide +kernel
theorem dX13_voters_2 : decode cX13_voters 2 = .ok (.iconst 0, 1) := by decide +kernel
theorem dX13_voters_3 : decode cX13_voters 3 = .ok (.istore_n 2, 1) := by decide +kernel
theorem dX13_voters_4 : decode cX13_voters 4 = .ok (.iload_n 2, 1) := by decide +kernel
theorem dX13_voters_5 : decode cX13_voters 5 = .ok (.aload_n 0, 1) := by decide +kernel
theorem dX13_voters_6 : decode cX13_voters 6 = .ok (.getfield 321, 3) := by decide +kernel
theorem dX13_voters_9 : decode cX13_voters 9 = .ok (.getfield 229, 3) := by decide +kernel
theorem dX13_voters_12 : decode cX13_voters 12 = .ok (.if_icmp .ge 27, 3) := by decide +kernel
theorem dX13_voters_15 : decode cX13_voters 15 = .ok (.iload_n 1, 1) := by decide +kernel
theorem dX13_voters_16 : decode cX13_voters 16 = .ok (.aload_n 0, 1) := by decide +kernel
theorem dX13_voters_17 : decode cX13_voters 17 = .ok (.iload_n 2, 1) := by decide +kernel
theorem dX13_voters_18 : decode cX13_voters 18 = .ok (.invokevirtual 354, 3) := by decide +kernel
theorem dX13_voters_21 : decode cX13_voters 21 = .ok (.ifCond .le 9, 3) := by decide +kernel
theorem dX13_voters_24 : decode cX13_voters 24 = .ok (.iconst 1, 1) := by decide +kernel
theorem dX13_voters_25 : decode cX13_voters 25 = .ok (.iload_n 2, 1) := by decide +kernel
theorem dX13_voters_26 : decode cX13_voters 26 = .ok (.ishl, 1) := by decide +kernel
theorem dX13_voters_27 : decode cX13_voters 27 = .ok (.goto 4, 3) := by decide +kernel
theorem dX13_voters_30 : decode cX13_voters 30 = .ok (.iconst 0, 1) := by decide +kernel
theorem dX13_voters_31 : decode cX13_voters 31 = .ok (.ior, 1) := by decide +kernel
theorem dX13_voters_32 : decode cX13_voters 32 = .ok (.istore_n 1, 1) := by decide +kernel
theorem dX13_voters_33 : decode cX13_voters 33 = .ok (.iinc 2 1, 3) := by decide +kernel
theorem dX13_voters_36 : decode cX13_voters 36 = .ok (.goto (-32), 3) := by decide +kernel
theorem dX13_voters_39 : decode cX13_voters 39 = .ok (.iload_n 1, 1) := by decide +kernel
theorem dX13_voters_40 : decode cX13_voters 40 = .ok (.ireturn, 1) := by decide +kernel
theorem dX13_isMore_0 : decode cX13_isMore 0 = .ok (.iconst 2, 1) := by decide +kernel
theorem dX13_isMore_1 : decode cX13_isMore 1 = .ok (.aload_n 0, 1) := by decide +kernel
theorem dX13_isMore_2 : decode cX13_isMore 2 = .ok (.iload_n 1, 1) := by decide +kernel
theorem dX13_isMore_3 : decode cX13_isMore 3 = .ok (.invokevirtual 456, 3) := by decide +kernel
theorem dX13_isMore_6 : decode cX13_isMore 6 = .ok (.imul, 1) := by decide +kernel
theorem dX13_isMore_7 : decode cX13_isMore 7 = .ok (.aload_n 0, 1) := by decide +kernel
theorem dX13_isMore_8 : decode cX13_isMore 8 = .ok (.aload_n 0, 1) := by decide +kernel
theorem dX13_isMore_9 : decode cX13_isMore 9 = .ok (.invokevirtual 459, 3) := by decide +kernel
theorem dX13_isMore_12 : decode cX13_isMore 12 = .ok (.invokevirtual 456, 3) := by decide +kernel
theorem dX13_isMore_15 : decode cX13_isMore 15 = .ok (.if_icmp .le 7, 3) := by decide +kernel
theorem dX13_isMore_18 : decode cX13_isMore 18 = .ok (.iconst 1, 1) := by decide +kernel
theorem dX13_isMore_19 : decode cX13_isMore 19 = .ok (.goto 4, 3) := by decide +kernel
theorem dX13_isMore_22 : decode cX13_isMore 22 = .ok (.iconst 0, 1) := by decide +kernel
theorem dX13_isMore_23 : decode cX13_isMore 23 = .ok (.ireturn, 1) := by decide +kernel
theorem dX13_power_0 : decode cX13_power 0 = .ok (.aload_n 0, 1) := by decide +kernel
theorem dX13_power_1 : decode cX13_power 1 = .ok (.iconst 0, 1) := by decide +kernel
theorem dX13_power_2 : decode cX13_power 2 = .ok (.putfield 42, 3) := by decide +kernel
theorem dX13_power_5 : decode cX13_power 5 = .ok (.aload_n 0, 1) := by decide +kernel
theorem dX13_power_6 : decode cX13_power 6 = .ok (.iload_n 1, 1) := by decide +kernel
theorem dX13_power_7 : decode cX13_power 7 = .ok (.invokevirtual 351, 3) := by decide +kernel
theorem dX13_power_10 : decode cX13_power 10 = .ok (.ifCond .ne 10, 3) := by decide +kernel
theorem dX13_power_13 : decode cX13_power 13 = .ok (.aload_n 0, 1) := by decide +kernel
theorem dX13_power_14 : decode cX13_power 14 = .ok (.iconst 1, 1) := by decide +kernel
theorem dX13_power_15 : decode cX13_power 15 = .ok (.invokevirtual 48, 3) := by decide +kernel
theorem dX13_power_18 : decode cX13_power 18 = .ok (.i2l, 1) := by decide +kernel
theorem dX13_power_19 : decode cX13_power 19 = .ok (.lreturn, 1) := by decide +kernel
theorem dX13_power_20 : decode cX13_power 20 = .ok (.aload_n 0, 1) := by decide +kernel
theorem dX13_power_21 : decode cX13_power 21 = .ok (.invokevirtual 348, 3) := by decide +kernel
theorem dX13_power_24 : decode cX13_power 24 = .ok (.aload_n 0, 1) := by decide +kernel
theorem dX13_power_25 : decode cX13_power 25 = .ok (.iload_n 1, 1) := by decide +kernel
theorem dX13_power_26 : decode cX13_power 26 = .ok (.invokevirtual 354, 3) := by decide +kernel
theorem dX13_power_29 : decode cX13_power 29 = .ok (.ifCond .ne 11, 3) := by decide +kernel
theorem dX13_power_32 : decode cX13_power 32 = .ok (.aload_n 0, 1) := by decide +kernel
theorem dX13_power_33 : decode cX13_power 33 = .ok (.lconst 0, 1) := by decide +kernel
theorem dX13_power_34 : decode cX13_power 34 = .ok (.lconst 1, 1) := by decide +kernel
theorem dX13_power_35 : decode cX13_power 35 = .ok (.iload_n 2, 1) := by decide +kernel
theorem dX13_power_36 : decode cX13_power 36 = .ok (.invokevirtual 462, 3) := by decide +kernel
theorem dX13_power_39 : decode cX13_power 39 = .ok (.lreturn, 1) := by decide +kernel
theorem dX13_power_40 : decode cX13_power 40 = .ok (.aload_n 0, 1) := by decide +kernel
theorem dX13_power_41 : decode cX13_power 41 = .ok (.invokevirtual 466, 3) := by decide +kernel
theorem dX13_power_44 : decode cX13_power 44 = .ok (.iconst 1, 1) := by decide +kernel
theorem dX13_power_45 : decode cX13_power 45 = .ok (.iload_n 1, 1) := by decide +kernel
theorem dX13_power_46 : decode cX13_power 46 = .ok (.ishl, 1) := by decide +kernel
theorem dX13_power_47 : decode cX13_power 47 = .ok (.iconst (-1), 1) := by decide +kernel
theorem dX13_power_48 : decode cX13_power 48 = .ok (.ixor, 1) := by decide +kernel
theorem dX13_power_49 : decode cX13_power 49 = .ok (.iand, 1) := by decide +kernel
theorem dX13_power_50 : decode cX13_power 50 = .ok (.istore_n 3, 1) := by decide +kernel
theorem dX13_power_51 : decode cX13_power 51 = .ok (.iconst 0, 1) := by decide +kernel
theorem dX13_power_52 : decode cX13_power 52 = .ok (.istore 4, 2) := by decide +kernel
theorem dX13_power_54 : decode cX13_power 54 = .ok (.iconst 0, 1) := by decide +kernel
theorem dX13_power_55 : decode cX13_power 55 = .ok (.istore 5, 2) := by decide +kernel
theorem dX13_power_57 : decode cX13_power 57 = .ok (.iload 5, 2) := by decide +kernel
theorem dX13_power_59 : decode cX13_power 59 = .ok (.iload_n 3, 1) := by decide +kernel
theorem dX13_power_60 : decode cX13_power 60 = .ok (.if_icmp .gt 43, 3) := by decide +kernel
theorem dX13_power_63 : decode cX13_power 63 = .ok (.iload 5, 2) := by decide +kernel
theorem dX13_power_65 : decode cX13_power 65 = .ok (.iload_n 3, 1) := by decide +kernel
theorem dX13_power_66 : decode cX13_power 66 = .ok (.iconst (-1), 1) := by decide +kernel
theorem dX13_power_67 : decode cX13_power 67 = .ok (.ixor, 1) := by decide +kernel
theorem dX13_power_68 : decode cX13_power 68 = .ok (.iand, 1) := by decide +kernel
theorem dX13_power_69 : decode cX13_power 69 = .ok (.ifCond .ne 28, 3) := by decide +kernel
theorem dX13_power_72 : decode cX13_power 72 = .ok (.aload_n 0, 1) := by decide +kernel
theorem dX13_power_73 : decode cX13_power 73 = .ok (.iload 5, 2) := by decide +kernel
theorem dX13_power_75 : decode cX13_power 75 = .ok (.invokevirtual 469, 3) := by decide +kernel
theorem dX13_power_78 : decode cX13_power 78 = .ok (.ifCond .ne 19, 3) := by decide +kernel
theorem dX13_power_81 : decode cX13_power 81 = .ok (.aload_n 0, 1) := by decide +kernel
theorem dX13_power_82 : decode cX13_power 82 = .ok (.iload 5, 2) := by decide +kernel
theorem dX13_power_84 : decode cX13_power 84 = .ok (.iconst 1, 1) := by decide +kernel
theorem dX13_power_85 : decode cX13_power 85 = .ok (.iload_n 1, 1) := by decide +kernel
theorem dX13_power_86 : decode cX13_power 86 = .ok (.ishl, 1) := by decide +kernel
theorem dX13_power_87 : decode cX13_power 87 = .ok (.ior, 1) := by decide +kernel
theorem dX13_power_88 : decode cX13_power 88 = .ok (.invokevirtual 469, 3) := by decide +kernel
theorem dX13_power_91 : decode cX13_power 91 = .ok (.ifCond .eq 6, 3) := by decide +kernel
theorem dX13_power_94 : decode cX13_power 94 = .ok (.iinc 4 1, 3) := by decide +kernel
theorem dX13_power_97 : decode cX13_power 97 = .ok (.iinc 5 1, 3) := by decide +kernel
theorem dX13_power_100 : decode cX13_power 100 = .ok (.goto (-43), 3) := by decide +kernel
theorem dX13_power_103 : decode cX13_power 103 = .ok (.aload_n 0, 1) := by decide +kernel
theorem dX13_power_104 : decode cX13_power 104 = .ok (.iload 4, 2) := by decide +kernel
theorem dX13_power_106 : decode cX13_power 106 = .ok (.i2l, 1) := by decide +kernel
theorem dX13_power_107 : decode cX13_power 107 = .ok (.lconst 1, 1) := by decide +kernel
theorem dX13_power_108 : decode cX13_power 108 = .ok (.iload_n 3, 1) := by decide +kernel
theorem dX13_power_109 : decode cX13_power 109 = .ok (.invokestatic 335, 3) := by decide +kernel
theorem dX13_power_112 : decode cX13_power 112 = .ok (.lshl, 1) := by decide +kernel
theorem dX13_power_113 : decode cX13_power 113 = .ok (.iload_n 2, 1) := by decide +kernel
theorem dX13_power_114 : decode cX13_power 114 = .ok (.invokevirtual 462, 3) := by decide +kernel
theorem dX13_power_117 : decode cX13_power 117 = .ok (.lreturn, 1) := by decide +kernel
theorem dX13_rule_0 : decode cX13_rule 0 = .ok (.aload_n 0, 1) := by decide +kernel
theorem dX13_rule_1 : decode cX13_rule 1 = .ok (.iconst 0, 1) := by decide +kernel
theorem dX13_rule_2 : decode cX13_rule 2 = .ok (.putfield 42, 3) := by decide +kernel
theorem dX13_rule_5 : decode cX13_rule 5 = .ok (.aload_n 0, 1) := by decide +kernel
theorem dX13_rule_6 : decode cX13_rule 6 = .ok (.getfield 321, 3) := by decide +kernel
theorem dX13_rule_9 : decode cX13_rule 9 = .ok (.ifnonnull 9, 3) := by decide +kernel
theorem dX13_rule_12 : decode cX13_rule 12 = .ok (.aload_n 0, 1) := by decide +kernel
theorem dX13_rule_13 : decode cX13_rule 13 = .ok (.iconst 1, 1) := by decide +kernel
theorem dX13_rule_14 : decode cX13_rule 14 = .ok (.invokevirtual 48, 3) := by decide +kernel
theorem dX13_rule_17 : decode cX13_rule 17 = .ok (.ireturn, 1) := by decide +kernel
theorem dX13_rule_18 : decode cX13_rule 18 = .ok (.aload_n 0, 1) := by decide +kernel
theorem dX13_rule_19 : decode cX13_rule 19 = .ok (.invokevirtual 348, 3) := by decide +kernel
theorem dX13_rule_22 : decode cX13_rule 22 = .ok (.bipush (-2), 2) := by decide +kernel
theorem dX13_rule_24 : decode cX13_rule 24 = .ok (.istore_n 1, 1) := by decide +kernel
theorem dX13_rule_25 : decode cX13_rule 25 = .ok (.iconst 0, 1) := by decide +kernel
theorem dX13_rule_26 : decode cX13_rule 26 = .ok (.istore_n 2, 1) := by decide +kernel
theorem dX13_rule_27 : decode cX13_rule 27 = .ok (.iload_n 2, 1) := by decide +kernel
theorem dX13_rule_28 : decode cX13_rule 28 = .ok (.aload_n 0, 1) := by decide +kernel
theorem dX13_rule_29 : decode cX13_rule 29 = .ok (.invokevirtual 459, 3) := by decide +kernel
theorem dX13_rule_32 : decode cX13_rule 32 = .ok (.if_icmp .gt 36, 3) := by decide +kernel
theorem dX13_rule_35 : decode cX13_rule 35 = .ok (.iload_n 1, 1) := by decide +kernel
theorem dX13_rule_36 : decode cX13_rule 36 = .ok (.bipush (-2), 2) := by decide +kernel
theorem dX13_rule_38 : decode cX13_rule 38 = .ok (.if_icmp .eq 14, 3) := by decide +kernel
theorem dX13_rule_41 : decode cX13_rule 41 = .ok (.iload_n 2, 1) := by decide +kernel
theorem dX13_rule_42 : decode cX13_rule 42 = .ok (.invokestatic 335, 3) := by decide +kernel
theorem dX13_rule_45 : decode cX13_rule 45 = .ok (.iload_n 1, 1) := by decide +kernel
theorem dX13_rule_46 : decode cX13_rule 46 = .ok (.invokestatic 335, 3) := by decide +kernel
theorem dX13_rule_49 : decode cX13_rule 49 = .ok (.if_icmp .ge 13, 3) := by decide +kernel
theorem dX13_rule_52 : decode cX13_rule 52 = .ok (.aload_n 0, 1) := by decide +kernel
theorem dX13_rule_53 : decode cX13_rule 53 = .ok (.iload_n 2, 1) := by decide +kernel
theorem dX13_rule_54 : decode cX13_rule 54 = .ok (.invokevirtual 469, 3) := by decide +kernel
theorem dX13_rule_57 : decode cX13_rule 57 = .ok (.ifCond .eq 5, 3) := by decide +kernel
theorem dX13_rule_60 : decode cX13_rule 60 = .ok (.iload_n 2, 1) := by decide +kernel
theorem dX13_rule_61 : decode cX13_rule 61 = .ok (.istore_n 1, 1) := by decide +kernel
theorem dX13_rule_62 : decode cX13_rule 62 = .ok (.iinc 2 1, 3) := by decide +kernel
theorem dX13_rule_65 : decode cX13_rule 65 = .ok (.goto (-38), 3) := by decide +kernel
theorem dX13_rule_68 : decode cX13_rule 68 = .ok (.aload_n 0, 1) := by decide +kernel
theorem dX13_rule_69 : decode cX13_rule 69 = .ok (.iload_n 1, 1) := by decide +kernel
theorem dX13_rule_70 : decode cX13_rule 70 = .ok (.invokevirtual 52, 3) := by decide +kernel
theorem dX13_rule_73 : decode cX13_rule 73 = .ok (.ireturn, 1) := by decide +kernel
theorem dX13_thiefs_0 : decode cX13_thiefs 0 = .ok (.iload_n 1, 1) := by decide +kernel
theorem dX13_thiefs_1 : decode cX13_thiefs 1 = .ok (.ifCond .eq 16, 3) := by decide +kernel
theorem dX13_thiefs_4 : decode cX13_thiefs 4 = .ok (.iload_n 2, 1) := by decide +kernel
theorem dX13_thiefs_5 : decode cX13_thiefs 5 = .ok (.ifCond .eq 8, 3) := by decide +kernel
theorem dX13_thiefs_8 : decode cX13_thiefs 8 = .ok (.bipush (-3), 2) := by decide +kernel
theorem dX13_thiefs_10 : decode cX13_thiefs 10 = .ok (.goto 8, 3) := by decide +kernel
theorem dX13_thiefs_13 : decode cX13_thiefs 13 = .ok (.iload_n 0, 1) := by decide +kernel
theorem dX13_thiefs_14 : decode cX13_thiefs 14 = .ok (.goto 4, 3) := by decide +kernel
theorem dX13_thiefs_17 : decode cX13_thiefs 17 = .ok (.iconst 0, 1) := by decide +kernel
theorem dX13_thiefs_18 : decode cX13_thiefs 18 = .ok (.ireturn, 1) := by decide +kernel
theorem dX13_sentrys_0 : decode cX13_sentrys 0 = .ok (.iload_n 1, 1) := by decide +kernel
theorem dX13_sentrys_1 : decode cX13_sentrys 1 = .ok (.ifCond .eq 16, 3) := by decide +kernel
theorem dX13_sentrys_4 : decode cX13_sentrys 4 = .ok (.iload_n 2, 1) := by decide +kernel
theorem dX13_sentrys_5 : decode cX13_sentrys 5 = .ok (.ifCond .eq 7, 3) := by decide +kernel
theorem dX13_sentrys_8 : decode cX13_sentrys 8 = .ok (.iconst 2, 1) := by decide +kernel
theorem dX13_sentrys_9 : decode cX13_sentrys 9 = .ok (.goto 17, 3) := by decide +kernel
theorem dX13_sentrys_12 : decode cX13_sentrys 12 = .ok (.iload_n 0, 1) := by decide +kernel
theorem dX13_sentrys_13 : decode cX13_sentrys 13 = .ok (.ineg, 1) := by decide +kernel
theorem dX13_sentrys_14 : decode cX13_sentrys 14 = .ok (.goto 12, 3) := by decide +kernel
theorem dX13_sentrys_17 : decode cX13_sentrys 17 = .ok (.iload_n 2, 1) := by decide +kernel
theorem dX13_sentrys_18 : decode cX13_sentrys 18 = .ok (.ifCond .eq 7, 3) := by decide +kernel
theorem dX13_sentrys_21 : decode cX13_sentrys 21 = .ok (.iconst (-1), 1) := by decide +kernel
theorem dX13_sentrys_22 : decode cX13_sentrys 22 = .ok (.goto 4, 3) := by decide +kernel
theorem dX13_sentrys_25 : decode cX13_sentrys 25 = .ok (.iconst 0, 1) := by decide +kernel
theorem dX13_sentrys_26 : decode cX13_sentrys 26 = .ok (.ireturn, 1) := by decide +kernel
theorem dX13_refusesWorth_0 : decode cX13_refusesWorth 0 = .ok (.aload_n 0, 1) := by decide +kernel
theorem dX13_refusesWorth_1 : decode cX13_refusesWorth 1 = .ok (.getfield 321, 3) := by decide +kernel
theorem dX13_refusesWorth_4 : decode cX13_refusesWorth 4 = .ok (.ifnonnull 7, 3) := by decide +kernel
theorem dX13_refusesWorth_7 : decode cX13_refusesWorth 7 = .ok (.iconst 1, 1) := by decide +kernel
theorem dX13_refusesWorth_8 : decode cX13_refusesWorth 8 = .ok (.goto 18, 3) := by decide +kernel
theorem dX13_refusesWorth_11 : decode cX13_refusesWorth 11 = .ok (.iload_n 1, 1) := by decide +kernel
theorem dX13_refusesWorth_12 : decode cX13_refusesWorth 12 = .ok (.iconst 0, 1) := by decide +kernel
theorem dX13_refusesWorth_13 : decode cX13_refusesWorth 13 = .ok (.bipush 20, 2) := by decide +kernel
theorem dX13_refusesWorth_15 : decode cX13_refusesWorth 15 = .ok (.invokestatic 121, 3) := by decide +kernel
theorem dX13_refusesWorth_18 : decode cX13_refusesWorth 18 = .ok (.ifCond .eq 7, 3) := by decide +kernel
theorem dX13_refusesWorth_21 : decode cX13_refusesWorth 21 = .ok (.iconst 0, 1) := by decide +kernel
theorem dX13_refusesWorth_22 : decode cX13_refusesWorth 22 = .ok (.goto 4, 3) := by decide +kernel
theorem dX13_refusesWorth_25 : decode cX13_refusesWorth 25 = .ok (.iconst 2, 1) := by decide +kernel
theorem dX13_refusesWorth_26 : decode cX13_refusesWorth 26 = .ok (.ireturn, 1) := by decide +kernel
theorem dX13_steal_0 : decode cX13_steal 0 = .ok (.aload_n 0, 1) := by decide +kernel
theorem dX13_steal_1 : decode cX13_steal 1 = .ok (.iconst 0, 1) := by decide +kernel
theorem dX13_steal_2 : decode cX13_steal 2 = .ok (.putfield 42, 3) := by decide +kernel
theorem dX13_steal_5 : decode cX13_steal 5 = .ok (.aload_n 0, 1) := by decide +kernel
theorem dX13_steal_6 : decode cX13_steal 6 = .ok (.iload_n 1, 1) := by decide +kernel
theorem dX13_steal_7 : decode cX13_steal 7 = .ok (.invokevirtual 472, 3) := by decide +kernel
theorem dX13_steal_10 : decode cX13_steal 10 = .ok (.istore 5, 2) := by decide +kernel
theorem dX13_steal_12 : decode cX13_steal 12 = .ok (.iload 5, 2) := by decide +kernel
theorem dX13_steal_14 : decode cX13_steal 14 = .ok (.ifCond .le 12, 3) := by decide +kernel
theorem dX13_steal_17 : decode cX13_steal 17 = .ok (.aload_n 0, 1) := by decide +kernel
theorem dX13_steal_18 : decode cX13_steal 18 = .ok (.iload 5, 2) := by decide +kernel
theorem dX13_steal_20 : decode cX13_steal 20 = .ok (.invokevirtual 475, 3) := by decide +kernel
theorem dX13_steal_23 : decode cX13_steal 23 = .ok (.goto 27, 3) := by decide +kernel
theorem dX13_steal_26 : decode cX13_steal 26 = .ok (.aload_n 0, 1) := by decide +kernel
theorem dX13_steal_27 : decode cX13_steal 27 = .ok (.iload 4, 2) := by decide +kernel
theorem dX13_steal_29 : decode cX13_steal 29 = .ok (.ifCond .eq 12, 3) := by decide +kernel
theorem dX13_steal_32 : decode cX13_steal 32 = .ok (.iload_n 1, 1) := by decide +kernel
theorem dX13_steal_33 : decode cX13_steal 33 = .ok (.iload_n 2, 1) := by decide +kernel
theorem dX13_steal_34 : decode cX13_steal 34 = .ok (.iload_n 3, 1) := by decide +kernel
theorem dX13_steal_35 : decode cX13_steal 35 = .ok (.invokestatic 477, 3) := by decide +kernel
theorem dX13_steal_38 : decode cX13_steal 38 = .ok (.goto 9, 3) := by decide +kernel
theorem dX13_steal_41 : decode cX13_steal 41 = .ok (.iload_n 1, 1) := by decide +kernel
theorem dX13_steal_42 : decode cX13_steal 42 = .ok (.iload_n 2, 1) := by decide +kernel
theorem dX13_steal_43 : decode cX13_steal 43 = .ok (.iload_n 3, 1) := by decide +kernel
theorem dX13_steal_44 : decode cX13_steal 44 = .ok (.invokestatic 481, 3) := by decide +kernel
theorem dX13_steal_47 : decode cX13_steal 47 = .ok (.invokevirtual 52, 3) := by decide +kernel
theorem dX13_steal_50 : decode cX13_steal 50 = .ok (.ireturn, 1) := by decide +kernel
theorem dX13_isRest_0 : decode cX13_isRest 0 = .ok (.iload_n 1, 1) := by decide +kernel
theorem dX13_isRest_1 : decode cX13_isRest 1 = .ok (.iconst 1, 1) := by decide +kernel
theorem dX13_isRest_2 : decode cX13_isRest 2 = .ok (.if_icmp .le 7, 3) := by decide +kernel
theorem dX13_isRest_5 : decode cX13_isRest 5 = .ok (.iconst 1, 1) := by decide +kernel
theorem dX13_isRest_6 : decode cX13_isRest 6 = .ok (.goto 4, 3) := by decide +kernel
theorem dX13_isRest_9 : decode cX13_isRest 9 = .ok (.iconst 0, 1) := by decide +kernel
theorem dX13_isRest_10 : decode cX13_isRest 10 = .ok (.istore_n 2, 1) := by decide +kernel
theorem dX13_isRest_11 : decode cX13_isRest 11 = .ok (.iload_n 1, 1) := by decide +kernel
theorem dX13_isRest_12 : decode cX13_isRest 12 = .ok (.iconst 2, 1) := by decide +kernel
theorem dX13_isRest_13 : decode cX13_isRest 13 = .ok (.irem, 1) := by decide +kernel
theorem dX13_isRest_14 : decode cX13_isRest 14 = .ok (.iconst 1, 1) := by decide +kernel
theorem dX13_isRest_15 : decode cX13_isRest 15 = .ok (.if_icmp .ne 7, 3) := by decide +kernel
theorem dX13_isRest_18 : decode cX13_isRest 18 = .ok (.iconst 1, 1) := by decide +kernel
theorem dX13_isRest_19 : decode cX13_isRest 19 = .ok (.goto 4, 3) := by decide +kernel
theorem dX13_isRest_22 : decode cX13_isRest 22 = .ok (.iconst 0, 1) := by decide +kernel
theorem dX13_isRest_23 : decode cX13_isRest 23 = .ok (.istore_n 3, 1) := by decide +kernel
theorem dX13_isRest_24 : decode cX13_isRest 24 = .ok (.iload_n 0, 1) := by decide +kernel
theorem dX13_isRest_25 : decode cX13_isRest 25 = .ok (.iload_n 2, 1) := by decide +kernel
theorem dX13_isRest_26 : decode cX13_isRest 26 = .ok (.ifCond .ne 7, 3) := by decide +kernel
theorem dX13_isRest_29 : decode cX13_isRest 29 = .ok (.iconst 1, 1) := by decide +kernel
theorem dX13_isRest_30 : decode cX13_isRest 30 = .ok (.goto 4, 3) := by decide +kernel
theorem dX13_isRest_33 : decode cX13_isRest 33 = .ok (.iconst 0, 1) := by decide +kernel
theorem dX13_isRest_34 : decode cX13_isRest 34 = .ok (.iload_n 3, 1) := by decide +kernel
theorem dX13_isRest_35 : decode cX13_isRest 35 = .ok (.invokestatic 481, 3) := by decide +kernel
theorem dX13_isRest_38 : decode cX13_isRest 38 = .ok (.iload_n 0, 1) := by decide +kernel
theorem dX13_isRest_39 : decode cX13_isRest 39 = .ok (.iload_n 2, 1) := by decide +kernel
theorem dX13_isRest_40 : decode cX13_isRest 40 = .ok (.iload_n 3, 1) := by decide +kernel
theorem dX13_isRest_41 : decode cX13_isRest 41 = .ok (.invokestatic 481, 3) := by decide +kernel
theorem dX13_isRest_44 : decode cX13_isRest 44 = .ok (.if_icmp .gt 30, 3) := by decide +kernel
theorem dX13_isRest_47 : decode cX13_isRest 47 = .ok (.iload_n 0, 1) := by decide +kernel
theorem dX13_isRest_48 : decode cX13_isRest 48 = .ok (.iload_n 2, 1) := by decide +kernel
theorem dX13_isRest_49 : decode cX13_isRest 49 = .ok (.iload_n 3, 1) := by decide +kernel
theorem dX13_isRest_50 : decode cX13_isRest 50 = .ok (.ifCond .ne 7, 3) := by decide +kernel
theorem dX13_isRest_53 : decode cX13_isRest 53 = .ok (.iconst 1, 1) := by decide +kernel
theorem dX13_isRest_54 : decode cX13_isRest 54 = .ok (.goto 4, 3) := by decide +kernel
theorem dX13_isRest_57 : decode cX13_isRest 57 = .ok (.iconst 0, 1) := by decide +kernel
theorem dX13_isRest_58 : decode cX13_isRest 58 = .ok (.invokestatic 477, 3) := by decide +kernel
theorem dX13_isRest_61 : decode cX13_isRest 61 = .ok (.iload_n 0, 1) := by decide +kernel
theorem dX13_isRest_62 : decode cX13_isRest 62 = .ok (.iload_n 2, 1) := by decide +kernel
theorem dX13_isRest_63 : decode cX13_isRest 63 = .ok (.iload_n 3, 1) := by decide +kernel
theorem dX13_isRest_64 : decode cX13_isRest 64 = .ok (.invokestatic 477, 3) := by decide +kernel
theorem dX13_isRest_67 : decode cX13_isRest 67 = .ok (.if_icmp .gt 7, 3) := by decide +kernel
theorem dX13_isRest_70 : decode cX13_isRest 70 = .ok (.iconst 1, 1) := by decide +kernel
theorem dX13_isRest_71 : decode cX13_isRest 71 = .ok (.goto 4, 3) := by decide +kernel
theorem dX13_isRest_74 : decode cX13_isRest 74 = .ok (.iconst 0, 1) := by decide +kernel
theorem dX13_isRest_75 : decode cX13_isRest 75 = .ok (.ireturn, 1) := by decide +kernel
theorem dX13_rests_0 : decode cX13_rests 0 = .ok (.aload_n 0, 1) := by decide +kernel
theorem dX13_rests_1 : decode cX13_rests 1 = .ok (.iconst 0, 1) := by decide +kernel
theorem dX13_rests_2 : decode cX13_rests 2 = .ok (.putfield 42, 3) := by decide +kernel
theorem dX13_rests_5 : decode cX13_rests 5 = .ok (.aload_n 0, 1) := by decide +kernel
theorem dX13_rests_6 : decode cX13_rests 6 = .ok (.iload_n 1, 1) := by decide +kernel
theorem dX13_rests_7 : decode cX13_rests 7 = .ok (.invokevirtual 472, 3) := by decide +kernel
theorem dX13_rests_10 : decode cX13_rests 10 = .ok (.istore_n 2, 1) := by decide +kernel
theorem dX13_rests_11 : decode cX13_rests 11 = .ok (.iload_n 2, 1) := by decide +kernel
theorem dX13_rests_12 : decode cX13_rests 12 = .ok (.ifCond .le 9, 3) := by decide +kernel
theorem dX13_rests_15 : decode cX13_rests 15 = .ok (.aload_n 0, 1) := by decide +kernel
theorem dX13_rests_16 : decode cX13_rests 16 = .ok (.iload_n 2, 1) := by decide +kernel
theorem dX13_rests_17 : decode cX13_rests 17 = .ok (.invokevirtual 48, 3) := by decide +kernel
theorem dX13_rests_20 : decode cX13_rests 20 = .ok (.ireturn, 1) := by decide +kernel
theorem dX13_rests_21 : decode cX13_rests 21 = .ok (.iconst 0, 1) := by decide +kernel
theorem dX13_rests_22 : decode cX13_rests 22 = .ok (.istore_n 3, 1) := by decide +kernel
theorem dX13_rests_23 : decode cX13_rests 23 = .ok (.iconst 0, 1) := by decide +kernel
theorem dX13_rests_24 : decode cX13_rests 24 = .ok (.istore 4, 2) := by decide +kernel
theorem dX13_rests_26 : decode cX13_rests 26 = .ok (.iload 4, 2) := by decide +kernel
theorem dX13_rests_28 : decode cX13_rests 28 = .ok (.iconst 4, 1) := by decide +kernel
theorem dX13_rests_29 : decode cX13_rests 29 = .ok (.if_icmp .ge 26, 3) := by decide +kernel
theorem dX13_rests_32 : decode cX13_rests 32 = .ok (.iload_n 3, 1) := by decide +kernel
theorem dX13_rests_33 : decode cX13_rests 33 = .ok (.iload_n 1, 1) := by decide +kernel
theorem dX13_rests_34 : decode cX13_rests 34 = .ok (.iload 4, 2) := by decide +kernel
theorem dX13_rests_36 : decode cX13_rests 36 = .ok (.invokestatic 484, 3) := by decide +kernel
theorem dX13_rests_39 : decode cX13_rests 39 = .ok (.ifCond .eq 7, 3) := by decide +kernel
theorem dX13_rests_42 : decode cX13_rests 42 = .ok (.iconst 1, 1) := by decide +kernel
theorem dX13_rests_43 : decode cX13_rests 43 = .ok (.goto 4, 3) := by decide +kernel
theorem dX13_rests_46 : decode cX13_rests 46 = .ok (.iconst 0, 1) := by decide +kernel
theorem dX13_rests_47 : decode cX13_rests 47 = .ok (.iadd, 1) := by decide +kernel
theorem dX13_rests_48 : decode cX13_rests 48 = .ok (.istore_n 3, 1) := by decide +kernel
theorem dX13_rests_49 : decode cX13_rests 49 = .ok (.iinc 4 1, 3) := by decide +kernel
theorem dX13_rests_52 : decode cX13_rests 52 = .ok (.goto (-26), 3) := by decide +kernel
theorem dX13_rests_55 : decode cX13_rests 55 = .ok (.aload_n 0, 1) := by decide +kernel
theorem dX13_rests_56 : decode cX13_rests 56 = .ok (.iload_n 3, 1) := by decide +kernel
theorem dX13_rests_57 : decode cX13_rests 57 = .ok (.invokevirtual 52, 3) := by decide +kernel
theorem dX13_rests_60 : decode cX13_rests 60 = .ok (.ireturn, 1) := by decide +kernel
theorem dX13_rest_0 : decode cX13_rest 0 = .ok (.aload_n 0, 1) := by decide +kernel
theorem dX13_rest_1 : decode cX13_rest 1 = .ok (.iconst 0, 1) := by decide +kernel
theorem dX13_rest_2 : decode cX13_rest 2 = .ok (.putfield 42, 3) := by decide +kernel
theorem dX13_rest_5 : decode cX13_rest 5 = .ok (.aload_n 0, 1) := by decide +kernel
theorem dX13_rest_6 : decode cX13_rest 6 = .ok (.iload_n 1, 1) := by decide +kernel
theorem dX13_rest_7 : decode cX13_rest 7 = .ok (.invokevirtual 472, 3) := by decide +kernel
theorem dX13_rest_10 : decode cX13_rest 10 = .ok (.istore_n 2, 1) := by decide +kernel
theorem dX13_rest_11 : decode cX13_rest 11 = .ok (.iload_n 2, 1) := by decide +kernel
theorem dX13_rest_12 : decode cX13_rest 12 = .ok (.ifCond .le 9, 3) := by decide +kernel
theorem dX13_rest_15 : decode cX13_rest 15 = .ok (.aload_n 0, 1) := by decide +kernel
theorem dX13_rest_16 : decode cX13_rest 16 = .ok (.iload_n 2, 1) := by decide +kernel
theorem dX13_rest_17 : decode cX13_rest 17 = .ok (.invokevirtual 48, 3) := by decide +kernel
theorem dX13_rest_20 : decode cX13_rest 20 = .ok (.ireturn, 1) := by decide +kernel
theorem dX13_rest_21 : decode cX13_rest 21 = .ok (.iconst 0, 1) := by decide +kernel
theorem dX13_rest_22 : decode cX13_rest 22 = .ok (.istore_n 3, 1) := by decide +kernel
theorem dX13_rest_23 : decode cX13_rest 23 = .ok (.iload_n 3, 1) := by decide +kernel
theorem dX13_rest_24 : decode cX13_rest 24 = .ok (.iconst 4, 1) := by decide +kernel
theorem dX13_rest_25 : decode cX13_rest 25 = .ok (.if_icmp .ge 32, 3) := by decide +kernel
theorem dX13_rest_28 : decode cX13_rest 28 = .ok (.iload_n 1, 1) := by decide +kernel
theorem dX13_rest_29 : decode cX13_rest 29 = .ok (.iload_n 3, 1) := by decide +kernel
theorem dX13_rest_30 : decode cX13_rest 30 = .ok (.invokestatic 484, 3) := by decide +kernel
theorem dX13_rest_33 : decode cX13_rest 33 = .ok (.ifCond .eq 18, 3) := by decide +kernel
theorem dX13_rest_36 : decode cX13_rest 36 = .ok (.aload_n 0, 1) := by decide +kernel
theorem dX13_rest_37 : decode cX13_rest 37 = .ok (.bipush 10, 2) := by decide +kernel
theorem dX13_rest_39 : decode cX13_rest 39 = .ok (.iload_n 3, 1) := by decide +kernel
theorem dX13_rest_40 : decode cX13_rest 40 = .ok (.iconst 2, 1) := by decide +kernel
theorem dX13_rest_41 : decode cX13_rest 41 = .ok (.idiv, 1) := by decide +kernel
theorem dX13_rest_42 : decode cX13_rest 42 = .ok (.imul, 1) := by decide +kernel
theorem dX13_rest_43 : decode cX13_rest 43 = .ok (.iload_n 3, 1) := by decide +kernel
theorem dX13_rest_44 : decode cX13_rest 44 = .ok (.iconst 2, 1) := by decide +kernel
theorem dX13_rest_45 : decode cX13_rest 45 = .ok (.irem, 1) := by decide +kernel
theorem dX13_rest_46 : decode cX13_rest 46 = .ok (.iadd, 1) := by decide +kernel
theorem dX13_rest_47 : decode cX13_rest 47 = .ok (.invokevirtual 52, 3) := by decide +kernel
theorem dX13_rest_50 : decode cX13_rest 50 = .ok (.ireturn, 1) := by decide +kernel
theorem dX13_rest_51 : decode cX13_rest 51 = .ok (.iinc 3 1, 3) := by decide +kernel
theorem dX13_rest_54 : decode cX13_rest 54 = .ok (.goto (-31), 3) := by decide +kernel
theorem dX13_rest_57 : decode cX13_rest 57 = .ok (.aload_n 0, 1) := by decide +kernel
theorem dX13_rest_58 : decode cX13_rest 58 = .ok (.bipush (-2), 2) := by decide +kernel
theorem dX13_rest_60 : decode cX13_rest 60 = .ok (.invokevirtual 52, 3) := by decide +kernel
theorem dX13_rest_63 : decode cX13_rest 63 = .ok (.ireturn, 1) := by decide +kernel
theorem dX13_falls_0 : decode cX13_falls 0 = .ok (.aload_n 0, 1) := by decide +kernel
theorem dX13_falls_1 : decode cX13_falls 1 = .ok (.getfield 321, 3) := by decide +kernel
theorem dX13_falls_4 : decode cX13_falls 4 = .ok (.getfield 275, 3) := by decide +kernel
theorem dX13_falls_7 : decode cX13_falls 7 = .ok (.iload_n 1, 1) := by decide +kernel
theorem dX13_falls_8 : decode cX13_falls 8 = .ok (.iaload, 1) := by decide +kernel
theorem dX13_falls_9 : decode cX13_falls 9 = .ok (.iconst 2, 1) := by decide +kernel
theorem dX13_falls_10 : decode cX13_falls 10 = .ok (.if_icmp .ne 5, 3) := by decide +kernel
theorem dX13_falls_13 : decode cX13_falls 13 = .ok (.iconst 0, 1) := by decide +kernel
theorem dX13_falls_14 : decode cX13_falls 14 = .ok (.ireturn, 1) := by decide +kernel
theorem dX13_falls_15 : decode cX13_falls 15 = .ok (.aload_n 0, 1) := by decide +kernel
theorem dX13_falls_16 : decode cX13_falls 16 = .ok (.getfield 321, 3) := by decide +kernel
theorem dX13_falls_19 : decode cX13_falls 19 = .ok (.getfield 275, 3) := by decide +kernel
theorem dX13_falls_22 : decode cX13_falls 22 = .ok (.iload_n 1, 1) := by decide +kernel
theorem dX13_falls_23 : decode cX13_falls 23 = .ok (.iaload, 1) := by decide +kernel
theorem dX13_falls_24 : decode cX13_falls 24 = .ok (.iconst 3, 1) := by decide +kernel
theorem dX13_falls_25 : decode cX13_falls 25 = .ok (.if_icmp .ne 15, 3) := by decide +kernel
theorem dX13_falls_28 : decode cX13_falls 28 = .ok (.iconst 2, 1) := by decide +kernel
theorem dX13_falls_29 : decode cX13_falls 29 = .ok (.aload_n 0, 1) := by decide +kernel
theorem dX13_falls_30 : decode cX13_falls 30 = .ok (.getfield 321, 3) := by decide +kernel
theorem dX13_falls_33 : decode cX13_falls 33 = .ok (.getfield 227, 3) := by decide +kernel
theorem dX13_falls_36 : decode cX13_falls 36 = .ok (.imul, 1) := by decide +kernel
theorem dX13_falls_37 : decode cX13_falls 37 = .ok (.goto 10, 3) := by decide +kernel
theorem dX13_falls_40 : decode cX13_falls 40 = .ok (.aload_n 0, 1) := by decide +kernel
theorem dX13_falls_41 : decode cX13_falls 41 = .ok (.getfield 321, 3) := by decide +kernel
theorem dX13_falls_44 : decode cX13_falls 44 = .ok (.getfield 227, 3) := by decide +kernel
theorem dX13_falls_47 : decode cX13_falls 47 = .ok (.istore_n 2, 1) := by decide +kernel
theorem dX13_falls_48 : decode cX13_falls 48 = .ok (.iload_n 2, 1) := by decide +kernel
theorem dX13_falls_49 : decode cX13_falls 49 = .ok (.bipush 100, 2) := by decide +kernel
theorem dX13_falls_51 : decode cX13_falls 51 = .ok (.if_icmp .le 8, 3) := by decide +kernel
theorem dX13_falls_54 : decode cX13_falls 54 = .ok (.bipush 100, 2) := by decide +kernel
theorem dX13_falls_56 : decode cX13_falls 56 = .ok (.goto 4, 3) := by decide +kernel
theorem dX13_falls_59 : decode cX13_falls 59 = .ok (.iload_n 2, 1) := by decide +kernel
theorem dX13_falls_60 : decode cX13_falls 60 = .ok (.ireturn, 1) := by decide +kernel
theorem dX13_holds_0 : decode cX13_holds 0 = .ok (.aload_n 0, 1) := by decide +kernel
theorem dX13_holds_1 : decode cX13_holds 1 = .ok (.iconst 0, 1) := by decide +kernel
theorem dX13_holds_2 : decode cX13_holds 2 = .ok (.putfield 42, 3) := by decide +kernel
theorem dX13_holds_5 : decode cX13_holds 5 = .ok (.aload_n 0, 1) := by decide +kernel
theorem dX13_holds_6 : decode cX13_holds 6 = .ok (.iload_n 1, 1) := by decide +kernel
theorem dX13_holds_7 : decode cX13_holds 7 = .ok (.invokevirtual 345, 3) := by decide +kernel
theorem dX13_holds_10 : decode cX13_holds 10 = .ok (.ifCond .ne 10, 3) := by decide +kernel
theorem dX13_holds_13 : decode cX13_holds 13 = .ok (.aload_n 0, 1) := by decide +kernel
theorem dX13_holds_14 : decode cX13_holds 14 = .ok (.iconst 1, 1) := by decide +kernel
theorem dX13_holds_15 : decode cX13_holds 15 = .ok (.invokevirtual 48, 3) := by decide +kernel
theorem dX13_holds_18 : decode cX13_holds 18 = .ok (.i2l, 1) := by decide +kernel
theorem dX13_holds_19 : decode cX13_holds 19 = .ok (.lreturn, 1) := by decide +kernel
theorem dX13_holds_20 : decode cX13_holds 20 = .ok (.iload_n 2, 1) := by decide +kernel
theorem dX13_holds_21 : decode cX13_holds 21 = .ok (.iconst 0, 1) := by decide +kernel
theorem dX13_holds_22 : decode cX13_holds 22 = .ok (.iconst 4, 1) := by decide +kernel
theorem dX13_holds_23 : decode cX13_holds 23 = .ok (.invokestatic 121, 3) := by decide +kernel
theorem dX13_holds_26 : decode cX13_holds 26 = .ok (.ifCond .ne 10, 3) := by decide +kernel
theorem dX13_holds_29 : decode cX13_holds 29 = .ok (.aload_n 0, 1) := by decide +kernel
theorem dX13_holds_30 : decode cX13_holds 30 = .ok (.iconst 2, 1) := by decide +kernel
theorem dX13_holds_31 : decode cX13_holds 31 = .ok (.invokevirtual 48, 3) := by decide +kernel
theorem dX13_holds_34 : decode cX13_holds 34 = .ok (.i2l, 1) := by decide +kernel
theorem dX13_holds_35 : decode cX13_holds 35 = .ok (.lreturn, 1) := by decide +kernel
theorem dX13_holds_36 : decode cX13_holds 36 = .ok (.lconst 1, 1) := by decide +kernel
theorem dX13_holds_37 : decode cX13_holds 37 = .ok (.lstore 4, 2) := by decide +kernel
theorem dX13_holds_39 : decode cX13_holds 39 = .ok (.lconst 1, 1) := by decide +kernel
theorem dX13_holds_40 : decode cX13_holds 40 = .ok (.lstore 6, 2) := by decide +kernel
theorem dX13_holds_42 : decode cX13_holds 42 = .ok (.iconst 0, 1) := by decide +kernel
theorem dX13_holds_43 : decode cX13_holds 43 = .ok (.istore 8, 2) := by decide +kernel
theorem dX13_holds_45 : decode cX13_holds 45 = .ok (.iload 8, 2) := by decide +kernel
theorem dX13_holds_47 : decode cX13_holds 47 = .ok (.iload_n 2, 1) := by decide +kernel
theorem dX13_holds_48 : decode cX13_holds 48 = .ok (.if_icmp .ge 40, 3) := by decide +kernel
theorem dX13_holds_51 : decode cX13_holds 51 = .ok (.aload_n 0, 1) := by decide +kernel
theorem dX13_holds_52 : decode cX13_holds 52 = .ok (.getfield 17, 3) := by decide +kernel
theorem dX13_holds_55 : decode cX13_holds 55 = .ok (.iload_n 1, 1) := by decide +kernel
theorem dX13_holds_56 : decode cX13_holds 56 = .ok (.iaload, 1) := by decide +kernel
theorem dX13_holds_57 : decode cX13_holds 57 = .ok (.ifCond .le 31, 3) := by decide +kernel
theorem dX13_holds_60 : decode cX13_holds 60 = .ok (.lload 4, 2) := by decide +kernel
theorem dX13_holds_62 : decode cX13_holds 62 = .ok (.bipush 100, 2) := by decide +kernel
theorem dX13_holds_64 : decode cX13_holds 64 = .ok (.aload_n 0, 1) := by decide +kernel
theorem dX13_holds_65 : decode cX13_holds 65 = .ok (.iload_n 1, 1) := by decide +kernel
theorem dX13_holds_66 : decode cX13_holds 66 = .ok (.invokevirtual 487, 3) := by decide +kernel
theorem dX13_holds_69 : decode cX13_holds 69 = .ok (.isub, 1) := by decide +kernel
theorem dX13_holds_70 : decode cX13_holds 70 = .ok (.i2l, 1) := by decide +kernel
theorem dX13_holds_71 : decode cX13_holds 71 = .ok (.lmul, 1) := by decide +kernel
theorem dX13_holds_72 : decode cX13_holds 72 = .ok (.lstore 4, 2) := by decide +kernel
theorem dX13_holds_74 : decode cX13_holds 74 = .ok (.lload 6, 2) := by decide +kernel
theorem dX13_holds_76 : decode cX13_holds 76 = .ok (.ldc2_w 490, 3) := by decide +kernel
theorem dX13_holds_79 : decode cX13_holds 79 = .ok (.lmul, 1) := by decide +kernel
theorem dX13_holds_80 : decode cX13_holds 80 = .ok (.lstore 6, 2) := by decide +kernel
theorem dX13_holds_82 : decode cX13_holds 82 = .ok (.iinc 8 1, 3) := by decide +kernel
theorem dX13_holds_85 : decode cX13_holds 85 = .ok (.goto (-40), 3) := by decide +kernel
theorem dX13_holds_88 : decode cX13_holds 88 = .ok (.aload_n 0, 1) := by decide +kernel
theorem dX13_holds_89 : decode cX13_holds 89 = .ok (.lload 4, 2) := by decide +kernel
theorem dX13_holds_91 : decode cX13_holds 91 = .ok (.lload 6, 2) := by decide +kernel
theorem dX13_holds_93 : decode cX13_holds 93 = .ok (.iload_n 3, 1) := by decide +kernel
theorem dX13_holds_94 : decode cX13_holds 94 = .ok (.invokevirtual 462, 3) := by decide +kernel
theorem dX13_holds_97 : decode cX13_holds 97 = .ok (.lreturn, 1) := by decide +kernel
theorem dX13_mean_0 : decode cX13_mean 0 = .ok (.aload_n 0, 1) := by decide +kernel
theorem dX13_mean_1 : decode cX13_mean 1 = .ok (.iconst 0, 1) := by decide +kernel
theorem dX13_mean_2 : decode cX13_mean 2 = .ok (.putfield 42, 3) := by decide +kernel
theorem dX13_mean_5 : decode cX13_mean 5 = .ok (.aload_n 0, 1) := by decide +kernel
theorem dX13_mean_6 : decode cX13_mean 6 = .ok (.iload_n 1, 1) := by decide +kernel
theorem dX13_mean_7 : decode cX13_mean 7 = .ok (.invokevirtual 351, 3) := by decide +kernel
theorem dX13_mean_10 : decode cX13_mean 10 = .ok (.ifCond .ne 10, 3) := by decide +kernel
theorem dX13_mean_13 : decode cX13_mean 13 = .ok (.aload_n 0, 1) := by decide +kernel
theorem dX13_mean_14 : decode cX13_mean 14 = .ok (.iconst 1, 1) := by decide +kernel
theorem dX13_mean_15 : decode cX13_mean 15 = .ok (.invokevirtual 48, 3) := by decide +kernel
theorem dX13_mean_18 : decode cX13_mean 18 = .ok (.i2l, 1) := by decide +kernel
theorem dX13_mean_19 : decode cX13_mean 19 = .ok (.lreturn, 1) := by decide +kernel
theorem dX13_mean_20 : decode cX13_mean 20 = .ok (.lconst 0, 1) := by decide +kernel
theorem dX13_mean_21 : decode cX13_mean 21 = .ok (.lstore_n 3, 1) := by decide +kernel
theorem dX13_mean_22 : decode cX13_mean 22 = .ok (.iconst 0, 1) := by decide +kernel
theorem dX13_mean_23 : decode cX13_mean 23 = .ok (.istore 5, 2) := by decide +kernel
theorem dX13_mean_25 : decode cX13_mean 25 = .ok (.iload 5, 2) := by decide +kernel
theorem dX13_mean_27 : decode cX13_mean 27 = .ok (.aload_n 0, 1) := by decide +kernel
theorem dX13_mean_28 : decode cX13_mean 28 = .ok (.getfield 321, 3) := by decide +kernel
theorem dX13_mean_31 : decode cX13_mean 31 = .ok (.getfield 191, 3) := by decide +kernel
theorem dX13_mean_34 : decode cX13_mean 34 = .ok (.if_icmp .ge 56, 3) := by decide +kernel
theorem dX13_mean_37 : decode cX13_mean 37 = .ok (.lload_n 3, 1) := by decide +kernel
theorem dX13_mean_38 : decode cX13_mean 38 = .ok (.bipush 100, 2) := by decide +kernel
theorem dX13_mean_40 : decode cX13_mean 40 = .ok (.aload_n 0, 1) := by decide +kernel
theorem dX13_mean_41 : decode cX13_mean 41 = .ok (.iload 5, 2) := by decide +kernel
theorem dX13_mean_43 : decode cX13_mean 43 = .ok (.invokevirtual 487, 3) := by decide +kernel
theorem dX13_mean_46 : decode cX13_mean 46 = .ok (.isub, 1) := by decide +kernel
theorem dX13_mean_47 : decode cX13_mean 47 = .ok (.i2l, 1) := by decide +kernel
theorem dX13_mean_48 : decode cX13_mean 48 = .ok (.aload_n 0, 1) := by decide +kernel
theorem dX13_mean_49 : decode cX13_mean 49 = .ok (.iload_n 1, 1) := by decide +kernel
theorem dX13_mean_50 : decode cX13_mean 50 = .ok (.iload 5, 2) := by decide +kernel
theorem dX13_mean_52 : decode cX13_mean 52 = .ok (.aload_n 0, 1) := by decide +kernel
theorem dX13_mean_53 : decode cX13_mean 53 = .ok (.getfield 17, 3) := by decide +kernel
theorem dX13_mean_56 : decode cX13_mean 56 = .ok (.iload 5, 2) := by decide +kernel
theorem dX13_mean_58 : decode cX13_mean 58 = .ok (.iaload, 1) := by decide +kernel
theorem dX13_mean_59 : decode cX13_mean 59 = .ok (.invokevirtual 338, 3) := by decide +kernel
theorem dX13_mean_62 : decode cX13_mean 62 = .ok (.i2l, 1) := by decide +kernel
theorem dX13_mean_63 : decode cX13_mean 63 = .ok (.lmul, 1) := by decide +kernel
theorem dX13_mean_64 : decode cX13_mean 64 = .ok (.aload_n 0, 1) := by decide +kernel
theorem dX13_mean_65 : decode cX13_mean 65 = .ok (.iload 5, 2) := by decide +kernel
theorem dX13_mean_67 : decode cX13_mean 67 = .ok (.invokevirtual 487, 3) := by decide +kernel
theorem dX13_mean_70 : decode cX13_mean 70 = .ok (.i2l, 1) := by decide +kernel
theorem dX13_mean_71 : decode cX13_mean 71 = .ok (.aload_n 0, 1) := by decide +kernel
theorem dX13_mean_72 : decode cX13_mean 72 = .ok (.iload_n 1, 1) := by decide +kernel
theorem dX13_mean_73 : decode cX13_mean 73 = .ok (.iload 5, 2) := by decide +kernel
theorem dX13_mean_75 : decode cX13_mean 75 = .ok (.iconst 0, 1) := by decide +kernel
theorem dX13_mean_76 : decode cX13_mean 76 = .ok (.invokevirtual 338, 3) := by decide +kernel
theorem dX13_mean_79 : decode cX13_mean 79 = .ok (.i2l, 1) := by decide +kernel
theorem dX13_mean_80 : decode cX13_mean 80 = .ok (.lmul, 1) := by decide +kernel
theorem dX13_mean_81 : decode cX13_mean 81 = .ok (.ladd, 1) := by decide +kernel
theorem dX13_mean_82 : decode cX13_mean 82 = .ok (.ladd, 1) := by decide +kernel
theorem dX13_mean_83 : decode cX13_mean 83 = .ok (.lstore_n 3, 1) := by decide +kernel
theorem dX13_mean_84 : decode cX13_mean 84 = .ok (.iinc 5 1, 3) := by decide +kernel
theorem dX13_mean_87 : decode cX13_mean 87 = .ok (.goto (-62), 3) := by decide +kernel
theorem dX13_mean_90 : decode cX13_mean 90 = .ok (.aload_n 0, 1) := by decide +kernel
theorem dX13_mean_91 : decode cX13_mean 91 = .ok (.lload_n 3, 1) := by decide +kernel
theorem dX13_mean_92 : decode cX13_mean 92 = .ok (.ldc2_w 490, 3) := by decide +kernel
theorem dX13_mean_95 : decode cX13_mean 95 = .ok (.iload_n 2, 1) := by decide +kernel
theorem dX13_mean_96 : decode cX13_mean 96 = .ok (.invokevirtual 462, 3) := by decide +kernel
theorem dX13_mean_99 : decode cX13_mean 99 = .ok (.lreturn, 1) := by decide +kernel
theorem dX13_keeps_0 : decode cX13_keeps 0 = .ok (.aload_n 0, 1) := by decide +kernel
theorem dX13_keeps_1 : decode cX13_keeps 1 = .ok (.iconst 0, 1) := by decide +kernel
theorem dX13_keeps_2 : decode cX13_keeps 2 = .ok (.putfield 42, 3) := by decide +kernel
theorem dX13_keeps_5 : decode cX13_keeps 5 = .ok (.aload_n 0, 1) := by decide +kernel
theorem dX13_keeps_6 : decode cX13_keeps 6 = .ok (.aload_n 0, 1) := by decide +kernel
theorem dX13_keeps_7 : decode cX13_keeps 7 = .ok (.iload_n 1, 1) := by decide +kernel
theorem dX13_keeps_8 : decode cX13_keeps 8 = .ok (.invokevirtual 351, 3) := by decide +kernel
theorem dX13_keeps_11 : decode cX13_keeps 11 = .ok (.iload_n 2, 1) := by decide +kernel
theorem dX13_keeps_12 : decode cX13_keeps 12 = .ok (.invokevirtual 401, 3) := by decide +kernel
theorem dX13_keeps_15 : decode cX13_keeps 15 = .ok (.istore 4, 2) := by decide +kernel
theorem dX13_keeps_17 : decode cX13_keeps 17 = .ok (.iload 4, 2) := by decide +kernel
theorem dX13_keeps_19 : decode cX13_keeps 19 = .ok (.ifCond .le 11, 3) := by decide +kernel
theorem dX13_keeps_22 : decode cX13_keeps 22 = .ok (.aload_n 0, 1) := by decide +kernel
theorem dX13_keeps_23 : decode cX13_keeps 23 = .ok (.iload 4, 2) := by decide +kernel
theorem dX13_keeps_25 : decode cX13_keeps 25 = .ok (.invokevirtual 48, 3) := by decide +kernel
theorem dX13_keeps_28 : decode cX13_keeps 28 = .ok (.i2l, 1) := by decide +kernel
theorem dX13_keeps_29 : decode cX13_keeps 29 = .ok (.lreturn, 1) := by decide +kernel
theorem dX13_keeps_30 : decode cX13_keeps 30 = .ok (.lconst 0, 1) := by decide +kernel
theorem dX13_keeps_31 : decode cX13_keeps 31 = .ok (.lstore 5, 2) := by decide +kernel
theorem dX13_keeps_33 : decode cX13_keeps 33 = .ok (.lconst 1, 1) := by decide +kernel
theorem dX13_keeps_34 : decode cX13_keeps 34 = .ok (.lstore 7, 2) := by decide +kernel
theorem dX13_keeps_36 : decode cX13_keeps 36 = .ok (.iconst 0, 1) := by decide +kernel
theorem dX13_keeps_37 : decode cX13_keeps 37 = .ok (.istore 9, 2) := by decide +kernel
theorem dX13_keeps_39 : decode cX13_keeps 39 = .ok (.iload 9, 2) := by decide +kernel
theorem dX13_keeps_41 : decode cX13_keeps 41 = .ok (.aload_n 0, 1) := by decide +kernel
theorem dX13_keeps_42 : decode cX13_keeps 42 = .ok (.getfield 321, 3) := by decide +kernel
theorem dX13_keeps_45 : decode cX13_keeps 45 = .ok (.getfield 191, 3) := by decide +kernel
theorem dX13_keeps_48 : decode cX13_keeps 48 = .ok (.if_icmp .ge 31, 3) := by decide +kernel
theorem dX13_keeps_51 : decode cX13_keeps 51 = .ok (.lload 7, 2) := by decide +kernel
theorem dX13_keeps_53 : decode cX13_keeps 53 = .ok (.aload_n 0, 1) := by decide +kernel
theorem dX13_keeps_54 : decode cX13_keeps 54 = .ok (.getfield 17, 3) := by decide +kernel
theorem dX13_keeps_57 : decode cX13_keeps 57 = .ok (.iload 9, 2) := by decide +kernel
theorem dX13_keeps_59 : decode cX13_keeps 59 = .ok (.iaload, 1) := by decide +kernel
theorem dX13_keeps_60 : decode cX13_keeps 60 = .ok (.ifCond .le 9, 3) := by decide +kernel
theorem dX13_keeps_63 : decode cX13_keeps 63 = .ok (.ldc2_w 490, 3) := by decide +kernel
theorem dX13_keeps_66 : decode cX13_keeps 66 = .ok (.goto 4, 3) := by decide +kernel
theorem dX13_keeps_69 : decode cX13_keeps 69 = .ok (.lconst 1, 1) := by decide +kernel
theorem dX13_keeps_70 : decode cX13_keeps 70 = .ok (.lmul, 1) := by decide +kernel
theorem dX13_keeps_71 : decode cX13_keeps 71 = .ok (.lstore 7, 2) := by decide +kernel
theorem dX13_keeps_73 : decode cX13_keeps 73 = .ok (.iinc 9 1, 3) := by decide +kernel
theorem dX13_keeps_76 : decode cX13_keeps 76 = .ok (.goto (-37), 3) := by decide +kernel
theorem dX13_keeps_79 : decode cX13_keeps 79 = .ok (.iconst 0, 1) := by decide +kernel
theorem dX13_keeps_80 : decode cX13_keeps 80 = .ok (.istore 9, 2) := by decide +kernel
theorem dX13_keeps_82 : decode cX13_keeps 82 = .ok (.iload 9, 2) := by decide +kernel
theorem dX13_keeps_84 : decode cX13_keeps 84 = .ok (.iconst 1, 1) := by decide +kernel
theorem dX13_keeps_85 : decode cX13_keeps 85 = .ok (.aload_n 0, 1) := by decide +kernel
theorem dX13_keeps_86 : decode cX13_keeps 86 = .ok (.getfield 321, 3) := by decide +kernel
theorem dX13_keeps_89 : decode cX13_keeps 89 = .ok (.getfield 191, 3) := by decide +kernel
theorem dX13_keeps_92 : decode cX13_keeps 92 = .ok (.ishl, 1) := by decide +kernel
theorem dX13_keeps_93 : decode cX13_keeps 93 = .ok (.if_icmp .ge 143, 3) := by decide +kernel
theorem dX13_keeps_96 : decode cX13_keeps 96 = .ok (.lconst 1, 1) := by decide +kernel
theorem dX13_keeps_97 : decode cX13_keeps 97 = .ok (.lstore 10, 2) := by decide +kernel
theorem dX13_keeps_99 : decode cX13_keeps 99 = .ok (.aload_n 0, 1) := by decide +kernel
theorem dX13_keeps_100 : decode cX13_keeps 100 = .ok (.invokevirtual 348, 3) := by decide +kernel
theorem dX13_keeps_103 : decode cX13_keeps 103 = .ok (.iconst 0, 1) := by decide +kernel
theorem dX13_keeps_104 : decode cX13_keeps 104 = .ok (.istore 12, 2) := by decide +kernel
theorem dX13_keeps_106 : decode cX13_keeps 106 = .ok (.iload 12, 2) := by decide +kernel
theorem dX13_keeps_108 : decode cX13_keeps 108 = .ok (.aload_n 0, 1) := by decide +kernel
theorem dX13_keeps_109 : decode cX13_keeps 109 = .ok (.getfield 321, 3) := by decide +kernel
theorem dX13_keeps_112 : decode cX13_keeps 112 = .ok (.getfield 191, 3) := by decide +kernel
theorem dX13_keeps_115 : decode cX13_keeps 115 = .ok (.if_icmp .ge 95, 3) := by decide +kernel
theorem dX13_keeps_118 : decode cX13_keeps 118 = .ok (.aload_n 0, 1) := by decide +kernel
theorem dX13_keeps_119 : decode cX13_keeps 119 = .ok (.getfield 17, 3) := by decide +kernel
theorem dX13_keeps_122 : decode cX13_keeps 122 = .ok (.iload 12, 2) := by decide +kernel
theorem dX13_keeps_124 : decode cX13_keeps 124 = .ok (.iaload, 1) := by decide +kernel
theorem dX13_keeps_125 : decode cX13_keeps 125 = .ok (.ifCond .ne 26, 3) := by decide +kernel
theorem dX13_keeps_128 : decode cX13_keeps 128 = .ok (.lload 10, 2) := by decide +kernel
theorem dX13_keeps_130 : decode cX13_keeps 130 = .ok (.iload 9, 2) := by decide +kernel
theorem dX13_keeps_132 : decode cX13_keeps 132 = .ok (.iload 12, 2) := by decide +kernel
theorem dX13_keeps_134 : decode cX13_keeps 134 = .ok (.invokestatic 249, 3) := by decide +kernel
theorem dX13_keeps_137 : decode cX13_keeps 137 = .ok (.ifCond .eq 7, 3) := by decide +kernel
theorem dX13_keeps_140 : decode cX13_keeps 140 = .ok (.lconst 0, 1) := by decide +kernel
theorem dX13_keeps_141 : decode cX13_keeps 141 = .ok (.goto 4, 3) := by decide +kernel
theorem dX13_keeps_144 : decode cX13_keeps 144 = .ok (.lconst 1, 1) := by decide +kernel
theorem dX13_keeps_145 : decode cX13_keeps 145 = .ok (.lmul, 1) := by decide +kernel
theorem dX13_keeps_146 : decode cX13_keeps 146 = .ok (.lstore 10, 2) := by decide +kernel
theorem dX13_keeps_148 : decode cX13_keeps 148 = .ok (.goto 38, 3) := by decide +kernel
theorem dX13_keeps_151 : decode cX13_keeps 151 = .ok (.lload 10, 2) := by decide +kernel
theorem dX13_keeps_153 : decode cX13_keeps 153 = .ok (.iload 9, 2) := by decide +kernel
theorem dX13_keeps_155 : decode cX13_keeps 155 = .ok (.iload 12, 2) := by decide +kernel
theorem dX13_keeps_157 : decode cX13_keeps 157 = .ok (.invokestatic 249, 3) := by decide +kernel
theorem dX13_keeps_160 : decode cX13_keeps 160 = .ok (.ifCond .eq 13, 3) := by decide +kernel
theorem dX13_keeps_163 : decode cX13_keeps 163 = .ok (.aload_n 0, 1) := by decide +kernel
theorem dX13_keeps_164 : decode cX13_keeps 164 = .ok (.iload 12, 2) := by decide +kernel
theorem dX13_keeps_166 : decode cX13_keeps 166 = .ok (.invokevirtual 487, 3) := by decide +kernel
theorem dX13_keeps_169 : decode cX13_keeps 169 = .ok (.i2l, 1) := by decide +kernel
theorem dX13_keeps_170 : decode cX13_keeps 170 = .ok (.goto 13, 3) := by decide +kernel
theorem dX13_keeps_173 : decode cX13_keeps 173 = .ok (.bipush 100, 2) := by decide +kernel
theorem dX13_keeps_175 : decode cX13_keeps 175 = .ok (.aload_n 0, 1) := by decide +kernel
theorem dX13_keeps_176 : decode cX13_keeps 176 = .ok (.iload 12, 2) := by decide +kernel
theorem dX13_keeps_178 : decode cX13_keeps 178 = .ok (.invokevirtual 487, 3) := by decide +kernel
theorem dX13_keeps_181 : decode cX13_keeps 181 = .ok (.isub, 1) := by decide +kernel
theorem dX13_keeps_182 : decode cX13_keeps 182 = .ok (.i2l, 1) := by decide +kernel
theorem dX13_keeps_183 : decode cX13_keeps 183 = .ok (.lmul, 1) := by decide +kernel
theorem dX13_keeps_184 : decode cX13_keeps 184 = .ok (.lstore 10, 2) := by decide +kernel
theorem dX13_keeps_186 : decode cX13_keeps 186 = .ok (.iload 9, 2) := by decide +kernel
theorem dX13_keeps_188 : decode cX13_keeps 188 = .ok (.iload 12, 2) := by decide +kernel
theorem dX13_keeps_190 : decode cX13_keeps 190 = .ok (.invokestatic 249, 3) := by decide +kernel
theorem dX13_keeps_193 : decode cX13_keeps 193 = .ok (.ifCond .eq 11, 3) := by decide +kernel
theorem dX13_keeps_196 : decode cX13_keeps 196 = .ok (.aload_n 0, 1) := by decide +kernel
theorem dX13_keeps_197 : decode cX13_keeps 197 = .ok (.getfield 21, 3) := by decide +kernel
theorem dX13_keeps_200 : decode cX13_keeps 200 = .ok (.iload 12, 2) := by decide +kernel
theorem dX13_keeps_202 : decode cX13_keeps 202 = .ok (.iconst 0, 1) := by decide +kernel
theorem dX13_keeps_203 : decode cX13_keeps 203 = .ok (.iastore, 1) := by decide +kernel
theorem dX13_keeps_204 : decode cX13_keeps 204 = .ok (.iinc 12 1, 3) := by decide +kernel
theorem dX13_keeps_207 : decode cX13_keeps 207 = .ok (.goto (-101), 3) := by decide +kernel
theorem dX13_keeps_210 : decode cX13_keeps 210 = .ok (.lload 5, 2) := by decide +kernel
theorem dX13_keeps_212 : decode cX13_keeps 212 = .ok (.aload_n 0, 1) := by decide +kernel
theorem dX13_keeps_213 : decode cX13_keeps 213 = .ok (.iload_n 1, 1) := by decide +kernel
theorem dX13_keeps_214 : decode cX13_keeps 214 = .ok (.invokevirtual 354, 3) := by decide +kernel
theorem dX13_keeps_217 : decode cX13_keeps 217 = .ok (.iload_n 2, 1) := by decide +kernel
theorem dX13_keeps_218 : decode cX13_keeps 218 = .ok (.if_icmp .lt 8, 3) := by decide +kernel
theorem dX13_keeps_221 : decode cX13_keeps 221 = .ok (.lload 10, 2) := by decide +kernel
theorem dX13_keeps_223 : decode cX13_keeps 223 = .ok (.goto 4, 3) := by decide +kernel
theorem dX13_keeps_226 : decode cX13_keeps 226 = .ok (.lconst 0, 1) := by decide +kernel
theorem dX13_keeps_227 : decode cX13_keeps 227 = .ok (.ladd, 1) := by decide +kernel
theorem dX13_keeps_228 : decode cX13_keeps 228 = .ok (.lstore 5, 2) := by decide +kernel
theorem dX13_keeps_230 : decode cX13_keeps 230 = .ok (.iinc 9 1, 3) := by decide +kernel
theorem dX13_keeps_233 : decode cX13_keeps 233 = .ok (.goto (-151), 3) := by decide +kernel
theorem dX13_keeps_236 : decode cX13_keeps 236 = .ok (.aload_n 0, 1) := by decide +kernel
theorem dX13_keeps_237 : decode cX13_keeps 237 = .ok (.lload 5, 2) := by decide +kernel
theorem dX13_keeps_239 : decode cX13_keeps 239 = .ok (.lload 7, 2) := by decide +kernel
theorem dX13_keeps_241 : decode cX13_keeps 241 = .ok (.iload_n 3, 1) := by decide +kernel
theorem dX13_keeps_242 : decode cX13_keeps 242 = .ok (.invokevirtual 462, 3) := by decide +kernel
theorem dX13_keeps_245 : decode cX13_keeps 245 = .ok (.lreturn, 1) := by decide +kernel
theorem dX13_aYear_0 : decode cX13_aYear 0 = .ok (.iconst 0, 1) := by decide +kernel
theorem dX13_aYear_1 : decode cX13_aYear 1 = .ok (.istore_n 1, 1) := by decide +kernel
theorem dX13_aYear_2 : decode cX13_aYear 2 = .ok (.iconst 0, 1) := by decide +kernel
theorem dX13_aYear_3 : decode cX13_aYear 3 = .ok (.istore_n 2, 1) := by decide +kernel
theorem dX13_aYear_4 : decode cX13_aYear 4 = .ok (.iload_n 2, 1) := by decide +kernel
theorem dX13_aYear_5 : decode cX13_aYear 5 = .ok (.aload_n 0, 1) := by decide +kernel
theorem dX13_aYear_6 : decode cX13_aYear 6 = .ok (.getfield 321, 3) := by decide +kernel
theorem dX13_aYear_9 : decode cX13_aYear 9 = .ok (.getfield 191, 3) := by decide +kernel
theorem dX13_aYear_12 : decode cX13_aYear 12 = .ok (.if_icmp .ge 84, 3) := by decide +kernel
theorem dX13_aYear_15 : decode cX13_aYear 15 = .ok (.aload_n 0, 1) := by decide +kernel
theorem dX13_aYear_16 : decode cX13_aYear 16 = .ok (.getfield 321, 3) := by decide +kernel
theorem dX13_aYear_19 : decode cX13_aYear 19 = .ok (.getfield 275, 3) := by decide +kernel
theorem dX13_aYear_22 : decode cX13_aYear 22 = .ok (.iload_n 2, 1) := by decide +kernel
theorem dX13_aYear_23 : decode cX13_aYear 23 = .ok (.iaload, 1) := by decide +kernel
theorem dX13_aYear_24 : decode cX13_aYear 24 = .ok (.iconst 2, 1) := by decide +kernel
theorem dX13_aYear_25 : decode cX13_aYear 25 = .ok (.if_icmp .eq 65, 3) := by decide +kernel
theorem dX13_aYear_28 : decode cX13_aYear 28 = .ok (.aload_n 0, 1) := by decide +kernel
theorem dX13_aYear_29 : decode cX13_aYear 29 = .ok (.getfield 21, 3) := by decide +kernel
theorem dX13_aYear_32 : decode cX13_aYear 32 = .ok (.iload_n 2, 1) := by decide +kernel
theorem dX13_aYear_33 : decode cX13_aYear 33 = .ok (.iaload, 1) := by decide +kernel
theorem dX13_aYear_34 : decode cX13_aYear 34 = .ok (.ifCond .ne 6, 3) := by decide +kernel
theorem dX13_aYear_37 : decode cX13_aYear 37 = .ok (.goto 53, 3) := by decide +kernel
theorem dX13_aYear_40 : decode cX13_aYear 40 = .ok (.aload_n 0, 1) := by decide +kernel
theorem dX13_aYear_41 : decode cX13_aYear 41 = .ok (.ldc2_w 492, 3) := by decide +kernel
theorem dX13_aYear_44 : decode cX13_aYear 44 = .ok (.aload_n 0, 1) := by decide +kernel
theorem dX13_aYear_45 : decode cX13_aYear 45 = .ok (.getfield 494, 3) := by decide +kernel
theorem dX13_aYear_48 : decode cX13_aYear 48 = .ok (.i2l, 1) := by decide +kernel
theorem dX13_aYear_49 : decode cX13_aYear 49 = .ok (.lmul, 1) := by decide +kernel
theorem dX13_aYear_50 : decode cX13_aYear 50 = .ok (.ldc2_w 497, 3) := by decide +kernel
theorem dX13_aYear_53 : decode cX13_aYear 53 = .ok (.ladd, 1) := by decide +kernel
theorem dX13_aYear_54 : decode cX13_aYear 54 = .ok (.ldc2_w 499, 3) := by decide +kernel
theorem dX13_aYear_57 : decode cX13_aYear 57 = .ok (.lrem, 1) := by decide +kernel
theorem dX13_aYear_58 : decode cX13_aYear 58 = .ok (.l2i, 1) := by decide +kernel
theorem dX13_aYear_59 : decode cX13_aYear 59 = .ok (.putfield 494, 3) := by decide +kernel
theorem dX13_aYear_62 : decode cX13_aYear 62 = .ok (.aload_n 0, 1) := by decide +kernel
theorem dX13_aYear_63 : decode cX13_aYear 63 = .ok (.getfield 494, 3) := by decide +kernel
theorem dX13_aYear_66 : decode cX13_aYear 66 = .ok (.bipush 100, 2) := by decide +kernel
theorem dX13_aYear_68 : decode cX13_aYear 68 = .ok (.irem, 1) := by decide +kernel
theorem dX13_aYear_69 : decode cX13_aYear 69 = .ok (.aload_n 0, 1) := by decide +kernel
theorem dX13_aYear_70 : decode cX13_aYear 70 = .ok (.iload_n 2, 1) := by decide +kernel
theorem dX13_aYear_71 : decode cX13_aYear 71 = .ok (.invokevirtual 487, 3) := by decide +kernel
theorem dX13_aYear_74 : decode cX13_aYear 74 = .ok (.if_icmp .lt 6, 3) := by decide +kernel
theorem dX13_aYear_77 : decode cX13_aYear 77 = .ok (.goto 13, 3) := by decide +kernel
theorem dX13_aYear_80 : decode cX13_aYear 80 = .ok (.aload_n 0, 1) := by decide +kernel
theorem dX13_aYear_81 : decode cX13_aYear 81 = .ok (.getfield 21, 3) := by decide +kernel
theorem dX13_aYear_84 : decode cX13_aYear 84 = .ok (.iload_n 2, 1) := by decide +kernel
theorem dX13_aYear_85 : decode cX13_aYear 85 = .ok (.iconst 0, 1) := by decide +kernel
theorem dX13_aYear_86 : decode cX13_aYear 86 = .ok (.iastore, 1) := by decide +kernel
theorem dX13_aYear_87 : decode cX13_aYear 87 = .ok (.iinc 1 1, 3) := by decide +kernel
theorem dX13_aYear_90 : decode cX13_aYear 90 = .ok (.iinc 2 1, 3) := by decide +kernel
theorem dX13_aYear_93 : decode cX13_aYear 93 = .ok (.goto (-89), 3) := by decide +kernel
theorem dX13_aYear_96 : decode cX13_aYear 96 = .ok (.iload_n 1, 1) := by decide +kernel
theorem dX13_aYear_97 : decode cX13_aYear 97 = .ok (.ireturn, 1) := by decide +kernel
theorem dX13_refusesSeed_0 : decode cX13_refusesSeed 0 = .ok (.iload_n 1, 1) := by decide +kernel
theorem dX13_refusesSeed_1 : decode cX13_refusesSeed 1 = .ok (.ifCond .ne 7, 3) := by decide +kernel
theorem dX13_refusesSeed_4 : decode cX13_refusesSeed 4 = .ok (.iconst 1, 1) := by decide +kernel
theorem dX13_refusesSeed_5 : decode cX13_refusesSeed 5 = .ok (.goto 29, 3) := by decide +kernel
theorem dX13_refusesSeed_8 : decode cX13_refusesSeed 8 = .ok (.iload_n 2, 1) := by decide +kernel
theorem dX13_refusesSeed_9 : decode cX13_refusesSeed 9 = .ok (.iconst 0, 1) := by decide +kernel
theorem dX13_refusesSeed_10 : decode cX13_refusesSeed 10 = .ok (.ldc_w 501, 3) := by decide +kernel
theorem dX13_refusesSeed_13 : decode cX13_refusesSeed 13 = .ok (.invokestatic 121, 3) := by decide +kernel
theorem dX13_refusesSeed_16 : decode cX13_refusesSeed 16 = .ok (.ifCond .eq 17, 3) := by decide +kernel
theorem dX13_refusesSeed_19 : decode cX13_refusesSeed 19 = .ok (.iload_n 3, 1) := by decide +kernel
theorem dX13_refusesSeed_20 : decode cX13_refusesSeed 20 = .ok (.iconst 0, 1) := by decide +kernel
theorem dX13_refusesSeed_21 : decode cX13_refusesSeed 21 = .ok (.bipush 60, 2) := by decide +kernel
theorem dX13_refusesSeed_23 : decode cX13_refusesSeed 23 = .ok (.invokestatic 121, 3) := by decide +kernel
theorem dX13_refusesSeed_26 : decode cX13_refusesSeed 26 = .ok (.ifCond .eq 7, 3) := by decide +kernel
theorem dX13_refusesSeed_29 : decode cX13_refusesSeed 29 = .ok (.iconst 0, 1) := by decide +kernel
theorem dX13_refusesSeed_30 : decode cX13_refusesSeed 30 = .ok (.goto 4, 3) := by decide +kernel
theorem dX13_refusesSeed_33 : decode cX13_refusesSeed 33 = .ok (.iconst 2, 1) := by decide +kernel
theorem dX13_refusesSeed_34 : decode cX13_refusesSeed 34 = .ok (.ireturn, 1) := by decide +kernel
theorem dX13_century_0 : decode cX13_century 0 = .ok (.aload_n 0, 1) := by decide +kernel
theorem dX13_century_1 : decode cX13_century 1 = .ok (.iconst 0, 1) := by decide +kernel
theorem dX13_century_2 : decode cX13_century 2 = .ok (.putfield 42, 3) := by decide +kernel
theorem dX13_century_5 : decode cX13_century 5 = .ok (.aload_n 0, 1) := by decide +kernel
theorem dX13_century_6 : decode cX13_century 6 = .ok (.aload_n 0, 1) := by decide +kernel
theorem dX13_century_7 : decode cX13_century 7 = .ok (.iload_n 1, 1) := by decide +kernel
theorem dX13_century_8 : decode cX13_century 8 = .ok (.invokevirtual 351, 3) := by decide +kernel
theorem dX13_century_11 : decode cX13_century 11 = .ok (.iload_n 2, 1) := by decide +kernel
theorem dX13_century_12 : decode cX13_century 12 = .ok (.iload_n 3, 1) := by decide +kernel
theorem dX13_century_13 : decode cX13_century 13 = .ok (.invokevirtual 502, 3) := by decide +kernel
theorem dX13_century_16 : decode cX13_century 16 = .ok (.istore 4, 2) := by decide +kernel
theorem dX13_century_18 : decode cX13_century 18 = .ok (.iload 4, 2) := by decide +kernel
theorem dX13_century_20 : decode cX13_century 20 = .ok (.ifCond .le 10, 3) := by decide +kernel
theorem dX13_century_23 : decode cX13_century 23 = .ok (.aload_n 0, 1) := by decide +kernel
theorem dX13_century_24 : decode cX13_century 24 = .ok (.iload 4, 2) := by decide +kernel
theorem dX13_century_26 : decode cX13_century 26 = .ok (.invokevirtual 48, 3) := by decide +kernel
theorem dX13_century_29 : decode cX13_century 29 = .ok (.ireturn, 1) := by decide +kernel
theorem dX13_century_30 : decode cX13_century 30 = .ok (.aload_n 0, 1) := by decide +kernel
theorem dX13_century_31 : decode cX13_century 31 = .ok (.invokevirtual 348, 3) := by decide +kernel
theorem dX13_century_34 : decode cX13_century 34 = .ok (.aload_n 0, 1) := by decide +kernel
theorem dX13_century_35 : decode cX13_century 35 = .ok (.iload_n 2, 1) := by decide +kernel
theorem dX13_century_36 : decode cX13_century 36 = .ok (.putfield 494, 3) := by decide +kernel
theorem dX13_century_39 : decode cX13_century 39 = .ok (.iconst 0, 1) := by decide +kernel
theorem dX13_century_40 : decode cX13_century 40 = .ok (.istore 5, 2) := by decide +kernel
theorem dX13_century_42 : decode cX13_century 42 = .ok (.iload 5, 2) := by decide +kernel
theorem dX13_century_44 : decode cX13_century 44 = .ok (.iload_n 3, 1) := by decide +kernel
theorem dX13_century_45 : decode cX13_century 45 = .ok (.if_icmp .ge 14, 3) := by decide +kernel
theorem dX13_century_48 : decode cX13_century 48 = .ok (.aload_n 0, 1) := by decide +kernel
theorem dX13_century_49 : decode cX13_century 49 = .ok (.invokevirtual 506, 3) := by decide +kernel
theorem dX13_century_52 : decode cX13_century 52 = .ok (.pop, 1) := by decide +kernel
theorem dX13_century_53 : decode cX13_century 53 = .ok (.iinc 5 1, 3) := by decide +kernel
theorem dX13_century_56 : decode cX13_century 56 = .ok (.goto (-14), 3) := by decide +kernel
theorem dX13_century_59 : decode cX13_century 59 = .ok (.aload_n 0, 1) := by decide +kernel
theorem dX13_century_60 : decode cX13_century 60 = .ok (.aload_n 0, 1) := by decide +kernel
theorem dX13_century_61 : decode cX13_century 61 = .ok (.iload_n 1, 1) := by decide +kernel
theorem dX13_century_62 : decode cX13_century 62 = .ok (.invokevirtual 354, 3) := by decide +kernel
theorem dX13_century_65 : decode cX13_century 65 = .ok (.invokevirtual 52, 3) := by decide +kernel
theorem dX13_century_68 : decode cX13_century 68 = .ok (.ireturn, 1) := by decide +kernel
theorem dX13_isBare_0 : decode cX13_isBare 0 = .ok (.iconst 0, 1) := by decide +kernel
theorem dX13_isBare_1 : decode cX13_isBare 1 = .ok (.istore_n 1, 1) := by decide +kernel
theorem dX13_isBare_2 : decode cX13_isBare 2 = .ok (.iload_n 1, 1) := by decide +kernel
theorem dX13_isBare_3 : decode cX13_isBare 3 = .ok (.aload_n 0, 1) := by decide +kernel
theorem dX13_isBare_4 : decode cX13_isBare 4 = .ok (.getfield 321, 3) := by decide +kernel
theorem dX13_isBare_7 : decode cX13_isBare 7 = .ok (.getfield 191, 3) := by decide +kernel
theorem dX13_isBare_10 : decode cX13_isBare 10 = .ok (.if_icmp .ge 33, 3) := by decide +kernel
theorem dX13_isBare_13 : decode cX13_isBare 13 = .ok (.aload_n 0, 1) := by decide +kernel
theorem dX13_isBare_14 : decode cX13_isBare 14 = .ok (.getfield 321, 3) := by decide +kernel
theorem dX13_isBare_17 : decode cX13_isBare 17 = .ok (.getfield 275, 3) := by decide +kernel
theorem dX13_isBare_20 : decode cX13_isBare 20 = .ok (.iload_n 1, 1) := by decide +kernel
theorem dX13_isBare_21 : decode cX13_isBare 21 = .ok (.iaload, 1) := by decide +kernel
theorem dX13_isBare_22 : decode cX13_isBare 22 = .ok (.iconst 2, 1) := by decide +kernel
theorem dX13_isBare_23 : decode cX13_isBare 23 = .ok (.if_icmp .eq 14, 3) := by decide +kernel
theorem dX13_isBare_26 : decode cX13_isBare 26 = .ok (.aload_n 0, 1) := by decide +kernel
theorem dX13_isBare_27 : decode cX13_isBare 27 = .ok (.getfield 21, 3) := by decide +kernel
theorem dX13_isBare_30 : decode cX13_isBare 30 = .ok (.iload_n 1, 1) := by decide +kernel
theorem dX13_isBare_31 : decode cX13_isBare 31 = .ok (.iaload, 1) := by decide +kernel
theorem dX13_isBare_32 : decode cX13_isBare 32 = .ok (.ifCond .le 5, 3) := by decide +kernel
theorem dX13_isBare_35 : decode cX13_isBare 35 = .ok (.iconst 0, 1) := by decide +kernel
theorem dX13_isBare_36 : decode cX13_isBare 36 = .ok (.ireturn, 1) := by decide +kernel
theorem dX13_isBare_37 : decode cX13_isBare 37 = .ok (.iinc 1 1, 3) := by decide +kernel
theorem dX13_isBare_40 : decode cX13_isBare 40 = .ok (.goto (-38), 3) := by decide +kernel
theorem dX13_isBare_43 : decode cX13_isBare 43 = .ok (.iconst 1, 1) := by decide +kernel
theorem dX13_isBare_44 : decode cX13_isBare 44 = .ok (.ireturn, 1) := by decide +kernel
theorem dX13_bare_0 : decode cX13_bare 0 = .ok (.aload_n 0, 1) := by decide +kernel
theorem dX13_bare_1 : decode cX13_bare 1 = .ok (.iconst 0, 1) := by decide +kernel
theorem dX13_bare_2 : decode cX13_bare 2 = .ok (.putfield 42, 3) := by decide +kernel
theorem dX13_bare_5 : decode cX13_bare 5 = .ok (.aload_n 0, 1) := by decide +kernel
theorem dX13_bare_6 : decode cX13_bare 6 = .ok (.aload_n 0, 1) := by decide +kernel
theorem dX13_bare_7 : decode cX13_bare 7 = .ok (.getfield 321, 3) := by decide +kernel
theorem dX13_bare_10 : decode cX13_bare 10 = .ok (.ifnull 7, 3) := by decide +kernel
theorem dX13_bare_13 : decode cX13_bare 13 = .ok (.iconst 1, 1) := by decide +kernel
theorem dX13_bare_14 : decode cX13_bare 14 = .ok (.goto 4, 3) := by decide +kernel
theorem dX13_bare_17 : decode cX13_bare 17 = .ok (.iconst 0, 1) := by decide +kernel
theorem dX13_bare_18 : decode cX13_bare 18 = .ok (.iload_n 1, 1) := by decide +kernel
theorem dX13_bare_19 : decode cX13_bare 19 = .ok (.iload_n 2, 1) := by decide +kernel
theorem dX13_bare_20 : decode cX13_bare 20 = .ok (.invokevirtual 502, 3) := by decide +kernel
theorem dX13_bare_23 : decode cX13_bare 23 = .ok (.istore_n 3, 1) := by decide +kernel
theorem dX13_bare_24 : decode cX13_bare 24 = .ok (.iload_n 3, 1) := by decide +kernel
theorem dX13_bare_25 : decode cX13_bare 25 = .ok (.ifCond .le 9, 3) := by decide +kernel
theorem dX13_bare_28 : decode cX13_bare 28 = .ok (.aload_n 0, 1) := by decide +kernel
theorem dX13_bare_29 : decode cX13_bare 29 = .ok (.iload_n 3, 1) := by decide +kernel
theorem dX13_bare_30 : decode cX13_bare 30 = .ok (.invokevirtual 48, 3) := by decide +kernel
theorem dX13_bare_33 : decode cX13_bare 33 = .ok (.ireturn, 1) := by decide +kernel
theorem dX13_bare_34 : decode cX13_bare 34 = .ok (.aload_n 0, 1) := by decide +kernel
theorem dX13_bare_35 : decode cX13_bare 35 = .ok (.invokevirtual 348, 3) := by decide +kernel
theorem dX13_bare_38 : decode cX13_bare 38 = .ok (.aload_n 0, 1) := by decide +kernel
theorem dX13_bare_39 : decode cX13_bare 39 = .ok (.iload_n 1, 1) := by decide +kernel
theorem dX13_bare_40 : decode cX13_bare 40 = .ok (.putfield 494, 3) := by decide +kernel
theorem dX13_bare_43 : decode cX13_bare 43 = .ok (.iconst 0, 1) := by decide +kernel
theorem dX13_bare_44 : decode cX13_bare 44 = .ok (.istore 4, 2) := by decide +kernel
theorem dX13_bare_46 : decode cX13_bare 46 = .ok (.iload 4, 2) := by decide +kernel
theorem dX13_bare_48 : decode cX13_bare 48 = .ok (.iload_n 2, 1) := by decide +kernel
theorem dX13_bare_49 : decode cX13_bare 49 = .ok (.if_icmp .gt 28, 3) := by decide +kernel
theorem dX13_bare_52 : decode cX13_bare 52 = .ok (.aload_n 0, 1) := by decide +kernel
theorem dX13_bare_53 : decode cX13_bare 53 = .ok (.invokevirtual 509, 3) := by decide +kernel
theorem dX13_bare_56 : decode cX13_bare 56 = .ok (.ifCond .eq 10, 3) := by decide +kernel
theorem dX13_bare_59 : decode cX13_bare 59 = .ok (.aload_n 0, 1) := by decide +kernel
theorem dX13_bare_60 : decode cX13_bare 60 = .ok (.iload 4, 2) := by decide +kernel
theorem dX13_bare_62 : decode cX13_bare 62 = .ok (.invokevirtual 52, 3) := by decide +kernel
theorem dX13_bare_65 : decode cX13_bare 65 = .ok (.ireturn, 1) := by decide +kernel
theorem dX13_bare_66 : decode cX13_bare 66 = .ok (.aload_n 0, 1) := by decide +kernel
theorem dX13_bare_67 : decode cX13_bare 67 = .ok (.invokevirtual 506, 3) := by decide +kernel
theorem dX13_bare_70 : decode cX13_bare 70 = .ok (.pop, 1) := by decide +kernel
theorem dX13_bare_71 : decode cX13_bare 71 = .ok (.iinc 4 1, 3) := by decide +kernel
theorem dX13_bare_74 : decode cX13_bare 74 = .ok (.goto (-28), 3) := by decide +kernel
theorem dX13_bare_77 : decode cX13_bare 77 = .ok (.aload_n 0, 1) := by decide +kernel
theorem dX13_bare_78 : decode cX13_bare 78 = .ok (.bipush (-2), 2) := by decide +kernel
theorem dX13_bare_80 : decode cX13_bare 80 = .ok (.invokevirtual 52, 3) := by decide +kernel
theorem dX13_bare_83 : decode cX13_bare 83 = .ok (.ireturn, 1) := by decide +kernel
theorem dX13_remembers_0 : decode cX13_remembers 0 = .ok (.aload_n 0, 1) := by decide +kernel
theorem dX13_remembers_1 : decode cX13_remembers 1 = .ok (.getfield 326, 3) := by decide +kernel
theorem dX13_remembers_4 : decode cX13_remembers 4 = .ok (.bipush 16, 2) := by decide +kernel
theorem dX13_remembers_6 : decode cX13_remembers 6 = .ok (.if_icmp .ne 43, 3) := by decide +kernel
theorem dX13_remembers_9 : decode cX13_remembers 9 = .ok (.iconst 0, 1) := by decide +kernel
theorem dX13_remembers_10 : decode cX13_remembers 10 = .ok (.istore_n 1, 1) := by decide +kernel
theorem dX13_remembers_11 : decode cX13_remembers 11 = .ok (.iload_n 1, 1) := by decide +kernel
theorem dX13_remembers_12 : decode cX13_remembers 12 = .ok (.sipush 135, 3) := by decide +kernel
theorem dX13_remembers_15 : decode cX13_remembers 15 = .ok (.if_icmp .ge 24, 3) := by decide +kernel
theorem dX13_remembers_18 : decode cX13_remembers 18 = .ok (.aload_n 0, 1) := by decide +kernel
theorem dX13_remembers_19 : decode cX13_remembers 19 = .ok (.getfield 24, 3) := by decide +kernel
theorem dX13_remembers_22 : decode cX13_remembers 22 = .ok (.iload_n 1, 1) := by decide +kernel
theorem dX13_remembers_23 : decode cX13_remembers 23 = .ok (.aload_n 0, 1) := by decide +kernel
theorem dX13_remembers_24 : decode cX13_remembers 24 = .ok (.getfield 24, 3) := by decide +kernel
theorem dX13_remembers_27 : decode cX13_remembers 27 = .ok (.iload_n 1, 1) := by decide +kernel
theorem dX13_remembers_28 : decode cX13_remembers 28 = .ok (.bipush 9, 2) := by decide +kernel
theorem dX13_remembers_30 : decode cX13_remembers 30 = .ok (.iadd, 1) := by decide +kernel
theorem dX13_remembers_31 : decode cX13_remembers 31 = .ok (.iaload, 1) := by decide +kernel
theorem dX13_remembers_32 : decode cX13_remembers 32 = .ok (.iastore, 1) := by decide +kernel
theorem dX13_remembers_33 : decode cX13_remembers 33 = .ok (.iinc 1 1, 3) := by decide +kernel
theorem dX13_remembers_36 : decode cX13_remembers 36 = .ok (.goto (-25), 3) := by decide +kernel
theorem dX13_remembers_39 : decode cX13_remembers 39 = .ok (.aload_n 0, 1) := by decide +kernel
theorem dX13_remembers_40 : decode cX13_remembers 40 = .ok (.dup, 1) := by decide +kernel
theorem dX13_remembers_41 : decode cX13_remembers 41 = .ok (.getfield 326, 3) := by decide +kernel
theorem dX13_remembers_44 : decode cX13_remembers 44 = .ok (.iconst 1, 1) := by decide +kernel
theorem dX13_remembers_45 : decode cX13_remembers 45 = .ok (.isub, 1) := by decide +kernel
theorem dX13_remembers_46 : decode cX13_remembers 46 = .ok (.putfield 326, 3) := by decide +kernel
theorem dX13_remembers_49 : decode cX13_remembers 49 = .ok (.iconst 0, 1) := by decide +kernel
theorem dX13_remembers_50 : decode cX13_remembers 50 = .ok (.istore_n 1, 1) := by decide +kernel
theorem dX13_remembers_51 : decode cX13_remembers 51 = .ok (.iload_n 1, 1) := by decide +kernel
theorem dX13_remembers_52 : decode cX13_remembers 52 = .ok (.bipush 9, 2) := by decide +kernel
theorem dX13_remembers_54 : decode cX13_remembers 54 = .ok (.if_icmp .ge 29, 3) := by decide +kernel
theorem dX13_remembers_57 : decode cX13_remembers 57 = .ok (.aload_n 0, 1) := by decide +kernel
theorem dX13_remembers_58 : decode cX13_remembers 58 = .ok (.getfield 24, 3) := by decide +kernel
theorem dX13_remembers_61 : decode cX13_remembers 61 = .ok (.bipush 9, 2) := by decide +kernel
theorem dX13_remembers_63 : decode cX13_remembers 63 = .ok (.aload_n 0, 1) := by decide +kernel
theorem dX13_remembers_64 : decode cX13_remembers 64 = .ok (.getfield 326, 3) := by decide +kernel
theorem dX13_remembers_67 : decode cX13_remembers 67 = .ok (.imul, 1) := by decide +kernel
theorem dX13_remembers_68 : decode cX13_remembers 68 = .ok (.iload_n 1, 1) := by decide +kernel
theorem dX13_remembers_69 : decode cX13_remembers 69 = .ok (.iadd, 1) := by decide +kernel
theorem dX13_remembers_70 : decode cX13_remembers 70 = .ok (.aload_n 0, 1) := by decide +kernel
theorem dX13_remembers_71 : decode cX13_remembers 71 = .ok (.getfield 17, 3) := by decide +kernel
theorem dX13_remembers_74 : decode cX13_remembers 74 = .ok (.iload_n 1, 1) := by decide +kernel
theorem dX13_remembers_75 : decode cX13_remembers 75 = .ok (.iaload, 1) := by decide +kernel
theorem dX13_remembers_76 : decode cX13_remembers 76 = .ok (.iastore, 1) := by decide +kernel
theorem dX13_remembers_77 : decode cX13_remembers 77 = .ok (.iinc 1 1, 3) := by decide +kernel
theorem dX13_remembers_80 : decode cX13_remembers 80 = .ok (.goto (-29), 3) := by decide +kernel
theorem dX13_remembers_83 : decode cX13_remembers 83 = .ok (.aload_n 0, 1) := by decide +kernel
theorem dX13_remembers_84 : decode cX13_remembers 84 = .ok (.dup, 1) := by decide +kernel
theorem dX13_remembers_85 : decode cX13_remembers 85 = .ok (.getfield 326, 3) := by decide +kernel
theorem dX13_remembers_88 : decode cX13_remembers 88 = .ok (.iconst 1, 1) := by decide +kernel
theorem dX13_remembers_89 : decode cX13_remembers 89 = .ok (.iadd, 1) := by decide +kernel
theorem dX13_remembers_90 : decode cX13_remembers 90 = .ok (.putfield 326, 3) := by decide +kernel
theorem dX13_remembers_93 : decode cX13_remembers 93 = .ok (.return_, 1) := by decide +kernel
theorem dX13_hang_0 : decode cX13_hang 0 = .ok (.aload_n 0, 1) := by decide +kernel
theorem dX13_hang_1 : decode cX13_hang 1 = .ok (.iconst 0, 1) := by decide +kernel
theorem dX13_hang_2 : decode cX13_hang 2 = .ok (.putfield 42, 3) := by decide +kernel
theorem dX13_hang_5 : decode cX13_hang 5 = .ok (.aload_n 0, 1) := by decide +kernel
theorem dX13_hang_6 : decode cX13_hang 6 = .ok (.iload_n 1, 1) := by decide +kernel
theorem dX13_hang_7 : decode cX13_hang 7 = .ok (.invokevirtual 345, 3) := by decide +kernel
theorem dX13_hang_10 : decode cX13_hang 10 = .ok (.ifCond .ne 9, 3) := by decide +kernel
theorem dX13_hang_13 : decode cX13_hang 13 = .ok (.aload_n 0, 1) := by decide +kernel
theorem dX13_hang_14 : decode cX13_hang 14 = .ok (.iconst 1, 1) := by decide +kernel
theorem dX13_hang_15 : decode cX13_hang 15 = .ok (.invokevirtual 512, 3) := by decide +kernel
theorem dX13_hang_18 : decode cX13_hang 18 = .ok (.ireturn, 1) := by decide +kernel
theorem dX13_hang_19 : decode cX13_hang 19 = .ok (.aload_n 0, 1) := by decide +kernel
theorem dX13_hang_20 : decode cX13_hang 20 = .ok (.getfield 17, 3) := by decide +kernel
theorem dX13_hang_23 : decode cX13_hang 23 = .ok (.iload_n 1, 1) := by decide +kernel
theorem dX13_hang_24 : decode cX13_hang 24 = .ok (.iaload, 1) := by decide +kernel
theorem dX13_hang_25 : decode cX13_hang 25 = .ok (.ifCond .le 9, 3) := by decide +kernel
theorem dX13_hang_28 : decode cX13_hang 28 = .ok (.aload_n 0, 1) := by decide +kernel
theorem dX13_hang_29 : decode cX13_hang 29 = .ok (.iconst 5, 1) := by decide +kernel
theorem dX13_hang_30 : decode cX13_hang 30 = .ok (.invokevirtual 512, 3) := by decide +kernel
theorem dX13_hang_33 : decode cX13_hang 33 = .ok (.ireturn, 1) := by decide +kernel
theorem dX13_hang_34 : decode cX13_hang 34 = .ok (.aload_n 0, 1) := by decide +kernel
theorem dX13_hang_35 : decode cX13_hang 35 = .ok (.getfield 321, 3) := by decide +kernel
theorem dX13_hang_38 : decode cX13_hang 38 = .ok (.getfield 275, 3) := by decide +kernel
theorem dX13_hang_41 : decode cX13_hang 41 = .ok (.iload_n 1, 1) := by decide +kernel
theorem dX13_hang_42 : decode cX13_hang 42 = .ok (.iaload, 1) := by decide +kernel
theorem dX13_hang_43 : decode cX13_hang 43 = .ok (.iconst 2, 1) := by decide +kernel
theorem dX13_hang_44 : decode cX13_hang 44 = .ok (.if_icmp .eq 13, 3) := by decide +kernel
theorem dX13_hang_47 : decode cX13_hang 47 = .ok (.aload_n 0, 1) := by decide +kernel
theorem dX13_hang_48 : decode cX13_hang 48 = .ok (.getfield 17, 3) := by decide +kernel
theorem dX13_hang_51 : decode cX13_hang 51 = .ok (.bipush 6, 2) := by decide +kernel
theorem dX13_hang_53 : decode cX13_hang 53 = .ok (.iaload, 1) := by decide +kernel
theorem dX13_hang_54 : decode cX13_hang 54 = .ok (.ifCond .ne 10, 3) := by decide +kernel
theorem dX13_hang_57 : decode cX13_hang 57 = .ok (.aload_n 0, 1) := by decide +kernel
theorem dX13_hang_58 : decode cX13_hang 58 = .ok (.bipush 6, 2) := by decide +kernel
theorem dX13_hang_60 : decode cX13_hang 60 = .ok (.invokevirtual 512, 3) := by decide +kernel
theorem dX13_hang_63 : decode cX13_hang 63 = .ok (.ireturn, 1) := by decide +kernel
theorem dX13_hang_64 : decode cX13_hang 64 = .ok (.aload_n 0, 1) := by decide +kernel
theorem dX13_hang_65 : decode cX13_hang 65 = .ok (.invokevirtual 515, 3) := by decide +kernel
theorem dX13_hang_68 : decode cX13_hang 68 = .ok (.aload_n 0, 1) := by decide +kernel
theorem dX13_hang_69 : decode cX13_hang 69 = .ok (.getfield 17, 3) := by decide +kernel
theorem dX13_hang_72 : decode cX13_hang 72 = .ok (.iload_n 1, 1) := by decide +kernel
theorem dX13_hang_73 : decode cX13_hang 73 = .ok (.iload_n 2, 1) := by decide +kernel
theorem dX13_hang_74 : decode cX13_hang 74 = .ok (.ifCond .eq 7, 3) := by decide +kernel
theorem dX13_hang_77 : decode cX13_hang 77 = .ok (.iconst 2, 1) := by decide +kernel
theorem dX13_hang_78 : decode cX13_hang 78 = .ok (.goto 4, 3) := by decide +kernel
theorem dX13_hang_81 : decode cX13_hang 81 = .ok (.iconst 1, 1) := by decide +kernel
theorem dX13_hang_82 : decode cX13_hang 82 = .ok (.iastore, 1) := by decide +kernel
theorem dX13_hang_83 : decode cX13_hang 83 = .ok (.aload_n 0, 1) := by decide +kernel
theorem dX13_hang_84 : decode cX13_hang 84 = .ok (.getfield 17, 3) := by decide +kernel
theorem dX13_hang_87 : decode cX13_hang 87 = .ok (.bipush 6, 2) := by decide +kernel
theorem dX13_hang_89 : decode cX13_hang 89 = .ok (.dup2, 1) := by decide +kernel
theorem dX13_hang_90 : decode cX13_hang 90 = .ok (.iaload, 1) := by decide +kernel
theorem dX13_hang_91 : decode cX13_hang 91 = .ok (.iconst 1, 1) := by decide +kernel
theorem dX13_hang_92 : decode cX13_hang 92 = .ok (.isub, 1) := by decide +kernel
theorem dX13_hang_93 : decode cX13_hang 93 = .ok (.iastore, 1) := by decide +kernel
theorem dX13_hang_94 : decode cX13_hang 94 = .ok (.aload_n 0, 1) := by decide +kernel
theorem dX13_hang_95 : decode cX13_hang 95 = .ok (.invokevirtual 518, 3) := by decide +kernel
theorem dX13_hang_98 : decode cX13_hang 98 = .ok (.ireturn, 1) := by decide +kernel
theorem dX13_refusesHung_0 : decode cX13_refusesHung 0 = .ok (.aload_n 0, 1) := by decide +kernel
theorem dX13_refusesHung_1 : decode cX13_refusesHung 1 = .ok (.iload_n 1, 1) := by decide +kernel
theorem dX13_refusesHung_2 : decode cX13_refusesHung 2 = .ok (.invokevirtual 345, 3) := by decide +kernel
theorem dX13_refusesHung_5 : decode cX13_refusesHung 5 = .ok (.ifCond .ne 7, 3) := by decide +kernel
theorem dX13_refusesHung_8 : decode cX13_refusesHung 8 = .ok (.iconst 1, 1) := by decide +kernel
theorem dX13_refusesHung_9 : decode cX13_refusesHung 9 = .ok (.goto 35, 3) := by decide +kernel
theorem dX13_refusesHung_12 : decode cX13_refusesHung 12 = .ok (.aload_n 0, 1) := by decide +kernel
theorem dX13_refusesHung_13 : decode cX13_refusesHung 13 = .ok (.getfield 17, 3) := by decide +kernel
theorem dX13_refusesHung_16 : decode cX13_refusesHung 16 = .ok (.iload_n 1, 1) := by decide +kernel
theorem dX13_refusesHung_17 : decode cX13_refusesHung 17 = .ok (.iaload, 1) := by decide +kernel
theorem dX13_refusesHung_18 : decode cX13_refusesHung 18 = .ok (.ifCond .ne 7, 3) := by decide +kernel
theorem dX13_refusesHung_21 : decode cX13_refusesHung 21 = .ok (.iconst 5, 1) := by decide +kernel
theorem dX13_refusesHung_22 : decode cX13_refusesHung 22 = .ok (.goto 22, 3) := by decide +kernel
theorem dX13_refusesHung_25 : decode cX13_refusesHung 25 = .ok (.aload_n 0, 1) := by decide +kernel
theorem dX13_refusesHung_26 : decode cX13_refusesHung 26 = .ok (.getfield 321, 3) := by decide +kernel
theorem dX13_refusesHung_29 : decode cX13_refusesHung 29 = .ok (.getfield 275, 3) := by decide +kernel
theorem dX13_refusesHung_32 : decode cX13_refusesHung 32 = .ok (.iload_n 1, 1) := by decide +kernel
theorem dX13_refusesHung_33 : decode cX13_refusesHung 33 = .ok (.iaload, 1) := by decide +kernel
theorem dX13_refusesHung_34 : decode cX13_refusesHung 34 = .ok (.iconst 2, 1) := by decide +kernel
theorem dX13_refusesHung_35 : decode cX13_refusesHung 35 = .ok (.if_icmp .ne 8, 3) := by decide +kernel
theorem dX13_refusesHung_38 : decode cX13_refusesHung 38 = .ok (.bipush 6, 2) := by decide +kernel
theorem dX13_refusesHung_40 : decode cX13_refusesHung 40 = .ok (.goto 4, 3) := by decide +kernel
theorem dX13_refusesHung_43 : decode cX13_refusesHung 43 = .ok (.iconst 0, 1) := by decide +kernel
theorem dX13_refusesHung_44 : decode cX13_refusesHung 44 = .ok (.ireturn, 1) := by decide +kernel
theorem dX13_take_0 : decode cX13_take 0 = .ok (.aload_n 0, 1) := by decide +kernel
theorem dX13_take_1 : decode cX13_take 1 = .ok (.iconst 0, 1) := by decide +kernel
theorem dX13_take_2 : decode cX13_take 2 = .ok (.putfield 42, 3) := by decide +kernel
theorem dX13_take_5 : decode cX13_take 5 = .ok (.aload_n 0, 1) := by decide +kernel
theorem dX13_take_6 : decode cX13_take 6 = .ok (.iload_n 1, 1) := by decide +kernel
theorem dX13_take_7 : decode cX13_take 7 = .ok (.invokevirtual 521, 3) := by decide +kernel
theorem dX13_take_10 : decode cX13_take 10 = .ok (.istore_n 2, 1) := by decide +kernel
theorem dX13_take_11 : decode cX13_take 11 = .ok (.iload_n 2, 1) := by decide +kernel
theorem dX13_take_12 : decode cX13_take 12 = .ok (.ifCond .le 9, 3) := by decide +kernel
theorem dX13_take_15 : decode cX13_take 15 = .ok (.aload_n 0, 1) := by decide +kernel
theorem dX13_take_16 : decode cX13_take 16 = .ok (.iload_n 2, 1) := by decide +kernel
theorem dX13_take_17 : decode cX13_take 17 = .ok (.invokevirtual 512, 3) := by decide +kernel
theorem dX13_take_20 : decode cX13_take 20 = .ok (.ireturn, 1) := by decide +kernel
theorem dX13_take_21 : decode cX13_take 21 = .ok (.aload_n 0, 1) := by decide +kernel
theorem dX13_take_22 : decode cX13_take 22 = .ok (.invokevirtual 515, 3) := by decide +kernel
theorem dX13_take_25 : decode cX13_take 25 = .ok (.aload_n 0, 1) := by decide +kernel
theorem dX13_take_26 : decode cX13_take 26 = .ok (.getfield 17, 3) := by decide +kernel
theorem dX13_take_29 : decode cX13_take 29 = .ok (.iload_n 1, 1) := by decide +kernel
theorem dX13_take_30 : decode cX13_take 30 = .ok (.iconst 0, 1) := by decide +kernel
theorem dX13_take_31 : decode cX13_take 31 = .ok (.iastore, 1) := by decide +kernel
theorem dX13_take_32 : decode cX13_take 32 = .ok (.aload_n 0, 1) := by decide +kernel
theorem dX13_take_33 : decode cX13_take 33 = .ok (.getfield 17, 3) := by decide +kernel
theorem dX13_take_36 : decode cX13_take 36 = .ok (.bipush 6, 2) := by decide +kernel
theorem dX13_take_38 : decode cX13_take 38 = .ok (.dup2, 1) := by decide +kernel
theorem dX13_take_39 : decode cX13_take 39 = .ok (.iaload, 1) := by decide +kernel
theorem dX13_take_40 : decode cX13_take 40 = .ok (.iconst 1, 1) := by decide +kernel
theorem dX13_take_41 : decode cX13_take 41 = .ok (.iadd, 1) := by decide +kernel
theorem dX13_take_42 : decode cX13_take 42 = .ok (.iastore, 1) := by decide +kernel
theorem dX13_take_43 : decode cX13_take 43 = .ok (.aload_n 0, 1) := by decide +kernel
theorem dX13_take_44 : decode cX13_take 44 = .ok (.invokevirtual 518, 3) := by decide +kernel
theorem dX13_take_47 : decode cX13_take 47 = .ok (.ireturn, 1) := by decide +kernel
theorem dX13_turnOver_0 : decode cX13_turnOver 0 = .ok (.aload_n 0, 1) := by decide +kernel
theorem dX13_turnOver_1 : decode cX13_turnOver 1 = .ok (.iconst 0, 1) := by decide +kernel
theorem dX13_turnOver_2 : decode cX13_turnOver 2 = .ok (.putfield 42, 3) := by decide +kernel
theorem dX13_turnOver_5 : decode cX13_turnOver 5 = .ok (.aload_n 0, 1) := by decide +kernel
theorem dX13_turnOver_6 : decode cX13_turnOver 6 = .ok (.iload_n 1, 1) := by decide +kernel
theorem dX13_turnOver_7 : decode cX13_turnOver 7 = .ok (.invokevirtual 521, 3) := by decide +kernel
theorem dX13_turnOver_10 : decode cX13_turnOver 10 = .ok (.istore_n 2, 1) := by decide +kernel
theorem dX13_turnOver_11 : decode cX13_turnOver 11 = .ok (.iload_n 2, 1) := by decide +kernel
theorem dX13_turnOver_12 : decode cX13_turnOver 12 = .ok (.ifCond .le 9, 3) := by decide +kernel
theorem dX13_turnOver_15 : decode cX13_turnOver 15 = .ok (.aload_n 0, 1) := by decide +kernel
theorem dX13_turnOver_16 : decode cX13_turnOver 16 = .ok (.iload_n 2, 1) := by decide +kernel
theorem dX13_turnOver_17 : decode cX13_turnOver 17 = .ok (.invokevirtual 48, 3) := by decide +kernel
theorem dX13_turnOver_20 : decode cX13_turnOver 20 = .ok (.ireturn, 1) := by decide +kernel
theorem dX13_turnOver_21 : decode cX13_turnOver 21 = .ok (.aload_n 0, 1) := by decide +kernel
theorem dX13_turnOver_22 : decode cX13_turnOver 22 = .ok (.invokevirtual 515, 3) := by decide +kernel
theorem dX13_turnOver_25 : decode cX13_turnOver 25 = .ok (.aload_n 0, 1) := by decide +kernel
theorem dX13_turnOver_26 : decode cX13_turnOver 26 = .ok (.getfield 17, 3) := by decide +kernel
theorem dX13_turnOver_29 : decode cX13_turnOver 29 = .ok (.iload_n 1, 1) := by decide +kernel
theorem dX13_turnOver_30 : decode cX13_turnOver 30 = .ok (.iconst 3, 1) := by decide +kernel
theorem dX13_turnOver_31 : decode cX13_turnOver 31 = .ok (.aload_n 0, 1) := by decide +kernel
theorem dX13_turnOver_32 : decode cX13_turnOver 32 = .ok (.getfield 17, 3) := by decide +kernel
theorem dX13_turnOver_35 : decode cX13_turnOver 35 = .ok (.iload_n 1, 1) := by decide +kernel
theorem dX13_turnOver_36 : decode cX13_turnOver 36 = .ok (.iaload, 1) := by decide +kernel
theorem dX13_turnOver_37 : decode cX13_turnOver 37 = .ok (.isub, 1) := by decide +kernel
theorem dX13_turnOver_38 : decode cX13_turnOver 38 = .ok (.iastore, 1) := by decide +kernel
theorem dX13_turnOver_39 : decode cX13_turnOver 39 = .ok (.aload_n 0, 1) := by decide +kernel
theorem dX13_turnOver_40 : decode cX13_turnOver 40 = .ok (.aload_n 0, 1) := by decide +kernel
theorem dX13_turnOver_41 : decode cX13_turnOver 41 = .ok (.getfield 17, 3) := by decide +kernel
theorem dX13_turnOver_44 : decode cX13_turnOver 44 = .ok (.iload_n 1, 1) := by decide +kernel
theorem dX13_turnOver_45 : decode cX13_turnOver 45 = .ok (.iaload, 1) := by decide +kernel
theorem dX13_turnOver_46 : decode cX13_turnOver 46 = .ok (.invokevirtual 52, 3) := by decide +kernel
theorem dX13_turnOver_49 : decode cX13_turnOver 49 = .ok (.ireturn, 1) := by decide +kernel
theorem dX13_gust_0 : decode cX13_gust 0 = .ok (.aload_n 0, 1) := by decide +kernel
theorem dX13_gust_1 : decode cX13_gust 1 = .ok (.iconst 0, 1) := by decide +kernel
theorem dX13_gust_2 : decode cX13_gust 2 = .ok (.putfield 42, 3) := by decide +kernel
theorem dX13_gust_5 : decode cX13_gust 5 = .ok (.aload_n 0, 1) := by decide +kernel
theorem dX13_gust_6 : decode cX13_gust 6 = .ok (.getfield 321, 3) := by decide +kernel
theorem dX13_gust_9 : decode cX13_gust 9 = .ok (.ifnonnull 9, 3) := by decide +kernel
theorem dX13_gust_12 : decode cX13_gust 12 = .ok (.aload_n 0, 1) := by decide +kernel
theorem dX13_gust_13 : decode cX13_gust 13 = .ok (.iconst 1, 1) := by decide +kernel
theorem dX13_gust_14 : decode cX13_gust 14 = .ok (.invokevirtual 48, 3) := by decide +kernel
theorem dX13_gust_17 : decode cX13_gust 17 = .ok (.ireturn, 1) := by decide +kernel
theorem dX13_gust_18 : decode cX13_gust 18 = .ok (.aload_n 0, 1) := by decide +kernel
theorem dX13_gust_19 : decode cX13_gust 19 = .ok (.getfield 17, 3) := by decide +kernel
theorem dX13_gust_22 : decode cX13_gust 22 = .ok (.bipush 7, 2) := by decide +kernel
theorem dX13_gust_24 : decode cX13_gust 24 = .ok (.iaload, 1) := by decide +kernel
theorem dX13_gust_25 : decode cX13_gust 25 = .ok (.sipush 999, 3) := by decide +kernel
theorem dX13_gust_28 : decode cX13_gust 28 = .ok (.if_icmp .ne 9, 3) := by decide +kernel
theorem dX13_gust_31 : decode cX13_gust 31 = .ok (.aload_n 0, 1) := by decide +kernel
theorem dX13_gust_32 : decode cX13_gust 32 = .ok (.iconst 3, 1) := by decide +kernel
theorem dX13_gust_33 : decode cX13_gust 33 = .ok (.invokevirtual 48, 3) := by decide +kernel
theorem dX13_gust_36 : decode cX13_gust 36 = .ok (.ireturn, 1) := by decide +kernel
theorem dX13_gust_37 : decode cX13_gust 37 = .ok (.aload_n 0, 1) := by decide +kernel
theorem dX13_gust_38 : decode cX13_gust 38 = .ok (.invokevirtual 515, 3) := by decide +kernel
theorem dX13_gust_41 : decode cX13_gust 41 = .ok (.aload_n 0, 1) := by decide +kernel
theorem dX13_gust_42 : decode cX13_gust 42 = .ok (.invokevirtual 348, 3) := by decide +kernel
theorem dX13_gust_45 : decode cX13_gust 45 = .ok (.aload_n 0, 1) := by decide +kernel
theorem dX13_gust_46 : decode cX13_gust 46 = .ok (.aload_n 0, 1) := by decide +kernel
theorem dX13_gust_47 : decode cX13_gust 47 = .ok (.getfield 17, 3) := by decide +kernel
theorem dX13_gust_50 : decode cX13_gust 50 = .ok (.bipush 8, 2) := by decide +kernel
theorem dX13_gust_52 : decode cX13_gust 52 = .ok (.iaload, 1) := by decide +kernel
theorem dX13_gust_53 : decode cX13_gust 53 = .ok (.putfield 494, 3) := by decide +kernel
theorem dX13_gust_56 : decode cX13_gust 56 = .ok (.aload_n 0, 1) := by decide +kernel
theorem dX13_gust_57 : decode cX13_gust 57 = .ok (.invokevirtual 506, 3) := by decide +kernel
theorem dX13_gust_60 : decode cX13_gust 60 = .ok (.istore_n 1, 1) := by decide +kernel
theorem dX13_gust_61 : decode cX13_gust 61 = .ok (.iconst 0, 1) := by decide +kernel
theorem dX13_gust_62 : decode cX13_gust 62 = .ok (.istore_n 2, 1) := by decide +kernel
theorem dX13_gust_63 : decode cX13_gust 63 = .ok (.iload_n 2, 1) := by decide +kernel
theorem dX13_gust_64 : decode cX13_gust 64 = .ok (.aload_n 0, 1) := by decide +kernel
theorem dX13_gust_65 : decode cX13_gust 65 = .ok (.getfield 321, 3) := by decide +kernel
theorem dX13_gust_68 : decode cX13_gust 68 = .ok (.getfield 191, 3) := by decide +kernel
theorem dX13_gust_71 : decode cX13_gust 71 = .ok (.if_icmp .ge 21, 3) := by decide +kernel
theorem dX13_gust_74 : decode cX13_gust 74 = .ok (.aload_n 0, 1) := by decide +kernel
theorem dX13_gust_75 : decode cX13_gust 75 = .ok (.getfield 17, 3) := by decide +kernel
theorem dX13_gust_78 : decode cX13_gust 78 = .ok (.iload_n 2, 1) := by decide +kernel
theorem dX13_gust_79 : decode cX13_gust 79 = .ok (.aload_n 0, 1) := by decide +kernel
theorem dX13_gust_80 : decode cX13_gust 80 = .ok (.getfield 21, 3) := by decide +kernel
theorem dX13_gust_83 : decode cX13_gust 83 = .ok (.iload_n 2, 1) := by decide +kernel
theorem dX13_gust_84 : decode cX13_gust 84 = .ok (.iaload, 1) := by decide +kernel
theorem dX13_gust_85 : decode cX13_gust 85 = .ok (.iastore, 1) := by decide +kernel
theorem dX13_gust_86 : decode cX13_gust 86 = .ok (.iinc 2 1, 3) := by decide +kernel
theorem dX13_gust_89 : decode cX13_gust 89 = .ok (.goto (-26), 3) := by decide +kernel
theorem dX13_gust_92 : decode cX13_gust 92 = .ok (.aload_n 0, 1) := by decide +kernel
theorem dX13_gust_93 : decode cX13_gust 93 = .ok (.getfield 17, 3) := by decide +kernel
theorem dX13_gust_96 : decode cX13_gust 96 = .ok (.bipush 6, 2) := by decide +kernel
theorem dX13_gust_98 : decode cX13_gust 98 = .ok (.dup2, 1) := by decide +kernel
theorem dX13_gust_99 : decode cX13_gust 99 = .ok (.iaload, 1) := by decide +kernel
theorem dX13_gust_100 : decode cX13_gust 100 = .ok (.iload_n 1, 1) := by decide +kernel
theorem dX13_gust_101 : decode cX13_gust 101 = .ok (.iadd, 1) := by decide +kernel
theorem dX13_gust_102 : decode cX13_gust 102 = .ok (.iastore, 1) := by decide +kernel
theorem dX13_gust_103 : decode cX13_gust 103 = .ok (.aload_n 0, 1) := by decide +kernel
theorem dX13_gust_104 : decode cX13_gust 104 = .ok (.getfield 17, 3) := by decide +kernel
theorem dX13_gust_107 : decode cX13_gust 107 = .ok (.bipush 7, 2) := by decide +kernel
theorem dX13_gust_109 : decode cX13_gust 109 = .ok (.dup2, 1) := by decide +kernel
theorem dX13_gust_110 : decode cX13_gust 110 = .ok (.iaload, 1) := by decide +kernel
theorem dX13_gust_111 : decode cX13_gust 111 = .ok (.iconst 1, 1) := by decide +kernel
theorem dX13_gust_112 : decode cX13_gust 112 = .ok (.iadd, 1) := by decide +kernel
theorem dX13_gust_113 : decode cX13_gust 113 = .ok (.iastore, 1) := by decide +kernel
theorem dX13_gust_114 : decode cX13_gust 114 = .ok (.aload_n 0, 1) := by decide +kernel
theorem dX13_gust_115 : decode cX13_gust 115 = .ok (.getfield 17, 3) := by decide +kernel
theorem dX13_gust_118 : decode cX13_gust 118 = .ok (.bipush 8, 2) := by decide +kernel
theorem dX13_gust_120 : decode cX13_gust 120 = .ok (.aload_n 0, 1) := by decide +kernel
theorem dX13_gust_121 : decode cX13_gust 121 = .ok (.getfield 494, 3) := by decide +kernel
theorem dX13_gust_124 : decode cX13_gust 124 = .ok (.iastore, 1) := by decide +kernel
theorem dX13_gust_125 : decode cX13_gust 125 = .ok (.aload_n 0, 1) := by decide +kernel
theorem dX13_gust_126 : decode cX13_gust 126 = .ok (.iload_n 1, 1) := by decide +kernel
theorem dX13_gust_127 : decode cX13_gust 127 = .ok (.invokevirtual 52, 3) := by decide +kernel
theorem dX13_gust_130 : decode cX13_gust 130 = .ok (.ireturn, 1) := by decide +kernel
theorem dX13_seed_0 : decode cX13_seed 0 = .ok (.aload_n 0, 1) := by decide +kernel
theorem dX13_seed_1 : decode cX13_seed 1 = .ok (.iconst 0, 1) := by decide +kernel
theorem dX13_seed_2 : decode cX13_seed 2 = .ok (.putfield 42, 3) := by decide +kernel
theorem dX13_seed_5 : decode cX13_seed 5 = .ok (.aload_n 0, 1) := by decide +kernel
theorem dX13_seed_6 : decode cX13_seed 6 = .ok (.getfield 321, 3) := by decide +kernel
theorem dX13_seed_9 : decode cX13_seed 9 = .ok (.ifnonnull 9, 3) := by decide +kernel
theorem dX13_seed_12 : decode cX13_seed 12 = .ok (.aload_n 0, 1) := by decide +kernel
theorem dX13_seed_13 : decode cX13_seed 13 = .ok (.iconst 1, 1) := by decide +kernel
theorem dX13_seed_14 : decode cX13_seed 14 = .ok (.invokevirtual 512, 3) := by decide +kernel
theorem dX13_seed_17 : decode cX13_seed 17 = .ok (.ireturn, 1) := by decide +kernel
theorem dX13_seed_18 : decode cX13_seed 18 = .ok (.iload_n 1, 1) := by decide +kernel
theorem dX13_seed_19 : decode cX13_seed 19 = .ok (.iconst 0, 1) := by decide +kernel
theorem dX13_seed_20 : decode cX13_seed 20 = .ok (.ldc_w 501, 3) := by decide +kernel
theorem dX13_seed_23 : decode cX13_seed 23 = .ok (.invokestatic 121, 3) := by decide +kernel
theorem dX13_seed_26 : decode cX13_seed 26 = .ok (.ifCond .ne 9, 3) := by decide +kernel
theorem dX13_seed_29 : decode cX13_seed 29 = .ok (.aload_n 0, 1) := by decide +kernel
theorem dX13_seed_30 : decode cX13_seed 30 = .ok (.iconst 2, 1) := by decide +kernel
theorem dX13_seed_31 : decode cX13_seed 31 = .ok (.invokevirtual 512, 3) := by decide +kernel
theorem dX13_seed_34 : decode cX13_seed 34 = .ok (.ireturn, 1) := by decide +kernel
theorem dX13_seed_35 : decode cX13_seed 35 = .ok (.aload_n 0, 1) := by decide +kernel
theorem dX13_seed_36 : decode cX13_seed 36 = .ok (.getfield 17, 3) := by decide +kernel
theorem dX13_seed_39 : decode cX13_seed 39 = .ok (.bipush 8, 2) := by decide +kernel
theorem dX13_seed_41 : decode cX13_seed 41 = .ok (.iload_n 1, 1) := by decide +kernel
theorem dX13_seed_42 : decode cX13_seed 42 = .ok (.iastore, 1) := by decide +kernel
theorem dX13_seed_43 : decode cX13_seed 43 = .ok (.aload_n 0, 1) := by decide +kernel
theorem dX13_seed_44 : decode cX13_seed 44 = .ok (.invokevirtual 518, 3) := by decide +kernel
theorem dX13_seed_47 : decode cX13_seed 47 = .ok (.ireturn, 1) := by decide +kernel
theorem dX13_undo_0 : decode cX13_undo 0 = .ok (.aload_n 0, 1) := by decide +kernel
theorem dX13_undo_1 : decode cX13_undo 1 = .ok (.iconst 0, 1) := by decide +kernel
theorem dX13_undo_2 : decode cX13_undo 2 = .ok (.putfield 42, 3) := by decide +kernel
theorem dX13_undo_5 : decode cX13_undo 5 = .ok (.aload_n 0, 1) := by decide +kernel
theorem dX13_undo_6 : decode cX13_undo 6 = .ok (.getfield 321, 3) := by decide +kernel
theorem dX13_undo_9 : decode cX13_undo 9 = .ok (.ifnull 10, 3) := by decide +kernel
theorem dX13_undo_12 : decode cX13_undo 12 = .ok (.aload_n 0, 1) := by decide +kernel
theorem dX13_undo_13 : decode cX13_undo 13 = .ok (.getfield 326, 3) := by decide +kernel
theorem dX13_undo_16 : decode cX13_undo 16 = .ok (.ifCond .ne 10, 3) := by decide +kernel
theorem dX13_undo_19 : decode cX13_undo 19 = .ok (.aload_n 0, 1) := by decide +kernel
theorem dX13_undo_20 : decode cX13_undo 20 = .ok (.bipush 6, 2) := by decide +kernel
theorem dX13_undo_22 : decode cX13_undo 22 = .ok (.invokevirtual 512, 3) := by decide +kernel
theorem dX13_undo_25 : decode cX13_undo 25 = .ok (.ireturn, 1) := by decide +kernel
theorem dX13_undo_26 : decode cX13_undo 26 = .ok (.aload_n 0, 1) := by decide +kernel
theorem dX13_undo_27 : decode cX13_undo 27 = .ok (.dup, 1) := by decide +kernel
theorem dX13_undo_28 : decode cX13_undo 28 = .ok (.getfield 326, 3) := by decide +kernel
theorem dX13_undo_31 : decode cX13_undo 31 = .ok (.iconst 1, 1) := by decide +kernel
theorem dX13_undo_32 : decode cX13_undo 32 = .ok (.isub, 1) := by decide +kernel
theorem dX13_undo_33 : decode cX13_undo 33 = .ok (.putfield 326, 3) := by decide +kernel
theorem dX13_undo_36 : decode cX13_undo 36 = .ok (.iconst 0, 1) := by decide +kernel
theorem dX13_undo_37 : decode cX13_undo 37 = .ok (.istore_n 1, 1) := by decide +kernel
theorem dX13_undo_38 : decode cX13_undo 38 = .ok (.iload_n 1, 1) := by decide +kernel
theorem dX13_undo_39 : decode cX13_undo 39 = .ok (.bipush 9, 2) := by decide +kernel
theorem dX13_undo_41 : decode cX13_undo 41 = .ok (.if_icmp .ge 29, 3) := by decide +kernel
theorem dX13_undo_44 : decode cX13_undo 44 = .ok (.aload_n 0, 1) := by decide +kernel
theorem dX13_undo_45 : decode cX13_undo 45 = .ok (.getfield 17, 3) := by decide +kernel
theorem dX13_undo_48 : decode cX13_undo 48 = .ok (.iload_n 1, 1) := by decide +kernel
theorem dX13_undo_49 : decode cX13_undo 49 = .ok (.aload_n 0, 1) := by decide +kernel
theorem dX13_undo_50 : decode cX13_undo 50 = .ok (.getfield 24, 3) := by decide +kernel
theorem dX13_undo_53 : decode cX13_undo 53 = .ok (.bipush 9, 2) := by decide +kernel
theorem dX13_undo_55 : decode cX13_undo 55 = .ok (.aload_n 0, 1) := by decide +kernel
theorem dX13_undo_56 : decode cX13_undo 56 = .ok (.getfield 326, 3) := by decide +kernel
theorem dX13_undo_59 : decode cX13_undo 59 = .ok (.imul, 1) := by decide +kernel
theorem dX13_undo_60 : decode cX13_undo 60 = .ok (.iload_n 1, 1) := by decide +kernel
theorem dX13_undo_61 : decode cX13_undo 61 = .ok (.iadd, 1) := by decide +kernel
theorem dX13_undo_62 : decode cX13_undo 62 = .ok (.iaload, 1) := by decide +kernel
theorem dX13_undo_63 : decode cX13_undo 63 = .ok (.iastore, 1) := by decide +kernel
theorem dX13_undo_64 : decode cX13_undo 64 = .ok (.iinc 1 1, 3) := by decide +kernel
theorem dX13_undo_67 : decode cX13_undo 67 = .ok (.goto (-29), 3) := by decide +kernel
theorem dX13_undo_70 : decode cX13_undo 70 = .ok (.aload_n 0, 1) := by decide +kernel
theorem dX13_undo_71 : decode cX13_undo 71 = .ok (.invokevirtual 518, 3) := by decide +kernel
theorem dX13_undo_74 : decode cX13_undo 74 = .ok (.ireturn, 1) := by decide +kernel
theorem dX13_image_0 : decode cX13_image 0 = .ok (.aload_n 0, 1) := by decide +kernel
theorem dX13_image_1 : decode cX13_image 1 = .ok (.iconst 0, 1) := by decide +kernel
theorem dX13_image_2 : decode cX13_image 2 = .ok (.putfield 42, 3) := by decide +kernel
theorem dX13_image_5 : decode cX13_image 5 = .ok (.aload_n 0, 1) := by decide +kernel
theorem dX13_image_6 : decode cX13_image 6 = .ok (.getfield 321, 3) := by decide +kernel
theorem dX13_image_9 : decode cX13_image 9 = .ok (.ifnonnull 9, 3) := by decide +kernel
theorem dX13_image_12 : decode cX13_image 12 = .ok (.aload_n 0, 1) := by decide +kernel
theorem dX13_image_13 : decode cX13_image 13 = .ok (.iconst 1, 1) := by decide +kernel
theorem dX13_image_14 : decode cX13_image 14 = .ok (.invokevirtual 48, 3) := by decide +kernel
theorem dX13_image_17 : decode cX13_image 17 = .ok (.ireturn, 1) := by decide +kernel
theorem dX13_image_18 : decode cX13_image 18 = .ok (.aload_n 0, 1) := by decide +kernel
theorem dX13_image_19 : decode cX13_image 19 = .ok (.getfield 329, 3) := by decide +kernel
theorem dX13_image_22 : decode cX13_image 22 = .ok (.iconst 3, 1) := by decide +kernel
theorem dX13_image_23 : decode cX13_image 23 = .ok (.if_icmp .ne 9, 3) := by decide +kernel
theorem dX13_image_26 : decode cX13_image 26 = .ok (.aload_n 0, 1) := by decide +kernel
theorem dX13_image_27 : decode cX13_image 27 = .ok (.iconst 3, 1) := by decide +kernel
theorem dX13_image_28 : decode cX13_image 28 = .ok (.invokevirtual 48, 3) := by decide +kernel
theorem dX13_image_31 : decode cX13_image 31 = .ok (.ireturn, 1) := by decide +kernel
theorem dX13_image_32 : decode cX13_image 32 = .ok (.iconst 0, 1) := by decide +kernel
theorem dX13_image_33 : decode cX13_image 33 = .ok (.istore_n 1, 1) := by decide +kernel
theorem dX13_image_34 : decode cX13_image 34 = .ok (.iload_n 1, 1) := by decide +kernel
theorem dX13_image_35 : decode cX13_image 35 = .ok (.bipush 9, 2) := by decide +kernel
theorem dX13_image_37 : decode cX13_image 37 = .ok (.if_icmp .ge 29, 3) := by decide +kernel
theorem dX13_image_40 : decode cX13_image 40 = .ok (.aload_n 0, 1) := by decide +kernel
theorem dX13_image_41 : decode cX13_image 41 = .ok (.getfield 27, 3) := by decide +kernel
theorem dX13_image_44 : decode cX13_image 44 = .ok (.bipush 9, 2) := by decide +kernel
theorem dX13_image_46 : decode cX13_image 46 = .ok (.aload_n 0, 1) := by decide +kernel
theorem dX13_image_47 : decode cX13_image 47 = .ok (.getfield 329, 3) := by decide +kernel
theorem dX13_image_50 : decode cX13_image 50 = .ok (.imul, 1) := by decide +kernel
theorem dX13_image_51 : decode cX13_image 51 = .ok (.iload_n 1, 1) := by decide +kernel
theorem dX13_image_52 : decode cX13_image 52 = .ok (.iadd, 1) := by decide +kernel
theorem dX13_image_53 : decode cX13_image 53 = .ok (.aload_n 0, 1) := by decide +kernel
theorem dX13_image_54 : decode cX13_image 54 = .ok (.getfield 17, 3) := by decide +kernel
theorem dX13_image_57 : decode cX13_image 57 = .ok (.iload_n 1, 1) := by decide +kernel
theorem dX13_image_58 : decode cX13_image 58 = .ok (.iaload, 1) := by decide +kernel
theorem dX13_image_59 : decode cX13_image 59 = .ok (.iastore, 1) := by decide +kernel
theorem dX13_image_60 : decode cX13_image 60 = .ok (.iinc 1 1, 3) := by decide +kernel
theorem dX13_image_63 : decode cX13_image 63 = .ok (.goto (-29), 3) := by decide +kernel
theorem dX13_image_66 : decode cX13_image 66 = .ok (.aload_n 0, 1) := by decide +kernel
theorem dX13_image_67 : decode cX13_image 67 = .ok (.dup, 1) := by decide +kernel
theorem dX13_image_68 : decode cX13_image 68 = .ok (.getfield 329, 3) := by decide +kernel
theorem dX13_image_71 : decode cX13_image 71 = .ok (.iconst 1, 1) := by decide +kernel
theorem dX13_image_72 : decode cX13_image 72 = .ok (.iadd, 1) := by decide +kernel
theorem dX13_image_73 : decode cX13_image 73 = .ok (.putfield 329, 3) := by decide +kernel
theorem dX13_image_76 : decode cX13_image 76 = .ok (.aload_n 0, 1) := by decide +kernel
theorem dX13_image_77 : decode cX13_image 77 = .ok (.aload_n 0, 1) := by decide +kernel
theorem dX13_image_78 : decode cX13_image 78 = .ok (.getfield 329, 3) := by decide +kernel
theorem dX13_image_81 : decode cX13_image 81 = .ok (.iconst 1, 1) := by decide +kernel
theorem dX13_image_82 : decode cX13_image 82 = .ok (.isub, 1) := by decide +kernel
theorem dX13_image_83 : decode cX13_image 83 = .ok (.invokevirtual 52, 3) := by decide +kernel
theorem dX13_image_86 : decode cX13_image 86 = .ok (.ireturn, 1) := by decide +kernel
theorem dX13_back_0 : decode cX13_back 0 = .ok (.aload_n 0, 1) := by decide +kernel
theorem dX13_back_1 : decode cX13_back 1 = .ok (.iconst 0, 1) := by decide +kernel
theorem dX13_back_2 : decode cX13_back 2 = .ok (.putfield 42, 3) := by decide +kernel
theorem dX13_back_5 : decode cX13_back 5 = .ok (.aload_n 0, 1) := by decide +kernel
theorem dX13_back_6 : decode cX13_back 6 = .ok (.getfield 321, 3) := by decide +kernel
theorem dX13_back_9 : decode cX13_back 9 = .ok (.ifnull 15, 3) := by decide +kernel
theorem dX13_back_12 : decode cX13_back 12 = .ok (.iload_n 1, 1) := by decide +kernel
theorem dX13_back_13 : decode cX13_back 13 = .ok (.ifCond .lt 11, 3) := by decide +kernel
theorem dX13_back_16 : decode cX13_back 16 = .ok (.iload_n 1, 1) := by decide +kernel
theorem dX13_back_17 : decode cX13_back 17 = .ok (.aload_n 0, 1) := by decide +kernel
theorem dX13_back_18 : decode cX13_back 18 = .ok (.getfield 329, 3) := by decide +kernel
theorem dX13_back_21 : decode cX13_back 21 = .ok (.if_icmp .lt 9, 3) := by decide +kernel
theorem dX13_back_24 : decode cX13_back 24 = .ok (.aload_n 0, 1) := by decide +kernel
theorem dX13_back_25 : decode cX13_back 25 = .ok (.iconst 1, 1) := by decide +kernel
theorem dX13_back_26 : decode cX13_back 26 = .ok (.invokevirtual 512, 3) := by decide +kernel
theorem dX13_back_29 : decode cX13_back 29 = .ok (.ireturn, 1) := by decide +kernel
theorem dX13_back_30 : decode cX13_back 30 = .ok (.iconst 0, 1) := by decide +kernel
theorem dX13_back_31 : decode cX13_back 31 = .ok (.istore_n 2, 1) := by decide +kernel
theorem dX13_back_32 : decode cX13_back 32 = .ok (.iload_n 2, 1) := by decide +kernel
theorem dX13_back_33 : decode cX13_back 33 = .ok (.bipush 9, 2) := by decide +kernel
theorem dX13_back_35 : decode cX13_back 35 = .ok (.if_icmp .ge 26, 3) := by decide +kernel
theorem dX13_back_38 : decode cX13_back 38 = .ok (.aload_n 0, 1) := by decide +kernel
theorem dX13_back_39 : decode cX13_back 39 = .ok (.getfield 17, 3) := by decide +kernel
theorem dX13_back_42 : decode cX13_back 42 = .ok (.iload_n 2, 1) := by decide +kernel
theorem dX13_back_43 : decode cX13_back 43 = .ok (.aload_n 0, 1) := by decide +kernel
theorem dX13_back_44 : decode cX13_back 44 = .ok (.getfield 27, 3) := by decide +kernel
theorem dX13_back_47 : decode cX13_back 47 = .ok (.bipush 9, 2) := by decide +kernel
theorem dX13_back_49 : decode cX13_back 49 = .ok (.iload_n 1, 1) := by decide +kernel
theorem dX13_back_50 : decode cX13_back 50 = .ok (.imul, 1) := by decide +kernel
theorem dX13_back_51 : decode cX13_back 51 = .ok (.iload_n 2, 1) := by decide +kernel
theorem dX13_back_52 : decode cX13_back 52 = .ok (.iadd, 1) := by decide +kernel
theorem dX13_back_53 : decode cX13_back 53 = .ok (.iaload, 1) := by decide +kernel
theorem dX13_back_54 : decode cX13_back 54 = .ok (.iastore, 1) := by decide +kernel
theorem dX13_back_55 : decode cX13_back 55 = .ok (.iinc 2 1, 3) := by decide +kernel
theorem dX13_back_58 : decode cX13_back 58 = .ok (.goto (-26), 3) := by decide +kernel
theorem dX13_back_61 : decode cX13_back 61 = .ok (.aload_n 0, 1) := by decide +kernel
theorem dX13_back_62 : decode cX13_back 62 = .ok (.iconst 0, 1) := by decide +kernel
theorem dX13_back_63 : decode cX13_back 63 = .ok (.putfield 326, 3) := by decide +kernel
theorem dX13_back_66 : decode cX13_back 66 = .ok (.aload_n 0, 1) := by decide +kernel
theorem dX13_back_67 : decode cX13_back 67 = .ok (.invokevirtual 518, 3) := by decide +kernel
theorem dX13_back_70 : decode cX13_back 70 = .ok (.ireturn, 1) := by decide +kernel
theorem dX13_led_0 : decode cX13_led 0 = .ok (.aload_n 0, 1) := by decide +kernel
theorem dX13_led_1 : decode cX13_led 1 = .ok (.iconst 0, 1) := by decide +kernel
theorem dX13_led_2 : decode cX13_led 2 = .ok (.putfield 42, 3) := by decide +kernel
theorem dX13_led_5 : decode cX13_led 5 = .ok (.iconst 0, 1) := by decide +kernel
theorem dX13_led_6 : decode cX13_led 6 = .ok (.istore_n 2, 1) := by decide +kernel
theorem dX13_led_7 : decode cX13_led 7 = .ok (.aload_n 0, 1) := by decide +kernel
theorem dX13_led_8 : decode cX13_led 8 = .ok (.getfield 321, 3) := by decide +kernel
theorem dX13_led_11 : decode cX13_led 11 = .ok (.ifnull 7, 3) := by decide +kernel
theorem dX13_led_14 : decode cX13_led 14 = .ok (.aload_n 0, 1) := by decide +kernel
theorem dX13_led_15 : decode cX13_led 15 = .ok (.invokevirtual 348, 3) := by decide +kernel
theorem dX13_led_18 : decode cX13_led 18 = .ok (.iconst 0, 1) := by decide +kernel
theorem dX13_led_19 : decode cX13_led 19 = .ok (.istore_n 3, 1) := by decide +kernel
theorem dX13_led_20 : decode cX13_led 20 = .ok (.aload_n 0, 1) := by decide +kernel
theorem dX13_led_21 : decode cX13_led 21 = .ok (.getfield 321, 3) := by decide +kernel
theorem dX13_led_24 : decode cX13_led 24 = .ok (.ifnull 41, 3) := by decide +kernel
theorem dX13_led_27 : decode cX13_led 27 = .ok (.iload_n 3, 1) := by decide +kernel
theorem dX13_led_28 : decode cX13_led 28 = .ok (.aload_n 0, 1) := by decide +kernel
theorem dX13_led_29 : decode cX13_led 29 = .ok (.getfield 321, 3) := by decide +kernel
theorem dX13_led_32 : decode cX13_led 32 = .ok (.getfield 229, 3) := by decide +kernel
theorem dX13_led_35 : decode cX13_led 35 = .ok (.if_icmp .ge 30, 3) := by decide +kernel
theorem dX13_led_38 : decode cX13_led 38 = .ok (.aload_n 0, 1) := by decide +kernel
theorem dX13_led_39 : decode cX13_led 39 = .ok (.iload_n 3, 1) := by decide +kernel
theorem dX13_led_40 : decode cX13_led 40 = .ok (.invokevirtual 354, 3) := by decide +kernel
theorem dX13_led_43 : decode cX13_led 43 = .ok (.ifCond .le 6, 3) := by decide +kernel
theorem dX13_led_46 : decode cX13_led 46 = .ok (.goto 13, 3) := by decide +kernel
theorem dX13_led_49 : decode cX13_led 49 = .ok (.iload_n 2, 1) := by decide +kernel
theorem dX13_led_50 : decode cX13_led 50 = .ok (.iload_n 1, 1) := by decide +kernel
theorem dX13_led_51 : decode cX13_led 51 = .ok (.if_icmp .ne 5, 3) := by decide +kernel
theorem dX13_led_54 : decode cX13_led 54 = .ok (.iload_n 3, 1) := by decide +kernel
theorem dX13_led_55 : decode cX13_led 55 = .ok (.ireturn, 1) := by decide +kernel
theorem dX13_led_56 : decode cX13_led 56 = .ok (.iinc 2 1, 3) := by decide +kernel
theorem dX13_led_59 : decode cX13_led 59 = .ok (.iinc 3 1, 3) := by decide +kernel
theorem dX13_led_62 : decode cX13_led 62 = .ok (.goto (-42), 3) := by decide +kernel
theorem dX13_led_65 : decode cX13_led 65 = .ok (.aload_n 0, 1) := by decide +kernel
theorem dX13_led_66 : decode cX13_led 66 = .ok (.iconst 1, 1) := by decide +kernel
theorem dX13_led_67 : decode cX13_led 67 = .ok (.putfield 42, 3) := by decide +kernel
theorem dX13_led_70 : decode cX13_led 70 = .ok (.iconst 0, 1) := by decide +kernel
theorem dX13_led_71 : decode cX13_led 71 = .ok (.ireturn, 1) := by decide +kernel
theorem dX13_size_0 : decode cX13_size 0 = .ok (.aload_n 0, 1) := by decide +kernel
theorem dX13_size_1 : decode cX13_size 1 = .ok (.iconst 0, 1) := by decide +kernel
theorem dX13_size_2 : decode cX13_size 2 = .ok (.putfield 42, 3) := by decide +kernel
theorem dX13_size_5 : decode cX13_size 5 = .ok (.iload_n 1, 1) := by decide +kernel
theorem dX13_size_6 : decode cX13_size 6 = .ok (.bipush 13, 2) := by decide +kernel
theorem dX13_size_8 : decode cX13_size 8 = .ok (.if_icmp .ne 8, 3) := by decide +kernel
theorem dX13_size_11 : decode cX13_size 11 = .ok (.aload_n 0, 1) := by decide +kernel
theorem dX13_size_12 : decode cX13_size 12 = .ok (.getfield 314, 3) := by decide +kernel
theorem dX13_size_15 : decode cX13_size 15 = .ok (.ireturn, 1) := by decide +kernel
theorem dX13_size_16 : decode cX13_size 16 = .ok (.iload_n 1, 1) := by decide +kernel
theorem dX13_size_17 : decode cX13_size 17 = .ok (.iconst 0, 1) := by decide +kernel
theorem dX13_size_18 : decode cX13_size 18 = .ok (.bipush 12, 2) := by decide +kernel
theorem dX13_size_20 : decode cX13_size 20 = .ok (.invokestatic 121, 3) := by decide +kernel
theorem dX13_size_23 : decode cX13_size 23 = .ok (.ifCond .ne 5, 3) := by decide +kernel
theorem dX13_size_26 : decode cX13_size 26 = .ok (.iconst (-1), 1) := by decide +kernel
theorem dX13_size_27 : decode cX13_size 27 = .ok (.ireturn, 1) := by decide +kernel
theorem dX13_size_28 : decode cX13_size 28 = .ok (.aload_n 0, 1) := by decide +kernel
theorem dX13_size_29 : decode cX13_size 29 = .ok (.getfield 321, 3) := by decide +kernel
theorem dX13_size_32 : decode cX13_size 32 = .ok (.ifnonnull 5, 3) := by decide +kernel
theorem dX13_size_35 : decode cX13_size 35 = .ok (.iconst 0, 1) := by decide +kernel
theorem dX13_size_36 : decode cX13_size 36 = .ok (.ireturn, 1) := by decide +kernel
theorem dX13_size_37 : decode cX13_size 37 = .ok (.iload_n 1, 1) := by decide +kernel
theorem dX13_size_38 : decode cX13_size 38 = .ok (.tableswitch 155 0 11 #[62, 70, 78, 86, 94, 102, 110, 118, 126, 134, 142, 150], 62) := by decide +kernel
theorem dX13_size_100 : decode cX13_size 100 = .ok (.aload_n 0, 1) := by decide +kernel
theorem dX13_size_101 : decode cX13_size 101 = .ok (.getfield 321, 3) := by decide +kernel
theorem dX13_size_104 : decode cX13_size 104 = .ok (.getfield 155, 3) := by decide +kernel
theorem dX13_size_107 : decode cX13_size 107 = .ok (.ireturn, 1) := by decide +kernel
theorem dX13_size_108 : decode cX13_size 108 = .ok (.aload_n 0, 1) := by decide +kernel
theorem dX13_size_109 : decode cX13_size 109 = .ok (.getfield 321, 3) := by decide +kernel
theorem dX13_size_112 : decode cX13_size 112 = .ok (.getfield 227, 3) := by decide +kernel
theorem dX13_size_115 : decode cX13_size 115 = .ok (.ireturn, 1) := by decide +kernel
theorem dX13_size_116 : decode cX13_size 116 = .ok (.aload_n 0, 1) := by decide +kernel
theorem dX13_size_117 : decode cX13_size 117 = .ok (.getfield 321, 3) := by decide +kernel
theorem dX13_size_120 : decode cX13_size 120 = .ok (.getfield 229, 3) := by decide +kernel
theorem dX13_size_123 : decode cX13_size 123 = .ok (.ireturn, 1) := by decide +kernel
theorem dX13_size_124 : decode cX13_size 124 = .ok (.aload_n 0, 1) := by decide +kernel
theorem dX13_size_125 : decode cX13_size 125 = .ok (.getfield 321, 3) := by decide +kernel
theorem dX13_size_128 : decode cX13_size 128 = .ok (.getfield 243, 3) := by decide +kernel
theorem dX13_size_131 : decode cX13_size 131 = .ok (.ireturn, 1) := by decide +kernel
theorem dX13_size_132 : decode cX13_size 132 = .ok (.aload_n 0, 1) := by decide +kernel
theorem dX13_size_133 : decode cX13_size 133 = .ok (.getfield 321, 3) := by decide +kernel
theorem dX13_size_136 : decode cX13_size 136 = .ok (.getfield 191, 3) := by decide +kernel
theorem dX13_size_139 : decode cX13_size 139 = .ok (.ireturn, 1) := by decide +kernel
theorem dX13_size_140 : decode cX13_size 140 = .ok (.aload_n 0, 1) := by decide +kernel
theorem dX13_size_141 : decode cX13_size 141 = .ok (.getfield 321, 3) := by decide +kernel
theorem dX13_size_144 : decode cX13_size 144 = .ok (.getfield 285, 3) := by decide +kernel
theorem dX13_size_147 : decode cX13_size 147 = .ok (.ireturn, 1) := by decide +kernel
theorem dX13_size_148 : decode cX13_size 148 = .ok (.aload_n 0, 1) := by decide +kernel
theorem dX13_size_149 : decode cX13_size 149 = .ok (.getfield 321, 3) := by decide +kernel
theorem dX13_size_152 : decode cX13_size 152 = .ok (.getfield 291, 3) := by decide +kernel
theorem dX13_size_155 : decode cX13_size 155 = .ok (.ireturn, 1) := by decide +kernel
theorem dX13_size_156 : decode cX13_size 156 = .ok (.aload_n 0, 1) := by decide +kernel
theorem dX13_size_157 : decode cX13_size 157 = .ok (.getfield 321, 3) := by decide +kernel
theorem dX13_size_160 : decode cX13_size 160 = .ok (.getfield 301, 3) := by decide +kernel
theorem dX13_size_163 : decode cX13_size 163 = .ok (.ireturn, 1) := by decide +kernel
theorem dX13_size_164 : decode cX13_size 164 = .ok (.aload_n 0, 1) := by decide +kernel
theorem dX13_size_165 : decode cX13_size 165 = .ok (.getfield 321, 3) := by decide +kernel
theorem dX13_size_168 : decode cX13_size 168 = .ok (.getfield 311, 3) := by decide +kernel
theorem dX13_size_171 : decode cX13_size 171 = .ok (.ireturn, 1) := by decide +kernel
theorem dX13_size_172 : decode cX13_size 172 = .ok (.aload_n 0, 1) := by decide +kernel
theorem dX13_size_173 : decode cX13_size 173 = .ok (.getfield 17, 3) := by decide +kernel
theorem dX13_size_176 : decode cX13_size 176 = .ok (.bipush 7, 2) := by decide +kernel
theorem dX13_size_178 : decode cX13_size 178 = .ok (.iaload, 1) := by decide +kernel
theorem dX13_size_179 : decode cX13_size 179 = .ok (.ireturn, 1) := by decide +kernel
theorem dX13_size_180 : decode cX13_size 180 = .ok (.aload_n 0, 1) := by decide +kernel
theorem dX13_size_181 : decode cX13_size 181 = .ok (.getfield 17, 3) := by decide +kernel
theorem dX13_size_184 : decode cX13_size 184 = .ok (.bipush 8, 2) := by decide +kernel
theorem dX13_size_186 : decode cX13_size 186 = .ok (.iaload, 1) := by decide +kernel
theorem dX13_size_187 : decode cX13_size 187 = .ok (.ireturn, 1) := by decide +kernel
theorem dX13_size_188 : decode cX13_size 188 = .ok (.aload_n 0, 1) := by decide +kernel
theorem dX13_size_189 : decode cX13_size 189 = .ok (.getfield 326, 3) := by decide +kernel
theorem dX13_size_192 : decode cX13_size 192 = .ok (.ireturn, 1) := by decide +kernel
theorem dX13_size_193 : decode cX13_size 193 = .ok (.aload_n 0, 1) := by decide +kernel
theorem dX13_size_194 : decode cX13_size 194 = .ok (.getfield 329, 3) := by decide +kernel
theorem dX13_size_197 : decode cX13_size 197 = .ok (.ireturn, 1) := by decide +kernel
theorem dX13_trouble_0 : decode cX13_trouble 0 = .ok (.aload_n 0, 1) := by decide +kernel
theorem dX13_trouble_1 : decode cX13_trouble 1 = .ok (.iconst 0, 1) := by decide +kernel
theorem dX13_trouble_2 : decode cX13_trouble 2 = .ok (.putfield 42, 3) := by decide +kernel
theorem dX13_trouble_5 : decode cX13_trouble 5 = .ok (.aload_n 0, 1) := by decide +kernel
theorem dX13_trouble_6 : decode cX13_trouble 6 = .ok (.getfield 45, 3) := by decide +kernel
theorem dX13_trouble_9 : decode cX13_trouble 9 = .ok (.ireturn, 1) := by decide +kernel
theorem dJ6_bitCount_0f7a4_0 : decode cJ6_bitCount_0f7a4 0 = .ok (.iload_n 0, 1) := by decide +kernel
theorem dJ6_bitCount_0f7a4_1 : decode cJ6_bitCount_0f7a4 1 = .ok (.iload_n 0, 1) := by decide +kernel
theorem dJ6_bitCount_0f7a4_2 : decode cJ6_bitCount_0f7a4 2 = .ok (.iconst 1, 1) := by decide +kernel
theorem dJ6_bitCount_0f7a4_3 : decode cJ6_bitCount_0f7a4 3 = .ok (.iushr, 1) := by decide +kernel
theorem dJ6_bitCount_0f7a4_4 : decode cJ6_bitCount_0f7a4 4 = .ok (.ldc_w 265, 3) := by decide +kernel
theorem dJ6_bitCount_0f7a4_7 : decode cJ6_bitCount_0f7a4 7 = .ok (.iand, 1) := by decide +kernel
theorem dJ6_bitCount_0f7a4_8 : decode cJ6_bitCount_0f7a4 8 = .ok (.isub, 1) := by decide +kernel
theorem dJ6_bitCount_0f7a4_9 : decode cJ6_bitCount_0f7a4 9 = .ok (.istore_n 0, 1) := by decide +kernel
theorem dJ6_bitCount_0f7a4_10 : decode cJ6_bitCount_0f7a4 10 = .ok (.iload_n 0, 1) := by decide +kernel
theorem dJ6_bitCount_0f7a4_11 : decode cJ6_bitCount_0f7a4 11 = .ok (.ldc_w 266, 3) := by decide +kernel
theorem dJ6_bitCount_0f7a4_14 : decode cJ6_bitCount_0f7a4 14 = .ok (.iand, 1) := by decide +kernel
theorem dJ6_bitCount_0f7a4_15 : decode cJ6_bitCount_0f7a4 15 = .ok (.iload_n 0, 1) := by decide +kernel
theorem dJ6_bitCount_0f7a4_16 : decode cJ6_bitCount_0f7a4 16 = .ok (.iconst 2, 1) := by decide +kernel
theorem dJ6_bitCount_0f7a4_17 : decode cJ6_bitCount_0f7a4 17 = .ok (.iushr, 1) := by decide +kernel
theorem dJ6_bitCount_0f7a4_18 : decode cJ6_bitCount_0f7a4 18 = .ok (.ldc_w 266, 3) := by decide +kernel
theorem dJ6_bitCount_0f7a4_21 : decode cJ6_bitCount_0f7a4 21 = .ok (.iand, 1) := by decide +kernel
theorem dJ6_bitCount_0f7a4_22 : decode cJ6_bitCount_0f7a4 22 = .ok (.iadd, 1) := by decide +kernel
theorem dJ6_bitCount_0f7a4_23 : decode cJ6_bitCount_0f7a4 23 = .ok (.istore_n 0, 1) := by decide +kernel
theorem dJ6_bitCount_0f7a4_24 : decode cJ6_bitCount_0f7a4 24 = .ok (.iload_n 0, 1) := by decide +kernel
theorem dJ6_bitCount_0f7a4_25 : decode cJ6_bitCount_0f7a4 25 = .ok (.iload_n 0, 1) := by decide +kernel
theorem dJ6_bitCount_0f7a4_26 : decode cJ6_bitCount_0f7a4 26 = .ok (.iconst 4, 1) := by decide +kernel
theorem dJ6_bitCount_0f7a4_27 : decode cJ6_bitCount_0f7a4 27 = .ok (.iushr, 1) := by decide +kernel
