theorem dX6_readHad_17 : decode cX6_readHad 17 = .ok (.getfield 135, 3) := by decide +kernel
theorem dX6_readHad_20 : decode cX6_readHad 20 = .ok (.getfield 231, 3) := by decide +kernel
theorem dX6_readHad_23 : decode cX6_readHad 23 = .ok (.iload_n 1, 1) := by decide +kernel
theorem dX6_readHad_24 : decode cX6_readHad 24 = .ok (.invokestatic 213, 3) := by decide +kernel
theorem dX6_readHad_27 : decode cX6_readHad 27 = .ok (.iconst (-1), 1) := by decide +kernel
theorem dX6_readHad_28 : decode cX6_readHad 28 = .ok (.if_icmp .eq 9, 3) := by decide +kernel
theorem dX6_readHad_31 : decode cX6_readHad 31 = .ok (.aload_n 0, 1) := by decide +kernel
theorem dX6_readHad_32 : decode cX6_readHad 32 = .ok (.iconst 3, 1) := by decide +kernel
theorem dX6_readHad_33 : decode cX6_readHad 33 = .ok (.invokevirtual 66, 3) := by decide +kernel
theorem dX6_readHad_36 : decode cX6_readHad 36 = .ok (.ireturn, 1) := by decide +kernel
theorem dX6_readHad_37 : decode cX6_readHad 37 = .ok (.aload_n 0, 1) := by decide +kernel
theorem dX6_readHad_38 : decode cX6_readHad 38 = .ok (.getfield 29, 3) := by decide +kernel
theorem dX6_readHad_41 : decode cX6_readHad 41 = .ok (.invokevirtual 70, 3) := by decide +kernel
theorem dX6_readHad_44 : decode cX6_readHad 44 = .ok (.aload_n 0, 1) := by decide +kernel
theorem dX6_readHad_45 : decode cX6_readHad 45 = .ok (.sipush 599, 3) := by decide +kernel
theorem dX6_readHad_48 : decode cX6_readHad 48 = .ok (.invokevirtual 150, 3) := by decide +kernel
theorem dX6_readHad_51 : decode cX6_readHad 51 = .ok (.ifCond .ne 5, 3) := by decide +kernel
theorem dX6_readHad_54 : decode cX6_readHad 54 = .ok (.iconst 0, 1) := by decide +kernel
theorem dX6_readHad_55 : decode cX6_readHad 55 = .ok (.ireturn, 1) := by decide +kernel
theorem dX6_readHad_56 : decode cX6_readHad 56 = .ok (.aload_n 0, 1) := by decide +kernel
theorem dX6_readHad_57 : decode cX6_readHad 57 = .ok (.getfield 12, 3) := by decide +kernel
theorem dX6_readHad_60 : decode cX6_readHad 60 = .ok (.getfield 135, 3) := by decide +kernel
theorem dX6_readHad_63 : decode cX6_readHad 63 = .ok (.iload_n 1, 1) := by decide +kernel
theorem dX6_readHad_64 : decode cX6_readHad 64 = .ok (.aload_n 0, 1) := by decide +kernel
theorem dX6_readHad_65 : decode cX6_readHad 65 = .ok (.getfield 29, 3) := by decide +kernel
theorem dX6_readHad_68 : decode cX6_readHad 68 = .ok (.getfield 153, 3) := by decide +kernel
theorem dX6_readHad_71 : decode cX6_readHad 71 = .ok (.invokevirtual 233, 3) := by decide +kernel
theorem dX6_readHad_74 : decode cX6_readHad 74 = .ok (.aload_n 0, 1) := by decide +kernel
theorem dX6_readHad_75 : decode cX6_readHad 75 = .ok (.getfield 29, 3) := by decide +kernel
theorem dX6_readHad_78 : decode cX6_readHad 78 = .ok (.invokevirtual 70, 3) := by decide +kernel
theorem dX6_readHad_81 : decode cX6_readHad 81 = .ok (.iconst 1, 1) := by decide +kernel
theorem dX6_readHad_82 : decode cX6_readHad 82 = .ok (.ireturn, 1) := by decide +kernel
theorem dX6_readWord_0 : decode cX6_readWord 0 = .ok (.aload_n 0, 1) := by decide +kernel
theorem dX6_readWord_1 : decode cX6_readWord 1 = .ok (.getfield 29, 3) := by decide +kernel
theorem dX6_readWord_4 : decode cX6_readWord 4 = .ok (.aload_n 1, 1) := by decide +kernel
theorem dX6_readWord_5 : decode cX6_readWord 5 = .ok (.invokevirtual 106, 3) := by decide +kernel
theorem dX6_readWord_8 : decode cX6_readWord 8 = .ok (.ifCond .ne 9, 3) := by decide +kernel
theorem dX6_readWord_11 : decode cX6_readWord 11 = .ok (.aload_n 0, 1) := by decide +kernel
theorem dX6_readWord_12 : decode cX6_readWord 12 = .ok (.iconst 1, 1) := by decide +kernel
theorem dX6_readWord_13 : decode cX6_readWord 13 = .ok (.invokevirtual 66, 3) := by decide +kernel
theorem dX6_readWord_16 : decode cX6_readWord 16 = .ok (.ireturn, 1) := by decide +kernel
theorem dX6_readWord_17 : decode cX6_readWord 17 = .ok (.aload_n 0, 1) := by decide +kernel
theorem dX6_readWord_18 : decode cX6_readWord 18 = .ok (.getfield 29, 3) := by decide +kernel
theorem dX6_readWord_21 : decode cX6_readWord 21 = .ok (.invokevirtual 70, 3) := by decide +kernel
theorem dX6_readWord_24 : decode cX6_readWord 24 = .ok (.iconst 1, 1) := by decide +kernel
theorem dX6_readWord_25 : decode cX6_readWord 25 = .ok (.ireturn, 1) := by decide +kernel
theorem dX6_isWholeUpTo_0 : decode cX6_isWholeUpTo 0 = .ok (.aload_n 0, 1) := by decide +kernel
theorem dX6_isWholeUpTo_1 : decode cX6_isWholeUpTo 1 = .ok (.getfield 29, 3) := by decide +kernel
theorem dX6_isWholeUpTo_4 : decode cX6_isWholeUpTo 4 = .ok (.getfield 60, 3) := by decide +kernel
theorem dX6_isWholeUpTo_7 : decode cX6_isWholeUpTo 7 = .ok (.iconst 2, 1) := by decide +kernel
theorem dX6_isWholeUpTo_8 : decode cX6_isWholeUpTo 8 = .ok (.if_icmp .eq 9, 3) := by decide +kernel
theorem dX6_isWholeUpTo_11 : decode cX6_isWholeUpTo 11 = .ok (.aload_n 0, 1) := by decide +kernel
theorem dX6_isWholeUpTo_12 : decode cX6_isWholeUpTo 12 = .ok (.iconst 1, 1) := by decide +kernel
theorem dX6_isWholeUpTo_13 : decode cX6_isWholeUpTo 13 = .ok (.invokevirtual 66, 3) := by decide +kernel
theorem dX6_isWholeUpTo_16 : decode cX6_isWholeUpTo 16 = .ok (.ireturn, 1) := by decide +kernel
theorem dX6_isWholeUpTo_17 : decode cX6_isWholeUpTo 17 = .ok (.aload_n 0, 1) := by decide +kernel
theorem dX6_isWholeUpTo_18 : decode cX6_isWholeUpTo 18 = .ok (.getfield 29, 3) := by decide +kernel
theorem dX6_isWholeUpTo_21 : decode cX6_isWholeUpTo 21 = .ok (.getfield 153, 3) := by decide +kernel
theorem dX6_isWholeUpTo_24 : decode cX6_isWholeUpTo 24 = .ok (.iload_n 1, 1) := by decide +kernel
theorem dX6_isWholeUpTo_25 : decode cX6_isWholeUpTo 25 = .ok (.if_icmp .le 11, 3) := by decide +kernel
theorem dX6_isWholeUpTo_28 : decode cX6_isWholeUpTo 28 = .ok (.aload_n 0, 1) := by decide +kernel
theorem dX6_isWholeUpTo_29 : decode cX6_isWholeUpTo 29 = .ok (.iconst 4, 1) := by decide +kernel
theorem dX6_isWholeUpTo_30 : decode cX6_isWholeUpTo 30 = .ok (.invokevirtual 66, 3) := by decide +kernel
theorem dX6_isWholeUpTo_33 : decode cX6_isWholeUpTo 33 = .ok (.ifCond .eq 7, 3) := by decide +kernel
theorem dX6_isWholeUpTo_36 : decode cX6_isWholeUpTo 36 = .ok (.iconst 1, 1) := by decide +kernel
theorem dX6_isWholeUpTo_37 : decode cX6_isWholeUpTo 37 = .ok (.goto 4, 3) := by decide +kernel
theorem dX6_isWholeUpTo_40 : decode cX6_isWholeUpTo 40 = .ok (.iconst 0, 1) := by decide +kernel
theorem dX6_isWholeUpTo_41 : decode cX6_isWholeUpTo 41 = .ok (.ireturn, 1) := by decide +kernel
theorem dX6_readNewName_0 : decode cX6_readNewName 0 = .ok (.aload_n 0, 1) := by decide +kernel
theorem dX6_readNewName_1 : decode cX6_readNewName 1 = .ok (.getfield 29, 3) := by decide +kernel
theorem dX6_readNewName_4 : decode cX6_readNewName 4 = .ok (.getfield 60, 3) := by decide +kernel
theorem dX6_readNewName_7 : decode cX6_readNewName 7 = .ok (.iconst 1, 1) := by decide +kernel
theorem dX6_readNewName_8 : decode cX6_readNewName 8 = .ok (.if_icmp .ne 11, 3) := by decide +kernel
theorem dX6_readNewName_11 : decode cX6_readNewName 11 = .ok (.aload_n 0, 1) := by decide +kernel
theorem dX6_readNewName_12 : decode cX6_readNewName 12 = .ok (.invokevirtual 73, 3) := by decide +kernel
theorem dX6_readNewName_15 : decode cX6_readNewName 15 = .ok (.iconst (-1), 1) := by decide +kernel
theorem dX6_readNewName_16 : decode cX6_readNewName 16 = .ok (.if_icmp .eq 9, 3) := by decide +kernel
theorem dX6_readNewName_19 : decode cX6_readNewName 19 = .ok (.aload_n 0, 1) := by decide +kernel
theorem dX6_readNewName_20 : decode cX6_readNewName 20 = .ok (.iconst 1, 1) := by decide +kernel
theorem dX6_readNewName_21 : decode cX6_readNewName 21 = .ok (.invokevirtual 66, 3) := by decide +kernel
theorem dX6_readNewName_24 : decode cX6_readNewName 24 = .ok (.ireturn, 1) := by decide +kernel
theorem dX6_readNewName_25 : decode cX6_readNewName 25 = .ok (.aload_n 0, 1) := by decide +kernel
theorem dX6_readNewName_26 : decode cX6_readNewName 26 = .ok (.invokevirtual 236, 3) := by decide +kernel
theorem dX6_readNewName_29 : decode cX6_readNewName 29 = .ok (.iconst (-1), 1) := by decide +kernel
theorem dX6_readNewName_30 : decode cX6_readNewName 30 = .ok (.if_icmp .eq 9, 3) := by decide +kernel
theorem dX6_readNewName_33 : decode cX6_readNewName 33 = .ok (.aload_n 0, 1) := by decide +kernel
theorem dX6_readNewName_34 : decode cX6_readNewName 34 = .ok (.iconst 3, 1) := by decide +kernel
theorem dX6_readNewName_35 : decode cX6_readNewName 35 = .ok (.invokevirtual 66, 3) := by decide +kernel
theorem dX6_readNewName_38 : decode cX6_readNewName 38 = .ok (.ireturn, 1) := by decide +kernel
theorem dX6_readNewName_39 : decode cX6_readNewName 39 = .ok (.aload_n 0, 1) := by decide +kernel
theorem dX6_readNewName_40 : decode cX6_readNewName 40 = .ok (.getfield 40, 3) := by decide +kernel
theorem dX6_readNewName_43 : decode cX6_readNewName 43 = .ok (.bipush 15, 2) := by decide +kernel
theorem dX6_readNewName_45 : decode cX6_readNewName 45 = .ok (.if_icmp .ge 56, 3) := by decide +kernel
theorem dX6_readNewName_48 : decode cX6_readNewName 48 = .ok (.aload_n 0, 1) := by decide +kernel
theorem dX6_readNewName_49 : decode cX6_readNewName 49 = .ok (.getfield 40, 3) := by decide +kernel
theorem dX6_readNewName_52 : decode cX6_readNewName 52 = .ok (.ifCond .lt 49, 3) := by decide +kernel
theorem dX6_readNewName_55 : decode cX6_readNewName 55 = .ok (.aload_n 0, 1) := by decide +kernel
theorem dX6_readNewName_56 : decode cX6_readNewName 56 = .ok (.getfield 18, 3) := by decide +kernel
theorem dX6_readNewName_59 : decode cX6_readNewName 59 = .ok (.aload_n 0, 1) := by decide +kernel
theorem dX6_readNewName_60 : decode cX6_readNewName 60 = .ok (.getfield 40, 3) := by decide +kernel
theorem dX6_readNewName_63 : decode cX6_readNewName 63 = .ok (.aload_n 0, 1) := by decide +kernel
theorem dX6_readNewName_64 : decode cX6_readNewName 64 = .ok (.getfield 29, 3) := by decide +kernel
theorem dX6_readNewName_67 : decode cX6_readNewName 67 = .ok (.getfield 239, 3) := by decide +kernel
theorem dX6_readNewName_70 : decode cX6_readNewName 70 = .ok (.lastore, 1) := by decide +kernel
theorem dX6_readNewName_71 : decode cX6_readNewName 71 = .ok (.aload_n 0, 1) := by decide +kernel
theorem dX6_readNewName_72 : decode cX6_readNewName 72 = .ok (.getfield 22, 3) := by decide +kernel
theorem dX6_readNewName_75 : decode cX6_readNewName 75 = .ok (.aload_n 0, 1) := by decide +kernel
theorem dX6_readNewName_76 : decode cX6_readNewName 76 = .ok (.getfield 40, 3) := by decide +kernel
theorem dX6_readNewName_79 : decode cX6_readNewName 79 = .ok (.iload_n 1, 1) := by decide +kernel
theorem dX6_readNewName_80 : decode cX6_readNewName 80 = .ok (.iastore, 1) := by decide +kernel
theorem dX6_readNewName_81 : decode cX6_readNewName 81 = .ok (.aload_n 0, 1) := by decide +kernel
theorem dX6_readNewName_82 : decode cX6_readNewName 82 = .ok (.getfield 26, 3) := by decide +kernel
theorem dX6_readNewName_85 : decode cX6_readNewName 85 = .ok (.aload_n 0, 1) := by decide +kernel
theorem dX6_readNewName_86 : decode cX6_readNewName 86 = .ok (.getfield 40, 3) := by decide +kernel
theorem dX6_readNewName_89 : decode cX6_readNewName 89 = .ok (.iload_n 2, 1) := by decide +kernel
theorem dX6_readNewName_90 : decode cX6_readNewName 90 = .ok (.iastore, 1) := by decide +kernel
theorem dX6_readNewName_91 : decode cX6_readNewName 91 = .ok (.aload_n 0, 1) := by decide +kernel
theorem dX6_readNewName_92 : decode cX6_readNewName 92 = .ok (.dup, 1) := by decide +kernel
theorem dX6_readNewName_93 : decode cX6_readNewName 93 = .ok (.getfield 40, 3) := by decide +kernel
theorem dX6_readNewName_96 : decode cX6_readNewName 96 = .ok (.iconst 1, 1) := by decide +kernel
theorem dX6_readNewName_97 : decode cX6_readNewName 97 = .ok (.iadd, 1) := by decide +kernel
theorem dX6_readNewName_98 : decode cX6_readNewName 98 = .ok (.putfield 40, 3) := by decide +kernel
theorem dX6_readNewName_101 : decode cX6_readNewName 101 = .ok (.aload_n 0, 1) := by decide +kernel
theorem dX6_readNewName_102 : decode cX6_readNewName 102 = .ok (.getfield 29, 3) := by decide +kernel
theorem dX6_readNewName_105 : decode cX6_readNewName 105 = .ok (.invokevirtual 70, 3) := by decide +kernel
theorem dX6_readNewName_108 : decode cX6_readNewName 108 = .ok (.iconst 1, 1) := by decide +kernel
theorem dX6_readNewName_109 : decode cX6_readNewName 109 = .ok (.ireturn, 1) := by decide +kernel
theorem dX6_toldNumber_0 : decode cX6_toldNumber 0 = .ok (.aload_n 0, 1) := by decide +kernel
theorem dX6_toldNumber_1 : decode cX6_toldNumber 1 = .ok (.getfield 29, 3) := by decide +kernel
theorem dX6_toldNumber_4 : decode cX6_toldNumber 4 = .ok (.getfield 60, 3) := by decide +kernel
theorem dX6_toldNumber_7 : decode cX6_toldNumber 7 = .ok (.iconst 1, 1) := by decide +kernel
theorem dX6_toldNumber_8 : decode cX6_toldNumber 8 = .ok (.if_icmp .ne 11, 3) := by decide +kernel
theorem dX6_toldNumber_11 : decode cX6_toldNumber 11 = .ok (.aload_n 0, 1) := by decide +kernel
theorem dX6_toldNumber_12 : decode cX6_toldNumber 12 = .ok (.invokevirtual 73, 3) := by decide +kernel
theorem dX6_toldNumber_15 : decode cX6_toldNumber 15 = .ok (.iconst (-1), 1) := by decide +kernel
theorem dX6_toldNumber_16 : decode cX6_toldNumber 16 = .ok (.if_icmp .eq 11, 3) := by decide +kernel
theorem dX6_toldNumber_19 : decode cX6_toldNumber 19 = .ok (.aload_n 0, 1) := by decide +kernel
theorem dX6_toldNumber_20 : decode cX6_toldNumber 20 = .ok (.iconst 1, 1) := by decide +kernel
theorem dX6_toldNumber_21 : decode cX6_toldNumber 21 = .ok (.invokevirtual 66, 3) := by decide +kernel
theorem dX6_toldNumber_24 : decode cX6_toldNumber 24 = .ok (.pop, 1) := by decide +kernel
theorem dX6_toldNumber_25 : decode cX6_toldNumber 25 = .ok (.iconst (-1), 1) := by decide +kernel
theorem dX6_toldNumber_26 : decode cX6_toldNumber 26 = .ok (.ireturn, 1) := by decide +kernel
theorem dX6_toldNumber_27 : decode cX6_toldNumber 27 = .ok (.aload_n 0, 1) := by decide +kernel
theorem dX6_toldNumber_28 : decode cX6_toldNumber 28 = .ok (.invokevirtual 236, 3) := by decide +kernel
theorem dX6_toldNumber_31 : decode cX6_toldNumber 31 = .ok (.istore_n 2, 1) := by decide +kernel
theorem dX6_toldNumber_32 : decode cX6_toldNumber 32 = .ok (.iload_n 2, 1) := by decide +kernel
theorem dX6_toldNumber_33 : decode cX6_toldNumber 33 = .ok (.iconst (-1), 1) := by decide +kernel
theorem dX6_toldNumber_34 : decode cX6_toldNumber 34 = .ok (.if_icmp .eq 15, 3) := by decide +kernel
theorem dX6_toldNumber_37 : decode cX6_toldNumber 37 = .ok (.aload_n 0, 1) := by decide +kernel
theorem dX6_toldNumber_38 : decode cX6_toldNumber 38 = .ok (.getfield 22, 3) := by decide +kernel
theorem dX6_toldNumber_41 : decode cX6_toldNumber 41 = .ok (.iload_n 2, 1) := by decide +kernel
theorem dX6_toldNumber_42 : decode cX6_toldNumber 42 = .ok (.invokestatic 213, 3) := by decide +kernel
theorem dX6_toldNumber_45 : decode cX6_toldNumber 45 = .ok (.iload_n 1, 1) := by decide +kernel
theorem dX6_toldNumber_46 : decode cX6_toldNumber 46 = .ok (.if_icmp .eq 11, 3) := by decide +kernel
theorem dX6_toldNumber_49 : decode cX6_toldNumber 49 = .ok (.aload_n 0, 1) := by decide +kernel
theorem dX6_toldNumber_50 : decode cX6_toldNumber 50 = .ok (.iconst 2, 1) := by decide +kernel
theorem dX6_toldNumber_51 : decode cX6_toldNumber 51 = .ok (.invokevirtual 66, 3) := by decide +kernel
theorem dX6_toldNumber_54 : decode cX6_toldNumber 54 = .ok (.pop, 1) := by decide +kernel
theorem dX6_toldNumber_55 : decode cX6_toldNumber 55 = .ok (.iconst (-1), 1) := by decide +kernel
theorem dX6_toldNumber_56 : decode cX6_toldNumber 56 = .ok (.ireturn, 1) := by decide +kernel
theorem dX6_toldNumber_57 : decode cX6_toldNumber 57 = .ok (.aload_n 0, 1) := by decide +kernel
theorem dX6_toldNumber_58 : decode cX6_toldNumber 58 = .ok (.getfield 26, 3) := by decide +kernel
theorem dX6_toldNumber_61 : decode cX6_toldNumber 61 = .ok (.iload_n 2, 1) := by decide +kernel
theorem dX6_toldNumber_62 : decode cX6_toldNumber 62 = .ok (.invokestatic 213, 3) := by decide +kernel
theorem dX6_toldNumber_65 : decode cX6_toldNumber 65 = .ok (.ireturn, 1) := by decide +kernel
theorem dX6_nameIndex_0 : decode cX6_nameIndex 0 = .ok (.iconst 0, 1) := by decide +kernel
theorem dX6_nameIndex_1 : decode cX6_nameIndex 1 = .ok (.istore_n 1, 1) := by decide +kernel
theorem dX6_nameIndex_2 : decode cX6_nameIndex 2 = .ok (.iload_n 1, 1) := by decide +kernel
theorem dX6_nameIndex_3 : decode cX6_nameIndex 3 = .ok (.aload_n 0, 1) := by decide +kernel
theorem dX6_nameIndex_4 : decode cX6_nameIndex 4 = .ok (.getfield 40, 3) := by decide +kernel
theorem dX6_nameIndex_7 : decode cX6_nameIndex 7 = .ok (.if_icmp .ge 34, 3) := by decide +kernel
theorem dX6_nameIndex_10 : decode cX6_nameIndex 10 = .ok (.iload_n 1, 1) := by decide +kernel
theorem dX6_nameIndex_11 : decode cX6_nameIndex 11 = .ok (.bipush 15, 2) := by decide +kernel
theorem dX6_nameIndex_13 : decode cX6_nameIndex 13 = .ok (.if_icmp .ge 28, 3) := by decide +kernel
theorem dX6_nameIndex_16 : decode cX6_nameIndex 16 = .ok (.aload_n 0, 1) := by decide +kernel
theorem dX6_nameIndex_17 : decode cX6_nameIndex 17 = .ok (.getfield 18, 3) := by decide +kernel
theorem dX6_nameIndex_20 : decode cX6_nameIndex 20 = .ok (.iload_n 1, 1) := by decide +kernel
theorem dX6_nameIndex_21 : decode cX6_nameIndex 21 = .ok (.laload, 1) := by decide +kernel
theorem dX6_nameIndex_22 : decode cX6_nameIndex 22 = .ok (.aload_n 0, 1) := by decide +kernel
theorem dX6_nameIndex_23 : decode cX6_nameIndex 23 = .ok (.getfield 29, 3) := by decide +kernel
theorem dX6_nameIndex_26 : decode cX6_nameIndex 26 = .ok (.getfield 239, 3) := by decide +kernel
theorem dX6_nameIndex_29 : decode cX6_nameIndex 29 = .ok (.lcmp, 1) := by decide +kernel
theorem dX6_nameIndex_30 : decode cX6_nameIndex 30 = .ok (.ifCond .ne 5, 3) := by decide +kernel
theorem dX6_nameIndex_33 : decode cX6_nameIndex 33 = .ok (.iload_n 1, 1) := by decide +kernel
theorem dX6_nameIndex_34 : decode cX6_nameIndex 34 = .ok (.ireturn, 1) := by decide +kernel
theorem dX6_nameIndex_35 : decode cX6_nameIndex 35 = .ok (.iinc 1 1, 3) := by decide +kernel
theorem dX6_nameIndex_38 : decode cX6_nameIndex 38 = .ok (.goto (-36), 3) := by decide +kernel
theorem dX6_nameIndex_41 : decode cX6_nameIndex 41 = .ok (.iconst (-1), 1) := by decide +kernel
theorem dX6_nameIndex_42 : decode cX6_nameIndex 42 = .ok (.ireturn, 1) := by decide +kernel
theorem dX6_fail_0 : decode cX6_fail 0 = .ok (.aload_n 0, 1) := by decide +kernel
theorem dX6_fail_1 : decode cX6_fail 1 = .ok (.iload_n 1, 1) := by decide +kernel
theorem dX6_fail_2 : decode cX6_fail 2 = .ok (.putfield 44, 3) := by decide +kernel
theorem dX6_fail_5 : decode cX6_fail 5 = .ok (.aload_n 0, 1) := by decide +kernel
theorem dX6_fail_6 : decode cX6_fail 6 = .ok (.aload_n 0, 1) := by decide +kernel
theorem dX6_fail_7 : decode cX6_fail 7 = .ok (.getfield 29, 3) := by decide +kernel
theorem dX6_fail_10 : decode cX6_fail 10 = .ok (.getfield 243, 3) := by decide +kernel
theorem dX6_fail_13 : decode cX6_fail 13 = .ok (.putfield 47, 3) := by decide +kernel
theorem dX6_fail_16 : decode cX6_fail 16 = .ok (.iconst 0, 1) := by decide +kernel
theorem dX6_fail_17 : decode cX6_fail 17 = .ok (.ireturn, 1) := by decide +kernel
theorem dX7_init_0 : decode cX7_init 0 = .ok (.aload_n 0, 1) := by decide +kernel
theorem dX7_init_1 : decode cX7_init 1 = .ok (.invokespecial 3, 3) := by decide +kernel
theorem dX7_init_4 : decode cX7_init 4 = .ok (.aload_n 0, 1) := by decide +kernel
theorem dX7_init_5 : decode cX7_init 5 = .ok (.bipush 16, 2) := by decide +kernel
theorem dX7_init_7 : decode cX7_init 7 = .ok (.newarray .int, 2) := by decide +kernel
theorem dX7_init_9 : decode cX7_init 9 = .ok (.putfield 9, 3) := by decide +kernel
theorem dX7_init_12 : decode cX7_init 12 = .ok (.aload_n 0, 1) := by decide +kernel
theorem dX7_init_13 : decode cX7_init 13 = .ok (.bipush 16, 2) := by decide +kernel
theorem dX7_init_15 : decode cX7_init 15 = .ok (.newarray .int, 2) := by decide +kernel
theorem dX7_init_17 : decode cX7_init 17 = .ok (.putfield 15, 3) := by decide +kernel
theorem dX7_init_20 : decode cX7_init 20 = .ok (.aload_n 0, 1) := by decide +kernel
theorem dX7_init_21 : decode cX7_init 21 = .ok (.bipush 16, 2) := by decide +kernel
theorem dX7_init_23 : decode cX7_init 23 = .ok (.newarray .int, 2) := by decide +kernel
theorem dX7_init_25 : decode cX7_init 25 = .ok (.putfield 18, 3) := by decide +kernel
theorem dX7_init_28 : decode cX7_init 28 = .ok (.aload_n 0, 1) := by decide +kernel
theorem dX7_init_29 : decode cX7_init 29 = .ok (.iload_n 1, 1) := by decide +kernel
theorem dX7_init_30 : decode cX7_init 30 = .ok (.putfield 21, 3) := by decide +kernel
theorem dX7_init_33 : decode cX7_init 33 = .ok (.return_, 1) := by decide +kernel
theorem dX7_addLatest_0 : decode cX7_addLatest 0 = .ok (.aload_n 0, 1) := by decide +kernel
theorem dX7_addLatest_1 : decode cX7_addLatest 1 = .ok (.getfield 25, 3) := by decide +kernel
theorem dX7_addLatest_4 : decode cX7_addLatest 4 = .ok (.aload_n 0, 1) := by decide +kernel
theorem dX7_addLatest_5 : decode cX7_addLatest 5 = .ok (.getfield 21, 3) := by decide +kernel
theorem dX7_addLatest_8 : decode cX7_addLatest 8 = .ok (.if_icmp .lt 7, 3) := by decide +kernel
theorem dX7_addLatest_11 : decode cX7_addLatest 11 = .ok (.aload_n 0, 1) := by decide +kernel
theorem dX7_addLatest_12 : decode cX7_addLatest 12 = .ok (.invokevirtual 28, 3) := by decide +kernel
theorem dX7_addLatest_15 : decode cX7_addLatest 15 = .ok (.aload_n 0, 1) := by decide +kernel
theorem dX7_addLatest_16 : decode cX7_addLatest 16 = .ok (.getfield 9, 3) := by decide +kernel
theorem dX7_addLatest_19 : decode cX7_addLatest 19 = .ok (.aload_n 0, 1) := by decide +kernel
theorem dX7_addLatest_20 : decode cX7_addLatest 20 = .ok (.getfield 25, 3) := by decide +kernel
theorem dX7_addLatest_23 : decode cX7_addLatest 23 = .ok (.aload_n 1, 1) := by decide +kernel
theorem dX7_addLatest_24 : decode cX7_addLatest 24 = .ok (.getfield 31, 3) := by decide +kernel
theorem dX7_addLatest_27 : decode cX7_addLatest 27 = .ok (.invokestatic 36, 3) := by decide +kernel
theorem dX7_addLatest_30 : decode cX7_addLatest 30 = .ok (.aload_n 0, 1) := by decide +kernel
theorem dX7_addLatest_31 : decode cX7_addLatest 31 = .ok (.getfield 15, 3) := by decide +kernel
theorem dX7_addLatest_34 : decode cX7_addLatest 34 = .ok (.aload_n 0, 1) := by decide +kernel
theorem dX7_addLatest_35 : decode cX7_addLatest 35 = .ok (.getfield 25, 3) := by decide +kernel
theorem dX7_addLatest_38 : decode cX7_addLatest 38 = .ok (.aload_n 1, 1) := by decide +kernel
theorem dX7_addLatest_39 : decode cX7_addLatest 39 = .ok (.getfield 40, 3) := by decide +kernel
theorem dX7_addLatest_42 : decode cX7_addLatest 42 = .ok (.invokestatic 36, 3) := by decide +kernel
theorem dX7_addLatest_45 : decode cX7_addLatest 45 = .ok (.aload_n 0, 1) := by decide +kernel
theorem dX7_addLatest_46 : decode cX7_addLatest 46 = .ok (.getfield 18, 3) := by decide +kernel
theorem dX7_addLatest_49 : decode cX7_addLatest 49 = .ok (.aload_n 0, 1) := by decide +kernel
theorem dX7_addLatest_50 : decode cX7_addLatest 50 = .ok (.getfield 25, 3) := by decide +kernel
theorem dX7_addLatest_53 : decode cX7_addLatest 53 = .ok (.aload_n 1, 1) := by decide +kernel
theorem dX7_addLatest_54 : decode cX7_addLatest 54 = .ok (.getfield 43, 3) := by decide +kernel
theorem dX7_addLatest_57 : decode cX7_addLatest 57 = .ok (.invokestatic 36, 3) := by decide +kernel
theorem dX7_addLatest_60 : decode cX7_addLatest 60 = .ok (.aload_n 0, 1) := by decide +kernel
theorem dX7_addLatest_61 : decode cX7_addLatest 61 = .ok (.dup, 1) := by decide +kernel
theorem dX7_addLatest_62 : decode cX7_addLatest 62 = .ok (.getfield 25, 3) := by decide +kernel
theorem dX7_addLatest_65 : decode cX7_addLatest 65 = .ok (.iconst 1, 1) := by decide +kernel
theorem dX7_addLatest_66 : decode cX7_addLatest 66 = .ok (.iadd, 1) := by decide +kernel
theorem dX7_addLatest_67 : decode cX7_addLatest 67 = .ok (.putfield 25, 3) := by decide +kernel
theorem dX7_addLatest_70 : decode cX7_addLatest 70 = .ok (.return_, 1) := by decide +kernel
theorem dX7_bringBack_0 : decode cX7_bringBack 0 = .ok (.aload_n 2, 1) := by decide +kernel
theorem dX7_bringBack_1 : decode cX7_bringBack 1 = .ok (.aload_n 0, 1) := by decide +kernel
theorem dX7_bringBack_2 : decode cX7_bringBack 2 = .ok (.getfield 9, 3) := by decide +kernel
theorem dX7_bringBack_5 : decode cX7_bringBack 5 = .ok (.iload_n 1, 1) := by decide +kernel
theorem dX7_bringBack_6 : decode cX7_bringBack 6 = .ok (.invokestatic 46, 3) := by decide +kernel
theorem dX7_bringBack_9 : decode cX7_bringBack 9 = .ok (.aload_n 0, 1) := by decide +kernel
theorem dX7_bringBack_10 : decode cX7_bringBack 10 = .ok (.getfield 15, 3) := by decide +kernel
theorem dX7_bringBack_13 : decode cX7_bringBack 13 = .ok (.iload_n 1, 1) := by decide +kernel
theorem dX7_bringBack_14 : decode cX7_bringBack 14 = .ok (.invokestatic 46, 3) := by decide +kernel
theorem dX7_bringBack_17 : decode cX7_bringBack 17 = .ok (.aload_n 0, 1) := by decide +kernel
theorem dX7_bringBack_18 : decode cX7_bringBack 18 = .ok (.getfield 18, 3) := by decide +kernel
theorem dX7_bringBack_21 : decode cX7_bringBack 21 = .ok (.iload_n 1, 1) := by decide +kernel
theorem dX7_bringBack_22 : decode cX7_bringBack 22 = .ok (.invokestatic 46, 3) := by decide +kernel
theorem dX7_bringBack_25 : decode cX7_bringBack 25 = .ok (.invokevirtual 50, 3) := by decide +kernel
theorem dX7_bringBack_28 : decode cX7_bringBack 28 = .ok (.return_, 1) := by decide +kernel
theorem dX7_dropFirst_0 : decode cX7_dropFirst 0 = .ok (.iconst 1, 1) := by decide +kernel
theorem dX7_dropFirst_1 : decode cX7_dropFirst 1 = .ok (.istore_n 1, 1) := by decide +kernel
theorem dX7_dropFirst_2 : decode cX7_dropFirst 2 = .ok (.iload_n 1, 1) := by decide +kernel
theorem dX7_dropFirst_3 : decode cX7_dropFirst 3 = .ok (.aload_n 0, 1) := by decide +kernel
theorem dX7_dropFirst_4 : decode cX7_dropFirst 4 = .ok (.getfield 25, 3) := by decide +kernel
theorem dX7_dropFirst_7 : decode cX7_dropFirst 7 = .ok (.if_icmp .ge 57, 3) := by decide +kernel
theorem dX7_dropFirst_10 : decode cX7_dropFirst 10 = .ok (.iload_n 1, 1) := by decide +kernel
theorem dX7_dropFirst_11 : decode cX7_dropFirst 11 = .ok (.bipush 16, 2) := by decide +kernel
theorem dX7_dropFirst_13 : decode cX7_dropFirst 13 = .ok (.if_icmp .ge 51, 3) := by decide +kernel
theorem dX7_dropFirst_16 : decode cX7_dropFirst 16 = .ok (.aload_n 0, 1) := by decide +kernel
theorem dX7_dropFirst_17 : decode cX7_dropFirst 17 = .ok (.getfield 9, 3) := by decide +kernel
theorem dX7_dropFirst_20 : decode cX7_dropFirst 20 = .ok (.iload_n 1, 1) := by decide +kernel
theorem dX7_dropFirst_21 : decode cX7_dropFirst 21 = .ok (.iconst 1, 1) := by decide +kernel
theorem dX7_dropFirst_22 : decode cX7_dropFirst 22 = .ok (.isub, 1) := by decide +kernel
theorem dX7_dropFirst_23 : decode cX7_dropFirst 23 = .ok (.aload_n 0, 1) := by decide +kernel
theorem dX7_dropFirst_24 : decode cX7_dropFirst 24 = .ok (.getfield 9, 3) := by decide +kernel
theorem dX7_dropFirst_27 : decode cX7_dropFirst 27 = .ok (.iload_n 1, 1) := by decide +kernel
theorem dX7_dropFirst_28 : decode cX7_dropFirst 28 = .ok (.iaload, 1) := by decide +kernel
theorem dX7_dropFirst_29 : decode cX7_dropFirst 29 = .ok (.iastore, 1) := by decide +kernel
theorem dX7_dropFirst_30 : decode cX7_dropFirst 30 = .ok (.aload_n 0, 1) := by decide +kernel
theorem dX7_dropFirst_31 : decode cX7_dropFirst 31 = .ok (.getfield 15, 3) := by decide +kernel
theorem dX7_dropFirst_34 : decode cX7_dropFirst 34 = .ok (.iload_n 1, 1) := by decide +kernel
theorem dX7_dropFirst_35 : decode cX7_dropFirst 35 = .ok (.iconst 1, 1) := by decide +kernel
theorem dX7_dropFirst_36 : decode cX7_dropFirst 36 = .ok (.isub, 1) := by decide +kernel
theorem dX7_dropFirst_37 : decode cX7_dropFirst 37 = .ok (.aload_n 0, 1) := by decide +kernel
theorem dX7_dropFirst_38 : decode cX7_dropFirst 38 = .ok (.getfield 15, 3) := by decide +kernel
theorem dX7_dropFirst_41 : decode cX7_dropFirst 41 = .ok (.iload_n 1, 1) := by decide +kernel
theorem dX7_dropFirst_42 : decode cX7_dropFirst 42 = .ok (.iaload, 1) := by decide +kernel
theorem dX7_dropFirst_43 : decode cX7_dropFirst 43 = .ok (.iastore, 1) := by decide +kernel
theorem dX7_dropFirst_44 : decode cX7_dropFirst 44 = .ok (.aload_n 0, 1) := by decide +kernel
theorem dX7_dropFirst_45 : decode cX7_dropFirst 45 = .ok (.getfield 18, 3) := by decide +kernel
theorem dX7_dropFirst_48 : decode cX7_dropFirst 48 = .ok (.iload_n 1, 1) := by decide +kernel
theorem dX7_dropFirst_49 : decode cX7_dropFirst 49 = .ok (.iconst 1, 1) := by decide +kernel
theorem dX7_dropFirst_50 : decode cX7_dropFirst 50 = .ok (.isub, 1) := by decide +kernel
theorem dX7_dropFirst_51 : decode cX7_dropFirst 51 = .ok (.aload_n 0, 1) := by decide +kernel
theorem dX7_dropFirst_52 : decode cX7_dropFirst 52 = .ok (.getfield 18, 3) := by decide +kernel
theorem dX7_dropFirst_55 : decode cX7_dropFirst 55 = .ok (.iload_n 1, 1) := by decide +kernel
theorem dX7_dropFirst_56 : decode cX7_dropFirst 56 = .ok (.iaload, 1) := by decide +kernel
theorem dX7_dropFirst_57 : decode cX7_dropFirst 57 = .ok (.iastore, 1) := by decide +kernel
theorem dX7_dropFirst_58 : decode cX7_dropFirst 58 = .ok (.iinc 1 1, 3) := by decide +kernel
theorem dX7_dropFirst_61 : decode cX7_dropFirst 61 = .ok (.goto (-59), 3) := by decide +kernel
theorem dX7_dropFirst_64 : decode cX7_dropFirst 64 = .ok (.aload_n 0, 1) := by decide +kernel
theorem dX7_dropFirst_65 : decode cX7_dropFirst 65 = .ok (.dup, 1) := by decide +kernel
theorem dX7_dropFirst_66 : decode cX7_dropFirst 66 = .ok (.getfield 25, 3) := by decide +kernel
theorem dX7_dropFirst_69 : decode cX7_dropFirst 69 = .ok (.iconst 1, 1) := by decide +kernel
theorem dX7_dropFirst_70 : decode cX7_dropFirst 70 = .ok (.isub, 1) := by decide +kernel
theorem dX7_dropFirst_71 : decode cX7_dropFirst 71 = .ok (.putfield 25, 3) := by decide +kernel
theorem dX7_dropFirst_74 : decode cX7_dropFirst 74 = .ok (.return_, 1) := by decide +kernel
theorem dX8_init_0 : decode cX8_init 0 = .ok (.aload_n 0, 1) := by decide +kernel
theorem dX8_init_1 : decode cX8_init 1 = .ok (.invokespecial 3, 3) := by decide +kernel
theorem dX8_init_4 : decode cX8_init 4 = .ok (.return_, 1) := by decide +kernel
theorem dX8_forget_0 : decode cX8_forget 0 = .ok (.aload_n 0, 1) := by decide +kernel
theorem dX8_forget_1 : decode cX8_forget 1 = .ok (.iconst 0, 1) := by decide +kernel
theorem dX8_forget_2 : decode cX8_forget 2 = .ok (.putfield 9, 3) := by decide +kernel
theorem dX8_forget_5 : decode cX8_forget 5 = .ok (.return_, 1) := by decide +kernel
theorem dX8_make_0 : decode cX8_make 0 = .ok (.aload_n 0, 1) := by decide +kernel
theorem dX8_make_1 : decode cX8_make 1 = .ok (.getfield 9, 3) := by decide +kernel
theorem dX8_make_4 : decode cX8_make 4 = .ok (.ifCond .eq 4, 3) := by decide +kernel
theorem dX8_make_7 : decode cX8_make 7 = .ok (.return_, 1) := by decide +kernel
theorem dX8_make_8 : decode cX8_make 8 = .ok (.aload_n 0, 1) := by decide +kernel
theorem dX8_make_9 : decode cX8_make 9 = .ok (.iconst 1, 1) := by decide +kernel
theorem dX8_make_10 : decode cX8_make 10 = .ok (.putfield 9, 3) := by decide +kernel
theorem dX8_make_13 : decode cX8_make 13 = .ok (.aload_n 0, 1) := by decide +kernel
theorem dX8_make_14 : decode cX8_make 14 = .ok (.iconst (-1), 1) := by decide +kernel
theorem dX8_make_15 : decode cX8_make 15 = .ok (.putfield 15, 3) := by decide +kernel
theorem dX8_make_18 : decode cX8_make 18 = .ok (.aload_n 0, 1) := by decide +kernel
theorem dX8_make_19 : decode cX8_make 19 = .ok (.iconst 0, 1) := by decide +kernel
theorem dX8_make_20 : decode cX8_make 20 = .ok (.putfield 19, 3) := by decide +kernel
theorem dX8_make_23 : decode cX8_make 23 = .ok (.aload_n 0, 1) := by decide +kernel
theorem dX8_make_24 : decode cX8_make 24 = .ok (.aload_n 1, 1) := by decide +kernel
theorem dX8_make_25 : decode cX8_make 25 = .ok (.getfield 22, 3) := by decide +kernel
theorem dX8_make_28 : decode cX8_make 28 = .ok (.putfield 27, 3) := by decide +kernel
theorem dX8_make_31 : decode cX8_make 31 = .ok (.aload_n 0, 1) := by decide +kernel
theorem dX8_make_32 : decode cX8_make 32 = .ok (.iconst (-1), 1) := by decide +kernel
theorem dX8_make_33 : decode cX8_make 33 = .ok (.putfield 30, 3) := by decide +kernel
theorem dX8_make_36 : decode cX8_make 36 = .ok (.iconst 0, 1) := by decide +kernel
theorem dX8_make_37 : decode cX8_make 37 = .ok (.istore_n 2, 1) := by decide +kernel
theorem dX8_make_38 : decode cX8_make 38 = .ok (.iload_n 2, 1) := by decide +kernel
theorem dX8_make_39 : decode cX8_make 39 = .ok (.aload_n 1, 1) := by decide +kernel
theorem dX8_make_40 : decode cX8_make 40 = .ok (.getfield 33, 3) := by decide +kernel
theorem dX8_make_43 : decode cX8_make 43 = .ok (.invokestatic 36, 3) := by decide +kernel
theorem dX8_make_46 : decode cX8_make 46 = .ok (.if_icmp .ge 32, 3) := by decide +kernel
theorem dX8_make_49 : decode cX8_make 49 = .ok (.iload_n 2, 1) := by decide +kernel
theorem dX8_make_50 : decode cX8_make 50 = .ok (.aload_n 1, 1) := by decide +kernel
theorem dX8_make_51 : decode cX8_make 51 = .ok (.getfield 33, 3) := by decide +kernel
theorem dX8_make_54 : decode cX8_make 54 = .ok (.invokestatic 42, 3) := by decide +kernel
theorem dX8_make_57 : decode cX8_make 57 = .ok (.istore_n 3, 1) := by decide +kernel
theorem dX8_make_58 : decode cX8_make 58 = .ok (.aload_n 1, 1) := by decide +kernel
theorem dX8_make_59 : decode cX8_make 59 = .ok (.iload_n 3, 1) := by decide +kernel
theorem dX8_make_60 : decode cX8_make 60 = .ok (.invokevirtual 46, 3) := by decide +kernel
theorem dX8_make_63 : decode cX8_make 63 = .ok (.ifCond .eq 9, 3) := by decide +kernel
theorem dX8_make_66 : decode cX8_make 66 = .ok (.aload_n 0, 1) := by decide +kernel
theorem dX8_make_67 : decode cX8_make 67 = .ok (.aload_n 1, 1) := by decide +kernel
theorem dX8_make_68 : decode cX8_make 68 = .ok (.iload_n 3, 1) := by decide +kernel
theorem dX8_make_69 : decode cX8_make 69 = .ok (.invokevirtual 50, 3) := by decide +kernel
theorem dX8_make_72 : decode cX8_make 72 = .ok (.iinc 2 1, 3) := by decide +kernel
theorem dX8_make_75 : decode cX8_make 75 = .ok (.goto (-37), 3) := by decide +kernel
theorem dX8_make_78 : decode cX8_make 78 = .ok (.return_, 1) := by decide +kernel
theorem dX8_lookAt_0 : decode cX8_lookAt 0 = .ok (.aload_n 1, 1) := by decide +kernel
theorem dX8_lookAt_1 : decode cX8_lookAt 1 = .ok (.iload_n 2, 1) := by decide +kernel
theorem dX8_lookAt_2 : decode cX8_lookAt 2 = .ok (.invokevirtual 54, 3) := by decide +kernel
theorem dX8_lookAt_5 : decode cX8_lookAt 5 = .ok (.istore_n 3, 1) := by decide +kernel
theorem dX8_lookAt_6 : decode cX8_lookAt 6 = .ok (.iload_n 3, 1) := by decide +kernel
theorem dX8_lookAt_7 : decode cX8_lookAt 7 = .ok (.ifCond .le 30, 3) := by decide +kernel
theorem dX8_lookAt_10 : decode cX8_lookAt 10 = .ok (.aload_n 0, 1) := by decide +kernel
theorem dX8_lookAt_11 : decode cX8_lookAt 11 = .ok (.getfield 15, 3) := by decide +kernel
theorem dX8_lookAt_14 : decode cX8_lookAt 14 = .ok (.iconst (-1), 1) := by decide +kernel
theorem dX8_lookAt_15 : decode cX8_lookAt 15 = .ok (.if_icmp .eq 17, 3) := by decide +kernel
theorem dX8_lookAt_18 : decode cX8_lookAt 18 = .ok (.iload_n 2, 1) := by decide +kernel
theorem dX8_lookAt_19 : decode cX8_lookAt 19 = .ok (.invokestatic 57, 3) := by decide +kernel
theorem dX8_lookAt_22 : decode cX8_lookAt 22 = .ok (.aload_n 0, 1) := by decide +kernel
theorem dX8_lookAt_23 : decode cX8_lookAt 23 = .ok (.getfield 15, 3) := by decide +kernel
theorem dX8_lookAt_26 : decode cX8_lookAt 26 = .ok (.invokestatic 57, 3) := by decide +kernel
theorem dX8_lookAt_29 : decode cX8_lookAt 29 = .ok (.if_icmp .ge 8, 3) := by decide +kernel
theorem dX8_lookAt_32 : decode cX8_lookAt 32 = .ok (.aload_n 0, 1) := by decide +kernel
theorem dX8_lookAt_33 : decode cX8_lookAt 33 = .ok (.iload_n 2, 1) := by decide +kernel
theorem dX8_lookAt_34 : decode cX8_lookAt 34 = .ok (.putfield 15, 3) := by decide +kernel
theorem dX8_lookAt_37 : decode cX8_lookAt 37 = .ok (.iload_n 3, 1) := by decide +kernel
theorem dX8_lookAt_38 : decode cX8_lookAt 38 = .ok (.aload_n 0, 1) := by decide +kernel
theorem dX8_lookAt_39 : decode cX8_lookAt 39 = .ok (.getfield 30, 3) := by decide +kernel
theorem dX8_lookAt_42 : decode cX8_lookAt 42 = .ok (.if_icmp .le 13, 3) := by decide +kernel
theorem dX8_lookAt_45 : decode cX8_lookAt 45 = .ok (.aload_n 0, 1) := by decide +kernel
theorem dX8_lookAt_46 : decode cX8_lookAt 46 = .ok (.iload_n 3, 1) := by decide +kernel
theorem dX8_lookAt_47 : decode cX8_lookAt 47 = .ok (.putfield 30, 3) := by decide +kernel
theorem dX8_lookAt_50 : decode cX8_lookAt 50 = .ok (.aload_n 0, 1) := by decide +kernel
theorem dX8_lookAt_51 : decode cX8_lookAt 51 = .ok (.iload_n 2, 1) := by decide +kernel
theorem dX8_lookAt_52 : decode cX8_lookAt 52 = .ok (.putfield 27, 3) := by decide +kernel
theorem dX8_lookAt_55 : decode cX8_lookAt 55 = .ok (.aload_n 1, 1) := by decide +kernel
theorem dX8_lookAt_56 : decode cX8_lookAt 56 = .ok (.iload_n 2, 1) := by decide +kernel
theorem dX8_lookAt_57 : decode cX8_lookAt 57 = .ok (.invokevirtual 60, 3) := by decide +kernel
theorem dX8_lookAt_60 : decode cX8_lookAt 60 = .ok (.ifCond .eq 13, 3) := by decide +kernel
theorem dX8_lookAt_63 : decode cX8_lookAt 63 = .ok (.aload_n 0, 1) := by decide +kernel
theorem dX8_lookAt_64 : decode cX8_lookAt 64 = .ok (.dup, 1) := by decide +kernel
theorem dX8_lookAt_65 : decode cX8_lookAt 65 = .ok (.getfield 19, 3) := by decide +kernel
theorem dX8_lookAt_68 : decode cX8_lookAt 68 = .ok (.iconst 1, 1) := by decide +kernel
theorem dX8_lookAt_69 : decode cX8_lookAt 69 = .ok (.iadd, 1) := by decide +kernel
theorem dX8_lookAt_70 : decode cX8_lookAt 70 = .ok (.putfield 19, 3) := by decide +kernel
theorem dX8_lookAt_73 : decode cX8_lookAt 73 = .ok (.return_, 1) := by decide +kernel
theorem dX9_init_0 : decode cX9_init 0 = .ok (.aload_n 0, 1) := by decide +kernel
theorem dX9_init_1 : decode cX9_init 1 = .ok (.invokespecial 3, 3) := by decide +kernel
theorem dX9_init_4 : decode cX9_init 4 = .ok (.aload_n 0, 1) := by decide +kernel
theorem dX9_init_5 : decode cX9_init 5 = .ok (.sipush 900, 3) := by decide +kernel
theorem dX9_init_8 : decode cX9_init 8 = .ok (.newarray .byte, 2) := by decide +kernel
theorem dX9_init_10 : decode cX9_init 10 = .ok (.putfield 9, 3) := by decide +kernel
theorem dX9_init_13 : decode cX9_init 13 = .ok (.return_, 1) := by decide +kernel
theorem dX9_hasRoomForFive_0 : decode cX9_hasRoomForFive 0 = .ok (.aload_n 0, 1) := by decide +kernel
theorem dX9_hasRoomForFive_1 : decode cX9_hasRoomForFive 1 = .ok (.getfield 15, 3) := by decide +kernel
theorem dX9_hasRoomForFive_4 : decode cX9_hasRoomForFive 4 = .ok (.bipush 20, 2) := by decide +kernel
theorem dX9_hasRoomForFive_6 : decode cX9_hasRoomForFive 6 = .ok (.iadd, 1) := by decide +kernel
theorem dX9_hasRoomForFive_7 : decode cX9_hasRoomForFive 7 = .ok (.sipush 900, 3) := by decide +kernel
theorem dX9_hasRoomForFive_10 : decode cX9_hasRoomForFive 10 = .ok (.if_icmp .gt 7, 3) := by decide +kernel
theorem dX9_hasRoomForFive_13 : decode cX9_hasRoomForFive 13 = .ok (.iconst 1, 1) := by decide +kernel
theorem dX9_hasRoomForFive_14 : decode cX9_hasRoomForFive 14 = .ok (.goto 4, 3) := by decide +kernel
theorem dX9_hasRoomForFive_17 : decode cX9_hasRoomForFive 17 = .ok (.iconst 0, 1) := by decide +kernel
theorem dX9_hasRoomForFive_18 : decode cX9_hasRoomForFive 18 = .ok (.ireturn, 1) := by decide +kernel
theorem dX9_addNumber_0 : decode cX9_addNumber 0 = .ok (.bipush 24, 2) := by decide +kernel
theorem dX9_addNumber_2 : decode cX9_addNumber 2 = .ok (.istore_n 2, 1) := by decide +kernel
theorem dX9_addNumber_3 : decode cX9_addNumber 3 = .ok (.iload_n 2, 1) := by decide +kernel
theorem dX9_addNumber_4 : decode cX9_addNumber 4 = .ok (.ifCond .lt 51, 3) := by decide +kernel
theorem dX9_addNumber_7 : decode cX9_addNumber 7 = .ok (.aload_n 0, 1) := by decide +kernel
theorem dX9_addNumber_8 : decode cX9_addNumber 8 = .ok (.getfield 15, 3) := by decide +kernel
theorem dX9_addNumber_11 : decode cX9_addNumber 11 = .ok (.ifCond .lt 38, 3) := by decide +kernel
theorem dX9_addNumber_14 : decode cX9_addNumber 14 = .ok (.aload_n 0, 1) := by decide +kernel
theorem dX9_addNumber_15 : decode cX9_addNumber 15 = .ok (.getfield 15, 3) := by decide +kernel
theorem dX9_addNumber_18 : decode cX9_addNumber 18 = .ok (.aload_n 0, 1) := by decide +kernel
theorem dX9_addNumber_19 : decode cX9_addNumber 19 = .ok (.getfield 9, 3) := by decide +kernel
theorem dX9_addNumber_22 : decode cX9_addNumber 22 = .ok (.arraylength, 1) := by decide +kernel
theorem dX9_addNumber_23 : decode cX9_addNumber 23 = .ok (.if_icmp .ge 26, 3) := by decide +kernel
theorem dX9_addNumber_26 : decode cX9_addNumber 26 = .ok (.aload_n 0, 1) := by decide +kernel
theorem dX9_addNumber_27 : decode cX9_addNumber 27 = .ok (.getfield 9, 3) := by decide +kernel
theorem dX9_addNumber_30 : decode cX9_addNumber 30 = .ok (.aload_n 0, 1) := by decide +kernel
theorem dX9_addNumber_31 : decode cX9_addNumber 31 = .ok (.getfield 15, 3) := by decide +kernel
theorem dX9_addNumber_34 : decode cX9_addNumber 34 = .ok (.iload_n 1, 1) := by decide +kernel
theorem dX9_addNumber_35 : decode cX9_addNumber 35 = .ok (.iload_n 2, 1) := by decide +kernel
theorem dX9_addNumber_36 : decode cX9_addNumber 36 = .ok (.ishr, 1) := by decide +kernel
theorem dX9_addNumber_37 : decode cX9_addNumber 37 = .ok (.i2b, 1) := by decide +kernel
theorem dX9_addNumber_38 : decode cX9_addNumber 38 = .ok (.bastore, 1) := by decide +kernel
theorem dX9_addNumber_39 : decode cX9_addNumber 39 = .ok (.aload_n 0, 1) := by decide +kernel
theorem dX9_addNumber_40 : decode cX9_addNumber 40 = .ok (.dup, 1) := by decide +kernel
theorem dX9_addNumber_41 : decode cX9_addNumber 41 = .ok (.getfield 15, 3) := by decide +kernel
theorem dX9_addNumber_44 : decode cX9_addNumber 44 = .ok (.iconst 1, 1) := by decide +kernel
theorem dX9_addNumber_45 : decode cX9_addNumber 45 = .ok (.iadd, 1) := by decide +kernel
theorem dX9_addNumber_46 : decode cX9_addNumber 46 = .ok (.putfield 15, 3) := by decide +kernel
theorem dX9_addNumber_49 : decode cX9_addNumber 49 = .ok (.iinc 2 (-8), 3) := by decide +kernel
theorem dX9_addNumber_52 : decode cX9_addNumber 52 = .ok (.goto (-49), 3) := by decide +kernel
theorem dX9_addNumber_55 : decode cX9_addNumber 55 = .ok (.return_, 1) := by decide +kernel
theorem dX9_startReading_0 : decode cX9_startReading 0 = .ok (.aload_n 0, 1) := by decide +kernel
theorem dX9_startReading_1 : decode cX9_startReading 1 = .ok (.iload_n 1, 1) := by decide +kernel
theorem dX9_startReading_2 : decode cX9_startReading 2 = .ok (.putfield 19, 3) := by decide +kernel
theorem dX9_startReading_5 : decode cX9_startReading 5 = .ok (.aload_n 0, 1) := by decide +kernel
theorem dX9_startReading_6 : decode cX9_startReading 6 = .ok (.iconst 0, 1) := by decide +kernel
theorem dX9_startReading_7 : decode cX9_startReading 7 = .ok (.putfield 22, 3) := by decide +kernel
theorem dX9_startReading_10 : decode cX9_startReading 10 = .ok (.aload_n 0, 1) := by decide +kernel
theorem dX9_startReading_11 : decode cX9_startReading 11 = .ok (.invokevirtual 25, 3) := by decide +kernel
theorem dX9_startReading_14 : decode cX9_startReading 14 = .ok (.return_, 1) := by decide +kernel
theorem dX9_advance_0 : decode cX9_advance 0 = .ok (.aload_n 0, 1) := by decide +kernel
theorem dX9_advance_1 : decode cX9_advance 1 = .ok (.getfield 22, 3) := by decide +kernel
theorem dX9_advance_4 : decode cX9_advance 4 = .ok (.aload_n 0, 1) := by decide +kernel
theorem dX9_advance_5 : decode cX9_advance 5 = .ok (.getfield 19, 3) := by decide +kernel
theorem dX9_advance_8 : decode cX9_advance 8 = .ok (.if_icmp .ge 29, 3) := by decide +kernel
theorem dX9_advance_11 : decode cX9_advance 11 = .ok (.aload_n 0, 1) := by decide +kernel
theorem dX9_advance_12 : decode cX9_advance 12 = .ok (.aload_n 0, 1) := by decide +kernel
theorem dX9_advance_13 : decode cX9_advance 13 = .ok (.getfield 22, 3) := by decide +kernel
theorem dX9_advance_16 : decode cX9_advance 16 = .ok (.invokevirtual 28, 3) := by decide +kernel
theorem dX9_advance_19 : decode cX9_advance 19 = .ok (.bipush 32, 2) := by decide +kernel
theorem dX9_advance_21 : decode cX9_advance 21 = .ok (.if_icmp .ne 16, 3) := by decide +kernel
theorem dX9_advance_24 : decode cX9_advance 24 = .ok (.aload_n 0, 1) := by decide +kernel
theorem dX9_advance_25 : decode cX9_advance 25 = .ok (.dup, 1) := by decide +kernel
theorem dX9_advance_26 : decode cX9_advance 26 = .ok (.getfield 22, 3) := by decide +kernel
theorem dX9_advance_29 : decode cX9_advance 29 = .ok (.iconst 1, 1) := by decide +kernel
theorem dX9_advance_30 : decode cX9_advance 30 = .ok (.iadd, 1) := by decide +kernel
theorem dX9_advance_31 : decode cX9_advance 31 = .ok (.putfield 22, 3) := by decide +kernel
theorem dX9_advance_34 : decode cX9_advance 34 = .ok (.goto (-34), 3) := by decide +kernel
theorem dX9_advance_37 : decode cX9_advance 37 = .ok (.aload_n 0, 1) := by decide +kernel
theorem dX9_advance_38 : decode cX9_advance 38 = .ok (.aload_n 0, 1) := by decide +kernel
theorem dX9_advance_39 : decode cX9_advance 39 = .ok (.getfield 22, 3) := by decide +kernel
theorem dX9_advance_42 : decode cX9_advance 42 = .ok (.putfield 32, 3) := by decide +kernel
theorem dX9_advance_45 : decode cX9_advance 45 = .ok (.aload_n 0, 1) := by decide +kernel
theorem dX9_advance_46 : decode cX9_advance 46 = .ok (.aload_n 0, 1) := by decide +kernel
theorem dX9_advance_47 : decode cX9_advance 47 = .ok (.getfield 32, 3) := by decide +kernel
theorem dX9_advance_50 : decode cX9_advance 50 = .ok (.invokevirtual 28, 3) := by decide +kernel
theorem dX9_advance_53 : decode cX9_advance 53 = .ok (.istore_n 1, 1) := by decide +kernel
theorem dX9_advance_54 : decode cX9_advance 54 = .ok (.aload_n 0, 1) := by decide +kernel
theorem dX9_advance_55 : decode cX9_advance 55 = .ok (.getfield 32, 3) := by decide +kernel
theorem dX9_advance_58 : decode cX9_advance 58 = .ok (.aload_n 0, 1) := by decide +kernel
theorem dX9_advance_59 : decode cX9_advance 59 = .ok (.getfield 19, 3) := by decide +kernel
theorem dX9_advance_62 : decode cX9_advance 62 = .ok (.if_icmp .lt 11, 3) := by decide +kernel
theorem dX9_advance_65 : decode cX9_advance 65 = .ok (.aload_n 0, 1) := by decide +kernel
theorem dX9_advance_66 : decode cX9_advance 66 = .ok (.iconst 0, 1) := by decide +kernel
theorem dX9_advance_67 : decode cX9_advance 67 = .ok (.putfield 35, 3) := by decide +kernel
theorem dX9_advance_70 : decode cX9_advance 70 = .ok (.goto 66, 3) := by decide +kernel
theorem dX9_advance_73 : decode cX9_advance 73 = .ok (.iload_n 1, 1) := by decide +kernel
theorem dX9_advance_74 : decode cX9_advance 74 = .ok (.invokestatic 38, 3) := by decide +kernel
theorem dX9_advance_77 : decode cX9_advance 77 = .ok (.ifCond .eq 10, 3) := by decide +kernel
theorem dX9_advance_80 : decode cX9_advance 80 = .ok (.aload_n 0, 1) := by decide +kernel
theorem dX9_advance_81 : decode cX9_advance 81 = .ok (.invokevirtual 42, 3) := by decide +kernel
theorem dX9_advance_84 : decode cX9_advance 84 = .ok (.goto 52, 3) := by decide +kernel
theorem dX9_advance_87 : decode cX9_advance 87 = .ok (.iload_n 1, 1) := by decide +kernel
theorem dX9_advance_88 : decode cX9_advance 88 = .ok (.invokestatic 45, 3) := by decide +kernel
theorem dX9_advance_91 : decode cX9_advance 91 = .ok (.ifCond .eq 10, 3) := by decide +kernel
theorem dX9_advance_94 : decode cX9_advance 94 = .ok (.aload_n 0, 1) := by decide +kernel
theorem dX9_advance_95 : decode cX9_advance 95 = .ok (.invokevirtual 48, 3) := by decide +kernel
theorem dX9_advance_98 : decode cX9_advance 98 = .ok (.goto 38, 3) := by decide +kernel
theorem dX9_advance_101 : decode cX9_advance 101 = .ok (.aload_n 0, 1) := by decide +kernel
theorem dX9_advance_102 : decode cX9_advance 102 = .ok (.iload_n 1, 1) := by decide +kernel
theorem dX9_advance_103 : decode cX9_advance 103 = .ok (.bipush 59, 2) := by decide +kernel
theorem dX9_advance_105 : decode cX9_advance 105 = .ok (.if_icmp .ne 7, 3) := by decide +kernel
theorem dX9_advance_108 : decode cX9_advance 108 = .ok (.iconst 3, 1) := by decide +kernel
theorem dX9_advance_109 : decode cX9_advance 109 = .ok (.goto 14, 3) := by decide +kernel
theorem dX9_advance_112 : decode cX9_advance 112 = .ok (.iload_n 1, 1) := by decide +kernel
theorem dX9_advance_113 : decode cX9_advance 113 = .ok (.bipush 44, 2) := by decide +kernel
theorem dX9_advance_115 : decode cX9_advance 115 = .ok (.if_icmp .ne 7, 3) := by decide +kernel
theorem dX9_advance_118 : decode cX9_advance 118 = .ok (.iconst 4, 1) := by decide +kernel
theorem dX9_advance_119 : decode cX9_advance 119 = .ok (.goto 4, 3) := by decide +kernel
theorem dX9_advance_122 : decode cX9_advance 122 = .ok (.iconst 5, 1) := by decide +kernel
theorem dX9_advance_123 : decode cX9_advance 123 = .ok (.putfield 35, 3) := by decide +kernel
theorem dX9_advance_126 : decode cX9_advance 126 = .ok (.aload_n 0, 1) := by decide +kernel
theorem dX9_advance_127 : decode cX9_advance 127 = .ok (.dup, 1) := by decide +kernel
theorem dX9_advance_128 : decode cX9_advance 128 = .ok (.getfield 22, 3) := by decide +kernel
theorem dX9_advance_131 : decode cX9_advance 131 = .ok (.iconst 1, 1) := by decide +kernel
theorem dX9_advance_132 : decode cX9_advance 132 = .ok (.iadd, 1) := by decide +kernel
theorem dX9_advance_133 : decode cX9_advance 133 = .ok (.putfield 22, 3) := by decide +kernel
theorem dX9_advance_136 : decode cX9_advance 136 = .ok (.return_, 1) := by decide +kernel
theorem dX9_scanWord_0 : decode cX9_scanWord 0 = .ok (.aload_n 0, 1) := by decide +kernel
theorem dX9_scanWord_1 : decode cX9_scanWord 1 = .ok (.lconst 0, 1) := by decide +kernel
theorem dX9_scanWord_2 : decode cX9_scanWord 2 = .ok (.putfield 51, 3) := by decide +kernel
theorem dX9_scanWord_5 : decode cX9_scanWord 5 = .ok (.aload_n 0, 1) := by decide +kernel
theorem dX9_scanWord_6 : decode cX9_scanWord 6 = .ok (.getfield 22, 3) := by decide +kernel
theorem dX9_scanWord_9 : decode cX9_scanWord 9 = .ok (.aload_n 0, 1) := by decide +kernel
theorem dX9_scanWord_10 : decode cX9_scanWord 10 = .ok (.getfield 19, 3) := by decide +kernel
theorem dX9_scanWord_13 : decode cX9_scanWord 13 = .ok (.if_icmp .ge 55, 3) := by decide +kernel
theorem dX9_scanWord_16 : decode cX9_scanWord 16 = .ok (.aload_n 0, 1) := by decide +kernel
theorem dX9_scanWord_17 : decode cX9_scanWord 17 = .ok (.aload_n 0, 1) := by decide +kernel
theorem dX9_scanWord_18 : decode cX9_scanWord 18 = .ok (.getfield 22, 3) := by decide +kernel
theorem dX9_scanWord_21 : decode cX9_scanWord 21 = .ok (.invokevirtual 28, 3) := by decide +kernel
theorem dX9_scanWord_24 : decode cX9_scanWord 24 = .ok (.invokestatic 38, 3) := by decide +kernel
theorem dX9_scanWord_27 : decode cX9_scanWord 27 = .ok (.ifCond .eq 41, 3) := by decide +kernel
theorem dX9_scanWord_30 : decode cX9_scanWord 30 = .ok (.aload_n 0, 1) := by decide +kernel
theorem dX9_scanWord_31 : decode cX9_scanWord 31 = .ok (.aload_n 0, 1) := by decide +kernel
theorem dX9_scanWord_32 : decode cX9_scanWord 32 = .ok (.getfield 51, 3) := by decide +kernel
theorem dX9_scanWord_35 : decode cX9_scanWord 35 = .ok (.iconst 5, 1) := by decide +kernel
theorem dX9_scanWord_36 : decode cX9_scanWord 36 = .ok (.lshl, 1) := by decide +kernel
theorem dX9_scanWord_37 : decode cX9_scanWord 37 = .ok (.aload_n 0, 1) := by decide +kernel
theorem dX9_scanWord_38 : decode cX9_scanWord 38 = .ok (.aload_n 0, 1) := by decide +kernel
theorem dX9_scanWord_39 : decode cX9_scanWord 39 = .ok (.getfield 22, 3) := by decide +kernel
theorem dX9_scanWord_42 : decode cX9_scanWord 42 = .ok (.invokevirtual 28, 3) := by decide +kernel
theorem dX9_scanWord_45 : decode cX9_scanWord 45 = .ok (.bipush 97, 2) := by decide +kernel
theorem dX9_scanWord_47 : decode cX9_scanWord 47 = .ok (.isub, 1) := by decide +kernel
theorem dX9_scanWord_48 : decode cX9_scanWord 48 = .ok (.iconst 1, 1) := by decide +kernel
theorem dX9_scanWord_49 : decode cX9_scanWord 49 = .ok (.iadd, 1) := by decide +kernel
theorem dX9_scanWord_50 : decode cX9_scanWord 50 = .ok (.i2l, 1) := by decide +kernel
theorem dX9_scanWord_51 : decode cX9_scanWord 51 = .ok (.lor, 1) := by decide +kernel
theorem dX9_scanWord_52 : decode cX9_scanWord 52 = .ok (.putfield 51, 3) := by decide +kernel
theorem dX9_scanWord_55 : decode cX9_scanWord 55 = .ok (.aload_n 0, 1) := by decide +kernel
theorem dX9_scanWord_56 : decode cX9_scanWord 56 = .ok (.dup, 1) := by decide +kernel
theorem dX9_scanWord_57 : decode cX9_scanWord 57 = .ok (.getfield 22, 3) := by decide +kernel
theorem dX9_scanWord_60 : decode cX9_scanWord 60 = .ok (.iconst 1, 1) := by decide +kernel
theorem dX9_scanWord_61 : decode cX9_scanWord 61 = .ok (.iadd, 1) := by decide +kernel
theorem dX9_scanWord_62 : decode cX9_scanWord 62 = .ok (.putfield 22, 3) := by decide +kernel
theorem dX9_scanWord_65 : decode cX9_scanWord 65 = .ok (.goto (-60), 3) := by decide +kernel
theorem dX9_scanWord_68 : decode cX9_scanWord 68 = .ok (.aload_n 0, 1) := by decide +kernel
theorem dX9_scanWord_69 : decode cX9_scanWord 69 = .ok (.aload_n 0, 1) := by decide +kernel
theorem dX9_scanWord_70 : decode cX9_scanWord 70 = .ok (.getfield 22, 3) := by decide +kernel
theorem dX9_scanWord_73 : decode cX9_scanWord 73 = .ok (.aload_n 0, 1) := by decide +kernel
theorem dX9_scanWord_74 : decode cX9_scanWord 74 = .ok (.getfield 32, 3) := by decide +kernel
theorem dX9_scanWord_77 : decode cX9_scanWord 77 = .ok (.isub, 1) := by decide +kernel
theorem dX9_scanWord_78 : decode cX9_scanWord 78 = .ok (.bipush 8, 2) := by decide +kernel
theorem dX9_scanWord_80 : decode cX9_scanWord 80 = .ok (.if_icmp .gt 7, 3) := by decide +kernel
theorem dX9_scanWord_83 : decode cX9_scanWord 83 = .ok (.iconst 1, 1) := by decide +kernel
theorem dX9_scanWord_84 : decode cX9_scanWord 84 = .ok (.goto 4, 3) := by decide +kernel
theorem dX9_scanWord_87 : decode cX9_scanWord 87 = .ok (.iconst 5, 1) := by decide +kernel
theorem dX9_scanWord_88 : decode cX9_scanWord 88 = .ok (.putfield 35, 3) := by decide +kernel
theorem dX9_scanWord_91 : decode cX9_scanWord 91 = .ok (.return_, 1) := by decide +kernel
theorem dX9_scanWhole_0 : decode cX9_scanWhole 0 = .ok (.aload_n 0, 1) := by decide +kernel
theorem dX9_scanWhole_1 : decode cX9_scanWhole 1 = .ok (.iconst 0, 1) := by decide +kernel
theorem dX9_scanWhole_2 : decode cX9_scanWhole 2 = .ok (.putfield 55, 3) := by decide +kernel
theorem dX9_scanWhole_5 : decode cX9_scanWhole 5 = .ok (.aload_n 0, 1) := by decide +kernel
theorem dX9_scanWhole_6 : decode cX9_scanWhole 6 = .ok (.getfield 22, 3) := by decide +kernel
theorem dX9_scanWhole_9 : decode cX9_scanWhole 9 = .ok (.aload_n 0, 1) := by decide +kernel
theorem dX9_scanWhole_10 : decode cX9_scanWhole 10 = .ok (.getfield 19, 3) := by decide +kernel
theorem dX9_scanWhole_13 : decode cX9_scanWhole 13 = .ok (.if_icmp .ge 53, 3) := by decide +kernel
theorem dX9_scanWhole_16 : decode cX9_scanWhole 16 = .ok (.aload_n 0, 1) := by decide +kernel
theorem dX9_scanWhole_17 : decode cX9_scanWhole 17 = .ok (.aload_n 0, 1) := by decide +kernel
theorem dX9_scanWhole_18 : decode cX9_scanWhole 18 = .ok (.getfield 22, 3) := by decide +kernel
theorem dX9_scanWhole_21 : decode cX9_scanWhole 21 = .ok (.invokevirtual 28, 3) := by decide +kernel
theorem dX9_scanWhole_24 : decode cX9_scanWhole 24 = .ok (.invokestatic 45, 3) := by decide +kernel
theorem dX9_scanWhole_27 : decode cX9_scanWhole 27 = .ok (.ifCond .eq 39, 3) := by decide +kernel
theorem dX9_scanWhole_30 : decode cX9_scanWhole 30 = .ok (.aload_n 0, 1) := by decide +kernel
theorem dX9_scanWhole_31 : decode cX9_scanWhole 31 = .ok (.bipush 10, 2) := by decide +kernel
theorem dX9_scanWhole_33 : decode cX9_scanWhole 33 = .ok (.aload_n 0, 1) := by decide +kernel
theorem dX9_scanWhole_34 : decode cX9_scanWhole 34 = .ok (.getfield 55, 3) := by decide +kernel
theorem dX9_scanWhole_37 : decode cX9_scanWhole 37 = .ok (.imul, 1) := by decide +kernel
theorem dX9_scanWhole_38 : decode cX9_scanWhole 38 = .ok (.aload_n 0, 1) := by decide +kernel
theorem dX9_scanWhole_39 : decode cX9_scanWhole 39 = .ok (.aload_n 0, 1) := by decide +kernel
theorem dX9_scanWhole_40 : decode cX9_scanWhole 40 = .ok (.getfield 22, 3) := by decide +kernel
theorem dX9_scanWhole_43 : decode cX9_scanWhole 43 = .ok (.invokevirtual 28, 3) := by decide +kernel
theorem dX9_scanWhole_46 : decode cX9_scanWhole 46 = .ok (.iadd, 1) := by decide +kernel
theorem dX9_scanWhole_47 : decode cX9_scanWhole 47 = .ok (.bipush 48, 2) := by decide +kernel
theorem dX9_scanWhole_49 : decode cX9_scanWhole 49 = .ok (.isub, 1) := by decide +kernel
theorem dX9_scanWhole_50 : decode cX9_scanWhole 50 = .ok (.putfield 55, 3) := by decide +kernel
theorem dX9_scanWhole_53 : decode cX9_scanWhole 53 = .ok (.aload_n 0, 1) := by decide +kernel
theorem dX9_scanWhole_54 : decode cX9_scanWhole 54 = .ok (.dup, 1) := by decide +kernel
theorem dX9_scanWhole_55 : decode cX9_scanWhole 55 = .ok (.getfield 22, 3) := by decide +kernel
theorem dX9_scanWhole_58 : decode cX9_scanWhole 58 = .ok (.iconst 1, 1) := by decide +kernel
theorem dX9_scanWhole_59 : decode cX9_scanWhole 59 = .ok (.iadd, 1) := by decide +kernel
theorem dX9_scanWhole_60 : decode cX9_scanWhole 60 = .ok (.putfield 22, 3) := by decide +kernel
theorem dX9_scanWhole_63 : decode cX9_scanWhole 63 = .ok (.goto (-58), 3) := by decide +kernel
theorem dX9_scanWhole_66 : decode cX9_scanWhole 66 = .ok (.aload_n 0, 1) := by decide +kernel
theorem dX9_scanWhole_67 : decode cX9_scanWhole 67 = .ok (.aload_n 0, 1) := by decide +kernel
theorem dX9_scanWhole_68 : decode cX9_scanWhole 68 = .ok (.getfield 22, 3) := by decide +kernel
theorem dX9_scanWhole_71 : decode cX9_scanWhole 71 = .ok (.aload_n 0, 1) := by decide +kernel
theorem dX9_scanWhole_72 : decode cX9_scanWhole 72 = .ok (.getfield 32, 3) := by decide +kernel
theorem dX9_scanWhole_75 : decode cX9_scanWhole 75 = .ok (.isub, 1) := by decide +kernel
theorem dX9_scanWhole_76 : decode cX9_scanWhole 76 = .ok (.iconst 3, 1) := by decide +kernel
theorem dX9_scanWhole_77 : decode cX9_scanWhole 77 = .ok (.if_icmp .gt 7, 3) := by decide +kernel
theorem dX9_scanWhole_80 : decode cX9_scanWhole 80 = .ok (.iconst 2, 1) := by decide +kernel
theorem dX9_scanWhole_81 : decode cX9_scanWhole 81 = .ok (.goto 4, 3) := by decide +kernel
theorem dX9_scanWhole_84 : decode cX9_scanWhole 84 = .ok (.iconst 5, 1) := by decide +kernel
theorem dX9_scanWhole_85 : decode cX9_scanWhole 85 = .ok (.putfield 35, 3) := by decide +kernel
theorem dX9_scanWhole_88 : decode cX9_scanWhole 88 = .ok (.return_, 1) := by decide +kernel
theorem dX9_spells_0 : decode cX9_spells 0 = .ok (.aload_n 0, 1) := by decide +kernel
theorem dX9_spells_1 : decode cX9_spells 1 = .ok (.getfield 35, 3) := by decide +kernel
theorem dX9_spells_4 : decode cX9_spells 4 = .ok (.iconst 1, 1) := by decide +kernel
theorem dX9_spells_5 : decode cX9_spells 5 = .ok (.if_icmp .ne 19, 3) := by decide +kernel
theorem dX9_spells_8 : decode cX9_spells 8 = .ok (.aload_n 0, 1) := by decide +kernel
theorem dX9_spells_9 : decode cX9_spells 9 = .ok (.getfield 22, 3) := by decide +kernel
theorem dX9_spells_12 : decode cX9_spells 12 = .ok (.aload_n 0, 1) := by decide +kernel
theorem dX9_spells_13 : decode cX9_spells 13 = .ok (.getfield 32, 3) := by decide +kernel
theorem dX9_spells_16 : decode cX9_spells 16 = .ok (.isub, 1) := by decide +kernel
theorem dX9_spells_17 : decode cX9_spells 17 = .ok (.aload_n 1, 1) := by decide +kernel
theorem dX9_spells_18 : decode cX9_spells 18 = .ok (.invokevirtual 58, 3) := by decide +kernel
theorem dX9_spells_21 : decode cX9_spells 21 = .ok (.if_icmp .eq 5, 3) := by decide +kernel
theorem dX9_spells_24 : decode cX9_spells 24 = .ok (.iconst 0, 1) := by decide +kernel
theorem dX9_spells_25 : decode cX9_spells 25 = .ok (.ireturn, 1) := by decide +kernel
theorem dX9_spells_26 : decode cX9_spells 26 = .ok (.iconst 0, 1) := by decide +kernel
theorem dX9_spells_27 : decode cX9_spells 27 = .ok (.istore_n 2, 1) := by decide +kernel
theorem dX9_spells_28 : decode cX9_spells 28 = .ok (.iload_n 2, 1) := by decide +kernel
theorem dX9_spells_29 : decode cX9_spells 29 = .ok (.aload_n 1, 1) := by decide +kernel
theorem dX9_spells_30 : decode cX9_spells 30 = .ok (.invokevirtual 58, 3) := by decide +kernel
theorem dX9_spells_33 : decode cX9_spells 33 = .ok (.if_icmp .ge 29, 3) := by decide +kernel
theorem dX9_spells_36 : decode cX9_spells 36 = .ok (.aload_n 0, 1) := by decide +kernel
theorem dX9_spells_37 : decode cX9_spells 37 = .ok (.aload_n 0, 1) := by decide +kernel
theorem dX9_spells_38 : decode cX9_spells 38 = .ok (.getfield 32, 3) := by decide +kernel
theorem dX9_spells_41 : decode cX9_spells 41 = .ok (.iload_n 2, 1) := by decide +kernel
theorem dX9_spells_42 : decode cX9_spells 42 = .ok (.iadd, 1) := by decide +kernel
theorem dX9_spells_43 : decode cX9_spells 43 = .ok (.invokevirtual 28, 3) := by decide +kernel
theorem dX9_spells_46 : decode cX9_spells 46 = .ok (.aload_n 1, 1) := by decide +kernel
theorem dX9_spells_47 : decode cX9_spells 47 = .ok (.iload_n 2, 1) := by decide +kernel
theorem dX9_spells_48 : decode cX9_spells 48 = .ok (.invokevirtual 63, 3) := by decide +kernel
theorem dX9_spells_51 : decode cX9_spells 51 = .ok (.if_icmp .eq 5, 3) := by decide +kernel
theorem dX9_spells_54 : decode cX9_spells 54 = .ok (.iconst 0, 1) := by decide +kernel
theorem dX9_spells_55 : decode cX9_spells 55 = .ok (.ireturn, 1) := by decide +kernel
theorem dX9_spells_56 : decode cX9_spells 56 = .ok (.iinc 2 1, 3) := by decide +kernel
theorem dX9_spells_59 : decode cX9_spells 59 = .ok (.goto (-31), 3) := by decide +kernel
theorem dX9_spells_62 : decode cX9_spells 62 = .ok (.iconst 1, 1) := by decide +kernel
theorem dX9_spells_63 : decode cX9_spells 63 = .ok (.ireturn, 1) := by decide +kernel
theorem dX9_byteAt_0 : decode cX9_byteAt 0 = .ok (.iload_n 1, 1) := by decide +kernel
theorem dX9_byteAt_1 : decode cX9_byteAt 1 = .ok (.ifCond .lt 21, 3) := by decide +kernel
theorem dX9_byteAt_4 : decode cX9_byteAt 4 = .ok (.iload_n 1, 1) := by decide +kernel
theorem dX9_byteAt_5 : decode cX9_byteAt 5 = .ok (.aload_n 0, 1) := by decide +kernel
theorem dX9_byteAt_6 : decode cX9_byteAt 6 = .ok (.getfield 9, 3) := by decide +kernel
theorem dX9_byteAt_9 : decode cX9_byteAt 9 = .ok (.arraylength, 1) := by decide +kernel
theorem dX9_byteAt_10 : decode cX9_byteAt 10 = .ok (.if_icmp .ge 12, 3) := by decide +kernel
theorem dX9_byteAt_13 : decode cX9_byteAt 13 = .ok (.aload_n 0, 1) := by decide +kernel
theorem dX9_byteAt_14 : decode cX9_byteAt 14 = .ok (.getfield 9, 3) := by decide +kernel
theorem dX9_byteAt_17 : decode cX9_byteAt 17 = .ok (.iload_n 1, 1) := by decide +kernel
theorem dX9_byteAt_18 : decode cX9_byteAt 18 = .ok (.baload, 1) := by decide +kernel
theorem dX9_byteAt_19 : decode cX9_byteAt 19 = .ok (.goto 4, 3) := by decide +kernel
theorem dX9_byteAt_22 : decode cX9_byteAt 22 = .ok (.iconst 0, 1) := by decide +kernel
theorem dX9_byteAt_23 : decode cX9_byteAt 23 = .ok (.ireturn, 1) := by decide +kernel
theorem dX9_isLetter_0 : decode cX9_isLetter 0 = .ok (.iload_n 0, 1) := by decide +kernel
theorem dX9_isLetter_1 : decode cX9_isLetter 1 = .ok (.bipush 97, 2) := by decide +kernel
theorem dX9_isLetter_3 : decode cX9_isLetter 3 = .ok (.if_icmp .lt 13, 3) := by decide +kernel
theorem dX9_isLetter_6 : decode cX9_isLetter 6 = .ok (.iload_n 0, 1) := by decide +kernel
theorem dX9_isLetter_7 : decode cX9_isLetter 7 = .ok (.bipush 122, 2) := by decide +kernel
theorem dX9_isLetter_9 : decode cX9_isLetter 9 = .ok (.if_icmp .gt 7, 3) := by decide +kernel
theorem dX9_isLetter_12 : decode cX9_isLetter 12 = .ok (.iconst 1, 1) := by decide +kernel
theorem dX9_isLetter_13 : decode cX9_isLetter 13 = .ok (.goto 4, 3) := by decide +kernel
theorem dX9_isLetter_16 : decode cX9_isLetter 16 = .ok (.iconst 0, 1) := by decide +kernel
theorem dX9_isLetter_17 : decode cX9_isLetter 17 = .ok (.ireturn, 1) := by decide +kernel
theorem dX9_isDigit_0 : decode cX9_isDigit 0 = .ok (.iload_n 0, 1) := by decide +kernel
theorem dX9_isDigit_1 : decode cX9_isDigit 1 = .ok (.bipush 48, 2) := by decide +kernel
theorem dX9_isDigit_3 : decode cX9_isDigit 3 = .ok (.if_icmp .lt 13, 3) := by decide +kernel
theorem dX9_isDigit_6 : decode cX9_isDigit 6 = .ok (.iload_n 0, 1) := by decide +kernel
theorem dX9_isDigit_7 : decode cX9_isDigit 7 = .ok (.bipush 57, 2) := by decide +kernel
theorem dX9_isDigit_9 : decode cX9_isDigit 9 = .ok (.if_icmp .gt 7, 3) := by decide +kernel
theorem dX9_isDigit_12 : decode cX9_isDigit 12 = .ok (.iconst 1, 1) := by decide +kernel
theorem dX9_isDigit_13 : decode cX9_isDigit 13 = .ok (.goto 4, 3) := by decide +kernel
theorem dX9_isDigit_16 : decode cX9_isDigit 16 = .ok (.iconst 0, 1) := by decide +kernel
theorem dX9_isDigit_17 : decode cX9_isDigit 17 = .ok (.ireturn, 1) := by decide +kernel
theorem dX10_hungAt_0 : decode cX10_hungAt 0 = .ok (.iload_n 0, 1) := by decide +kernel
theorem dX10_hungAt_1 : decode cX10_hungAt 1 = .ok (.iconst 2, 1) := by decide +kernel
theorem dX10_hungAt_2 : decode cX10_hungAt 2 = .ok (.iconst 5, 1) := by decide +kernel
theorem dX10_hungAt_3 : decode cX10_hungAt 3 = .ok (.iload_n 1, 1) := by decide +kernel
theorem dX10_hungAt_4 : decode cX10_hungAt 4 = .ok (.isub, 1) := by decide +kernel
theorem dX10_hungAt_5 : decode cX10_hungAt 5 = .ok (.imul, 1) := by decide +kernel
theorem dX10_hungAt_6 : decode cX10_hungAt 6 = .ok (.ishr, 1) := by decide +kernel
theorem dX10_hungAt_7 : decode cX10_hungAt 7 = .ok (.iconst 3, 1) := by decide +kernel
theorem dX10_hungAt_8 : decode cX10_hungAt 8 = .ok (.iand, 1) := by decide +kernel
theorem dX10_hungAt_9 : decode cX10_hungAt 9 = .ok (.ireturn, 1) := by decide +kernel
theorem dX10_with_0 : decode cX10_with 0 = .ok (.iload_n 0, 1) := by decide +kernel
theorem dX10_with_1 : decode cX10_with 1 = .ok (.iload_n 1, 1) := by decide +kernel
theorem dX10_with_2 : decode cX10_with 2 = .ok (.invokestatic 9, 3) := by decide +kernel
theorem dX10_with_5 : decode cX10_with 5 = .ok (.iconst (-1), 1) := by decide +kernel
theorem dX10_with_6 : decode cX10_with 6 = .ok (.ixor, 1) := by decide +kernel
theorem dX10_with_7 : decode cX10_with 7 = .ok (.iand, 1) := by decide +kernel
theorem dX10_with_8 : decode cX10_with 8 = .ok (.iload_n 2, 1) := by decide +kernel
theorem dX10_with_9 : decode cX10_with 9 = .ok (.iconst 2, 1) := by decide +kernel
theorem dX10_with_10 : decode cX10_with 10 = .ok (.iconst 5, 1) := by decide +kernel
theorem dX10_with_11 : decode cX10_with 11 = .ok (.iload_n 1, 1) := by decide +kernel
theorem dX10_with_12 : decode cX10_with 12 = .ok (.isub, 1) := by decide +kernel
theorem dX10_with_13 : decode cX10_with 13 = .ok (.imul, 1) := by decide +kernel
theorem dX10_with_14 : decode cX10_with 14 = .ok (.ishl, 1) := by decide +kernel
theorem dX10_with_15 : decode cX10_with 15 = .ok (.ior, 1) := by decide +kernel
theorem dX10_with_16 : decode cX10_with 16 = .ok (.ireturn, 1) := by decide +kernel
theorem dX10_bitsOf_0 : decode cX10_bitsOf 0 = .ok (.iconst 3, 1) := by decide +kernel
theorem dX10_bitsOf_1 : decode cX10_bitsOf 1 = .ok (.iconst 2, 1) := by decide +kernel
theorem dX10_bitsOf_2 : decode cX10_bitsOf 2 = .ok (.iconst 5, 1) := by decide +kernel
theorem dX10_bitsOf_3 : decode cX10_bitsOf 3 = .ok (.iload_n 0, 1) := by decide +kernel
theorem dX10_bitsOf_4 : decode cX10_bitsOf 4 = .ok (.isub, 1) := by decide +kernel
theorem dX10_bitsOf_5 : decode cX10_bitsOf 5 = .ok (.imul, 1) := by decide +kernel
theorem dX10_bitsOf_6 : decode cX10_bitsOf 6 = .ok (.ishl, 1) := by decide +kernel
theorem dX10_bitsOf_7 : decode cX10_bitsOf 7 = .ok (.ireturn, 1) := by decide +kernel
theorem dX10_hooksIn_0 : decode cX10_hooksIn 0 = .ok (.iload_n 0, 1) := by decide +kernel
theorem dX10_hooksIn_1 : decode cX10_hooksIn 1 = .ok (.invokestatic 15, 3) := by decide +kernel
theorem dX10_hooksIn_4 : decode cX10_hooksIn 4 = .ok (.ireturn, 1) := by decide +kernel
theorem dX10_codesOf_0 : decode cX10_codesOf 0 = .ok (.iconst 1, 1) := by decide +kernel
theorem dX10_codesOf_1 : decode cX10_codesOf 1 = .ok (.iconst 2, 1) := by decide +kernel
theorem dX10_codesOf_2 : decode cX10_codesOf 2 = .ok (.iload_n 0, 1) := by decide +kernel
theorem dX10_codesOf_3 : decode cX10_codesOf 3 = .ok (.imul, 1) := by decide +kernel
theorem dX10_codesOf_4 : decode cX10_codesOf 4 = .ok (.ishl, 1) := by decide +kernel
theorem dX10_codesOf_5 : decode cX10_codesOf 5 = .ok (.ireturn, 1) := by decide +kernel
theorem dX10_fromCode_0 : decode cX10_fromCode 0 = .ok (.iload_n 0, 1) := by decide +kernel
theorem dX10_fromCode_1 : decode cX10_fromCode 1 = .ok (.iconst 2, 1) := by decide +kernel
theorem dX10_fromCode_2 : decode cX10_fromCode 2 = .ok (.bipush 6, 2) := by decide +kernel
theorem dX10_fromCode_4 : decode cX10_fromCode 4 = .ok (.iload_n 1, 1) := by decide +kernel
theorem dX10_fromCode_5 : decode cX10_fromCode 5 = .ok (.isub, 1) := by decide +kernel
theorem dX10_fromCode_6 : decode cX10_fromCode 6 = .ok (.imul, 1) := by decide +kernel
theorem dX10_fromCode_7 : decode cX10_fromCode 7 = .ok (.ishl, 1) := by decide +kernel
theorem dX10_fromCode_8 : decode cX10_fromCode 8 = .ok (.ireturn, 1) := by decide +kernel
theorem dX10_isWay_0 : decode cX10_isWay 0 = .ok (.iload_n 0, 1) := by decide +kernel
theorem dX10_isWay_1 : decode cX10_isWay 1 = .ok (.iload_n 0, 1) := by decide +kernel
theorem dX10_isWay_2 : decode cX10_isWay 2 = .ok (.iconst 1, 1) := by decide +kernel
theorem dX10_isWay_3 : decode cX10_isWay 3 = .ok (.ishr, 1) := by decide +kernel
theorem dX10_isWay_4 : decode cX10_isWay 4 = .ok (.iand, 1) := by decide +kernel
theorem dX10_isWay_5 : decode cX10_isWay 5 = .ok (.sipush 1365, 3) := by decide +kernel
theorem dX10_isWay_8 : decode cX10_isWay 8 = .ok (.iand, 1) := by decide +kernel
theorem dX10_isWay_9 : decode cX10_isWay 9 = .ok (.ifCond .ne 7, 3) := by decide +kernel
theorem dX10_isWay_12 : decode cX10_isWay 12 = .ok (.iconst 1, 1) := by decide +kernel
theorem dX10_isWay_13 : decode cX10_isWay 13 = .ok (.goto 4, 3) := by decide +kernel
theorem dX10_isWay_16 : decode cX10_isWay 16 = .ok (.iconst 0, 1) := by decide +kernel
theorem dX10_isWay_17 : decode cX10_isWay 17 = .ok (.ireturn, 1) := by decide +kernel
theorem dX11_init_0 : decode cX11_init 0 = .ok (.aload_n 0, 1) := by decide +kernel
theorem dX11_init_1 : decode cX11_init 1 = .ok (.invokespecial 1, 3) := by decide +kernel
theorem dX11_init_4 : decode cX11_init 4 = .ok (.aload_n 0, 1) := by decide +kernel
theorem dX11_init_5 : decode cX11_init 5 = .ok (.new 7, 3) := by decide +kernel
theorem dX11_init_8 : decode cX11_init 8 = .ok (.dup, 1) := by decide +kernel
theorem dX11_init_9 : decode cX11_init 9 = .ok (.invokespecial 9, 3) := by decide +kernel
theorem dX11_init_12 : decode cX11_init 12 = .ok (.putfield 10, 3) := by decide +kernel
theorem dX11_init_15 : decode cX11_init 15 = .ok (.aload_n 0, 1) := by decide +kernel
theorem dX11_init_16 : decode cX11_init 16 = .ok (.new 16, 3) := by decide +kernel
theorem dX11_init_19 : decode cX11_init 19 = .ok (.dup, 1) := by decide +kernel
theorem dX11_init_20 : decode cX11_init 20 = .ok (.aload_n 0, 1) := by decide +kernel
theorem dX11_init_21 : decode cX11_init 21 = .ok (.getfield 10, 3) := by decide +kernel
theorem dX11_init_24 : decode cX11_init 24 = .ok (.invokespecial 18, 3) := by decide +kernel
theorem dX11_init_27 : decode cX11_init 27 = .ok (.putfield 21, 3) := by decide +kernel
theorem dX11_init_30 : decode cX11_init 30 = .ok (.aload_n 0, 1) := by decide +kernel
theorem dX11_init_31 : decode cX11_init 31 = .ok (.new 25, 3) := by decide +kernel
theorem dX11_init_34 : decode cX11_init 34 = .ok (.dup, 1) := by decide +kernel
theorem dX11_init_35 : decode cX11_init 35 = .ok (.invokespecial 27, 3) := by decide +kernel
theorem dX11_init_38 : decode cX11_init 38 = .ok (.putfield 28, 3) := by decide +kernel
theorem dX11_init_41 : decode cX11_init 41 = .ok (.aload_n 0, 1) := by decide +kernel
theorem dX11_init_42 : decode cX11_init 42 = .ok (.new 25, 3) := by decide +kernel
theorem dX11_init_45 : decode cX11_init 45 = .ok (.dup, 1) := by decide +kernel
theorem dX11_init_46 : decode cX11_init 46 = .ok (.invokespecial 27, 3) := by decide +kernel
theorem dX11_init_49 : decode cX11_init 49 = .ok (.putfield 32, 3) := by decide +kernel
theorem dX11_init_52 : decode cX11_init 52 = .ok (.aload_n 0, 1) := by decide +kernel
theorem dX11_init_53 : decode cX11_init 53 = .ok (.new 35, 3) := by decide +kernel
theorem dX11_init_56 : decode cX11_init 56 = .ok (.dup, 1) := by decide +kernel
theorem dX11_init_57 : decode cX11_init 57 = .ok (.bipush 16, 2) := by decide +kernel
theorem dX11_init_59 : decode cX11_init 59 = .ok (.invokespecial 37, 3) := by decide +kernel
theorem dX11_init_62 : decode cX11_init 62 = .ok (.putfield 40, 3) := by decide +kernel
theorem dX11_init_65 : decode cX11_init 65 = .ok (.aload_n 0, 1) := by decide +kernel
theorem dX11_init_66 : decode cX11_init 66 = .ok (.new 35, 3) := by decide +kernel
theorem dX11_init_69 : decode cX11_init 69 = .ok (.dup, 1) := by decide +kernel
theorem dX11_init_70 : decode cX11_init 70 = .ok (.iconst 3, 1) := by decide +kernel
theorem dX11_init_71 : decode cX11_init 71 = .ok (.invokespecial 37, 3) := by decide +kernel
theorem dX11_init_74 : decode cX11_init 74 = .ok (.putfield 44, 3) := by decide +kernel
theorem dX11_init_77 : decode cX11_init 77 = .ok (.aload_n 0, 1) := by decide +kernel
theorem dX11_init_78 : decode cX11_init 78 = .ok (.new 47, 3) := by decide +kernel
theorem dX11_init_81 : decode cX11_init 81 = .ok (.dup, 1) := by decide +kernel
theorem dX11_init_82 : decode cX11_init 82 = .ok (.invokespecial 49, 3) := by decide +kernel
theorem dX11_init_85 : decode cX11_init 85 = .ok (.putfield 50, 3) := by decide +kernel
theorem dX11_init_88 : decode cX11_init 88 = .ok (.aload_n 0, 1) := by decide +kernel
theorem dX11_init_89 : decode cX11_init 89 = .ok (.new 54, 3) := by decide +kernel
theorem dX11_init_92 : decode cX11_init 92 = .ok (.dup, 1) := by decide +kernel
theorem dX11_init_93 : decode cX11_init 93 = .ok (.invokespecial 56, 3) := by decide +kernel
theorem dX11_init_96 : decode cX11_init 96 = .ok (.putfield 57, 3) := by decide +kernel
theorem dX11_init_99 : decode cX11_init 99 = .ok (.aload_n 0, 1) := by decide +kernel
theorem dX11_init_100 : decode cX11_init 100 = .ok (.new 61, 3) := by decide +kernel
theorem dX11_init_103 : decode cX11_init 103 = .ok (.dup, 1) := by decide +kernel
theorem dX11_init_104 : decode cX11_init 104 = .ok (.invokespecial 63, 3) := by decide +kernel
theorem dX11_init_107 : decode cX11_init 107 = .ok (.putfield 64, 3) := by decide +kernel
theorem dX11_init_110 : decode cX11_init 110 = .ok (.aload_n 0, 1) := by decide +kernel
theorem dX11_init_111 : decode cX11_init 111 = .ok (.new 68, 3) := by decide +kernel
theorem dX11_init_114 : decode cX11_init 114 = .ok (.dup, 1) := by decide +kernel
theorem dX11_init_115 : decode cX11_init 115 = .ok (.invokespecial 70, 3) := by decide +kernel
theorem dX11_init_118 : decode cX11_init 118 = .ok (.putfield 71, 3) := by decide +kernel
theorem dX11_init_121 : decode cX11_init 121 = .ok (.aload_n 0, 1) := by decide +kernel
theorem dX11_init_122 : decode cX11_init 122 = .ok (.new 75, 3) := by decide +kernel
theorem dX11_init_125 : decode cX11_init 125 = .ok (.dup, 1) := by decide +kernel
theorem dX11_init_126 : decode cX11_init 126 = .ok (.invokespecial 77, 3) := by decide +kernel
theorem dX11_init_129 : decode cX11_init 129 = .ok (.putfield 78, 3) := by decide +kernel
theorem dX11_init_132 : decode cX11_init 132 = .ok (.aload_n 0, 1) := by decide +kernel
theorem dX11_init_133 : decode cX11_init 133 = .ok (.iconst 0, 1) := by decide +kernel
theorem dX11_init_134 : decode cX11_init 134 = .ok (.putfield 82, 3) := by decide +kernel
theorem dX11_init_137 : decode cX11_init 137 = .ok (.aload_n 0, 1) := by decide +kernel
theorem dX11_init_138 : decode cX11_init 138 = .ok (.iconst 0, 1) := by decide +kernel
theorem dX11_init_139 : decode cX11_init 139 = .ok (.putfield 86, 3) := by decide +kernel
theorem dX11_init_142 : decode cX11_init 142 = .ok (.aload_n 0, 1) := by decide +kernel
theorem dX11_init_143 : decode cX11_init 143 = .ok (.iconst (-1), 1) := by decide +kernel
theorem dX11_init_144 : decode cX11_init 144 = .ok (.putfield 89, 3) := by decide +kernel
theorem dX11_init_147 : decode cX11_init 147 = .ok (.return_, 1) := by decide +kernel
theorem dX11_feed_0 : decode cX11_feed 0 = .ok (.aload_n 0, 1) := by decide +kernel
theorem dX11_feed_1 : decode cX11_feed 1 = .ok (.getfield 10, 3) := by decide +kernel
theorem dX11_feed_4 : decode cX11_feed 4 = .ok (.invokevirtual 92, 3) := by decide +kernel
theorem dX11_feed_7 : decode cX11_feed 7 = .ok (.ifCond .ne 5, 3) := by decide +kernel
theorem dX11_feed_10 : decode cX11_feed 10 = .ok (.iconst (-1), 1) := by decide +kernel
theorem dX11_feed_11 : decode cX11_feed 11 = .ok (.ireturn, 1) := by decide +kernel
theorem dX11_feed_12 : decode cX11_feed 12 = .ok (.aload_n 0, 1) := by decide +kernel
theorem dX11_feed_13 : decode cX11_feed 13 = .ok (.getfield 10, 3) := by decide +kernel
theorem dX11_feed_16 : decode cX11_feed 16 = .ok (.iload_n 1, 1) := by decide +kernel
theorem dX11_feed_17 : decode cX11_feed 17 = .ok (.invokevirtual 96, 3) := by decide +kernel
theorem dX11_feed_20 : decode cX11_feed 20 = .ok (.aload_n 0, 1) := by decide +kernel
theorem dX11_feed_21 : decode cX11_feed 21 = .ok (.getfield 10, 3) := by decide +kernel
theorem dX11_feed_24 : decode cX11_feed 24 = .ok (.iload_n 2, 1) := by decide +kernel
theorem dX11_feed_25 : decode cX11_feed 25 = .ok (.invokevirtual 96, 3) := by decide +kernel
theorem dX11_feed_28 : decode cX11_feed 28 = .ok (.aload_n 0, 1) := by decide +kernel
theorem dX11_feed_29 : decode cX11_feed 29 = .ok (.getfield 10, 3) := by decide +kernel
theorem dX11_feed_32 : decode cX11_feed 32 = .ok (.iload_n 3, 1) := by decide +kernel
theorem dX11_feed_33 : decode cX11_feed 33 = .ok (.invokevirtual 96, 3) := by decide +kernel
theorem dX11_feed_36 : decode cX11_feed 36 = .ok (.aload_n 0, 1) := by decide +kernel
theorem dX11_feed_37 : decode cX11_feed 37 = .ok (.getfield 10, 3) := by decide +kernel
theorem dX11_feed_40 : decode cX11_feed 40 = .ok (.iload 4, 2) := by decide +kernel
theorem dX11_feed_42 : decode cX11_feed 42 = .ok (.invokevirtual 96, 3) := by decide +kernel
theorem dX11_feed_45 : decode cX11_feed 45 = .ok (.aload_n 0, 1) := by decide +kernel
theorem dX11_feed_46 : decode cX11_feed 46 = .ok (.getfield 10, 3) := by decide +kernel
theorem dX11_feed_49 : decode cX11_feed 49 = .ok (.iload 5, 2) := by decide +kernel
theorem dX11_feed_51 : decode cX11_feed 51 = .ok (.invokevirtual 96, 3) := by decide +kernel
theorem dX11_feed_54 : decode cX11_feed 54 = .ok (.aload_n 0, 1) := by decide +kernel
theorem dX11_feed_55 : decode cX11_feed 55 = .ok (.getfield 10, 3) := by decide +kernel
theorem dX11_feed_58 : decode cX11_feed 58 = .ok (.getfield 99, 3) := by decide +kernel
theorem dX11_feed_61 : decode cX11_feed 61 = .ok (.ireturn, 1) := by decide +kernel
theorem dX11_land_0 : decode cX11_land 0 = .ok (.iload_n 1, 1) := by decide +kernel
theorem dX11_land_1 : decode cX11_land 1 = .ok (.ifCond .lt 14, 3) := by decide +kernel
theorem dX11_land_4 : decode cX11_land 4 = .ok (.iload_n 1, 1) := by decide +kernel
theorem dX11_land_5 : decode cX11_land 5 = .ok (.aload_n 0, 1) := by decide +kernel
theorem dX11_land_6 : decode cX11_land 6 = .ok (.getfield 10, 3) := by decide +kernel
theorem dX11_land_9 : decode cX11_land 9 = .ok (.getfield 99, 3) := by decide +kernel
theorem dX11_land_12 : decode cX11_land 12 = .ok (.if_icmp .le 9, 3) := by decide +kernel
theorem dX11_land_15 : decode cX11_land 15 = .ok (.aload_n 0, 1) := by decide +kernel
theorem dX11_land_16 : decode cX11_land 16 = .ok (.iconst 2, 1) := by decide +kernel
theorem dX11_land_17 : decode cX11_land 17 = .ok (.invokevirtual 102, 3) := by decide +kernel
theorem dX11_land_20 : decode cX11_land 20 = .ok (.ireturn, 1) := by decide +kernel
theorem dX11_land_21 : decode cX11_land 21 = .ok (.aload_n 0, 1) := by decide +kernel
theorem dX11_land_22 : decode cX11_land 22 = .ok (.getfield 21, 3) := by decide +kernel
theorem dX11_land_25 : decode cX11_land 25 = .ok (.iload_n 1, 1) := by decide +kernel
theorem dX11_land_26 : decode cX11_land 26 = .ok (.invokevirtual 106, 3) := by decide +kernel
theorem dX11_land_29 : decode cX11_land 29 = .ok (.istore_n 2, 1) := by decide +kernel
theorem dX11_land_30 : decode cX11_land 30 = .ok (.aload_n 0, 1) := by decide +kernel
theorem dX11_land_31 : decode cX11_land 31 = .ok (.getfield 10, 3) := by decide +kernel
theorem dX11_land_34 : decode cX11_land 34 = .ok (.iconst 0, 1) := by decide +kernel
theorem dX11_land_35 : decode cX11_land 35 = .ok (.putfield 99, 3) := by decide +kernel
theorem dX11_land_38 : decode cX11_land 38 = .ok (.aload_n 0, 1) := by decide +kernel
theorem dX11_land_39 : decode cX11_land 39 = .ok (.aload_n 0, 1) := by decide +kernel
theorem dX11_land_40 : decode cX11_land 40 = .ok (.getfield 21, 3) := by decide +kernel
theorem dX11_land_43 : decode cX11_land 43 = .ok (.getfield 110, 3) := by decide +kernel
theorem dX11_land_46 : decode cX11_land 46 = .ok (.putfield 86, 3) := by decide +kernel
theorem dX11_land_49 : decode cX11_land 49 = .ok (.aload_n 0, 1) := by decide +kernel
theorem dX11_land_50 : decode cX11_land 50 = .ok (.aload_n 0, 1) := by decide +kernel
theorem dX11_land_51 : decode cX11_land 51 = .ok (.getfield 21, 3) := by decide +kernel
theorem dX11_land_54 : decode cX11_land 54 = .ok (.getfield 113, 3) := by decide +kernel
theorem dX11_land_57 : decode cX11_land 57 = .ok (.putfield 89, 3) := by decide +kernel
theorem dX11_land_60 : decode cX11_land 60 = .ok (.iload_n 2, 1) := by decide +kernel
theorem dX11_land_61 : decode cX11_land 61 = .ok (.ifCond .ne 9, 3) := by decide +kernel
theorem dX11_land_64 : decode cX11_land 64 = .ok (.aload_n 0, 1) := by decide +kernel
theorem dX11_land_65 : decode cX11_land 65 = .ok (.iconst 4, 1) := by decide +kernel
theorem dX11_land_66 : decode cX11_land 66 = .ok (.invokevirtual 102, 3) := by decide +kernel
theorem dX11_land_69 : decode cX11_land 69 = .ok (.ireturn, 1) := by decide +kernel
theorem dX11_land_70 : decode cX11_land 70 = .ok (.aload_n 0, 1) := by decide +kernel
theorem dX11_land_71 : decode cX11_land 71 = .ok (.invokevirtual 114, 3) := by decide +kernel
theorem dX11_land_74 : decode cX11_land 74 = .ok (.aload_n 0, 1) := by decide +kernel
theorem dX11_land_75 : decode cX11_land 75 = .ok (.aload_n 0, 1) := by decide +kernel
theorem dX11_land_76 : decode cX11_land 76 = .ok (.getfield 78, 3) := by decide +kernel
theorem dX11_land_79 : decode cX11_land 79 = .ok (.getfield 117, 3) := by decide +kernel
theorem dX11_land_82 : decode cX11_land 82 = .ok (.invokevirtual 120, 3) := by decide +kernel
theorem dX11_land_85 : decode cX11_land 85 = .ok (.ireturn, 1) := by decide +kernel
theorem dX11_settle_0 : decode cX11_settle 0 = .ok (.aload_n 0, 1) := by decide +kernel
theorem dX11_settle_1 : decode cX11_settle 1 = .ok (.aload_n 0, 1) := by decide +kernel
theorem dX11_settle_2 : decode cX11_settle 2 = .ok (.getfield 21, 3) := by decide +kernel
theorem dX11_settle_5 : decode cX11_settle 5 = .ok (.aload_n 0, 1) := by decide +kernel
theorem dX11_settle_6 : decode cX11_settle 6 = .ok (.getfield 78, 3) := by decide +kernel
theorem dX11_settle_9 : decode cX11_settle 9 = .ok (.invokevirtual 123, 3) := by decide +kernel
theorem dX11_settle_12 : decode cX11_settle 12 = .ok (.putfield 78, 3) := by decide +kernel
theorem dX11_settle_15 : decode cX11_settle 15 = .ok (.aload_n 0, 1) := by decide +kernel
theorem dX11_settle_16 : decode cX11_settle 16 = .ok (.getfield 28, 3) := by decide +kernel
theorem dX11_settle_19 : decode cX11_settle 19 = .ok (.aload_n 0, 1) := by decide +kernel
theorem dX11_settle_20 : decode cX11_settle 20 = .ok (.getfield 78, 3) := by decide +kernel
theorem dX11_settle_23 : decode cX11_settle 23 = .ok (.getfield 127, 3) := by decide +kernel
theorem dX11_settle_26 : decode cX11_settle 26 = .ok (.iconst 0, 1) := by decide +kernel
theorem dX11_settle_27 : decode cX11_settle 27 = .ok (.iconst 0, 1) := by decide +kernel
theorem dX11_settle_28 : decode cX11_settle 28 = .ok (.invokevirtual 130, 3) := by decide +kernel
theorem dX11_settle_31 : decode cX11_settle 31 = .ok (.aload_n 0, 1) := by decide +kernel
theorem dX11_settle_32 : decode cX11_settle 32 = .ok (.getfield 40, 3) := by decide +kernel
theorem dX11_settle_35 : decode cX11_settle 35 = .ok (.iconst 0, 1) := by decide +kernel
theorem dX11_settle_36 : decode cX11_settle 36 = .ok (.putfield 134, 3) := by decide +kernel
theorem dX11_settle_39 : decode cX11_settle 39 = .ok (.aload_n 0, 1) := by decide +kernel
theorem dX11_settle_40 : decode cX11_settle 40 = .ok (.getfield 44, 3) := by decide +kernel
theorem dX11_settle_43 : decode cX11_settle 43 = .ok (.iconst 0, 1) := by decide +kernel
theorem dX11_settle_44 : decode cX11_settle 44 = .ok (.putfield 134, 3) := by decide +kernel
theorem dX11_settle_47 : decode cX11_settle 47 = .ok (.aload_n 0, 1) := by decide +kernel
theorem dX11_settle_48 : decode cX11_settle 48 = .ok (.getfield 50, 3) := by decide +kernel
theorem dX11_settle_51 : decode cX11_settle 51 = .ok (.invokevirtual 137, 3) := by decide +kernel
theorem dX11_settle_54 : decode cX11_settle 54 = .ok (.aload_n 0, 1) := by decide +kernel
theorem dX11_settle_55 : decode cX11_settle 55 = .ok (.getfield 57, 3) := by decide +kernel
theorem dX11_settle_58 : decode cX11_settle 58 = .ok (.invokevirtual 140, 3) := by decide +kernel
theorem dX11_settle_61 : decode cX11_settle 61 = .ok (.aload_n 0, 1) := by decide +kernel
theorem dX11_settle_62 : decode cX11_settle 62 = .ok (.getfield 64, 3) := by decide +kernel
theorem dX11_settle_65 : decode cX11_settle 65 = .ok (.invokevirtual 141, 3) := by decide +kernel
theorem dX11_settle_68 : decode cX11_settle 68 = .ok (.return_, 1) := by decide +kernel
theorem dX11_fault_0 : decode cX11_fault 0 = .ok (.aload_n 0, 1) := by decide +kernel
theorem dX11_fault_1 : decode cX11_fault 1 = .ok (.getfield 86, 3) := by decide +kernel
theorem dX11_fault_4 : decode cX11_fault 4 = .ok (.ireturn, 1) := by decide +kernel
theorem dX11_where_0 : decode cX11_where 0 = .ok (.aload_n 0, 1) := by decide +kernel
theorem dX11_where_1 : decode cX11_where 1 = .ok (.getfield 82, 3) := by decide +kernel
theorem dX11_where_4 : decode cX11_where 4 = .ok (.iconst 4, 1) := by decide +kernel
theorem dX11_where_5 : decode cX11_where 5 = .ok (.if_icmp .ne 10, 3) := by decide +kernel
theorem dX11_where_8 : decode cX11_where 8 = .ok (.aload_n 0, 1) := by decide +kernel
theorem dX11_where_9 : decode cX11_where 9 = .ok (.getfield 89, 3) := by decide +kernel
theorem dX11_where_12 : decode cX11_where 12 = .ok (.goto 4, 3) := by decide +kernel
theorem dX11_where_15 : decode cX11_where 15 = .ok (.iconst (-1), 1) := by decide +kernel
theorem dX11_where_16 : decode cX11_where 16 = .ok (.ireturn, 1) := by decide +kernel
theorem dX11_gate_0 : decode cX11_gate 0 = .ok (.aload_n 0, 1) := by decide +kernel
theorem dX11_gate_1 : decode cX11_gate 1 = .ok (.iload_n 1, 1) := by decide +kernel
theorem dX11_gate_2 : decode cX11_gate 2 = .ok (.invokevirtual 142, 3) := by decide +kernel
theorem dX11_gate_5 : decode cX11_gate 5 = .ok (.ifCond .ne 9, 3) := by decide +kernel
theorem dX11_gate_8 : decode cX11_gate 8 = .ok (.aload_n 0, 1) := by decide +kernel
theorem dX11_gate_9 : decode cX11_gate 9 = .ok (.iconst 1, 1) := by decide +kernel
theorem dX11_gate_10 : decode cX11_gate 10 = .ok (.invokevirtual 102, 3) := by decide +kernel
theorem dX11_gate_13 : decode cX11_gate 13 = .ok (.ireturn, 1) := by decide +kernel
theorem dX11_gate_14 : decode cX11_gate 14 = .ok (.iload_n 2, 1) := by decide +kernel
theorem dX11_gate_15 : decode cX11_gate 15 = .ok (.tableswitch 137 0 5 #[37, 53, 69, 85, 101, 121], 37) := by decide +kernel
theorem dX11_gate_52 : decode cX11_gate 52 = .ok (.aload_n 0, 1) := by decide +kernel
theorem dX11_gate_53 : decode cX11_gate 53 = .ok (.aload_n 0, 1) := by decide +kernel
theorem dX11_gate_54 : decode cX11_gate 54 = .ok (.getfield 78, 3) := by decide +kernel
theorem dX11_gate_57 : decode cX11_gate 57 = .ok (.getfield 145, 3) := by decide +kernel
theorem dX11_gate_60 : decode cX11_gate 60 = .ok (.iload_n 1, 1) := by decide +kernel
theorem dX11_gate_61 : decode cX11_gate 61 = .ok (.invokestatic 149, 3) := by decide +kernel
theorem dX11_gate_64 : decode cX11_gate 64 = .ok (.invokevirtual 120, 3) := by decide +kernel
theorem dX11_gate_67 : decode cX11_gate 67 = .ok (.ireturn, 1) := by decide +kernel
theorem dX11_gate_68 : decode cX11_gate 68 = .ok (.aload_n 0, 1) := by decide +kernel
theorem dX11_gate_69 : decode cX11_gate 69 = .ok (.aload_n 0, 1) := by decide +kernel
theorem dX11_gate_70 : decode cX11_gate 70 = .ok (.getfield 78, 3) := by decide +kernel
theorem dX11_gate_73 : decode cX11_gate 73 = .ok (.getfield 153, 3) := by decide +kernel
theorem dX11_gate_76 : decode cX11_gate 76 = .ok (.iload_n 1, 1) := by decide +kernel
theorem dX11_gate_77 : decode cX11_gate 77 = .ok (.invokestatic 149, 3) := by decide +kernel
theorem dX11_gate_80 : decode cX11_gate 80 = .ok (.invokevirtual 120, 3) := by decide +kernel
theorem dX11_gate_83 : decode cX11_gate 83 = .ok (.ireturn, 1) := by decide +kernel
theorem dX11_gate_84 : decode cX11_gate 84 = .ok (.aload_n 0, 1) := by decide +kernel
theorem dX11_gate_85 : decode cX11_gate 85 = .ok (.aload_n 0, 1) := by decide +kernel
theorem dX11_gate_86 : decode cX11_gate 86 = .ok (.getfield 78, 3) := by decide +kernel
theorem dX11_gate_89 : decode cX11_gate 89 = .ok (.getfield 156, 3) := by decide +kernel
theorem dX11_gate_92 : decode cX11_gate 92 = .ok (.iload_n 1, 1) := by decide +kernel
theorem dX11_gate_93 : decode cX11_gate 93 = .ok (.invokestatic 149, 3) := by decide +kernel
theorem dX11_gate_96 : decode cX11_gate 96 = .ok (.invokevirtual 120, 3) := by decide +kernel
theorem dX11_gate_99 : decode cX11_gate 99 = .ok (.ireturn, 1) := by decide +kernel
theorem dX11_gate_100 : decode cX11_gate 100 = .ok (.aload_n 0, 1) := by decide +kernel
theorem dX11_gate_101 : decode cX11_gate 101 = .ok (.aload_n 0, 1) := by decide +kernel
theorem dX11_gate_102 : decode cX11_gate 102 = .ok (.getfield 28, 3) := by decide +kernel
theorem dX11_gate_105 : decode cX11_gate 105 = .ok (.getfield 159, 3) := by decide +kernel
theorem dX11_gate_108 : decode cX11_gate 108 = .ok (.iload_n 1, 1) := by decide +kernel
theorem dX11_gate_109 : decode cX11_gate 109 = .ok (.invokestatic 162, 3) := by decide +kernel
theorem dX11_gate_112 : decode cX11_gate 112 = .ok (.invokevirtual 120, 3) := by decide +kernel
theorem dX11_gate_115 : decode cX11_gate 115 = .ok (.ireturn, 1) := by decide +kernel
theorem dX11_gate_116 : decode cX11_gate 116 = .ok (.aload_n 0, 1) := by decide +kernel
theorem dX11_gate_117 : decode cX11_gate 117 = .ok (.aload_n 0, 1) := by decide +kernel
theorem dX11_gate_118 : decode cX11_gate 118 = .ok (.getfield 78, 3) := by decide +kernel
theorem dX11_gate_121 : decode cX11_gate 121 = .ok (.aload_n 0, 1) := by decide +kernel
theorem dX11_gate_122 : decode cX11_gate 122 = .ok (.getfield 28, 3) := by decide +kernel
theorem dX11_gate_125 : decode cX11_gate 125 = .ok (.getfield 159, 3) := by decide +kernel
theorem dX11_gate_128 : decode cX11_gate 128 = .ok (.iload_n 1, 1) := by decide +kernel
theorem dX11_gate_129 : decode cX11_gate 129 = .ok (.invokevirtual 168, 3) := by decide +kernel
theorem dX11_gate_132 : decode cX11_gate 132 = .ok (.invokevirtual 120, 3) := by decide +kernel
theorem dX11_gate_135 : decode cX11_gate 135 = .ok (.ireturn, 1) := by decide +kernel
theorem dX11_gate_136 : decode cX11_gate 136 = .ok (.aload_n 0, 1) := by decide +kernel
theorem dX11_gate_137 : decode cX11_gate 137 = .ok (.aload_n 0, 1) := by decide +kernel
theorem dX11_gate_138 : decode cX11_gate 138 = .ok (.getfield 78, 3) := by decide +kernel
theorem dX11_gate_141 : decode cX11_gate 141 = .ok (.getfield 171, 3) := by decide +kernel
theorem dX11_gate_144 : decode cX11_gate 144 = .ok (.iload_n 1, 1) := by decide +kernel
theorem dX11_gate_145 : decode cX11_gate 145 = .ok (.invokestatic 149, 3) := by decide +kernel
theorem dX11_gate_148 : decode cX11_gate 148 = .ok (.invokevirtual 120, 3) := by decide +kernel
theorem dX11_gate_151 : decode cX11_gate 151 = .ok (.ireturn, 1) := by decide +kernel
theorem dX11_gate_152 : decode cX11_gate 152 = .ok (.aload_n 0, 1) := by decide +kernel
theorem dX11_gate_153 : decode cX11_gate 153 = .ok (.iconst 1, 1) := by decide +kernel
theorem dX11_gate_154 : decode cX11_gate 154 = .ok (.invokevirtual 102, 3) := by decide +kernel
theorem dX11_gate_157 : decode cX11_gate 157 = .ok (.ireturn, 1) := by decide +kernel
theorem dX11_person_0 : decode cX11_person 0 = .ok (.aload_n 0, 1) := by decide +kernel
theorem dX11_person_1 : decode cX11_person 1 = .ok (.iload_n 1, 1) := by decide +kernel
theorem dX11_person_2 : decode cX11_person 2 = .ok (.invokevirtual 174, 3) := by decide +kernel
theorem dX11_person_5 : decode cX11_person 5 = .ok (.ifCond .ne 9, 3) := by decide +kernel
theorem dX11_person_8 : decode cX11_person 8 = .ok (.aload_n 0, 1) := by decide +kernel
theorem dX11_person_9 : decode cX11_person 9 = .ok (.iconst 1, 1) := by decide +kernel
theorem dX11_person_10 : decode cX11_person 10 = .ok (.invokevirtual 102, 3) := by decide +kernel
theorem dX11_person_13 : decode cX11_person 13 = .ok (.ireturn, 1) := by decide +kernel
theorem dX11_person_14 : decode cX11_person 14 = .ok (.iload_n 2, 1) := by decide +kernel
theorem dX11_person_15 : decode cX11_person 15 = .ok (.tableswitch 102 0 3 #[29, 49, 69, 89], 29) := by decide +kernel
theorem dX11_person_44 : decode cX11_person 44 = .ok (.aload_n 0, 1) := by decide +kernel
theorem dX11_person_45 : decode cX11_person 45 = .ok (.aload_n 0, 1) := by decide +kernel
theorem dX11_person_46 : decode cX11_person 46 = .ok (.getfield 78, 3) := by decide +kernel
theorem dX11_person_49 : decode cX11_person 49 = .ok (.iload_n 1, 1) := by decide +kernel
theorem dX11_person_50 : decode cX11_person 50 = .ok (.aload_n 0, 1) := by decide +kernel
theorem dX11_person_51 : decode cX11_person 51 = .ok (.getfield 28, 3) := by decide +kernel
theorem dX11_person_54 : decode cX11_person 54 = .ok (.getfield 159, 3) := by decide +kernel
theorem dX11_person_57 : decode cX11_person 57 = .ok (.invokevirtual 177, 3) := by decide +kernel
theorem dX11_person_60 : decode cX11_person 60 = .ok (.invokevirtual 120, 3) := by decide +kernel
theorem dX11_person_63 : decode cX11_person 63 = .ok (.ireturn, 1) := by decide +kernel
theorem dX11_person_64 : decode cX11_person 64 = .ok (.aload_n 0, 1) := by decide +kernel
theorem dX11_person_65 : decode cX11_person 65 = .ok (.aload_n 0, 1) := by decide +kernel
theorem dX11_person_66 : decode cX11_person 66 = .ok (.getfield 78, 3) := by decide +kernel
theorem dX11_person_69 : decode cX11_person 69 = .ok (.iload_n 1, 1) := by decide +kernel
theorem dX11_person_70 : decode cX11_person 70 = .ok (.aload_n 0, 1) := by decide +kernel
theorem dX11_person_71 : decode cX11_person 71 = .ok (.getfield 28, 3) := by decide +kernel
theorem dX11_person_74 : decode cX11_person 74 = .ok (.getfield 159, 3) := by decide +kernel
theorem dX11_person_77 : decode cX11_person 77 = .ok (.invokevirtual 180, 3) := by decide +kernel
theorem dX11_person_80 : decode cX11_person 80 = .ok (.invokevirtual 120, 3) := by decide +kernel
theorem dX11_person_83 : decode cX11_person 83 = .ok (.ireturn, 1) := by decide +kernel
theorem dX11_person_84 : decode cX11_person 84 = .ok (.aload_n 0, 1) := by decide +kernel
theorem dX11_person_85 : decode cX11_person 85 = .ok (.aload_n 0, 1) := by decide +kernel
theorem dX11_person_86 : decode cX11_person 86 = .ok (.getfield 78, 3) := by decide +kernel
theorem dX11_person_89 : decode cX11_person 89 = .ok (.iload_n 1, 1) := by decide +kernel
theorem dX11_person_90 : decode cX11_person 90 = .ok (.aload_n 0, 1) := by decide +kernel
theorem dX11_person_91 : decode cX11_person 91 = .ok (.getfield 28, 3) := by decide +kernel
theorem dX11_person_94 : decode cX11_person 94 = .ok (.getfield 159, 3) := by decide +kernel
theorem dX11_person_97 : decode cX11_person 97 = .ok (.invokevirtual 183, 3) := by decide +kernel
theorem dX11_person_100 : decode cX11_person 100 = .ok (.invokevirtual 120, 3) := by decide +kernel
theorem dX11_person_103 : decode cX11_person 103 = .ok (.ireturn, 1) := by decide +kernel
theorem dX11_person_104 : decode cX11_person 104 = .ok (.aload_n 0, 1) := by decide +kernel
theorem dX11_person_105 : decode cX11_person 105 = .ok (.aload_n 0, 1) := by decide +kernel
theorem dX11_person_106 : decode cX11_person 106 = .ok (.getfield 78, 3) := by decide +kernel
theorem dX11_person_109 : decode cX11_person 109 = .ok (.iload_n 1, 1) := by decide +kernel
theorem dX11_person_110 : decode cX11_person 110 = .ok (.invokevirtual 186, 3) := by decide +kernel
theorem dX11_person_113 : decode cX11_person 113 = .ok (.invokevirtual 120, 3) := by decide +kernel
theorem dX11_person_116 : decode cX11_person 116 = .ok (.ireturn, 1) := by decide +kernel
theorem dX11_person_117 : decode cX11_person 117 = .ok (.aload_n 0, 1) := by decide +kernel
theorem dX11_person_118 : decode cX11_person 118 = .ok (.iconst 1, 1) := by decide +kernel
theorem dX11_person_119 : decode cX11_person 119 = .ok (.invokevirtual 102, 3) := by decide +kernel
theorem dX11_person_122 : decode cX11_person 122 = .ok (.ireturn, 1) := by decide +kernel
theorem dX11_firm_0 : decode cX11_firm 0 = .ok (.iload_n 1, 1) := by decide +kernel
theorem dX11_firm_1 : decode cX11_firm 1 = .ok (.ifCond .lt 14, 3) := by decide +kernel
theorem dX11_firm_4 : decode cX11_firm 4 = .ok (.iload_n 1, 1) := by decide +kernel
theorem dX11_firm_5 : decode cX11_firm 5 = .ok (.aload_n 0, 1) := by decide +kernel
theorem dX11_firm_6 : decode cX11_firm 6 = .ok (.getfield 78, 3) := by decide +kernel
theorem dX11_firm_9 : decode cX11_firm 9 = .ok (.getfield 189, 3) := by decide +kernel
theorem dX11_firm_12 : decode cX11_firm 12 = .ok (.if_icmp .lt 9, 3) := by decide +kernel
theorem dX11_firm_15 : decode cX11_firm 15 = .ok (.aload_n 0, 1) := by decide +kernel
theorem dX11_firm_16 : decode cX11_firm 16 = .ok (.iconst 1, 1) := by decide +kernel
theorem dX11_firm_17 : decode cX11_firm 17 = .ok (.invokevirtual 102, 3) := by decide +kernel
theorem dX11_firm_20 : decode cX11_firm 20 = .ok (.ireturn, 1) := by decide +kernel
theorem dX11_firm_21 : decode cX11_firm 21 = .ok (.iload_n 2, 1) := by decide +kernel
theorem dX11_firm_22 : decode cX11_firm 22 = .ok (.tableswitch 78 0 2 #[26, 42, 58], 26) := by decide +kernel
theorem dX11_firm_48 : decode cX11_firm 48 = .ok (.aload_n 0, 1) := by decide +kernel
theorem dX11_firm_49 : decode cX11_firm 49 = .ok (.aload_n 0, 1) := by decide +kernel
theorem dX11_firm_50 : decode cX11_firm 50 = .ok (.getfield 78, 3) := by decide +kernel
theorem dX11_firm_53 : decode cX11_firm 53 = .ok (.getfield 192, 3) := by decide +kernel
theorem dX11_firm_56 : decode cX11_firm 56 = .ok (.iload_n 1, 1) := by decide +kernel
theorem dX11_firm_57 : decode cX11_firm 57 = .ok (.invokestatic 149, 3) := by decide +kernel
theorem dX11_firm_60 : decode cX11_firm 60 = .ok (.invokevirtual 120, 3) := by decide +kernel
theorem dX11_firm_63 : decode cX11_firm 63 = .ok (.ireturn, 1) := by decide +kernel
theorem dX11_firm_64 : decode cX11_firm 64 = .ok (.aload_n 0, 1) := by decide +kernel
theorem dX11_firm_65 : decode cX11_firm 65 = .ok (.aload_n 0, 1) := by decide +kernel
theorem dX11_firm_66 : decode cX11_firm 66 = .ok (.getfield 78, 3) := by decide +kernel
theorem dX11_firm_69 : decode cX11_firm 69 = .ok (.getfield 195, 3) := by decide +kernel
theorem dX11_firm_72 : decode cX11_firm 72 = .ok (.iload_n 1, 1) := by decide +kernel
theorem dX11_firm_73 : decode cX11_firm 73 = .ok (.invokestatic 149, 3) := by decide +kernel
theorem dX11_firm_76 : decode cX11_firm 76 = .ok (.invokevirtual 120, 3) := by decide +kernel
theorem dX11_firm_79 : decode cX11_firm 79 = .ok (.ireturn, 1) := by decide +kernel
theorem dX11_firm_80 : decode cX11_firm 80 = .ok (.aload_n 0, 1) := by decide +kernel
theorem dX11_firm_81 : decode cX11_firm 81 = .ok (.aload_n 0, 1) := by decide +kernel
theorem dX11_firm_82 : decode cX11_firm 82 = .ok (.getfield 78, 3) := by decide +kernel
theorem dX11_firm_85 : decode cX11_firm 85 = .ok (.iload_n 1, 1) := by decide +kernel
theorem dX11_firm_86 : decode cX11_firm 86 = .ok (.aload_n 0, 1) := by decide +kernel
theorem dX11_firm_87 : decode cX11_firm 87 = .ok (.getfield 28, 3) := by decide +kernel
theorem dX11_firm_90 : decode cX11_firm 90 = .ok (.getfield 159, 3) := by decide +kernel
theorem dX11_firm_93 : decode cX11_firm 93 = .ok (.invokevirtual 198, 3) := by decide +kernel
theorem dX11_firm_96 : decode cX11_firm 96 = .ok (.invokevirtual 120, 3) := by decide +kernel
theorem dX11_firm_99 : decode cX11_firm 99 = .ok (.ireturn, 1) := by decide +kernel
theorem dX11_firm_100 : decode cX11_firm 100 = .ok (.aload_n 0, 1) := by decide +kernel
theorem dX11_firm_101 : decode cX11_firm 101 = .ok (.iconst 1, 1) := by decide +kernel
theorem dX11_firm_102 : decode cX11_firm 102 = .ok (.invokevirtual 102, 3) := by decide +kernel
theorem dX11_firm_105 : decode cX11_firm 105 = .ok (.ireturn, 1) := by decide +kernel
theorem dX11_commons_0 : decode cX11_commons 0 = .ok (.aload_n 0, 1) := by decide +kernel
theorem dX11_commons_1 : decode cX11_commons 1 = .ok (.invokevirtual 201, 3) := by decide +kernel
theorem dX11_commons_4 : decode cX11_commons 4 = .ok (.ifCond .eq 24, 3) := by decide +kernel
theorem dX11_commons_7 : decode cX11_commons 7 = .ok (.aload_n 0, 1) := by decide +kernel
theorem dX11_commons_8 : decode cX11_commons 8 = .ok (.aload_n 0, 1) := by decide +kernel
theorem dX11_commons_9 : decode cX11_commons 9 = .ok (.getfield 78, 3) := by decide +kernel
theorem dX11_commons_12 : decode cX11_commons 12 = .ok (.aload_n 0, 1) := by decide +kernel
theorem dX11_commons_13 : decode cX11_commons 13 = .ok (.getfield 28, 3) := by decide +kernel
theorem dX11_commons_16 : decode cX11_commons 16 = .ok (.getfield 159, 3) := by decide +kernel
theorem dX11_commons_19 : decode cX11_commons 19 = .ok (.invokevirtual 204, 3) := by decide +kernel
theorem dX11_commons_22 : decode cX11_commons 22 = .ok (.invokevirtual 120, 3) := by decide +kernel
theorem dX11_commons_25 : decode cX11_commons 25 = .ok (.goto 8, 3) := by decide +kernel
theorem dX11_commons_28 : decode cX11_commons 28 = .ok (.aload_n 0, 1) := by decide +kernel
theorem dX11_commons_29 : decode cX11_commons 29 = .ok (.iconst 1, 1) := by decide +kernel
theorem dX11_commons_30 : decode cX11_commons 30 = .ok (.invokevirtual 102, 3) := by decide +kernel
theorem dX11_commons_33 : decode cX11_commons 33 = .ok (.ireturn, 1) := by decide +kernel
theorem dX11_richest_0 : decode cX11_richest 0 = .ok (.aload_n 0, 1) := by decide +kernel
theorem dX11_richest_1 : decode cX11_richest 1 = .ok (.invokevirtual 201, 3) := by decide +kernel
theorem dX11_richest_4 : decode cX11_richest 4 = .ok (.ifCond .eq 24, 3) := by decide +kernel
theorem dX11_richest_7 : decode cX11_richest 7 = .ok (.aload_n 0, 1) := by decide +kernel
theorem dX11_richest_8 : decode cX11_richest 8 = .ok (.aload_n 0, 1) := by decide +kernel
theorem dX11_richest_9 : decode cX11_richest 9 = .ok (.getfield 78, 3) := by decide +kernel
theorem dX11_richest_12 : decode cX11_richest 12 = .ok (.aload_n 0, 1) := by decide +kernel
theorem dX11_richest_13 : decode cX11_richest 13 = .ok (.getfield 28, 3) := by decide +kernel
theorem dX11_richest_16 : decode cX11_richest 16 = .ok (.getfield 159, 3) := by decide +kernel
theorem dX11_richest_19 : decode cX11_richest 19 = .ok (.invokevirtual 207, 3) := by decide +kernel
theorem dX11_richest_22 : decode cX11_richest 22 = .ok (.invokevirtual 120, 3) := by decide +kernel
theorem dX11_richest_25 : decode cX11_richest 25 = .ok (.goto 8, 3) := by decide +kernel
theorem dX11_richest_28 : decode cX11_richest 28 = .ok (.aload_n 0, 1) := by decide +kernel
theorem dX11_richest_29 : decode cX11_richest 29 = .ok (.iconst 1, 1) := by decide +kernel
theorem dX11_richest_30 : decode cX11_richest 30 = .ok (.invokevirtual 102, 3) := by decide +kernel
theorem dX11_richest_33 : decode cX11_richest 33 = .ok (.ireturn, 1) := by decide +kernel
theorem dX11_ground_0 : decode cX11_ground 0 = .ok (.aload_n 0, 1) := by decide +kernel
theorem dX11_ground_1 : decode cX11_ground 1 = .ok (.invokevirtual 201, 3) := by decide +kernel
theorem dX11_ground_4 : decode cX11_ground 4 = .ok (.ifCond .eq 24, 3) := by decide +kernel
theorem dX11_ground_7 : decode cX11_ground 7 = .ok (.aload_n 0, 1) := by decide +kernel
theorem dX11_ground_8 : decode cX11_ground 8 = .ok (.aload_n 0, 1) := by decide +kernel
theorem dX11_ground_9 : decode cX11_ground 9 = .ok (.getfield 78, 3) := by decide +kernel
theorem dX11_ground_12 : decode cX11_ground 12 = .ok (.aload_n 0, 1) := by decide +kernel
theorem dX11_ground_13 : decode cX11_ground 13 = .ok (.getfield 28, 3) := by decide +kernel
theorem dX11_ground_16 : decode cX11_ground 16 = .ok (.getfield 159, 3) := by decide +kernel
theorem dX11_ground_19 : decode cX11_ground 19 = .ok (.invokevirtual 210, 3) := by decide +kernel
theorem dX11_ground_22 : decode cX11_ground 22 = .ok (.invokevirtual 120, 3) := by decide +kernel
theorem dX11_ground_25 : decode cX11_ground 25 = .ok (.goto 8, 3) := by decide +kernel
theorem dX11_ground_28 : decode cX11_ground 28 = .ok (.aload_n 0, 1) := by decide +kernel
theorem dX11_ground_29 : decode cX11_ground 29 = .ok (.iconst 1, 1) := by decide +kernel
theorem dX11_ground_30 : decode cX11_ground 30 = .ok (.invokevirtual 102, 3) := by decide +kernel
theorem dX11_ground_33 : decode cX11_ground 33 = .ok (.ireturn, 1) := by decide +kernel
theorem dX11_hasIf_0 : decode cX11_hasIf 0 = .ok (.aload_n 0, 1) := by decide +kernel
theorem dX11_hasIf_1 : decode cX11_hasIf 1 = .ok (.iload_n 1, 1) := by decide +kernel
theorem dX11_hasIf_2 : decode cX11_hasIf 2 = .ok (.invokevirtual 174, 3) := by decide +kernel
theorem dX11_hasIf_5 : decode cX11_hasIf 5 = .ok (.ifCond .eq 11, 3) := by decide +kernel
theorem dX11_hasIf_8 : decode cX11_hasIf 8 = .ok (.aload_n 0, 1) := by decide +kernel
theorem dX11_hasIf_9 : decode cX11_hasIf 9 = .ok (.iload_n 2, 1) := by decide +kernel
theorem dX11_hasIf_10 : decode cX11_hasIf 10 = .ok (.invokevirtual 142, 3) := by decide +kernel
theorem dX11_hasIf_13 : decode cX11_hasIf 13 = .ok (.ifCond .ne 9, 3) := by decide +kernel
theorem dX11_hasIf_16 : decode cX11_hasIf 16 = .ok (.aload_n 0, 1) := by decide +kernel
theorem dX11_hasIf_17 : decode cX11_hasIf 17 = .ok (.iconst 1, 1) := by decide +kernel
theorem dX11_hasIf_18 : decode cX11_hasIf 18 = .ok (.invokevirtual 102, 3) := by decide +kernel
theorem dX11_hasIf_21 : decode cX11_hasIf 21 = .ok (.ireturn, 1) := by decide +kernel
theorem dX11_hasIf_22 : decode cX11_hasIf 22 = .ok (.iload_n 3, 1) := by decide +kernel
theorem dX11_hasIf_23 : decode cX11_hasIf 23 = .ok (.invokestatic 213, 3) := by decide +kernel
theorem dX11_hasIf_26 : decode cX11_hasIf 26 = .ok (.ifCond .ne 9, 3) := by decide +kernel
theorem dX11_hasIf_29 : decode cX11_hasIf 29 = .ok (.aload_n 0, 1) := by decide +kernel
theorem dX11_hasIf_30 : decode cX11_hasIf 30 = .ok (.iconst 2, 1) := by decide +kernel
theorem dX11_hasIf_31 : decode cX11_hasIf 31 = .ok (.invokevirtual 102, 3) := by decide +kernel
theorem dX11_hasIf_34 : decode cX11_hasIf 34 = .ok (.ireturn, 1) := by decide +kernel
theorem dX11_hasIf_35 : decode cX11_hasIf 35 = .ok (.aload_n 0, 1) := by decide +kernel
theorem dX11_hasIf_36 : decode cX11_hasIf 36 = .ok (.aload_n 0, 1) := by decide +kernel
theorem dX11_hasIf_37 : decode cX11_hasIf 37 = .ok (.getfield 78, 3) := by decide +kernel
theorem dX11_hasIf_40 : decode cX11_hasIf 40 = .ok (.iload_n 1, 1) := by decide +kernel
theorem dX11_hasIf_41 : decode cX11_hasIf 41 = .ok (.aload_n 0, 1) := by decide +kernel
theorem dX11_hasIf_42 : decode cX11_hasIf 42 = .ok (.getfield 28, 3) := by decide +kernel
theorem dX11_hasIf_45 : decode cX11_hasIf 45 = .ok (.getfield 159, 3) := by decide +kernel
theorem dX11_hasIf_48 : decode cX11_hasIf 48 = .ok (.iload_n 2, 1) := by decide +kernel
theorem dX11_hasIf_49 : decode cX11_hasIf 49 = .ok (.iload_n 3, 1) := by decide +kernel
theorem dX11_hasIf_50 : decode cX11_hasIf 50 = .ok (.invokestatic 216, 3) := by decide +kernel
theorem dX11_hasIf_53 : decode cX11_hasIf 53 = .ok (.invokevirtual 177, 3) := by decide +kernel
theorem dX11_hasIf_56 : decode cX11_hasIf 56 = .ok (.invokevirtual 120, 3) := by decide +kernel
theorem dX11_hasIf_59 : decode cX11_hasIf 59 = .ok (.ireturn, 1) := by decide +kernel
theorem dX11_can_0 : decode cX11_can 0 = .ok (.iload_n 1, 1) := by decide +kernel
theorem dX11_can_1 : decode cX11_can 1 = .ok (.ifCond .lt 16, 3) := by decide +kernel
theorem dX11_can_4 : decode cX11_can 4 = .ok (.iload_n 1, 1) := by decide +kernel
theorem dX11_can_5 : decode cX11_can 5 = .ok (.iconst 4, 1) := by decide +kernel
theorem dX11_can_6 : decode cX11_can 6 = .ok (.aload_n 0, 1) := by decide +kernel
theorem dX11_can_7 : decode cX11_can 7 = .ok (.getfield 78, 3) := by decide +kernel
theorem dX11_can_10 : decode cX11_can 10 = .ok (.getfield 117, 3) := by decide +kernel
theorem dX11_can_13 : decode cX11_can 13 = .ok (.imul, 1) := by decide +kernel
theorem dX11_can_14 : decode cX11_can 14 = .ok (.if_icmp .lt 9, 3) := by decide +kernel
theorem dX11_can_17 : decode cX11_can 17 = .ok (.aload_n 0, 1) := by decide +kernel
theorem dX11_can_18 : decode cX11_can 18 = .ok (.iconst 1, 1) := by decide +kernel
theorem dX11_can_19 : decode cX11_can 19 = .ok (.invokevirtual 102, 3) := by decide +kernel
theorem dX11_can_22 : decode cX11_can 22 = .ok (.ireturn, 1) := by decide +kernel
theorem dX11_can_23 : decode cX11_can 23 = .ok (.iconst 0, 1) := by decide +kernel
theorem dX11_can_24 : decode cX11_can 24 = .ok (.istore_n 2, 1) := by decide +kernel
theorem dX11_can_25 : decode cX11_can 25 = .ok (.iload_n 1, 1) := by decide +kernel
theorem dX11_can_26 : decode cX11_can 26 = .ok (.istore_n 3, 1) := by decide +kernel
theorem dX11_can_27 : decode cX11_can 27 = .ok (.iload_n 2, 1) := by decide +kernel
theorem dX11_can_28 : decode cX11_can 28 = .ok (.iconst 3, 1) := by decide +kernel
theorem dX11_can_29 : decode cX11_can 29 = .ok (.if_icmp .ge 30, 3) := by decide +kernel
theorem dX11_can_32 : decode cX11_can 32 = .ok (.iload_n 3, 1) := by decide +kernel
theorem dX11_can_33 : decode cX11_can 33 = .ok (.aload_n 0, 1) := by decide +kernel
theorem dX11_can_34 : decode cX11_can 34 = .ok (.getfield 78, 3) := by decide +kernel
theorem dX11_can_37 : decode cX11_can 37 = .ok (.getfield 117, 3) := by decide +kernel
theorem dX11_can_40 : decode cX11_can 40 = .ok (.if_icmp .lt 19, 3) := by decide +kernel
theorem dX11_can_43 : decode cX11_can 43 = .ok (.iload_n 3, 1) := by decide +kernel
theorem dX11_can_44 : decode cX11_can 44 = .ok (.aload_n 0, 1) := by decide +kernel
theorem dX11_can_45 : decode cX11_can 45 = .ok (.getfield 78, 3) := by decide +kernel
theorem dX11_can_48 : decode cX11_can 48 = .ok (.getfield 117, 3) := by decide +kernel
theorem dX11_can_51 : decode cX11_can 51 = .ok (.isub, 1) := by decide +kernel
theorem dX11_can_52 : decode cX11_can 52 = .ok (.istore_n 3, 1) := by decide +kernel
theorem dX11_can_53 : decode cX11_can 53 = .ok (.iinc 2 1, 3) := by decide +kernel
theorem dX11_can_56 : decode cX11_can 56 = .ok (.goto (-29), 3) := by decide +kernel
theorem dX11_can_59 : decode cX11_can 59 = .ok (.aload_n 0, 1) := by decide +kernel
theorem dX11_can_60 : decode cX11_can 60 = .ok (.aload_n 0, 1) := by decide +kernel
theorem dX11_can_61 : decode cX11_can 61 = .ok (.getfield 78, 3) := by decide +kernel
theorem dX11_can_64 : decode cX11_can 64 = .ok (.aload_n 0, 1) := by decide +kernel
theorem dX11_can_65 : decode cX11_can 65 = .ok (.getfield 28, 3) := by decide +kernel
theorem dX11_can_68 : decode cX11_can 68 = .ok (.getfield 159, 3) := by decide +kernel
theorem dX11_can_71 : decode cX11_can 71 = .ok (.iload_n 2, 1) := by decide +kernel
theorem dX11_can_72 : decode cX11_can 72 = .ok (.iload_n 3, 1) := by decide +kernel
theorem dX11_can_73 : decode cX11_can 73 = .ok (.invokevirtual 220, 3) := by decide +kernel
theorem dX11_can_76 : decode cX11_can 76 = .ok (.iconst (-1), 1) := by decide +kernel
theorem dX11_can_77 : decode cX11_can 77 = .ok (.if_icmp .ne 7, 3) := by decide +kernel
theorem dX11_can_80 : decode cX11_can 80 = .ok (.iconst 0, 1) := by decide +kernel
theorem dX11_can_81 : decode cX11_can 81 = .ok (.goto 4, 3) := by decide +kernel
theorem dX11_can_84 : decode cX11_can 84 = .ok (.iconst 1, 1) := by decide +kernel
theorem dX11_can_85 : decode cX11_can 85 = .ok (.invokevirtual 120, 3) := by decide +kernel
theorem dX11_can_88 : decode cX11_can 88 = .ok (.ireturn, 1) := by decide +kernel
theorem dX11_errand_0 : decode cX11_errand 0 = .ok (.aload_n 0, 1) := by decide +kernel
theorem dX11_errand_1 : decode cX11_errand 1 = .ok (.invokevirtual 201, 3) := by decide +kernel
theorem dX11_errand_4 : decode cX11_errand 4 = .ok (.ifCond .ne 9, 3) := by decide +kernel
theorem dX11_errand_7 : decode cX11_errand 7 = .ok (.aload_n 0, 1) := by decide +kernel
theorem dX11_errand_8 : decode cX11_errand 8 = .ok (.iconst 1, 1) := by decide +kernel
theorem dX11_errand_9 : decode cX11_errand 9 = .ok (.invokevirtual 102, 3) := by decide +kernel
theorem dX11_errand_12 : decode cX11_errand 12 = .ok (.ireturn, 1) := by decide +kernel
theorem dX11_errand_13 : decode cX11_errand 13 = .ok (.aload_n 0, 1) := by decide +kernel
theorem dX11_errand_14 : decode cX11_errand 14 = .ok (.getfield 50, 3) := by decide +kernel
theorem dX11_errand_17 : decode cX11_errand 17 = .ok (.aload_n 0, 1) := by decide +kernel
theorem dX11_errand_18 : decode cX11_errand 18 = .ok (.getfield 78, 3) := by decide +kernel
theorem dX11_errand_21 : decode cX11_errand 21 = .ok (.aload_n 0, 1) := by decide +kernel
theorem dX11_errand_22 : decode cX11_errand 22 = .ok (.getfield 28, 3) := by decide +kernel
theorem dX11_errand_25 : decode cX11_errand 25 = .ok (.getfield 159, 3) := by decide +kernel
theorem dX11_errand_28 : decode cX11_errand 28 = .ok (.invokevirtual 223, 3) := by decide +kernel
theorem dX11_errand_31 : decode cX11_errand 31 = .ok (.aload_n 0, 1) := by decide +kernel
theorem dX11_errand_32 : decode cX11_errand 32 = .ok (.getfield 50, 3) := by decide +kernel
theorem dX11_errand_35 : decode cX11_errand 35 = .ok (.aload_n 0, 1) := by decide +kernel
theorem dX11_errand_36 : decode cX11_errand 36 = .ok (.getfield 78, 3) := by decide +kernel
theorem dX11_errand_39 : decode cX11_errand 39 = .ok (.invokevirtual 227, 3) := by decide +kernel
theorem dX11_errand_42 : decode cX11_errand 42 = .ok (.istore_n 1, 1) := by decide +kernel
theorem dX11_errand_43 : decode cX11_errand 43 = .ok (.aload_n 0, 1) := by decide +kernel
theorem dX11_errand_44 : decode cX11_errand 44 = .ok (.iload_n 1, 1) := by decide +kernel
theorem dX11_errand_45 : decode cX11_errand 45 = .ok (.iconst (-1), 1) := by decide +kernel
theorem dX11_errand_46 : decode cX11_errand 46 = .ok (.if_icmp .ne 8, 3) := by decide +kernel
theorem dX11_errand_49 : decode cX11_errand 49 = .ok (.bipush (-2), 2) := by decide +kernel
theorem dX11_errand_51 : decode cX11_errand 51 = .ok (.goto 11, 3) := by decide +kernel
theorem dX11_errand_54 : decode cX11_errand 54 = .ok (.aload_n 0, 1) := by decide +kernel
theorem dX11_errand_55 : decode cX11_errand 55 = .ok (.getfield 50, 3) := by decide +kernel
theorem dX11_errand_58 : decode cX11_errand 58 = .ok (.iload_n 1, 1) := by decide +kernel
theorem dX11_errand_59 : decode cX11_errand 59 = .ok (.invokevirtual 231, 3) := by decide +kernel
theorem dX11_errand_62 : decode cX11_errand 62 = .ok (.invokevirtual 120, 3) := by decide +kernel
theorem dX11_errand_65 : decode cX11_errand 65 = .ok (.ireturn, 1) := by decide +kernel
theorem dX11_errandAt_0 : decode cX11_errandAt 0 = .ok (.aload_n 0, 1) := by decide +kernel
theorem dX11_errandAt_1 : decode cX11_errandAt 1 = .ok (.invokevirtual 201, 3) := by decide +kernel
theorem dX11_errandAt_4 : decode cX11_errandAt 4 = .ok (.ifCond .ne 9, 3) := by decide +kernel
theorem dX11_errandAt_7 : decode cX11_errandAt 7 = .ok (.aload_n 0, 1) := by decide +kernel
theorem dX11_errandAt_8 : decode cX11_errandAt 8 = .ok (.iconst 1, 1) := by decide +kernel
theorem dX11_errandAt_9 : decode cX11_errandAt 9 = .ok (.invokevirtual 102, 3) := by decide +kernel
theorem dX11_errandAt_12 : decode cX11_errandAt 12 = .ok (.ireturn, 1) := by decide +kernel
theorem dX11_errandAt_13 : decode cX11_errandAt 13 = .ok (.aload_n 0, 1) := by decide +kernel
theorem dX11_errandAt_14 : decode cX11_errandAt 14 = .ok (.getfield 50, 3) := by decide +kernel
theorem dX11_errandAt_17 : decode cX11_errandAt 17 = .ok (.aload_n 0, 1) := by decide +kernel
theorem dX11_errandAt_18 : decode cX11_errandAt 18 = .ok (.getfield 78, 3) := by decide +kernel
theorem dX11_errandAt_21 : decode cX11_errandAt 21 = .ok (.aload_n 0, 1) := by decide +kernel
theorem dX11_errandAt_22 : decode cX11_errandAt 22 = .ok (.getfield 28, 3) := by decide +kernel
theorem dX11_errandAt_25 : decode cX11_errandAt 25 = .ok (.getfield 159, 3) := by decide +kernel
theorem dX11_errandAt_28 : decode cX11_errandAt 28 = .ok (.invokevirtual 223, 3) := by decide +kernel
theorem dX11_errandAt_31 : decode cX11_errandAt 31 = .ok (.aload_n 0, 1) := by decide +kernel
theorem dX11_errandAt_32 : decode cX11_errandAt 32 = .ok (.getfield 50, 3) := by decide +kernel
theorem dX11_errandAt_35 : decode cX11_errandAt 35 = .ok (.aload_n 0, 1) := by decide +kernel
theorem dX11_errandAt_36 : decode cX11_errandAt 36 = .ok (.getfield 78, 3) := by decide +kernel
theorem dX11_errandAt_39 : decode cX11_errandAt 39 = .ok (.invokevirtual 227, 3) := by decide +kernel
theorem dX11_errandAt_42 : decode cX11_errandAt 42 = .ok (.istore_n 2, 1) := by decide +kernel
theorem dX11_errandAt_43 : decode cX11_errandAt 43 = .ok (.iload_n 2, 1) := by decide +kernel
theorem dX11_errandAt_44 : decode cX11_errandAt 44 = .ok (.iconst (-1), 1) := by decide +kernel
theorem dX11_errandAt_45 : decode cX11_errandAt 45 = .ok (.if_icmp .eq 19, 3) := by decide +kernel
theorem dX11_errandAt_48 : decode cX11_errandAt 48 = .ok (.iload_n 1, 1) := by decide +kernel
theorem dX11_errandAt_49 : decode cX11_errandAt 49 = .ok (.ifCond .lt 15, 3) := by decide +kernel
theorem dX11_errandAt_52 : decode cX11_errandAt 52 = .ok (.iload_n 1, 1) := by decide +kernel
theorem dX11_errandAt_53 : decode cX11_errandAt 53 = .ok (.aload_n 0, 1) := by decide +kernel
theorem dX11_errandAt_54 : decode cX11_errandAt 54 = .ok (.getfield 50, 3) := by decide +kernel
theorem dX11_errandAt_57 : decode cX11_errandAt 57 = .ok (.iload_n 2, 1) := by decide +kernel
theorem dX11_errandAt_58 : decode cX11_errandAt 58 = .ok (.invokevirtual 231, 3) := by decide +kernel
theorem dX11_errandAt_61 : decode cX11_errandAt 61 = .ok (.if_icmp .lt 9, 3) := by decide +kernel
theorem dX11_errandAt_64 : decode cX11_errandAt 64 = .ok (.aload_n 0, 1) := by decide +kernel
theorem dX11_errandAt_65 : decode cX11_errandAt 65 = .ok (.iconst 1, 1) := by decide +kernel
theorem dX11_errandAt_66 : decode cX11_errandAt 66 = .ok (.invokevirtual 102, 3) := by decide +kernel
theorem dX11_errandAt_69 : decode cX11_errandAt 69 = .ok (.ireturn, 1) := by decide +kernel
theorem dX11_errandAt_70 : decode cX11_errandAt 70 = .ok (.aload_n 0, 1) := by decide +kernel
theorem dX11_errandAt_71 : decode cX11_errandAt 71 = .ok (.aload_n 0, 1) := by decide +kernel
theorem dX11_errandAt_72 : decode cX11_errandAt 72 = .ok (.getfield 50, 3) := by decide +kernel
theorem dX11_errandAt_75 : decode cX11_errandAt 75 = .ok (.iload_n 2, 1) := by decide +kernel
theorem dX11_errandAt_76 : decode cX11_errandAt 76 = .ok (.iload_n 1, 1) := by decide +kernel
theorem dX11_errandAt_77 : decode cX11_errandAt 77 = .ok (.invokevirtual 234, 3) := by decide +kernel
theorem dX11_errandAt_80 : decode cX11_errandAt 80 = .ok (.invokevirtual 120, 3) := by decide +kernel
theorem dX11_errandAt_83 : decode cX11_errandAt 83 = .ok (.ireturn, 1) := by decide +kernel
theorem dX11_met_0 : decode cX11_met 0 = .ok (.aload_n 0, 1) := by decide +kernel
theorem dX11_met_1 : decode cX11_met 1 = .ok (.invokevirtual 201, 3) := by decide +kernel
theorem dX11_met_4 : decode cX11_met 4 = .ok (.ifCond .eq 31, 3) := by decide +kernel
theorem dX11_met_7 : decode cX11_met 7 = .ok (.aload_n 0, 1) := by decide +kernel
theorem dX11_met_8 : decode cX11_met 8 = .ok (.aload_n 0, 1) := by decide +kernel
theorem dX11_met_9 : decode cX11_met 9 = .ok (.getfield 78, 3) := by decide +kernel
theorem dX11_met_12 : decode cX11_met 12 = .ok (.getfield 237, 3) := by decide +kernel
theorem dX11_met_15 : decode cX11_met 15 = .ok (.aload_n 0, 1) := by decide +kernel
theorem dX11_met_16 : decode cX11_met 16 = .ok (.getfield 78, 3) := by decide +kernel
theorem dX11_met_19 : decode cX11_met 19 = .ok (.aload_n 0, 1) := by decide +kernel
theorem dX11_met_20 : decode cX11_met 20 = .ok (.getfield 28, 3) := by decide +kernel
theorem dX11_met_23 : decode cX11_met 23 = .ok (.getfield 159, 3) := by decide +kernel
theorem dX11_met_26 : decode cX11_met 26 = .ok (.invokevirtual 241, 3) := by decide +kernel
theorem dX11_met_29 : decode cX11_met 29 = .ok (.invokevirtual 120, 3) := by decide +kernel
theorem dX11_met_32 : decode cX11_met 32 = .ok (.goto 8, 3) := by decide +kernel
theorem dX11_met_35 : decode cX11_met 35 = .ok (.aload_n 0, 1) := by decide +kernel
theorem dX11_met_36 : decode cX11_met 36 = .ok (.iconst 1, 1) := by decide +kernel
theorem dX11_met_37 : decode cX11_met 37 = .ok (.invokevirtual 102, 3) := by decide +kernel
theorem dX11_met_40 : decode cX11_met 40 = .ok (.ireturn, 1) := by decide +kernel
theorem dX11_movesFor_0 : decode cX11_movesFor 0 = .ok (.aload_n 0, 1) := by decide +kernel
theorem dX11_movesFor_1 : decode cX11_movesFor 1 = .ok (.iload_n 1, 1) := by decide +kernel
theorem dX11_movesFor_2 : decode cX11_movesFor 2 = .ok (.invokevirtual 174, 3) := by decide +kernel
theorem dX11_movesFor_5 : decode cX11_movesFor 5 = .ok (.ifCond .ne 9, 3) := by decide +kernel
theorem dX11_movesFor_8 : decode cX11_movesFor 8 = .ok (.aload_n 0, 1) := by decide +kernel
theorem dX11_movesFor_9 : decode cX11_movesFor 9 = .ok (.iconst 1, 1) := by decide +kernel
theorem dX11_movesFor_10 : decode cX11_movesFor 10 = .ok (.invokevirtual 102, 3) := by decide +kernel
theorem dX11_movesFor_13 : decode cX11_movesFor 13 = .ok (.ireturn, 1) := by decide +kernel
theorem dX11_movesFor_14 : decode cX11_movesFor 14 = .ok (.iload_n 2, 1) := by decide +kernel
theorem dX11_movesFor_15 : decode cX11_movesFor 15 = .ok (.invokestatic 247, 3) := by decide +kernel
theorem dX11_movesFor_18 : decode cX11_movesFor 18 = .ok (.ifCond .ne 9, 3) := by decide +kernel
theorem dX11_movesFor_21 : decode cX11_movesFor 21 = .ok (.aload_n 0, 1) := by decide +kernel
theorem dX11_movesFor_22 : decode cX11_movesFor 22 = .ok (.iconst 2, 1) := by decide +kernel
theorem dX11_movesFor_23 : decode cX11_movesFor 23 = .ok (.invokevirtual 102, 3) := by decide +kernel
theorem dX11_movesFor_26 : decode cX11_movesFor 26 = .ok (.ireturn, 1) := by decide +kernel
theorem dX11_movesFor_27 : decode cX11_movesFor 27 = .ok (.aload_n 0, 1) := by decide +kernel
theorem dX11_movesFor_28 : decode cX11_movesFor 28 = .ok (.getfield 50, 3) := by decide +kernel
theorem dX11_movesFor_31 : decode cX11_movesFor 31 = .ok (.aload_n 0, 1) := by decide +kernel
theorem dX11_movesFor_32 : decode cX11_movesFor 32 = .ok (.getfield 78, 3) := by decide +kernel
theorem dX11_movesFor_35 : decode cX11_movesFor 35 = .ok (.aload_n 0, 1) := by decide +kernel
theorem dX11_movesFor_36 : decode cX11_movesFor 36 = .ok (.getfield 28, 3) := by decide +kernel
theorem dX11_movesFor_39 : decode cX11_movesFor 39 = .ok (.getfield 159, 3) := by decide +kernel
theorem dX11_movesFor_42 : decode cX11_movesFor 42 = .ok (.invokevirtual 223, 3) := by decide +kernel
theorem dX11_movesFor_45 : decode cX11_movesFor 45 = .ok (.aload_n 0, 1) := by decide +kernel
theorem dX11_movesFor_46 : decode cX11_movesFor 46 = .ok (.getfield 50, 3) := by decide +kernel
theorem dX11_movesFor_49 : decode cX11_movesFor 49 = .ok (.aload_n 0, 1) := by decide +kernel
theorem dX11_movesFor_50 : decode cX11_movesFor 50 = .ok (.getfield 78, 3) := by decide +kernel
theorem dX11_movesFor_53 : decode cX11_movesFor 53 = .ok (.iload_n 1, 1) := by decide +kernel
theorem dX11_movesFor_54 : decode cX11_movesFor 54 = .ok (.iload_n 2, 1) := by decide +kernel
theorem dX11_movesFor_55 : decode cX11_movesFor 55 = .ok (.invokevirtual 250, 3) := by decide +kernel
theorem dX11_movesFor_58 : decode cX11_movesFor 58 = .ok (.istore_n 3, 1) := by decide +kernel
theorem dX11_movesFor_59 : decode cX11_movesFor 59 = .ok (.aload_n 0, 1) := by decide +kernel
theorem dX11_movesFor_60 : decode cX11_movesFor 60 = .ok (.iload_n 3, 1) := by decide +kernel
theorem dX11_movesFor_61 : decode cX11_movesFor 61 = .ok (.iconst (-1), 1) := by decide +kernel
theorem dX11_movesFor_62 : decode cX11_movesFor 62 = .ok (.if_icmp .ne 8, 3) := by decide +kernel
theorem dX11_movesFor_65 : decode cX11_movesFor 65 = .ok (.bipush (-2), 2) := by decide +kernel
theorem dX11_movesFor_67 : decode cX11_movesFor 67 = .ok (.goto 11, 3) := by decide +kernel
theorem dX11_movesFor_70 : decode cX11_movesFor 70 = .ok (.aload_n 0, 1) := by decide +kernel
theorem dX11_movesFor_71 : decode cX11_movesFor 71 = .ok (.getfield 50, 3) := by decide +kernel
theorem dX11_movesFor_74 : decode cX11_movesFor 74 = .ok (.iload_n 3, 1) := by decide +kernel
theorem dX11_movesFor_75 : decode cX11_movesFor 75 = .ok (.invokevirtual 231, 3) := by decide +kernel
theorem dX11_movesFor_78 : decode cX11_movesFor 78 = .ok (.invokevirtual 120, 3) := by decide +kernel
theorem dX11_movesFor_81 : decode cX11_movesFor 81 = .ok (.ireturn, 1) := by decide +kernel
theorem dX11_mostBy_0 : decode cX11_mostBy 0 = .ok (.aload_n 0, 1) := by decide +kernel
theorem dX11_mostBy_1 : decode cX11_mostBy 1 = .ok (.iload_n 1, 1) := by decide +kernel
theorem dX11_mostBy_2 : decode cX11_mostBy 2 = .ok (.invokevirtual 174, 3) := by decide +kernel
theorem dX11_mostBy_5 : decode cX11_mostBy 5 = .ok (.ifCond .ne 9, 3) := by decide +kernel
theorem dX11_mostBy_8 : decode cX11_mostBy 8 = .ok (.aload_n 0, 1) := by decide +kernel
theorem dX11_mostBy_9 : decode cX11_mostBy 9 = .ok (.iconst 1, 1) := by decide +kernel
theorem dX11_mostBy_10 : decode cX11_mostBy 10 = .ok (.invokevirtual 102, 3) := by decide +kernel
theorem dX11_mostBy_13 : decode cX11_mostBy 13 = .ok (.ireturn, 1) := by decide +kernel
theorem dX11_mostBy_14 : decode cX11_mostBy 14 = .ok (.iload_n 2, 1) := by decide +kernel
theorem dX11_mostBy_15 : decode cX11_mostBy 15 = .ok (.ifCond .lt 9, 3) := by decide +kernel
theorem dX11_mostBy_18 : decode cX11_mostBy 18 = .ok (.iload_n 2, 1) := by decide +kernel
theorem dX11_mostBy_19 : decode cX11_mostBy 19 = .ok (.bipush 20, 2) := by decide +kernel
theorem dX11_mostBy_21 : decode cX11_mostBy 21 = .ok (.if_icmp .le 9, 3) := by decide +kernel
theorem dX11_mostBy_24 : decode cX11_mostBy 24 = .ok (.aload_n 0, 1) := by decide +kernel
theorem dX11_mostBy_25 : decode cX11_mostBy 25 = .ok (.iconst 2, 1) := by decide +kernel
theorem dX11_mostBy_26 : decode cX11_mostBy 26 = .ok (.invokevirtual 102, 3) := by decide +kernel
theorem dX11_mostBy_29 : decode cX11_mostBy 29 = .ok (.ireturn, 1) := by decide +kernel
theorem dX11_mostBy_30 : decode cX11_mostBy 30 = .ok (.aload_n 0, 1) := by decide +kernel
theorem dX11_mostBy_31 : decode cX11_mostBy 31 = .ok (.getfield 50, 3) := by decide +kernel
theorem dX11_mostBy_34 : decode cX11_mostBy 34 = .ok (.aload_n 0, 1) := by decide +kernel
theorem dX11_mostBy_35 : decode cX11_mostBy 35 = .ok (.getfield 78, 3) := by decide +kernel
theorem dX11_mostBy_38 : decode cX11_mostBy 38 = .ok (.aload_n 0, 1) := by decide +kernel
theorem dX11_mostBy_39 : decode cX11_mostBy 39 = .ok (.getfield 28, 3) := by decide +kernel
theorem dX11_mostBy_42 : decode cX11_mostBy 42 = .ok (.getfield 159, 3) := by decide +kernel
theorem dX11_mostBy_45 : decode cX11_mostBy 45 = .ok (.invokevirtual 223, 3) := by decide +kernel
theorem dX11_mostBy_48 : decode cX11_mostBy 48 = .ok (.aload_n 0, 1) := by decide +kernel
theorem dX11_mostBy_49 : decode cX11_mostBy 49 = .ok (.aload_n 0, 1) := by decide +kernel
theorem dX11_mostBy_50 : decode cX11_mostBy 50 = .ok (.getfield 50, 3) := by decide +kernel
theorem dX11_mostBy_53 : decode cX11_mostBy 53 = .ok (.aload_n 0, 1) := by decide +kernel
theorem dX11_mostBy_54 : decode cX11_mostBy 54 = .ok (.getfield 78, 3) := by decide +kernel
theorem dX11_mostBy_57 : decode cX11_mostBy 57 = .ok (.iload_n 1, 1) := by decide +kernel
theorem dX11_mostBy_58 : decode cX11_mostBy 58 = .ok (.iload_n 2, 1) := by decide +kernel
theorem dX11_mostBy_59 : decode cX11_mostBy 59 = .ok (.invokevirtual 254, 3) := by decide +kernel
theorem dX11_mostBy_62 : decode cX11_mostBy 62 = .ok (.invokevirtual 120, 3) := by decide +kernel
theorem dX11_mostBy_65 : decode cX11_mostBy 65 = .ok (.ireturn, 1) := by decide +kernel
theorem dX11_reach_0 : decode cX11_reach 0 = .ok (.aload_n 0, 1) := by decide +kernel
theorem dX11_reach_1 : decode cX11_reach 1 = .ok (.invokevirtual 201, 3) := by decide +kernel
theorem dX11_reach_4 : decode cX11_reach 4 = .ok (.ifCond .ne 9, 3) := by decide +kernel
theorem dX11_reach_7 : decode cX11_reach 7 = .ok (.aload_n 0, 1) := by decide +kernel
theorem dX11_reach_8 : decode cX11_reach 8 = .ok (.iconst 1, 1) := by decide +kernel
theorem dX11_reach_9 : decode cX11_reach 9 = .ok (.invokevirtual 102, 3) := by decide +kernel
theorem dX11_reach_12 : decode cX11_reach 12 = .ok (.ireturn, 1) := by decide +kernel
theorem dX11_reach_13 : decode cX11_reach 13 = .ok (.aload_n 0, 1) := by decide +kernel
theorem dX11_reach_14 : decode cX11_reach 14 = .ok (.getfield 50, 3) := by decide +kernel
theorem dX11_reach_17 : decode cX11_reach 17 = .ok (.aload_n 0, 1) := by decide +kernel
theorem dX11_reach_18 : decode cX11_reach 18 = .ok (.getfield 78, 3) := by decide +kernel
theorem dX11_reach_21 : decode cX11_reach 21 = .ok (.aload_n 0, 1) := by decide +kernel
theorem dX11_reach_22 : decode cX11_reach 22 = .ok (.getfield 28, 3) := by decide +kernel
theorem dX11_reach_25 : decode cX11_reach 25 = .ok (.getfield 159, 3) := by decide +kernel
theorem dX11_reach_28 : decode cX11_reach 28 = .ok (.invokevirtual 223, 3) := by decide +kernel
theorem dX11_reach_31 : decode cX11_reach 31 = .ok (.aload_n 0, 1) := by decide +kernel
theorem dX11_reach_32 : decode cX11_reach 32 = .ok (.aload_n 0, 1) := by decide +kernel
theorem dX11_reach_33 : decode cX11_reach 33 = .ok (.getfield 50, 3) := by decide +kernel
theorem dX11_reach_36 : decode cX11_reach 36 = .ok (.getfield 257, 3) := by decide +kernel
theorem dX11_reach_39 : decode cX11_reach 39 = .ok (.invokevirtual 120, 3) := by decide +kernel
theorem dX11_reach_42 : decode cX11_reach 42 = .ok (.ireturn, 1) := by decide +kernel
theorem dX11_cover_0 : decode cX11_cover 0 = .ok (.aload_n 0, 1) := by decide +kernel
theorem dX11_cover_1 : decode cX11_cover 1 = .ok (.invokevirtual 201, 3) := by decide +kernel
theorem dX11_cover_4 : decode cX11_cover 4 = .ok (.ifCond .ne 9, 3) := by decide +kernel
theorem dX11_cover_7 : decode cX11_cover 7 = .ok (.aload_n 0, 1) := by decide +kernel
theorem dX11_cover_8 : decode cX11_cover 8 = .ok (.iconst 1, 1) := by decide +kernel
theorem dX11_cover_9 : decode cX11_cover 9 = .ok (.invokevirtual 102, 3) := by decide +kernel
theorem dX11_cover_12 : decode cX11_cover 12 = .ok (.ireturn, 1) := by decide +kernel
theorem dX11_cover_13 : decode cX11_cover 13 = .ok (.aload_n 0, 1) := by decide +kernel
theorem dX11_cover_14 : decode cX11_cover 14 = .ok (.getfield 57, 3) := by decide +kernel
theorem dX11_cover_17 : decode cX11_cover 17 = .ok (.aload_n 0, 1) := by decide +kernel
theorem dX11_cover_18 : decode cX11_cover 18 = .ok (.getfield 78, 3) := by decide +kernel
theorem dX11_cover_21 : decode cX11_cover 21 = .ok (.invokevirtual 258, 3) := by decide +kernel
theorem dX11_cover_24 : decode cX11_cover 24 = .ok (.aload_n 0, 1) := by decide +kernel
theorem dX11_cover_25 : decode cX11_cover 25 = .ok (.aload_n 0, 1) := by decide +kernel
theorem dX11_cover_26 : decode cX11_cover 26 = .ok (.getfield 57, 3) := by decide +kernel
theorem dX11_cover_29 : decode cX11_cover 29 = .ok (.getfield 262, 3) := by decide +kernel
theorem dX11_cover_32 : decode cX11_cover 32 = .ok (.iconst (-1), 1) := by decide +kernel
theorem dX11_cover_33 : decode cX11_cover 33 = .ok (.if_icmp .ne 8, 3) := by decide +kernel
theorem dX11_cover_36 : decode cX11_cover 36 = .ok (.bipush (-2), 2) := by decide +kernel
theorem dX11_cover_38 : decode cX11_cover 38 = .ok (.goto 13, 3) := by decide +kernel
theorem dX11_cover_41 : decode cX11_cover 41 = .ok (.aload_n 0, 1) := by decide +kernel
theorem dX11_cover_42 : decode cX11_cover 42 = .ok (.getfield 57, 3) := by decide +kernel
theorem dX11_cover_45 : decode cX11_cover 45 = .ok (.getfield 262, 3) := by decide +kernel
theorem dX11_cover_48 : decode cX11_cover 48 = .ok (.invokestatic 265, 3) := by decide +kernel
theorem dX11_cover_51 : decode cX11_cover 51 = .ok (.invokevirtual 120, 3) := by decide +kernel
theorem dX11_cover_54 : decode cX11_cover 54 = .ok (.ireturn, 1) := by decide +kernel
theorem dX11_coverAt_0 : decode cX11_coverAt 0 = .ok (.aload_n 0, 1) := by decide +kernel
theorem dX11_coverAt_1 : decode cX11_coverAt 1 = .ok (.iload_n 1, 1) := by decide +kernel
theorem dX11_coverAt_2 : decode cX11_coverAt 2 = .ok (.invokevirtual 142, 3) := by decide +kernel
theorem dX11_coverAt_5 : decode cX11_coverAt 5 = .ok (.ifCond .ne 9, 3) := by decide +kernel
theorem dX11_coverAt_8 : decode cX11_coverAt 8 = .ok (.aload_n 0, 1) := by decide +kernel
theorem dX11_coverAt_9 : decode cX11_coverAt 9 = .ok (.iconst 1, 1) := by decide +kernel
theorem dX11_coverAt_10 : decode cX11_coverAt 10 = .ok (.invokevirtual 102, 3) := by decide +kernel
theorem dX11_coverAt_13 : decode cX11_coverAt 13 = .ok (.ireturn, 1) := by decide +kernel
theorem dX11_coverAt_14 : decode cX11_coverAt 14 = .ok (.aload_n 0, 1) := by decide +kernel
theorem dX11_coverAt_15 : decode cX11_coverAt 15 = .ok (.getfield 57, 3) := by decide +kernel
theorem dX11_coverAt_18 : decode cX11_coverAt 18 = .ok (.aload_n 0, 1) := by decide +kernel
theorem dX11_coverAt_19 : decode cX11_coverAt 19 = .ok (.getfield 78, 3) := by decide +kernel
theorem dX11_coverAt_22 : decode cX11_coverAt 22 = .ok (.invokevirtual 258, 3) := by decide +kernel
theorem dX11_coverAt_25 : decode cX11_coverAt 25 = .ok (.aload_n 0, 1) := by decide +kernel
theorem dX11_coverAt_26 : decode cX11_coverAt 26 = .ok (.aload_n 0, 1) := by decide +kernel
theorem dX11_coverAt_27 : decode cX11_coverAt 27 = .ok (.getfield 57, 3) := by decide +kernel
theorem dX11_coverAt_30 : decode cX11_coverAt 30 = .ok (.getfield 262, 3) := by decide +kernel
theorem dX11_coverAt_33 : decode cX11_coverAt 33 = .ok (.iconst (-1), 1) := by decide +kernel
theorem dX11_coverAt_34 : decode cX11_coverAt 34 = .ok (.if_icmp .ne 8, 3) := by decide +kernel
theorem dX11_coverAt_37 : decode cX11_coverAt 37 = .ok (.bipush (-2), 2) := by decide +kernel
theorem dX11_coverAt_39 : decode cX11_coverAt 39 = .ok (.goto 14, 3) := by decide +kernel
theorem dX11_coverAt_42 : decode cX11_coverAt 42 = .ok (.aload_n 0, 1) := by decide +kernel
theorem dX11_coverAt_43 : decode cX11_coverAt 43 = .ok (.getfield 57, 3) := by decide +kernel
theorem dX11_coverAt_46 : decode cX11_coverAt 46 = .ok (.getfield 262, 3) := by decide +kernel
theorem dX11_coverAt_49 : decode cX11_coverAt 49 = .ok (.iload_n 1, 1) := by decide +kernel
theorem dX11_coverAt_50 : decode cX11_coverAt 50 = .ok (.invokestatic 162, 3) := by decide +kernel
theorem dX11_coverAt_53 : decode cX11_coverAt 53 = .ok (.invokevirtual 120, 3) := by decide +kernel
theorem dX11_coverAt_56 : decode cX11_coverAt 56 = .ok (.ireturn, 1) := by decide +kernel
theorem dX11_stills_0 : decode cX11_stills 0 = .ok (.aload_n 0, 1) := by decide +kernel
theorem dX11_stills_1 : decode cX11_stills 1 = .ok (.invokevirtual 201, 3) := by decide +kernel
theorem dX11_stills_4 : decode cX11_stills 4 = .ok (.ifCond .ne 9, 3) := by decide +kernel
theorem dX11_stills_7 : decode cX11_stills 7 = .ok (.aload_n 0, 1) := by decide +kernel
theorem dX11_stills_8 : decode cX11_stills 8 = .ok (.iconst 1, 1) := by decide +kernel
theorem dX11_stills_9 : decode cX11_stills 9 = .ok (.invokevirtual 102, 3) := by decide +kernel
theorem dX11_stills_12 : decode cX11_stills 12 = .ok (.ireturn, 1) := by decide +kernel
theorem dX11_stills_13 : decode cX11_stills 13 = .ok (.aload_n 0, 1) := by decide +kernel
theorem dX11_stills_14 : decode cX11_stills 14 = .ok (.getfield 57, 3) := by decide +kernel
theorem dX11_stills_17 : decode cX11_stills 17 = .ok (.aload_n 0, 1) := by decide +kernel
theorem dX11_stills_18 : decode cX11_stills 18 = .ok (.getfield 78, 3) := by decide +kernel
theorem dX11_stills_21 : decode cX11_stills 21 = .ok (.invokevirtual 258, 3) := by decide +kernel
theorem dX11_stills_24 : decode cX11_stills 24 = .ok (.aload_n 0, 1) := by decide +kernel
theorem dX11_stills_25 : decode cX11_stills 25 = .ok (.aload_n 0, 1) := by decide +kernel
theorem dX11_stills_26 : decode cX11_stills 26 = .ok (.getfield 57, 3) := by decide +kernel
theorem dX11_stills_29 : decode cX11_stills 29 = .ok (.getfield 268, 3) := by decide +kernel
theorem dX11_stills_32 : decode cX11_stills 32 = .ok (.invokevirtual 120, 3) := by decide +kernel
theorem dX11_stills_35 : decode cX11_stills 35 = .ok (.ireturn, 1) := by decide +kernel
theorem dX11_isStill_0 : decode cX11_isStill 0 = .ok (.aload_n 0, 1) := by decide +kernel
theorem dX11_isStill_1 : decode cX11_isStill 1 = .ok (.invokevirtual 201, 3) := by decide +kernel
theorem dX11_isStill_4 : decode cX11_isStill 4 = .ok (.ifCond .ne 9, 3) := by decide +kernel
theorem dX11_isStill_7 : decode cX11_isStill 7 = .ok (.aload_n 0, 1) := by decide +kernel
theorem dX11_isStill_8 : decode cX11_isStill 8 = .ok (.iconst 1, 1) := by decide +kernel
theorem dX11_isStill_9 : decode cX11_isStill 9 = .ok (.invokevirtual 102, 3) := by decide +kernel
theorem dX11_isStill_12 : decode cX11_isStill 12 = .ok (.ireturn, 1) := by decide +kernel
theorem dX11_isStill_13 : decode cX11_isStill 13 = .ok (.aload_n 0, 1) := by decide +kernel
theorem dX11_isStill_14 : decode cX11_isStill 14 = .ok (.aload_n 0, 1) := by decide +kernel
theorem dX11_isStill_15 : decode cX11_isStill 15 = .ok (.getfield 78, 3) := by decide +kernel
theorem dX11_isStill_18 : decode cX11_isStill 18 = .ok (.aload_n 0, 1) := by decide +kernel
theorem dX11_isStill_19 : decode cX11_isStill 19 = .ok (.getfield 28, 3) := by decide +kernel
theorem dX11_isStill_22 : decode cX11_isStill 22 = .ok (.getfield 159, 3) := by decide +kernel
theorem dX11_isStill_25 : decode cX11_isStill 25 = .ok (.invokevirtual 271, 3) := by decide +kernel
theorem dX11_isStill_28 : decode cX11_isStill 28 = .ok (.ifCond .eq 7, 3) := by decide +kernel
theorem dX11_isStill_31 : decode cX11_isStill 31 = .ok (.iconst 1, 1) := by decide +kernel
theorem dX11_isStill_32 : decode cX11_isStill 32 = .ok (.goto 4, 3) := by decide +kernel
theorem dX11_isStill_35 : decode cX11_isStill 35 = .ok (.iconst 0, 1) := by decide +kernel
theorem dX11_isStill_36 : decode cX11_isStill 36 = .ok (.invokevirtual 120, 3) := by decide +kernel
theorem dX11_isStill_39 : decode cX11_isStill 39 = .ok (.ireturn, 1) := by decide +kernel
theorem dX11_fairest_0 : decode cX11_fairest 0 = .ok (.aload_n 0, 1) := by decide +kernel
theorem dX11_fairest_1 : decode cX11_fairest 1 = .ok (.invokevirtual 201, 3) := by decide +kernel
theorem dX11_fairest_4 : decode cX11_fairest 4 = .ok (.ifCond .ne 9, 3) := by decide +kernel
theorem dX11_fairest_7 : decode cX11_fairest 7 = .ok (.aload_n 0, 1) := by decide +kernel
theorem dX11_fairest_8 : decode cX11_fairest 8 = .ok (.iconst 1, 1) := by decide +kernel
theorem dX11_fairest_9 : decode cX11_fairest 9 = .ok (.invokevirtual 102, 3) := by decide +kernel
theorem dX11_fairest_12 : decode cX11_fairest 12 = .ok (.ireturn, 1) := by decide +kernel
theorem dX11_fairest_13 : decode cX11_fairest 13 = .ok (.aload_n 0, 1) := by decide +kernel
theorem dX11_fairest_14 : decode cX11_fairest 14 = .ok (.getfield 57, 3) := by decide +kernel
theorem dX11_fairest_17 : decode cX11_fairest 17 = .ok (.aload_n 0, 1) := by decide +kernel
theorem dX11_fairest_18 : decode cX11_fairest 18 = .ok (.getfield 78, 3) := by decide +kernel
theorem dX11_fairest_21 : decode cX11_fairest 21 = .ok (.invokevirtual 258, 3) := by decide +kernel
theorem dX11_fairest_24 : decode cX11_fairest 24 = .ok (.aload_n 0, 1) := by decide +kernel
theorem dX11_fairest_25 : decode cX11_fairest 25 = .ok (.aload_n 0, 1) := by decide +kernel
theorem dX11_fairest_26 : decode cX11_fairest 26 = .ok (.getfield 57, 3) := by decide +kernel
theorem dX11_fairest_29 : decode cX11_fairest 29 = .ok (.getfield 274, 3) := by decide +kernel
theorem dX11_fairest_32 : decode cX11_fairest 32 = .ok (.invokevirtual 120, 3) := by decide +kernel
theorem dX11_fairest_35 : decode cX11_fairest 35 = .ok (.ireturn, 1) := by decide +kernel
theorem dX11_fairAt_0 : decode cX11_fairAt 0 = .ok (.aload_n 0, 1) := by decide +kernel
theorem dX11_fairAt_1 : decode cX11_fairAt 1 = .ok (.iload_n 1, 1) := by decide +kernel
theorem dX11_fairAt_2 : decode cX11_fairAt 2 = .ok (.invokevirtual 142, 3) := by decide +kernel
theorem dX11_fairAt_5 : decode cX11_fairAt 5 = .ok (.ifCond .ne 9, 3) := by decide +kernel
theorem dX11_fairAt_8 : decode cX11_fairAt 8 = .ok (.aload_n 0, 1) := by decide +kernel
theorem dX11_fairAt_9 : decode cX11_fairAt 9 = .ok (.iconst 1, 1) := by decide +kernel
theorem dX11_fairAt_10 : decode cX11_fairAt 10 = .ok (.invokevirtual 102, 3) := by decide +kernel
theorem dX11_fairAt_13 : decode cX11_fairAt 13 = .ok (.ireturn, 1) := by decide +kernel
theorem dX11_fairAt_14 : decode cX11_fairAt 14 = .ok (.aload_n 0, 1) := by decide +kernel
theorem dX11_fairAt_15 : decode cX11_fairAt 15 = .ok (.getfield 57, 3) := by decide +kernel
theorem dX11_fairAt_18 : decode cX11_fairAt 18 = .ok (.aload_n 0, 1) := by decide +kernel
theorem dX11_fairAt_19 : decode cX11_fairAt 19 = .ok (.getfield 78, 3) := by decide +kernel
theorem dX11_fairAt_22 : decode cX11_fairAt 22 = .ok (.invokevirtual 258, 3) := by decide +kernel
theorem dX11_fairAt_25 : decode cX11_fairAt 25 = .ok (.aload_n 0, 1) := by decide +kernel
theorem dX11_fairAt_26 : decode cX11_fairAt 26 = .ok (.aload_n 0, 1) := by decide +kernel
theorem dX11_fairAt_27 : decode cX11_fairAt 27 = .ok (.getfield 57, 3) := by decide +kernel
theorem dX11_fairAt_30 : decode cX11_fairAt 30 = .ok (.getfield 277, 3) := by decide +kernel
theorem dX11_fairAt_33 : decode cX11_fairAt 33 = .ok (.iload_n 1, 1) := by decide +kernel
theorem dX11_fairAt_34 : decode cX11_fairAt 34 = .ok (.invokestatic 162, 3) := by decide +kernel
theorem dX11_fairAt_37 : decode cX11_fairAt 37 = .ok (.invokevirtual 120, 3) := by decide +kernel
theorem dX11_fairAt_40 : decode cX11_fairAt 40 = .ok (.ireturn, 1) := by decide +kernel
theorem dX11_fits_0 : decode cX11_fits 0 = .ok (.aload_n 0, 1) := by decide +kernel
theorem dX11_fits_1 : decode cX11_fits 1 = .ok (.invokevirtual 201, 3) := by decide +kernel
theorem dX11_fits_4 : decode cX11_fits 4 = .ok (.ifCond .ne 9, 3) := by decide +kernel
theorem dX11_fits_7 : decode cX11_fits 7 = .ok (.aload_n 0, 1) := by decide +kernel
theorem dX11_fits_8 : decode cX11_fits 8 = .ok (.iconst 1, 1) := by decide +kernel
theorem dX11_fits_9 : decode cX11_fits 9 = .ok (.invokevirtual 102, 3) := by decide +kernel
theorem dX11_fits_12 : decode cX11_fits 12 = .ok (.ireturn, 1) := by decide +kernel
theorem dX11_fits_13 : decode cX11_fits 13 = .ok (.aload_n 0, 1) := by decide +kernel
theorem dX11_fits_14 : decode cX11_fits 14 = .ok (.getfield 64, 3) := by decide +kernel
theorem dX11_fits_17 : decode cX11_fits 17 = .ok (.aload_n 0, 1) := by decide +kernel
theorem dX11_fits_18 : decode cX11_fits 18 = .ok (.getfield 78, 3) := by decide +kernel
theorem dX11_fits_21 : decode cX11_fits 21 = .ok (.invokevirtual 280, 3) := by decide +kernel
theorem dX11_fits_24 : decode cX11_fits 24 = .ok (.aload_n 0, 1) := by decide +kernel
theorem dX11_fits_25 : decode cX11_fits 25 = .ok (.aload_n 0, 1) := by decide +kernel
theorem dX11_fits_26 : decode cX11_fits 26 = .ok (.getfield 64, 3) := by decide +kernel
theorem dX11_fits_29 : decode cX11_fits 29 = .ok (.getfield 283, 3) := by decide +kernel
theorem dX11_fits_32 : decode cX11_fits 32 = .ok (.invokevirtual 120, 3) := by decide +kernel
theorem dX11_fits_35 : decode cX11_fits 35 = .ok (.ireturn, 1) := by decide +kernel
theorem dX11_fitAt_0 : decode cX11_fitAt 0 = .ok (.aload_n 0, 1) := by decide +kernel
theorem dX11_fitAt_1 : decode cX11_fitAt 1 = .ok (.iload_n 2, 1) := by decide +kernel
theorem dX11_fitAt_2 : decode cX11_fitAt 2 = .ok (.invokevirtual 284, 3) := by decide +kernel
theorem dX11_fitAt_5 : decode cX11_fitAt 5 = .ok (.ifCond .ne 9, 3) := by decide +kernel
theorem dX11_fitAt_8 : decode cX11_fitAt 8 = .ok (.aload_n 0, 1) := by decide +kernel
theorem dX11_fitAt_9 : decode cX11_fitAt 9 = .ok (.iconst 1, 1) := by decide +kernel
theorem dX11_fitAt_10 : decode cX11_fitAt 10 = .ok (.invokevirtual 102, 3) := by decide +kernel
theorem dX11_fitAt_13 : decode cX11_fitAt 13 = .ok (.ireturn, 1) := by decide +kernel
theorem dX11_fitAt_14 : decode cX11_fitAt 14 = .ok (.aload_n 0, 1) := by decide +kernel
theorem dX11_fitAt_15 : decode cX11_fitAt 15 = .ok (.getfield 64, 3) := by decide +kernel
theorem dX11_fitAt_18 : decode cX11_fitAt 18 = .ok (.aload_n 0, 1) := by decide +kernel
theorem dX11_fitAt_19 : decode cX11_fitAt 19 = .ok (.getfield 78, 3) := by decide +kernel
theorem dX11_fitAt_22 : decode cX11_fitAt 22 = .ok (.invokevirtual 280, 3) := by decide +kernel
theorem dX11_fitAt_25 : decode cX11_fitAt 25 = .ok (.iload_n 1, 1) := by decide +kernel
theorem dX11_fitAt_26 : decode cX11_fitAt 26 = .ok (.ifCond .lt 14, 3) := by decide +kernel
theorem dX11_fitAt_29 : decode cX11_fitAt 29 = .ok (.iload_n 1, 1) := by decide +kernel
theorem dX11_fitAt_30 : decode cX11_fitAt 30 = .ok (.aload_n 0, 1) := by decide +kernel
theorem dX11_fitAt_31 : decode cX11_fitAt 31 = .ok (.getfield 64, 3) := by decide +kernel
theorem dX11_fitAt_34 : decode cX11_fitAt 34 = .ok (.getfield 283, 3) := by decide +kernel
theorem dX11_fitAt_37 : decode cX11_fitAt 37 = .ok (.if_icmp .lt 9, 3) := by decide +kernel
theorem dX11_fitAt_40 : decode cX11_fitAt 40 = .ok (.aload_n 0, 1) := by decide +kernel
theorem dX11_fitAt_41 : decode cX11_fitAt 41 = .ok (.iconst 1, 1) := by decide +kernel
theorem dX11_fitAt_42 : decode cX11_fitAt 42 = .ok (.invokevirtual 102, 3) := by decide +kernel
theorem dX11_fitAt_45 : decode cX11_fitAt 45 = .ok (.ireturn, 1) := by decide +kernel
theorem dX11_fitAt_46 : decode cX11_fitAt 46 = .ok (.aload_n 0, 1) := by decide +kernel
theorem dX11_fitAt_47 : decode cX11_fitAt 47 = .ok (.aload_n 0, 1) := by decide +kernel
theorem dX11_fitAt_48 : decode cX11_fitAt 48 = .ok (.getfield 64, 3) := by decide +kernel
theorem dX11_fitAt_51 : decode cX11_fitAt 51 = .ok (.getfield 287, 3) := by decide +kernel
theorem dX11_fitAt_54 : decode cX11_fitAt 54 = .ok (.iload_n 1, 1) := by decide +kernel
theorem dX11_fitAt_55 : decode cX11_fitAt 55 = .ok (.invokestatic 149, 3) := by decide +kernel
theorem dX11_fitAt_58 : decode cX11_fitAt 58 = .ok (.iload_n 2, 1) := by decide +kernel
theorem dX11_fitAt_59 : decode cX11_fitAt 59 = .ok (.invokestatic 162, 3) := by decide +kernel
theorem dX11_fitAt_62 : decode cX11_fitAt 62 = .ok (.invokevirtual 120, 3) := by decide +kernel
theorem dX11_fitAt_65 : decode cX11_fitAt 65 = .ok (.ireturn, 1) := by decide +kernel
theorem dX11_hungBy_0 : decode cX11_hungBy 0 = .ok (.aload_n 0, 1) := by decide +kernel
theorem dX11_hungBy_1 : decode cX11_hungBy 1 = .ok (.iload_n 1, 1) := by decide +kernel
theorem dX11_hungBy_2 : decode cX11_hungBy 2 = .ok (.invokevirtual 284, 3) := by decide +kernel
theorem dX11_hungBy_5 : decode cX11_hungBy 5 = .ok (.ifCond .ne 9, 3) := by decide +kernel
theorem dX11_hungBy_8 : decode cX11_hungBy 8 = .ok (.aload_n 0, 1) := by decide +kernel
theorem dX11_hungBy_9 : decode cX11_hungBy 9 = .ok (.iconst 1, 1) := by decide +kernel
theorem dX11_hungBy_10 : decode cX11_hungBy 10 = .ok (.invokevirtual 102, 3) := by decide +kernel
theorem dX11_hungBy_13 : decode cX11_hungBy 13 = .ok (.ireturn, 1) := by decide +kernel
theorem dX11_hungBy_14 : decode cX11_hungBy 14 = .ok (.iload_n 2, 1) := by decide +kernel
theorem dX11_hungBy_15 : decode cX11_hungBy 15 = .ok (.invokestatic 213, 3) := by decide +kernel
theorem dX11_hungBy_18 : decode cX11_hungBy 18 = .ok (.ifCond .ne 9, 3) := by decide +kernel
theorem dX11_hungBy_21 : decode cX11_hungBy 21 = .ok (.aload_n 0, 1) := by decide +kernel
theorem dX11_hungBy_22 : decode cX11_hungBy 22 = .ok (.iconst 2, 1) := by decide +kernel
theorem dX11_hungBy_23 : decode cX11_hungBy 23 = .ok (.invokevirtual 102, 3) := by decide +kernel
theorem dX11_hungBy_26 : decode cX11_hungBy 26 = .ok (.ireturn, 1) := by decide +kernel
theorem dX11_hungBy_27 : decode cX11_hungBy 27 = .ok (.aload_n 0, 1) := by decide +kernel
theorem dX11_hungBy_28 : decode cX11_hungBy 28 = .ok (.getfield 64, 3) := by decide +kernel
theorem dX11_hungBy_31 : decode cX11_hungBy 31 = .ok (.aload_n 0, 1) := by decide +kernel
theorem dX11_hungBy_32 : decode cX11_hungBy 32 = .ok (.getfield 78, 3) := by decide +kernel
theorem dX11_hungBy_35 : decode cX11_hungBy 35 = .ok (.invokevirtual 280, 3) := by decide +kernel
theorem dX11_hungBy_38 : decode cX11_hungBy 38 = .ok (.aload_n 0, 1) := by decide +kernel
theorem dX11_hungBy_39 : decode cX11_hungBy 39 = .ok (.aload_n 0, 1) := by decide +kernel
theorem dX11_hungBy_40 : decode cX11_hungBy 40 = .ok (.getfield 64, 3) := by decide +kernel
theorem dX11_hungBy_43 : decode cX11_hungBy 43 = .ok (.iload_n 1, 1) := by decide +kernel
theorem dX11_hungBy_44 : decode cX11_hungBy 44 = .ok (.iload_n 2, 1) := by decide +kernel
theorem dX11_hungBy_45 : decode cX11_hungBy 45 = .ok (.invokevirtual 290, 3) := by decide +kernel
theorem dX11_hungBy_48 : decode cX11_hungBy 48 = .ok (.invokevirtual 120, 3) := by decide +kernel
theorem dX11_hungBy_51 : decode cX11_hungBy 51 = .ok (.ireturn, 1) := by decide +kernel
theorem dX11_look_0 : decode cX11_look 0 = .ok (.aload_n 0, 1) := by decide +kernel
theorem dX11_look_1 : decode cX11_look 1 = .ok (.invokevirtual 201, 3) := by decide +kernel
theorem dX11_look_4 : decode cX11_look 4 = .ok (.ifCond .ne 9, 3) := by decide +kernel
theorem dX11_look_7 : decode cX11_look 7 = .ok (.aload_n 0, 1) := by decide +kernel
theorem dX11_look_8 : decode cX11_look 8 = .ok (.iconst 1, 1) := by decide +kernel
theorem dX11_look_9 : decode cX11_look 9 = .ok (.invokevirtual 102, 3) := by decide +kernel
theorem dX11_look_12 : decode cX11_look 12 = .ok (.ireturn, 1) := by decide +kernel
theorem dX11_look_13 : decode cX11_look 13 = .ok (.aload_n 0, 1) := by decide +kernel
theorem dX11_look_14 : decode cX11_look 14 = .ok (.getfield 64, 3) := by decide +kernel
theorem dX11_look_17 : decode cX11_look 17 = .ok (.aload_n 0, 1) := by decide +kernel
theorem dX11_look_18 : decode cX11_look 18 = .ok (.getfield 78, 3) := by decide +kernel
theorem dX11_look_21 : decode cX11_look 21 = .ok (.invokevirtual 280, 3) := by decide +kernel
theorem dX11_look_24 : decode cX11_look 24 = .ok (.aload_n 0, 1) := by decide +kernel
theorem dX11_look_25 : decode cX11_look 25 = .ok (.aload_n 0, 1) := by decide +kernel
theorem dX11_look_26 : decode cX11_look 26 = .ok (.getfield 64, 3) := by decide +kernel
theorem dX11_look_29 : decode cX11_look 29 = .ok (.aload_n 0, 1) := by decide +kernel
theorem dX11_look_30 : decode cX11_look 30 = .ok (.getfield 78, 3) := by decide +kernel
theorem dX11_look_33 : decode cX11_look 33 = .ok (.getfield 237, 3) := by decide +kernel
theorem dX11_look_36 : decode cX11_look 36 = .ok (.getfield 293, 3) := by decide +kernel
theorem dX11_look_39 : decode cX11_look 39 = .ok (.invokevirtual 296, 3) := by decide +kernel
theorem dX11_look_42 : decode cX11_look 42 = .ok (.invokevirtual 120, 3) := by decide +kernel
theorem dX11_look_45 : decode cX11_look 45 = .ok (.ireturn, 1) := by decide +kernel
theorem dX11_lookLeaves_0 : decode cX11_lookLeaves 0 = .ok (.aload_n 0, 1) := by decide +kernel
theorem dX11_lookLeaves_1 : decode cX11_lookLeaves 1 = .ok (.invokevirtual 201, 3) := by decide +kernel
theorem dX11_lookLeaves_4 : decode cX11_lookLeaves 4 = .ok (.ifCond .ne 9, 3) := by decide +kernel
theorem dX11_lookLeaves_7 : decode cX11_lookLeaves 7 = .ok (.aload_n 0, 1) := by decide +kernel
theorem dX11_lookLeaves_8 : decode cX11_lookLeaves 8 = .ok (.iconst 1, 1) := by decide +kernel
theorem dX11_lookLeaves_9 : decode cX11_lookLeaves 9 = .ok (.invokevirtual 102, 3) := by decide +kernel
theorem dX11_lookLeaves_12 : decode cX11_lookLeaves 12 = .ok (.ireturn, 1) := by decide +kernel
theorem dX11_lookLeaves_13 : decode cX11_lookLeaves 13 = .ok (.aload_n 0, 1) := by decide +kernel
theorem dX11_lookLeaves_14 : decode cX11_lookLeaves 14 = .ok (.getfield 64, 3) := by decide +kernel
theorem dX11_lookLeaves_17 : decode cX11_lookLeaves 17 = .ok (.aload_n 0, 1) := by decide +kernel
theorem dX11_lookLeaves_18 : decode cX11_lookLeaves 18 = .ok (.getfield 78, 3) := by decide +kernel
theorem dX11_lookLeaves_21 : decode cX11_lookLeaves 21 = .ok (.invokevirtual 280, 3) := by decide +kernel
theorem dX11_lookLeaves_24 : decode cX11_lookLeaves 24 = .ok (.aload_n 0, 1) := by decide +kernel
theorem dX11_lookLeaves_25 : decode cX11_lookLeaves 25 = .ok (.getfield 64, 3) := by decide +kernel
theorem dX11_lookLeaves_28 : decode cX11_lookLeaves 28 = .ok (.aload_n 0, 1) := by decide +kernel
theorem dX11_lookLeaves_29 : decode cX11_lookLeaves 29 = .ok (.getfield 78, 3) := by decide +kernel
theorem dX11_lookLeaves_32 : decode cX11_lookLeaves 32 = .ok (.getfield 237, 3) := by decide +kernel
theorem dX11_lookLeaves_35 : decode cX11_lookLeaves 35 = .ok (.getfield 293, 3) := by decide +kernel
theorem dX11_lookLeaves_38 : decode cX11_lookLeaves 38 = .ok (.invokevirtual 296, 3) := by decide +kernel
theorem dX11_lookLeaves_41 : decode cX11_lookLeaves 41 = .ok (.istore_n 1, 1) := by decide +kernel
theorem dX11_lookLeaves_42 : decode cX11_lookLeaves 42 = .ok (.aload_n 0, 1) := by decide +kernel
theorem dX11_lookLeaves_43 : decode cX11_lookLeaves 43 = .ok (.iload_n 1, 1) := by decide +kernel
theorem dX11_lookLeaves_44 : decode cX11_lookLeaves 44 = .ok (.bipush (-2), 2) := by decide +kernel
theorem dX11_lookLeaves_46 : decode cX11_lookLeaves 46 = .ok (.if_icmp .ne 8, 3) := by decide +kernel
theorem dX11_lookLeaves_49 : decode cX11_lookLeaves 49 = .ok (.bipush (-2), 2) := by decide +kernel
theorem dX11_lookLeaves_51 : decode cX11_lookLeaves 51 = .ok (.goto 11, 3) := by decide +kernel
theorem dX11_lookLeaves_54 : decode cX11_lookLeaves 54 = .ok (.aload_n 0, 1) := by decide +kernel
theorem dX11_lookLeaves_55 : decode cX11_lookLeaves 55 = .ok (.getfield 64, 3) := by decide +kernel
theorem dX11_lookLeaves_58 : decode cX11_lookLeaves 58 = .ok (.iload_n 1, 1) := by decide +kernel
theorem dX11_lookLeaves_59 : decode cX11_lookLeaves 59 = .ok (.invokevirtual 299, 3) := by decide +kernel
theorem dX11_lookLeaves_62 : decode cX11_lookLeaves 62 = .ok (.invokevirtual 120, 3) := by decide +kernel
theorem dX11_lookLeaves_65 : decode cX11_lookLeaves 65 = .ok (.ireturn, 1) := by decide +kernel
theorem dX11_judge_0 : decode cX11_judge 0 = .ok (.aload_n 0, 1) := by decide +kernel
theorem dX11_judge_1 : decode cX11_judge 1 = .ok (.invokevirtual 201, 3) := by decide +kernel
theorem dX11_judge_4 : decode cX11_judge 4 = .ok (.ifCond .ne 9, 3) := by decide +kernel
theorem dX11_judge_7 : decode cX11_judge 7 = .ok (.aload_n 0, 1) := by decide +kernel
theorem dX11_judge_8 : decode cX11_judge 8 = .ok (.iconst 1, 1) := by decide +kernel
theorem dX11_judge_9 : decode cX11_judge 9 = .ok (.invokevirtual 102, 3) := by decide +kernel
theorem dX11_judge_12 : decode cX11_judge 12 = .ok (.ireturn, 1) := by decide +kernel
theorem dX11_judge_13 : decode cX11_judge 13 = .ok (.aload_n 0, 1) := by decide +kernel
theorem dX11_judge_14 : decode cX11_judge 14 = .ok (.aload_n 0, 1) := by decide +kernel
theorem dX11_judge_15 : decode cX11_judge 15 = .ok (.getfield 78, 3) := by decide +kernel
theorem dX11_judge_18 : decode cX11_judge 18 = .ok (.getfield 237, 3) := by decide +kernel
theorem dX11_judge_21 : decode cX11_judge 21 = .ok (.aload_n 0, 1) := by decide +kernel
theorem dX11_judge_22 : decode cX11_judge 22 = .ok (.getfield 78, 3) := by decide +kernel
theorem dX11_judge_25 : decode cX11_judge 25 = .ok (.aload_n 0, 1) := by decide +kernel
theorem dX11_judge_26 : decode cX11_judge 26 = .ok (.getfield 78, 3) := by decide +kernel
theorem dX11_judge_29 : decode cX11_judge 29 = .ok (.getfield 127, 3) := by decide +kernel
theorem dX11_judge_32 : decode cX11_judge 32 = .ok (.invokevirtual 302, 3) := by decide +kernel
theorem dX11_judge_35 : decode cX11_judge 35 = .ok (.invokevirtual 120, 3) := by decide +kernel
theorem dX11_judge_38 : decode cX11_judge 38 = .ok (.ireturn, 1) := by decide +kernel
theorem dX11_apart_0 : decode cX11_apart 0 = .ok (.aload_n 0, 1) := by decide +kernel
theorem dX11_apart_1 : decode cX11_apart 1 = .ok (.iload_n 1, 1) := by decide +kernel
theorem dX11_apart_2 : decode cX11_apart 2 = .ok (.invokevirtual 142, 3) := by decide +kernel
theorem dX11_apart_5 : decode cX11_apart 5 = .ok (.ifCond .eq 11, 3) := by decide +kernel
theorem dX11_apart_8 : decode cX11_apart 8 = .ok (.aload_n 0, 1) := by decide +kernel
theorem dX11_apart_9 : decode cX11_apart 9 = .ok (.iload_n 2, 1) := by decide +kernel
theorem dX11_apart_10 : decode cX11_apart 10 = .ok (.invokevirtual 142, 3) := by decide +kernel
theorem dX11_apart_13 : decode cX11_apart 13 = .ok (.ifCond .ne 9, 3) := by decide +kernel
theorem dX11_apart_16 : decode cX11_apart 16 = .ok (.aload_n 0, 1) := by decide +kernel
theorem dX11_apart_17 : decode cX11_apart 17 = .ok (.iconst 1, 1) := by decide +kernel
theorem dX11_apart_18 : decode cX11_apart 18 = .ok (.invokevirtual 102, 3) := by decide +kernel
theorem dX11_apart_21 : decode cX11_apart 21 = .ok (.ireturn, 1) := by decide +kernel
theorem dX11_apart_22 : decode cX11_apart 22 = .ok (.aload_n 0, 1) := by decide +kernel
theorem dX11_apart_23 : decode cX11_apart 23 = .ok (.aload_n 0, 1) := by decide +kernel
theorem dX11_apart_24 : decode cX11_apart 24 = .ok (.getfield 78, 3) := by decide +kernel
theorem dX11_apart_27 : decode cX11_apart 27 = .ok (.iload_n 1, 1) := by decide +kernel
theorem dX11_apart_28 : decode cX11_apart 28 = .ok (.iload_n 2, 1) := by decide +kernel
theorem dX11_apart_29 : decode cX11_apart 29 = .ok (.invokevirtual 305, 3) := by decide +kernel
theorem dX11_apart_32 : decode cX11_apart 32 = .ok (.invokevirtual 120, 3) := by decide +kernel
theorem dX11_apart_35 : decode cX11_apart 35 = .ok (.ireturn, 1) := by decide +kernel
theorem dX11_sentries_0 : decode cX11_sentries 0 = .ok (.aload_n 0, 1) := by decide +kernel
theorem dX11_sentries_1 : decode cX11_sentries 1 = .ok (.invokevirtual 201, 3) := by decide +kernel
theorem dX11_sentries_4 : decode cX11_sentries 4 = .ok (.ifCond .eq 17, 3) := by decide +kernel
theorem dX11_sentries_7 : decode cX11_sentries 7 = .ok (.aload_n 0, 1) := by decide +kernel
theorem dX11_sentries_8 : decode cX11_sentries 8 = .ok (.aload_n 0, 1) := by decide +kernel
theorem dX11_sentries_9 : decode cX11_sentries 9 = .ok (.getfield 78, 3) := by decide +kernel
theorem dX11_sentries_12 : decode cX11_sentries 12 = .ok (.invokevirtual 308, 3) := by decide +kernel
theorem dX11_sentries_15 : decode cX11_sentries 15 = .ok (.invokevirtual 120, 3) := by decide +kernel
theorem dX11_sentries_18 : decode cX11_sentries 18 = .ok (.goto 8, 3) := by decide +kernel
theorem dX11_sentries_21 : decode cX11_sentries 21 = .ok (.aload_n 0, 1) := by decide +kernel
theorem dX11_sentries_22 : decode cX11_sentries 22 = .ok (.iconst 1, 1) := by decide +kernel
theorem dX11_sentries_23 : decode cX11_sentries 23 = .ok (.invokevirtual 102, 3) := by decide +kernel
theorem dX11_sentries_26 : decode cX11_sentries 26 = .ok (.ireturn, 1) := by decide +kernel
theorem dX11_parts_0 : decode cX11_parts 0 = .ok (.aload_n 0, 1) := by decide +kernel
theorem dX11_parts_1 : decode cX11_parts 1 = .ok (.invokevirtual 201, 3) := by decide +kernel
theorem dX11_parts_4 : decode cX11_parts 4 = .ok (.ifCond .eq 17, 3) := by decide +kernel
theorem dX11_parts_7 : decode cX11_parts 7 = .ok (.aload_n 0, 1) := by decide +kernel
theorem dX11_parts_8 : decode cX11_parts 8 = .ok (.aload_n 0, 1) := by decide +kernel
theorem dX11_parts_9 : decode cX11_parts 9 = .ok (.getfield 78, 3) := by decide +kernel
theorem dX11_parts_12 : decode cX11_parts 12 = .ok (.invokevirtual 312, 3) := by decide +kernel
theorem dX11_parts_15 : decode cX11_parts 15 = .ok (.invokevirtual 120, 3) := by decide +kernel
theorem dX11_parts_18 : decode cX11_parts 18 = .ok (.goto 8, 3) := by decide +kernel
theorem dX11_parts_21 : decode cX11_parts 21 = .ok (.aload_n 0, 1) := by decide +kernel
theorem dX11_parts_22 : decode cX11_parts 22 = .ok (.iconst 1, 1) := by decide +kernel
theorem dX11_parts_23 : decode cX11_parts 23 = .ok (.invokevirtual 102, 3) := by decide +kernel
theorem dX11_parts_26 : decode cX11_parts 26 = .ok (.ireturn, 1) := by decide +kernel
theorem dX11_estate_0 : decode cX11_estate 0 = .ok (.aload_n 0, 1) := by decide +kernel
theorem dX11_estate_1 : decode cX11_estate 1 = .ok (.iload_n 1, 1) := by decide +kernel
theorem dX11_estate_2 : decode cX11_estate 2 = .ok (.invokevirtual 174, 3) := by decide +kernel
theorem dX11_estate_5 : decode cX11_estate 5 = .ok (.ifCond .eq 11, 3) := by decide +kernel
theorem dX11_estate_8 : decode cX11_estate 8 = .ok (.aload_n 0, 1) := by decide +kernel
theorem dX11_estate_9 : decode cX11_estate 9 = .ok (.iload_n 2, 1) := by decide +kernel
theorem dX11_estate_10 : decode cX11_estate 10 = .ok (.invokevirtual 142, 3) := by decide +kernel
theorem dX11_estate_13 : decode cX11_estate 13 = .ok (.ifCond .ne 9, 3) := by decide +kernel
theorem dX11_estate_16 : decode cX11_estate 16 = .ok (.aload_n 0, 1) := by decide +kernel
theorem dX11_estate_17 : decode cX11_estate 17 = .ok (.iconst 1, 1) := by decide +kernel
theorem dX11_estate_18 : decode cX11_estate 18 = .ok (.invokevirtual 102, 3) := by decide +kernel
theorem dX11_estate_21 : decode cX11_estate 21 = .ok (.ireturn, 1) := by decide +kernel
theorem dX11_estate_22 : decode cX11_estate 22 = .ok (.aload_n 0, 1) := by decide +kernel
theorem dX11_estate_23 : decode cX11_estate 23 = .ok (.getfield 78, 3) := by decide +kernel
theorem dX11_estate_26 : decode cX11_estate 26 = .ok (.iload_n 2, 1) := by decide +kernel
theorem dX11_estate_27 : decode cX11_estate 27 = .ok (.aload_n 0, 1) := by decide +kernel
theorem dX11_estate_28 : decode cX11_estate 28 = .ok (.getfield 78, 3) := by decide +kernel
theorem dX11_estate_31 : decode cX11_estate 31 = .ok (.iload_n 1, 1) := by decide +kernel
theorem dX11_estate_32 : decode cX11_estate 32 = .ok (.aload_n 0, 1) := by decide +kernel
theorem dX11_estate_33 : decode cX11_estate 33 = .ok (.getfield 28, 3) := by decide +kernel
theorem dX11_estate_36 : decode cX11_estate 36 = .ok (.getfield 159, 3) := by decide +kernel
theorem dX11_estate_39 : decode cX11_estate 39 = .ok (.invokevirtual 180, 3) := by decide +kernel
theorem dX11_estate_42 : decode cX11_estate 42 = .ok (.invokevirtual 315, 3) := by decide +kernel
theorem dX11_estate_45 : decode cX11_estate 45 = .ok (.istore_n 3, 1) := by decide +kernel
theorem dX11_estate_46 : decode cX11_estate 46 = .ok (.aload_n 0, 1) := by decide +kernel
theorem dX11_estate_47 : decode cX11_estate 47 = .ok (.aload_n 0, 1) := by decide +kernel
theorem dX11_estate_48 : decode cX11_estate 48 = .ok (.getfield 78, 3) := by decide +kernel
theorem dX11_estate_51 : decode cX11_estate 51 = .ok (.iload_n 1, 1) := by decide +kernel
theorem dX11_estate_52 : decode cX11_estate 52 = .ok (.aload_n 0, 1) := by decide +kernel
theorem dX11_estate_53 : decode cX11_estate 53 = .ok (.getfield 28, 3) := by decide +kernel
theorem dX11_estate_56 : decode cX11_estate 56 = .ok (.getfield 159, 3) := by decide +kernel
theorem dX11_estate_59 : decode cX11_estate 59 = .ok (.iload_n 3, 1) := by decide +kernel
theorem dX11_estate_60 : decode cX11_estate 60 = .ok (.invokevirtual 318, 3) := by decide +kernel
theorem dX11_estate_63 : decode cX11_estate 63 = .ok (.invokevirtual 120, 3) := by decide +kernel
theorem dX11_estate_66 : decode cX11_estate 66 = .ok (.ireturn, 1) := by decide +kernel
theorem dX11_power_0 : decode cX11_power 0 = .ok (.aload_n 0, 1) := by decide +kernel
theorem dX11_power_1 : decode cX11_power 1 = .ok (.iload_n 1, 1) := by decide +kernel
theorem dX11_power_2 : decode cX11_power 2 = .ok (.invokevirtual 174, 3) := by decide +kernel
theorem dX11_power_5 : decode cX11_power 5 = .ok (.ifCond .ne 10, 3) := by decide +kernel
theorem dX11_power_8 : decode cX11_power 8 = .ok (.aload_n 0, 1) := by decide +kernel
theorem dX11_power_9 : decode cX11_power 9 = .ok (.iconst 1, 1) := by decide +kernel
theorem dX11_power_10 : decode cX11_power 10 = .ok (.invokevirtual 102, 3) := by decide +kernel
theorem dX11_power_13 : decode cX11_power 13 = .ok (.i2l, 1) := by decide +kernel
theorem dX11_power_14 : decode cX11_power 14 = .ok (.lreturn, 1) := by decide +kernel
theorem dX11_power_15 : decode cX11_power 15 = .ok (.aload_n 0, 1) := by decide +kernel
theorem dX11_power_16 : decode cX11_power 16 = .ok (.getfield 71, 3) := by decide +kernel
theorem dX11_power_19 : decode cX11_power 19 = .ok (.aload_n 0, 1) := by decide +kernel
theorem dX11_power_20 : decode cX11_power 20 = .ok (.getfield 78, 3) := by decide +kernel
theorem dX11_power_23 : decode cX11_power 23 = .ok (.aload_n 0, 1) := by decide +kernel
theorem dX11_power_24 : decode cX11_power 24 = .ok (.getfield 28, 3) := by decide +kernel
theorem dX11_power_27 : decode cX11_power 27 = .ok (.getfield 159, 3) := by decide +kernel
theorem dX11_power_30 : decode cX11_power 30 = .ok (.iload_n 1, 1) := by decide +kernel
theorem dX11_power_31 : decode cX11_power 31 = .ok (.invokevirtual 321, 3) := by decide +kernel
theorem dX11_power_34 : decode cX11_power 34 = .ok (.aload_n 0, 1) := by decide +kernel
theorem dX11_power_35 : decode cX11_power 35 = .ok (.iload_n 2, 1) := by decide +kernel
theorem dX11_power_36 : decode cX11_power 36 = .ok (.invokevirtual 325, 3) := by decide +kernel
theorem dX11_power_39 : decode cX11_power 39 = .ok (.lreturn, 1) := by decide +kernel
theorem dX11_rule_0 : decode cX11_rule 0 = .ok (.aload_n 0, 1) := by decide +kernel
theorem dX11_rule_1 : decode cX11_rule 1 = .ok (.invokevirtual 201, 3) := by decide +kernel
theorem dX11_rule_4 : decode cX11_rule 4 = .ok (.ifCond .eq 24, 3) := by decide +kernel
theorem dX11_rule_7 : decode cX11_rule 7 = .ok (.aload_n 0, 1) := by decide +kernel
theorem dX11_rule_8 : decode cX11_rule 8 = .ok (.aload_n 0, 1) := by decide +kernel
theorem dX11_rule_9 : decode cX11_rule 9 = .ok (.getfield 78, 3) := by decide +kernel
theorem dX11_rule_12 : decode cX11_rule 12 = .ok (.aload_n 0, 1) := by decide +kernel
theorem dX11_rule_13 : decode cX11_rule 13 = .ok (.getfield 28, 3) := by decide +kernel
theorem dX11_rule_16 : decode cX11_rule 16 = .ok (.getfield 159, 3) := by decide +kernel
theorem dX11_rule_19 : decode cX11_rule 19 = .ok (.invokevirtual 329, 3) := by decide +kernel
theorem dX11_rule_22 : decode cX11_rule 22 = .ok (.invokevirtual 120, 3) := by decide +kernel
theorem dX11_rule_25 : decode cX11_rule 25 = .ok (.goto 8, 3) := by decide +kernel
theorem dX11_rule_28 : decode cX11_rule 28 = .ok (.aload_n 0, 1) := by decide +kernel
theorem dX11_rule_29 : decode cX11_rule 29 = .ok (.iconst 1, 1) := by decide +kernel
theorem dX11_rule_30 : decode cX11_rule 30 = .ok (.invokevirtual 102, 3) := by decide +kernel
theorem dX11_rule_33 : decode cX11_rule 33 = .ok (.ireturn, 1) := by decide +kernel
theorem dX11_steal_0 : decode cX11_steal 0 = .ok (.aload_n 0, 1) := by decide +kernel
theorem dX11_steal_1 : decode cX11_steal 1 = .ok (.iload_n 1, 1) := by decide +kernel
theorem dX11_steal_2 : decode cX11_steal 2 = .ok (.invokevirtual 332, 3) := by decide +kernel
theorem dX11_steal_5 : decode cX11_steal 5 = .ok (.ifCond .ne 6, 3) := by decide +kernel
theorem dX11_steal_8 : decode cX11_steal 8 = .ok (.bipush (-100), 2) := by decide +kernel
theorem dX11_steal_10 : decode cX11_steal 10 = .ok (.ireturn, 1) := by decide +kernel
theorem dX11_steal_11 : decode cX11_steal 11 = .ok (.aload_n 0, 1) := by decide +kernel
theorem dX11_steal_12 : decode cX11_steal 12 = .ok (.iload_n 1, 1) := by decide +kernel
theorem dX11_steal_13 : decode cX11_steal 13 = .ok (.iload_n 2, 1) := by decide +kernel
theorem dX11_steal_14 : decode cX11_steal 14 = .ok (.iload_n 3, 1) := by decide +kernel
theorem dX11_steal_15 : decode cX11_steal 15 = .ok (.iload 4, 2) := by decide +kernel
theorem dX11_steal_17 : decode cX11_steal 17 = .ok (.invokestatic 335, 3) := by decide +kernel
theorem dX11_steal_20 : decode cX11_steal 20 = .ok (.invokevirtual 120, 3) := by decide +kernel
theorem dX11_steal_23 : decode cX11_steal 23 = .ok (.ireturn, 1) := by decide +kernel
theorem dX11_rests_0 : decode cX11_rests 0 = .ok (.aload_n 0, 1) := by decide +kernel
theorem dX11_rests_1 : decode cX11_rests 1 = .ok (.iload_n 1, 1) := by decide +kernel
theorem dX11_rests_2 : decode cX11_rests 2 = .ok (.invokevirtual 332, 3) := by decide +kernel
theorem dX11_rests_5 : decode cX11_rests 5 = .ok (.ifCond .eq 14, 3) := by decide +kernel
theorem dX11_rests_8 : decode cX11_rests 8 = .ok (.aload_n 0, 1) := by decide +kernel
theorem dX11_rests_9 : decode cX11_rests 9 = .ok (.iload_n 1, 1) := by decide +kernel
theorem dX11_rests_10 : decode cX11_rests 10 = .ok (.invokestatic 339, 3) := by decide +kernel
theorem dX11_rests_13 : decode cX11_rests 13 = .ok (.invokevirtual 120, 3) := by decide +kernel
theorem dX11_rests_16 : decode cX11_rests 16 = .ok (.goto 4, 3) := by decide +kernel
theorem dX11_rests_19 : decode cX11_rests 19 = .ok (.iconst (-1), 1) := by decide +kernel
theorem dX11_rests_20 : decode cX11_rests 20 = .ok (.ireturn, 1) := by decide +kernel
theorem dX11_rest_0 : decode cX11_rest 0 = .ok (.aload_n 0, 1) := by decide +kernel
theorem dX11_rest_1 : decode cX11_rest 1 = .ok (.iload_n 1, 1) := by decide +kernel
theorem dX11_rest_2 : decode cX11_rest 2 = .ok (.invokevirtual 332, 3) := by decide +kernel
theorem dX11_rest_5 : decode cX11_rest 5 = .ok (.ifCond .eq 14, 3) := by decide +kernel
theorem dX11_rest_8 : decode cX11_rest 8 = .ok (.aload_n 0, 1) := by decide +kernel
theorem dX11_rest_9 : decode cX11_rest 9 = .ok (.iload_n 1, 1) := by decide +kernel
theorem dX11_rest_10 : decode cX11_rest 10 = .ok (.invokestatic 342, 3) := by decide +kernel
theorem dX11_rest_13 : decode cX11_rest 13 = .ok (.invokevirtual 120, 3) := by decide +kernel
theorem dX11_rest_16 : decode cX11_rest 16 = .ok (.goto 4, 3) := by decide +kernel
theorem dX11_rest_19 : decode cX11_rest 19 = .ok (.iconst (-1), 1) := by decide +kernel
theorem dX11_rest_20 : decode cX11_rest 20 = .ok (.ireturn, 1) := by decide +kernel
theorem dX11_mayPlay_0 : decode cX11_mayPlay 0 = .ok (.aload_n 0, 1) := by decide +kernel
theorem dX11_mayPlay_1 : decode cX11_mayPlay 1 = .ok (.invokevirtual 201, 3) := by decide +kernel
theorem dX11_mayPlay_4 : decode cX11_mayPlay 4 = .ok (.ifCond .ne 9, 3) := by decide +kernel
theorem dX11_mayPlay_7 : decode cX11_mayPlay 7 = .ok (.aload_n 0, 1) := by decide +kernel
theorem dX11_mayPlay_8 : decode cX11_mayPlay 8 = .ok (.iconst 1, 1) := by decide +kernel
theorem dX11_mayPlay_9 : decode cX11_mayPlay 9 = .ok (.invokevirtual 345, 3) := by decide +kernel
theorem dX11_mayPlay_12 : decode cX11_mayPlay 12 = .ok (.ireturn, 1) := by decide +kernel
theorem dX11_mayPlay_13 : decode cX11_mayPlay 13 = .ok (.iload_n 1, 1) := by decide +kernel
theorem dX11_mayPlay_14 : decode cX11_mayPlay 14 = .ok (.ifCond .lt 9, 3) := by decide +kernel
theorem dX11_mayPlay_17 : decode cX11_mayPlay 17 = .ok (.iload_n 1, 1) := by decide +kernel
theorem dX11_mayPlay_18 : decode cX11_mayPlay 18 = .ok (.bipush 20, 2) := by decide +kernel
theorem dX11_mayPlay_20 : decode cX11_mayPlay 20 = .ok (.if_icmp .le 11, 3) := by decide +kernel
theorem dX11_mayPlay_23 : decode cX11_mayPlay 23 = .ok (.aload_n 0, 1) := by decide +kernel
theorem dX11_mayPlay_24 : decode cX11_mayPlay 24 = .ok (.iconst 2, 1) := by decide +kernel
theorem dX11_mayPlay_25 : decode cX11_mayPlay 25 = .ok (.invokevirtual 345, 3) := by decide +kernel
theorem dX11_mayPlay_28 : decode cX11_mayPlay 28 = .ok (.ifCond .eq 7, 3) := by decide +kernel
theorem dX11_mayPlay_31 : decode cX11_mayPlay 31 = .ok (.iconst 1, 1) := by decide +kernel
theorem dX11_mayPlay_32 : decode cX11_mayPlay 32 = .ok (.goto 4, 3) := by decide +kernel
theorem dX11_mayPlay_35 : decode cX11_mayPlay 35 = .ok (.iconst 0, 1) := by decide +kernel
theorem dX11_mayPlay_36 : decode cX11_mayPlay 36 = .ok (.ireturn, 1) := by decide +kernel
theorem dX11_payOf_0 : decode cX11_payOf 0 = .ok (.iload_n 1, 1) := by decide +kernel
theorem dX11_payOf_1 : decode cX11_payOf 1 = .ok (.ifCond .ne 17, 3) := by decide +kernel
theorem dX11_payOf_4 : decode cX11_payOf 4 = .ok (.iload_n 2, 1) := by decide +kernel
theorem dX11_payOf_5 : decode cX11_payOf 5 = .ok (.ifCond .eq 11, 3) := by decide +kernel
theorem dX11_payOf_8 : decode cX11_payOf 8 = .ok (.iload_n 3, 1) := by decide +kernel
theorem dX11_payOf_9 : decode cX11_payOf 9 = .ok (.ifCond .eq 7, 3) := by decide +kernel
theorem dX11_payOf_12 : decode cX11_payOf 12 = .ok (.iconst (-1), 1) := by decide +kernel
theorem dX11_payOf_13 : decode cX11_payOf 13 = .ok (.goto 4, 3) := by decide +kernel
theorem dX11_payOf_16 : decode cX11_payOf 16 = .ok (.iconst 0, 1) := by decide +kernel
theorem dX11_payOf_17 : decode cX11_payOf 17 = .ok (.ireturn, 1) := by decide +kernel
theorem dX11_payOf_18 : decode cX11_payOf 18 = .ok (.iload_n 2, 1) := by decide +kernel
theorem dX11_payOf_19 : decode cX11_payOf 19 = .ok (.ifCond .eq 14, 3) := by decide +kernel
theorem dX11_payOf_22 : decode cX11_payOf 22 = .ok (.iload_n 3, 1) := by decide +kernel
theorem dX11_payOf_23 : decode cX11_payOf 23 = .ok (.ifCond .eq 7, 3) := by decide +kernel
theorem dX11_payOf_26 : decode cX11_payOf 26 = .ok (.iconst 2, 1) := by decide +kernel
theorem dX11_payOf_27 : decode cX11_payOf 27 = .ok (.goto 5, 3) := by decide +kernel
theorem dX11_payOf_30 : decode cX11_payOf 30 = .ok (.bipush (-3), 2) := by decide +kernel
theorem dX11_payOf_32 : decode cX11_payOf 32 = .ok (.ireturn, 1) := by decide +kernel
theorem dX11_payOf_33 : decode cX11_payOf 33 = .ok (.iload_n 3, 1) := by decide +kernel
theorem dX11_payOf_34 : decode cX11_payOf 34 = .ok (.ifCond .eq 8, 3) := by decide +kernel
theorem dX11_payOf_37 : decode cX11_payOf 37 = .ok (.iload_n 0, 1) := by decide +kernel
theorem dX11_payOf_38 : decode cX11_payOf 38 = .ok (.ineg, 1) := by decide +kernel
theorem dX11_payOf_39 : decode cX11_payOf 39 = .ok (.goto 4, 3) := by decide +kernel
theorem dX11_payOf_42 : decode cX11_payOf 42 = .ok (.iload_n 0, 1) := by decide +kernel
theorem dX11_payOf_43 : decode cX11_payOf 43 = .ok (.ireturn, 1) := by decide +kernel
theorem dX11_countRests_0 : decode cX11_countRests 0 = .ok (.iconst 0, 1) := by decide +kernel
theorem dX11_countRests_1 : decode cX11_countRests 1 = .ok (.istore_n 1, 1) := by decide +kernel
theorem dX11_countRests_2 : decode cX11_countRests 2 = .ok (.iconst 0, 1) := by decide +kernel
theorem dX11_countRests_3 : decode cX11_countRests 3 = .ok (.istore_n 2, 1) := by decide +kernel
theorem dX11_countRests_4 : decode cX11_countRests 4 = .ok (.iload_n 2, 1) := by decide +kernel
theorem dX11_countRests_5 : decode cX11_countRests 5 = .ok (.iconst 4, 1) := by decide +kernel
theorem dX11_countRests_6 : decode cX11_countRests 6 = .ok (.if_icmp .ge 20, 3) := by decide +kernel
theorem dX11_countRests_9 : decode cX11_countRests 9 = .ok (.iload_n 0, 1) := by decide +kernel
theorem dX11_countRests_10 : decode cX11_countRests 10 = .ok (.iload_n 2, 1) := by decide +kernel
theorem dX11_countRests_11 : decode cX11_countRests 11 = .ok (.invokestatic 348, 3) := by decide +kernel
theorem dX11_countRests_14 : decode cX11_countRests 14 = .ok (.ifCond .eq 6, 3) := by decide +kernel
theorem dX11_countRests_17 : decode cX11_countRests 17 = .ok (.iinc 1 1, 3) := by decide +kernel
theorem dX11_countRests_20 : decode cX11_countRests 20 = .ok (.iinc 2 1, 3) := by decide +kernel
theorem dX11_countRests_23 : decode cX11_countRests 23 = .ok (.goto (-19), 3) := by decide +kernel
theorem dX11_countRests_26 : decode cX11_countRests 26 = .ok (.iload_n 1, 1) := by decide +kernel
theorem dX11_countRests_27 : decode cX11_countRests 27 = .ok (.ireturn, 1) := by decide +kernel
theorem dX11_firstRest_0 : decode cX11_firstRest 0 = .ok (.iconst 0, 1) := by decide +kernel
theorem dX11_firstRest_1 : decode cX11_firstRest 1 = .ok (.istore_n 1, 1) := by decide +kernel
theorem dX11_firstRest_2 : decode cX11_firstRest 2 = .ok (.iload_n 1, 1) := by decide +kernel
theorem dX11_firstRest_3 : decode cX11_firstRest 3 = .ok (.iconst 4, 1) := by decide +kernel
theorem dX11_firstRest_4 : decode cX11_firstRest 4 = .ok (.if_icmp .ge 28, 3) := by decide +kernel
theorem dX11_firstRest_7 : decode cX11_firstRest 7 = .ok (.iload_n 0, 1) := by decide +kernel
theorem dX11_firstRest_8 : decode cX11_firstRest 8 = .ok (.iload_n 1, 1) := by decide +kernel
theorem dX11_firstRest_9 : decode cX11_firstRest 9 = .ok (.invokestatic 348, 3) := by decide +kernel
theorem dX11_firstRest_12 : decode cX11_firstRest 12 = .ok (.ifCond .eq 14, 3) := by decide +kernel
theorem dX11_firstRest_15 : decode cX11_firstRest 15 = .ok (.bipush 10, 2) := by decide +kernel
theorem dX11_firstRest_17 : decode cX11_firstRest 17 = .ok (.iload_n 1, 1) := by decide +kernel
theorem dX11_firstRest_18 : decode cX11_firstRest 18 = .ok (.iconst 1, 1) := by decide +kernel
theorem dX11_firstRest_19 : decode cX11_firstRest 19 = .ok (.ishr, 1) := by decide +kernel
theorem dX11_firstRest_20 : decode cX11_firstRest 20 = .ok (.imul, 1) := by decide +kernel
theorem dX11_firstRest_21 : decode cX11_firstRest 21 = .ok (.iload_n 1, 1) := by decide +kernel
theorem dX11_firstRest_22 : decode cX11_firstRest 22 = .ok (.iconst 1, 1) := by decide +kernel
theorem dX11_firstRest_23 : decode cX11_firstRest 23 = .ok (.iand, 1) := by decide +kernel
theorem dX11_firstRest_24 : decode cX11_firstRest 24 = .ok (.iadd, 1) := by decide +kernel
theorem dX11_firstRest_25 : decode cX11_firstRest 25 = .ok (.ireturn, 1) := by decide +kernel
theorem dX11_firstRest_26 : decode cX11_firstRest 26 = .ok (.iinc 1 1, 3) := by decide +kernel
theorem dX11_firstRest_29 : decode cX11_firstRest 29 = .ok (.goto (-27), 3) := by decide +kernel
theorem dX11_firstRest_32 : decode cX11_firstRest 32 = .ok (.bipush (-2), 2) := by decide +kernel
theorem dX11_firstRest_34 : decode cX11_firstRest 34 = .ok (.ireturn, 1) := by decide +kernel
theorem dX11_isRestPair_0 : decode cX11_isRestPair 0 = .ok (.iload_n 1, 1) := by decide +kernel
theorem dX11_isRestPair_1 : decode cX11_isRestPair 1 = .ok (.iconst 2, 1) := by decide +kernel
theorem dX11_isRestPair_2 : decode cX11_isRestPair 2 = .ok (.if_icmp .lt 7, 3) := by decide +kernel
theorem dX11_isRestPair_5 : decode cX11_isRestPair 5 = .ok (.iconst 1, 1) := by decide +kernel
theorem dX11_isRestPair_6 : decode cX11_isRestPair 6 = .ok (.goto 4, 3) := by decide +kernel
theorem dX11_isRestPair_9 : decode cX11_isRestPair 9 = .ok (.iconst 0, 1) := by decide +kernel
theorem dX11_isRestPair_10 : decode cX11_isRestPair 10 = .ok (.istore_n 2, 1) := by decide +kernel
theorem dX11_isRestPair_11 : decode cX11_isRestPair 11 = .ok (.iload_n 1, 1) := by decide +kernel
theorem dX11_isRestPair_12 : decode cX11_isRestPair 12 = .ok (.iconst 1, 1) := by decide +kernel
theorem dX11_isRestPair_13 : decode cX11_isRestPair 13 = .ok (.iand, 1) := by decide +kernel
theorem dX11_isRestPair_14 : decode cX11_isRestPair 14 = .ok (.iconst 1, 1) := by decide +kernel
theorem dX11_isRestPair_15 : decode cX11_isRestPair 15 = .ok (.if_icmp .ne 7, 3) := by decide +kernel
theorem dX11_isRestPair_18 : decode cX11_isRestPair 18 = .ok (.iconst 1, 1) := by decide +kernel
theorem dX11_isRestPair_19 : decode cX11_isRestPair 19 = .ok (.goto 4, 3) := by decide +kernel
theorem dX11_isRestPair_22 : decode cX11_isRestPair 22 = .ok (.iconst 0, 1) := by decide +kernel
theorem dX11_isRestPair_23 : decode cX11_isRestPair 23 = .ok (.istore_n 3, 1) := by decide +kernel
theorem dX11_isRestPair_24 : decode cX11_isRestPair 24 = .ok (.iload_n 0, 1) := by decide +kernel
theorem dX11_isRestPair_25 : decode cX11_isRestPair 25 = .ok (.iload_n 2, 1) := by decide +kernel
theorem dX11_isRestPair_26 : decode cX11_isRestPair 26 = .ok (.ifCond .ne 7, 3) := by decide +kernel
theorem dX11_isRestPair_29 : decode cX11_isRestPair 29 = .ok (.iconst 1, 1) := by decide +kernel
theorem dX11_isRestPair_30 : decode cX11_isRestPair 30 = .ok (.goto 4, 3) := by decide +kernel
theorem dX11_isRestPair_33 : decode cX11_isRestPair 33 = .ok (.iconst 0, 1) := by decide +kernel
theorem dX11_isRestPair_34 : decode cX11_isRestPair 34 = .ok (.iload_n 3, 1) := by decide +kernel
theorem dX11_isRestPair_35 : decode cX11_isRestPair 35 = .ok (.iconst 0, 1) := by decide +kernel
theorem dX11_isRestPair_36 : decode cX11_isRestPair 36 = .ok (.invokestatic 335, 3) := by decide +kernel
theorem dX11_isRestPair_39 : decode cX11_isRestPair 39 = .ok (.iload_n 0, 1) := by decide +kernel
theorem dX11_isRestPair_40 : decode cX11_isRestPair 40 = .ok (.iload_n 2, 1) := by decide +kernel
theorem dX11_isRestPair_41 : decode cX11_isRestPair 41 = .ok (.iload_n 3, 1) := by decide +kernel
theorem dX11_isRestPair_42 : decode cX11_isRestPair 42 = .ok (.iconst 0, 1) := by decide +kernel
theorem dX11_isRestPair_43 : decode cX11_isRestPair 43 = .ok (.invokestatic 335, 3) := by decide +kernel
theorem dX11_isRestPair_46 : decode cX11_isRestPair 46 = .ok (.if_icmp .gt 32, 3) := by decide +kernel
theorem dX11_isRestPair_49 : decode cX11_isRestPair 49 = .ok (.iload_n 0, 1) := by decide +kernel
theorem dX11_isRestPair_50 : decode cX11_isRestPair 50 = .ok (.iload_n 2, 1) := by decide +kernel
theorem dX11_isRestPair_51 : decode cX11_isRestPair 51 = .ok (.iload_n 3, 1) := by decide +kernel
theorem dX11_isRestPair_52 : decode cX11_isRestPair 52 = .ok (.ifCond .ne 7, 3) := by decide +kernel
theorem dX11_isRestPair_55 : decode cX11_isRestPair 55 = .ok (.iconst 1, 1) := by decide +kernel
theorem dX11_isRestPair_56 : decode cX11_isRestPair 56 = .ok (.goto 4, 3) := by decide +kernel
theorem dX11_isRestPair_59 : decode cX11_isRestPair 59 = .ok (.iconst 0, 1) := by decide +kernel
theorem dX11_isRestPair_60 : decode cX11_isRestPair 60 = .ok (.iconst 1, 1) := by decide +kernel
theorem dX11_isRestPair_61 : decode cX11_isRestPair 61 = .ok (.invokestatic 335, 3) := by decide +kernel
theorem dX11_isRestPair_64 : decode cX11_isRestPair 64 = .ok (.iload_n 0, 1) := by decide +kernel
theorem dX11_isRestPair_65 : decode cX11_isRestPair 65 = .ok (.iload_n 2, 1) := by decide +kernel
theorem dX11_isRestPair_66 : decode cX11_isRestPair 66 = .ok (.iload_n 3, 1) := by decide +kernel
theorem dX11_isRestPair_67 : decode cX11_isRestPair 67 = .ok (.iconst 1, 1) := by decide +kernel
theorem dX11_isRestPair_68 : decode cX11_isRestPair 68 = .ok (.invokestatic 335, 3) := by decide +kernel
theorem dX11_isRestPair_71 : decode cX11_isRestPair 71 = .ok (.if_icmp .gt 7, 3) := by decide +kernel
theorem dX11_isRestPair_74 : decode cX11_isRestPair 74 = .ok (.iconst 1, 1) := by decide +kernel
theorem dX11_isRestPair_75 : decode cX11_isRestPair 75 = .ok (.goto 4, 3) := by decide +kernel
theorem dX11_isRestPair_78 : decode cX11_isRestPair 78 = .ok (.iconst 0, 1) := by decide +kernel
theorem dX11_isRestPair_79 : decode cX11_isRestPair 79 = .ok (.ireturn, 1) := by decide +kernel
theorem dX11_holds_0 : decode cX11_holds 0 = .ok (.aload_n 0, 1) := by decide +kernel
theorem dX11_holds_1 : decode cX11_holds 1 = .ok (.iload_n 1, 1) := by decide +kernel
theorem dX11_holds_2 : decode cX11_holds 2 = .ok (.invokevirtual 142, 3) := by decide +kernel
theorem dX11_holds_5 : decode cX11_holds 5 = .ok (.ifCond .ne 10, 3) := by decide +kernel
theorem dX11_holds_8 : decode cX11_holds 8 = .ok (.aload_n 0, 1) := by decide +kernel
theorem dX11_holds_9 : decode cX11_holds 9 = .ok (.iconst 1, 1) := by decide +kernel
theorem dX11_holds_10 : decode cX11_holds 10 = .ok (.invokevirtual 102, 3) := by decide +kernel
theorem dX11_holds_13 : decode cX11_holds 13 = .ok (.i2l, 1) := by decide +kernel
theorem dX11_holds_14 : decode cX11_holds 14 = .ok (.lreturn, 1) := by decide +kernel
theorem dX11_holds_15 : decode cX11_holds 15 = .ok (.iload_n 2, 1) := by decide +kernel
theorem dX11_holds_16 : decode cX11_holds 16 = .ok (.ifCond .lt 8, 3) := by decide +kernel
theorem dX11_holds_19 : decode cX11_holds 19 = .ok (.iload_n 2, 1) := by decide +kernel
theorem dX11_holds_20 : decode cX11_holds 20 = .ok (.iconst 4, 1) := by decide +kernel
theorem dX11_holds_21 : decode cX11_holds 21 = .ok (.if_icmp .le 10, 3) := by decide +kernel
theorem dX11_holds_24 : decode cX11_holds 24 = .ok (.aload_n 0, 1) := by decide +kernel
theorem dX11_holds_25 : decode cX11_holds 25 = .ok (.iconst 2, 1) := by decide +kernel
theorem dX11_holds_26 : decode cX11_holds 26 = .ok (.invokevirtual 102, 3) := by decide +kernel
theorem dX11_holds_29 : decode cX11_holds 29 = .ok (.i2l, 1) := by decide +kernel
theorem dX11_holds_30 : decode cX11_holds 30 = .ok (.lreturn, 1) := by decide +kernel
theorem dX11_holds_31 : decode cX11_holds 31 = .ok (.aload_n 0, 1) := by decide +kernel
theorem dX11_holds_32 : decode cX11_holds 32 = .ok (.getfield 71, 3) := by decide +kernel
theorem dX11_holds_35 : decode cX11_holds 35 = .ok (.aload_n 0, 1) := by decide +kernel
theorem dX11_holds_36 : decode cX11_holds 36 = .ok (.getfield 78, 3) := by decide +kernel
theorem dX11_holds_39 : decode cX11_holds 39 = .ok (.aload_n 0, 1) := by decide +kernel
theorem dX11_holds_40 : decode cX11_holds 40 = .ok (.getfield 28, 3) := by decide +kernel
theorem dX11_holds_43 : decode cX11_holds 43 = .ok (.getfield 159, 3) := by decide +kernel
theorem dX11_holds_46 : decode cX11_holds 46 = .ok (.iload_n 1, 1) := by decide +kernel
theorem dX11_holds_47 : decode cX11_holds 47 = .ok (.invokevirtual 352, 3) := by decide +kernel
theorem dX11_holds_50 : decode cX11_holds 50 = .ok (.iload_n 2, 1) := by decide +kernel
theorem dX11_holds_51 : decode cX11_holds 51 = .ok (.invokevirtual 355, 3) := by decide +kernel
theorem dX11_holds_54 : decode cX11_holds 54 = .ok (.aload_n 0, 1) := by decide +kernel
theorem dX11_holds_55 : decode cX11_holds 55 = .ok (.iload_n 3, 1) := by decide +kernel
theorem dX11_holds_56 : decode cX11_holds 56 = .ok (.invokevirtual 325, 3) := by decide +kernel
theorem dX11_holds_59 : decode cX11_holds 59 = .ok (.lreturn, 1) := by decide +kernel
theorem dX11_mean_0 : decode cX11_mean 0 = .ok (.aload_n 0, 1) := by decide +kernel
theorem dX11_mean_1 : decode cX11_mean 1 = .ok (.iload_n 1, 1) := by decide +kernel
theorem dX11_mean_2 : decode cX11_mean 2 = .ok (.invokevirtual 174, 3) := by decide +kernel
theorem dX11_mean_5 : decode cX11_mean 5 = .ok (.ifCond .ne 10, 3) := by decide +kernel
theorem dX11_mean_8 : decode cX11_mean 8 = .ok (.aload_n 0, 1) := by decide +kernel
theorem dX11_mean_9 : decode cX11_mean 9 = .ok (.iconst 1, 1) := by decide +kernel
theorem dX11_mean_10 : decode cX11_mean 10 = .ok (.invokevirtual 102, 3) := by decide +kernel
theorem dX11_mean_13 : decode cX11_mean 13 = .ok (.i2l, 1) := by decide +kernel
theorem dX11_mean_14 : decode cX11_mean 14 = .ok (.lreturn, 1) := by decide +kernel
theorem dX11_mean_15 : decode cX11_mean 15 = .ok (.aload_n 0, 1) := by decide +kernel
theorem dX11_mean_16 : decode cX11_mean 16 = .ok (.getfield 71, 3) := by decide +kernel
theorem dX11_mean_19 : decode cX11_mean 19 = .ok (.aload_n 0, 1) := by decide +kernel
theorem dX11_mean_20 : decode cX11_mean 20 = .ok (.getfield 78, 3) := by decide +kernel
theorem dX11_mean_23 : decode cX11_mean 23 = .ok (.aload_n 0, 1) := by decide +kernel
theorem dX11_mean_24 : decode cX11_mean 24 = .ok (.getfield 28, 3) := by decide +kernel
theorem dX11_mean_27 : decode cX11_mean 27 = .ok (.getfield 159, 3) := by decide +kernel
theorem dX11_mean_30 : decode cX11_mean 30 = .ok (.iload_n 1, 1) := by decide +kernel
theorem dX11_mean_31 : decode cX11_mean 31 = .ok (.invokevirtual 359, 3) := by decide +kernel
theorem dX11_mean_34 : decode cX11_mean 34 = .ok (.aload_n 0, 1) := by decide +kernel
theorem dX11_mean_35 : decode cX11_mean 35 = .ok (.iload_n 2, 1) := by decide +kernel
theorem dX11_mean_36 : decode cX11_mean 36 = .ok (.invokevirtual 325, 3) := by decide +kernel
theorem dX11_mean_39 : decode cX11_mean 39 = .ok (.lreturn, 1) := by decide +kernel
theorem dX11_keeps_0 : decode cX11_keeps 0 = .ok (.aload_n 0, 1) := by decide +kernel
theorem dX11_keeps_1 : decode cX11_keeps 1 = .ok (.iload_n 1, 1) := by decide +kernel
theorem dX11_keeps_2 : decode cX11_keeps 2 = .ok (.invokevirtual 174, 3) := by decide +kernel
theorem dX11_keeps_5 : decode cX11_keeps 5 = .ok (.ifCond .ne 10, 3) := by decide +kernel
theorem dX11_keeps_8 : decode cX11_keeps 8 = .ok (.aload_n 0, 1) := by decide +kernel
theorem dX11_keeps_9 : decode cX11_keeps 9 = .ok (.iconst 1, 1) := by decide +kernel
theorem dX11_keeps_10 : decode cX11_keeps 10 = .ok (.invokevirtual 102, 3) := by decide +kernel
theorem dX11_keeps_13 : decode cX11_keeps 13 = .ok (.i2l, 1) := by decide +kernel
theorem dX11_keeps_14 : decode cX11_keeps 14 = .ok (.lreturn, 1) := by decide +kernel
theorem dX11_keeps_15 : decode cX11_keeps 15 = .ok (.iload_n 2, 1) := by decide +kernel
theorem dX11_keeps_16 : decode cX11_keeps 16 = .ok (.invokestatic 247, 3) := by decide +kernel
theorem dX11_keeps_19 : decode cX11_keeps 19 = .ok (.ifCond .ne 10, 3) := by decide +kernel
theorem dX11_keeps_22 : decode cX11_keeps 22 = .ok (.aload_n 0, 1) := by decide +kernel
theorem dX11_keeps_23 : decode cX11_keeps 23 = .ok (.iconst 2, 1) := by decide +kernel
theorem dX11_keeps_24 : decode cX11_keeps 24 = .ok (.invokevirtual 102, 3) := by decide +kernel
theorem dX11_keeps_27 : decode cX11_keeps 27 = .ok (.i2l, 1) := by decide +kernel
theorem dX11_keeps_28 : decode cX11_keeps 28 = .ok (.lreturn, 1) := by decide +kernel
theorem dX11_keeps_29 : decode cX11_keeps 29 = .ok (.aload_n 0, 1) := by decide +kernel
theorem dX11_keeps_30 : decode cX11_keeps 30 = .ok (.getfield 71, 3) := by decide +kernel
theorem dX11_keeps_33 : decode cX11_keeps 33 = .ok (.aload_n 0, 1) := by decide +kernel
theorem dX11_keeps_34 : decode cX11_keeps 34 = .ok (.getfield 78, 3) := by decide +kernel
theorem dX11_keeps_37 : decode cX11_keeps 37 = .ok (.aload_n 0, 1) := by decide +kernel
theorem dX11_keeps_38 : decode cX11_keeps 38 = .ok (.getfield 28, 3) := by decide +kernel
theorem dX11_keeps_41 : decode cX11_keeps 41 = .ok (.getfield 159, 3) := by decide +kernel
theorem dX11_keeps_44 : decode cX11_keeps 44 = .ok (.iload_n 1, 1) := by decide +kernel
theorem dX11_keeps_45 : decode cX11_keeps 45 = .ok (.iload_n 2, 1) := by decide +kernel
theorem dX11_keeps_46 : decode cX11_keeps 46 = .ok (.invokevirtual 362, 3) := by decide +kernel
theorem dX11_keeps_49 : decode cX11_keeps 49 = .ok (.aload_n 0, 1) := by decide +kernel
theorem dX11_keeps_50 : decode cX11_keeps 50 = .ok (.iload_n 3, 1) := by decide +kernel
theorem dX11_keeps_51 : decode cX11_keeps 51 = .ok (.invokevirtual 325, 3) := by decide +kernel
theorem dX11_keeps_54 : decode cX11_keeps 54 = .ok (.lreturn, 1) := by decide +kernel
theorem dX11_century_0 : decode cX11_century 0 = .ok (.aload_n 0, 1) := by decide +kernel
theorem dX11_century_1 : decode cX11_century 1 = .ok (.iload_n 1, 1) := by decide +kernel
theorem dX11_century_2 : decode cX11_century 2 = .ok (.invokevirtual 174, 3) := by decide +kernel
theorem dX11_century_5 : decode cX11_century 5 = .ok (.ifCond .ne 9, 3) := by decide +kernel
theorem dX11_century_8 : decode cX11_century 8 = .ok (.aload_n 0, 1) := by decide +kernel
theorem dX11_century_9 : decode cX11_century 9 = .ok (.iconst 1, 1) := by decide +kernel
theorem dX11_century_10 : decode cX11_century 10 = .ok (.invokevirtual 102, 3) := by decide +kernel
theorem dX11_century_13 : decode cX11_century 13 = .ok (.ireturn, 1) := by decide +kernel
theorem dX11_century_14 : decode cX11_century 14 = .ok (.iload_n 2, 1) := by decide +kernel
theorem dX11_century_15 : decode cX11_century 15 = .ok (.invokestatic 366, 3) := by decide +kernel
theorem dX11_century_18 : decode cX11_century 18 = .ok (.ifCond .eq 10, 3) := by decide +kernel
theorem dX11_century_21 : decode cX11_century 21 = .ok (.iload_n 3, 1) := by decide +kernel
theorem dX11_century_22 : decode cX11_century 22 = .ok (.invokestatic 369, 3) := by decide +kernel
theorem dX11_century_25 : decode cX11_century 25 = .ok (.ifCond .ne 9, 3) := by decide +kernel
theorem dX11_century_28 : decode cX11_century 28 = .ok (.aload_n 0, 1) := by decide +kernel
theorem dX11_century_29 : decode cX11_century 29 = .ok (.iconst 2, 1) := by decide +kernel
theorem dX11_century_30 : decode cX11_century 30 = .ok (.invokevirtual 102, 3) := by decide +kernel
theorem dX11_century_33 : decode cX11_century 33 = .ok (.ireturn, 1) := by decide +kernel
theorem dX11_century_34 : decode cX11_century 34 = .ok (.aload_n 0, 1) := by decide +kernel
theorem dX11_century_35 : decode cX11_century 35 = .ok (.getfield 32, 3) := by decide +kernel
theorem dX11_century_38 : decode cX11_century 38 = .ok (.aload_n 0, 1) := by decide +kernel
theorem dX11_century_39 : decode cX11_century 39 = .ok (.getfield 28, 3) := by decide +kernel
theorem dX11_century_42 : decode cX11_century 42 = .ok (.getfield 159, 3) := by decide +kernel
theorem dX11_century_45 : decode cX11_century 45 = .ok (.iload_n 2, 1) := by decide +kernel
theorem dX11_century_46 : decode cX11_century 46 = .ok (.iconst 0, 1) := by decide +kernel
theorem dX11_century_47 : decode cX11_century 47 = .ok (.invokevirtual 130, 3) := by decide +kernel
theorem dX11_century_50 : decode cX11_century 50 = .ok (.iconst 0, 1) := by decide +kernel
theorem dX11_century_51 : decode cX11_century 51 = .ok (.istore 4, 2) := by decide +kernel
theorem dX11_century_53 : decode cX11_century 53 = .ok (.iload 4, 2) := by decide +kernel
theorem dX11_century_55 : decode cX11_century 55 = .ok (.iload_n 3, 1) := by decide +kernel
theorem dX11_century_56 : decode cX11_century 56 = .ok (.if_icmp .ge 21, 3) := by decide +kernel
theorem dX11_century_59 : decode cX11_century 59 = .ok (.aload_n 0, 1) := by decide +kernel
theorem dX11_century_60 : decode cX11_century 60 = .ok (.getfield 32, 3) := by decide +kernel
theorem dX11_century_63 : decode cX11_century 63 = .ok (.aload_n 0, 1) := by decide +kernel
theorem dX11_century_64 : decode cX11_century 64 = .ok (.getfield 78, 3) := by decide +kernel
theorem dX11_century_67 : decode cX11_century 67 = .ok (.invokevirtual 372, 3) := by decide +kernel
theorem dX11_century_70 : decode cX11_century 70 = .ok (.pop, 1) := by decide +kernel
theorem dX11_century_71 : decode cX11_century 71 = .ok (.iinc 4 1, 3) := by decide +kernel
theorem dX11_century_74 : decode cX11_century 74 = .ok (.goto (-21), 3) := by decide +kernel
theorem dX11_century_77 : decode cX11_century 77 = .ok (.aload_n 0, 1) := by decide +kernel
theorem dX11_century_78 : decode cX11_century 78 = .ok (.aload_n 0, 1) := by decide +kernel
theorem dX11_century_79 : decode cX11_century 79 = .ok (.getfield 78, 3) := by decide +kernel
theorem dX11_century_82 : decode cX11_century 82 = .ok (.iload_n 1, 1) := by decide +kernel
theorem dX11_century_83 : decode cX11_century 83 = .ok (.aload_n 0, 1) := by decide +kernel
theorem dX11_century_84 : decode cX11_century 84 = .ok (.getfield 32, 3) := by decide +kernel
theorem dX11_century_87 : decode cX11_century 87 = .ok (.getfield 159, 3) := by decide +kernel
theorem dX11_century_90 : decode cX11_century 90 = .ok (.invokevirtual 177, 3) := by decide +kernel
theorem dX11_century_93 : decode cX11_century 93 = .ok (.invokevirtual 120, 3) := by decide +kernel
theorem dX11_century_96 : decode cX11_century 96 = .ok (.ireturn, 1) := by decide +kernel
theorem dX11_bare_0 : decode cX11_bare 0 = .ok (.aload_n 0, 1) := by decide +kernel
theorem dX11_bare_1 : decode cX11_bare 1 = .ok (.invokevirtual 201, 3) := by decide +kernel
theorem dX11_bare_4 : decode cX11_bare 4 = .ok (.ifCond .ne 9, 3) := by decide +kernel
theorem dX11_bare_7 : decode cX11_bare 7 = .ok (.aload_n 0, 1) := by decide +kernel
theorem dX11_bare_8 : decode cX11_bare 8 = .ok (.iconst 1, 1) := by decide +kernel
theorem dX11_bare_9 : decode cX11_bare 9 = .ok (.invokevirtual 102, 3) := by decide +kernel
theorem dX11_bare_12 : decode cX11_bare 12 = .ok (.ireturn, 1) := by decide +kernel
theorem dX11_bare_13 : decode cX11_bare 13 = .ok (.iload_n 1, 1) := by decide +kernel
theorem dX11_bare_14 : decode cX11_bare 14 = .ok (.invokestatic 366, 3) := by decide +kernel
theorem dX11_bare_17 : decode cX11_bare 17 = .ok (.ifCond .eq 10, 3) := by decide +kernel
theorem dX11_bare_20 : decode cX11_bare 20 = .ok (.iload_n 2, 1) := by decide +kernel
theorem dX11_bare_21 : decode cX11_bare 21 = .ok (.invokestatic 369, 3) := by decide +kernel
theorem dX11_bare_24 : decode cX11_bare 24 = .ok (.ifCond .ne 9, 3) := by decide +kernel
theorem dX11_bare_27 : decode cX11_bare 27 = .ok (.aload_n 0, 1) := by decide +kernel
theorem dX11_bare_28 : decode cX11_bare 28 = .ok (.iconst 2, 1) := by decide +kernel
theorem dX11_bare_29 : decode cX11_bare 29 = .ok (.invokevirtual 102, 3) := by decide +kernel
theorem dX11_bare_32 : decode cX11_bare 32 = .ok (.ireturn, 1) := by decide +kernel
theorem dX11_bare_33 : decode cX11_bare 33 = .ok (.aload_n 0, 1) := by decide +kernel
theorem dX11_bare_34 : decode cX11_bare 34 = .ok (.getfield 32, 3) := by decide +kernel
theorem dX11_bare_37 : decode cX11_bare 37 = .ok (.aload_n 0, 1) := by decide +kernel
theorem dX11_bare_38 : decode cX11_bare 38 = .ok (.getfield 28, 3) := by decide +kernel
theorem dX11_bare_41 : decode cX11_bare 41 = .ok (.getfield 159, 3) := by decide +kernel
theorem dX11_bare_44 : decode cX11_bare 44 = .ok (.iload_n 1, 1) := by decide +kernel
theorem dX11_bare_45 : decode cX11_bare 45 = .ok (.iconst 0, 1) := by decide +kernel
theorem dX11_bare_46 : decode cX11_bare 46 = .ok (.invokevirtual 130, 3) := by decide +kernel
theorem dX11_bare_49 : decode cX11_bare 49 = .ok (.iconst 0, 1) := by decide +kernel
theorem dX11_bare_50 : decode cX11_bare 50 = .ok (.istore_n 3, 1) := by decide +kernel
theorem dX11_bare_51 : decode cX11_bare 51 = .ok (.iload_n 3, 1) := by decide +kernel
theorem dX11_bare_52 : decode cX11_bare 52 = .ok (.iload_n 2, 1) := by decide +kernel
theorem dX11_bare_53 : decode cX11_bare 53 = .ok (.if_icmp .gt 47, 3) := by decide +kernel
theorem dX11_bare_56 : decode cX11_bare 56 = .ok (.aload_n 0, 1) := by decide +kernel
theorem dX11_bare_57 : decode cX11_bare 57 = .ok (.getfield 32, 3) := by decide +kernel
theorem dX11_bare_60 : decode cX11_bare 60 = .ok (.getfield 159, 3) := by decide +kernel
theorem dX11_bare_63 : decode cX11_bare 63 = .ok (.aload_n 0, 1) := by decide +kernel
theorem dX11_bare_64 : decode cX11_bare 64 = .ok (.getfield 78, 3) := by decide +kernel
theorem dX11_bare_67 : decode cX11_bare 67 = .ok (.getfield 375, 3) := by decide +kernel
theorem dX11_bare_70 : decode cX11_bare 70 = .ok (.iconst (-1), 1) := by decide +kernel
theorem dX11_bare_71 : decode cX11_bare 71 = .ok (.ixor, 1) := by decide +kernel
theorem dX11_bare_72 : decode cX11_bare 72 = .ok (.iand, 1) := by decide +kernel
theorem dX11_bare_73 : decode cX11_bare 73 = .ok (.ifCond .ne 9, 3) := by decide +kernel
theorem dX11_bare_76 : decode cX11_bare 76 = .ok (.aload_n 0, 1) := by decide +kernel
theorem dX11_bare_77 : decode cX11_bare 77 = .ok (.iload_n 3, 1) := by decide +kernel
theorem dX11_bare_78 : decode cX11_bare 78 = .ok (.invokevirtual 120, 3) := by decide +kernel
theorem dX11_bare_81 : decode cX11_bare 81 = .ok (.ireturn, 1) := by decide +kernel
theorem dX11_bare_82 : decode cX11_bare 82 = .ok (.aload_n 0, 1) := by decide +kernel
theorem dX11_bare_83 : decode cX11_bare 83 = .ok (.getfield 32, 3) := by decide +kernel
theorem dX11_bare_86 : decode cX11_bare 86 = .ok (.aload_n 0, 1) := by decide +kernel
theorem dX11_bare_87 : decode cX11_bare 87 = .ok (.getfield 78, 3) := by decide +kernel
theorem dX11_bare_90 : decode cX11_bare 90 = .ok (.invokevirtual 372, 3) := by decide +kernel
theorem dX11_bare_93 : decode cX11_bare 93 = .ok (.pop, 1) := by decide +kernel
theorem dX11_bare_94 : decode cX11_bare 94 = .ok (.iinc 3 1, 3) := by decide +kernel
theorem dX11_bare_97 : decode cX11_bare 97 = .ok (.goto (-46), 3) := by decide +kernel
theorem dX11_bare_100 : decode cX11_bare 100 = .ok (.aload_n 0, 1) := by decide +kernel
theorem dX11_bare_101 : decode cX11_bare 101 = .ok (.bipush (-2), 2) := by decide +kernel
theorem dX11_bare_103 : decode cX11_bare 103 = .ok (.invokevirtual 120, 3) := by decide +kernel
theorem dX11_bare_106 : decode cX11_bare 106 = .ok (.ireturn, 1) := by decide +kernel
theorem dX11_hang_0 : decode cX11_hang 0 = .ok (.aload_n 0, 1) := by decide +kernel
theorem dX11_hang_1 : decode cX11_hang 1 = .ok (.iload_n 1, 1) := by decide +kernel
theorem dX11_hang_2 : decode cX11_hang 2 = .ok (.invokevirtual 142, 3) := by decide +kernel
theorem dX11_hang_5 : decode cX11_hang 5 = .ok (.ifCond .ne 9, 3) := by decide +kernel
theorem dX11_hang_8 : decode cX11_hang 8 = .ok (.aload_n 0, 1) := by decide +kernel
theorem dX11_hang_9 : decode cX11_hang 9 = .ok (.iconst 1, 1) := by decide +kernel
theorem dX11_hang_10 : decode cX11_hang 10 = .ok (.invokevirtual 345, 3) := by decide +kernel
theorem dX11_hang_13 : decode cX11_hang 13 = .ok (.ireturn, 1) := by decide +kernel
theorem dX11_hang_14 : decode cX11_hang 14 = .ok (.aload_n 0, 1) := by decide +kernel
theorem dX11_hang_15 : decode cX11_hang 15 = .ok (.getfield 28, 3) := by decide +kernel
theorem dX11_hang_18 : decode cX11_hang 18 = .ok (.getfield 159, 3) := by decide +kernel
theorem dX11_hang_21 : decode cX11_hang 21 = .ok (.iload_n 1, 1) := by decide +kernel
theorem dX11_hang_22 : decode cX11_hang 22 = .ok (.invokestatic 162, 3) := by decide +kernel
theorem dX11_hang_25 : decode cX11_hang 25 = .ok (.ifCond .eq 9, 3) := by decide +kernel
theorem dX11_hang_28 : decode cX11_hang 28 = .ok (.aload_n 0, 1) := by decide +kernel
theorem dX11_hang_29 : decode cX11_hang 29 = .ok (.iconst 5, 1) := by decide +kernel
theorem dX11_hang_30 : decode cX11_hang 30 = .ok (.invokevirtual 345, 3) := by decide +kernel
theorem dX11_hang_33 : decode cX11_hang 33 = .ok (.ireturn, 1) := by decide +kernel
theorem dX11_hang_34 : decode cX11_hang 34 = .ok (.aload_n 0, 1) := by decide +kernel
theorem dX11_hang_35 : decode cX11_hang 35 = .ok (.aload_n 0, 1) := by decide +kernel
theorem dX11_hang_36 : decode cX11_hang 36 = .ok (.getfield 78, 3) := by decide +kernel
theorem dX11_hang_39 : decode cX11_hang 39 = .ok (.aload_n 0, 1) := by decide +kernel
theorem dX11_hang_40 : decode cX11_hang 40 = .ok (.getfield 28, 3) := by decide +kernel
theorem dX11_hang_43 : decode cX11_hang 43 = .ok (.getfield 159, 3) := by decide +kernel
theorem dX11_hang_46 : decode cX11_hang 46 = .ok (.iload_n 2, 1) := by decide +kernel
theorem dX11_hang_47 : decode cX11_hang 47 = .ok (.ifCond .eq 7, 3) := by decide +kernel
theorem dX11_hang_50 : decode cX11_hang 50 = .ok (.iconst 1, 1) := by decide +kernel
theorem dX11_hang_51 : decode cX11_hang 51 = .ok (.goto 4, 3) := by decide +kernel
theorem dX11_hang_54 : decode cX11_hang 54 = .ok (.iconst 0, 1) := by decide +kernel
theorem dX11_hang_55 : decode cX11_hang 55 = .ok (.iload_n 1, 1) := by decide +kernel
theorem dX11_hang_56 : decode cX11_hang 56 = .ok (.invokevirtual 220, 3) := by decide +kernel
theorem dX11_hang_59 : decode cX11_hang 59 = .ok (.invokevirtual 378, 3) := by decide +kernel
theorem dX11_hang_62 : decode cX11_hang 62 = .ok (.ireturn, 1) := by decide +kernel
theorem dX11_take_0 : decode cX11_take 0 = .ok (.aload_n 0, 1) := by decide +kernel
theorem dX11_take_1 : decode cX11_take 1 = .ok (.iload_n 1, 1) := by decide +kernel
theorem dX11_take_2 : decode cX11_take 2 = .ok (.invokevirtual 381, 3) := by decide +kernel
theorem dX11_take_5 : decode cX11_take 5 = .ok (.ifCond .eq 30, 3) := by decide +kernel
theorem dX11_take_8 : decode cX11_take 8 = .ok (.aload_n 0, 1) := by decide +kernel
theorem dX11_take_9 : decode cX11_take 9 = .ok (.aload_n 0, 1) := by decide +kernel
theorem dX11_take_10 : decode cX11_take 10 = .ok (.getfield 78, 3) := by decide +kernel
theorem dX11_take_13 : decode cX11_take 13 = .ok (.aload_n 0, 1) := by decide +kernel
theorem dX11_take_14 : decode cX11_take 14 = .ok (.getfield 28, 3) := by decide +kernel
theorem dX11_take_17 : decode cX11_take 17 = .ok (.getfield 159, 3) := by decide +kernel
theorem dX11_take_20 : decode cX11_take 20 = .ok (.iconst 2, 1) := by decide +kernel
theorem dX11_take_21 : decode cX11_take 21 = .ok (.iload_n 1, 1) := by decide +kernel
theorem dX11_take_22 : decode cX11_take 22 = .ok (.invokevirtual 220, 3) := by decide +kernel
theorem dX11_take_25 : decode cX11_take 25 = .ok (.invokevirtual 378, 3) := by decide +kernel
theorem dX11_take_28 : decode cX11_take 28 = .ok (.ifCond .eq 7, 3) := by decide +kernel
theorem dX11_take_31 : decode cX11_take 31 = .ok (.iconst 1, 1) := by decide +kernel
theorem dX11_take_32 : decode cX11_take 32 = .ok (.goto 4, 3) := by decide +kernel
theorem dX11_take_35 : decode cX11_take 35 = .ok (.iconst 0, 1) := by decide +kernel
theorem dX11_take_36 : decode cX11_take 36 = .ok (.ireturn, 1) := by decide +kernel
theorem dX11_turnOver_0 : decode cX11_turnOver 0 = .ok (.aload_n 0, 1) := by decide +kernel
theorem dX11_turnOver_1 : decode cX11_turnOver 1 = .ok (.iload_n 1, 1) := by decide +kernel
theorem dX11_turnOver_2 : decode cX11_turnOver 2 = .ok (.invokevirtual 381, 3) := by decide +kernel
theorem dX11_turnOver_5 : decode cX11_turnOver 5 = .ok (.ifCond .eq 30, 3) := by decide +kernel
theorem dX11_turnOver_8 : decode cX11_turnOver 8 = .ok (.aload_n 0, 1) := by decide +kernel
theorem dX11_turnOver_9 : decode cX11_turnOver 9 = .ok (.aload_n 0, 1) := by decide +kernel
theorem dX11_turnOver_10 : decode cX11_turnOver 10 = .ok (.getfield 78, 3) := by decide +kernel
theorem dX11_turnOver_13 : decode cX11_turnOver 13 = .ok (.aload_n 0, 1) := by decide +kernel
theorem dX11_turnOver_14 : decode cX11_turnOver 14 = .ok (.getfield 28, 3) := by decide +kernel
theorem dX11_turnOver_17 : decode cX11_turnOver 17 = .ok (.getfield 159, 3) := by decide +kernel
theorem dX11_turnOver_20 : decode cX11_turnOver 20 = .ok (.iconst 3, 1) := by decide +kernel
theorem dX11_turnOver_21 : decode cX11_turnOver 21 = .ok (.iload_n 1, 1) := by decide +kernel
theorem dX11_turnOver_22 : decode cX11_turnOver 22 = .ok (.invokevirtual 220, 3) := by decide +kernel
theorem dX11_turnOver_25 : decode cX11_turnOver 25 = .ok (.invokevirtual 378, 3) := by decide +kernel
theorem dX11_turnOver_28 : decode cX11_turnOver 28 = .ok (.ifCond .eq 7, 3) := by decide +kernel
theorem dX11_turnOver_31 : decode cX11_turnOver 31 = .ok (.iconst 1, 1) := by decide +kernel
theorem dX11_turnOver_32 : decode cX11_turnOver 32 = .ok (.goto 4, 3) := by decide +kernel
theorem dX11_turnOver_35 : decode cX11_turnOver 35 = .ok (.iconst 0, 1) := by decide +kernel
theorem dX11_turnOver_36 : decode cX11_turnOver 36 = .ok (.istore_n 2, 1) := by decide +kernel
theorem dX11_turnOver_37 : decode cX11_turnOver 37 = .ok (.iload_n 2, 1) := by decide +kernel
theorem dX11_turnOver_38 : decode cX11_turnOver 38 = .ok (.ifCond .eq 17, 3) := by decide +kernel
theorem dX11_turnOver_41 : decode cX11_turnOver 41 = .ok (.aload_n 0, 1) := by decide +kernel
theorem dX11_turnOver_42 : decode cX11_turnOver 42 = .ok (.getfield 28, 3) := by decide +kernel
theorem dX11_turnOver_45 : decode cX11_turnOver 45 = .ok (.getfield 159, 3) := by decide +kernel
theorem dX11_turnOver_48 : decode cX11_turnOver 48 = .ok (.iload_n 1, 1) := by decide +kernel
theorem dX11_turnOver_49 : decode cX11_turnOver 49 = .ok (.invokestatic 162, 3) := by decide +kernel
theorem dX11_turnOver_52 : decode cX11_turnOver 52 = .ok (.goto 4, 3) := by decide +kernel
theorem dX11_turnOver_55 : decode cX11_turnOver 55 = .ok (.iconst (-1), 1) := by decide +kernel
theorem dX11_turnOver_56 : decode cX11_turnOver 56 = .ok (.ireturn, 1) := by decide +kernel
theorem dX11_mayAlter_0 : decode cX11_mayAlter 0 = .ok (.aload_n 0, 1) := by decide +kernel
theorem dX11_mayAlter_1 : decode cX11_mayAlter 1 = .ok (.iload_n 1, 1) := by decide +kernel
theorem dX11_mayAlter_2 : decode cX11_mayAlter 2 = .ok (.invokevirtual 142, 3) := by decide +kernel
theorem dX11_mayAlter_5 : decode cX11_mayAlter 5 = .ok (.ifCond .ne 9, 3) := by decide +kernel
theorem dX11_mayAlter_8 : decode cX11_mayAlter 8 = .ok (.aload_n 0, 1) := by decide +kernel
theorem dX11_mayAlter_9 : decode cX11_mayAlter 9 = .ok (.iconst 1, 1) := by decide +kernel
theorem dX11_mayAlter_10 : decode cX11_mayAlter 10 = .ok (.invokevirtual 345, 3) := by decide +kernel
theorem dX11_mayAlter_13 : decode cX11_mayAlter 13 = .ok (.ireturn, 1) := by decide +kernel
theorem dX11_mayAlter_14 : decode cX11_mayAlter 14 = .ok (.aload_n 0, 1) := by decide +kernel
theorem dX11_mayAlter_15 : decode cX11_mayAlter 15 = .ok (.getfield 28, 3) := by decide +kernel
theorem dX11_mayAlter_18 : decode cX11_mayAlter 18 = .ok (.getfield 159, 3) := by decide +kernel
theorem dX11_mayAlter_21 : decode cX11_mayAlter 21 = .ok (.iload_n 1, 1) := by decide +kernel
theorem dX11_mayAlter_22 : decode cX11_mayAlter 22 = .ok (.invokestatic 162, 3) := by decide +kernel
theorem dX11_mayAlter_25 : decode cX11_mayAlter 25 = .ok (.ifCond .ne 11, 3) := by decide +kernel
theorem dX11_mayAlter_28 : decode cX11_mayAlter 28 = .ok (.aload_n 0, 1) := by decide +kernel
theorem dX11_mayAlter_29 : decode cX11_mayAlter 29 = .ok (.iconst 5, 1) := by decide +kernel
theorem dX11_mayAlter_30 : decode cX11_mayAlter 30 = .ok (.invokevirtual 345, 3) := by decide +kernel
theorem dX11_mayAlter_33 : decode cX11_mayAlter 33 = .ok (.ifCond .eq 7, 3) := by decide +kernel
theorem dX11_mayAlter_36 : decode cX11_mayAlter 36 = .ok (.iconst 1, 1) := by decide +kernel
theorem dX11_mayAlter_37 : decode cX11_mayAlter 37 = .ok (.goto 4, 3) := by decide +kernel
theorem dX11_mayAlter_40 : decode cX11_mayAlter 40 = .ok (.iconst 0, 1) := by decide +kernel
theorem dX11_mayAlter_41 : decode cX11_mayAlter 41 = .ok (.ireturn, 1) := by decide +kernel
theorem dX11_act_0 : decode cX11_act 0 = .ok (.iload_n 1, 1) := by decide +kernel
theorem dX11_act_1 : decode cX11_act 1 = .ok (.iconst (-1), 1) := by decide +kernel
theorem dX11_act_2 : decode cX11_act 2 = .ok (.if_icmp .ne 10, 3) := by decide +kernel
theorem dX11_act_5 : decode cX11_act 5 = .ok (.aload_n 0, 1) := by decide +kernel
theorem dX11_act_6 : decode cX11_act 6 = .ok (.bipush 6, 2) := by decide +kernel
theorem dX11_act_8 : decode cX11_act 8 = .ok (.invokevirtual 345, 3) := by decide +kernel
theorem dX11_act_11 : decode cX11_act 11 = .ok (.ireturn, 1) := by decide +kernel
theorem dX11_act_12 : decode cX11_act 12 = .ok (.aload_n 0, 1) := by decide +kernel
theorem dX11_act_13 : decode cX11_act 13 = .ok (.getfield 40, 3) := by decide +kernel
theorem dX11_act_16 : decode cX11_act 16 = .ok (.aload_n 0, 1) := by decide +kernel
theorem dX11_act_17 : decode cX11_act 17 = .ok (.getfield 28, 3) := by decide +kernel
theorem dX11_act_20 : decode cX11_act 20 = .ok (.invokevirtual 384, 3) := by decide +kernel
theorem dX11_act_23 : decode cX11_act 23 = .ok (.aload_n 0, 1) := by decide +kernel
theorem dX11_act_24 : decode cX11_act 24 = .ok (.getfield 28, 3) := by decide +kernel
theorem dX11_act_27 : decode cX11_act 27 = .ok (.iload_n 1, 1) := by decide +kernel
theorem dX11_act_28 : decode cX11_act 28 = .ok (.aload_n 0, 1) := by decide +kernel
theorem dX11_act_29 : decode cX11_act 29 = .ok (.getfield 28, 3) := by decide +kernel
theorem dX11_act_32 : decode cX11_act 32 = .ok (.getfield 388, 3) := by decide +kernel
theorem dX11_act_35 : decode cX11_act 35 = .ok (.aload_n 0, 1) := by decide +kernel
theorem dX11_act_36 : decode cX11_act 36 = .ok (.getfield 28, 3) := by decide +kernel
theorem dX11_act_39 : decode cX11_act 39 = .ok (.getfield 391, 3) := by decide +kernel
theorem dX11_act_42 : decode cX11_act 42 = .ok (.invokevirtual 130, 3) := by decide +kernel
theorem dX11_act_45 : decode cX11_act 45 = .ok (.aload_n 0, 1) := by decide +kernel
theorem dX11_act_46 : decode cX11_act 46 = .ok (.iconst 0, 1) := by decide +kernel
theorem dX11_act_47 : decode cX11_act 47 = .ok (.putfield 82, 3) := by decide +kernel
theorem dX11_act_50 : decode cX11_act 50 = .ok (.iconst 1, 1) := by decide +kernel
theorem dX11_act_51 : decode cX11_act 51 = .ok (.ireturn, 1) := by decide +kernel
theorem dX11_gust_0 : decode cX11_gust 0 = .ok (.aload_n 0, 1) := by decide +kernel
theorem dX11_gust_1 : decode cX11_gust 1 = .ok (.invokevirtual 201, 3) := by decide +kernel
theorem dX11_gust_4 : decode cX11_gust 4 = .ok (.ifCond .ne 9, 3) := by decide +kernel
theorem dX11_gust_7 : decode cX11_gust 7 = .ok (.aload_n 0, 1) := by decide +kernel
theorem dX11_gust_8 : decode cX11_gust 8 = .ok (.iconst 1, 1) := by decide +kernel
theorem dX11_gust_9 : decode cX11_gust 9 = .ok (.invokevirtual 102, 3) := by decide +kernel
theorem dX11_gust_12 : decode cX11_gust 12 = .ok (.ireturn, 1) := by decide +kernel
theorem dX11_gust_13 : decode cX11_gust 13 = .ok (.aload_n 0, 1) := by decide +kernel
theorem dX11_gust_14 : decode cX11_gust 14 = .ok (.getfield 28, 3) := by decide +kernel
theorem dX11_gust_17 : decode cX11_gust 17 = .ok (.getfield 391, 3) := by decide +kernel
theorem dX11_gust_20 : decode cX11_gust 20 = .ok (.sipush 999, 3) := by decide +kernel
theorem dX11_gust_23 : decode cX11_gust 23 = .ok (.if_icmp .lt 9, 3) := by decide +kernel
theorem dX11_gust_26 : decode cX11_gust 26 = .ok (.aload_n 0, 1) := by decide +kernel
theorem dX11_gust_27 : decode cX11_gust 27 = .ok (.iconst 3, 1) := by decide +kernel
theorem dX11_gust_28 : decode cX11_gust 28 = .ok (.invokevirtual 102, 3) := by decide +kernel
theorem dX11_gust_31 : decode cX11_gust 31 = .ok (.ireturn, 1) := by decide +kernel
theorem dX11_gust_32 : decode cX11_gust 32 = .ok (.aload_n 0, 1) := by decide +kernel
theorem dX11_gust_33 : decode cX11_gust 33 = .ok (.getfield 40, 3) := by decide +kernel
theorem dX11_gust_36 : decode cX11_gust 36 = .ok (.aload_n 0, 1) := by decide +kernel
theorem dX11_gust_37 : decode cX11_gust 37 = .ok (.getfield 28, 3) := by decide +kernel
theorem dX11_gust_40 : decode cX11_gust 40 = .ok (.invokevirtual 384, 3) := by decide +kernel
theorem dX11_gust_43 : decode cX11_gust 43 = .ok (.aload_n 0, 1) := by decide +kernel
theorem dX11_gust_44 : decode cX11_gust 44 = .ok (.aload_n 0, 1) := by decide +kernel
theorem dX11_gust_45 : decode cX11_gust 45 = .ok (.getfield 28, 3) := by decide +kernel
theorem dX11_gust_48 : decode cX11_gust 48 = .ok (.aload_n 0, 1) := by decide +kernel
theorem dX11_gust_49 : decode cX11_gust 49 = .ok (.getfield 78, 3) := by decide +kernel
theorem dX11_gust_52 : decode cX11_gust 52 = .ok (.invokevirtual 372, 3) := by decide +kernel
theorem dX11_gust_55 : decode cX11_gust 55 = .ok (.invokevirtual 120, 3) := by decide +kernel
theorem dX11_gust_58 : decode cX11_gust 58 = .ok (.ireturn, 1) := by decide +kernel
theorem dX11_seed_0 : decode cX11_seed 0 = .ok (.aload_n 0, 1) := by decide +kernel
theorem dX11_seed_1 : decode cX11_seed 1 = .ok (.invokevirtual 201, 3) := by decide +kernel
theorem dX11_seed_4 : decode cX11_seed 4 = .ok (.ifCond .ne 9, 3) := by decide +kernel
theorem dX11_seed_7 : decode cX11_seed 7 = .ok (.aload_n 0, 1) := by decide +kernel
theorem dX11_seed_8 : decode cX11_seed 8 = .ok (.iconst 1, 1) := by decide +kernel
theorem dX11_seed_9 : decode cX11_seed 9 = .ok (.invokevirtual 345, 3) := by decide +kernel
theorem dX11_seed_12 : decode cX11_seed 12 = .ok (.ireturn, 1) := by decide +kernel
theorem dX11_seed_13 : decode cX11_seed 13 = .ok (.iload_n 1, 1) := by decide +kernel
theorem dX11_seed_14 : decode cX11_seed 14 = .ok (.invokestatic 366, 3) := by decide +kernel
theorem dX11_seed_17 : decode cX11_seed 17 = .ok (.ifCond .ne 9, 3) := by decide +kernel
theorem dX11_seed_20 : decode cX11_seed 20 = .ok (.aload_n 0, 1) := by decide +kernel
theorem dX11_seed_21 : decode cX11_seed 21 = .ok (.iconst 2, 1) := by decide +kernel
theorem dX11_seed_22 : decode cX11_seed 22 = .ok (.invokevirtual 345, 3) := by decide +kernel
theorem dX11_seed_25 : decode cX11_seed 25 = .ok (.ireturn, 1) := by decide +kernel
theorem dX11_seed_26 : decode cX11_seed 26 = .ok (.aload_n 0, 1) := by decide +kernel
theorem dX11_seed_27 : decode cX11_seed 27 = .ok (.getfield 28, 3) := by decide +kernel
theorem dX11_seed_30 : decode cX11_seed 30 = .ok (.aload_n 0, 1) := by decide +kernel
theorem dX11_seed_31 : decode cX11_seed 31 = .ok (.getfield 28, 3) := by decide +kernel
theorem dX11_seed_34 : decode cX11_seed 34 = .ok (.getfield 159, 3) := by decide +kernel
theorem dX11_seed_37 : decode cX11_seed 37 = .ok (.iload_n 1, 1) := by decide +kernel
theorem dX11_seed_38 : decode cX11_seed 38 = .ok (.aload_n 0, 1) := by decide +kernel
theorem dX11_seed_39 : decode cX11_seed 39 = .ok (.getfield 28, 3) := by decide +kernel
theorem dX11_seed_42 : decode cX11_seed 42 = .ok (.getfield 391, 3) := by decide +kernel
theorem dX11_seed_45 : decode cX11_seed 45 = .ok (.invokevirtual 130, 3) := by decide +kernel
theorem dX11_seed_48 : decode cX11_seed 48 = .ok (.aload_n 0, 1) := by decide +kernel
theorem dX11_seed_49 : decode cX11_seed 49 = .ok (.iconst 0, 1) := by decide +kernel
theorem dX11_seed_50 : decode cX11_seed 50 = .ok (.putfield 82, 3) := by decide +kernel
theorem dX11_seed_53 : decode cX11_seed 53 = .ok (.iconst 1, 1) := by decide +kernel
theorem dX11_seed_54 : decode cX11_seed 54 = .ok (.ireturn, 1) := by decide +kernel
theorem dX11_undo_0 : decode cX11_undo 0 = .ok (.aload_n 0, 1) := by decide +kernel
theorem dX11_undo_1 : decode cX11_undo 1 = .ok (.getfield 40, 3) := by decide +kernel
theorem dX11_undo_4 : decode cX11_undo 4 = .ok (.getfield 134, 3) := by decide +kernel
theorem dX11_undo_7 : decode cX11_undo 7 = .ok (.ifCond .ne 10, 3) := by decide +kernel
theorem dX11_undo_10 : decode cX11_undo 10 = .ok (.aload_n 0, 1) := by decide +kernel
theorem dX11_undo_11 : decode cX11_undo 11 = .ok (.bipush 6, 2) := by decide +kernel
theorem dX11_undo_13 : decode cX11_undo 13 = .ok (.invokevirtual 345, 3) := by decide +kernel
theorem dX11_undo_16 : decode cX11_undo 16 = .ok (.ireturn, 1) := by decide +kernel
theorem dX11_undo_17 : decode cX11_undo 17 = .ok (.aload_n 0, 1) := by decide +kernel
theorem dX11_undo_18 : decode cX11_undo 18 = .ok (.getfield 40, 3) := by decide +kernel
theorem dX11_undo_21 : decode cX11_undo 21 = .ok (.dup, 1) := by decide +kernel
theorem dX11_undo_22 : decode cX11_undo 22 = .ok (.getfield 134, 3) := by decide +kernel
theorem dX11_undo_25 : decode cX11_undo 25 = .ok (.iconst 1, 1) := by decide +kernel
theorem dX11_undo_26 : decode cX11_undo 26 = .ok (.isub, 1) := by decide +kernel
theorem dX11_undo_27 : decode cX11_undo 27 = .ok (.putfield 134, 3) := by decide +kernel
theorem dX11_undo_30 : decode cX11_undo 30 = .ok (.aload_n 0, 1) := by decide +kernel
theorem dX11_undo_31 : decode cX11_undo 31 = .ok (.getfield 40, 3) := by decide +kernel
theorem dX11_undo_34 : decode cX11_undo 34 = .ok (.aload_n 0, 1) := by decide +kernel
theorem dX11_undo_35 : decode cX11_undo 35 = .ok (.getfield 40, 3) := by decide +kernel
theorem dX11_undo_38 : decode cX11_undo 38 = .ok (.getfield 134, 3) := by decide +kernel
theorem dX11_undo_41 : decode cX11_undo 41 = .ok (.aload_n 0, 1) := by decide +kernel
theorem dX11_undo_42 : decode cX11_undo 42 = .ok (.getfield 28, 3) := by decide +kernel
theorem dX11_undo_45 : decode cX11_undo 45 = .ok (.invokevirtual 394, 3) := by decide +kernel
theorem dX11_undo_48 : decode cX11_undo 48 = .ok (.aload_n 0, 1) := by decide +kernel
theorem dX11_undo_49 : decode cX11_undo 49 = .ok (.iconst 0, 1) := by decide +kernel
theorem dX11_undo_50 : decode cX11_undo 50 = .ok (.putfield 82, 3) := by decide +kernel
theorem dX11_undo_53 : decode cX11_undo 53 = .ok (.iconst 1, 1) := by decide +kernel
theorem dX11_undo_54 : decode cX11_undo 54 = .ok (.ireturn, 1) := by decide +kernel
theorem dX11_image_0 : decode cX11_image 0 = .ok (.aload_n 0, 1) := by decide +kernel
theorem dX11_image_1 : decode cX11_image 1 = .ok (.invokevirtual 201, 3) := by decide +kernel
theorem dX11_image_4 : decode cX11_image 4 = .ok (.ifCond .ne 9, 3) := by decide +kernel
theorem dX11_image_7 : decode cX11_image 7 = .ok (.aload_n 0, 1) := by decide +kernel
theorem dX11_image_8 : decode cX11_image 8 = .ok (.iconst 1, 1) := by decide +kernel
theorem dX11_image_9 : decode cX11_image 9 = .ok (.invokevirtual 102, 3) := by decide +kernel
theorem dX11_image_12 : decode cX11_image 12 = .ok (.ireturn, 1) := by decide +kernel
theorem dX11_image_13 : decode cX11_image 13 = .ok (.aload_n 0, 1) := by decide +kernel
theorem dX11_image_14 : decode cX11_image 14 = .ok (.getfield 44, 3) := by decide +kernel
theorem dX11_image_17 : decode cX11_image 17 = .ok (.getfield 134, 3) := by decide +kernel
theorem dX11_image_20 : decode cX11_image 20 = .ok (.iconst 3, 1) := by decide +kernel
theorem dX11_image_21 : decode cX11_image 21 = .ok (.if_icmp .lt 9, 3) := by decide +kernel
theorem dX11_image_24 : decode cX11_image 24 = .ok (.aload_n 0, 1) := by decide +kernel
theorem dX11_image_25 : decode cX11_image 25 = .ok (.iconst 3, 1) := by decide +kernel
theorem dX11_image_26 : decode cX11_image 26 = .ok (.invokevirtual 102, 3) := by decide +kernel
theorem dX11_image_29 : decode cX11_image 29 = .ok (.ireturn, 1) := by decide +kernel
theorem dX11_image_30 : decode cX11_image 30 = .ok (.aload_n 0, 1) := by decide +kernel
theorem dX11_image_31 : decode cX11_image 31 = .ok (.getfield 44, 3) := by decide +kernel
theorem dX11_image_34 : decode cX11_image 34 = .ok (.aload_n 0, 1) := by decide +kernel
theorem dX11_image_35 : decode cX11_image 35 = .ok (.getfield 28, 3) := by decide +kernel
theorem dX11_image_38 : decode cX11_image 38 = .ok (.invokevirtual 384, 3) := by decide +kernel
theorem dX11_image_41 : decode cX11_image 41 = .ok (.aload_n 0, 1) := by decide +kernel
theorem dX11_image_42 : decode cX11_image 42 = .ok (.aload_n 0, 1) := by decide +kernel
theorem dX11_image_43 : decode cX11_image 43 = .ok (.getfield 44, 3) := by decide +kernel
theorem dX11_image_46 : decode cX11_image 46 = .ok (.getfield 134, 3) := by decide +kernel
theorem dX11_image_49 : decode cX11_image 49 = .ok (.iconst 1, 1) := by decide +kernel
theorem dX11_image_50 : decode cX11_image 50 = .ok (.isub, 1) := by decide +kernel
theorem dX11_image_51 : decode cX11_image 51 = .ok (.invokevirtual 120, 3) := by decide +kernel
theorem dX11_image_54 : decode cX11_image 54 = .ok (.ireturn, 1) := by decide +kernel
theorem dX11_back_0 : decode cX11_back 0 = .ok (.iload_n 1, 1) := by decide +kernel
theorem dX11_back_1 : decode cX11_back 1 = .ok (.ifCond .lt 14, 3) := by decide +kernel
theorem dX11_back_4 : decode cX11_back 4 = .ok (.iload_n 1, 1) := by decide +kernel
theorem dX11_back_5 : decode cX11_back 5 = .ok (.aload_n 0, 1) := by decide +kernel
theorem dX11_back_6 : decode cX11_back 6 = .ok (.getfield 44, 3) := by decide +kernel
theorem dX11_back_9 : decode cX11_back 9 = .ok (.getfield 134, 3) := by decide +kernel
theorem dX11_back_12 : decode cX11_back 12 = .ok (.if_icmp .lt 9, 3) := by decide +kernel
theorem dX11_back_15 : decode cX11_back 15 = .ok (.aload_n 0, 1) := by decide +kernel
theorem dX11_back_16 : decode cX11_back 16 = .ok (.iconst 1, 1) := by decide +kernel
theorem dX11_back_17 : decode cX11_back 17 = .ok (.invokevirtual 345, 3) := by decide +kernel
theorem dX11_back_20 : decode cX11_back 20 = .ok (.ireturn, 1) := by decide +kernel
theorem dX11_back_21 : decode cX11_back 21 = .ok (.aload_n 0, 1) := by decide +kernel
theorem dX11_back_22 : decode cX11_back 22 = .ok (.getfield 44, 3) := by decide +kernel
theorem dX11_back_25 : decode cX11_back 25 = .ok (.iload_n 1, 1) := by decide +kernel
theorem dX11_back_26 : decode cX11_back 26 = .ok (.aload_n 0, 1) := by decide +kernel
theorem dX11_back_27 : decode cX11_back 27 = .ok (.getfield 28, 3) := by decide +kernel
theorem dX11_back_30 : decode cX11_back 30 = .ok (.invokevirtual 394, 3) := by decide +kernel
theorem dX11_back_33 : decode cX11_back 33 = .ok (.aload_n 0, 1) := by decide +kernel
theorem dX11_back_34 : decode cX11_back 34 = .ok (.getfield 40, 3) := by decide +kernel
theorem dX11_back_37 : decode cX11_back 37 = .ok (.iconst 0, 1) := by decide +kernel
theorem dX11_back_38 : decode cX11_back 38 = .ok (.putfield 134, 3) := by decide +kernel
theorem dX11_back_41 : decode cX11_back 41 = .ok (.aload_n 0, 1) := by decide +kernel
theorem dX11_back_42 : decode cX11_back 42 = .ok (.iconst 0, 1) := by decide +kernel
theorem dX11_back_43 : decode cX11_back 43 = .ok (.putfield 82, 3) := by decide +kernel
theorem dX11_back_46 : decode cX11_back 46 = .ok (.iconst 1, 1) := by decide +kernel
theorem dX11_back_47 : decode cX11_back 47 = .ok (.ireturn, 1) := by decide +kernel
theorem dX11_led_0 : decode cX11_led 0 = .ok (.aload_n 0, 1) := by decide +kernel
theorem dX11_led_1 : decode cX11_led 1 = .ok (.getfield 78, 3) := by decide +kernel
theorem dX11_led_4 : decode cX11_led 4 = .ok (.iload_n 1, 1) := by decide +kernel
theorem dX11_led_5 : decode cX11_led 5 = .ok (.aload_n 0, 1) := by decide +kernel
theorem dX11_led_6 : decode cX11_led 6 = .ok (.getfield 28, 3) := by decide +kernel
theorem dX11_led_9 : decode cX11_led 9 = .ok (.getfield 159, 3) := by decide +kernel
theorem dX11_led_12 : decode cX11_led 12 = .ok (.invokevirtual 398, 3) := by decide +kernel
theorem dX11_led_15 : decode cX11_led 15 = .ok (.istore_n 2, 1) := by decide +kernel
theorem dX11_led_16 : decode cX11_led 16 = .ok (.iload_n 2, 1) := by decide +kernel
theorem dX11_led_17 : decode cX11_led 17 = .ok (.iconst (-1), 1) := by decide +kernel
theorem dX11_led_18 : decode cX11_led 18 = .ok (.if_icmp .ne 11, 3) := by decide +kernel
theorem dX11_led_21 : decode cX11_led 21 = .ok (.new 401, 3) := by decide +kernel
theorem dX11_led_24 : decode cX11_led 24 = .ok (.dup, 1) := by decide +kernel
theorem dX11_led_25 : decode cX11_led 25 = .ok (.invokespecial 403, 3) := by decide +kernel
theorem dX11_led_28 : decode cX11_led 28 = .ok (.athrow, 1) := by decide +kernel
theorem dX11_led_29 : decode cX11_led 29 = .ok (.iload_n 2, 1) := by decide +kernel
theorem dX11_led_30 : decode cX11_led 30 = .ok (.ireturn, 1) := by decide +kernel
theorem dX11_size_0 : decode cX11_size 0 = .ok (.iload_n 1, 1) := by decide +kernel
theorem dX11_size_1 : decode cX11_size 1 = .ok (.tableswitch 192 0 13 #[71, 79, 87, 95, 103, 111, 119, 130, 141, 152, 160, 168, 176, 184], 71) := by decide +kernel
theorem dX11_size_72 : decode cX11_size 72 = .ok (.aload_n 0, 1) := by decide +kernel
theorem dX11_size_73 : decode cX11_size 73 = .ok (.getfield 78, 3) := by decide +kernel
theorem dX11_size_76 : decode cX11_size 76 = .ok (.getfield 404, 3) := by decide +kernel
theorem dX11_size_79 : decode cX11_size 79 = .ok (.ireturn, 1) := by decide +kernel
theorem dX11_size_80 : decode cX11_size 80 = .ok (.aload_n 0, 1) := by decide +kernel
theorem dX11_size_81 : decode cX11_size 81 = .ok (.getfield 78, 3) := by decide +kernel
theorem dX11_size_84 : decode cX11_size 84 = .ok (.getfield 407, 3) := by decide +kernel
theorem dX11_size_87 : decode cX11_size 87 = .ok (.ireturn, 1) := by decide +kernel
theorem dX11_size_88 : decode cX11_size 88 = .ok (.aload_n 0, 1) := by decide +kernel
theorem dX11_size_89 : decode cX11_size 89 = .ok (.getfield 78, 3) := by decide +kernel
theorem dX11_size_92 : decode cX11_size 92 = .ok (.getfield 410, 3) := by decide +kernel
theorem dX11_size_95 : decode cX11_size 95 = .ok (.ireturn, 1) := by decide +kernel
theorem dX11_size_96 : decode cX11_size 96 = .ok (.aload_n 0, 1) := by decide +kernel
theorem dX11_size_97 : decode cX11_size 97 = .ok (.getfield 78, 3) := by decide +kernel
theorem dX11_size_100 : decode cX11_size 100 = .ok (.getfield 189, 3) := by decide +kernel
theorem dX11_size_103 : decode cX11_size 103 = .ok (.ireturn, 1) := by decide +kernel
theorem dX11_size_104 : decode cX11_size 104 = .ok (.aload_n 0, 1) := by decide +kernel
theorem dX11_size_105 : decode cX11_size 105 = .ok (.getfield 78, 3) := by decide +kernel
theorem dX11_size_108 : decode cX11_size 108 = .ok (.getfield 117, 3) := by decide +kernel
theorem dX11_size_111 : decode cX11_size 111 = .ok (.ireturn, 1) := by decide +kernel
theorem dX11_size_112 : decode cX11_size 112 = .ok (.aload_n 0, 1) := by decide +kernel
theorem dX11_size_113 : decode cX11_size 113 = .ok (.getfield 78, 3) := by decide +kernel
theorem dX11_size_116 : decode cX11_size 116 = .ok (.getfield 413, 3) := by decide +kernel
theorem dX11_size_119 : decode cX11_size 119 = .ok (.ireturn, 1) := by decide +kernel
theorem dX11_size_120 : decode cX11_size 120 = .ok (.aload_n 0, 1) := by decide +kernel
theorem dX11_size_121 : decode cX11_size 121 = .ok (.getfield 78, 3) := by decide +kernel
theorem dX11_size_124 : decode cX11_size 124 = .ok (.getfield 237, 3) := by decide +kernel
theorem dX11_size_127 : decode cX11_size 127 = .ok (.getfield 416, 3) := by decide +kernel
theorem dX11_size_130 : decode cX11_size 130 = .ok (.ireturn, 1) := by decide +kernel
theorem dX11_size_131 : decode cX11_size 131 = .ok (.aload_n 0, 1) := by decide +kernel
theorem dX11_size_132 : decode cX11_size 132 = .ok (.getfield 78, 3) := by decide +kernel
theorem dX11_size_135 : decode cX11_size 135 = .ok (.getfield 237, 3) := by decide +kernel
theorem dX11_size_138 : decode cX11_size 138 = .ok (.getfield 293, 3) := by decide +kernel
theorem dX11_size_141 : decode cX11_size 141 = .ok (.ireturn, 1) := by decide +kernel
theorem dX11_size_142 : decode cX11_size 142 = .ok (.aload_n 0, 1) := by decide +kernel
theorem dX11_size_143 : decode cX11_size 143 = .ok (.getfield 78, 3) := by decide +kernel
theorem dX11_size_146 : decode cX11_size 146 = .ok (.getfield 237, 3) := by decide +kernel
theorem dX11_size_149 : decode cX11_size 149 = .ok (.getfield 419, 3) := by decide +kernel
theorem dX11_size_152 : decode cX11_size 152 = .ok (.ireturn, 1) := by decide +kernel
theorem dX11_size_153 : decode cX11_size 153 = .ok (.aload_n 0, 1) := by decide +kernel
theorem dX11_size_154 : decode cX11_size 154 = .ok (.getfield 28, 3) := by decide +kernel
theorem dX11_size_157 : decode cX11_size 157 = .ok (.getfield 391, 3) := by decide +kernel
theorem dX11_size_160 : decode cX11_size 160 = .ok (.ireturn, 1) := by decide +kernel
theorem dX11_size_161 : decode cX11_size 161 = .ok (.aload_n 0, 1) := by decide +kernel
theorem dX11_size_162 : decode cX11_size 162 = .ok (.getfield 28, 3) := by decide +kernel
theorem dX11_size_165 : decode cX11_size 165 = .ok (.getfield 388, 3) := by decide +kernel
theorem dX11_size_168 : decode cX11_size 168 = .ok (.ireturn, 1) := by decide +kernel
theorem dX11_size_169 : decode cX11_size 169 = .ok (.aload_n 0, 1) := by decide +kernel
theorem dX11_size_170 : decode cX11_size 170 = .ok (.getfield 40, 3) := by decide +kernel
theorem dX11_size_173 : decode cX11_size 173 = .ok (.getfield 134, 3) := by decide +kernel
theorem dX11_size_176 : decode cX11_size 176 = .ok (.ireturn, 1) := by decide +kernel
theorem dX11_size_177 : decode cX11_size 177 = .ok (.aload_n 0, 1) := by decide +kernel
theorem dX11_size_178 : decode cX11_size 178 = .ok (.getfield 44, 3) := by decide +kernel
theorem dX11_size_181 : decode cX11_size 181 = .ok (.getfield 134, 3) := by decide +kernel
theorem dX11_size_184 : decode cX11_size 184 = .ok (.ireturn, 1) := by decide +kernel
theorem dX11_size_185 : decode cX11_size 185 = .ok (.aload_n 0, 1) := by decide +kernel
theorem dX11_size_186 : decode cX11_size 186 = .ok (.getfield 10, 3) := by decide +kernel
theorem dX11_size_189 : decode cX11_size 189 = .ok (.getfield 99, 3) := by decide +kernel
theorem dX11_size_192 : decode cX11_size 192 = .ok (.ireturn, 1) := by decide +kernel
theorem dX11_size_193 : decode cX11_size 193 = .ok (.iconst (-1), 1) := by decide +kernel
theorem dX11_size_194 : decode cX11_size 194 = .ok (.ireturn, 1) := by decide +kernel
theorem dX11_trouble_0 : decode cX11_trouble 0 = .ok (.aload_n 0, 1) := by decide +kernel
theorem dX11_trouble_1 : decode cX11_trouble 1 = .ok (.getfield 82, 3) := by decide +kernel
theorem dX11_trouble_4 : decode cX11_trouble 4 = .ok (.ireturn, 1) := by decide +kernel
theorem dX11_answered_0 : decode cX11_answered 0 = .ok (.aload_n 0, 1) := by decide +kernel
theorem dX11_answered_1 : decode cX11_answered 1 = .ok (.iconst 0, 1) := by decide +kernel
theorem dX11_answered_2 : decode cX11_answered 2 = .ok (.putfield 82, 3) := by decide +kernel
theorem dX11_answered_5 : decode cX11_answered 5 = .ok (.iload_n 1, 1) := by decide +kernel
theorem dX11_answered_6 : decode cX11_answered 6 = .ok (.ireturn, 1) := by decide +kernel
theorem dX11_told_0 : decode cX11_told 0 = .ok (.aload_n 0, 1) := by decide +kernel
theorem dX11_told_1 : decode cX11_told 1 = .ok (.iconst 0, 1) := by decide +kernel
theorem dX11_told_2 : decode cX11_told 2 = .ok (.putfield 82, 3) := by decide +kernel
theorem dX11_told_5 : decode cX11_told 5 = .ok (.iload_n 1, 1) := by decide +kernel
theorem dX11_told_6 : decode cX11_told 6 = .ok (.ifCond .eq 13, 3) := by decide +kernel
theorem dX11_told_9 : decode cX11_told 9 = .ok (.aload_n 0, 1) := by decide +kernel
theorem dX11_told_10 : decode cX11_told 10 = .ok (.getfield 71, 3) := by decide +kernel
theorem dX11_told_13 : decode cX11_told 13 = .ok (.getfield 422, 3) := by decide +kernel
theorem dX11_told_16 : decode cX11_told 16 = .ok (.goto 10, 3) := by decide +kernel
theorem dX11_told_19 : decode cX11_told 19 = .ok (.aload_n 0, 1) := by decide +kernel
theorem dX11_told_20 : decode cX11_told 20 = .ok (.getfield 71, 3) := by decide +kernel
theorem dX11_told_23 : decode cX11_told 23 = .ok (.getfield 426, 3) := by decide +kernel
theorem dX11_told_26 : decode cX11_told 26 = .ok (.lreturn, 1) := by decide +kernel
theorem dX11_refused_0 : decode cX11_refused 0 = .ok (.aload_n 0, 1) := by decide +kernel
theorem dX11_refused_1 : decode cX11_refused 1 = .ok (.iload_n 1, 1) := by decide +kernel
theorem dX11_refused_2 : decode cX11_refused 2 = .ok (.putfield 82, 3) := by decide +kernel
theorem dX11_refused_5 : decode cX11_refused 5 = .ok (.iconst (-1), 1) := by decide +kernel
theorem dX11_refused_6 : decode cX11_refused 6 = .ok (.ireturn, 1) := by decide +kernel
theorem dX11_denied_0 : decode cX11_denied 0 = .ok (.aload_n 0, 1) := by decide +kernel
theorem dX11_denied_1 : decode cX11_denied 1 = .ok (.iload_n 1, 1) := by decide +kernel
theorem dX11_denied_2 : decode cX11_denied 2 = .ok (.putfield 82, 3) := by decide +kernel
theorem dX11_denied_5 : decode cX11_denied 5 = .ok (.iconst 0, 1) := by decide +kernel
theorem dX11_denied_6 : decode cX11_denied 6 = .ok (.ireturn, 1) := by decide +kernel
theorem dX11_hasLand_0 : decode cX11_hasLand 0 = .ok (.aload_n 0, 1) := by decide +kernel
theorem dX11_hasLand_1 : decode cX11_hasLand 1 = .ok (.getfield 78, 3) := by decide +kernel
theorem dX11_hasLand_4 : decode cX11_hasLand 4 = .ok (.getfield 117, 3) := by decide +kernel
theorem dX11_hasLand_7 : decode cX11_hasLand 7 = .ok (.ifCond .le 7, 3) := by decide +kernel
theorem dX11_hasLand_10 : decode cX11_hasLand 10 = .ok (.iconst 1, 1) := by decide +kernel
theorem dX11_hasLand_11 : decode cX11_hasLand 11 = .ok (.goto 4, 3) := by decide +kernel
theorem dX11_hasLand_14 : decode cX11_hasLand 14 = .ok (.iconst 0, 1) := by decide +kernel
theorem dX11_hasLand_15 : decode cX11_hasLand 15 = .ok (.ireturn, 1) := by decide +kernel
theorem dX11_isGate_0 : decode cX11_isGate 0 = .ok (.iload_n 1, 1) := by decide +kernel
theorem dX11_isGate_1 : decode cX11_isGate 1 = .ok (.ifCond .lt 18, 3) := by decide +kernel
theorem dX11_isGate_4 : decode cX11_isGate 4 = .ok (.iload_n 1, 1) := by decide +kernel
theorem dX11_isGate_5 : decode cX11_isGate 5 = .ok (.aload_n 0, 1) := by decide +kernel
theorem dX11_isGate_6 : decode cX11_isGate 6 = .ok (.getfield 78, 3) := by decide +kernel
theorem dX11_isGate_9 : decode cX11_isGate 9 = .ok (.getfield 117, 3) := by decide +kernel
theorem dX11_isGate_12 : decode cX11_isGate 12 = .ok (.if_icmp .ge 7, 3) := by decide +kernel
theorem dX11_isGate_15 : decode cX11_isGate 15 = .ok (.iconst 1, 1) := by decide +kernel
theorem dX11_isGate_16 : decode cX11_isGate 16 = .ok (.goto 4, 3) := by decide +kernel
theorem dX11_isGate_19 : decode cX11_isGate 19 = .ok (.iconst 0, 1) := by decide +kernel
theorem dX11_isGate_20 : decode cX11_isGate 20 = .ok (.ireturn, 1) := by decide +kernel
theorem dX11_isPerson_0 : decode cX11_isPerson 0 = .ok (.iload_n 1, 1) := by decide +kernel
theorem dX11_isPerson_1 : decode cX11_isPerson 1 = .ok (.ifCond .lt 18, 3) := by decide +kernel
theorem dX11_isPerson_4 : decode cX11_isPerson 4 = .ok (.iload_n 1, 1) := by decide +kernel
