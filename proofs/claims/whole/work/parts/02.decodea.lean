theorem dX0_init_0 : decode cX0_init 0 = .ok (.aload_n 0, 1) := by decide +kernel
theorem dX0_init_1 : decode cX0_init 1 = .ok (.invokespecial 3, 3) := by decide +kernel
theorem dX0_init_4 : decode cX0_init 4 = .ok (.aload_n 0, 1) := by decide +kernel
theorem dX0_init_5 : decode cX0_init 5 = .ok (.iconst 4, 1) := by decide +kernel
theorem dX0_init_6 : decode cX0_init 6 = .ok (.newarray .int, 2) := by decide +kernel
theorem dX0_init_8 : decode cX0_init 8 = .ok (.putfield 9, 3) := by decide +kernel
theorem dX0_init_11 : decode cX0_init 11 = .ok (.aload_n 0, 1) := by decide +kernel
theorem dX0_init_12 : decode cX0_init 12 = .ok (.iconst 4, 1) := by decide +kernel
theorem dX0_init_13 : decode cX0_init 13 = .ok (.newarray .int, 2) := by decide +kernel
theorem dX0_init_15 : decode cX0_init 15 = .ok (.putfield 15, 3) := by decide +kernel
theorem dX0_init_18 : decode cX0_init 18 = .ok (.aload_n 0, 1) := by decide +kernel
theorem dX0_init_19 : decode cX0_init 19 = .ok (.iconst 4, 1) := by decide +kernel
theorem dX0_init_20 : decode cX0_init 20 = .ok (.newarray .int, 2) := by decide +kernel
theorem dX0_init_22 : decode cX0_init 22 = .ok (.putfield 18, 3) := by decide +kernel
theorem dX0_init_25 : decode cX0_init 25 = .ok (.aload_n 0, 1) := by decide +kernel
theorem dX0_init_26 : decode cX0_init 26 = .ok (.iconst 4, 1) := by decide +kernel
theorem dX0_init_27 : decode cX0_init 27 = .ok (.newarray .int, 2) := by decide +kernel
theorem dX0_init_29 : decode cX0_init 29 = .ok (.putfield 21, 3) := by decide +kernel
theorem dX0_init_32 : decode cX0_init 32 = .ok (.aload_n 0, 1) := by decide +kernel
theorem dX0_init_33 : decode cX0_init 33 = .ok (.iconst 5, 1) := by decide +kernel
theorem dX0_init_34 : decode cX0_init 34 = .ok (.newarray .int, 2) := by decide +kernel
theorem dX0_init_36 : decode cX0_init 36 = .ok (.putfield 24, 3) := by decide +kernel
theorem dX0_init_39 : decode cX0_init 39 = .ok (.return_, 1) := by decide +kernel
theorem dX0_clear_0 : decode cX0_clear 0 = .ok (.aload_n 0, 1) := by decide +kernel
theorem dX0_clear_1 : decode cX0_clear 1 = .ok (.iconst 0, 1) := by decide +kernel
theorem dX0_clear_2 : decode cX0_clear 2 = .ok (.putfield 27, 3) := by decide +kernel
theorem dX0_clear_5 : decode cX0_clear 5 = .ok (.aload_n 0, 1) := by decide +kernel
theorem dX0_clear_6 : decode cX0_clear 6 = .ok (.iconst 0, 1) := by decide +kernel
theorem dX0_clear_7 : decode cX0_clear 7 = .ok (.putfield 31, 3) := by decide +kernel
theorem dX0_clear_10 : decode cX0_clear 10 = .ok (.aload_n 0, 1) := by decide +kernel
theorem dX0_clear_11 : decode cX0_clear 11 = .ok (.iconst 0, 1) := by decide +kernel
theorem dX0_clear_12 : decode cX0_clear 12 = .ok (.putfield 34, 3) := by decide +kernel
theorem dX0_clear_15 : decode cX0_clear 15 = .ok (.iconst 0, 1) := by decide +kernel
theorem dX0_clear_16 : decode cX0_clear 16 = .ok (.istore_n 1, 1) := by decide +kernel
theorem dX0_clear_17 : decode cX0_clear 17 = .ok (.iload_n 1, 1) := by decide +kernel
theorem dX0_clear_18 : decode cX0_clear 18 = .ok (.iconst 5, 1) := by decide +kernel
theorem dX0_clear_19 : decode cX0_clear 19 = .ok (.if_icmp .ge 16, 3) := by decide +kernel
theorem dX0_clear_22 : decode cX0_clear 22 = .ok (.aload_n 0, 1) := by decide +kernel
theorem dX0_clear_23 : decode cX0_clear 23 = .ok (.getfield 24, 3) := by decide +kernel
theorem dX0_clear_26 : decode cX0_clear 26 = .ok (.iload_n 1, 1) := by decide +kernel
theorem dX0_clear_27 : decode cX0_clear 27 = .ok (.iconst (-1), 1) := by decide +kernel
theorem dX0_clear_28 : decode cX0_clear 28 = .ok (.iastore, 1) := by decide +kernel
theorem dX0_clear_29 : decode cX0_clear 29 = .ok (.iinc 1 1, 3) := by decide +kernel
theorem dX0_clear_32 : decode cX0_clear 32 = .ok (.goto (-15), 3) := by decide +kernel
theorem dX0_clear_35 : decode cX0_clear 35 = .ok (.return_, 1) := by decide +kernel
theorem dX0_addWant_0 : decode cX0_addWant 0 = .ok (.aload_n 0, 1) := by decide +kernel
theorem dX0_addWant_1 : decode cX0_addWant 1 = .ok (.getfield 9, 3) := by decide +kernel
theorem dX0_addWant_4 : decode cX0_addWant 4 = .ok (.aload_n 0, 1) := by decide +kernel
theorem dX0_addWant_5 : decode cX0_addWant 5 = .ok (.getfield 27, 3) := by decide +kernel
theorem dX0_addWant_8 : decode cX0_addWant 8 = .ok (.iload_n 1, 1) := by decide +kernel
theorem dX0_addWant_9 : decode cX0_addWant 9 = .ok (.invokestatic 37, 3) := by decide +kernel
theorem dX0_addWant_12 : decode cX0_addWant 12 = .ok (.aload_n 0, 1) := by decide +kernel
theorem dX0_addWant_13 : decode cX0_addWant 13 = .ok (.getfield 15, 3) := by decide +kernel
theorem dX0_addWant_16 : decode cX0_addWant 16 = .ok (.aload_n 0, 1) := by decide +kernel
theorem dX0_addWant_17 : decode cX0_addWant 17 = .ok (.getfield 27, 3) := by decide +kernel
theorem dX0_addWant_20 : decode cX0_addWant 20 = .ok (.iload_n 2, 1) := by decide +kernel
theorem dX0_addWant_21 : decode cX0_addWant 21 = .ok (.invokestatic 37, 3) := by decide +kernel
theorem dX0_addWant_24 : decode cX0_addWant 24 = .ok (.aload_n 0, 1) := by decide +kernel
theorem dX0_addWant_25 : decode cX0_addWant 25 = .ok (.getfield 18, 3) := by decide +kernel
theorem dX0_addWant_28 : decode cX0_addWant 28 = .ok (.aload_n 0, 1) := by decide +kernel
theorem dX0_addWant_29 : decode cX0_addWant 29 = .ok (.getfield 27, 3) := by decide +kernel
theorem dX0_addWant_32 : decode cX0_addWant 32 = .ok (.iload_n 3, 1) := by decide +kernel
theorem dX0_addWant_33 : decode cX0_addWant 33 = .ok (.invokestatic 37, 3) := by decide +kernel
theorem dX0_addWant_36 : decode cX0_addWant 36 = .ok (.aload_n 0, 1) := by decide +kernel
theorem dX0_addWant_37 : decode cX0_addWant 37 = .ok (.dup, 1) := by decide +kernel
theorem dX0_addWant_38 : decode cX0_addWant 38 = .ok (.getfield 27, 3) := by decide +kernel
theorem dX0_addWant_41 : decode cX0_addWant 41 = .ok (.iconst 1, 1) := by decide +kernel
theorem dX0_addWant_42 : decode cX0_addWant 42 = .ok (.iadd, 1) := by decide +kernel
theorem dX0_addWant_43 : decode cX0_addWant 43 = .ok (.putfield 27, 3) := by decide +kernel
theorem dX0_addWant_46 : decode cX0_addWant 46 = .ok (.return_, 1) := by decide +kernel
theorem dX0_isLostGate_0 : decode cX0_isLostGate 0 = .ok (.iconst 0, 1) := by decide +kernel
theorem dX0_isLostGate_1 : decode cX0_isLostGate 1 = .ok (.istore_n 2, 1) := by decide +kernel
theorem dX0_isLostGate_2 : decode cX0_isLostGate 2 = .ok (.iload_n 2, 1) := by decide +kernel
theorem dX0_isLostGate_3 : decode cX0_isLostGate 3 = .ok (.aload_n 0, 1) := by decide +kernel
theorem dX0_isLostGate_4 : decode cX0_isLostGate 4 = .ok (.getfield 31, 3) := by decide +kernel
theorem dX0_isLostGate_7 : decode cX0_isLostGate 7 = .ok (.if_icmp .ge 23, 3) := by decide +kernel
theorem dX0_isLostGate_10 : decode cX0_isLostGate 10 = .ok (.aload_n 0, 1) := by decide +kernel
theorem dX0_isLostGate_11 : decode cX0_isLostGate 11 = .ok (.getfield 21, 3) := by decide +kernel
theorem dX0_isLostGate_14 : decode cX0_isLostGate 14 = .ok (.iload_n 2, 1) := by decide +kernel
theorem dX0_isLostGate_15 : decode cX0_isLostGate 15 = .ok (.invokestatic 41, 3) := by decide +kernel
theorem dX0_isLostGate_18 : decode cX0_isLostGate 18 = .ok (.iload_n 1, 1) := by decide +kernel
theorem dX0_isLostGate_19 : decode cX0_isLostGate 19 = .ok (.if_icmp .ne 5, 3) := by decide +kernel
theorem dX0_isLostGate_22 : decode cX0_isLostGate 22 = .ok (.iconst 1, 1) := by decide +kernel
theorem dX0_isLostGate_23 : decode cX0_isLostGate 23 = .ok (.ireturn, 1) := by decide +kernel
theorem dX0_isLostGate_24 : decode cX0_isLostGate 24 = .ok (.iinc 2 1, 3) := by decide +kernel
theorem dX0_isLostGate_27 : decode cX0_isLostGate 27 = .ok (.goto (-25), 3) := by decide +kernel
theorem dX0_isLostGate_30 : decode cX0_isLostGate 30 = .ok (.iconst 0, 1) := by decide +kernel
theorem dX0_isLostGate_31 : decode cX0_isLostGate 31 = .ok (.ireturn, 1) := by decide +kernel
theorem dX0_addLost_0 : decode cX0_addLost 0 = .ok (.aload_n 0, 1) := by decide +kernel
theorem dX0_addLost_1 : decode cX0_addLost 1 = .ok (.getfield 21, 3) := by decide +kernel
theorem dX0_addLost_4 : decode cX0_addLost 4 = .ok (.aload_n 0, 1) := by decide +kernel
theorem dX0_addLost_5 : decode cX0_addLost 5 = .ok (.getfield 31, 3) := by decide +kernel
theorem dX0_addLost_8 : decode cX0_addLost 8 = .ok (.iload_n 1, 1) := by decide +kernel
theorem dX0_addLost_9 : decode cX0_addLost 9 = .ok (.invokestatic 37, 3) := by decide +kernel
theorem dX0_addLost_12 : decode cX0_addLost 12 = .ok (.aload_n 0, 1) := by decide +kernel
theorem dX0_addLost_13 : decode cX0_addLost 13 = .ok (.dup, 1) := by decide +kernel
theorem dX0_addLost_14 : decode cX0_addLost 14 = .ok (.getfield 31, 3) := by decide +kernel
theorem dX0_addLost_17 : decode cX0_addLost 17 = .ok (.iconst 1, 1) := by decide +kernel
theorem dX0_addLost_18 : decode cX0_addLost 18 = .ok (.iadd, 1) := by decide +kernel
theorem dX0_addLost_19 : decode cX0_addLost 19 = .ok (.putfield 31, 3) := by decide +kernel
theorem dX0_addLost_22 : decode cX0_addLost 22 = .ok (.return_, 1) := by decide +kernel
theorem dX0_addHad_0 : decode cX0_addHad 0 = .ok (.aload_n 0, 1) := by decide +kernel
theorem dX0_addHad_1 : decode cX0_addHad 1 = .ok (.getfield 24, 3) := by decide +kernel
theorem dX0_addHad_4 : decode cX0_addHad 4 = .ok (.iload_n 1, 1) := by decide +kernel
theorem dX0_addHad_5 : decode cX0_addHad 5 = .ok (.iload_n 2, 1) := by decide +kernel
theorem dX0_addHad_6 : decode cX0_addHad 6 = .ok (.invokestatic 37, 3) := by decide +kernel
theorem dX0_addHad_9 : decode cX0_addHad 9 = .ok (.aload_n 0, 1) := by decide +kernel
theorem dX0_addHad_10 : decode cX0_addHad 10 = .ok (.dup, 1) := by decide +kernel
theorem dX0_addHad_11 : decode cX0_addHad 11 = .ok (.getfield 34, 3) := by decide +kernel
theorem dX0_addHad_14 : decode cX0_addHad 14 = .ok (.iconst 1, 1) := by decide +kernel
theorem dX0_addHad_15 : decode cX0_addHad 15 = .ok (.iadd, 1) := by decide +kernel
theorem dX0_addHad_16 : decode cX0_addHad 16 = .ok (.putfield 34, 3) := by decide +kernel
theorem dX0_addHad_19 : decode cX0_addHad 19 = .ok (.return_, 1) := by decide +kernel
theorem dX0_wantsMet_0 : decode cX0_wantsMet 0 = .ok (.iconst 0, 1) := by decide +kernel
theorem dX0_wantsMet_1 : decode cX0_wantsMet 1 = .ok (.istore_n 3, 1) := by decide +kernel
theorem dX0_wantsMet_2 : decode cX0_wantsMet 2 = .ok (.iconst 0, 1) := by decide +kernel
theorem dX0_wantsMet_3 : decode cX0_wantsMet 3 = .ok (.istore 4, 2) := by decide +kernel
theorem dX0_wantsMet_5 : decode cX0_wantsMet 5 = .ok (.iload 4, 2) := by decide +kernel
theorem dX0_wantsMet_7 : decode cX0_wantsMet 7 = .ok (.aload_n 0, 1) := by decide +kernel
theorem dX0_wantsMet_8 : decode cX0_wantsMet 8 = .ok (.getfield 27, 3) := by decide +kernel
theorem dX0_wantsMet_11 : decode cX0_wantsMet 11 = .ok (.if_icmp .ge 78, 3) := by decide +kernel
theorem dX0_wantsMet_14 : decode cX0_wantsMet 14 = .ok (.aload_n 1, 1) := by decide +kernel
theorem dX0_wantsMet_15 : decode cX0_wantsMet 15 = .ok (.iload_n 2, 1) := by decide +kernel
theorem dX0_wantsMet_16 : decode cX0_wantsMet 16 = .ok (.aload_n 0, 1) := by decide +kernel
theorem dX0_wantsMet_17 : decode cX0_wantsMet 17 = .ok (.getfield 15, 3) := by decide +kernel
theorem dX0_wantsMet_20 : decode cX0_wantsMet 20 = .ok (.iload 4, 2) := by decide +kernel
theorem dX0_wantsMet_22 : decode cX0_wantsMet 22 = .ok (.invokestatic 41, 3) := by decide +kernel
theorem dX0_wantsMet_25 : decode cX0_wantsMet 25 = .ok (.invokevirtual 45, 3) := by decide +kernel
theorem dX0_wantsMet_28 : decode cX0_wantsMet 28 = .ok (.istore 5, 2) := by decide +kernel
theorem dX0_wantsMet_30 : decode cX0_wantsMet 30 = .ok (.aload_n 0, 1) := by decide +kernel
theorem dX0_wantsMet_31 : decode cX0_wantsMet 31 = .ok (.getfield 9, 3) := by decide +kernel
theorem dX0_wantsMet_34 : decode cX0_wantsMet 34 = .ok (.iload 4, 2) := by decide +kernel
theorem dX0_wantsMet_36 : decode cX0_wantsMet 36 = .ok (.invokestatic 41, 3) := by decide +kernel
theorem dX0_wantsMet_39 : decode cX0_wantsMet 39 = .ok (.istore 6, 2) := by decide +kernel
theorem dX0_wantsMet_41 : decode cX0_wantsMet 41 = .ok (.aload_n 0, 1) := by decide +kernel
theorem dX0_wantsMet_42 : decode cX0_wantsMet 42 = .ok (.getfield 18, 3) := by decide +kernel
theorem dX0_wantsMet_45 : decode cX0_wantsMet 45 = .ok (.iload 4, 2) := by decide +kernel
theorem dX0_wantsMet_47 : decode cX0_wantsMet 47 = .ok (.invokestatic 41, 3) := by decide +kernel
theorem dX0_wantsMet_50 : decode cX0_wantsMet 50 = .ok (.iconst 1, 1) := by decide +kernel
theorem dX0_wantsMet_51 : decode cX0_wantsMet 51 = .ok (.if_icmp .ne 15, 3) := by decide +kernel
theorem dX0_wantsMet_54 : decode cX0_wantsMet 54 = .ok (.iload 5, 2) := by decide +kernel
theorem dX0_wantsMet_56 : decode cX0_wantsMet 56 = .ok (.iconst 1, 1) := by decide +kernel
theorem dX0_wantsMet_57 : decode cX0_wantsMet 57 = .ok (.iload 6, 2) := by decide +kernel
theorem dX0_wantsMet_59 : decode cX0_wantsMet 59 = .ok (.ishl, 1) := by decide +kernel
theorem dX0_wantsMet_60 : decode cX0_wantsMet 60 = .ok (.if_icmp .ne 23, 3) := by decide +kernel
theorem dX0_wantsMet_63 : decode cX0_wantsMet 63 = .ok (.goto 13, 3) := by decide +kernel
theorem dX0_wantsMet_66 : decode cX0_wantsMet 66 = .ok (.iload 5, 2) := by decide +kernel
theorem dX0_wantsMet_68 : decode cX0_wantsMet 68 = .ok (.iload 6, 2) := by decide +kernel
theorem dX0_wantsMet_70 : decode cX0_wantsMet 70 = .ok (.invokestatic 51, 3) := by decide +kernel
theorem dX0_wantsMet_73 : decode cX0_wantsMet 73 = .ok (.ifCond .eq 10, 3) := by decide +kernel
theorem dX0_wantsMet_76 : decode cX0_wantsMet 76 = .ok (.iload_n 3, 1) := by decide +kernel
theorem dX0_wantsMet_77 : decode cX0_wantsMet 77 = .ok (.iconst 1, 1) := by decide +kernel
theorem dX0_wantsMet_78 : decode cX0_wantsMet 78 = .ok (.iload 4, 2) := by decide +kernel
theorem dX0_wantsMet_80 : decode cX0_wantsMet 80 = .ok (.ishl, 1) := by decide +kernel
theorem dX0_wantsMet_81 : decode cX0_wantsMet 81 = .ok (.ior, 1) := by decide +kernel
theorem dX0_wantsMet_82 : decode cX0_wantsMet 82 = .ok (.istore_n 3, 1) := by decide +kernel
theorem dX0_wantsMet_83 : decode cX0_wantsMet 83 = .ok (.iinc 4 1, 3) := by decide +kernel
theorem dX0_wantsMet_86 : decode cX0_wantsMet 86 = .ok (.goto (-81), 3) := by decide +kernel
theorem dX0_wantsMet_89 : decode cX0_wantsMet 89 = .ok (.iload_n 3, 1) := by decide +kernel
theorem dX0_wantsMet_90 : decode cX0_wantsMet 90 = .ok (.ireturn, 1) := by decide +kernel
theorem dX0_firstBelied_0 : decode cX0_firstBelied 0 = .ok (.iconst 0, 1) := by decide +kernel
theorem dX0_firstBelied_1 : decode cX0_firstBelied 1 = .ok (.istore_n 3, 1) := by decide +kernel
theorem dX0_firstBelied_2 : decode cX0_firstBelied 2 = .ok (.iload_n 3, 1) := by decide +kernel
theorem dX0_firstBelied_3 : decode cX0_firstBelied 3 = .ok (.aload_n 1, 1) := by decide +kernel
theorem dX0_firstBelied_4 : decode cX0_firstBelied 4 = .ok (.getfield 55, 3) := by decide +kernel
theorem dX0_firstBelied_7 : decode cX0_firstBelied 7 = .ok (.if_icmp .ge 38, 3) := by decide +kernel
theorem dX0_firstBelied_10 : decode cX0_firstBelied 10 = .ok (.aload_n 0, 1) := by decide +kernel
theorem dX0_firstBelied_11 : decode cX0_firstBelied 11 = .ok (.getfield 24, 3) := by decide +kernel
theorem dX0_firstBelied_14 : decode cX0_firstBelied 14 = .ok (.iload_n 3, 1) := by decide +kernel
theorem dX0_firstBelied_15 : decode cX0_firstBelied 15 = .ok (.invokestatic 41, 3) := by decide +kernel
theorem dX0_firstBelied_18 : decode cX0_firstBelied 18 = .ok (.istore 4, 2) := by decide +kernel
theorem dX0_firstBelied_20 : decode cX0_firstBelied 20 = .ok (.iload 4, 2) := by decide +kernel
theorem dX0_firstBelied_22 : decode cX0_firstBelied 22 = .ok (.iconst (-1), 1) := by decide +kernel
theorem dX0_firstBelied_23 : decode cX0_firstBelied 23 = .ok (.if_icmp .eq 16, 3) := by decide +kernel
theorem dX0_firstBelied_26 : decode cX0_firstBelied 26 = .ok (.iload 4, 2) := by decide +kernel
theorem dX0_firstBelied_28 : decode cX0_firstBelied 28 = .ok (.aload_n 1, 1) := by decide +kernel
theorem dX0_firstBelied_29 : decode cX0_firstBelied 29 = .ok (.iload_n 3, 1) := by decide +kernel
theorem dX0_firstBelied_30 : decode cX0_firstBelied 30 = .ok (.iload_n 2, 1) := by decide +kernel
theorem dX0_firstBelied_31 : decode cX0_firstBelied 31 = .ok (.invokevirtual 58, 3) := by decide +kernel
theorem dX0_firstBelied_34 : decode cX0_firstBelied 34 = .ok (.if_icmp .eq 5, 3) := by decide +kernel
theorem dX0_firstBelied_37 : decode cX0_firstBelied 37 = .ok (.iload_n 3, 1) := by decide +kernel
theorem dX0_firstBelied_38 : decode cX0_firstBelied 38 = .ok (.ireturn, 1) := by decide +kernel
theorem dX0_firstBelied_39 : decode cX0_firstBelied 39 = .ok (.iinc 3 1, 3) := by decide +kernel
theorem dX0_firstBelied_42 : decode cX0_firstBelied 42 = .ok (.goto (-40), 3) := by decide +kernel
theorem dX0_firstBelied_45 : decode cX0_firstBelied 45 = .ok (.bipush (-2), 2) := by decide +kernel
theorem dX0_firstBelied_47 : decode cX0_firstBelied 47 = .ok (.ireturn, 1) := by decide +kernel
theorem dX1_init_0 : decode cX1_init 0 = .ok (.aload_n 0, 1) := by decide +kernel
theorem dX1_init_1 : decode cX1_init 1 = .ok (.invokespecial 3, 3) := by decide +kernel
theorem dX1_init_4 : decode cX1_init 4 = .ok (.aload_n 0, 1) := by decide +kernel
theorem dX1_init_5 : decode cX1_init 5 = .ok (.sipush 729, 3) := by decide +kernel
theorem dX1_init_8 : decode cX1_init 8 = .ok (.newarray .int, 2) := by decide +kernel
theorem dX1_init_10 : decode cX1_init 10 = .ok (.putfield 11, 3) := by decide +kernel
theorem dX1_init_13 : decode cX1_init 13 = .ok (.aload_n 0, 1) := by decide +kernel
theorem dX1_init_14 : decode cX1_init 14 = .ok (.sipush 729, 3) := by decide +kernel
theorem dX1_init_17 : decode cX1_init 17 = .ok (.newarray .int, 2) := by decide +kernel
theorem dX1_init_19 : decode cX1_init 19 = .ok (.putfield 15, 3) := by decide +kernel
theorem dX1_init_22 : decode cX1_init 22 = .ok (.aload_n 0, 1) := by decide +kernel
theorem dX1_init_23 : decode cX1_init 23 = .ok (.sipush 729, 3) := by decide +kernel
theorem dX1_init_26 : decode cX1_init 26 = .ok (.newarray .int, 2) := by decide +kernel
theorem dX1_init_28 : decode cX1_init 28 = .ok (.putfield 18, 3) := by decide +kernel
theorem dX1_init_31 : decode cX1_init 31 = .ok (.aload_n 0, 1) := by decide +kernel
theorem dX1_init_32 : decode cX1_init 32 = .ok (.sipush 729, 3) := by decide +kernel
theorem dX1_init_35 : decode cX1_init 35 = .ok (.newarray .int, 2) := by decide +kernel
theorem dX1_init_37 : decode cX1_init 37 = .ok (.putfield 21, 3) := by decide +kernel
theorem dX1_init_40 : decode cX1_init 40 = .ok (.aload_n 0, 1) := by decide +kernel
theorem dX1_init_41 : decode cX1_init 41 = .ok (.sipush 128, 3) := by decide +kernel
theorem dX1_init_44 : decode cX1_init 44 = .ok (.newarray .int, 2) := by decide +kernel
theorem dX1_init_46 : decode cX1_init 46 = .ok (.putfield 26, 3) := by decide +kernel
theorem dX1_init_49 : decode cX1_init 49 = .ok (.aload_n 0, 1) := by decide +kernel
theorem dX1_init_50 : decode cX1_init 50 = .ok (.iconst (-1), 1) := by decide +kernel
theorem dX1_init_51 : decode cX1_init 51 = .ok (.putfield 29, 3) := by decide +kernel
theorem dX1_init_54 : decode cX1_init 54 = .ok (.return_, 1) := by decide +kernel
theorem dX1_forget_0 : decode cX1_forget 0 = .ok (.aload_n 0, 1) := by decide +kernel
theorem dX1_forget_1 : decode cX1_forget 1 = .ok (.iconst (-1), 1) := by decide +kernel
theorem dX1_forget_2 : decode cX1_forget 2 = .ok (.putfield 29, 3) := by decide +kernel
theorem dX1_forget_5 : decode cX1_forget 5 = .ok (.return_, 1) := by decide +kernel
theorem dX1_explore_0 : decode cX1_explore 0 = .ok (.aload_n 0, 1) := by decide +kernel
theorem dX1_explore_1 : decode cX1_explore 1 = .ok (.getfield 29, 3) := by decide +kernel
theorem dX1_explore_4 : decode cX1_explore 4 = .ok (.iload_n 2, 1) := by decide +kernel
theorem dX1_explore_5 : decode cX1_explore 5 = .ok (.if_icmp .ne 4, 3) := by decide +kernel
theorem dX1_explore_8 : decode cX1_explore 8 = .ok (.return_, 1) := by decide +kernel
theorem dX1_explore_9 : decode cX1_explore 9 = .ok (.aload_n 0, 1) := by decide +kernel
theorem dX1_explore_10 : decode cX1_explore 10 = .ok (.iload_n 2, 1) := by decide +kernel
theorem dX1_explore_11 : decode cX1_explore 11 = .ok (.putfield 29, 3) := by decide +kernel
theorem dX1_explore_14 : decode cX1_explore 14 = .ok (.aload_n 0, 1) := by decide +kernel
theorem dX1_explore_15 : decode cX1_explore 15 = .ok (.iconst 0, 1) := by decide +kernel
theorem dX1_explore_16 : decode cX1_explore 16 = .ok (.putfield 33, 3) := by decide +kernel
theorem dX1_explore_19 : decode cX1_explore 19 = .ok (.iconst 0, 1) := by decide +kernel
theorem dX1_explore_20 : decode cX1_explore 20 = .ok (.istore_n 3, 1) := by decide +kernel
theorem dX1_explore_21 : decode cX1_explore 21 = .ok (.iload_n 3, 1) := by decide +kernel
theorem dX1_explore_22 : decode cX1_explore 22 = .ok (.aload_n 0, 1) := by decide +kernel
theorem dX1_explore_23 : decode cX1_explore 23 = .ok (.getfield 26, 3) := by decide +kernel
theorem dX1_explore_26 : decode cX1_explore 26 = .ok (.arraylength, 1) := by decide +kernel
theorem dX1_explore_27 : decode cX1_explore 27 = .ok (.if_icmp .ge 16, 3) := by decide +kernel
theorem dX1_explore_30 : decode cX1_explore 30 = .ok (.aload_n 0, 1) := by decide +kernel
theorem dX1_explore_31 : decode cX1_explore 31 = .ok (.getfield 26, 3) := by decide +kernel
theorem dX1_explore_34 : decode cX1_explore 34 = .ok (.iload_n 3, 1) := by decide +kernel
theorem dX1_explore_35 : decode cX1_explore 35 = .ok (.iconst 0, 1) := by decide +kernel
theorem dX1_explore_36 : decode cX1_explore 36 = .ok (.iastore, 1) := by decide +kernel
theorem dX1_explore_37 : decode cX1_explore 37 = .ok (.iinc 3 1, 3) := by decide +kernel
theorem dX1_explore_40 : decode cX1_explore 40 = .ok (.goto (-19), 3) := by decide +kernel
theorem dX1_explore_43 : decode cX1_explore 43 = .ok (.aload_n 0, 1) := by decide +kernel
theorem dX1_explore_44 : decode cX1_explore 44 = .ok (.iload_n 2, 1) := by decide +kernel
theorem dX1_explore_45 : decode cX1_explore 45 = .ok (.iconst (-1), 1) := by decide +kernel
theorem dX1_explore_46 : decode cX1_explore 46 = .ok (.iconst (-1), 1) := by decide +kernel
theorem dX1_explore_47 : decode cX1_explore 47 = .ok (.invokevirtual 36, 3) := by decide +kernel
theorem dX1_explore_50 : decode cX1_explore 50 = .ok (.iconst 0, 1) := by decide +kernel
theorem dX1_explore_51 : decode cX1_explore 51 = .ok (.istore_n 3, 1) := by decide +kernel
theorem dX1_explore_52 : decode cX1_explore 52 = .ok (.iload_n 3, 1) := by decide +kernel
theorem dX1_explore_53 : decode cX1_explore 53 = .ok (.aload_n 0, 1) := by decide +kernel
theorem dX1_explore_54 : decode cX1_explore 54 = .ok (.getfield 33, 3) := by decide +kernel
theorem dX1_explore_57 : decode cX1_explore 57 = .ok (.if_icmp .ge 22, 3) := by decide +kernel
theorem dX1_explore_60 : decode cX1_explore 60 = .ok (.iload_n 3, 1) := by decide +kernel
theorem dX1_explore_61 : decode cX1_explore 61 = .ok (.sipush 729, 3) := by decide +kernel
theorem dX1_explore_64 : decode cX1_explore 64 = .ok (.if_icmp .ge 15, 3) := by decide +kernel
theorem dX1_explore_67 : decode cX1_explore 67 = .ok (.aload_n 0, 1) := by decide +kernel
theorem dX1_explore_68 : decode cX1_explore 68 = .ok (.aload_n 1, 1) := by decide +kernel
theorem dX1_explore_69 : decode cX1_explore 69 = .ok (.iload_n 3, 1) := by decide +kernel
theorem dX1_explore_70 : decode cX1_explore 70 = .ok (.invokevirtual 40, 3) := by decide +kernel
theorem dX1_explore_73 : decode cX1_explore 73 = .ok (.iinc 3 1, 3) := by decide +kernel
theorem dX1_explore_76 : decode cX1_explore 76 = .ok (.goto (-24), 3) := by decide +kernel
theorem dX1_explore_79 : decode cX1_explore 79 = .ok (.return_, 1) := by decide +kernel
theorem dX1_exploreFrom_0 : decode cX1_exploreFrom 0 = .ok (.iconst 0, 1) := by decide +kernel
theorem dX1_exploreFrom_1 : decode cX1_exploreFrom 1 = .ok (.istore_n 3, 1) := by decide +kernel
theorem dX1_exploreFrom_2 : decode cX1_exploreFrom 2 = .ok (.iload_n 3, 1) := by decide +kernel
theorem dX1_exploreFrom_3 : decode cX1_exploreFrom 3 = .ok (.iconst 3, 1) := by decide +kernel
theorem dX1_exploreFrom_4 : decode cX1_exploreFrom 4 = .ok (.if_icmp .gt 66, 3) := by decide +kernel
theorem dX1_exploreFrom_7 : decode cX1_exploreFrom 7 = .ok (.iconst 0, 1) := by decide +kernel
theorem dX1_exploreFrom_8 : decode cX1_exploreFrom 8 = .ok (.istore 4, 2) := by decide +kernel
theorem dX1_exploreFrom_10 : decode cX1_exploreFrom 10 = .ok (.iload 4, 2) := by decide +kernel
theorem dX1_exploreFrom_12 : decode cX1_exploreFrom 12 = .ok (.aload_n 1, 1) := by decide +kernel
theorem dX1_exploreFrom_13 : decode cX1_exploreFrom 13 = .ok (.getfield 44, 3) := by decide +kernel
theorem dX1_exploreFrom_16 : decode cX1_exploreFrom 16 = .ok (.if_icmp .ge 48, 3) := by decide +kernel
theorem dX1_exploreFrom_19 : decode cX1_exploreFrom 19 = .ok (.aload_n 1, 1) := by decide +kernel
theorem dX1_exploreFrom_20 : decode cX1_exploreFrom 20 = .ok (.aload_n 0, 1) := by decide +kernel
theorem dX1_exploreFrom_21 : decode cX1_exploreFrom 21 = .ok (.getfield 11, 3) := by decide +kernel
theorem dX1_exploreFrom_24 : decode cX1_exploreFrom 24 = .ok (.iload_n 2, 1) := by decide +kernel
theorem dX1_exploreFrom_25 : decode cX1_exploreFrom 25 = .ok (.invokestatic 49, 3) := by decide +kernel
theorem dX1_exploreFrom_28 : decode cX1_exploreFrom 28 = .ok (.iload_n 3, 1) := by decide +kernel
theorem dX1_exploreFrom_29 : decode cX1_exploreFrom 29 = .ok (.iload 4, 2) := by decide +kernel
theorem dX1_exploreFrom_31 : decode cX1_exploreFrom 31 = .ok (.invokevirtual 53, 3) := by decide +kernel
theorem dX1_exploreFrom_34 : decode cX1_exploreFrom 34 = .ok (.istore 5, 2) := by decide +kernel
theorem dX1_exploreFrom_36 : decode cX1_exploreFrom 36 = .ok (.iload 5, 2) := by decide +kernel
theorem dX1_exploreFrom_38 : decode cX1_exploreFrom 38 = .ok (.iconst (-1), 1) := by decide +kernel
theorem dX1_exploreFrom_39 : decode cX1_exploreFrom 39 = .ok (.if_icmp .eq 19, 3) := by decide +kernel
theorem dX1_exploreFrom_42 : decode cX1_exploreFrom 42 = .ok (.aload_n 0, 1) := by decide +kernel
theorem dX1_exploreFrom_43 : decode cX1_exploreFrom 43 = .ok (.iload 5, 2) := by decide +kernel
theorem dX1_exploreFrom_45 : decode cX1_exploreFrom 45 = .ok (.iload_n 2, 1) := by decide +kernel
theorem dX1_exploreFrom_46 : decode cX1_exploreFrom 46 = .ok (.iload_n 3, 1) := by decide +kernel
theorem dX1_exploreFrom_47 : decode cX1_exploreFrom 47 = .ok (.aload_n 1, 1) := by decide +kernel
theorem dX1_exploreFrom_48 : decode cX1_exploreFrom 48 = .ok (.getfield 44, 3) := by decide +kernel
theorem dX1_exploreFrom_51 : decode cX1_exploreFrom 51 = .ok (.imul, 1) := by decide +kernel
theorem dX1_exploreFrom_52 : decode cX1_exploreFrom 52 = .ok (.iload 4, 2) := by decide +kernel
theorem dX1_exploreFrom_54 : decode cX1_exploreFrom 54 = .ok (.iadd, 1) := by decide +kernel
theorem dX1_exploreFrom_55 : decode cX1_exploreFrom 55 = .ok (.invokevirtual 36, 3) := by decide +kernel
theorem dX1_exploreFrom_58 : decode cX1_exploreFrom 58 = .ok (.iinc 4 1, 3) := by decide +kernel
theorem dX1_exploreFrom_61 : decode cX1_exploreFrom 61 = .ok (.goto (-51), 3) := by decide +kernel
theorem dX1_exploreFrom_64 : decode cX1_exploreFrom 64 = .ok (.iinc 3 1, 3) := by decide +kernel
theorem dX1_exploreFrom_67 : decode cX1_exploreFrom 67 = .ok (.goto (-65), 3) := by decide +kernel
theorem dX1_exploreFrom_70 : decode cX1_exploreFrom 70 = .ok (.return_, 1) := by decide +kernel
theorem dX1_add_0 : decode cX1_add 0 = .ok (.aload_n 0, 1) := by decide +kernel
theorem dX1_add_1 : decode cX1_add 1 = .ok (.getfield 26, 3) := by decide +kernel
theorem dX1_add_4 : decode cX1_add 4 = .ok (.iload_n 1, 1) := by decide +kernel
theorem dX1_add_5 : decode cX1_add 5 = .ok (.iconst 5, 1) := by decide +kernel
theorem dX1_add_6 : decode cX1_add 6 = .ok (.ishr, 1) := by decide +kernel
theorem dX1_add_7 : decode cX1_add 7 = .ok (.invokestatic 49, 3) := by decide +kernel
theorem dX1_add_10 : decode cX1_add 10 = .ok (.istore 4, 2) := by decide +kernel
theorem dX1_add_12 : decode cX1_add 12 = .ok (.iload 4, 2) := by decide +kernel
theorem dX1_add_14 : decode cX1_add 14 = .ok (.iload_n 1, 1) := by decide +kernel
theorem dX1_add_15 : decode cX1_add 15 = .ok (.bipush 31, 2) := by decide +kernel
theorem dX1_add_17 : decode cX1_add 17 = .ok (.iand, 1) := by decide +kernel
theorem dX1_add_18 : decode cX1_add 18 = .ok (.invokestatic 57, 3) := by decide +kernel
theorem dX1_add_21 : decode cX1_add 21 = .ok (.ifCond .eq 4, 3) := by decide +kernel
theorem dX1_add_24 : decode cX1_add 24 = .ok (.return_, 1) := by decide +kernel
theorem dX1_add_25 : decode cX1_add 25 = .ok (.aload_n 0, 1) := by decide +kernel
theorem dX1_add_26 : decode cX1_add 26 = .ok (.getfield 26, 3) := by decide +kernel
theorem dX1_add_29 : decode cX1_add 29 = .ok (.iload_n 1, 1) := by decide +kernel
theorem dX1_add_30 : decode cX1_add 30 = .ok (.iconst 5, 1) := by decide +kernel
theorem dX1_add_31 : decode cX1_add 31 = .ok (.ishr, 1) := by decide +kernel
theorem dX1_add_32 : decode cX1_add 32 = .ok (.iload 4, 2) := by decide +kernel
theorem dX1_add_34 : decode cX1_add 34 = .ok (.iconst 1, 1) := by decide +kernel
theorem dX1_add_35 : decode cX1_add 35 = .ok (.iload_n 1, 1) := by decide +kernel
theorem dX1_add_36 : decode cX1_add 36 = .ok (.bipush 31, 2) := by decide +kernel
theorem dX1_add_38 : decode cX1_add 38 = .ok (.iand, 1) := by decide +kernel
theorem dX1_add_39 : decode cX1_add 39 = .ok (.ishl, 1) := by decide +kernel
theorem dX1_add_40 : decode cX1_add 40 = .ok (.ior, 1) := by decide +kernel
theorem dX1_add_41 : decode cX1_add 41 = .ok (.invokestatic 61, 3) := by decide +kernel
theorem dX1_add_44 : decode cX1_add 44 = .ok (.aload_n 0, 1) := by decide +kernel
theorem dX1_add_45 : decode cX1_add 45 = .ok (.getfield 11, 3) := by decide +kernel
theorem dX1_add_48 : decode cX1_add 48 = .ok (.aload_n 0, 1) := by decide +kernel
theorem dX1_add_49 : decode cX1_add 49 = .ok (.getfield 33, 3) := by decide +kernel
theorem dX1_add_52 : decode cX1_add 52 = .ok (.iload_n 1, 1) := by decide +kernel
theorem dX1_add_53 : decode cX1_add 53 = .ok (.invokestatic 61, 3) := by decide +kernel
theorem dX1_add_56 : decode cX1_add 56 = .ok (.aload_n 0, 1) := by decide +kernel
theorem dX1_add_57 : decode cX1_add 57 = .ok (.getfield 15, 3) := by decide +kernel
theorem dX1_add_60 : decode cX1_add 60 = .ok (.aload_n 0, 1) := by decide +kernel
theorem dX1_add_61 : decode cX1_add 61 = .ok (.getfield 33, 3) := by decide +kernel
theorem dX1_add_64 : decode cX1_add 64 = .ok (.iload_n 2, 1) := by decide +kernel
theorem dX1_add_65 : decode cX1_add 65 = .ok (.invokestatic 61, 3) := by decide +kernel
theorem dX1_add_68 : decode cX1_add 68 = .ok (.aload_n 0, 1) := by decide +kernel
theorem dX1_add_69 : decode cX1_add 69 = .ok (.getfield 18, 3) := by decide +kernel
theorem dX1_add_72 : decode cX1_add 72 = .ok (.aload_n 0, 1) := by decide +kernel
theorem dX1_add_73 : decode cX1_add 73 = .ok (.getfield 33, 3) := by decide +kernel
theorem dX1_add_76 : decode cX1_add 76 = .ok (.iload_n 3, 1) := by decide +kernel
theorem dX1_add_77 : decode cX1_add 77 = .ok (.invokestatic 61, 3) := by decide +kernel
theorem dX1_add_80 : decode cX1_add 80 = .ok (.aload_n 0, 1) := by decide +kernel
theorem dX1_add_81 : decode cX1_add 81 = .ok (.getfield 21, 3) := by decide +kernel
theorem dX1_add_84 : decode cX1_add 84 = .ok (.aload_n 0, 1) := by decide +kernel
theorem dX1_add_85 : decode cX1_add 85 = .ok (.getfield 33, 3) := by decide +kernel
theorem dX1_add_88 : decode cX1_add 88 = .ok (.iload_n 2, 1) := by decide +kernel
theorem dX1_add_89 : decode cX1_add 89 = .ok (.iconst (-1), 1) := by decide +kernel
theorem dX1_add_90 : decode cX1_add 90 = .ok (.if_icmp .ne 7, 3) := by decide +kernel
theorem dX1_add_93 : decode cX1_add 93 = .ok (.iconst 0, 1) := by decide +kernel
theorem dX1_add_94 : decode cX1_add 94 = .ok (.goto 10, 3) := by decide +kernel
theorem dX1_add_97 : decode cX1_add 97 = .ok (.aload_n 0, 1) := by decide +kernel
theorem dX1_add_98 : decode cX1_add 98 = .ok (.iload_n 2, 1) := by decide +kernel
theorem dX1_add_99 : decode cX1_add 99 = .ok (.invokevirtual 65, 3) := by decide +kernel
theorem dX1_add_102 : decode cX1_add 102 = .ok (.iconst 1, 1) := by decide +kernel
theorem dX1_add_103 : decode cX1_add 103 = .ok (.iadd, 1) := by decide +kernel
theorem dX1_add_104 : decode cX1_add 104 = .ok (.invokestatic 61, 3) := by decide +kernel
theorem dX1_add_107 : decode cX1_add 107 = .ok (.aload_n 0, 1) := by decide +kernel
theorem dX1_add_108 : decode cX1_add 108 = .ok (.dup, 1) := by decide +kernel
theorem dX1_add_109 : decode cX1_add 109 = .ok (.getfield 33, 3) := by decide +kernel
theorem dX1_add_112 : decode cX1_add 112 = .ok (.iconst 1, 1) := by decide +kernel
theorem dX1_add_113 : decode cX1_add 113 = .ok (.iadd, 1) := by decide +kernel
theorem dX1_add_114 : decode cX1_add 114 = .ok (.putfield 33, 3) := by decide +kernel
theorem dX1_add_117 : decode cX1_add 117 = .ok (.return_, 1) := by decide +kernel
theorem dX1_firstMeetingWants_0 : decode cX1_firstMeetingWants 0 = .ok (.iconst 1, 1) := by decide +kernel
theorem dX1_firstMeetingWants_1 : decode cX1_firstMeetingWants 1 = .ok (.aload_n 1, 1) := by decide +kernel
theorem dX1_firstMeetingWants_2 : decode cX1_firstMeetingWants 2 = .ok (.getfield 69, 3) := by decide +kernel
theorem dX1_firstMeetingWants_5 : decode cX1_firstMeetingWants 5 = .ok (.getfield 73, 3) := by decide +kernel
theorem dX1_firstMeetingWants_8 : decode cX1_firstMeetingWants 8 = .ok (.ishl, 1) := by decide +kernel
theorem dX1_firstMeetingWants_9 : decode cX1_firstMeetingWants 9 = .ok (.iconst 1, 1) := by decide +kernel
theorem dX1_firstMeetingWants_10 : decode cX1_firstMeetingWants 10 = .ok (.isub, 1) := by decide +kernel
theorem dX1_firstMeetingWants_11 : decode cX1_firstMeetingWants 11 = .ok (.istore_n 2, 1) := by decide +kernel
theorem dX1_firstMeetingWants_12 : decode cX1_firstMeetingWants 12 = .ok (.iconst 0, 1) := by decide +kernel
theorem dX1_firstMeetingWants_13 : decode cX1_firstMeetingWants 13 = .ok (.istore_n 3, 1) := by decide +kernel
theorem dX1_firstMeetingWants_14 : decode cX1_firstMeetingWants 14 = .ok (.iload_n 3, 1) := by decide +kernel
theorem dX1_firstMeetingWants_15 : decode cX1_firstMeetingWants 15 = .ok (.aload_n 0, 1) := by decide +kernel
theorem dX1_firstMeetingWants_16 : decode cX1_firstMeetingWants 16 = .ok (.getfield 33, 3) := by decide +kernel
theorem dX1_firstMeetingWants_19 : decode cX1_firstMeetingWants 19 = .ok (.if_icmp .ge 31, 3) := by decide +kernel
theorem dX1_firstMeetingWants_22 : decode cX1_firstMeetingWants 22 = .ok (.aload_n 1, 1) := by decide +kernel
theorem dX1_firstMeetingWants_23 : decode cX1_firstMeetingWants 23 = .ok (.getfield 69, 3) := by decide +kernel
theorem dX1_firstMeetingWants_26 : decode cX1_firstMeetingWants 26 = .ok (.aload_n 1, 1) := by decide +kernel
theorem dX1_firstMeetingWants_27 : decode cX1_firstMeetingWants 27 = .ok (.aload_n 0, 1) := by decide +kernel
theorem dX1_firstMeetingWants_28 : decode cX1_firstMeetingWants 28 = .ok (.getfield 11, 3) := by decide +kernel
theorem dX1_firstMeetingWants_31 : decode cX1_firstMeetingWants 31 = .ok (.iload_n 3, 1) := by decide +kernel
theorem dX1_firstMeetingWants_32 : decode cX1_firstMeetingWants 32 = .ok (.invokestatic 49, 3) := by decide +kernel
theorem dX1_firstMeetingWants_35 : decode cX1_firstMeetingWants 35 = .ok (.invokevirtual 78, 3) := by decide +kernel
theorem dX1_firstMeetingWants_38 : decode cX1_firstMeetingWants 38 = .ok (.iload_n 2, 1) := by decide +kernel
theorem dX1_firstMeetingWants_39 : decode cX1_firstMeetingWants 39 = .ok (.if_icmp .ne 5, 3) := by decide +kernel
theorem dX1_firstMeetingWants_42 : decode cX1_firstMeetingWants 42 = .ok (.iload_n 3, 1) := by decide +kernel
theorem dX1_firstMeetingWants_43 : decode cX1_firstMeetingWants 43 = .ok (.ireturn, 1) := by decide +kernel
theorem dX1_firstMeetingWants_44 : decode cX1_firstMeetingWants 44 = .ok (.iinc 3 1, 3) := by decide +kernel
theorem dX1_firstMeetingWants_47 : decode cX1_firstMeetingWants 47 = .ok (.goto (-33), 3) := by decide +kernel
theorem dX1_firstMeetingWants_50 : decode cX1_firstMeetingWants 50 = .ok (.iconst (-1), 1) := by decide +kernel
theorem dX1_firstMeetingWants_51 : decode cX1_firstMeetingWants 51 = .ok (.ireturn, 1) := by decide +kernel
theorem dX1_firstWithWealth_0 : decode cX1_firstWithWealth 0 = .ok (.iconst 0, 1) := by decide +kernel
theorem dX1_firstWithWealth_1 : decode cX1_firstWithWealth 1 = .ok (.istore 4, 2) := by decide +kernel
theorem dX1_firstWithWealth_3 : decode cX1_firstWithWealth 3 = .ok (.iload 4, 2) := by decide +kernel
theorem dX1_firstWithWealth_5 : decode cX1_firstWithWealth 5 = .ok (.aload_n 0, 1) := by decide +kernel
theorem dX1_firstWithWealth_6 : decode cX1_firstWithWealth 6 = .ok (.getfield 33, 3) := by decide +kernel
theorem dX1_firstWithWealth_9 : decode cX1_firstWithWealth 9 = .ok (.if_icmp .ge 30, 3) := by decide +kernel
theorem dX1_firstWithWealth_12 : decode cX1_firstWithWealth 12 = .ok (.aload_n 1, 1) := by decide +kernel
theorem dX1_firstWithWealth_13 : decode cX1_firstWithWealth 13 = .ok (.iload_n 2, 1) := by decide +kernel
theorem dX1_firstWithWealth_14 : decode cX1_firstWithWealth 14 = .ok (.aload_n 0, 1) := by decide +kernel
theorem dX1_firstWithWealth_15 : decode cX1_firstWithWealth 15 = .ok (.getfield 11, 3) := by decide +kernel
theorem dX1_firstWithWealth_18 : decode cX1_firstWithWealth 18 = .ok (.iload 4, 2) := by decide +kernel
theorem dX1_firstWithWealth_20 : decode cX1_firstWithWealth 20 = .ok (.invokestatic 49, 3) := by decide +kernel
theorem dX1_firstWithWealth_23 : decode cX1_firstWithWealth 23 = .ok (.invokevirtual 82, 3) := by decide +kernel
theorem dX1_firstWithWealth_26 : decode cX1_firstWithWealth 26 = .ok (.iload_n 3, 1) := by decide +kernel
theorem dX1_firstWithWealth_27 : decode cX1_firstWithWealth 27 = .ok (.if_icmp .lt 6, 3) := by decide +kernel
theorem dX1_firstWithWealth_30 : decode cX1_firstWithWealth 30 = .ok (.iload 4, 2) := by decide +kernel
theorem dX1_firstWithWealth_32 : decode cX1_firstWithWealth 32 = .ok (.ireturn, 1) := by decide +kernel
theorem dX1_firstWithWealth_33 : decode cX1_firstWithWealth 33 = .ok (.iinc 4 1, 3) := by decide +kernel
theorem dX1_firstWithWealth_36 : decode cX1_firstWithWealth 36 = .ok (.goto (-33), 3) := by decide +kernel
theorem dX1_firstWithWealth_39 : decode cX1_firstWithWealth 39 = .ok (.iconst (-1), 1) := by decide +kernel
theorem dX1_firstWithWealth_40 : decode cX1_firstWithWealth 40 = .ok (.ireturn, 1) := by decide +kernel
theorem dX1_mostWealthWithin_0 : decode cX1_mostWealthWithin 0 = .ok (.iconst 0, 1) := by decide +kernel
theorem dX1_mostWealthWithin_1 : decode cX1_mostWealthWithin 1 = .ok (.istore 4, 2) := by decide +kernel
theorem dX1_mostWealthWithin_3 : decode cX1_mostWealthWithin 3 = .ok (.iconst 0, 1) := by decide +kernel
theorem dX1_mostWealthWithin_4 : decode cX1_mostWealthWithin 4 = .ok (.istore 5, 2) := by decide +kernel
theorem dX1_mostWealthWithin_6 : decode cX1_mostWealthWithin 6 = .ok (.iload 5, 2) := by decide +kernel
theorem dX1_mostWealthWithin_8 : decode cX1_mostWealthWithin 8 = .ok (.aload_n 0, 1) := by decide +kernel
theorem dX1_mostWealthWithin_9 : decode cX1_mostWealthWithin 9 = .ok (.getfield 33, 3) := by decide +kernel
theorem dX1_mostWealthWithin_12 : decode cX1_mostWealthWithin 12 = .ok (.if_icmp .ge 40, 3) := by decide +kernel
theorem dX1_mostWealthWithin_15 : decode cX1_mostWealthWithin 15 = .ok (.aload_n 0, 1) := by decide +kernel
theorem dX1_mostWealthWithin_16 : decode cX1_mostWealthWithin 16 = .ok (.iload 5, 2) := by decide +kernel
theorem dX1_mostWealthWithin_18 : decode cX1_mostWealthWithin 18 = .ok (.invokevirtual 65, 3) := by decide +kernel
theorem dX1_mostWealthWithin_21 : decode cX1_mostWealthWithin 21 = .ok (.iload_n 3, 1) := by decide +kernel
theorem dX1_mostWealthWithin_22 : decode cX1_mostWealthWithin 22 = .ok (.if_icmp .gt 30, 3) := by decide +kernel
theorem dX1_mostWealthWithin_25 : decode cX1_mostWealthWithin 25 = .ok (.iload 4, 2) := by decide +kernel
theorem dX1_mostWealthWithin_27 : decode cX1_mostWealthWithin 27 = .ok (.aload_n 1, 1) := by decide +kernel
theorem dX1_mostWealthWithin_28 : decode cX1_mostWealthWithin 28 = .ok (.iload_n 2, 1) := by decide +kernel
theorem dX1_mostWealthWithin_29 : decode cX1_mostWealthWithin 29 = .ok (.aload_n 0, 1) := by decide +kernel
theorem dX1_mostWealthWithin_30 : decode cX1_mostWealthWithin 30 = .ok (.getfield 11, 3) := by decide +kernel
theorem dX1_mostWealthWithin_33 : decode cX1_mostWealthWithin 33 = .ok (.iload 5, 2) := by decide +kernel
theorem dX1_mostWealthWithin_35 : decode cX1_mostWealthWithin 35 = .ok (.invokestatic 49, 3) := by decide +kernel
theorem dX1_mostWealthWithin_38 : decode cX1_mostWealthWithin 38 = .ok (.invokevirtual 82, 3) := by decide +kernel
theorem dX1_mostWealthWithin_41 : decode cX1_mostWealthWithin 41 = .ok (.invokestatic 86, 3) := by decide +kernel
theorem dX1_mostWealthWithin_44 : decode cX1_mostWealthWithin 44 = .ok (.istore 4, 2) := by decide +kernel
theorem dX1_mostWealthWithin_46 : decode cX1_mostWealthWithin 46 = .ok (.iinc 5 1, 3) := by decide +kernel
theorem dX1_mostWealthWithin_49 : decode cX1_mostWealthWithin 49 = .ok (.goto (-43), 3) := by decide +kernel
theorem dX1_mostWealthWithin_52 : decode cX1_mostWealthWithin 52 = .ok (.iload 4, 2) := by decide +kernel
theorem dX1_mostWealthWithin_54 : decode cX1_mostWealthWithin 54 = .ok (.ireturn, 1) := by decide +kernel
theorem dX1_movesTo_0 : decode cX1_movesTo 0 = .ok (.aload_n 0, 1) := by decide +kernel
theorem dX1_movesTo_1 : decode cX1_movesTo 1 = .ok (.getfield 21, 3) := by decide +kernel
theorem dX1_movesTo_4 : decode cX1_movesTo 4 = .ok (.iload_n 1, 1) := by decide +kernel
theorem dX1_movesTo_5 : decode cX1_movesTo 5 = .ok (.invokestatic 49, 3) := by decide +kernel
theorem dX1_movesTo_8 : decode cX1_movesTo 8 = .ok (.ireturn, 1) := by decide +kernel
theorem dX1_moveTowards_0 : decode cX1_moveTowards 0 = .ok (.iload_n 1, 1) := by decide +kernel
theorem dX1_moveTowards_1 : decode cX1_moveTowards 1 = .ok (.istore_n 3, 1) := by decide +kernel
theorem dX1_moveTowards_2 : decode cX1_moveTowards 2 = .ok (.aload_n 0, 1) := by decide +kernel
theorem dX1_moveTowards_3 : decode cX1_moveTowards 3 = .ok (.iload_n 1, 1) := by decide +kernel
theorem dX1_moveTowards_4 : decode cX1_moveTowards 4 = .ok (.invokevirtual 65, 3) := by decide +kernel
theorem dX1_moveTowards_7 : decode cX1_moveTowards 7 = .ok (.iconst 1, 1) := by decide +kernel
theorem dX1_moveTowards_8 : decode cX1_moveTowards 8 = .ok (.isub, 1) := by decide +kernel
theorem dX1_moveTowards_9 : decode cX1_moveTowards 9 = .ok (.istore 4, 2) := by decide +kernel
theorem dX1_moveTowards_11 : decode cX1_moveTowards 11 = .ok (.iload 4, 2) := by decide +kernel
theorem dX1_moveTowards_13 : decode cX1_moveTowards 13 = .ok (.iload_n 2, 1) := by decide +kernel
theorem dX1_moveTowards_14 : decode cX1_moveTowards 14 = .ok (.if_icmp .le 18, 3) := by decide +kernel
theorem dX1_moveTowards_17 : decode cX1_moveTowards 17 = .ok (.aload_n 0, 1) := by decide +kernel
theorem dX1_moveTowards_18 : decode cX1_moveTowards 18 = .ok (.getfield 15, 3) := by decide +kernel
theorem dX1_moveTowards_21 : decode cX1_moveTowards 21 = .ok (.iload_n 3, 1) := by decide +kernel
theorem dX1_moveTowards_22 : decode cX1_moveTowards 22 = .ok (.invokestatic 49, 3) := by decide +kernel
theorem dX1_moveTowards_25 : decode cX1_moveTowards 25 = .ok (.istore_n 3, 1) := by decide +kernel
theorem dX1_moveTowards_26 : decode cX1_moveTowards 26 = .ok (.iinc 4 (-1), 3) := by decide +kernel
theorem dX1_moveTowards_29 : decode cX1_moveTowards 29 = .ok (.goto (-18), 3) := by decide +kernel
theorem dX1_moveTowards_32 : decode cX1_moveTowards 32 = .ok (.aload_n 0, 1) := by decide +kernel
theorem dX1_moveTowards_33 : decode cX1_moveTowards 33 = .ok (.getfield 18, 3) := by decide +kernel
theorem dX1_moveTowards_36 : decode cX1_moveTowards 36 = .ok (.iload_n 3, 1) := by decide +kernel
theorem dX1_moveTowards_37 : decode cX1_moveTowards 37 = .ok (.invokestatic 49, 3) := by decide +kernel
theorem dX1_moveTowards_40 : decode cX1_moveTowards 40 = .ok (.ireturn, 1) := by decide +kernel
theorem dX2_init_0 : decode cX2_init 0 = .ok (.aload_n 0, 1) := by decide +kernel
theorem dX2_init_1 : decode cX2_init 1 = .ok (.invokespecial 3, 3) := by decide +kernel
theorem dX2_init_4 : decode cX2_init 4 = .ok (.aload_n 0, 1) := by decide +kernel
theorem dX2_init_5 : decode cX2_init 5 = .ok (.bipush 81, 2) := by decide +kernel
theorem dX2_init_7 : decode cX2_init 7 = .ok (.newarray .int, 2) := by decide +kernel
theorem dX2_init_9 : decode cX2_init 9 = .ok (.putfield 11, 3) := by decide +kernel
theorem dX2_init_12 : decode cX2_init 12 = .ok (.return_, 1) := by decide +kernel
theorem dX2_forget_0 : decode cX2_forget 0 = .ok (.aload_n 0, 1) := by decide +kernel
theorem dX2_forget_1 : decode cX2_forget 1 = .ok (.iconst 0, 1) := by decide +kernel
theorem dX2_forget_2 : decode cX2_forget 2 = .ok (.putfield 15, 3) := by decide +kernel
theorem dX2_forget_5 : decode cX2_forget 5 = .ok (.return_, 1) := by decide +kernel
theorem dX2_find_0 : decode cX2_find 0 = .ok (.aload_n 0, 1) := by decide +kernel
theorem dX2_find_1 : decode cX2_find 1 = .ok (.getfield 15, 3) := by decide +kernel
theorem dX2_find_4 : decode cX2_find 4 = .ok (.ifCond .eq 4, 3) := by decide +kernel
theorem dX2_find_7 : decode cX2_find 7 = .ok (.return_, 1) := by decide +kernel
theorem dX2_find_8 : decode cX2_find 8 = .ok (.aload_n 0, 1) := by decide +kernel
theorem dX2_find_9 : decode cX2_find 9 = .ok (.iconst 1, 1) := by decide +kernel
theorem dX2_find_10 : decode cX2_find 10 = .ok (.putfield 15, 3) := by decide +kernel
theorem dX2_find_13 : decode cX2_find 13 = .ok (.aload_n 0, 1) := by decide +kernel
theorem dX2_find_14 : decode cX2_find 14 = .ok (.iconst 0, 1) := by decide +kernel
theorem dX2_find_15 : decode cX2_find 15 = .ok (.putfield 19, 3) := by decide +kernel
theorem dX2_find_18 : decode cX2_find 18 = .ok (.aload_n 1, 1) := by decide +kernel
theorem dX2_find_19 : decode cX2_find 19 = .ok (.getfield 23, 3) := by decide +kernel
theorem dX2_find_22 : decode cX2_find 22 = .ok (.getfield 29, 3) := by decide +kernel
theorem dX2_find_25 : decode cX2_find 25 = .ok (.istore_n 2, 1) := by decide +kernel
theorem dX2_find_26 : decode cX2_find 26 = .ok (.iconst 0, 1) := by decide +kernel
theorem dX2_find_27 : decode cX2_find 27 = .ok (.istore_n 3, 1) := by decide +kernel
theorem dX2_find_28 : decode cX2_find 28 = .ok (.iload_n 3, 1) := by decide +kernel
theorem dX2_find_29 : decode cX2_find 29 = .ok (.iload_n 2, 1) := by decide +kernel
theorem dX2_find_30 : decode cX2_find 30 = .ok (.invokestatic 34, 3) := by decide +kernel
theorem dX2_find_33 : decode cX2_find 33 = .ok (.if_icmp .ge 56, 3) := by decide +kernel
theorem dX2_find_36 : decode cX2_find 36 = .ok (.iload_n 3, 1) := by decide +kernel
theorem dX2_find_37 : decode cX2_find 37 = .ok (.iload_n 2, 1) := by decide +kernel
theorem dX2_find_38 : decode cX2_find 38 = .ok (.invokestatic 40, 3) := by decide +kernel
theorem dX2_find_41 : decode cX2_find 41 = .ok (.istore 4, 2) := by decide +kernel
theorem dX2_find_43 : decode cX2_find 43 = .ok (.iload 4, 2) := by decide +kernel
theorem dX2_find_45 : decode cX2_find 45 = .ok (.invokestatic 44, 3) := by decide +kernel
theorem dX2_find_48 : decode cX2_find 48 = .ok (.ifCond .eq 35, 3) := by decide +kernel
theorem dX2_find_51 : decode cX2_find 51 = .ok (.aload_n 1, 1) := by decide +kernel
theorem dX2_find_52 : decode cX2_find 52 = .ok (.iload 4, 2) := by decide +kernel
theorem dX2_find_54 : decode cX2_find 54 = .ok (.invokestatic 48, 3) := by decide +kernel
theorem dX2_find_57 : decode cX2_find 57 = .ok (.ifCond .eq 26, 3) := by decide +kernel
theorem dX2_find_60 : decode cX2_find 60 = .ok (.aload_n 0, 1) := by decide +kernel
theorem dX2_find_61 : decode cX2_find 61 = .ok (.getfield 11, 3) := by decide +kernel
theorem dX2_find_64 : decode cX2_find 64 = .ok (.aload_n 0, 1) := by decide +kernel
theorem dX2_find_65 : decode cX2_find 65 = .ok (.getfield 19, 3) := by decide +kernel
theorem dX2_find_68 : decode cX2_find 68 = .ok (.iload 4, 2) := by decide +kernel
theorem dX2_find_70 : decode cX2_find 70 = .ok (.invokestatic 52, 3) := by decide +kernel
theorem dX2_find_73 : decode cX2_find 73 = .ok (.aload_n 0, 1) := by decide +kernel
theorem dX2_find_74 : decode cX2_find 74 = .ok (.dup, 1) := by decide +kernel
theorem dX2_find_75 : decode cX2_find 75 = .ok (.getfield 19, 3) := by decide +kernel
theorem dX2_find_78 : decode cX2_find 78 = .ok (.iconst 1, 1) := by decide +kernel
theorem dX2_find_79 : decode cX2_find 79 = .ok (.iadd, 1) := by decide +kernel
theorem dX2_find_80 : decode cX2_find 80 = .ok (.putfield 19, 3) := by decide +kernel
theorem dX2_find_83 : decode cX2_find 83 = .ok (.iinc 3 1, 3) := by decide +kernel
theorem dX2_find_86 : decode cX2_find 86 = .ok (.goto (-58), 3) := by decide +kernel
theorem dX2_find_89 : decode cX2_find 89 = .ok (.return_, 1) := by decide +kernel
theorem dX2_isFit_0 : decode cX2_isFit 0 = .ok (.aload_n 0, 1) := by decide +kernel
theorem dX2_isFit_1 : decode cX2_isFit 1 = .ok (.getfield 56, 3) := by decide +kernel
theorem dX2_isFit_4 : decode cX2_isFit 4 = .ok (.istore_n 2, 1) := by decide +kernel
theorem dX2_isFit_5 : decode cX2_isFit 5 = .ok (.iconst 0, 1) := by decide +kernel
theorem dX2_isFit_6 : decode cX2_isFit 6 = .ok (.istore_n 3, 1) := by decide +kernel
theorem dX2_isFit_7 : decode cX2_isFit 7 = .ok (.iload_n 3, 1) := by decide +kernel
theorem dX2_isFit_8 : decode cX2_isFit 8 = .ok (.aload_n 0, 1) := by decide +kernel
theorem dX2_isFit_9 : decode cX2_isFit 9 = .ok (.getfield 23, 3) := by decide +kernel
theorem dX2_isFit_12 : decode cX2_isFit 12 = .ok (.getfield 29, 3) := by decide +kernel
theorem dX2_isFit_15 : decode cX2_isFit 15 = .ok (.if_icmp .ge 30, 3) := by decide +kernel
theorem dX2_isFit_18 : decode cX2_isFit 18 = .ok (.iload_n 2, 1) := by decide +kernel
theorem dX2_isFit_19 : decode cX2_isFit 19 = .ok (.aload_n 0, 1) := by decide +kernel
theorem dX2_isFit_20 : decode cX2_isFit 20 = .ok (.getfield 23, 3) := by decide +kernel
theorem dX2_isFit_23 : decode cX2_isFit 23 = .ok (.getfield 59, 3) := by decide +kernel
theorem dX2_isFit_26 : decode cX2_isFit 26 = .ok (.iload_n 3, 1) := by decide +kernel
theorem dX2_isFit_27 : decode cX2_isFit 27 = .ok (.invokestatic 62, 3) := by decide +kernel
theorem dX2_isFit_30 : decode cX2_isFit 30 = .ok (.iload_n 1, 1) := by decide +kernel
theorem dX2_isFit_31 : decode cX2_isFit 31 = .ok (.iload_n 3, 1) := by decide +kernel
theorem dX2_isFit_32 : decode cX2_isFit 32 = .ok (.invokestatic 66, 3) := by decide +kernel
theorem dX2_isFit_35 : decode cX2_isFit 35 = .ok (.invokestatic 69, 3) := by decide +kernel
theorem dX2_isFit_38 : decode cX2_isFit 38 = .ok (.istore_n 2, 1) := by decide +kernel
theorem dX2_isFit_39 : decode cX2_isFit 39 = .ok (.iinc 3 1, 3) := by decide +kernel
theorem dX2_isFit_42 : decode cX2_isFit 42 = .ok (.goto (-35), 3) := by decide +kernel
theorem dX2_isFit_45 : decode cX2_isFit 45 = .ok (.aload_n 0, 1) := by decide +kernel
theorem dX2_isFit_46 : decode cX2_isFit 46 = .ok (.getfield 23, 3) := by decide +kernel
theorem dX2_isFit_49 : decode cX2_isFit 49 = .ok (.aload_n 0, 1) := by decide +kernel
theorem dX2_isFit_50 : decode cX2_isFit 50 = .ok (.iload_n 2, 1) := by decide +kernel
theorem dX2_isFit_51 : decode cX2_isFit 51 = .ok (.invokevirtual 73, 3) := by decide +kernel
theorem dX2_isFit_54 : decode cX2_isFit 54 = .ok (.bipush (-2), 2) := by decide +kernel
theorem dX2_isFit_56 : decode cX2_isFit 56 = .ok (.if_icmp .ne 7, 3) := by decide +kernel
theorem dX2_isFit_59 : decode cX2_isFit 59 = .ok (.iconst 1, 1) := by decide +kernel
theorem dX2_isFit_60 : decode cX2_isFit 60 = .ok (.goto 4, 3) := by decide +kernel
theorem dX2_isFit_63 : decode cX2_isFit 63 = .ok (.iconst 0, 1) := by decide +kernel
theorem dX2_isFit_64 : decode cX2_isFit 64 = .ok (.ireturn, 1) := by decide +kernel
theorem dX2_countHung_0 : decode cX2_countHung 0 = .ok (.iconst 0, 1) := by decide +kernel
theorem dX2_countHung_1 : decode cX2_countHung 1 = .ok (.istore_n 3, 1) := by decide +kernel
theorem dX2_countHung_2 : decode cX2_countHung 2 = .ok (.iconst 0, 1) := by decide +kernel
theorem dX2_countHung_3 : decode cX2_countHung 3 = .ok (.istore 4, 2) := by decide +kernel
theorem dX2_countHung_5 : decode cX2_countHung 5 = .ok (.iload 4, 2) := by decide +kernel
theorem dX2_countHung_7 : decode cX2_countHung 7 = .ok (.aload_n 0, 1) := by decide +kernel
theorem dX2_countHung_8 : decode cX2_countHung 8 = .ok (.getfield 19, 3) := by decide +kernel
theorem dX2_countHung_11 : decode cX2_countHung 11 = .ok (.if_icmp .ge 29, 3) := by decide +kernel
theorem dX2_countHung_14 : decode cX2_countHung 14 = .ok (.aload_n 0, 1) := by decide +kernel
theorem dX2_countHung_15 : decode cX2_countHung 15 = .ok (.getfield 11, 3) := by decide +kernel
theorem dX2_countHung_18 : decode cX2_countHung 18 = .ok (.iload 4, 2) := by decide +kernel
theorem dX2_countHung_20 : decode cX2_countHung 20 = .ok (.invokestatic 62, 3) := by decide +kernel
theorem dX2_countHung_23 : decode cX2_countHung 23 = .ok (.iload_n 1, 1) := by decide +kernel
theorem dX2_countHung_24 : decode cX2_countHung 24 = .ok (.invokestatic 66, 3) := by decide +kernel
theorem dX2_countHung_27 : decode cX2_countHung 27 = .ok (.iload_n 2, 1) := by decide +kernel
theorem dX2_countHung_28 : decode cX2_countHung 28 = .ok (.if_icmp .ne 6, 3) := by decide +kernel
theorem dX2_countHung_31 : decode cX2_countHung 31 = .ok (.iinc 3 1, 3) := by decide +kernel
theorem dX2_countHung_34 : decode cX2_countHung 34 = .ok (.iinc 4 1, 3) := by decide +kernel
theorem dX2_countHung_37 : decode cX2_countHung 37 = .ok (.goto (-32), 3) := by decide +kernel
theorem dX2_countHung_40 : decode cX2_countHung 40 = .ok (.iload_n 3, 1) := by decide +kernel
theorem dX2_countHung_41 : decode cX2_countHung 41 = .ok (.ireturn, 1) := by decide +kernel
theorem dX2_mostLeft_0 : decode cX2_mostLeft 0 = .ok (.iconst 0, 1) := by decide +kernel
theorem dX2_mostLeft_1 : decode cX2_mostLeft 1 = .ok (.istore_n 2, 1) := by decide +kernel
theorem dX2_mostLeft_2 : decode cX2_mostLeft 2 = .ok (.iconst 0, 1) := by decide +kernel
theorem dX2_mostLeft_3 : decode cX2_mostLeft 3 = .ok (.istore_n 3, 1) := by decide +kernel
theorem dX2_mostLeft_4 : decode cX2_mostLeft 4 = .ok (.iload_n 3, 1) := by decide +kernel
theorem dX2_mostLeft_5 : decode cX2_mostLeft 5 = .ok (.iconst 2, 1) := by decide +kernel
theorem dX2_mostLeft_6 : decode cX2_mostLeft 6 = .ok (.if_icmp .gt 20, 3) := by decide +kernel
theorem dX2_mostLeft_9 : decode cX2_mostLeft 9 = .ok (.iload_n 2, 1) := by decide +kernel
theorem dX2_mostLeft_10 : decode cX2_mostLeft 10 = .ok (.aload_n 0, 1) := by decide +kernel
theorem dX2_mostLeft_11 : decode cX2_mostLeft 11 = .ok (.iload_n 1, 1) := by decide +kernel
theorem dX2_mostLeft_12 : decode cX2_mostLeft 12 = .ok (.iload_n 3, 1) := by decide +kernel
theorem dX2_mostLeft_13 : decode cX2_mostLeft 13 = .ok (.invokevirtual 77, 3) := by decide +kernel
theorem dX2_mostLeft_16 : decode cX2_mostLeft 16 = .ok (.invokestatic 80, 3) := by decide +kernel
theorem dX2_mostLeft_19 : decode cX2_mostLeft 19 = .ok (.istore_n 2, 1) := by decide +kernel
theorem dX2_mostLeft_20 : decode cX2_mostLeft 20 = .ok (.iinc 3 1, 3) := by decide +kernel
theorem dX2_mostLeft_23 : decode cX2_mostLeft 23 = .ok (.goto (-19), 3) := by decide +kernel
theorem dX2_mostLeft_26 : decode cX2_mostLeft 26 = .ok (.iload_n 2, 1) := by decide +kernel
theorem dX2_mostLeft_27 : decode cX2_mostLeft 27 = .ok (.ireturn, 1) := by decide +kernel
theorem dX2_bestToLookAt_0 : decode cX2_bestToLookAt 0 = .ok (.aload_n 0, 1) := by decide +kernel
theorem dX2_bestToLookAt_1 : decode cX2_bestToLookAt 1 = .ok (.getfield 19, 3) := by decide +kernel
theorem dX2_bestToLookAt_4 : decode cX2_bestToLookAt 4 = .ok (.ifCond .ne 6, 3) := by decide +kernel
theorem dX2_bestToLookAt_7 : decode cX2_bestToLookAt 7 = .ok (.bipush (-2), 2) := by decide +kernel
theorem dX2_bestToLookAt_9 : decode cX2_bestToLookAt 9 = .ok (.ireturn, 1) := by decide +kernel
theorem dX2_bestToLookAt_10 : decode cX2_bestToLookAt 10 = .ok (.bipush (-2), 2) := by decide +kernel
theorem dX2_bestToLookAt_12 : decode cX2_bestToLookAt 12 = .ok (.istore_n 2, 1) := by decide +kernel
theorem dX2_bestToLookAt_13 : decode cX2_bestToLookAt 13 = .ok (.aload_n 0, 1) := by decide +kernel
theorem dX2_bestToLookAt_14 : decode cX2_bestToLookAt 14 = .ok (.getfield 19, 3) := by decide +kernel
theorem dX2_bestToLookAt_17 : decode cX2_bestToLookAt 17 = .ok (.iconst 1, 1) := by decide +kernel
theorem dX2_bestToLookAt_18 : decode cX2_bestToLookAt 18 = .ok (.iadd, 1) := by decide +kernel
theorem dX2_bestToLookAt_19 : decode cX2_bestToLookAt 19 = .ok (.istore_n 3, 1) := by decide +kernel
theorem dX2_bestToLookAt_20 : decode cX2_bestToLookAt 20 = .ok (.iconst 0, 1) := by decide +kernel
theorem dX2_bestToLookAt_21 : decode cX2_bestToLookAt 21 = .ok (.istore 4, 2) := by decide +kernel
theorem dX2_bestToLookAt_23 : decode cX2_bestToLookAt 23 = .ok (.iload 4, 2) := by decide +kernel
theorem dX2_bestToLookAt_25 : decode cX2_bestToLookAt 25 = .ok (.iload_n 1, 1) := by decide +kernel
theorem dX2_bestToLookAt_26 : decode cX2_bestToLookAt 26 = .ok (.if_icmp .ge 29, 3) := by decide +kernel
theorem dX2_bestToLookAt_29 : decode cX2_bestToLookAt 29 = .ok (.aload_n 0, 1) := by decide +kernel
theorem dX2_bestToLookAt_30 : decode cX2_bestToLookAt 30 = .ok (.iload 4, 2) := by decide +kernel
theorem dX2_bestToLookAt_32 : decode cX2_bestToLookAt 32 = .ok (.invokevirtual 85, 3) := by decide +kernel
theorem dX2_bestToLookAt_35 : decode cX2_bestToLookAt 35 = .ok (.istore 5, 2) := by decide +kernel
theorem dX2_bestToLookAt_37 : decode cX2_bestToLookAt 37 = .ok (.iload 5, 2) := by decide +kernel
theorem dX2_bestToLookAt_39 : decode cX2_bestToLookAt 39 = .ok (.iload_n 3, 1) := by decide +kernel
theorem dX2_bestToLookAt_40 : decode cX2_bestToLookAt 40 = .ok (.if_icmp .ge 9, 3) := by decide +kernel
theorem dX2_bestToLookAt_43 : decode cX2_bestToLookAt 43 = .ok (.iload 5, 2) := by decide +kernel
theorem dX2_bestToLookAt_45 : decode cX2_bestToLookAt 45 = .ok (.istore_n 3, 1) := by decide +kernel
theorem dX2_bestToLookAt_46 : decode cX2_bestToLookAt 46 = .ok (.iload 4, 2) := by decide +kernel
theorem dX2_bestToLookAt_48 : decode cX2_bestToLookAt 48 = .ok (.istore_n 2, 1) := by decide +kernel
theorem dX2_bestToLookAt_49 : decode cX2_bestToLookAt 49 = .ok (.iinc 4 1, 3) := by decide +kernel
theorem dX2_bestToLookAt_52 : decode cX2_bestToLookAt 52 = .ok (.goto (-29), 3) := by decide +kernel
theorem dX2_bestToLookAt_55 : decode cX2_bestToLookAt 55 = .ok (.iload_n 2, 1) := by decide +kernel
theorem dX2_bestToLookAt_56 : decode cX2_bestToLookAt 56 = .ok (.ireturn, 1) := by decide +kernel
theorem dX3_init_0 : decode cX3_init 0 = .ok (.aload_n 0, 1) := by decide +kernel
theorem dX3_init_1 : decode cX3_init 1 = .ok (.invokespecial 3, 3) := by decide +kernel
theorem dX3_init_4 : decode cX3_init 4 = .ok (.aload_n 0, 1) := by decide +kernel
theorem dX3_init_5 : decode cX3_init 5 = .ok (.iconst 4, 1) := by decide +kernel
theorem dX3_init_6 : decode cX3_init 6 = .ok (.newarray .int, 2) := by decide +kernel
theorem dX3_init_8 : decode cX3_init 8 = .ok (.putfield 9, 3) := by decide +kernel
theorem dX3_init_11 : decode cX3_init 11 = .ok (.aload_n 0, 1) := by decide +kernel
theorem dX3_init_12 : decode cX3_init 12 = .ok (.iconst 4, 1) := by decide +kernel
theorem dX3_init_13 : decode cX3_init 13 = .ok (.newarray .int, 2) := by decide +kernel
theorem dX3_init_15 : decode cX3_init 15 = .ok (.putfield 15, 3) := by decide +kernel
theorem dX3_init_18 : decode cX3_init 18 = .ok (.aload_n 0, 1) := by decide +kernel
theorem dX3_init_19 : decode cX3_init 19 = .ok (.bipush 6, 2) := by decide +kernel
theorem dX3_init_21 : decode cX3_init 21 = .ok (.newarray .int, 2) := by decide +kernel
theorem dX3_init_23 : decode cX3_init 23 = .ok (.putfield 18, 3) := by decide +kernel
theorem dX3_init_26 : decode cX3_init 26 = .ok (.aload_n 0, 1) := by decide +kernel
theorem dX3_init_27 : decode cX3_init 27 = .ok (.bipush 6, 2) := by decide +kernel
theorem dX3_init_29 : decode cX3_init 29 = .ok (.newarray .int, 2) := by decide +kernel
theorem dX3_init_31 : decode cX3_init 31 = .ok (.putfield 21, 3) := by decide +kernel
theorem dX3_init_34 : decode cX3_init 34 = .ok (.aload_n 0, 1) := by decide +kernel
theorem dX3_init_35 : decode cX3_init 35 = .ok (.bipush 6, 2) := by decide +kernel
theorem dX3_init_37 : decode cX3_init 37 = .ok (.newarray .int, 2) := by decide +kernel
theorem dX3_init_39 : decode cX3_init 39 = .ok (.putfield 24, 3) := by decide +kernel
theorem dX3_init_42 : decode cX3_init 42 = .ok (.aload_n 0, 1) := by decide +kernel
theorem dX3_init_43 : decode cX3_init 43 = .ok (.bipush 6, 2) := by decide +kernel
theorem dX3_init_45 : decode cX3_init 45 = .ok (.newarray .int, 2) := by decide +kernel
theorem dX3_init_47 : decode cX3_init 47 = .ok (.putfield 27, 3) := by decide +kernel
theorem dX3_init_50 : decode cX3_init 50 = .ok (.aload_n 0, 1) := by decide +kernel
theorem dX3_init_51 : decode cX3_init 51 = .ok (.bipush 24, 2) := by decide +kernel
theorem dX3_init_53 : decode cX3_init 53 = .ok (.newarray .int, 2) := by decide +kernel
theorem dX3_init_55 : decode cX3_init 55 = .ok (.putfield 30, 3) := by decide +kernel
theorem dX3_init_58 : decode cX3_init 58 = .ok (.aload_n 0, 1) := by decide +kernel
theorem dX3_init_59 : decode cX3_init 59 = .ok (.bipush 24, 2) := by decide +kernel
theorem dX3_init_61 : decode cX3_init 61 = .ok (.newarray .int, 2) := by decide +kernel
theorem dX3_init_63 : decode cX3_init 63 = .ok (.putfield 33, 3) := by decide +kernel
theorem dX3_init_66 : decode cX3_init 66 = .ok (.aload_n 0, 1) := by decide +kernel
theorem dX3_init_67 : decode cX3_init 67 = .ok (.new 36, 3) := by decide +kernel
theorem dX3_init_70 : decode cX3_init 70 = .ok (.dup, 1) := by decide +kernel
theorem dX3_init_71 : decode cX3_init 71 = .ok (.invokespecial 38, 3) := by decide +kernel
theorem dX3_init_74 : decode cX3_init 74 = .ok (.putfield 39, 3) := by decide +kernel
theorem dX3_init_77 : decode cX3_init 77 = .ok (.return_, 1) := by decide +kernel
theorem dX3_clear_0 : decode cX3_clear 0 = .ok (.aload_n 0, 1) := by decide +kernel
theorem dX3_clear_1 : decode cX3_clear 1 = .ok (.iconst 0, 1) := by decide +kernel
theorem dX3_clear_2 : decode cX3_clear 2 = .ok (.putfield 43, 3) := by decide +kernel
theorem dX3_clear_5 : decode cX3_clear 5 = .ok (.aload_n 0, 1) := by decide +kernel
theorem dX3_clear_6 : decode cX3_clear 6 = .ok (.iconst 0, 1) := by decide +kernel
theorem dX3_clear_7 : decode cX3_clear 7 = .ok (.putfield 47, 3) := by decide +kernel
theorem dX3_clear_10 : decode cX3_clear 10 = .ok (.aload_n 0, 1) := by decide +kernel
theorem dX3_clear_11 : decode cX3_clear 11 = .ok (.iconst 0, 1) := by decide +kernel
theorem dX3_clear_12 : decode cX3_clear 12 = .ok (.putfield 50, 3) := by decide +kernel
theorem dX3_clear_15 : decode cX3_clear 15 = .ok (.aload_n 0, 1) := by decide +kernel
theorem dX3_clear_16 : decode cX3_clear 16 = .ok (.iconst 0, 1) := by decide +kernel
theorem dX3_clear_17 : decode cX3_clear 17 = .ok (.putfield 53, 3) := by decide +kernel
theorem dX3_clear_20 : decode cX3_clear 20 = .ok (.aload_n 0, 1) := by decide +kernel
theorem dX3_clear_21 : decode cX3_clear 21 = .ok (.iconst 0, 1) := by decide +kernel
theorem dX3_clear_22 : decode cX3_clear 22 = .ok (.putfield 56, 3) := by decide +kernel
theorem dX3_clear_25 : decode cX3_clear 25 = .ok (.aload_n 0, 1) := by decide +kernel
theorem dX3_clear_26 : decode cX3_clear 26 = .ok (.iconst 0, 1) := by decide +kernel
theorem dX3_clear_27 : decode cX3_clear 27 = .ok (.putfield 59, 3) := by decide +kernel
theorem dX3_clear_30 : decode cX3_clear 30 = .ok (.aload_n 0, 1) := by decide +kernel
theorem dX3_clear_31 : decode cX3_clear 31 = .ok (.iconst 0, 1) := by decide +kernel
theorem dX3_clear_32 : decode cX3_clear 32 = .ok (.putfield 62, 3) := by decide +kernel
theorem dX3_clear_35 : decode cX3_clear 35 = .ok (.aload_n 0, 1) := by decide +kernel
theorem dX3_clear_36 : decode cX3_clear 36 = .ok (.iconst 0, 1) := by decide +kernel
theorem dX3_clear_37 : decode cX3_clear 37 = .ok (.putfield 65, 3) := by decide +kernel
theorem dX3_clear_40 : decode cX3_clear 40 = .ok (.iconst 0, 1) := by decide +kernel
theorem dX3_clear_41 : decode cX3_clear 41 = .ok (.istore_n 1, 1) := by decide +kernel
theorem dX3_clear_42 : decode cX3_clear 42 = .ok (.iload_n 1, 1) := by decide +kernel
theorem dX3_clear_43 : decode cX3_clear 43 = .ok (.bipush 6, 2) := by decide +kernel
theorem dX3_clear_45 : decode cX3_clear 45 = .ok (.if_icmp .ge 16, 3) := by decide +kernel
theorem dX3_clear_48 : decode cX3_clear 48 = .ok (.aload_n 0, 1) := by decide +kernel
theorem dX3_clear_49 : decode cX3_clear 49 = .ok (.getfield 27, 3) := by decide +kernel
theorem dX3_clear_52 : decode cX3_clear 52 = .ok (.iload_n 1, 1) := by decide +kernel
theorem dX3_clear_53 : decode cX3_clear 53 = .ok (.iconst 0, 1) := by decide +kernel
theorem dX3_clear_54 : decode cX3_clear 54 = .ok (.iastore, 1) := by decide +kernel
theorem dX3_clear_55 : decode cX3_clear 55 = .ok (.iinc 1 1, 3) := by decide +kernel
theorem dX3_clear_58 : decode cX3_clear 58 = .ok (.goto (-16), 3) := by decide +kernel
theorem dX3_clear_61 : decode cX3_clear 61 = .ok (.aload_n 0, 1) := by decide +kernel
theorem dX3_clear_62 : decode cX3_clear 62 = .ok (.getfield 39, 3) := by decide +kernel
theorem dX3_clear_65 : decode cX3_clear 65 = .ok (.invokevirtual 68, 3) := by decide +kernel
theorem dX3_clear_68 : decode cX3_clear 68 = .ok (.return_, 1) := by decide +kernel
theorem dX3_addGate_0 : decode cX3_addGate 0 = .ok (.aload_n 0, 1) := by decide +kernel
theorem dX3_addGate_1 : decode cX3_addGate 1 = .ok (.getfield 56, 3) := by decide +kernel
theorem dX3_addGate_4 : decode cX3_addGate 4 = .ok (.istore 5, 2) := by decide +kernel
theorem dX3_addGate_6 : decode cX3_addGate 6 = .ok (.aload_n 0, 1) := by decide +kernel
theorem dX3_addGate_7 : decode cX3_addGate 7 = .ok (.getfield 18, 3) := by decide +kernel
theorem dX3_addGate_10 : decode cX3_addGate 10 = .ok (.iload 5, 2) := by decide +kernel
theorem dX3_addGate_12 : decode cX3_addGate 12 = .ok (.iload_n 1, 1) := by decide +kernel
theorem dX3_addGate_13 : decode cX3_addGate 13 = .ok (.invokestatic 71, 3) := by decide +kernel
theorem dX3_addGate_16 : decode cX3_addGate 16 = .ok (.aload_n 0, 1) := by decide +kernel
theorem dX3_addGate_17 : decode cX3_addGate 17 = .ok (.getfield 21, 3) := by decide +kernel
theorem dX3_addGate_20 : decode cX3_addGate 20 = .ok (.iload 5, 2) := by decide +kernel
theorem dX3_addGate_22 : decode cX3_addGate 22 = .ok (.iload_n 2, 1) := by decide +kernel
theorem dX3_addGate_23 : decode cX3_addGate 23 = .ok (.invokestatic 71, 3) := by decide +kernel
theorem dX3_addGate_26 : decode cX3_addGate 26 = .ok (.aload_n 0, 1) := by decide +kernel
theorem dX3_addGate_27 : decode cX3_addGate 27 = .ok (.getfield 24, 3) := by decide +kernel
theorem dX3_addGate_30 : decode cX3_addGate 30 = .ok (.iload 5, 2) := by decide +kernel
theorem dX3_addGate_32 : decode cX3_addGate 32 = .ok (.iload_n 3, 1) := by decide +kernel
theorem dX3_addGate_33 : decode cX3_addGate 33 = .ok (.invokestatic 71, 3) := by decide +kernel
theorem dX3_addGate_36 : decode cX3_addGate 36 = .ok (.aload_n 0, 1) := by decide +kernel
theorem dX3_addGate_37 : decode cX3_addGate 37 = .ok (.aload_n 0, 1) := by decide +kernel
theorem dX3_addGate_38 : decode cX3_addGate 38 = .ok (.getfield 62, 3) := by decide +kernel
theorem dX3_addGate_41 : decode cX3_addGate 41 = .ok (.iload 5, 2) := by decide +kernel
theorem dX3_addGate_43 : decode cX3_addGate 43 = .ok (.iload 4, 2) := by decide +kernel
theorem dX3_addGate_45 : decode cX3_addGate 45 = .ok (.invokestatic 75, 3) := by decide +kernel
theorem dX3_addGate_48 : decode cX3_addGate 48 = .ok (.putfield 62, 3) := by decide +kernel
theorem dX3_addGate_51 : decode cX3_addGate 51 = .ok (.iload_n 1, 1) := by decide +kernel
theorem dX3_addGate_52 : decode cX3_addGate 52 = .ok (.iconst 2, 1) := by decide +kernel
theorem dX3_addGate_53 : decode cX3_addGate 53 = .ok (.if_icmp .ne 17, 3) := by decide +kernel
theorem dX3_addGate_56 : decode cX3_addGate 56 = .ok (.aload_n 0, 1) := by decide +kernel
theorem dX3_addGate_57 : decode cX3_addGate 57 = .ok (.dup, 1) := by decide +kernel
theorem dX3_addGate_58 : decode cX3_addGate 58 = .ok (.getfield 65, 3) := by decide +kernel
theorem dX3_addGate_61 : decode cX3_addGate 61 = .ok (.iload 5, 2) := by decide +kernel
theorem dX3_addGate_63 : decode cX3_addGate 63 = .ok (.invokestatic 81, 3) := by decide +kernel
theorem dX3_addGate_66 : decode cX3_addGate 66 = .ok (.ior, 1) := by decide +kernel
theorem dX3_addGate_67 : decode cX3_addGate 67 = .ok (.putfield 65, 3) := by decide +kernel
theorem dX3_addGate_70 : decode cX3_addGate 70 = .ok (.iconst 0, 1) := by decide +kernel
theorem dX3_addGate_71 : decode cX3_addGate 71 = .ok (.istore 6, 2) := by decide +kernel
theorem dX3_addGate_73 : decode cX3_addGate 73 = .ok (.iload 6, 2) := by decide +kernel
theorem dX3_addGate_75 : decode cX3_addGate 75 = .ok (.iconst 2, 1) := by decide +kernel
theorem dX3_addGate_76 : decode cX3_addGate 76 = .ok (.if_icmp .gt 17, 3) := by decide +kernel
theorem dX3_addGate_79 : decode cX3_addGate 79 = .ok (.aload_n 0, 1) := by decide +kernel
theorem dX3_addGate_80 : decode cX3_addGate 80 = .ok (.iload 5, 2) := by decide +kernel
theorem dX3_addGate_82 : decode cX3_addGate 82 = .ok (.iload 6, 2) := by decide +kernel
theorem dX3_addGate_84 : decode cX3_addGate 84 = .ok (.invokevirtual 85, 3) := by decide +kernel
theorem dX3_addGate_87 : decode cX3_addGate 87 = .ok (.iinc 6 1, 3) := by decide +kernel
theorem dX3_addGate_90 : decode cX3_addGate 90 = .ok (.goto (-17), 3) := by decide +kernel
theorem dX3_addGate_93 : decode cX3_addGate 93 = .ok (.aload_n 0, 1) := by decide +kernel
theorem dX3_addGate_94 : decode cX3_addGate 94 = .ok (.dup, 1) := by decide +kernel
theorem dX3_addGate_95 : decode cX3_addGate 95 = .ok (.getfield 56, 3) := by decide +kernel
theorem dX3_addGate_98 : decode cX3_addGate 98 = .ok (.iconst 1, 1) := by decide +kernel
theorem dX3_addGate_99 : decode cX3_addGate 99 = .ok (.iadd, 1) := by decide +kernel
theorem dX3_addGate_100 : decode cX3_addGate 100 = .ok (.putfield 56, 3) := by decide +kernel
theorem dX3_addGate_103 : decode cX3_addGate 103 = .ok (.return_, 1) := by decide +kernel
theorem dX3_reckonOwners_0 : decode cX3_reckonOwners 0 = .ok (.aload_n 0, 1) := by decide +kernel
theorem dX3_reckonOwners_1 : decode cX3_reckonOwners 1 = .ok (.getfield 21, 3) := by decide +kernel
theorem dX3_reckonOwners_4 : decode cX3_reckonOwners 4 = .ok (.iload_n 1, 1) := by decide +kernel
theorem dX3_reckonOwners_5 : decode cX3_reckonOwners 5 = .ok (.invokestatic 89, 3) := by decide +kernel
theorem dX3_reckonOwners_8 : decode cX3_reckonOwners 8 = .ok (.istore_n 3, 1) := by decide +kernel
theorem dX3_reckonOwners_9 : decode cX3_reckonOwners 9 = .ok (.aload_n 0, 1) := by decide +kernel
theorem dX3_reckonOwners_10 : decode cX3_reckonOwners 10 = .ok (.getfield 18, 3) := by decide +kernel
theorem dX3_reckonOwners_13 : decode cX3_reckonOwners 13 = .ok (.iload_n 1, 1) := by decide +kernel
theorem dX3_reckonOwners_14 : decode cX3_reckonOwners 14 = .ok (.invokestatic 89, 3) := by decide +kernel
theorem dX3_reckonOwners_17 : decode cX3_reckonOwners 17 = .ok (.iconst 1, 1) := by decide +kernel
theorem dX3_reckonOwners_18 : decode cX3_reckonOwners 18 = .ok (.if_icmp .ne 11, 3) := by decide +kernel
theorem dX3_reckonOwners_21 : decode cX3_reckonOwners 21 = .ok (.iload_n 2, 1) := by decide +kernel
theorem dX3_reckonOwners_22 : decode cX3_reckonOwners 22 = .ok (.iconst 1, 1) := by decide +kernel
theorem dX3_reckonOwners_23 : decode cX3_reckonOwners 23 = .ok (.iadd, 1) := by decide +kernel
theorem dX3_reckonOwners_24 : decode cX3_reckonOwners 24 = .ok (.iconst 3, 1) := by decide +kernel
theorem dX3_reckonOwners_25 : decode cX3_reckonOwners 25 = .ok (.irem, 1) := by decide +kernel
theorem dX3_reckonOwners_26 : decode cX3_reckonOwners 26 = .ok (.goto 4, 3) := by decide +kernel
theorem dX3_reckonOwners_29 : decode cX3_reckonOwners 29 = .ok (.iload_n 2, 1) := by decide +kernel
theorem dX3_reckonOwners_30 : decode cX3_reckonOwners 30 = .ok (.istore 4, 2) := by decide +kernel
theorem dX3_reckonOwners_32 : decode cX3_reckonOwners 32 = .ok (.iconst 0, 1) := by decide +kernel
theorem dX3_reckonOwners_33 : decode cX3_reckonOwners 33 = .ok (.istore 5, 2) := by decide +kernel
theorem dX3_reckonOwners_35 : decode cX3_reckonOwners 35 = .ok (.iload 4, 2) := by decide +kernel
theorem dX3_reckonOwners_37 : decode cX3_reckonOwners 37 = .ok (.iconst 1, 1) := by decide +kernel
theorem dX3_reckonOwners_38 : decode cX3_reckonOwners 38 = .ok (.if_icmp .ne 18, 3) := by decide +kernel
theorem dX3_reckonOwners_41 : decode cX3_reckonOwners 41 = .ok (.iconst 1, 1) := by decide +kernel
theorem dX3_reckonOwners_42 : decode cX3_reckonOwners 42 = .ok (.aload_n 0, 1) := by decide +kernel
theorem dX3_reckonOwners_43 : decode cX3_reckonOwners 43 = .ok (.getfield 9, 3) := by decide +kernel
theorem dX3_reckonOwners_46 : decode cX3_reckonOwners 46 = .ok (.iload_n 3, 1) := by decide +kernel
theorem dX3_reckonOwners_47 : decode cX3_reckonOwners 47 = .ok (.invokestatic 89, 3) := by decide +kernel
theorem dX3_reckonOwners_50 : decode cX3_reckonOwners 50 = .ok (.ishl, 1) := by decide +kernel
theorem dX3_reckonOwners_51 : decode cX3_reckonOwners 51 = .ok (.istore 5, 2) := by decide +kernel
theorem dX3_reckonOwners_53 : decode cX3_reckonOwners 53 = .ok (.goto 19, 3) := by decide +kernel
theorem dX3_reckonOwners_56 : decode cX3_reckonOwners 56 = .ok (.iload 4, 2) := by decide +kernel
theorem dX3_reckonOwners_58 : decode cX3_reckonOwners 58 = .ok (.iconst 2, 1) := by decide +kernel
theorem dX3_reckonOwners_59 : decode cX3_reckonOwners 59 = .ok (.if_icmp .ne 13, 3) := by decide +kernel
theorem dX3_reckonOwners_62 : decode cX3_reckonOwners 62 = .ok (.aload_n 0, 1) := by decide +kernel
theorem dX3_reckonOwners_63 : decode cX3_reckonOwners 63 = .ok (.getfield 15, 3) := by decide +kernel
theorem dX3_reckonOwners_66 : decode cX3_reckonOwners 66 = .ok (.iload_n 3, 1) := by decide +kernel
theorem dX3_reckonOwners_67 : decode cX3_reckonOwners 67 = .ok (.invokestatic 89, 3) := by decide +kernel
theorem dX3_reckonOwners_70 : decode cX3_reckonOwners 70 = .ok (.istore 5, 2) := by decide +kernel
theorem dX3_reckonOwners_72 : decode cX3_reckonOwners 72 = .ok (.iload 5, 2) := by decide +kernel
theorem dX3_reckonOwners_74 : decode cX3_reckonOwners 74 = .ok (.invokestatic 93, 3) := by decide +kernel
theorem dX3_reckonOwners_77 : decode cX3_reckonOwners 77 = .ok (.istore 6, 2) := by decide +kernel
theorem dX3_reckonOwners_79 : decode cX3_reckonOwners 79 = .ok (.aload_n 0, 1) := by decide +kernel
theorem dX3_reckonOwners_80 : decode cX3_reckonOwners 80 = .ok (.getfield 30, 3) := by decide +kernel
theorem dX3_reckonOwners_83 : decode cX3_reckonOwners 83 = .ok (.iconst 4, 1) := by decide +kernel
theorem dX3_reckonOwners_84 : decode cX3_reckonOwners 84 = .ok (.iload_n 1, 1) := by decide +kernel
theorem dX3_reckonOwners_85 : decode cX3_reckonOwners 85 = .ok (.imul, 1) := by decide +kernel
theorem dX3_reckonOwners_86 : decode cX3_reckonOwners 86 = .ok (.iload_n 2, 1) := by decide +kernel
theorem dX3_reckonOwners_87 : decode cX3_reckonOwners 87 = .ok (.iadd, 1) := by decide +kernel
theorem dX3_reckonOwners_88 : decode cX3_reckonOwners 88 = .ok (.iload 5, 2) := by decide +kernel
theorem dX3_reckonOwners_90 : decode cX3_reckonOwners 90 = .ok (.invokestatic 71, 3) := by decide +kernel
theorem dX3_reckonOwners_93 : decode cX3_reckonOwners 93 = .ok (.aload_n 0, 1) := by decide +kernel
theorem dX3_reckonOwners_94 : decode cX3_reckonOwners 94 = .ok (.getfield 33, 3) := by decide +kernel
theorem dX3_reckonOwners_97 : decode cX3_reckonOwners 97 = .ok (.iconst 4, 1) := by decide +kernel
theorem dX3_reckonOwners_98 : decode cX3_reckonOwners 98 = .ok (.iload_n 1, 1) := by decide +kernel
theorem dX3_reckonOwners_99 : decode cX3_reckonOwners 99 = .ok (.imul, 1) := by decide +kernel
theorem dX3_reckonOwners_100 : decode cX3_reckonOwners 100 = .ok (.iload_n 2, 1) := by decide +kernel
theorem dX3_reckonOwners_101 : decode cX3_reckonOwners 101 = .ok (.iadd, 1) := by decide +kernel
theorem dX3_reckonOwners_102 : decode cX3_reckonOwners 102 = .ok (.iload 6, 2) := by decide +kernel
theorem dX3_reckonOwners_104 : decode cX3_reckonOwners 104 = .ok (.ifCond .le 17, 3) := by decide +kernel
theorem dX3_reckonOwners_107 : decode cX3_reckonOwners 107 = .ok (.aload_n 0, 1) := by decide +kernel
theorem dX3_reckonOwners_108 : decode cX3_reckonOwners 108 = .ok (.getfield 24, 3) := by decide +kernel
theorem dX3_reckonOwners_111 : decode cX3_reckonOwners 111 = .ok (.iload_n 1, 1) := by decide +kernel
theorem dX3_reckonOwners_112 : decode cX3_reckonOwners 112 = .ok (.invokestatic 89, 3) := by decide +kernel
theorem dX3_reckonOwners_115 : decode cX3_reckonOwners 115 = .ok (.iload 6, 2) := by decide +kernel
theorem dX3_reckonOwners_117 : decode cX3_reckonOwners 117 = .ok (.idiv, 1) := by decide +kernel
theorem dX3_reckonOwners_118 : decode cX3_reckonOwners 118 = .ok (.goto 4, 3) := by decide +kernel
theorem dX3_reckonOwners_121 : decode cX3_reckonOwners 121 = .ok (.iconst 0, 1) := by decide +kernel
theorem dX3_reckonOwners_122 : decode cX3_reckonOwners 122 = .ok (.invokestatic 71, 3) := by decide +kernel
theorem dX3_reckonOwners_125 : decode cX3_reckonOwners 125 = .ok (.return_, 1) := by decide +kernel
theorem dX3_addPath_0 : decode cX3_addPath 0 = .ok (.aload_n 0, 1) := by decide +kernel
theorem dX3_addPath_1 : decode cX3_addPath 1 = .ok (.getfield 27, 3) := by decide +kernel
theorem dX3_addPath_4 : decode cX3_addPath 4 = .ok (.iload_n 1, 1) := by decide +kernel
theorem dX3_addPath_5 : decode cX3_addPath 5 = .ok (.aload_n 0, 1) := by decide +kernel
theorem dX3_addPath_6 : decode cX3_addPath 6 = .ok (.getfield 27, 3) := by decide +kernel
theorem dX3_addPath_9 : decode cX3_addPath 9 = .ok (.iload_n 1, 1) := by decide +kernel
theorem dX3_addPath_10 : decode cX3_addPath 10 = .ok (.invokestatic 89, 3) := by decide +kernel
theorem dX3_addPath_13 : decode cX3_addPath 13 = .ok (.iconst 1, 1) := by decide +kernel
theorem dX3_addPath_14 : decode cX3_addPath 14 = .ok (.iload_n 2, 1) := by decide +kernel
theorem dX3_addPath_15 : decode cX3_addPath 15 = .ok (.ishl, 1) := by decide +kernel
theorem dX3_addPath_16 : decode cX3_addPath 16 = .ok (.ior, 1) := by decide +kernel
theorem dX3_addPath_17 : decode cX3_addPath 17 = .ok (.invokestatic 71, 3) := by decide +kernel
theorem dX3_addPath_20 : decode cX3_addPath 20 = .ok (.aload_n 0, 1) := by decide +kernel
theorem dX3_addPath_21 : decode cX3_addPath 21 = .ok (.getfield 27, 3) := by decide +kernel
theorem dX3_addPath_24 : decode cX3_addPath 24 = .ok (.iload_n 2, 1) := by decide +kernel
theorem dX3_addPath_25 : decode cX3_addPath 25 = .ok (.aload_n 0, 1) := by decide +kernel
theorem dX3_addPath_26 : decode cX3_addPath 26 = .ok (.getfield 27, 3) := by decide +kernel
theorem dX3_addPath_29 : decode cX3_addPath 29 = .ok (.iload_n 2, 1) := by decide +kernel
theorem dX3_addPath_30 : decode cX3_addPath 30 = .ok (.invokestatic 89, 3) := by decide +kernel
theorem dX3_addPath_33 : decode cX3_addPath 33 = .ok (.iconst 1, 1) := by decide +kernel
theorem dX3_addPath_34 : decode cX3_addPath 34 = .ok (.iload_n 1, 1) := by decide +kernel
theorem dX3_addPath_35 : decode cX3_addPath 35 = .ok (.ishl, 1) := by decide +kernel
theorem dX3_addPath_36 : decode cX3_addPath 36 = .ok (.ior, 1) := by decide +kernel
theorem dX3_addPath_37 : decode cX3_addPath 37 = .ok (.invokestatic 71, 3) := by decide +kernel
theorem dX3_addPath_40 : decode cX3_addPath 40 = .ok (.aload_n 0, 1) := by decide +kernel
theorem dX3_addPath_41 : decode cX3_addPath 41 = .ok (.dup, 1) := by decide +kernel
theorem dX3_addPath_42 : decode cX3_addPath 42 = .ok (.getfield 59, 3) := by decide +kernel
theorem dX3_addPath_45 : decode cX3_addPath 45 = .ok (.iconst 1, 1) := by decide +kernel
theorem dX3_addPath_46 : decode cX3_addPath 46 = .ok (.iadd, 1) := by decide +kernel
theorem dX3_addPath_47 : decode cX3_addPath 47 = .ok (.putfield 59, 3) := by decide +kernel
theorem dX3_addPath_50 : decode cX3_addPath 50 = .ok (.return_, 1) := by decide +kernel
theorem dX3_ownersIn_0 : decode cX3_ownersIn 0 = .ok (.aload_n 0, 1) := by decide +kernel
theorem dX3_ownersIn_1 : decode cX3_ownersIn 1 = .ok (.getfield 30, 3) := by decide +kernel
theorem dX3_ownersIn_4 : decode cX3_ownersIn 4 = .ok (.iconst 4, 1) := by decide +kernel
theorem dX3_ownersIn_5 : decode cX3_ownersIn 5 = .ok (.iload_n 2, 1) := by decide +kernel
theorem dX3_ownersIn_6 : decode cX3_ownersIn 6 = .ok (.imul, 1) := by decide +kernel
theorem dX3_ownersIn_7 : decode cX3_ownersIn 7 = .ok (.iload_n 1, 1) := by decide +kernel
theorem dX3_ownersIn_8 : decode cX3_ownersIn 8 = .ok (.iload_n 2, 1) := by decide +kernel
theorem dX3_ownersIn_9 : decode cX3_ownersIn 9 = .ok (.invokestatic 98, 3) := by decide +kernel
theorem dX3_ownersIn_12 : decode cX3_ownersIn 12 = .ok (.iadd, 1) := by decide +kernel
theorem dX3_ownersIn_13 : decode cX3_ownersIn 13 = .ok (.invokestatic 89, 3) := by decide +kernel
theorem dX3_ownersIn_16 : decode cX3_ownersIn 16 = .ok (.ireturn, 1) := by decide +kernel
theorem dX3_portionIn_0 : decode cX3_portionIn 0 = .ok (.aload_n 0, 1) := by decide +kernel
theorem dX3_portionIn_1 : decode cX3_portionIn 1 = .ok (.getfield 33, 3) := by decide +kernel
theorem dX3_portionIn_4 : decode cX3_portionIn 4 = .ok (.iconst 4, 1) := by decide +kernel
theorem dX3_portionIn_5 : decode cX3_portionIn 5 = .ok (.iload_n 2, 1) := by decide +kernel
theorem dX3_portionIn_6 : decode cX3_portionIn 6 = .ok (.imul, 1) := by decide +kernel
theorem dX3_portionIn_7 : decode cX3_portionIn 7 = .ok (.iload_n 1, 1) := by decide +kernel
theorem dX3_portionIn_8 : decode cX3_portionIn 8 = .ok (.iload_n 2, 1) := by decide +kernel
theorem dX3_portionIn_9 : decode cX3_portionIn 9 = .ok (.invokestatic 98, 3) := by decide +kernel
theorem dX3_portionIn_12 : decode cX3_portionIn 12 = .ok (.iadd, 1) := by decide +kernel
theorem dX3_portionIn_13 : decode cX3_portionIn 13 = .ok (.invokestatic 89, 3) := by decide +kernel
theorem dX3_portionIn_16 : decode cX3_portionIn 16 = .ok (.ireturn, 1) := by decide +kernel
theorem dX3_shareIn_0 : decode cX3_shareIn 0 = .ok (.iconst 4, 1) := by decide +kernel
theorem dX3_shareIn_1 : decode cX3_shareIn 1 = .ok (.iload_n 2, 1) := by decide +kernel
theorem dX3_shareIn_2 : decode cX3_shareIn 2 = .ok (.imul, 1) := by decide +kernel
theorem dX3_shareIn_3 : decode cX3_shareIn 3 = .ok (.iload_n 1, 1) := by decide +kernel
theorem dX3_shareIn_4 : decode cX3_shareIn 4 = .ok (.iload_n 2, 1) := by decide +kernel
theorem dX3_shareIn_5 : decode cX3_shareIn 5 = .ok (.invokestatic 98, 3) := by decide +kernel
theorem dX3_shareIn_8 : decode cX3_shareIn 8 = .ok (.iadd, 1) := by decide +kernel
theorem dX3_shareIn_9 : decode cX3_shareIn 9 = .ok (.istore 4, 2) := by decide +kernel
theorem dX3_shareIn_11 : decode cX3_shareIn 11 = .ok (.aload_n 0, 1) := by decide +kernel
theorem dX3_shareIn_12 : decode cX3_shareIn 12 = .ok (.getfield 30, 3) := by decide +kernel
theorem dX3_shareIn_15 : decode cX3_shareIn 15 = .ok (.iload 4, 2) := by decide +kernel
theorem dX3_shareIn_17 : decode cX3_shareIn 17 = .ok (.invokestatic 89, 3) := by decide +kernel
theorem dX3_shareIn_20 : decode cX3_shareIn 20 = .ok (.iload_n 3, 1) := by decide +kernel
theorem dX3_shareIn_21 : decode cX3_shareIn 21 = .ok (.invokestatic 102, 3) := by decide +kernel
theorem dX3_shareIn_24 : decode cX3_shareIn 24 = .ok (.ifCond .eq 15, 3) := by decide +kernel
theorem dX3_shareIn_27 : decode cX3_shareIn 27 = .ok (.aload_n 0, 1) := by decide +kernel
theorem dX3_shareIn_28 : decode cX3_shareIn 28 = .ok (.getfield 33, 3) := by decide +kernel
theorem dX3_shareIn_31 : decode cX3_shareIn 31 = .ok (.iload 4, 2) := by decide +kernel
theorem dX3_shareIn_33 : decode cX3_shareIn 33 = .ok (.invokestatic 89, 3) := by decide +kernel
theorem dX3_shareIn_36 : decode cX3_shareIn 36 = .ok (.goto 4, 3) := by decide +kernel
theorem dX3_shareIn_39 : decode cX3_shareIn 39 = .ok (.iconst 0, 1) := by decide +kernel
theorem dX3_shareIn_40 : decode cX3_shareIn 40 = .ok (.ireturn, 1) := by decide +kernel
theorem dX3_wealth_0 : decode cX3_wealth 0 = .ok (.iconst 0, 1) := by decide +kernel
theorem dX3_wealth_1 : decode cX3_wealth 1 = .ok (.istore_n 3, 1) := by decide +kernel
theorem dX3_wealth_2 : decode cX3_wealth 2 = .ok (.iconst 0, 1) := by decide +kernel
theorem dX3_wealth_3 : decode cX3_wealth 3 = .ok (.istore 4, 2) := by decide +kernel
theorem dX3_wealth_5 : decode cX3_wealth 5 = .ok (.iload 4, 2) := by decide +kernel
theorem dX3_wealth_7 : decode cX3_wealth 7 = .ok (.aload_n 0, 1) := by decide +kernel
theorem dX3_wealth_8 : decode cX3_wealth 8 = .ok (.getfield 56, 3) := by decide +kernel
theorem dX3_wealth_11 : decode cX3_wealth 11 = .ok (.if_icmp .ge 20, 3) := by decide +kernel
theorem dX3_wealth_14 : decode cX3_wealth 14 = .ok (.iload_n 3, 1) := by decide +kernel
theorem dX3_wealth_15 : decode cX3_wealth 15 = .ok (.aload_n 0, 1) := by decide +kernel
theorem dX3_wealth_16 : decode cX3_wealth 16 = .ok (.iload_n 2, 1) := by decide +kernel
theorem dX3_wealth_17 : decode cX3_wealth 17 = .ok (.iload 4, 2) := by decide +kernel
theorem dX3_wealth_19 : decode cX3_wealth 19 = .ok (.iload_n 1, 1) := by decide +kernel
theorem dX3_wealth_20 : decode cX3_wealth 20 = .ok (.invokevirtual 106, 3) := by decide +kernel
theorem dX3_wealth_23 : decode cX3_wealth 23 = .ok (.iadd, 1) := by decide +kernel
theorem dX3_wealth_24 : decode cX3_wealth 24 = .ok (.istore_n 3, 1) := by decide +kernel
theorem dX3_wealth_25 : decode cX3_wealth 25 = .ok (.iinc 4 1, 3) := by decide +kernel
theorem dX3_wealth_28 : decode cX3_wealth 28 = .ok (.goto (-23), 3) := by decide +kernel
theorem dX3_wealth_31 : decode cX3_wealth 31 = .ok (.iload_n 3, 1) := by decide +kernel
theorem dX3_wealth_32 : decode cX3_wealth 32 = .ok (.ireturn, 1) := by decide +kernel
theorem dX3_wealthOfSet_0 : decode cX3_wealthOfSet 0 = .ok (.iconst 0, 1) := by decide +kernel
theorem dX3_wealthOfSet_1 : decode cX3_wealthOfSet 1 = .ok (.istore_n 3, 1) := by decide +kernel
theorem dX3_wealthOfSet_2 : decode cX3_wealthOfSet 2 = .ok (.iconst 0, 1) := by decide +kernel
theorem dX3_wealthOfSet_3 : decode cX3_wealthOfSet 3 = .ok (.istore 4, 2) := by decide +kernel
theorem dX3_wealthOfSet_5 : decode cX3_wealthOfSet 5 = .ok (.iload 4, 2) := by decide +kernel
theorem dX3_wealthOfSet_7 : decode cX3_wealthOfSet 7 = .ok (.aload_n 0, 1) := by decide +kernel
theorem dX3_wealthOfSet_8 : decode cX3_wealthOfSet 8 = .ok (.getfield 50, 3) := by decide +kernel
theorem dX3_wealthOfSet_11 : decode cX3_wealthOfSet 11 = .ok (.if_icmp .ge 28, 3) := by decide +kernel
theorem dX3_wealthOfSet_14 : decode cX3_wealthOfSet 14 = .ok (.iload_n 1, 1) := by decide +kernel
theorem dX3_wealthOfSet_15 : decode cX3_wealthOfSet 15 = .ok (.iload 4, 2) := by decide +kernel
theorem dX3_wealthOfSet_17 : decode cX3_wealthOfSet 17 = .ok (.invokestatic 102, 3) := by decide +kernel
theorem dX3_wealthOfSet_20 : decode cX3_wealthOfSet 20 = .ok (.ifCond .eq 13, 3) := by decide +kernel
theorem dX3_wealthOfSet_23 : decode cX3_wealthOfSet 23 = .ok (.iload_n 3, 1) := by decide +kernel
theorem dX3_wealthOfSet_24 : decode cX3_wealthOfSet 24 = .ok (.aload_n 0, 1) := by decide +kernel
theorem dX3_wealthOfSet_25 : decode cX3_wealthOfSet 25 = .ok (.iload 4, 2) := by decide +kernel
theorem dX3_wealthOfSet_27 : decode cX3_wealthOfSet 27 = .ok (.iload_n 2, 1) := by decide +kernel
theorem dX3_wealthOfSet_28 : decode cX3_wealthOfSet 28 = .ok (.invokevirtual 109, 3) := by decide +kernel
theorem dX3_wealthOfSet_31 : decode cX3_wealthOfSet 31 = .ok (.iadd, 1) := by decide +kernel
theorem dX3_wealthOfSet_32 : decode cX3_wealthOfSet 32 = .ok (.istore_n 3, 1) := by decide +kernel
theorem dX3_wealthOfSet_33 : decode cX3_wealthOfSet 33 = .ok (.iinc 4 1, 3) := by decide +kernel
theorem dX3_wealthOfSet_36 : decode cX3_wealthOfSet 36 = .ok (.goto (-31), 3) := by decide +kernel
theorem dX3_wealthOfSet_39 : decode cX3_wealthOfSet 39 = .ok (.iload_n 3, 1) := by decide +kernel
theorem dX3_wealthOfSet_40 : decode cX3_wealthOfSet 40 = .ok (.ireturn, 1) := by decide +kernel
theorem dX3_wealthAt_0 : decode cX3_wealthAt 0 = .ok (.iconst 0, 1) := by decide +kernel
theorem dX3_wealthAt_1 : decode cX3_wealthAt 1 = .ok (.istore 4, 2) := by decide +kernel
theorem dX3_wealthAt_3 : decode cX3_wealthAt 3 = .ok (.iconst 0, 1) := by decide +kernel
theorem dX3_wealthAt_4 : decode cX3_wealthAt 4 = .ok (.istore 5, 2) := by decide +kernel
theorem dX3_wealthAt_6 : decode cX3_wealthAt 6 = .ok (.iload 5, 2) := by decide +kernel
theorem dX3_wealthAt_8 : decode cX3_wealthAt 8 = .ok (.aload_n 0, 1) := by decide +kernel
theorem dX3_wealthAt_9 : decode cX3_wealthAt 9 = .ok (.getfield 56, 3) := by decide +kernel
theorem dX3_wealthAt_12 : decode cX3_wealthAt 12 = .ok (.if_icmp .ge 31, 3) := by decide +kernel
theorem dX3_wealthAt_15 : decode cX3_wealthAt 15 = .ok (.iload_n 3, 1) := by decide +kernel
theorem dX3_wealthAt_16 : decode cX3_wealthAt 16 = .ok (.iload 5, 2) := by decide +kernel
theorem dX3_wealthAt_18 : decode cX3_wealthAt 18 = .ok (.invokestatic 102, 3) := by decide +kernel
theorem dX3_wealthAt_21 : decode cX3_wealthAt 21 = .ok (.ifCond .eq 16, 3) := by decide +kernel
theorem dX3_wealthAt_24 : decode cX3_wealthAt 24 = .ok (.iload 4, 2) := by decide +kernel
theorem dX3_wealthAt_26 : decode cX3_wealthAt 26 = .ok (.aload_n 0, 1) := by decide +kernel
theorem dX3_wealthAt_27 : decode cX3_wealthAt 27 = .ok (.iload_n 2, 1) := by decide +kernel
theorem dX3_wealthAt_28 : decode cX3_wealthAt 28 = .ok (.iload 5, 2) := by decide +kernel
theorem dX3_wealthAt_30 : decode cX3_wealthAt 30 = .ok (.iload_n 1, 1) := by decide +kernel
theorem dX3_wealthAt_31 : decode cX3_wealthAt 31 = .ok (.invokevirtual 106, 3) := by decide +kernel
theorem dX3_wealthAt_34 : decode cX3_wealthAt 34 = .ok (.iadd, 1) := by decide +kernel
theorem dX3_wealthAt_35 : decode cX3_wealthAt 35 = .ok (.istore 4, 2) := by decide +kernel
theorem dX3_wealthAt_37 : decode cX3_wealthAt 37 = .ok (.iinc 5 1, 3) := by decide +kernel
theorem dX3_wealthAt_40 : decode cX3_wealthAt 40 = .ok (.goto (-34), 3) := by decide +kernel
theorem dX3_wealthAt_43 : decode cX3_wealthAt 43 = .ok (.iload 4, 2) := by decide +kernel
theorem dX3_wealthAt_45 : decode cX3_wealthAt 45 = .ok (.ireturn, 1) := by decide +kernel
theorem dX3_wealthOfFirm_0 : decode cX3_wealthOfFirm 0 = .ok (.iconst 0, 1) := by decide +kernel
theorem dX3_wealthOfFirm_1 : decode cX3_wealthOfFirm 1 = .ok (.istore_n 3, 1) := by decide +kernel
theorem dX3_wealthOfFirm_2 : decode cX3_wealthOfFirm 2 = .ok (.iconst 0, 1) := by decide +kernel
theorem dX3_wealthOfFirm_3 : decode cX3_wealthOfFirm 3 = .ok (.istore 4, 2) := by decide +kernel
theorem dX3_wealthOfFirm_5 : decode cX3_wealthOfFirm 5 = .ok (.iload 4, 2) := by decide +kernel
theorem dX3_wealthOfFirm_7 : decode cX3_wealthOfFirm 7 = .ok (.aload_n 0, 1) := by decide +kernel
theorem dX3_wealthOfFirm_8 : decode cX3_wealthOfFirm 8 = .ok (.getfield 56, 3) := by decide +kernel
theorem dX3_wealthOfFirm_11 : decode cX3_wealthOfFirm 11 = .ok (.if_icmp .ge 43, 3) := by decide +kernel
theorem dX3_wealthOfFirm_14 : decode cX3_wealthOfFirm 14 = .ok (.aload_n 0, 1) := by decide +kernel
theorem dX3_wealthOfFirm_15 : decode cX3_wealthOfFirm 15 = .ok (.getfield 21, 3) := by decide +kernel
theorem dX3_wealthOfFirm_18 : decode cX3_wealthOfFirm 18 = .ok (.iload 4, 2) := by decide +kernel
theorem dX3_wealthOfFirm_20 : decode cX3_wealthOfFirm 20 = .ok (.invokestatic 89, 3) := by decide +kernel
theorem dX3_wealthOfFirm_23 : decode cX3_wealthOfFirm 23 = .ok (.iload_n 1, 1) := by decide +kernel
theorem dX3_wealthOfFirm_24 : decode cX3_wealthOfFirm 24 = .ok (.if_icmp .ne 24, 3) := by decide +kernel
theorem dX3_wealthOfFirm_27 : decode cX3_wealthOfFirm 27 = .ok (.iload_n 3, 1) := by decide +kernel
theorem dX3_wealthOfFirm_28 : decode cX3_wealthOfFirm 28 = .ok (.aload_n 0, 1) := by decide +kernel
theorem dX3_wealthOfFirm_29 : decode cX3_wealthOfFirm 29 = .ok (.iload_n 2, 1) := by decide +kernel
theorem dX3_wealthOfFirm_30 : decode cX3_wealthOfFirm 30 = .ok (.iload 4, 2) := by decide +kernel
theorem dX3_wealthOfFirm_32 : decode cX3_wealthOfFirm 32 = .ok (.invokevirtual 112, 3) := by decide +kernel
theorem dX3_wealthOfFirm_35 : decode cX3_wealthOfFirm 35 = .ok (.invokestatic 93, 3) := by decide +kernel
theorem dX3_wealthOfFirm_38 : decode cX3_wealthOfFirm 38 = .ok (.aload_n 0, 1) := by decide +kernel
theorem dX3_wealthOfFirm_39 : decode cX3_wealthOfFirm 39 = .ok (.iload_n 2, 1) := by decide +kernel
theorem dX3_wealthOfFirm_40 : decode cX3_wealthOfFirm 40 = .ok (.iload 4, 2) := by decide +kernel
theorem dX3_wealthOfFirm_42 : decode cX3_wealthOfFirm 42 = .ok (.invokevirtual 115, 3) := by decide +kernel
theorem dX3_wealthOfFirm_45 : decode cX3_wealthOfFirm 45 = .ok (.imul, 1) := by decide +kernel
theorem dX3_wealthOfFirm_46 : decode cX3_wealthOfFirm 46 = .ok (.iadd, 1) := by decide +kernel
theorem dX3_wealthOfFirm_47 : decode cX3_wealthOfFirm 47 = .ok (.istore_n 3, 1) := by decide +kernel
theorem dX3_wealthOfFirm_48 : decode cX3_wealthOfFirm 48 = .ok (.iinc 4 1, 3) := by decide +kernel
theorem dX3_wealthOfFirm_51 : decode cX3_wealthOfFirm 51 = .ok (.goto (-46), 3) := by decide +kernel
theorem dX3_wealthOfFirm_54 : decode cX3_wealthOfFirm 54 = .ok (.iload_n 3, 1) := by decide +kernel
theorem dX3_wealthOfFirm_55 : decode cX3_wealthOfFirm 55 = .ok (.ireturn, 1) := by decide +kernel
theorem dX3_gatesOwned_0 : decode cX3_gatesOwned 0 = .ok (.iconst 0, 1) := by decide +kernel
theorem dX3_gatesOwned_1 : decode cX3_gatesOwned 1 = .ok (.istore_n 3, 1) := by decide +kernel
theorem dX3_gatesOwned_2 : decode cX3_gatesOwned 2 = .ok (.iconst 0, 1) := by decide +kernel
theorem dX3_gatesOwned_3 : decode cX3_gatesOwned 3 = .ok (.istore 4, 2) := by decide +kernel
theorem dX3_gatesOwned_5 : decode cX3_gatesOwned 5 = .ok (.iload 4, 2) := by decide +kernel
theorem dX3_gatesOwned_7 : decode cX3_gatesOwned 7 = .ok (.aload_n 0, 1) := by decide +kernel
theorem dX3_gatesOwned_8 : decode cX3_gatesOwned 8 = .ok (.getfield 56, 3) := by decide +kernel
theorem dX3_gatesOwned_11 : decode cX3_gatesOwned 11 = .ok (.if_icmp .ge 30, 3) := by decide +kernel
theorem dX3_gatesOwned_14 : decode cX3_gatesOwned 14 = .ok (.aload_n 0, 1) := by decide +kernel
theorem dX3_gatesOwned_15 : decode cX3_gatesOwned 15 = .ok (.iload_n 2, 1) := by decide +kernel
theorem dX3_gatesOwned_16 : decode cX3_gatesOwned 16 = .ok (.iload 4, 2) := by decide +kernel
theorem dX3_gatesOwned_18 : decode cX3_gatesOwned 18 = .ok (.invokevirtual 112, 3) := by decide +kernel
theorem dX3_gatesOwned_21 : decode cX3_gatesOwned 21 = .ok (.iload_n 1, 1) := by decide +kernel
theorem dX3_gatesOwned_22 : decode cX3_gatesOwned 22 = .ok (.invokestatic 102, 3) := by decide +kernel
theorem dX3_gatesOwned_25 : decode cX3_gatesOwned 25 = .ok (.ifCond .eq 10, 3) := by decide +kernel
theorem dX3_gatesOwned_28 : decode cX3_gatesOwned 28 = .ok (.iload_n 3, 1) := by decide +kernel
theorem dX3_gatesOwned_29 : decode cX3_gatesOwned 29 = .ok (.iconst 1, 1) := by decide +kernel
theorem dX3_gatesOwned_30 : decode cX3_gatesOwned 30 = .ok (.iload 4, 2) := by decide +kernel
theorem dX3_gatesOwned_32 : decode cX3_gatesOwned 32 = .ok (.ishl, 1) := by decide +kernel
theorem dX3_gatesOwned_33 : decode cX3_gatesOwned 33 = .ok (.ior, 1) := by decide +kernel
theorem dX3_gatesOwned_34 : decode cX3_gatesOwned 34 = .ok (.istore_n 3, 1) := by decide +kernel
theorem dX3_gatesOwned_35 : decode cX3_gatesOwned 35 = .ok (.iinc 4 1, 3) := by decide +kernel
theorem dX3_gatesOwned_38 : decode cX3_gatesOwned 38 = .ok (.goto (-33), 3) := by decide +kernel
theorem dX3_gatesOwned_41 : decode cX3_gatesOwned 41 = .ok (.iload_n 3, 1) := by decide +kernel
theorem dX3_gatesOwned_42 : decode cX3_gatesOwned 42 = .ok (.ireturn, 1) := by decide +kernel
theorem dX3_gatesOwnedAlone_0 : decode cX3_gatesOwnedAlone 0 = .ok (.aload_n 0, 1) := by decide +kernel
theorem dX3_gatesOwnedAlone_1 : decode cX3_gatesOwnedAlone 1 = .ok (.iconst 1, 1) := by decide +kernel
theorem dX3_gatesOwnedAlone_2 : decode cX3_gatesOwnedAlone 2 = .ok (.iload_n 1, 1) := by decide +kernel
theorem dX3_gatesOwnedAlone_3 : decode cX3_gatesOwnedAlone 3 = .ok (.ishl, 1) := by decide +kernel
theorem dX3_gatesOwnedAlone_4 : decode cX3_gatesOwnedAlone 4 = .ok (.iload_n 2, 1) := by decide +kernel
theorem dX3_gatesOwnedAlone_5 : decode cX3_gatesOwnedAlone 5 = .ok (.invokevirtual 118, 3) := by decide +kernel
theorem dX3_gatesOwnedAlone_8 : decode cX3_gatesOwnedAlone 8 = .ok (.ireturn, 1) := by decide +kernel
theorem dX3_gatesUnowned_0 : decode cX3_gatesUnowned 0 = .ok (.aload_n 0, 1) := by decide +kernel
theorem dX3_gatesUnowned_1 : decode cX3_gatesUnowned 1 = .ok (.iconst 0, 1) := by decide +kernel
theorem dX3_gatesUnowned_2 : decode cX3_gatesUnowned 2 = .ok (.iload_n 1, 1) := by decide +kernel
theorem dX3_gatesUnowned_3 : decode cX3_gatesUnowned 3 = .ok (.invokevirtual 118, 3) := by decide +kernel
theorem dX3_gatesUnowned_6 : decode cX3_gatesUnowned 6 = .ok (.ireturn, 1) := by decide +kernel
theorem dX3_gatesOwnedJustBy_0 : decode cX3_gatesOwnedJustBy 0 = .ok (.iconst 0, 1) := by decide +kernel
theorem dX3_gatesOwnedJustBy_1 : decode cX3_gatesOwnedJustBy 1 = .ok (.istore_n 3, 1) := by decide +kernel
theorem dX3_gatesOwnedJustBy_2 : decode cX3_gatesOwnedJustBy 2 = .ok (.iconst 0, 1) := by decide +kernel
theorem dX3_gatesOwnedJustBy_3 : decode cX3_gatesOwnedJustBy 3 = .ok (.istore 4, 2) := by decide +kernel
theorem dX3_gatesOwnedJustBy_5 : decode cX3_gatesOwnedJustBy 5 = .ok (.iload 4, 2) := by decide +kernel
theorem dX3_gatesOwnedJustBy_7 : decode cX3_gatesOwnedJustBy 7 = .ok (.aload_n 0, 1) := by decide +kernel
theorem dX3_gatesOwnedJustBy_8 : decode cX3_gatesOwnedJustBy 8 = .ok (.getfield 56, 3) := by decide +kernel
theorem dX3_gatesOwnedJustBy_11 : decode cX3_gatesOwnedJustBy 11 = .ok (.if_icmp .ge 27, 3) := by decide +kernel
theorem dX3_gatesOwnedJustBy_14 : decode cX3_gatesOwnedJustBy 14 = .ok (.aload_n 0, 1) := by decide +kernel
theorem dX3_gatesOwnedJustBy_15 : decode cX3_gatesOwnedJustBy 15 = .ok (.iload_n 2, 1) := by decide +kernel
theorem dX3_gatesOwnedJustBy_16 : decode cX3_gatesOwnedJustBy 16 = .ok (.iload 4, 2) := by decide +kernel
theorem dX3_gatesOwnedJustBy_18 : decode cX3_gatesOwnedJustBy 18 = .ok (.invokevirtual 112, 3) := by decide +kernel
theorem dX3_gatesOwnedJustBy_21 : decode cX3_gatesOwnedJustBy 21 = .ok (.iload_n 1, 1) := by decide +kernel
theorem dX3_gatesOwnedJustBy_22 : decode cX3_gatesOwnedJustBy 22 = .ok (.if_icmp .ne 10, 3) := by decide +kernel
theorem dX3_gatesOwnedJustBy_25 : decode cX3_gatesOwnedJustBy 25 = .ok (.iload_n 3, 1) := by decide +kernel
theorem dX3_gatesOwnedJustBy_26 : decode cX3_gatesOwnedJustBy 26 = .ok (.iconst 1, 1) := by decide +kernel
theorem dX3_gatesOwnedJustBy_27 : decode cX3_gatesOwnedJustBy 27 = .ok (.iload 4, 2) := by decide +kernel
theorem dX3_gatesOwnedJustBy_29 : decode cX3_gatesOwnedJustBy 29 = .ok (.ishl, 1) := by decide +kernel
theorem dX3_gatesOwnedJustBy_30 : decode cX3_gatesOwnedJustBy 30 = .ok (.ior, 1) := by decide +kernel
theorem dX3_gatesOwnedJustBy_31 : decode cX3_gatesOwnedJustBy 31 = .ok (.istore_n 3, 1) := by decide +kernel
theorem dX3_gatesOwnedJustBy_32 : decode cX3_gatesOwnedJustBy 32 = .ok (.iinc 4 1, 3) := by decide +kernel
theorem dX3_gatesOwnedJustBy_35 : decode cX3_gatesOwnedJustBy 35 = .ok (.goto (-30), 3) := by decide +kernel
theorem dX3_gatesOwnedJustBy_38 : decode cX3_gatesOwnedJustBy 38 = .ok (.iload_n 3, 1) := by decide +kernel
theorem dX3_gatesOwnedJustBy_39 : decode cX3_gatesOwnedJustBy 39 = .ok (.ireturn, 1) := by decide +kernel
theorem dX3_firmsWith_0 : decode cX3_firmsWith 0 = .ok (.iconst 0, 1) := by decide +kernel
theorem dX3_firmsWith_1 : decode cX3_firmsWith 1 = .ok (.istore_n 2, 1) := by decide +kernel
theorem dX3_firmsWith_2 : decode cX3_firmsWith 2 = .ok (.iconst 0, 1) := by decide +kernel
theorem dX3_firmsWith_3 : decode cX3_firmsWith 3 = .ok (.istore_n 3, 1) := by decide +kernel
theorem dX3_firmsWith_4 : decode cX3_firmsWith 4 = .ok (.iload_n 3, 1) := by decide +kernel
theorem dX3_firmsWith_5 : decode cX3_firmsWith 5 = .ok (.aload_n 0, 1) := by decide +kernel
theorem dX3_firmsWith_6 : decode cX3_firmsWith 6 = .ok (.getfield 53, 3) := by decide +kernel
theorem dX3_firmsWith_9 : decode cX3_firmsWith 9 = .ok (.if_icmp .ge 30, 3) := by decide +kernel
theorem dX3_firmsWith_12 : decode cX3_firmsWith 12 = .ok (.aload_n 0, 1) := by decide +kernel
theorem dX3_firmsWith_13 : decode cX3_firmsWith 13 = .ok (.getfield 15, 3) := by decide +kernel
theorem dX3_firmsWith_16 : decode cX3_firmsWith 16 = .ok (.iload_n 3, 1) := by decide +kernel
theorem dX3_firmsWith_17 : decode cX3_firmsWith 17 = .ok (.invokestatic 89, 3) := by decide +kernel
theorem dX3_firmsWith_20 : decode cX3_firmsWith 20 = .ok (.iload_n 1, 1) := by decide +kernel
theorem dX3_firmsWith_21 : decode cX3_firmsWith 21 = .ok (.invokestatic 102, 3) := by decide +kernel
theorem dX3_firmsWith_24 : decode cX3_firmsWith 24 = .ok (.ifCond .eq 9, 3) := by decide +kernel
theorem dX3_firmsWith_27 : decode cX3_firmsWith 27 = .ok (.iload_n 2, 1) := by decide +kernel
theorem dX3_firmsWith_28 : decode cX3_firmsWith 28 = .ok (.iconst 1, 1) := by decide +kernel
theorem dX3_firmsWith_29 : decode cX3_firmsWith 29 = .ok (.iload_n 3, 1) := by decide +kernel
theorem dX3_firmsWith_30 : decode cX3_firmsWith 30 = .ok (.ishl, 1) := by decide +kernel
theorem dX3_firmsWith_31 : decode cX3_firmsWith 31 = .ok (.ior, 1) := by decide +kernel
theorem dX3_firmsWith_32 : decode cX3_firmsWith 32 = .ok (.istore_n 2, 1) := by decide +kernel
theorem dX3_firmsWith_33 : decode cX3_firmsWith 33 = .ok (.iinc 3 1, 3) := by decide +kernel
theorem dX3_firmsWith_36 : decode cX3_firmsWith 36 = .ok (.goto (-32), 3) := by decide +kernel
theorem dX3_firmsWith_39 : decode cX3_firmsWith 39 = .ok (.iload_n 2, 1) := by decide +kernel
theorem dX3_firmsWith_40 : decode cX3_firmsWith 40 = .ok (.ireturn, 1) := by decide +kernel
theorem dX3_wealthiest_0 : decode cX3_wealthiest 0 = .ok (.bipush (-2), 2) := by decide +kernel
theorem dX3_wealthiest_2 : decode cX3_wealthiest 2 = .ok (.istore_n 2, 1) := by decide +kernel
theorem dX3_wealthiest_3 : decode cX3_wealthiest 3 = .ok (.iconst (-1), 1) := by decide +kernel
theorem dX3_wealthiest_4 : decode cX3_wealthiest 4 = .ok (.istore_n 3, 1) := by decide +kernel
theorem dX3_wealthiest_5 : decode cX3_wealthiest 5 = .ok (.iconst 0, 1) := by decide +kernel
theorem dX3_wealthiest_6 : decode cX3_wealthiest 6 = .ok (.istore 4, 2) := by decide +kernel
theorem dX3_wealthiest_8 : decode cX3_wealthiest 8 = .ok (.iload 4, 2) := by decide +kernel
theorem dX3_wealthiest_10 : decode cX3_wealthiest 10 = .ok (.aload_n 0, 1) := by decide +kernel
theorem dX3_wealthiest_11 : decode cX3_wealthiest 11 = .ok (.getfield 50, 3) := by decide +kernel
theorem dX3_wealthiest_14 : decode cX3_wealthiest 14 = .ok (.if_icmp .ge 30, 3) := by decide +kernel
theorem dX3_wealthiest_17 : decode cX3_wealthiest 17 = .ok (.aload_n 0, 1) := by decide +kernel
theorem dX3_wealthiest_18 : decode cX3_wealthiest 18 = .ok (.iload 4, 2) := by decide +kernel
theorem dX3_wealthiest_20 : decode cX3_wealthiest 20 = .ok (.iload_n 1, 1) := by decide +kernel
theorem dX3_wealthiest_21 : decode cX3_wealthiest 21 = .ok (.invokevirtual 109, 3) := by decide +kernel
theorem dX3_wealthiest_24 : decode cX3_wealthiest 24 = .ok (.istore 5, 2) := by decide +kernel
theorem dX3_wealthiest_26 : decode cX3_wealthiest 26 = .ok (.iload 5, 2) := by decide +kernel
theorem dX3_wealthiest_28 : decode cX3_wealthiest 28 = .ok (.iload_n 3, 1) := by decide +kernel
theorem dX3_wealthiest_29 : decode cX3_wealthiest 29 = .ok (.if_icmp .le 9, 3) := by decide +kernel
theorem dX3_wealthiest_32 : decode cX3_wealthiest 32 = .ok (.iload 5, 2) := by decide +kernel
theorem dX3_wealthiest_34 : decode cX3_wealthiest 34 = .ok (.istore_n 3, 1) := by decide +kernel
theorem dX3_wealthiest_35 : decode cX3_wealthiest 35 = .ok (.iload 4, 2) := by decide +kernel
theorem dX3_wealthiest_37 : decode cX3_wealthiest 37 = .ok (.istore_n 2, 1) := by decide +kernel
theorem dX3_wealthiest_38 : decode cX3_wealthiest 38 = .ok (.iinc 4 1, 3) := by decide +kernel
theorem dX3_wealthiest_41 : decode cX3_wealthiest 41 = .ok (.goto (-33), 3) := by decide +kernel
theorem dX3_wealthiest_44 : decode cX3_wealthiest 44 = .ok (.iload_n 2, 1) := by decide +kernel
theorem dX3_wealthiest_45 : decode cX3_wealthiest 45 = .ok (.ireturn, 1) := by decide +kernel
theorem dX3_leastWealth_0 : decode cX3_leastWealth 0 = .ok (.aload_n 0, 1) := by decide +kernel
theorem dX3_leastWealth_1 : decode cX3_leastWealth 1 = .ok (.getfield 50, 3) := by decide +kernel
theorem dX3_leastWealth_4 : decode cX3_leastWealth 4 = .ok (.ifCond .le 12, 3) := by decide +kernel
theorem dX3_leastWealth_7 : decode cX3_leastWealth 7 = .ok (.aload_n 0, 1) := by decide +kernel
theorem dX3_leastWealth_8 : decode cX3_leastWealth 8 = .ok (.iconst 0, 1) := by decide +kernel
theorem dX3_leastWealth_9 : decode cX3_leastWealth 9 = .ok (.iload_n 1, 1) := by decide +kernel
theorem dX3_leastWealth_10 : decode cX3_leastWealth 10 = .ok (.invokevirtual 109, 3) := by decide +kernel
theorem dX3_leastWealth_13 : decode cX3_leastWealth 13 = .ok (.goto 4, 3) := by decide +kernel
theorem dX3_leastWealth_16 : decode cX3_leastWealth 16 = .ok (.iconst 0, 1) := by decide +kernel
theorem dX3_leastWealth_17 : decode cX3_leastWealth 17 = .ok (.istore_n 2, 1) := by decide +kernel
theorem dX3_leastWealth_18 : decode cX3_leastWealth 18 = .ok (.iconst 1, 1) := by decide +kernel
theorem dX3_leastWealth_19 : decode cX3_leastWealth 19 = .ok (.istore_n 3, 1) := by decide +kernel
theorem dX3_leastWealth_20 : decode cX3_leastWealth 20 = .ok (.iload_n 3, 1) := by decide +kernel
theorem dX3_leastWealth_21 : decode cX3_leastWealth 21 = .ok (.aload_n 0, 1) := by decide +kernel
theorem dX3_leastWealth_22 : decode cX3_leastWealth 22 = .ok (.getfield 50, 3) := by decide +kernel
theorem dX3_leastWealth_25 : decode cX3_leastWealth 25 = .ok (.if_icmp .ge 20, 3) := by decide +kernel
theorem dX3_leastWealth_28 : decode cX3_leastWealth 28 = .ok (.iload_n 2, 1) := by decide +kernel
theorem dX3_leastWealth_29 : decode cX3_leastWealth 29 = .ok (.aload_n 0, 1) := by decide +kernel
theorem dX3_leastWealth_30 : decode cX3_leastWealth 30 = .ok (.iload_n 3, 1) := by decide +kernel
theorem dX3_leastWealth_31 : decode cX3_leastWealth 31 = .ok (.iload_n 1, 1) := by decide +kernel
theorem dX3_leastWealth_32 : decode cX3_leastWealth 32 = .ok (.invokevirtual 109, 3) := by decide +kernel
theorem dX3_leastWealth_35 : decode cX3_leastWealth 35 = .ok (.invokestatic 121, 3) := by decide +kernel
theorem dX3_leastWealth_38 : decode cX3_leastWealth 38 = .ok (.istore_n 2, 1) := by decide +kernel
theorem dX3_leastWealth_39 : decode cX3_leastWealth 39 = .ok (.iinc 3 1, 3) := by decide +kernel
theorem dX3_leastWealth_42 : decode cX3_leastWealth 42 = .ok (.goto (-22), 3) := by decide +kernel
theorem dX3_leastWealth_45 : decode cX3_leastWealth 45 = .ok (.iload_n 2, 1) := by decide +kernel
theorem dX3_leastWealth_46 : decode cX3_leastWealth 46 = .ok (.ireturn, 1) := by decide +kernel
theorem dX3_beggar_0 : decode cX3_beggar 0 = .ok (.iconst 0, 1) := by decide +kernel
theorem dX3_beggar_1 : decode cX3_beggar 1 = .ok (.istore_n 3, 1) := by decide +kernel
theorem dX3_beggar_2 : decode cX3_beggar 2 = .ok (.iconst 0, 1) := by decide +kernel
theorem dX3_beggar_3 : decode cX3_beggar 3 = .ok (.istore 4, 2) := by decide +kernel
theorem dX3_beggar_5 : decode cX3_beggar 5 = .ok (.iload 4, 2) := by decide +kernel
theorem dX3_beggar_7 : decode cX3_beggar 7 = .ok (.aload_n 0, 1) := by decide +kernel
theorem dX3_beggar_8 : decode cX3_beggar 8 = .ok (.getfield 50, 3) := by decide +kernel
theorem dX3_beggar_11 : decode cX3_beggar 11 = .ok (.if_icmp .ge 30, 3) := by decide +kernel
theorem dX3_beggar_14 : decode cX3_beggar 14 = .ok (.aload_n 0, 1) := by decide +kernel
theorem dX3_beggar_15 : decode cX3_beggar 15 = .ok (.iload 4, 2) := by decide +kernel
theorem dX3_beggar_17 : decode cX3_beggar 17 = .ok (.iload_n 2, 1) := by decide +kernel
theorem dX3_beggar_18 : decode cX3_beggar 18 = .ok (.invokevirtual 109, 3) := by decide +kernel
theorem dX3_beggar_21 : decode cX3_beggar 21 = .ok (.ifCond .ne 14, 3) := by decide +kernel
theorem dX3_beggar_24 : decode cX3_beggar 24 = .ok (.iload_n 3, 1) := by decide +kernel
theorem dX3_beggar_25 : decode cX3_beggar 25 = .ok (.iload_n 1, 1) := by decide +kernel
theorem dX3_beggar_26 : decode cX3_beggar 26 = .ok (.if_icmp .ne 6, 3) := by decide +kernel
theorem dX3_beggar_29 : decode cX3_beggar 29 = .ok (.iload 4, 2) := by decide +kernel
theorem dX3_beggar_31 : decode cX3_beggar 31 = .ok (.ireturn, 1) := by decide +kernel
theorem dX3_beggar_32 : decode cX3_beggar 32 = .ok (.iinc 3 1, 3) := by decide +kernel
theorem dX3_beggar_35 : decode cX3_beggar 35 = .ok (.iinc 4 1, 3) := by decide +kernel
theorem dX3_beggar_38 : decode cX3_beggar 38 = .ok (.goto (-33), 3) := by decide +kernel
theorem dX3_beggar_41 : decode cX3_beggar 41 = .ok (.iconst (-1), 1) := by decide +kernel
theorem dX3_beggar_42 : decode cX3_beggar 42 = .ok (.ireturn, 1) := by decide +kernel
theorem dX3_hooksLying_0 : decode cX3_hooksLying 0 = .ok (.aload_n 0, 1) := by decide +kernel
theorem dX3_hooksLying_1 : decode cX3_hooksLying 1 = .ok (.getfield 43, 3) := by decide +kernel
theorem dX3_hooksLying_4 : decode cX3_hooksLying 4 = .ok (.aload_n 0, 1) := by decide +kernel
theorem dX3_hooksLying_5 : decode cX3_hooksLying 5 = .ok (.getfield 62, 3) := by decide +kernel
theorem dX3_hooksLying_8 : decode cX3_hooksLying 8 = .ok (.invokestatic 126, 3) := by decide +kernel
theorem dX3_hooksLying_11 : decode cX3_hooksLying 11 = .ok (.iadd, 1) := by decide +kernel
theorem dX3_hooksLying_12 : decode cX3_hooksLying 12 = .ok (.iload_n 1, 1) := by decide +kernel
theorem dX3_hooksLying_13 : decode cX3_hooksLying 13 = .ok (.invokestatic 126, 3) := by decide +kernel
theorem dX3_hooksLying_16 : decode cX3_hooksLying 16 = .ok (.isub, 1) := by decide +kernel
theorem dX3_hooksLying_17 : decode cX3_hooksLying 17 = .ok (.ireturn, 1) := by decide +kernel
theorem dX3_isGuarded_0 : decode cX3_isGuarded 0 = .ok (.aload_n 0, 1) := by decide +kernel
theorem dX3_isGuarded_1 : decode cX3_isGuarded 1 = .ok (.getfield 65, 3) := by decide +kernel
theorem dX3_isGuarded_4 : decode cX3_isGuarded 4 = .ok (.iload_n 1, 1) := by decide +kernel
theorem dX3_isGuarded_5 : decode cX3_isGuarded 5 = .ok (.invokestatic 81, 3) := by decide +kernel
theorem dX3_isGuarded_8 : decode cX3_isGuarded 8 = .ok (.iand, 1) := by decide +kernel
theorem dX3_isGuarded_9 : decode cX3_isGuarded 9 = .ok (.ifCond .eq 7, 3) := by decide +kernel
theorem dX3_isGuarded_12 : decode cX3_isGuarded 12 = .ok (.iconst 1, 1) := by decide +kernel
theorem dX3_isGuarded_13 : decode cX3_isGuarded 13 = .ok (.goto 4, 3) := by decide +kernel
theorem dX3_isGuarded_16 : decode cX3_isGuarded 16 = .ok (.iconst 0, 1) := by decide +kernel
theorem dX3_isGuarded_17 : decode cX3_isGuarded 17 = .ok (.ireturn, 1) := by decide +kernel
theorem dX3_mayHangSo_0 : decode cX3_mayHangSo 0 = .ok (.iload_n 1, 1) := by decide +kernel
theorem dX3_mayHangSo_1 : decode cX3_mayHangSo 1 = .ok (.invokestatic 129, 3) := by decide +kernel
theorem dX3_mayHangSo_4 : decode cX3_mayHangSo 4 = .ok (.ifCond .eq 29, 3) := by decide +kernel
theorem dX3_mayHangSo_7 : decode cX3_mayHangSo 7 = .ok (.iload_n 1, 1) := by decide +kernel
theorem dX3_mayHangSo_8 : decode cX3_mayHangSo 8 = .ok (.aload_n 0, 1) := by decide +kernel
theorem dX3_mayHangSo_9 : decode cX3_mayHangSo 9 = .ok (.getfield 62, 3) := by decide +kernel
theorem dX3_mayHangSo_12 : decode cX3_mayHangSo 12 = .ok (.ixor, 1) := by decide +kernel
theorem dX3_mayHangSo_13 : decode cX3_mayHangSo 13 = .ok (.aload_n 0, 1) := by decide +kernel
theorem dX3_mayHangSo_14 : decode cX3_mayHangSo 14 = .ok (.getfield 65, 3) := by decide +kernel
theorem dX3_mayHangSo_17 : decode cX3_mayHangSo 17 = .ok (.iand, 1) := by decide +kernel
theorem dX3_mayHangSo_18 : decode cX3_mayHangSo 18 = .ok (.ifCond .ne 15, 3) := by decide +kernel
theorem dX3_mayHangSo_21 : decode cX3_mayHangSo 21 = .ok (.aload_n 0, 1) := by decide +kernel
theorem dX3_mayHangSo_22 : decode cX3_mayHangSo 22 = .ok (.iload_n 1, 1) := by decide +kernel
theorem dX3_mayHangSo_23 : decode cX3_mayHangSo 23 = .ok (.invokevirtual 133, 3) := by decide +kernel
theorem dX3_mayHangSo_26 : decode cX3_mayHangSo 26 = .ok (.ifCond .lt 7, 3) := by decide +kernel
theorem dX3_mayHangSo_29 : decode cX3_mayHangSo 29 = .ok (.iconst 1, 1) := by decide +kernel
theorem dX3_mayHangSo_30 : decode cX3_mayHangSo 30 = .ok (.goto 4, 3) := by decide +kernel
theorem dX3_mayHangSo_33 : decode cX3_mayHangSo 33 = .ok (.iconst 0, 1) := by decide +kernel
theorem dX3_mayHangSo_34 : decode cX3_mayHangSo 34 = .ok (.ireturn, 1) := by decide +kernel
theorem dX3_wayAfter_0 : decode cX3_wayAfter 0 = .ok (.aload_n 0, 1) := by decide +kernel
theorem dX3_wayAfter_1 : decode cX3_wayAfter 1 = .ok (.iload_n 3, 1) := by decide +kernel
theorem dX3_wayAfter_2 : decode cX3_wayAfter 2 = .ok (.invokevirtual 136, 3) := by decide +kernel
theorem dX3_wayAfter_5 : decode cX3_wayAfter 5 = .ok (.ifCond .eq 5, 3) := by decide +kernel
theorem dX3_wayAfter_8 : decode cX3_wayAfter 8 = .ok (.iconst (-1), 1) := by decide +kernel
theorem dX3_wayAfter_9 : decode cX3_wayAfter 9 = .ok (.ireturn, 1) := by decide +kernel
theorem dX3_wayAfter_10 : decode cX3_wayAfter 10 = .ok (.iload_n 1, 1) := by decide +kernel
theorem dX3_wayAfter_11 : decode cX3_wayAfter 11 = .ok (.iload_n 3, 1) := by decide +kernel
theorem dX3_wayAfter_12 : decode cX3_wayAfter 12 = .ok (.invokestatic 98, 3) := by decide +kernel
theorem dX3_wayAfter_15 : decode cX3_wayAfter 15 = .ok (.istore 4, 2) := by decide +kernel
theorem dX3_wayAfter_17 : decode cX3_wayAfter 17 = .ok (.iload_n 2, 1) := by decide +kernel
theorem dX3_wayAfter_18 : decode cX3_wayAfter 18 = .ok (.ifCond .eq 8, 3) := by decide +kernel
theorem dX3_wayAfter_21 : decode cX3_wayAfter 21 = .ok (.iload_n 2, 1) := by decide +kernel
theorem dX3_wayAfter_22 : decode cX3_wayAfter 22 = .ok (.iconst 1, 1) := by decide +kernel
theorem dX3_wayAfter_23 : decode cX3_wayAfter 23 = .ok (.if_icmp .ne 47, 3) := by decide +kernel
theorem dX3_wayAfter_26 : decode cX3_wayAfter 26 = .ok (.iload 4, 2) := by decide +kernel
theorem dX3_wayAfter_28 : decode cX3_wayAfter 28 = .ok (.ifCond .ne 15, 3) := by decide +kernel
theorem dX3_wayAfter_31 : decode cX3_wayAfter 31 = .ok (.aload_n 0, 1) := by decide +kernel
theorem dX3_wayAfter_32 : decode cX3_wayAfter 32 = .ok (.iload_n 1, 1) := by decide +kernel
theorem dX3_wayAfter_33 : decode cX3_wayAfter 33 = .ok (.invokevirtual 133, 3) := by decide +kernel
theorem dX3_wayAfter_36 : decode cX3_wayAfter 36 = .ok (.ifCond .le 7, 3) := by decide +kernel
theorem dX3_wayAfter_39 : decode cX3_wayAfter 39 = .ok (.iconst 1, 1) := by decide +kernel
theorem dX3_wayAfter_40 : decode cX3_wayAfter 40 = .ok (.goto 4, 3) := by decide +kernel
theorem dX3_wayAfter_43 : decode cX3_wayAfter 43 = .ok (.iconst 0, 1) := by decide +kernel
theorem dX3_wayAfter_44 : decode cX3_wayAfter 44 = .ok (.istore 5, 2) := by decide +kernel
theorem dX3_wayAfter_46 : decode cX3_wayAfter 46 = .ok (.iload 5, 2) := by decide +kernel
theorem dX3_wayAfter_48 : decode cX3_wayAfter 48 = .ok (.ifCond .eq 20, 3) := by decide +kernel
theorem dX3_wayAfter_51 : decode cX3_wayAfter 51 = .ok (.iload_n 1, 1) := by decide +kernel
theorem dX3_wayAfter_52 : decode cX3_wayAfter 52 = .ok (.iload_n 3, 1) := by decide +kernel
theorem dX3_wayAfter_53 : decode cX3_wayAfter 53 = .ok (.iload_n 2, 1) := by decide +kernel
theorem dX3_wayAfter_54 : decode cX3_wayAfter 54 = .ok (.ifCond .ne 7, 3) := by decide +kernel
theorem dX3_wayAfter_57 : decode cX3_wayAfter 57 = .ok (.iconst 1, 1) := by decide +kernel
theorem dX3_wayAfter_58 : decode cX3_wayAfter 58 = .ok (.goto 4, 3) := by decide +kernel
theorem dX3_wayAfter_61 : decode cX3_wayAfter 61 = .ok (.iconst 2, 1) := by decide +kernel
theorem dX3_wayAfter_62 : decode cX3_wayAfter 62 = .ok (.invokestatic 75, 3) := by decide +kernel
theorem dX3_wayAfter_65 : decode cX3_wayAfter 65 = .ok (.goto 4, 3) := by decide +kernel
theorem dX3_wayAfter_68 : decode cX3_wayAfter 68 = .ok (.iconst (-1), 1) := by decide +kernel
theorem dX3_wayAfter_69 : decode cX3_wayAfter 69 = .ok (.ireturn, 1) := by decide +kernel
theorem dX3_wayAfter_70 : decode cX3_wayAfter 70 = .ok (.iload 4, 2) := by decide +kernel
theorem dX3_wayAfter_72 : decode cX3_wayAfter 72 = .ok (.ifCond .ne 5, 3) := by decide +kernel
theorem dX3_wayAfter_75 : decode cX3_wayAfter 75 = .ok (.iconst (-1), 1) := by decide +kernel
theorem dX3_wayAfter_76 : decode cX3_wayAfter 76 = .ok (.ireturn, 1) := by decide +kernel
theorem dX3_wayAfter_77 : decode cX3_wayAfter 77 = .ok (.iload_n 1, 1) := by decide +kernel
theorem dX3_wayAfter_78 : decode cX3_wayAfter 78 = .ok (.iload_n 3, 1) := by decide +kernel
theorem dX3_wayAfter_79 : decode cX3_wayAfter 79 = .ok (.iload_n 2, 1) := by decide +kernel
theorem dX3_wayAfter_80 : decode cX3_wayAfter 80 = .ok (.iconst 3, 1) := by decide +kernel
theorem dX3_wayAfter_81 : decode cX3_wayAfter 81 = .ok (.if_icmp .ne 11, 3) := by decide +kernel
theorem dX3_wayAfter_84 : decode cX3_wayAfter 84 = .ok (.iload 4, 2) := by decide +kernel
theorem dX3_wayAfter_86 : decode cX3_wayAfter 86 = .ok (.invokestatic 139, 3) := by decide +kernel
theorem dX3_wayAfter_89 : decode cX3_wayAfter 89 = .ok (.goto 4, 3) := by decide +kernel
theorem dX3_wayAfter_92 : decode cX3_wayAfter 92 = .ok (.iconst 0, 1) := by decide +kernel
theorem dX3_wayAfter_93 : decode cX3_wayAfter 93 = .ok (.invokestatic 75, 3) := by decide +kernel
theorem dX3_wayAfter_96 : decode cX3_wayAfter 96 = .ok (.ireturn, 1) := by decide +kernel
theorem dX3_turned_0 : decode cX3_turned 0 = .ok (.iload_n 0, 1) := by decide +kernel
theorem dX3_turned_1 : decode cX3_turned 1 = .ok (.iconst 1, 1) := by decide +kernel
theorem dX3_turned_2 : decode cX3_turned 2 = .ok (.if_icmp .ne 7, 3) := by decide +kernel
theorem dX3_turned_5 : decode cX3_turned 5 = .ok (.iconst 2, 1) := by decide +kernel
theorem dX3_turned_6 : decode cX3_turned 6 = .ok (.goto 4, 3) := by decide +kernel
theorem dX3_turned_9 : decode cX3_turned 9 = .ok (.iconst 1, 1) := by decide +kernel
theorem dX3_turned_10 : decode cX3_turned 10 = .ok (.ireturn, 1) := by decide +kernel
theorem dX3_isStillWay_0 : decode cX3_isStillWay 0 = .ok (.iconst 0, 1) := by decide +kernel
theorem dX3_isStillWay_1 : decode cX3_isStillWay 1 = .ok (.istore_n 2, 1) := by decide +kernel
theorem dX3_isStillWay_2 : decode cX3_isStillWay 2 = .ok (.iload_n 2, 1) := by decide +kernel
theorem dX3_isStillWay_3 : decode cX3_isStillWay 3 = .ok (.aload_n 0, 1) := by decide +kernel
theorem dX3_isStillWay_4 : decode cX3_isStillWay 4 = .ok (.getfield 56, 3) := by decide +kernel
theorem dX3_isStillWay_7 : decode cX3_isStillWay 7 = .ok (.if_icmp .ge 52, 3) := by decide +kernel
theorem dX3_isStillWay_10 : decode cX3_isStillWay 10 = .ok (.iload_n 1, 1) := by decide +kernel
theorem dX3_isStillWay_11 : decode cX3_isStillWay 11 = .ok (.iload_n 2, 1) := by decide +kernel
theorem dX3_isStillWay_12 : decode cX3_isStillWay 12 = .ok (.invokestatic 98, 3) := by decide +kernel
theorem dX3_isStillWay_15 : decode cX3_isStillWay 15 = .ok (.istore_n 3, 1) := by decide +kernel
theorem dX3_isStillWay_16 : decode cX3_isStillWay 16 = .ok (.iload_n 3, 1) := by decide +kernel
theorem dX3_isStillWay_17 : decode cX3_isStillWay 17 = .ok (.ifCond .eq 36, 3) := by decide +kernel
theorem dX3_isStillWay_20 : decode cX3_isStillWay 20 = .ok (.aload_n 0, 1) := by decide +kernel
theorem dX3_isStillWay_21 : decode cX3_isStillWay 21 = .ok (.iload_n 2, 1) := by decide +kernel
theorem dX3_isStillWay_22 : decode cX3_isStillWay 22 = .ok (.invokevirtual 136, 3) := by decide +kernel
theorem dX3_isStillWay_25 : decode cX3_isStillWay 25 = .ok (.ifCond .ne 28, 3) := by decide +kernel
theorem dX3_isStillWay_28 : decode cX3_isStillWay 28 = .ok (.aload_n 0, 1) := by decide +kernel
theorem dX3_isStillWay_29 : decode cX3_isStillWay 29 = .ok (.iload_n 1, 1) := by decide +kernel
theorem dX3_isStillWay_30 : decode cX3_isStillWay 30 = .ok (.iload_n 2, 1) := by decide +kernel
theorem dX3_isStillWay_31 : decode cX3_isStillWay 31 = .ok (.iconst 0, 1) := by decide +kernel
theorem dX3_isStillWay_32 : decode cX3_isStillWay 32 = .ok (.invokevirtual 142, 3) := by decide +kernel
theorem dX3_isStillWay_35 : decode cX3_isStillWay 35 = .ok (.ifCond .ne 16, 3) := by decide +kernel
theorem dX3_isStillWay_38 : decode cX3_isStillWay 38 = .ok (.aload_n 0, 1) := by decide +kernel
theorem dX3_isStillWay_39 : decode cX3_isStillWay 39 = .ok (.iload_n 1, 1) := by decide +kernel
theorem dX3_isStillWay_40 : decode cX3_isStillWay 40 = .ok (.iload_n 2, 1) := by decide +kernel
theorem dX3_isStillWay_41 : decode cX3_isStillWay 41 = .ok (.iload_n 3, 1) := by decide +kernel
theorem dX3_isStillWay_42 : decode cX3_isStillWay 42 = .ok (.invokestatic 139, 3) := by decide +kernel
theorem dX3_isStillWay_45 : decode cX3_isStillWay 45 = .ok (.invokevirtual 142, 3) := by decide +kernel
theorem dX3_isStillWay_48 : decode cX3_isStillWay 48 = .ok (.ifCond .eq 5, 3) := by decide +kernel
theorem dX3_isStillWay_51 : decode cX3_isStillWay 51 = .ok (.iconst 0, 1) := by decide +kernel
theorem dX3_isStillWay_52 : decode cX3_isStillWay 52 = .ok (.ireturn, 1) := by decide +kernel
theorem dX3_isStillWay_53 : decode cX3_isStillWay 53 = .ok (.iinc 2 1, 3) := by decide +kernel
theorem dX3_isStillWay_56 : decode cX3_isStillWay 56 = .ok (.goto (-54), 3) := by decide +kernel
theorem dX3_isStillWay_59 : decode cX3_isStillWay 59 = .ok (.iconst 1, 1) := by decide +kernel
theorem dX3_isStillWay_60 : decode cX3_isStillWay 60 = .ok (.ireturn, 1) := by decide +kernel
theorem dX3_someoneGains_0 : decode cX3_someoneGains 0 = .ok (.aload_n 0, 1) := by decide +kernel
theorem dX3_someoneGains_1 : decode cX3_someoneGains 1 = .ok (.iload_n 1, 1) := by decide +kernel
theorem dX3_someoneGains_2 : decode cX3_someoneGains 2 = .ok (.iload_n 2, 1) := by decide +kernel
theorem dX3_someoneGains_3 : decode cX3_someoneGains 3 = .ok (.invokevirtual 112, 3) := by decide +kernel
theorem dX3_someoneGains_6 : decode cX3_someoneGains 6 = .ok (.istore 4, 2) := by decide +kernel
theorem dX3_someoneGains_8 : decode cX3_someoneGains 8 = .ok (.iload_n 1, 1) := by decide +kernel
theorem dX3_someoneGains_9 : decode cX3_someoneGains 9 = .ok (.iload_n 2, 1) := by decide +kernel
theorem dX3_someoneGains_10 : decode cX3_someoneGains 10 = .ok (.iload_n 3, 1) := by decide +kernel
theorem dX3_someoneGains_11 : decode cX3_someoneGains 11 = .ok (.invokestatic 75, 3) := by decide +kernel
theorem dX3_someoneGains_14 : decode cX3_someoneGains 14 = .ok (.istore 5, 2) := by decide +kernel
theorem dX3_someoneGains_16 : decode cX3_someoneGains 16 = .ok (.iconst 0, 1) := by decide +kernel
theorem dX3_someoneGains_17 : decode cX3_someoneGains 17 = .ok (.istore 6, 2) := by decide +kernel
theorem dX3_someoneGains_19 : decode cX3_someoneGains 19 = .ok (.iload 6, 2) := by decide +kernel
theorem dX3_someoneGains_21 : decode cX3_someoneGains 21 = .ok (.aload_n 0, 1) := by decide +kernel
theorem dX3_someoneGains_22 : decode cX3_someoneGains 22 = .ok (.getfield 50, 3) := by decide +kernel
theorem dX3_someoneGains_25 : decode cX3_someoneGains 25 = .ok (.if_icmp .ge 39, 3) := by decide +kernel
theorem dX3_someoneGains_28 : decode cX3_someoneGains 28 = .ok (.iload 4, 2) := by decide +kernel
theorem dX3_someoneGains_30 : decode cX3_someoneGains 30 = .ok (.iload 6, 2) := by decide +kernel
theorem dX3_someoneGains_32 : decode cX3_someoneGains 32 = .ok (.invokestatic 102, 3) := by decide +kernel
theorem dX3_someoneGains_35 : decode cX3_someoneGains 35 = .ok (.ifCond .eq 23, 3) := by decide +kernel
theorem dX3_someoneGains_38 : decode cX3_someoneGains 38 = .ok (.aload_n 0, 1) := by decide +kernel
theorem dX3_someoneGains_39 : decode cX3_someoneGains 39 = .ok (.iload 5, 2) := by decide +kernel
theorem dX3_someoneGains_41 : decode cX3_someoneGains 41 = .ok (.iload_n 2, 1) := by decide +kernel
theorem dX3_someoneGains_42 : decode cX3_someoneGains 42 = .ok (.iload 6, 2) := by decide +kernel
theorem dX3_someoneGains_44 : decode cX3_someoneGains 44 = .ok (.invokevirtual 106, 3) := by decide +kernel
theorem dX3_someoneGains_47 : decode cX3_someoneGains 47 = .ok (.aload_n 0, 1) := by decide +kernel
theorem dX3_someoneGains_48 : decode cX3_someoneGains 48 = .ok (.iload_n 1, 1) := by decide +kernel
theorem dX3_someoneGains_49 : decode cX3_someoneGains 49 = .ok (.iload_n 2, 1) := by decide +kernel
theorem dX3_someoneGains_50 : decode cX3_someoneGains 50 = .ok (.invokevirtual 115, 3) := by decide +kernel
theorem dX3_someoneGains_53 : decode cX3_someoneGains 53 = .ok (.if_icmp .le 5, 3) := by decide +kernel
theorem dX3_someoneGains_56 : decode cX3_someoneGains 56 = .ok (.iconst 1, 1) := by decide +kernel
theorem dX3_someoneGains_57 : decode cX3_someoneGains 57 = .ok (.ireturn, 1) := by decide +kernel
theorem dX3_someoneGains_58 : decode cX3_someoneGains 58 = .ok (.iinc 6 1, 3) := by decide +kernel
theorem dX3_someoneGains_61 : decode cX3_someoneGains 61 = .ok (.goto (-42), 3) := by decide +kernel
theorem dX3_someoneGains_64 : decode cX3_someoneGains 64 = .ok (.iconst 0, 1) := by decide +kernel
theorem dX3_someoneGains_65 : decode cX3_someoneGains 65 = .ok (.ireturn, 1) := by decide +kernel
theorem dX3_fallingIn_0 : decode cX3_fallingIn 0 = .ok (.aload_n 0, 1) := by decide +kernel
theorem dX3_fallingIn_1 : decode cX3_fallingIn 1 = .ok (.iload_n 2, 1) := by decide +kernel
theorem dX3_fallingIn_2 : decode cX3_fallingIn 2 = .ok (.invokevirtual 136, 3) := by decide +kernel
theorem dX3_fallingIn_5 : decode cX3_fallingIn 5 = .ok (.ifCond .ne 11, 3) := by decide +kernel
theorem dX3_fallingIn_8 : decode cX3_fallingIn 8 = .ok (.iload_n 1, 1) := by decide +kernel
theorem dX3_fallingIn_9 : decode cX3_fallingIn 9 = .ok (.iload_n 2, 1) := by decide +kernel
theorem dX3_fallingIn_10 : decode cX3_fallingIn 10 = .ok (.invokestatic 98, 3) := by decide +kernel
theorem dX3_fallingIn_13 : decode cX3_fallingIn 13 = .ok (.ifCond .ne 5, 3) := by decide +kernel
theorem dX3_fallingIn_16 : decode cX3_fallingIn 16 = .ok (.iconst 0, 1) := by decide +kernel
theorem dX3_fallingIn_17 : decode cX3_fallingIn 17 = .ok (.ireturn, 1) := by decide +kernel
theorem dX3_fallingIn_18 : decode cX3_fallingIn 18 = .ok (.aload_n 0, 1) := by decide +kernel
theorem dX3_fallingIn_19 : decode cX3_fallingIn 19 = .ok (.getfield 18, 3) := by decide +kernel
theorem dX3_fallingIn_22 : decode cX3_fallingIn 22 = .ok (.iload_n 2, 1) := by decide +kernel
theorem dX3_fallingIn_23 : decode cX3_fallingIn 23 = .ok (.invokestatic 89, 3) := by decide +kernel
theorem dX3_fallingIn_26 : decode cX3_fallingIn 26 = .ok (.iconst 3, 1) := by decide +kernel
theorem dX3_fallingIn_27 : decode cX3_fallingIn 27 = .ok (.if_icmp .ne 17, 3) := by decide +kernel
theorem dX3_fallingIn_30 : decode cX3_fallingIn 30 = .ok (.bipush 100, 2) := by decide +kernel
theorem dX3_fallingIn_32 : decode cX3_fallingIn 32 = .ok (.iconst 2, 1) := by decide +kernel
theorem dX3_fallingIn_33 : decode cX3_fallingIn 33 = .ok (.aload_n 0, 1) := by decide +kernel
theorem dX3_fallingIn_34 : decode cX3_fallingIn 34 = .ok (.getfield 47, 3) := by decide +kernel
theorem dX3_fallingIn_37 : decode cX3_fallingIn 37 = .ok (.imul, 1) := by decide +kernel
theorem dX3_fallingIn_38 : decode cX3_fallingIn 38 = .ok (.invokestatic 121, 3) := by decide +kernel
theorem dX3_fallingIn_41 : decode cX3_fallingIn 41 = .ok (.goto 7, 3) := by decide +kernel
theorem dX3_fallingIn_44 : decode cX3_fallingIn 44 = .ok (.aload_n 0, 1) := by decide +kernel
theorem dX3_fallingIn_45 : decode cX3_fallingIn 45 = .ok (.getfield 47, 3) := by decide +kernel
theorem dX3_fallingIn_48 : decode cX3_fallingIn 48 = .ok (.ireturn, 1) := by decide +kernel
theorem dX3_fewestPaths_0 : decode cX3_fewestPaths 0 = .ok (.iconst 1, 1) := by decide +kernel
theorem dX3_fewestPaths_1 : decode cX3_fewestPaths 1 = .ok (.iload_n 1, 1) := by decide +kernel
theorem dX3_fewestPaths_2 : decode cX3_fewestPaths 2 = .ok (.ishl, 1) := by decide +kernel
theorem dX3_fewestPaths_3 : decode cX3_fewestPaths 3 = .ok (.istore_n 3, 1) := by decide +kernel
theorem dX3_fewestPaths_4 : decode cX3_fewestPaths 4 = .ok (.iconst 0, 1) := by decide +kernel
theorem dX3_fewestPaths_5 : decode cX3_fewestPaths 5 = .ok (.istore 4, 2) := by decide +kernel
theorem dX3_fewestPaths_7 : decode cX3_fewestPaths 7 = .ok (.iload 4, 2) := by decide +kernel
theorem dX3_fewestPaths_9 : decode cX3_fewestPaths 9 = .ok (.bipush 6, 2) := by decide +kernel
theorem dX3_fewestPaths_11 : decode cX3_fewestPaths 11 = .ok (.if_icmp .ge 26, 3) := by decide +kernel
theorem dX3_fewestPaths_14 : decode cX3_fewestPaths 14 = .ok (.iload_n 3, 1) := by decide +kernel
theorem dX3_fewestPaths_15 : decode cX3_fewestPaths 15 = .ok (.iload_n 2, 1) := by decide +kernel
theorem dX3_fewestPaths_16 : decode cX3_fewestPaths 16 = .ok (.invokestatic 102, 3) := by decide +kernel
theorem dX3_fewestPaths_19 : decode cX3_fewestPaths 19 = .ok (.ifCond .eq 6, 3) := by decide +kernel
theorem dX3_fewestPaths_22 : decode cX3_fewestPaths 22 = .ok (.iload 4, 2) := by decide +kernel
theorem dX3_fewestPaths_24 : decode cX3_fewestPaths 24 = .ok (.ireturn, 1) := by decide +kernel
theorem dX3_fewestPaths_25 : decode cX3_fewestPaths 25 = .ok (.aload_n 0, 1) := by decide +kernel
theorem dX3_fewestPaths_26 : decode cX3_fewestPaths 26 = .ok (.iload_n 3, 1) := by decide +kernel
theorem dX3_fewestPaths_27 : decode cX3_fewestPaths 27 = .ok (.invokevirtual 146, 3) := by decide +kernel
theorem dX3_fewestPaths_30 : decode cX3_fewestPaths 30 = .ok (.istore_n 3, 1) := by decide +kernel
theorem dX3_fewestPaths_31 : decode cX3_fewestPaths 31 = .ok (.iinc 4 1, 3) := by decide +kernel
theorem dX3_fewestPaths_34 : decode cX3_fewestPaths 34 = .ok (.goto (-27), 3) := by decide +kernel
theorem dX3_fewestPaths_37 : decode cX3_fewestPaths 37 = .ok (.bipush (-2), 2) := by decide +kernel
theorem dX3_fewestPaths_39 : decode cX3_fewestPaths 39 = .ok (.ireturn, 1) := by decide +kernel
theorem dX3_widened_0 : decode cX3_widened 0 = .ok (.iload_n 1, 1) := by decide +kernel
theorem dX3_widened_1 : decode cX3_widened 1 = .ok (.istore_n 2, 1) := by decide +kernel
theorem dX3_widened_2 : decode cX3_widened 2 = .ok (.iconst 0, 1) := by decide +kernel
theorem dX3_widened_3 : decode cX3_widened 3 = .ok (.istore_n 3, 1) := by decide +kernel
theorem dX3_widened_4 : decode cX3_widened 4 = .ok (.iload_n 3, 1) := by decide +kernel
theorem dX3_widened_5 : decode cX3_widened 5 = .ok (.aload_n 0, 1) := by decide +kernel
theorem dX3_widened_6 : decode cX3_widened 6 = .ok (.getfield 56, 3) := by decide +kernel
theorem dX3_widened_9 : decode cX3_widened 9 = .ok (.if_icmp .ge 28, 3) := by decide +kernel
theorem dX3_widened_12 : decode cX3_widened 12 = .ok (.iload_n 1, 1) := by decide +kernel
theorem dX3_widened_13 : decode cX3_widened 13 = .ok (.iload_n 3, 1) := by decide +kernel
theorem dX3_widened_14 : decode cX3_widened 14 = .ok (.invokestatic 102, 3) := by decide +kernel
theorem dX3_widened_17 : decode cX3_widened 17 = .ok (.ifCond .eq 14, 3) := by decide +kernel
theorem dX3_widened_20 : decode cX3_widened 20 = .ok (.iload_n 2, 1) := by decide +kernel
theorem dX3_widened_21 : decode cX3_widened 21 = .ok (.aload_n 0, 1) := by decide +kernel
theorem dX3_widened_22 : decode cX3_widened 22 = .ok (.getfield 27, 3) := by decide +kernel
theorem dX3_widened_25 : decode cX3_widened 25 = .ok (.iload_n 3, 1) := by decide +kernel
theorem dX3_widened_26 : decode cX3_widened 26 = .ok (.invokestatic 89, 3) := by decide +kernel
theorem dX3_widened_29 : decode cX3_widened 29 = .ok (.ior, 1) := by decide +kernel
theorem dX3_widened_30 : decode cX3_widened 30 = .ok (.istore_n 2, 1) := by decide +kernel
theorem dX3_widened_31 : decode cX3_widened 31 = .ok (.iinc 3 1, 3) := by decide +kernel
theorem dX3_widened_34 : decode cX3_widened 34 = .ok (.goto (-30), 3) := by decide +kernel
theorem dX3_widened_37 : decode cX3_widened 37 = .ok (.iload_n 2, 1) := by decide +kernel
theorem dX3_widened_38 : decode cX3_widened 38 = .ok (.ireturn, 1) := by decide +kernel
theorem dX3_together_0 : decode cX3_together 0 = .ok (.iconst 1, 1) := by decide +kernel
theorem dX3_together_1 : decode cX3_together 1 = .ok (.iload_n 1, 1) := by decide +kernel
theorem dX3_together_2 : decode cX3_together 2 = .ok (.ishl, 1) := by decide +kernel
theorem dX3_together_3 : decode cX3_together 3 = .ok (.iload_n 2, 1) := by decide +kernel
theorem dX3_together_4 : decode cX3_together 4 = .ok (.iand, 1) := by decide +kernel
theorem dX3_together_5 : decode cX3_together 5 = .ok (.istore_n 3, 1) := by decide +kernel
theorem dX3_together_6 : decode cX3_together 6 = .ok (.iconst 1, 1) := by decide +kernel
theorem dX3_together_7 : decode cX3_together 7 = .ok (.istore 4, 2) := by decide +kernel
theorem dX3_together_9 : decode cX3_together 9 = .ok (.iload 4, 2) := by decide +kernel
theorem dX3_together_11 : decode cX3_together 11 = .ok (.bipush 6, 2) := by decide +kernel
theorem dX3_together_13 : decode cX3_together 13 = .ok (.if_icmp .ge 17, 3) := by decide +kernel
theorem dX3_together_16 : decode cX3_together 16 = .ok (.aload_n 0, 1) := by decide +kernel
theorem dX3_together_17 : decode cX3_together 17 = .ok (.iload_n 3, 1) := by decide +kernel
theorem dX3_together_18 : decode cX3_together 18 = .ok (.invokevirtual 146, 3) := by decide +kernel
theorem dX3_together_21 : decode cX3_together 21 = .ok (.iload_n 2, 1) := by decide +kernel
theorem dX3_together_22 : decode cX3_together 22 = .ok (.iand, 1) := by decide +kernel
theorem dX3_together_23 : decode cX3_together 23 = .ok (.istore_n 3, 1) := by decide +kernel
theorem dX3_together_24 : decode cX3_together 24 = .ok (.iinc 4 1, 3) := by decide +kernel
theorem dX3_together_27 : decode cX3_together 27 = .ok (.goto (-18), 3) := by decide +kernel
theorem dX3_together_30 : decode cX3_together 30 = .ok (.iload_n 3, 1) := by decide +kernel
theorem dX3_together_31 : decode cX3_together 31 = .ok (.ireturn, 1) := by decide +kernel
theorem dX3_countParts_0 : decode cX3_countParts 0 = .ok (.iconst 1, 1) := by decide +kernel
theorem dX3_countParts_1 : decode cX3_countParts 1 = .ok (.aload_n 0, 1) := by decide +kernel
theorem dX3_countParts_2 : decode cX3_countParts 2 = .ok (.getfield 56, 3) := by decide +kernel
theorem dX3_countParts_5 : decode cX3_countParts 5 = .ok (.ishl, 1) := by decide +kernel
theorem dX3_countParts_6 : decode cX3_countParts 6 = .ok (.iconst 1, 1) := by decide +kernel
theorem dX3_countParts_7 : decode cX3_countParts 7 = .ok (.isub, 1) := by decide +kernel
theorem dX3_countParts_8 : decode cX3_countParts 8 = .ok (.istore_n 1, 1) := by decide +kernel
theorem dX3_countParts_9 : decode cX3_countParts 9 = .ok (.iconst 0, 1) := by decide +kernel
theorem dX3_countParts_10 : decode cX3_countParts 10 = .ok (.istore_n 2, 1) := by decide +kernel
theorem dX3_countParts_11 : decode cX3_countParts 11 = .ok (.iconst 0, 1) := by decide +kernel
theorem dX3_countParts_12 : decode cX3_countParts 12 = .ok (.istore_n 3, 1) := by decide +kernel
theorem dX3_countParts_13 : decode cX3_countParts 13 = .ok (.iconst 0, 1) := by decide +kernel
theorem dX3_countParts_14 : decode cX3_countParts 14 = .ok (.istore 4, 2) := by decide +kernel
theorem dX3_countParts_16 : decode cX3_countParts 16 = .ok (.iload 4, 2) := by decide +kernel
theorem dX3_countParts_18 : decode cX3_countParts 18 = .ok (.aload_n 0, 1) := by decide +kernel
theorem dX3_countParts_19 : decode cX3_countParts 19 = .ok (.getfield 56, 3) := by decide +kernel
theorem dX3_countParts_22 : decode cX3_countParts 22 = .ok (.if_icmp .ge 31, 3) := by decide +kernel
theorem dX3_countParts_25 : decode cX3_countParts 25 = .ok (.iload_n 2, 1) := by decide +kernel
theorem dX3_countParts_26 : decode cX3_countParts 26 = .ok (.iload 4, 2) := by decide +kernel
theorem dX3_countParts_28 : decode cX3_countParts 28 = .ok (.invokestatic 102, 3) := by decide +kernel
theorem dX3_countParts_31 : decode cX3_countParts 31 = .ok (.ifCond .ne 16, 3) := by decide +kernel
theorem dX3_countParts_34 : decode cX3_countParts 34 = .ok (.iload_n 2, 1) := by decide +kernel
theorem dX3_countParts_35 : decode cX3_countParts 35 = .ok (.aload_n 0, 1) := by decide +kernel
theorem dX3_countParts_36 : decode cX3_countParts 36 = .ok (.iload 4, 2) := by decide +kernel
theorem dX3_countParts_38 : decode cX3_countParts 38 = .ok (.iload_n 1, 1) := by decide +kernel
theorem dX3_countParts_39 : decode cX3_countParts 39 = .ok (.invokevirtual 149, 3) := by decide +kernel
theorem dX3_countParts_42 : decode cX3_countParts 42 = .ok (.ior, 1) := by decide +kernel
theorem dX3_countParts_43 : decode cX3_countParts 43 = .ok (.istore_n 2, 1) := by decide +kernel
theorem dX3_countParts_44 : decode cX3_countParts 44 = .ok (.iinc 3 1, 3) := by decide +kernel
theorem dX3_countParts_47 : decode cX3_countParts 47 = .ok (.iinc 4 1, 3) := by decide +kernel
theorem dX3_countParts_50 : decode cX3_countParts 50 = .ok (.goto (-34), 3) := by decide +kernel
theorem dX3_countParts_53 : decode cX3_countParts 53 = .ok (.iload_n 3, 1) := by decide +kernel
theorem dX3_countParts_54 : decode cX3_countParts 54 = .ok (.ireturn, 1) := by decide +kernel
theorem dX3_fewestSentries_0 : decode cX3_fewestSentries 0 = .ok (.iconst 1, 1) := by decide +kernel
theorem dX3_fewestSentries_1 : decode cX3_fewestSentries 1 = .ok (.aload_n 0, 1) := by decide +kernel
theorem dX3_fewestSentries_2 : decode cX3_fewestSentries 2 = .ok (.getfield 56, 3) := by decide +kernel
theorem dX3_fewestSentries_5 : decode cX3_fewestSentries 5 = .ok (.ishl, 1) := by decide +kernel
theorem dX3_fewestSentries_6 : decode cX3_fewestSentries 6 = .ok (.iconst 1, 1) := by decide +kernel
theorem dX3_fewestSentries_7 : decode cX3_fewestSentries 7 = .ok (.isub, 1) := by decide +kernel
theorem dX3_fewestSentries_8 : decode cX3_fewestSentries 8 = .ok (.istore_n 1, 1) := by decide +kernel
theorem dX3_fewestSentries_9 : decode cX3_fewestSentries 9 = .ok (.iload_n 1, 1) := by decide +kernel
theorem dX3_fewestSentries_10 : decode cX3_fewestSentries 10 = .ok (.istore_n 2, 1) := by decide +kernel
theorem dX3_fewestSentries_11 : decode cX3_fewestSentries 11 = .ok (.iconst 1, 1) := by decide +kernel
theorem dX3_fewestSentries_12 : decode cX3_fewestSentries 12 = .ok (.istore_n 3, 1) := by decide +kernel
theorem dX3_fewestSentries_13 : decode cX3_fewestSentries 13 = .ok (.iload_n 3, 1) := by decide +kernel
theorem dX3_fewestSentries_14 : decode cX3_fewestSentries 14 = .ok (.iload_n 1, 1) := by decide +kernel
theorem dX3_fewestSentries_15 : decode cX3_fewestSentries 15 = .ok (.if_icmp .ge 31, 3) := by decide +kernel
theorem dX3_fewestSentries_18 : decode cX3_fewestSentries 18 = .ok (.iload_n 3, 1) := by decide +kernel
theorem dX3_fewestSentries_19 : decode cX3_fewestSentries 19 = .ok (.invokestatic 93, 3) := by decide +kernel
theorem dX3_fewestSentries_22 : decode cX3_fewestSentries 22 = .ok (.iload_n 2, 1) := by decide +kernel
theorem dX3_fewestSentries_23 : decode cX3_fewestSentries 23 = .ok (.invokestatic 93, 3) := by decide +kernel
theorem dX3_fewestSentries_26 : decode cX3_fewestSentries 26 = .ok (.if_icmp .ge 14, 3) := by decide +kernel
theorem dX3_fewestSentries_29 : decode cX3_fewestSentries 29 = .ok (.aload_n 0, 1) := by decide +kernel
theorem dX3_fewestSentries_30 : decode cX3_fewestSentries 30 = .ok (.iload_n 3, 1) := by decide +kernel
theorem dX3_fewestSentries_31 : decode cX3_fewestSentries 31 = .ok (.invokevirtual 146, 3) := by decide +kernel
theorem dX3_fewestSentries_34 : decode cX3_fewestSentries 34 = .ok (.iload_n 1, 1) := by decide +kernel
theorem dX3_fewestSentries_35 : decode cX3_fewestSentries 35 = .ok (.if_icmp .ne 5, 3) := by decide +kernel
theorem dX3_fewestSentries_38 : decode cX3_fewestSentries 38 = .ok (.iload_n 3, 1) := by decide +kernel
theorem dX3_fewestSentries_39 : decode cX3_fewestSentries 39 = .ok (.istore_n 2, 1) := by decide +kernel
theorem dX3_fewestSentries_40 : decode cX3_fewestSentries 40 = .ok (.iinc 3 1, 3) := by decide +kernel
theorem dX3_fewestSentries_43 : decode cX3_fewestSentries 43 = .ok (.goto (-30), 3) := by decide +kernel
theorem dX3_fewestSentries_46 : decode cX3_fewestSentries 46 = .ok (.iload_n 2, 1) := by decide +kernel
theorem dX3_fewestSentries_47 : decode cX3_fewestSentries 47 = .ok (.ireturn, 1) := by decide +kernel
theorem dX3_peopleWithWealth_0 : decode cX3_peopleWithWealth 0 = .ok (.iconst 0, 1) := by decide +kernel
theorem dX3_peopleWithWealth_1 : decode cX3_peopleWithWealth 1 = .ok (.istore_n 2, 1) := by decide +kernel
theorem dX3_peopleWithWealth_2 : decode cX3_peopleWithWealth 2 = .ok (.iconst 0, 1) := by decide +kernel
theorem dX3_peopleWithWealth_3 : decode cX3_peopleWithWealth 3 = .ok (.istore_n 3, 1) := by decide +kernel
theorem dX3_peopleWithWealth_4 : decode cX3_peopleWithWealth 4 = .ok (.iload_n 3, 1) := by decide +kernel
theorem dX3_peopleWithWealth_5 : decode cX3_peopleWithWealth 5 = .ok (.aload_n 0, 1) := by decide +kernel
theorem dX3_peopleWithWealth_6 : decode cX3_peopleWithWealth 6 = .ok (.getfield 50, 3) := by decide +kernel
theorem dX3_peopleWithWealth_9 : decode cX3_peopleWithWealth 9 = .ok (.if_icmp .ge 24, 3) := by decide +kernel
theorem dX3_peopleWithWealth_12 : decode cX3_peopleWithWealth 12 = .ok (.aload_n 0, 1) := by decide +kernel
theorem dX3_peopleWithWealth_13 : decode cX3_peopleWithWealth 13 = .ok (.iload_n 3, 1) := by decide +kernel
theorem dX3_peopleWithWealth_14 : decode cX3_peopleWithWealth 14 = .ok (.iload_n 1, 1) := by decide +kernel
theorem dX3_peopleWithWealth_15 : decode cX3_peopleWithWealth 15 = .ok (.invokevirtual 109, 3) := by decide +kernel
theorem dX3_peopleWithWealth_18 : decode cX3_peopleWithWealth 18 = .ok (.ifCond .le 9, 3) := by decide +kernel
theorem dX3_peopleWithWealth_21 : decode cX3_peopleWithWealth 21 = .ok (.iload_n 2, 1) := by decide +kernel
theorem dX3_peopleWithWealth_22 : decode cX3_peopleWithWealth 22 = .ok (.iconst 1, 1) := by decide +kernel
theorem dX3_peopleWithWealth_23 : decode cX3_peopleWithWealth 23 = .ok (.iload_n 3, 1) := by decide +kernel
theorem dX3_peopleWithWealth_24 : decode cX3_peopleWithWealth 24 = .ok (.ishl, 1) := by decide +kernel
theorem dX3_peopleWithWealth_25 : decode cX3_peopleWithWealth 25 = .ok (.ior, 1) := by decide +kernel
theorem dX3_peopleWithWealth_26 : decode cX3_peopleWithWealth 26 = .ok (.istore_n 2, 1) := by decide +kernel
theorem dX3_peopleWithWealth_27 : decode cX3_peopleWithWealth 27 = .ok (.iinc 3 1, 3) := by decide +kernel
theorem dX3_peopleWithWealth_30 : decode cX3_peopleWithWealth 30 = .ok (.goto (-26), 3) := by decide +kernel
theorem dX3_peopleWithWealth_33 : decode cX3_peopleWithWealth 33 = .ok (.iload_n 2, 1) := by decide +kernel
theorem dX3_peopleWithWealth_34 : decode cX3_peopleWithWealth 34 = .ok (.ireturn, 1) := by decide +kernel
theorem dX3_fewestRulers_0 : decode cX3_fewestRulers 0 = .ok (.iconst 1, 1) := by decide +kernel
theorem dX3_fewestRulers_1 : decode cX3_fewestRulers 1 = .ok (.aload_n 0, 1) := by decide +kernel
theorem dX3_fewestRulers_2 : decode cX3_fewestRulers 2 = .ok (.getfield 50, 3) := by decide +kernel
theorem dX3_fewestRulers_5 : decode cX3_fewestRulers 5 = .ok (.ishl, 1) := by decide +kernel
theorem dX3_fewestRulers_6 : decode cX3_fewestRulers 6 = .ok (.iconst 1, 1) := by decide +kernel
theorem dX3_fewestRulers_7 : decode cX3_fewestRulers 7 = .ok (.isub, 1) := by decide +kernel
theorem dX3_fewestRulers_8 : decode cX3_fewestRulers 8 = .ok (.istore_n 2, 1) := by decide +kernel
theorem dX3_fewestRulers_9 : decode cX3_fewestRulers 9 = .ok (.aload_n 0, 1) := by decide +kernel
theorem dX3_fewestRulers_10 : decode cX3_fewestRulers 10 = .ok (.iload_n 2, 1) := by decide +kernel
theorem dX3_fewestRulers_11 : decode cX3_fewestRulers 11 = .ok (.iload_n 1, 1) := by decide +kernel
theorem dX3_fewestRulers_12 : decode cX3_fewestRulers 12 = .ok (.invokevirtual 152, 3) := by decide +kernel
theorem dX3_fewestRulers_15 : decode cX3_fewestRulers 15 = .ok (.istore_n 3, 1) := by decide +kernel
theorem dX3_fewestRulers_16 : decode cX3_fewestRulers 16 = .ok (.iload_n 3, 1) := by decide +kernel
theorem dX3_fewestRulers_17 : decode cX3_fewestRulers 17 = .ok (.ifCond .ne 6, 3) := by decide +kernel
theorem dX3_fewestRulers_20 : decode cX3_fewestRulers 20 = .ok (.bipush (-2), 2) := by decide +kernel
theorem dX3_fewestRulers_22 : decode cX3_fewestRulers 22 = .ok (.ireturn, 1) := by decide +kernel
theorem dX3_fewestRulers_23 : decode cX3_fewestRulers 23 = .ok (.iload_n 2, 1) := by decide +kernel
theorem dX3_fewestRulers_24 : decode cX3_fewestRulers 24 = .ok (.istore 4, 2) := by decide +kernel
theorem dX3_fewestRulers_26 : decode cX3_fewestRulers 26 = .ok (.iconst 1, 1) := by decide +kernel
theorem dX3_fewestRulers_27 : decode cX3_fewestRulers 27 = .ok (.istore 5, 2) := by decide +kernel
theorem dX3_fewestRulers_29 : decode cX3_fewestRulers 29 = .ok (.iload 5, 2) := by decide +kernel
theorem dX3_fewestRulers_31 : decode cX3_fewestRulers 31 = .ok (.iload_n 2, 1) := by decide +kernel
theorem dX3_fewestRulers_32 : decode cX3_fewestRulers 32 = .ok (.if_icmp .ge 39, 3) := by decide +kernel
theorem dX3_fewestRulers_35 : decode cX3_fewestRulers 35 = .ok (.iload 5, 2) := by decide +kernel
theorem dX3_fewestRulers_37 : decode cX3_fewestRulers 37 = .ok (.invokestatic 93, 3) := by decide +kernel
theorem dX3_fewestRulers_40 : decode cX3_fewestRulers 40 = .ok (.iload 4, 2) := by decide +kernel
theorem dX3_fewestRulers_42 : decode cX3_fewestRulers 42 = .ok (.invokestatic 93, 3) := by decide +kernel
theorem dX3_fewestRulers_45 : decode cX3_fewestRulers 45 = .ok (.if_icmp .ge 20, 3) := by decide +kernel
theorem dX3_fewestRulers_48 : decode cX3_fewestRulers 48 = .ok (.iconst 2, 1) := by decide +kernel
theorem dX3_fewestRulers_49 : decode cX3_fewestRulers 49 = .ok (.aload_n 0, 1) := by decide +kernel
theorem dX3_fewestRulers_50 : decode cX3_fewestRulers 50 = .ok (.iload 5, 2) := by decide +kernel
theorem dX3_fewestRulers_52 : decode cX3_fewestRulers 52 = .ok (.iload_n 1, 1) := by decide +kernel
theorem dX3_fewestRulers_53 : decode cX3_fewestRulers 53 = .ok (.invokevirtual 152, 3) := by decide +kernel
theorem dX3_fewestRulers_56 : decode cX3_fewestRulers 56 = .ok (.imul, 1) := by decide +kernel
theorem dX3_fewestRulers_57 : decode cX3_fewestRulers 57 = .ok (.iload_n 3, 1) := by decide +kernel
theorem dX3_fewestRulers_58 : decode cX3_fewestRulers 58 = .ok (.if_icmp .le 7, 3) := by decide +kernel
theorem dX3_fewestRulers_61 : decode cX3_fewestRulers 61 = .ok (.iload 5, 2) := by decide +kernel
theorem dX3_fewestRulers_63 : decode cX3_fewestRulers 63 = .ok (.istore 4, 2) := by decide +kernel
theorem dX3_fewestRulers_65 : decode cX3_fewestRulers 65 = .ok (.iinc 5 1, 3) := by decide +kernel
theorem dX3_fewestRulers_68 : decode cX3_fewestRulers 68 = .ok (.goto (-39), 3) := by decide +kernel
theorem dX3_fewestRulers_71 : decode cX3_fewestRulers 71 = .ok (.iload 4, 2) := by decide +kernel
theorem dX3_fewestRulers_73 : decode cX3_fewestRulers 73 = .ok (.ireturn, 1) := by decide +kernel
theorem dX4_init_0 : decode cX4_init 0 = .ok (.aload_n 0, 1) := by decide +kernel
theorem dX4_init_1 : decode cX4_init 1 = .ok (.invokespecial 3, 3) := by decide +kernel
theorem dX4_init_4 : decode cX4_init 4 = .ok (.return_, 1) := by decide +kernel
theorem dX4_set_0 : decode cX4_set 0 = .ok (.aload_n 0, 1) := by decide +kernel
theorem dX4_set_1 : decode cX4_set 1 = .ok (.iload_n 1, 1) := by decide +kernel
theorem dX4_set_2 : decode cX4_set 2 = .ok (.putfield 9, 3) := by decide +kernel
theorem dX4_set_5 : decode cX4_set 5 = .ok (.aload_n 0, 1) := by decide +kernel
theorem dX4_set_6 : decode cX4_set 6 = .ok (.iload_n 2, 1) := by decide +kernel
theorem dX4_set_7 : decode cX4_set 7 = .ok (.putfield 15, 3) := by decide +kernel
theorem dX4_set_10 : decode cX4_set 10 = .ok (.aload_n 0, 1) := by decide +kernel
theorem dX4_set_11 : decode cX4_set 11 = .ok (.iload_n 3, 1) := by decide +kernel
theorem dX4_set_12 : decode cX4_set 12 = .ok (.putfield 18, 3) := by decide +kernel
theorem dX4_set_15 : decode cX4_set 15 = .ok (.return_, 1) := by decide +kernel
theorem dX4_blow_0 : decode cX4_blow 0 = .ok (.iconst 0, 1) := by decide +kernel
theorem dX4_blow_1 : decode cX4_blow 1 = .ok (.istore_n 2, 1) := by decide +kernel
theorem dX4_blow_2 : decode cX4_blow 2 = .ok (.iconst 0, 1) := by decide +kernel
theorem dX4_blow_3 : decode cX4_blow 3 = .ok (.istore_n 3, 1) := by decide +kernel
theorem dX4_blow_4 : decode cX4_blow 4 = .ok (.iload_n 3, 1) := by decide +kernel
theorem dX4_blow_5 : decode cX4_blow 5 = .ok (.aload_n 1, 1) := by decide +kernel
theorem dX4_blow_6 : decode cX4_blow 6 = .ok (.getfield 21, 3) := by decide +kernel
theorem dX4_blow_9 : decode cX4_blow 9 = .ok (.if_icmp .ge 80, 3) := by decide +kernel
theorem dX4_blow_12 : decode cX4_blow 12 = .ok (.aload_n 1, 1) := by decide +kernel
theorem dX4_blow_13 : decode cX4_blow 13 = .ok (.iload_n 3, 1) := by decide +kernel
theorem dX4_blow_14 : decode cX4_blow 14 = .ok (.invokevirtual 26, 3) := by decide +kernel
theorem dX4_blow_17 : decode cX4_blow 17 = .ok (.ifCond .ne 66, 3) := by decide +kernel
theorem dX4_blow_20 : decode cX4_blow 20 = .ok (.aload_n 0, 1) := by decide +kernel
theorem dX4_blow_21 : decode cX4_blow 21 = .ok (.getfield 9, 3) := by decide +kernel
theorem dX4_blow_24 : decode cX4_blow 24 = .ok (.iload_n 3, 1) := by decide +kernel
theorem dX4_blow_25 : decode cX4_blow 25 = .ok (.invokestatic 30, 3) := by decide +kernel
theorem dX4_blow_28 : decode cX4_blow 28 = .ok (.ifCond .eq 55, 3) := by decide +kernel
theorem dX4_blow_31 : decode cX4_blow 31 = .ok (.aload_n 0, 1) := by decide +kernel
theorem dX4_blow_32 : decode cX4_blow 32 = .ok (.bipush 75, 2) := by decide +kernel
theorem dX4_blow_34 : decode cX4_blow 34 = .ok (.aload_n 0, 1) := by decide +kernel
theorem dX4_blow_35 : decode cX4_blow 35 = .ok (.getfield 15, 3) := by decide +kernel
theorem dX4_blow_38 : decode cX4_blow 38 = .ok (.imul, 1) := by decide +kernel
theorem dX4_blow_39 : decode cX4_blow 39 = .ok (.bipush 74, 2) := by decide +kernel
theorem dX4_blow_41 : decode cX4_blow 41 = .ok (.iadd, 1) := by decide +kernel
theorem dX4_blow_42 : decode cX4_blow 42 = .ok (.ldc 36, 2) := by decide +kernel
theorem dX4_blow_44 : decode cX4_blow 44 = .ok (.irem, 1) := by decide +kernel
theorem dX4_blow_45 : decode cX4_blow 45 = .ok (.putfield 15, 3) := by decide +kernel
theorem dX4_blow_48 : decode cX4_blow 48 = .ok (.aload_n 0, 1) := by decide +kernel
theorem dX4_blow_49 : decode cX4_blow 49 = .ok (.getfield 15, 3) := by decide +kernel
theorem dX4_blow_52 : decode cX4_blow 52 = .ok (.bipush 100, 2) := by decide +kernel
theorem dX4_blow_54 : decode cX4_blow 54 = .ok (.irem, 1) := by decide +kernel
theorem dX4_blow_55 : decode cX4_blow 55 = .ok (.aload_n 1, 1) := by decide +kernel
theorem dX4_blow_56 : decode cX4_blow 56 = .ok (.aload_n 0, 1) := by decide +kernel
theorem dX4_blow_57 : decode cX4_blow 57 = .ok (.getfield 9, 3) := by decide +kernel
theorem dX4_blow_60 : decode cX4_blow 60 = .ok (.iload_n 3, 1) := by decide +kernel
theorem dX4_blow_61 : decode cX4_blow 61 = .ok (.invokevirtual 37, 3) := by decide +kernel
theorem dX4_blow_64 : decode cX4_blow 64 = .ok (.if_icmp .ge 19, 3) := by decide +kernel
theorem dX4_blow_67 : decode cX4_blow 67 = .ok (.aload_n 0, 1) := by decide +kernel
theorem dX4_blow_68 : decode cX4_blow 68 = .ok (.aload_n 0, 1) := by decide +kernel
theorem dX4_blow_69 : decode cX4_blow 69 = .ok (.getfield 9, 3) := by decide +kernel
theorem dX4_blow_72 : decode cX4_blow 72 = .ok (.iload_n 3, 1) := by decide +kernel
theorem dX4_blow_73 : decode cX4_blow 73 = .ok (.iconst 0, 1) := by decide +kernel
theorem dX4_blow_74 : decode cX4_blow 74 = .ok (.invokestatic 40, 3) := by decide +kernel
theorem dX4_blow_77 : decode cX4_blow 77 = .ok (.putfield 9, 3) := by decide +kernel
theorem dX4_blow_80 : decode cX4_blow 80 = .ok (.iinc 2 1, 3) := by decide +kernel
theorem dX4_blow_83 : decode cX4_blow 83 = .ok (.iinc 3 1, 3) := by decide +kernel
theorem dX4_blow_86 : decode cX4_blow 86 = .ok (.goto (-82), 3) := by decide +kernel
theorem dX4_blow_89 : decode cX4_blow 89 = .ok (.aload_n 0, 1) := by decide +kernel
theorem dX4_blow_90 : decode cX4_blow 90 = .ok (.dup, 1) := by decide +kernel
theorem dX4_blow_91 : decode cX4_blow 91 = .ok (.getfield 18, 3) := by decide +kernel
theorem dX4_blow_94 : decode cX4_blow 94 = .ok (.iconst 1, 1) := by decide +kernel
theorem dX4_blow_95 : decode cX4_blow 95 = .ok (.iadd, 1) := by decide +kernel
theorem dX4_blow_96 : decode cX4_blow 96 = .ok (.putfield 18, 3) := by decide +kernel
theorem dX4_blow_99 : decode cX4_blow 99 = .ok (.iload_n 2, 1) := by decide +kernel
theorem dX4_blow_100 : decode cX4_blow 100 = .ok (.ireturn, 1) := by decide +kernel
theorem dX5_init_0 : decode cX5_init 0 = .ok (.aload_n 0, 1) := by decide +kernel
theorem dX5_init_1 : decode cX5_init 1 = .ok (.invokespecial 3, 3) := by decide +kernel
theorem dX5_init_4 : decode cX5_init 4 = .ok (.return_, 1) := by decide +kernel
theorem dX5_set_0 : decode cX5_set 0 = .ok (.lload_n 1, 1) := by decide +kernel
theorem dX5_set_1 : decode cX5_set 1 = .ok (.lload_n 3, 1) := by decide +kernel
theorem dX5_set_2 : decode cX5_set 2 = .ok (.invokestatic 9, 3) := by decide +kernel
theorem dX5_set_5 : decode cX5_set 5 = .ok (.lstore 5, 2) := by decide +kernel
theorem dX5_set_7 : decode cX5_set 7 = .ok (.aload_n 0, 1) := by decide +kernel
theorem dX5_set_8 : decode cX5_set 8 = .ok (.lload 5, 2) := by decide +kernel
theorem dX5_set_10 : decode cX5_set 10 = .ok (.lconst 0, 1) := by decide +kernel
theorem dX5_set_11 : decode cX5_set 11 = .ok (.lcmp, 1) := by decide +kernel
theorem dX5_set_12 : decode cX5_set 12 = .ok (.ifCond .le 10, 3) := by decide +kernel
theorem dX5_set_15 : decode cX5_set 15 = .ok (.lload_n 1, 1) := by decide +kernel
theorem dX5_set_16 : decode cX5_set 16 = .ok (.lload 5, 2) := by decide +kernel
theorem dX5_set_18 : decode cX5_set 18 = .ok (.ldiv, 1) := by decide +kernel
theorem dX5_set_19 : decode cX5_set 19 = .ok (.goto 4, 3) := by decide +kernel
theorem dX5_set_22 : decode cX5_set 22 = .ok (.lload_n 1, 1) := by decide +kernel
theorem dX5_set_23 : decode cX5_set 23 = .ok (.putfield 15, 3) := by decide +kernel
theorem dX5_set_26 : decode cX5_set 26 = .ok (.aload_n 0, 1) := by decide +kernel
theorem dX5_set_27 : decode cX5_set 27 = .ok (.lload 5, 2) := by decide +kernel
theorem dX5_set_29 : decode cX5_set 29 = .ok (.lconst 0, 1) := by decide +kernel
theorem dX5_set_30 : decode cX5_set 30 = .ok (.lcmp, 1) := by decide +kernel
theorem dX5_set_31 : decode cX5_set 31 = .ok (.ifCond .le 10, 3) := by decide +kernel
theorem dX5_set_34 : decode cX5_set 34 = .ok (.lload_n 3, 1) := by decide +kernel
theorem dX5_set_35 : decode cX5_set 35 = .ok (.lload 5, 2) := by decide +kernel
theorem dX5_set_37 : decode cX5_set 37 = .ok (.ldiv, 1) := by decide +kernel
theorem dX5_set_38 : decode cX5_set 38 = .ok (.goto 4, 3) := by decide +kernel
theorem dX5_set_41 : decode cX5_set 41 = .ok (.lload_n 3, 1) := by decide +kernel
theorem dX5_set_42 : decode cX5_set 42 = .ok (.putfield 19, 3) := by decide +kernel
theorem dX5_set_45 : decode cX5_set 45 = .ok (.return_, 1) := by decide +kernel
theorem dX5_commonDivisor_0 : decode cX5_commonDivisor 0 = .ok (.lload_n 0, 1) := by decide +kernel
theorem dX5_commonDivisor_1 : decode cX5_commonDivisor 1 = .ok (.lstore 4, 2) := by decide +kernel
theorem dX5_commonDivisor_3 : decode cX5_commonDivisor 3 = .ok (.lload_n 2, 1) := by decide +kernel
theorem dX5_commonDivisor_4 : decode cX5_commonDivisor 4 = .ok (.lstore 6, 2) := by decide +kernel
theorem dX5_commonDivisor_6 : decode cX5_commonDivisor 6 = .ok (.iconst 0, 1) := by decide +kernel
theorem dX5_commonDivisor_7 : decode cX5_commonDivisor 7 = .ok (.istore 8, 2) := by decide +kernel
theorem dX5_commonDivisor_9 : decode cX5_commonDivisor 9 = .ok (.iload 8, 2) := by decide +kernel
theorem dX5_commonDivisor_11 : decode cX5_commonDivisor 11 = .ok (.bipush 100, 2) := by decide +kernel
theorem dX5_commonDivisor_13 : decode cX5_commonDivisor 13 = .ok (.if_icmp .ge 31, 3) := by decide +kernel
theorem dX5_commonDivisor_16 : decode cX5_commonDivisor 16 = .ok (.lload 6, 2) := by decide +kernel
theorem dX5_commonDivisor_18 : decode cX5_commonDivisor 18 = .ok (.lconst 0, 1) := by decide +kernel
theorem dX5_commonDivisor_19 : decode cX5_commonDivisor 19 = .ok (.lcmp, 1) := by decide +kernel
theorem dX5_commonDivisor_20 : decode cX5_commonDivisor 20 = .ok (.ifCond .eq 24, 3) := by decide +kernel
theorem dX5_commonDivisor_23 : decode cX5_commonDivisor 23 = .ok (.lload 4, 2) := by decide +kernel
theorem dX5_commonDivisor_25 : decode cX5_commonDivisor 25 = .ok (.lload 6, 2) := by decide +kernel
theorem dX5_commonDivisor_27 : decode cX5_commonDivisor 27 = .ok (.lrem, 1) := by decide +kernel
theorem dX5_commonDivisor_28 : decode cX5_commonDivisor 28 = .ok (.lstore 9, 2) := by decide +kernel
theorem dX5_commonDivisor_30 : decode cX5_commonDivisor 30 = .ok (.lload 6, 2) := by decide +kernel
theorem dX5_commonDivisor_32 : decode cX5_commonDivisor 32 = .ok (.lstore 4, 2) := by decide +kernel
theorem dX5_commonDivisor_34 : decode cX5_commonDivisor 34 = .ok (.lload 9, 2) := by decide +kernel
theorem dX5_commonDivisor_36 : decode cX5_commonDivisor 36 = .ok (.lstore 6, 2) := by decide +kernel
theorem dX5_commonDivisor_38 : decode cX5_commonDivisor 38 = .ok (.iinc 8 1, 3) := by decide +kernel
theorem dX5_commonDivisor_41 : decode cX5_commonDivisor 41 = .ok (.goto (-32), 3) := by decide +kernel
theorem dX5_commonDivisor_44 : decode cX5_commonDivisor 44 = .ok (.lload 4, 2) := by decide +kernel
theorem dX5_commonDivisor_46 : decode cX5_commonDivisor 46 = .ok (.lreturn, 1) := by decide +kernel
theorem dX5_setPower_0 : decode cX5_setPower 0 = .ok (.aload_n 1, 1) := by decide +kernel
theorem dX5_setPower_1 : decode cX5_setPower 1 = .ok (.iload_n 3, 1) := by decide +kernel
theorem dX5_setPower_2 : decode cX5_setPower 2 = .ok (.iload_n 2, 1) := by decide +kernel
theorem dX5_setPower_3 : decode cX5_setPower 3 = .ok (.invokevirtual 22, 3) := by decide +kernel
theorem dX5_setPower_6 : decode cX5_setPower 6 = .ok (.istore 4, 2) := by decide +kernel
theorem dX5_setPower_8 : decode cX5_setPower 8 = .ok (.aload_n 1, 1) := by decide +kernel
theorem dX5_setPower_9 : decode cX5_setPower 9 = .ok (.iload_n 2, 1) := by decide +kernel
theorem dX5_setPower_10 : decode cX5_setPower 10 = .ok (.invokevirtual 28, 3) := by decide +kernel
theorem dX5_setPower_13 : decode cX5_setPower 13 = .ok (.iconst 1, 1) := by decide +kernel
theorem dX5_setPower_14 : decode cX5_setPower 14 = .ok (.iload_n 3, 1) := by decide +kernel
theorem dX5_setPower_15 : decode cX5_setPower 15 = .ok (.ishl, 1) := by decide +kernel
theorem dX5_setPower_16 : decode cX5_setPower 16 = .ok (.iconst (-1), 1) := by decide +kernel
theorem dX5_setPower_17 : decode cX5_setPower 17 = .ok (.ixor, 1) := by decide +kernel
theorem dX5_setPower_18 : decode cX5_setPower 18 = .ok (.iand, 1) := by decide +kernel
theorem dX5_setPower_19 : decode cX5_setPower 19 = .ok (.istore 5, 2) := by decide +kernel
theorem dX5_setPower_21 : decode cX5_setPower 21 = .ok (.iload 4, 2) := by decide +kernel
theorem dX5_setPower_23 : decode cX5_setPower 23 = .ok (.aload_n 1, 1) := by decide +kernel
theorem dX5_setPower_24 : decode cX5_setPower 24 = .ok (.iload 5, 2) := by decide +kernel
theorem dX5_setPower_26 : decode cX5_setPower 26 = .ok (.iload_n 2, 1) := by decide +kernel
theorem dX5_setPower_27 : decode cX5_setPower 27 = .ok (.invokevirtual 32, 3) := by decide +kernel
theorem dX5_setPower_30 : decode cX5_setPower 30 = .ok (.iadd, 1) := by decide +kernel
theorem dX5_setPower_31 : decode cX5_setPower 31 = .ok (.istore 6, 2) := by decide +kernel
theorem dX5_setPower_33 : decode cX5_setPower 33 = .ok (.iconst 0, 1) := by decide +kernel
theorem dX5_setPower_34 : decode cX5_setPower 34 = .ok (.istore 7, 2) := by decide +kernel
theorem dX5_setPower_36 : decode cX5_setPower 36 = .ok (.iconst 0, 1) := by decide +kernel
theorem dX5_setPower_37 : decode cX5_setPower 37 = .ok (.istore 8, 2) := by decide +kernel
theorem dX5_setPower_39 : decode cX5_setPower 39 = .ok (.iconst 0, 1) := by decide +kernel
theorem dX5_setPower_40 : decode cX5_setPower 40 = .ok (.istore 9, 2) := by decide +kernel
theorem dX5_setPower_42 : decode cX5_setPower 42 = .ok (.iload 9, 2) := by decide +kernel
theorem dX5_setPower_44 : decode cX5_setPower 44 = .ok (.iload 5, 2) := by decide +kernel
theorem dX5_setPower_46 : decode cX5_setPower 46 = .ok (.if_icmp .gt 55, 3) := by decide +kernel
theorem dX5_setPower_49 : decode cX5_setPower 49 = .ok (.iload 9, 2) := by decide +kernel
theorem dX5_setPower_51 : decode cX5_setPower 51 = .ok (.iload 5, 2) := by decide +kernel
theorem dX5_setPower_53 : decode cX5_setPower 53 = .ok (.iconst (-1), 1) := by decide +kernel
theorem dX5_setPower_54 : decode cX5_setPower 54 = .ok (.ixor, 1) := by decide +kernel
theorem dX5_setPower_55 : decode cX5_setPower 55 = .ok (.iand, 1) := by decide +kernel
theorem dX5_setPower_56 : decode cX5_setPower 56 = .ok (.ifCond .ne 39, 3) := by decide +kernel
theorem dX5_setPower_59 : decode cX5_setPower 59 = .ok (.aload_n 1, 1) := by decide +kernel
theorem dX5_setPower_60 : decode cX5_setPower 60 = .ok (.iload 9, 2) := by decide +kernel
theorem dX5_setPower_62 : decode cX5_setPower 62 = .ok (.iload_n 2, 1) := by decide +kernel
theorem dX5_setPower_63 : decode cX5_setPower 63 = .ok (.invokevirtual 32, 3) := by decide +kernel
theorem dX5_setPower_66 : decode cX5_setPower 66 = .ok (.istore 10, 2) := by decide +kernel
theorem dX5_setPower_68 : decode cX5_setPower 68 = .ok (.iinc 7 1, 3) := by decide +kernel
theorem dX5_setPower_71 : decode cX5_setPower 71 = .ok (.iconst 2, 1) := by decide +kernel
theorem dX5_setPower_72 : decode cX5_setPower 72 = .ok (.iload 10, 2) := by decide +kernel
theorem dX5_setPower_74 : decode cX5_setPower 74 = .ok (.imul, 1) := by decide +kernel
theorem dX5_setPower_75 : decode cX5_setPower 75 = .ok (.iload 6, 2) := by decide +kernel
theorem dX5_setPower_77 : decode cX5_setPower 77 = .ok (.if_icmp .gt 18, 3) := by decide +kernel
theorem dX5_setPower_80 : decode cX5_setPower 80 = .ok (.iconst 2, 1) := by decide +kernel
theorem dX5_setPower_81 : decode cX5_setPower 81 = .ok (.iload 10, 2) := by decide +kernel
theorem dX5_setPower_83 : decode cX5_setPower 83 = .ok (.iload 4, 2) := by decide +kernel
theorem dX5_setPower_85 : decode cX5_setPower 85 = .ok (.iadd, 1) := by decide +kernel
theorem dX5_setPower_86 : decode cX5_setPower 86 = .ok (.imul, 1) := by decide +kernel
theorem dX5_setPower_87 : decode cX5_setPower 87 = .ok (.iload 6, 2) := by decide +kernel
theorem dX5_setPower_89 : decode cX5_setPower 89 = .ok (.if_icmp .le 6, 3) := by decide +kernel
theorem dX5_setPower_92 : decode cX5_setPower 92 = .ok (.iinc 8 1, 3) := by decide +kernel
theorem dX5_setPower_95 : decode cX5_setPower 95 = .ok (.iinc 9 1, 3) := by decide +kernel
theorem dX5_setPower_98 : decode cX5_setPower 98 = .ok (.goto (-56), 3) := by decide +kernel
theorem dX5_setPower_101 : decode cX5_setPower 101 = .ok (.aload_n 0, 1) := by decide +kernel
theorem dX5_setPower_102 : decode cX5_setPower 102 = .ok (.iload 8, 2) := by decide +kernel
theorem dX5_setPower_104 : decode cX5_setPower 104 = .ok (.i2l, 1) := by decide +kernel
theorem dX5_setPower_105 : decode cX5_setPower 105 = .ok (.iload 7, 2) := by decide +kernel
theorem dX5_setPower_107 : decode cX5_setPower 107 = .ok (.i2l, 1) := by decide +kernel
theorem dX5_setPower_108 : decode cX5_setPower 108 = .ok (.invokevirtual 35, 3) := by decide +kernel
theorem dX5_setPower_111 : decode cX5_setPower 111 = .ok (.return_, 1) := by decide +kernel
theorem dX5_setHolding_0 : decode cX5_setHolding 0 = .ok (.lconst 1, 1) := by decide +kernel
theorem dX5_setHolding_1 : decode cX5_setHolding 1 = .ok (.lstore_n 3, 1) := by decide +kernel
theorem dX5_setHolding_2 : decode cX5_setHolding 2 = .ok (.lconst 1, 1) := by decide +kernel
theorem dX5_setHolding_3 : decode cX5_setHolding 3 = .ok (.lstore 5, 2) := by decide +kernel
theorem dX5_setHolding_5 : decode cX5_setHolding 5 = .ok (.iconst 0, 1) := by decide +kernel
theorem dX5_setHolding_6 : decode cX5_setHolding 6 = .ok (.istore 7, 2) := by decide +kernel
theorem dX5_setHolding_8 : decode cX5_setHolding 8 = .ok (.iload 7, 2) := by decide +kernel
theorem dX5_setHolding_10 : decode cX5_setHolding 10 = .ok (.iload_n 2, 1) := by decide +kernel
theorem dX5_setHolding_11 : decode cX5_setHolding 11 = .ok (.if_icmp .ge 25, 3) := by decide +kernel
theorem dX5_setHolding_14 : decode cX5_setHolding 14 = .ok (.lload_n 3, 1) := by decide +kernel
theorem dX5_setHolding_15 : decode cX5_setHolding 15 = .ok (.bipush 100, 2) := by decide +kernel
theorem dX5_setHolding_17 : decode cX5_setHolding 17 = .ok (.iload_n 1, 1) := by decide +kernel
theorem dX5_setHolding_18 : decode cX5_setHolding 18 = .ok (.isub, 1) := by decide +kernel
theorem dX5_setHolding_19 : decode cX5_setHolding 19 = .ok (.i2l, 1) := by decide +kernel
theorem dX5_setHolding_20 : decode cX5_setHolding 20 = .ok (.lmul, 1) := by decide +kernel
theorem dX5_setHolding_21 : decode cX5_setHolding 21 = .ok (.lstore_n 3, 1) := by decide +kernel
theorem dX5_setHolding_22 : decode cX5_setHolding 22 = .ok (.lload 5, 2) := by decide +kernel
theorem dX5_setHolding_24 : decode cX5_setHolding 24 = .ok (.ldc2_w 39, 3) := by decide +kernel
theorem dX5_setHolding_27 : decode cX5_setHolding 27 = .ok (.lmul, 1) := by decide +kernel
theorem dX5_setHolding_28 : decode cX5_setHolding 28 = .ok (.lstore 5, 2) := by decide +kernel
theorem dX5_setHolding_30 : decode cX5_setHolding 30 = .ok (.iinc 7 1, 3) := by decide +kernel
theorem dX5_setHolding_33 : decode cX5_setHolding 33 = .ok (.goto (-25), 3) := by decide +kernel
theorem dX5_setHolding_36 : decode cX5_setHolding 36 = .ok (.aload_n 0, 1) := by decide +kernel
theorem dX5_setHolding_37 : decode cX5_setHolding 37 = .ok (.lload_n 3, 1) := by decide +kernel
theorem dX5_setHolding_38 : decode cX5_setHolding 38 = .ok (.lload 5, 2) := by decide +kernel
theorem dX5_setHolding_40 : decode cX5_setHolding 40 = .ok (.invokevirtual 35, 3) := by decide +kernel
theorem dX5_setHolding_43 : decode cX5_setHolding 43 = .ok (.return_, 1) := by decide +kernel
theorem dX5_setMean_0 : decode cX5_setMean 0 = .ok (.lconst 0, 1) := by decide +kernel
theorem dX5_setMean_1 : decode cX5_setMean 1 = .ok (.lstore 4, 2) := by decide +kernel
theorem dX5_setMean_3 : decode cX5_setMean 3 = .ok (.iconst 0, 1) := by decide +kernel
theorem dX5_setMean_4 : decode cX5_setMean 4 = .ok (.istore 6, 2) := by decide +kernel
theorem dX5_setMean_6 : decode cX5_setMean 6 = .ok (.iload 6, 2) := by decide +kernel
theorem dX5_setMean_8 : decode cX5_setMean 8 = .ok (.aload_n 1, 1) := by decide +kernel
theorem dX5_setMean_9 : decode cX5_setMean 9 = .ok (.getfield 41, 3) := by decide +kernel
theorem dX5_setMean_12 : decode cX5_setMean 12 = .ok (.if_icmp .ge 65, 3) := by decide +kernel
theorem dX5_setMean_15 : decode cX5_setMean 15 = .ok (.aload_n 1, 1) := by decide +kernel
theorem dX5_setMean_16 : decode cX5_setMean 16 = .ok (.iload_n 2, 1) := by decide +kernel
theorem dX5_setMean_17 : decode cX5_setMean 17 = .ok (.iload 6, 2) := by decide +kernel
theorem dX5_setMean_19 : decode cX5_setMean 19 = .ok (.invokevirtual 45, 3) := by decide +kernel
theorem dX5_setMean_22 : decode cX5_setMean 22 = .ok (.istore 7, 2) := by decide +kernel
theorem dX5_setMean_24 : decode cX5_setMean 24 = .ok (.iload_n 2, 1) := by decide +kernel
theorem dX5_setMean_25 : decode cX5_setMean 25 = .ok (.iload 6, 2) := by decide +kernel
theorem dX5_setMean_27 : decode cX5_setMean 27 = .ok (.iconst 0, 1) := by decide +kernel
theorem dX5_setMean_28 : decode cX5_setMean 28 = .ok (.invokestatic 48, 3) := by decide +kernel
theorem dX5_setMean_31 : decode cX5_setMean 31 = .ok (.istore 8, 2) := by decide +kernel
theorem dX5_setMean_33 : decode cX5_setMean 33 = .ok (.lload 4, 2) := by decide +kernel
theorem dX5_setMean_35 : decode cX5_setMean 35 = .ok (.bipush 100, 2) := by decide +kernel
theorem dX5_setMean_37 : decode cX5_setMean 37 = .ok (.iload 7, 2) := by decide +kernel
theorem dX5_setMean_39 : decode cX5_setMean 39 = .ok (.isub, 1) := by decide +kernel
theorem dX5_setMean_40 : decode cX5_setMean 40 = .ok (.aload_n 1, 1) := by decide +kernel
theorem dX5_setMean_41 : decode cX5_setMean 41 = .ok (.iload_n 2, 1) := by decide +kernel
theorem dX5_setMean_42 : decode cX5_setMean 42 = .ok (.iload 6, 2) := by decide +kernel
theorem dX5_setMean_44 : decode cX5_setMean 44 = .ok (.iload_n 3, 1) := by decide +kernel
theorem dX5_setMean_45 : decode cX5_setMean 45 = .ok (.invokevirtual 54, 3) := by decide +kernel
theorem dX5_setMean_48 : decode cX5_setMean 48 = .ok (.imul, 1) := by decide +kernel
theorem dX5_setMean_49 : decode cX5_setMean 49 = .ok (.i2l, 1) := by decide +kernel
theorem dX5_setMean_50 : decode cX5_setMean 50 = .ok (.ladd, 1) := by decide +kernel
theorem dX5_setMean_51 : decode cX5_setMean 51 = .ok (.lstore 4, 2) := by decide +kernel
theorem dX5_setMean_53 : decode cX5_setMean 53 = .ok (.lload 4, 2) := by decide +kernel
theorem dX5_setMean_55 : decode cX5_setMean 55 = .ok (.iload 7, 2) := by decide +kernel
theorem dX5_setMean_57 : decode cX5_setMean 57 = .ok (.aload_n 1, 1) := by decide +kernel
theorem dX5_setMean_58 : decode cX5_setMean 58 = .ok (.iload 8, 2) := by decide +kernel
theorem dX5_setMean_60 : decode cX5_setMean 60 = .ok (.iload 6, 2) := by decide +kernel
theorem dX5_setMean_62 : decode cX5_setMean 62 = .ok (.iload_n 3, 1) := by decide +kernel
theorem dX5_setMean_63 : decode cX5_setMean 63 = .ok (.invokevirtual 54, 3) := by decide +kernel
theorem dX5_setMean_66 : decode cX5_setMean 66 = .ok (.imul, 1) := by decide +kernel
theorem dX5_setMean_67 : decode cX5_setMean 67 = .ok (.i2l, 1) := by decide +kernel
theorem dX5_setMean_68 : decode cX5_setMean 68 = .ok (.ladd, 1) := by decide +kernel
theorem dX5_setMean_69 : decode cX5_setMean 69 = .ok (.lstore 4, 2) := by decide +kernel
theorem dX5_setMean_71 : decode cX5_setMean 71 = .ok (.iinc 6 1, 3) := by decide +kernel
theorem dX5_setMean_74 : decode cX5_setMean 74 = .ok (.goto (-68), 3) := by decide +kernel
theorem dX5_setMean_77 : decode cX5_setMean 77 = .ok (.aload_n 0, 1) := by decide +kernel
theorem dX5_setMean_78 : decode cX5_setMean 78 = .ok (.lload 4, 2) := by decide +kernel
theorem dX5_setMean_80 : decode cX5_setMean 80 = .ok (.ldc2_w 39, 3) := by decide +kernel
theorem dX5_setMean_83 : decode cX5_setMean 83 = .ok (.invokevirtual 35, 3) := by decide +kernel
theorem dX5_setMean_86 : decode cX5_setMean 86 = .ok (.return_, 1) := by decide +kernel
theorem dX5_setKeeping_0 : decode cX5_setKeeping 0 = .ok (.lconst 0, 1) := by decide +kernel
theorem dX5_setKeeping_1 : decode cX5_setKeeping 1 = .ok (.lstore 5, 2) := by decide +kernel
theorem dX5_setKeeping_3 : decode cX5_setKeeping 3 = .ok (.lconst 1, 1) := by decide +kernel
theorem dX5_setKeeping_4 : decode cX5_setKeeping 4 = .ok (.lstore 7, 2) := by decide +kernel
theorem dX5_setKeeping_6 : decode cX5_setKeeping 6 = .ok (.iconst 0, 1) := by decide +kernel
theorem dX5_setKeeping_7 : decode cX5_setKeeping 7 = .ok (.istore 9, 2) := by decide +kernel
theorem dX5_setKeeping_9 : decode cX5_setKeeping 9 = .ok (.iload 9, 2) := by decide +kernel
theorem dX5_setKeeping_11 : decode cX5_setKeeping 11 = .ok (.aload_n 1, 1) := by decide +kernel
theorem dX5_setKeeping_12 : decode cX5_setKeeping 12 = .ok (.getfield 41, 3) := by decide +kernel
theorem dX5_setKeeping_15 : decode cX5_setKeeping 15 = .ok (.if_icmp .ge 17, 3) := by decide +kernel
theorem dX5_setKeeping_18 : decode cX5_setKeeping 18 = .ok (.lload 7, 2) := by decide +kernel
theorem dX5_setKeeping_20 : decode cX5_setKeeping 20 = .ok (.ldc2_w 39, 3) := by decide +kernel
theorem dX5_setKeeping_23 : decode cX5_setKeeping 23 = .ok (.lmul, 1) := by decide +kernel
theorem dX5_setKeeping_24 : decode cX5_setKeeping 24 = .ok (.lstore 7, 2) := by decide +kernel
theorem dX5_setKeeping_26 : decode cX5_setKeeping 26 = .ok (.iinc 9 1, 3) := by decide +kernel
theorem dX5_setKeeping_29 : decode cX5_setKeeping 29 = .ok (.goto (-20), 3) := by decide +kernel
theorem dX5_setKeeping_32 : decode cX5_setKeeping 32 = .ok (.iconst 0, 1) := by decide +kernel
theorem dX5_setKeeping_33 : decode cX5_setKeeping 33 = .ok (.istore 9, 2) := by decide +kernel
theorem dX5_setKeeping_35 : decode cX5_setKeeping 35 = .ok (.iload 9, 2) := by decide +kernel
theorem dX5_setKeeping_37 : decode cX5_setKeeping 37 = .ok (.iconst 1, 1) := by decide +kernel
theorem dX5_setKeeping_38 : decode cX5_setKeeping 38 = .ok (.aload_n 1, 1) := by decide +kernel
theorem dX5_setKeeping_39 : decode cX5_setKeeping 39 = .ok (.getfield 41, 3) := by decide +kernel
theorem dX5_setKeeping_42 : decode cX5_setKeeping 42 = .ok (.ishl, 1) := by decide +kernel
theorem dX5_setKeeping_43 : decode cX5_setKeeping 43 = .ok (.if_icmp .ge 37, 3) := by decide +kernel
theorem dX5_setKeeping_46 : decode cX5_setKeeping 46 = .ok (.aload_n 1, 1) := by decide +kernel
theorem dX5_setKeeping_47 : decode cX5_setKeeping 47 = .ok (.iload_n 3, 1) := by decide +kernel
theorem dX5_setKeeping_48 : decode cX5_setKeeping 48 = .ok (.iload_n 2, 1) := by decide +kernel
theorem dX5_setKeeping_49 : decode cX5_setKeeping 49 = .ok (.iload 9, 2) := by decide +kernel
theorem dX5_setKeeping_51 : decode cX5_setKeeping 51 = .ok (.invokestatic 57, 3) := by decide +kernel
theorem dX5_setKeeping_54 : decode cX5_setKeeping 54 = .ok (.invokevirtual 22, 3) := by decide +kernel
theorem dX5_setKeeping_57 : decode cX5_setKeeping 57 = .ok (.iload 4, 2) := by decide +kernel
theorem dX5_setKeeping_59 : decode cX5_setKeeping 59 = .ok (.if_icmp .lt 15, 3) := by decide +kernel
theorem dX5_setKeeping_62 : decode cX5_setKeeping 62 = .ok (.lload 5, 2) := by decide +kernel
theorem dX5_setKeeping_64 : decode cX5_setKeeping 64 = .ok (.aload_n 1, 1) := by decide +kernel
theorem dX5_setKeeping_65 : decode cX5_setKeeping 65 = .ok (.iload_n 2, 1) := by decide +kernel
theorem dX5_setKeeping_66 : decode cX5_setKeeping 66 = .ok (.iload 9, 2) := by decide +kernel
theorem dX5_setKeeping_68 : decode cX5_setKeeping 68 = .ok (.invokestatic 60, 3) := by decide +kernel
theorem dX5_setKeeping_71 : decode cX5_setKeeping 71 = .ok (.ladd, 1) := by decide +kernel
theorem dX5_setKeeping_72 : decode cX5_setKeeping 72 = .ok (.lstore 5, 2) := by decide +kernel
theorem dX5_setKeeping_74 : decode cX5_setKeeping 74 = .ok (.iinc 9 1, 3) := by decide +kernel
theorem dX5_setKeeping_77 : decode cX5_setKeeping 77 = .ok (.goto (-42), 3) := by decide +kernel
theorem dX5_setKeeping_80 : decode cX5_setKeeping 80 = .ok (.aload_n 0, 1) := by decide +kernel
theorem dX5_setKeeping_81 : decode cX5_setKeeping 81 = .ok (.lload 5, 2) := by decide +kernel
theorem dX5_setKeeping_83 : decode cX5_setKeeping 83 = .ok (.lload 7, 2) := by decide +kernel
theorem dX5_setKeeping_85 : decode cX5_setKeeping 85 = .ok (.invokevirtual 35, 3) := by decide +kernel
theorem dX5_setKeeping_88 : decode cX5_setKeeping 88 = .ok (.return_, 1) := by decide +kernel
theorem dX5_likelihood_0 : decode cX5_likelihood 0 = .ok (.lconst 1, 1) := by decide +kernel
theorem dX5_likelihood_1 : decode cX5_likelihood 1 = .ok (.lstore_n 3, 1) := by decide +kernel
theorem dX5_likelihood_2 : decode cX5_likelihood 2 = .ok (.iconst 0, 1) := by decide +kernel
theorem dX5_likelihood_3 : decode cX5_likelihood 3 = .ok (.istore 5, 2) := by decide +kernel
theorem dX5_likelihood_5 : decode cX5_likelihood 5 = .ok (.iload 5, 2) := by decide +kernel
theorem dX5_likelihood_7 : decode cX5_likelihood 7 = .ok (.aload_n 0, 1) := by decide +kernel
theorem dX5_likelihood_8 : decode cX5_likelihood 8 = .ok (.getfield 41, 3) := by decide +kernel
theorem dX5_likelihood_11 : decode cX5_likelihood 11 = .ok (.if_icmp .ge 42, 3) := by decide +kernel
theorem dX5_likelihood_14 : decode cX5_likelihood 14 = .ok (.aload_n 0, 1) := by decide +kernel
theorem dX5_likelihood_15 : decode cX5_likelihood 15 = .ok (.iload_n 1, 1) := by decide +kernel
theorem dX5_likelihood_16 : decode cX5_likelihood 16 = .ok (.iload 5, 2) := by decide +kernel
theorem dX5_likelihood_18 : decode cX5_likelihood 18 = .ok (.invokevirtual 45, 3) := by decide +kernel
theorem dX5_likelihood_21 : decode cX5_likelihood 21 = .ok (.istore 6, 2) := by decide +kernel
theorem dX5_likelihood_23 : decode cX5_likelihood 23 = .ok (.lload_n 3, 1) := by decide +kernel
theorem dX5_likelihood_24 : decode cX5_likelihood 24 = .ok (.iload_n 2, 1) := by decide +kernel
theorem dX5_likelihood_25 : decode cX5_likelihood 25 = .ok (.iload 5, 2) := by decide +kernel
theorem dX5_likelihood_27 : decode cX5_likelihood 27 = .ok (.invokestatic 64, 3) := by decide +kernel
theorem dX5_likelihood_30 : decode cX5_likelihood 30 = .ok (.ifCond .eq 9, 3) := by decide +kernel
theorem dX5_likelihood_33 : decode cX5_likelihood 33 = .ok (.iload 6, 2) := by decide +kernel
theorem dX5_likelihood_35 : decode cX5_likelihood 35 = .ok (.i2l, 1) := by decide +kernel
theorem dX5_likelihood_36 : decode cX5_likelihood 36 = .ok (.goto 9, 3) := by decide +kernel
theorem dX5_likelihood_39 : decode cX5_likelihood 39 = .ok (.bipush 100, 2) := by decide +kernel
theorem dX5_likelihood_41 : decode cX5_likelihood 41 = .ok (.iload 6, 2) := by decide +kernel
theorem dX5_likelihood_43 : decode cX5_likelihood 43 = .ok (.isub, 1) := by decide +kernel
theorem dX5_likelihood_44 : decode cX5_likelihood 44 = .ok (.i2l, 1) := by decide +kernel
theorem dX5_likelihood_45 : decode cX5_likelihood 45 = .ok (.lmul, 1) := by decide +kernel
theorem dX5_likelihood_46 : decode cX5_likelihood 46 = .ok (.lstore_n 3, 1) := by decide +kernel
theorem dX5_likelihood_47 : decode cX5_likelihood 47 = .ok (.iinc 5 1, 3) := by decide +kernel
theorem dX5_likelihood_50 : decode cX5_likelihood 50 = .ok (.goto (-45), 3) := by decide +kernel
theorem dX5_likelihood_53 : decode cX5_likelihood 53 = .ok (.lload_n 3, 1) := by decide +kernel
theorem dX5_likelihood_54 : decode cX5_likelihood 54 = .ok (.lreturn, 1) := by decide +kernel
theorem dX5_wayWithout_0 : decode cX5_wayWithout 0 = .ok (.iload_n 0, 1) := by decide +kernel
theorem dX5_wayWithout_1 : decode cX5_wayWithout 1 = .ok (.istore_n 2, 1) := by decide +kernel
theorem dX5_wayWithout_2 : decode cX5_wayWithout 2 = .ok (.iconst 0, 1) := by decide +kernel
theorem dX5_wayWithout_3 : decode cX5_wayWithout 3 = .ok (.istore_n 3, 1) := by decide +kernel
theorem dX5_wayWithout_4 : decode cX5_wayWithout 4 = .ok (.iload_n 3, 1) := by decide +kernel
theorem dX5_wayWithout_5 : decode cX5_wayWithout 5 = .ok (.bipush 6, 2) := by decide +kernel
theorem dX5_wayWithout_7 : decode cX5_wayWithout 7 = .ok (.if_icmp .ge 24, 3) := by decide +kernel
theorem dX5_wayWithout_10 : decode cX5_wayWithout 10 = .ok (.iload_n 1, 1) := by decide +kernel
theorem dX5_wayWithout_11 : decode cX5_wayWithout 11 = .ok (.iload_n 3, 1) := by decide +kernel
theorem dX5_wayWithout_12 : decode cX5_wayWithout 12 = .ok (.invokestatic 64, 3) := by decide +kernel
theorem dX5_wayWithout_15 : decode cX5_wayWithout 15 = .ok (.ifCond .eq 10, 3) := by decide +kernel
theorem dX5_wayWithout_18 : decode cX5_wayWithout 18 = .ok (.iload_n 2, 1) := by decide +kernel
theorem dX5_wayWithout_19 : decode cX5_wayWithout 19 = .ok (.iload_n 3, 1) := by decide +kernel
theorem dX5_wayWithout_20 : decode cX5_wayWithout 20 = .ok (.iconst 0, 1) := by decide +kernel
theorem dX5_wayWithout_21 : decode cX5_wayWithout 21 = .ok (.invokestatic 48, 3) := by decide +kernel
theorem dX5_wayWithout_24 : decode cX5_wayWithout 24 = .ok (.istore_n 2, 1) := by decide +kernel
theorem dX5_wayWithout_25 : decode cX5_wayWithout 25 = .ok (.iinc 3 1, 3) := by decide +kernel
theorem dX5_wayWithout_28 : decode cX5_wayWithout 28 = .ok (.goto (-24), 3) := by decide +kernel
theorem dX5_wayWithout_31 : decode cX5_wayWithout 31 = .ok (.iload_n 2, 1) := by decide +kernel
theorem dX5_wayWithout_32 : decode cX5_wayWithout 32 = .ok (.ireturn, 1) := by decide +kernel
theorem dX6_init_0 : decode cX6_init 0 = .ok (.aload_n 0, 1) := by decide +kernel
theorem dX6_init_1 : decode cX6_init 1 = .ok (.invokespecial 3, 3) := by decide +kernel
theorem dX6_init_4 : decode cX6_init 4 = .ok (.aload_n 0, 1) := by decide +kernel
theorem dX6_init_5 : decode cX6_init 5 = .ok (.new 9, 3) := by decide +kernel
theorem dX6_init_8 : decode cX6_init 8 = .ok (.dup, 1) := by decide +kernel
theorem dX6_init_9 : decode cX6_init 9 = .ok (.invokespecial 11, 3) := by decide +kernel
theorem dX6_init_12 : decode cX6_init 12 = .ok (.putfield 12, 3) := by decide +kernel
theorem dX6_init_15 : decode cX6_init 15 = .ok (.aload_n 0, 1) := by decide +kernel
theorem dX6_init_16 : decode cX6_init 16 = .ok (.bipush 15, 2) := by decide +kernel
theorem dX6_init_18 : decode cX6_init 18 = .ok (.newarray .long, 2) := by decide +kernel
theorem dX6_init_20 : decode cX6_init 20 = .ok (.putfield 18, 3) := by decide +kernel
theorem dX6_init_23 : decode cX6_init 23 = .ok (.aload_n 0, 1) := by decide +kernel
theorem dX6_init_24 : decode cX6_init 24 = .ok (.bipush 15, 2) := by decide +kernel
theorem dX6_init_26 : decode cX6_init 26 = .ok (.newarray .int, 2) := by decide +kernel
theorem dX6_init_28 : decode cX6_init 28 = .ok (.putfield 22, 3) := by decide +kernel
theorem dX6_init_31 : decode cX6_init 31 = .ok (.aload_n 0, 1) := by decide +kernel
theorem dX6_init_32 : decode cX6_init 32 = .ok (.bipush 15, 2) := by decide +kernel
theorem dX6_init_34 : decode cX6_init 34 = .ok (.newarray .int, 2) := by decide +kernel
theorem dX6_init_36 : decode cX6_init 36 = .ok (.putfield 26, 3) := by decide +kernel
theorem dX6_init_39 : decode cX6_init 39 = .ok (.aload_n 0, 1) := by decide +kernel
theorem dX6_init_40 : decode cX6_init 40 = .ok (.aload_n 1, 1) := by decide +kernel
theorem dX6_init_41 : decode cX6_init 41 = .ok (.putfield 29, 3) := by decide +kernel
theorem dX6_init_44 : decode cX6_init 44 = .ok (.return_, 1) := by decide +kernel
theorem dX6_handOver_0 : decode cX6_handOver 0 = .ok (.aload_n 0, 1) := by decide +kernel
theorem dX6_handOver_1 : decode cX6_handOver 1 = .ok (.getfield 12, 3) := by decide +kernel
theorem dX6_handOver_4 : decode cX6_handOver 4 = .ok (.astore_n 2, 1) := by decide +kernel
theorem dX6_handOver_5 : decode cX6_handOver 5 = .ok (.aload_n 0, 1) := by decide +kernel
theorem dX6_handOver_6 : decode cX6_handOver 6 = .ok (.aload_n 1, 1) := by decide +kernel
theorem dX6_handOver_7 : decode cX6_handOver 7 = .ok (.putfield 12, 3) := by decide +kernel
theorem dX6_handOver_10 : decode cX6_handOver 10 = .ok (.aload_n 2, 1) := by decide +kernel
theorem dX6_handOver_11 : decode cX6_handOver 11 = .ok (.areturn, 1) := by decide +kernel
theorem dX6_readText_0 : decode cX6_readText 0 = .ok (.aload_n 0, 1) := by decide +kernel
theorem dX6_readText_1 : decode cX6_readText 1 = .ok (.getfield 12, 3) := by decide +kernel
theorem dX6_readText_4 : decode cX6_readText 4 = .ok (.invokevirtual 33, 3) := by decide +kernel
theorem dX6_readText_7 : decode cX6_readText 7 = .ok (.aload_n 0, 1) := by decide +kernel
theorem dX6_readText_8 : decode cX6_readText 8 = .ok (.iconst 0, 1) := by decide +kernel
theorem dX6_readText_9 : decode cX6_readText 9 = .ok (.putfield 36, 3) := by decide +kernel
theorem dX6_readText_12 : decode cX6_readText 12 = .ok (.aload_n 0, 1) := by decide +kernel
theorem dX6_readText_13 : decode cX6_readText 13 = .ok (.iconst 0, 1) := by decide +kernel
theorem dX6_readText_14 : decode cX6_readText 14 = .ok (.putfield 40, 3) := by decide +kernel
theorem dX6_readText_17 : decode cX6_readText 17 = .ok (.aload_n 0, 1) := by decide +kernel
theorem dX6_readText_18 : decode cX6_readText 18 = .ok (.iconst 0, 1) := by decide +kernel
theorem dX6_readText_19 : decode cX6_readText 19 = .ok (.putfield 44, 3) := by decide +kernel
theorem dX6_readText_22 : decode cX6_readText 22 = .ok (.aload_n 0, 1) := by decide +kernel
theorem dX6_readText_23 : decode cX6_readText 23 = .ok (.iconst (-1), 1) := by decide +kernel
theorem dX6_readText_24 : decode cX6_readText 24 = .ok (.putfield 47, 3) := by decide +kernel
theorem dX6_readText_27 : decode cX6_readText 27 = .ok (.aload_n 0, 1) := by decide +kernel
theorem dX6_readText_28 : decode cX6_readText 28 = .ok (.getfield 29, 3) := by decide +kernel
theorem dX6_readText_31 : decode cX6_readText 31 = .ok (.iload_n 1, 1) := by decide +kernel
theorem dX6_readText_32 : decode cX6_readText 32 = .ok (.invokevirtual 50, 3) := by decide +kernel
theorem dX6_readText_35 : decode cX6_readText 35 = .ok (.iconst 0, 1) := by decide +kernel
theorem dX6_readText_36 : decode cX6_readText 36 = .ok (.istore_n 2, 1) := by decide +kernel
theorem dX6_readText_37 : decode cX6_readText 37 = .ok (.iload_n 2, 1) := by decide +kernel
theorem dX6_readText_38 : decode cX6_readText 38 = .ok (.sipush 900, 3) := by decide +kernel
theorem dX6_readText_41 : decode cX6_readText 41 = .ok (.if_icmp .gt 77, 3) := by decide +kernel
theorem dX6_readText_44 : decode cX6_readText 44 = .ok (.aload_n 0, 1) := by decide +kernel
theorem dX6_readText_45 : decode cX6_readText 45 = .ok (.invokevirtual 56, 3) := by decide +kernel
theorem dX6_readText_48 : decode cX6_readText 48 = .ok (.ifCond .ne 5, 3) := by decide +kernel
theorem dX6_readText_51 : decode cX6_readText 51 = .ok (.iconst 0, 1) := by decide +kernel
theorem dX6_readText_52 : decode cX6_readText 52 = .ok (.ireturn, 1) := by decide +kernel
theorem dX6_readText_53 : decode cX6_readText 53 = .ok (.aload_n 0, 1) := by decide +kernel
theorem dX6_readText_54 : decode cX6_readText 54 = .ok (.getfield 29, 3) := by decide +kernel
theorem dX6_readText_57 : decode cX6_readText 57 = .ok (.getfield 60, 3) := by decide +kernel
theorem dX6_readText_60 : decode cX6_readText 60 = .ok (.ifCond .ne 28, 3) := by decide +kernel
theorem dX6_readText_63 : decode cX6_readText 63 = .ok (.aload_n 0, 1) := by decide +kernel
theorem dX6_readText_64 : decode cX6_readText 64 = .ok (.getfield 12, 3) := by decide +kernel
theorem dX6_readText_67 : decode cX6_readText 67 = .ok (.getfield 63, 3) := by decide +kernel
theorem dX6_readText_70 : decode cX6_readText 70 = .ok (.ifCond .gt 12, 3) := by decide +kernel
theorem dX6_readText_73 : decode cX6_readText 73 = .ok (.aload_n 0, 1) := by decide +kernel
theorem dX6_readText_74 : decode cX6_readText 74 = .ok (.bipush 6, 2) := by decide +kernel
theorem dX6_readText_76 : decode cX6_readText 76 = .ok (.invokevirtual 66, 3) := by decide +kernel
theorem dX6_readText_79 : decode cX6_readText 79 = .ok (.ifCond .eq 7, 3) := by decide +kernel
theorem dX6_readText_82 : decode cX6_readText 82 = .ok (.iconst 1, 1) := by decide +kernel
theorem dX6_readText_83 : decode cX6_readText 83 = .ok (.goto 4, 3) := by decide +kernel
theorem dX6_readText_86 : decode cX6_readText 86 = .ok (.iconst 0, 1) := by decide +kernel
theorem dX6_readText_87 : decode cX6_readText 87 = .ok (.ireturn, 1) := by decide +kernel
theorem dX6_readText_88 : decode cX6_readText 88 = .ok (.aload_n 0, 1) := by decide +kernel
theorem dX6_readText_89 : decode cX6_readText 89 = .ok (.getfield 29, 3) := by decide +kernel
theorem dX6_readText_92 : decode cX6_readText 92 = .ok (.getfield 60, 3) := by decide +kernel
theorem dX6_readText_95 : decode cX6_readText 95 = .ok (.iconst 3, 1) := by decide +kernel
theorem dX6_readText_96 : decode cX6_readText 96 = .ok (.if_icmp .eq 9, 3) := by decide +kernel
theorem dX6_readText_99 : decode cX6_readText 99 = .ok (.aload_n 0, 1) := by decide +kernel
theorem dX6_readText_100 : decode cX6_readText 100 = .ok (.iconst 1, 1) := by decide +kernel
theorem dX6_readText_101 : decode cX6_readText 101 = .ok (.invokevirtual 66, 3) := by decide +kernel
theorem dX6_readText_104 : decode cX6_readText 104 = .ok (.ireturn, 1) := by decide +kernel
theorem dX6_readText_105 : decode cX6_readText 105 = .ok (.aload_n 0, 1) := by decide +kernel
theorem dX6_readText_106 : decode cX6_readText 106 = .ok (.getfield 29, 3) := by decide +kernel
theorem dX6_readText_109 : decode cX6_readText 109 = .ok (.invokevirtual 70, 3) := by decide +kernel
theorem dX6_readText_112 : decode cX6_readText 112 = .ok (.iinc 2 1, 3) := by decide +kernel
theorem dX6_readText_115 : decode cX6_readText 115 = .ok (.goto (-78), 3) := by decide +kernel
theorem dX6_readText_118 : decode cX6_readText 118 = .ok (.aload_n 0, 1) := by decide +kernel
theorem dX6_readText_119 : decode cX6_readText 119 = .ok (.iconst 1, 1) := by decide +kernel
theorem dX6_readText_120 : decode cX6_readText 120 = .ok (.invokevirtual 66, 3) := by decide +kernel
theorem dX6_readText_123 : decode cX6_readText 123 = .ok (.ireturn, 1) := by decide +kernel
theorem dX6_readLine_0 : decode cX6_readLine 0 = .ok (.aload_n 0, 1) := by decide +kernel
theorem dX6_readLine_1 : decode cX6_readLine 1 = .ok (.invokevirtual 73, 3) := by decide +kernel
theorem dX6_readLine_4 : decode cX6_readLine 4 = .ok (.istore_n 1, 1) := by decide +kernel
theorem dX6_readLine_5 : decode cX6_readLine 5 = .ok (.iload_n 1, 1) := by decide +kernel
theorem dX6_readLine_6 : decode cX6_readLine 6 = .ok (.iconst (-1), 1) := by decide +kernel
theorem dX6_readLine_7 : decode cX6_readLine 7 = .ok (.if_icmp .ne 9, 3) := by decide +kernel
theorem dX6_readLine_10 : decode cX6_readLine 10 = .ok (.aload_n 0, 1) := by decide +kernel
theorem dX6_readLine_11 : decode cX6_readLine 11 = .ok (.iconst 1, 1) := by decide +kernel
theorem dX6_readLine_12 : decode cX6_readLine 12 = .ok (.invokevirtual 66, 3) := by decide +kernel
theorem dX6_readLine_15 : decode cX6_readLine 15 = .ok (.ireturn, 1) := by decide +kernel
theorem dX6_readLine_16 : decode cX6_readLine 16 = .ok (.iload_n 1, 1) := by decide +kernel
theorem dX6_readLine_17 : decode cX6_readLine 17 = .ok (.ifCond .ne 23, 3) := by decide +kernel
theorem dX6_readLine_20 : decode cX6_readLine 20 = .ok (.aload_n 0, 1) := by decide +kernel
theorem dX6_readLine_21 : decode cX6_readLine 21 = .ok (.getfield 36, 3) := by decide +kernel
theorem dX6_readLine_24 : decode cX6_readLine 24 = .ok (.ifCond .eq 11, 3) := by decide +kernel
theorem dX6_readLine_27 : decode cX6_readLine 27 = .ok (.aload_n 0, 1) := by decide +kernel
theorem dX6_readLine_28 : decode cX6_readLine 28 = .ok (.iconst 3, 1) := by decide +kernel
theorem dX6_readLine_29 : decode cX6_readLine 29 = .ok (.invokevirtual 66, 3) := by decide +kernel
theorem dX6_readLine_32 : decode cX6_readLine 32 = .ok (.goto 7, 3) := by decide +kernel
theorem dX6_readLine_35 : decode cX6_readLine 35 = .ok (.aload_n 0, 1) := by decide +kernel
theorem dX6_readLine_36 : decode cX6_readLine 36 = .ok (.invokevirtual 77, 3) := by decide +kernel
theorem dX6_readLine_39 : decode cX6_readLine 39 = .ok (.ireturn, 1) := by decide +kernel
theorem dX6_readLine_40 : decode cX6_readLine 40 = .ok (.aload_n 0, 1) := by decide +kernel
theorem dX6_readLine_41 : decode cX6_readLine 41 = .ok (.getfield 36, 3) := by decide +kernel
theorem dX6_readLine_44 : decode cX6_readLine 44 = .ok (.ifCond .ne 10, 3) := by decide +kernel
theorem dX6_readLine_47 : decode cX6_readLine 47 = .ok (.aload_n 0, 1) := by decide +kernel
theorem dX6_readLine_48 : decode cX6_readLine 48 = .ok (.bipush 6, 2) := by decide +kernel
theorem dX6_readLine_50 : decode cX6_readLine 50 = .ok (.invokevirtual 66, 3) := by decide +kernel
theorem dX6_readLine_53 : decode cX6_readLine 53 = .ok (.ireturn, 1) := by decide +kernel
theorem dX6_readLine_54 : decode cX6_readLine 54 = .ok (.aload_n 0, 1) := by decide +kernel
theorem dX6_readLine_55 : decode cX6_readLine 55 = .ok (.iload_n 1, 1) := by decide +kernel
theorem dX6_readLine_56 : decode cX6_readLine 56 = .ok (.invokevirtual 80, 3) := by decide +kernel
theorem dX6_readLine_59 : decode cX6_readLine 59 = .ok (.ifCond .eq 9, 3) := by decide +kernel
theorem dX6_readLine_62 : decode cX6_readLine 62 = .ok (.aload_n 0, 1) := by decide +kernel
theorem dX6_readLine_63 : decode cX6_readLine 63 = .ok (.iconst 5, 1) := by decide +kernel
theorem dX6_readLine_64 : decode cX6_readLine 64 = .ok (.invokevirtual 66, 3) := by decide +kernel
theorem dX6_readLine_67 : decode cX6_readLine 67 = .ok (.ireturn, 1) := by decide +kernel
theorem dX6_readLine_68 : decode cX6_readLine 68 = .ok (.aload_n 0, 1) := by decide +kernel
theorem dX6_readLine_69 : decode cX6_readLine 69 = .ok (.getfield 29, 3) := by decide +kernel
theorem dX6_readLine_72 : decode cX6_readLine 72 = .ok (.invokevirtual 70, 3) := by decide +kernel
theorem dX6_readLine_75 : decode cX6_readLine 75 = .ok (.iload_n 1, 1) := by decide +kernel
theorem dX6_readLine_76 : decode cX6_readLine 76 = .ok (.tableswitch 81 1 7 #[44, 49, 54, 59, 64, 70, 76], 44) := by decide +kernel
theorem dX6_readLine_120 : decode cX6_readLine 120 = .ok (.aload_n 0, 1) := by decide +kernel
theorem dX6_readLine_121 : decode cX6_readLine 121 = .ok (.invokevirtual 83, 3) := by decide +kernel
theorem dX6_readLine_124 : decode cX6_readLine 124 = .ok (.ireturn, 1) := by decide +kernel
theorem dX6_readLine_125 : decode cX6_readLine 125 = .ok (.aload_n 0, 1) := by decide +kernel
theorem dX6_readLine_126 : decode cX6_readLine 126 = .ok (.invokevirtual 86, 3) := by decide +kernel
theorem dX6_readLine_129 : decode cX6_readLine 129 = .ok (.ireturn, 1) := by decide +kernel
theorem dX6_readLine_130 : decode cX6_readLine 130 = .ok (.aload_n 0, 1) := by decide +kernel
theorem dX6_readLine_131 : decode cX6_readLine 131 = .ok (.invokevirtual 89, 3) := by decide +kernel
theorem dX6_readLine_134 : decode cX6_readLine 134 = .ok (.ireturn, 1) := by decide +kernel
theorem dX6_readLine_135 : decode cX6_readLine 135 = .ok (.aload_n 0, 1) := by decide +kernel
theorem dX6_readLine_136 : decode cX6_readLine 136 = .ok (.invokevirtual 92, 3) := by decide +kernel
theorem dX6_readLine_139 : decode cX6_readLine 139 = .ok (.ireturn, 1) := by decide +kernel
theorem dX6_readLine_140 : decode cX6_readLine 140 = .ok (.aload_n 0, 1) := by decide +kernel
theorem dX6_readLine_141 : decode cX6_readLine 141 = .ok (.iconst 0, 1) := by decide +kernel
theorem dX6_readLine_142 : decode cX6_readLine 142 = .ok (.invokevirtual 95, 3) := by decide +kernel
theorem dX6_readLine_145 : decode cX6_readLine 145 = .ok (.ireturn, 1) := by decide +kernel
theorem dX6_readLine_146 : decode cX6_readLine 146 = .ok (.aload_n 0, 1) := by decide +kernel
theorem dX6_readLine_147 : decode cX6_readLine 147 = .ok (.iconst 1, 1) := by decide +kernel
theorem dX6_readLine_148 : decode cX6_readLine 148 = .ok (.invokevirtual 95, 3) := by decide +kernel
theorem dX6_readLine_151 : decode cX6_readLine 151 = .ok (.ireturn, 1) := by decide +kernel
theorem dX6_readLine_152 : decode cX6_readLine 152 = .ok (.aload_n 0, 1) := by decide +kernel
theorem dX6_readLine_153 : decode cX6_readLine 153 = .ok (.invokevirtual 98, 3) := by decide +kernel
theorem dX6_readLine_156 : decode cX6_readLine 156 = .ok (.ireturn, 1) := by decide +kernel
theorem dX6_readLine_157 : decode cX6_readLine 157 = .ok (.aload_n 0, 1) := by decide +kernel
theorem dX6_readLine_158 : decode cX6_readLine 158 = .ok (.invokevirtual 101, 3) := by decide +kernel
theorem dX6_readLine_161 : decode cX6_readLine 161 = .ok (.ireturn, 1) := by decide +kernel
theorem dX6_lineOf_0 : decode cX6_lineOf 0 = .ok (.aload_n 0, 1) := by decide +kernel
theorem dX6_lineOf_1 : decode cX6_lineOf 1 = .ok (.getfield 29, 3) := by decide +kernel
theorem dX6_lineOf_4 : decode cX6_lineOf 4 = .ok (.ldc 104, 2) := by decide +kernel
theorem dX6_lineOf_6 : decode cX6_lineOf 6 = .ok (.invokevirtual 106, 3) := by decide +kernel
theorem dX6_lineOf_9 : decode cX6_lineOf 9 = .ok (.ifCond .eq 5, 3) := by decide +kernel
theorem dX6_lineOf_12 : decode cX6_lineOf 12 = .ok (.iconst 0, 1) := by decide +kernel
theorem dX6_lineOf_13 : decode cX6_lineOf 13 = .ok (.ireturn, 1) := by decide +kernel
theorem dX6_lineOf_14 : decode cX6_lineOf 14 = .ok (.aload_n 0, 1) := by decide +kernel
theorem dX6_lineOf_15 : decode cX6_lineOf 15 = .ok (.getfield 29, 3) := by decide +kernel
theorem dX6_lineOf_18 : decode cX6_lineOf 18 = .ok (.ldc 110, 2) := by decide +kernel
theorem dX6_lineOf_20 : decode cX6_lineOf 20 = .ok (.invokevirtual 106, 3) := by decide +kernel
theorem dX6_lineOf_23 : decode cX6_lineOf 23 = .ok (.ifCond .eq 5, 3) := by decide +kernel
theorem dX6_lineOf_26 : decode cX6_lineOf 26 = .ok (.iconst 1, 1) := by decide +kernel
theorem dX6_lineOf_27 : decode cX6_lineOf 27 = .ok (.ireturn, 1) := by decide +kernel
theorem dX6_lineOf_28 : decode cX6_lineOf 28 = .ok (.aload_n 0, 1) := by decide +kernel
theorem dX6_lineOf_29 : decode cX6_lineOf 29 = .ok (.getfield 29, 3) := by decide +kernel
theorem dX6_lineOf_32 : decode cX6_lineOf 32 = .ok (.ldc 112, 2) := by decide +kernel
theorem dX6_lineOf_34 : decode cX6_lineOf 34 = .ok (.invokevirtual 106, 3) := by decide +kernel
theorem dX6_lineOf_37 : decode cX6_lineOf 37 = .ok (.ifCond .eq 5, 3) := by decide +kernel
theorem dX6_lineOf_40 : decode cX6_lineOf 40 = .ok (.iconst 2, 1) := by decide +kernel
theorem dX6_lineOf_41 : decode cX6_lineOf 41 = .ok (.ireturn, 1) := by decide +kernel
theorem dX6_lineOf_42 : decode cX6_lineOf 42 = .ok (.aload_n 0, 1) := by decide +kernel
theorem dX6_lineOf_43 : decode cX6_lineOf 43 = .ok (.getfield 29, 3) := by decide +kernel
theorem dX6_lineOf_46 : decode cX6_lineOf 46 = .ok (.ldc 114, 2) := by decide +kernel
theorem dX6_lineOf_48 : decode cX6_lineOf 48 = .ok (.invokevirtual 106, 3) := by decide +kernel
theorem dX6_lineOf_51 : decode cX6_lineOf 51 = .ok (.ifCond .eq 5, 3) := by decide +kernel
theorem dX6_lineOf_54 : decode cX6_lineOf 54 = .ok (.iconst 3, 1) := by decide +kernel
theorem dX6_lineOf_55 : decode cX6_lineOf 55 = .ok (.ireturn, 1) := by decide +kernel
theorem dX6_lineOf_56 : decode cX6_lineOf 56 = .ok (.aload_n 0, 1) := by decide +kernel
theorem dX6_lineOf_57 : decode cX6_lineOf 57 = .ok (.getfield 29, 3) := by decide +kernel
theorem dX6_lineOf_60 : decode cX6_lineOf 60 = .ok (.ldc 116, 2) := by decide +kernel
theorem dX6_lineOf_62 : decode cX6_lineOf 62 = .ok (.invokevirtual 106, 3) := by decide +kernel
theorem dX6_lineOf_65 : decode cX6_lineOf 65 = .ok (.ifCond .eq 5, 3) := by decide +kernel
theorem dX6_lineOf_68 : decode cX6_lineOf 68 = .ok (.iconst 4, 1) := by decide +kernel
theorem dX6_lineOf_69 : decode cX6_lineOf 69 = .ok (.ireturn, 1) := by decide +kernel
theorem dX6_lineOf_70 : decode cX6_lineOf 70 = .ok (.aload_n 0, 1) := by decide +kernel
theorem dX6_lineOf_71 : decode cX6_lineOf 71 = .ok (.getfield 29, 3) := by decide +kernel
theorem dX6_lineOf_74 : decode cX6_lineOf 74 = .ok (.ldc 118, 2) := by decide +kernel
theorem dX6_lineOf_76 : decode cX6_lineOf 76 = .ok (.invokevirtual 106, 3) := by decide +kernel
theorem dX6_lineOf_79 : decode cX6_lineOf 79 = .ok (.ifCond .eq 5, 3) := by decide +kernel
theorem dX6_lineOf_82 : decode cX6_lineOf 82 = .ok (.iconst 5, 1) := by decide +kernel
theorem dX6_lineOf_83 : decode cX6_lineOf 83 = .ok (.ireturn, 1) := by decide +kernel
theorem dX6_lineOf_84 : decode cX6_lineOf 84 = .ok (.aload_n 0, 1) := by decide +kernel
theorem dX6_lineOf_85 : decode cX6_lineOf 85 = .ok (.getfield 29, 3) := by decide +kernel
theorem dX6_lineOf_88 : decode cX6_lineOf 88 = .ok (.ldc 120, 2) := by decide +kernel
theorem dX6_lineOf_90 : decode cX6_lineOf 90 = .ok (.invokevirtual 106, 3) := by decide +kernel
theorem dX6_lineOf_93 : decode cX6_lineOf 93 = .ok (.ifCond .eq 6, 3) := by decide +kernel
theorem dX6_lineOf_96 : decode cX6_lineOf 96 = .ok (.bipush 6, 2) := by decide +kernel
theorem dX6_lineOf_98 : decode cX6_lineOf 98 = .ok (.ireturn, 1) := by decide +kernel
theorem dX6_lineOf_99 : decode cX6_lineOf 99 = .ok (.aload_n 0, 1) := by decide +kernel
theorem dX6_lineOf_100 : decode cX6_lineOf 100 = .ok (.getfield 29, 3) := by decide +kernel
theorem dX6_lineOf_103 : decode cX6_lineOf 103 = .ok (.ldc 122, 2) := by decide +kernel
theorem dX6_lineOf_105 : decode cX6_lineOf 105 = .ok (.invokevirtual 106, 3) := by decide +kernel
theorem dX6_lineOf_108 : decode cX6_lineOf 108 = .ok (.ifCond .eq 6, 3) := by decide +kernel
theorem dX6_lineOf_111 : decode cX6_lineOf 111 = .ok (.bipush 7, 2) := by decide +kernel
theorem dX6_lineOf_113 : decode cX6_lineOf 113 = .ok (.ireturn, 1) := by decide +kernel
theorem dX6_lineOf_114 : decode cX6_lineOf 114 = .ok (.aload_n 0, 1) := by decide +kernel
theorem dX6_lineOf_115 : decode cX6_lineOf 115 = .ok (.getfield 29, 3) := by decide +kernel
theorem dX6_lineOf_118 : decode cX6_lineOf 118 = .ok (.ldc 124, 2) := by decide +kernel
theorem dX6_lineOf_120 : decode cX6_lineOf 120 = .ok (.invokevirtual 106, 3) := by decide +kernel
theorem dX6_lineOf_123 : decode cX6_lineOf 123 = .ok (.ifCond .eq 8, 3) := by decide +kernel
theorem dX6_lineOf_126 : decode cX6_lineOf 126 = .ok (.bipush 8, 2) := by decide +kernel
theorem dX6_lineOf_128 : decode cX6_lineOf 128 = .ok (.goto 4, 3) := by decide +kernel
theorem dX6_lineOf_131 : decode cX6_lineOf 131 = .ok (.iconst (-1), 1) := by decide +kernel
theorem dX6_lineOf_132 : decode cX6_lineOf 132 = .ok (.ireturn, 1) := by decide +kernel
theorem dX6_isFull_0 : decode cX6_isFull 0 = .ok (.iload_n 1, 1) := by decide +kernel
theorem dX6_isFull_1 : decode cX6_isFull 1 = .ok (.tableswitch 153 1 7 #[43, 60, 77, 95, 113, 113, 133], 43) := by decide +kernel
theorem dX6_isFull_44 : decode cX6_isFull 44 = .ok (.aload_n 0, 1) := by decide +kernel
theorem dX6_isFull_45 : decode cX6_isFull 45 = .ok (.getfield 12, 3) := by decide +kernel
theorem dX6_isFull_48 : decode cX6_isFull 48 = .ok (.getfield 126, 3) := by decide +kernel
theorem dX6_isFull_51 : decode cX6_isFull 51 = .ok (.iconst 5, 1) := by decide +kernel
theorem dX6_isFull_52 : decode cX6_isFull 52 = .ok (.if_icmp .lt 7, 3) := by decide +kernel
theorem dX6_isFull_55 : decode cX6_isFull 55 = .ok (.iconst 1, 1) := by decide +kernel
theorem dX6_isFull_56 : decode cX6_isFull 56 = .ok (.goto 4, 3) := by decide +kernel
theorem dX6_isFull_59 : decode cX6_isFull 59 = .ok (.iconst 0, 1) := by decide +kernel
theorem dX6_isFull_60 : decode cX6_isFull 60 = .ok (.ireturn, 1) := by decide +kernel
theorem dX6_isFull_61 : decode cX6_isFull 61 = .ok (.aload_n 0, 1) := by decide +kernel
theorem dX6_isFull_62 : decode cX6_isFull 62 = .ok (.getfield 12, 3) := by decide +kernel
theorem dX6_isFull_65 : decode cX6_isFull 65 = .ok (.getfield 129, 3) := by decide +kernel
theorem dX6_isFull_68 : decode cX6_isFull 68 = .ok (.iconst 4, 1) := by decide +kernel
theorem dX6_isFull_69 : decode cX6_isFull 69 = .ok (.if_icmp .lt 7, 3) := by decide +kernel
theorem dX6_isFull_72 : decode cX6_isFull 72 = .ok (.iconst 1, 1) := by decide +kernel
theorem dX6_isFull_73 : decode cX6_isFull 73 = .ok (.goto 4, 3) := by decide +kernel
theorem dX6_isFull_76 : decode cX6_isFull 76 = .ok (.iconst 0, 1) := by decide +kernel
theorem dX6_isFull_77 : decode cX6_isFull 77 = .ok (.ireturn, 1) := by decide +kernel
theorem dX6_isFull_78 : decode cX6_isFull 78 = .ok (.aload_n 0, 1) := by decide +kernel
theorem dX6_isFull_79 : decode cX6_isFull 79 = .ok (.getfield 12, 3) := by decide +kernel
theorem dX6_isFull_82 : decode cX6_isFull 82 = .ok (.getfield 63, 3) := by decide +kernel
theorem dX6_isFull_85 : decode cX6_isFull 85 = .ok (.bipush 6, 2) := by decide +kernel
theorem dX6_isFull_87 : decode cX6_isFull 87 = .ok (.if_icmp .lt 7, 3) := by decide +kernel
theorem dX6_isFull_90 : decode cX6_isFull 90 = .ok (.iconst 1, 1) := by decide +kernel
theorem dX6_isFull_91 : decode cX6_isFull 91 = .ok (.goto 4, 3) := by decide +kernel
theorem dX6_isFull_94 : decode cX6_isFull 94 = .ok (.iconst 0, 1) := by decide +kernel
theorem dX6_isFull_95 : decode cX6_isFull 95 = .ok (.ireturn, 1) := by decide +kernel
theorem dX6_isFull_96 : decode cX6_isFull 96 = .ok (.aload_n 0, 1) := by decide +kernel
theorem dX6_isFull_97 : decode cX6_isFull 97 = .ok (.getfield 12, 3) := by decide +kernel
theorem dX6_isFull_100 : decode cX6_isFull 100 = .ok (.getfield 132, 3) := by decide +kernel
theorem dX6_isFull_103 : decode cX6_isFull 103 = .ok (.bipush 8, 2) := by decide +kernel
theorem dX6_isFull_105 : decode cX6_isFull 105 = .ok (.if_icmp .lt 7, 3) := by decide +kernel
theorem dX6_isFull_108 : decode cX6_isFull 108 = .ok (.iconst 1, 1) := by decide +kernel
theorem dX6_isFull_109 : decode cX6_isFull 109 = .ok (.goto 4, 3) := by decide +kernel
theorem dX6_isFull_112 : decode cX6_isFull 112 = .ok (.iconst 0, 1) := by decide +kernel
theorem dX6_isFull_113 : decode cX6_isFull 113 = .ok (.ireturn, 1) := by decide +kernel
theorem dX6_isFull_114 : decode cX6_isFull 114 = .ok (.aload_n 0, 1) := by decide +kernel
theorem dX6_isFull_115 : decode cX6_isFull 115 = .ok (.getfield 12, 3) := by decide +kernel
theorem dX6_isFull_118 : decode cX6_isFull 118 = .ok (.getfield 135, 3) := by decide +kernel
theorem dX6_isFull_121 : decode cX6_isFull 121 = .ok (.getfield 139, 3) := by decide +kernel
theorem dX6_isFull_124 : decode cX6_isFull 124 = .ok (.iconst 4, 1) := by decide +kernel
theorem dX6_isFull_125 : decode cX6_isFull 125 = .ok (.if_icmp .lt 7, 3) := by decide +kernel
theorem dX6_isFull_128 : decode cX6_isFull 128 = .ok (.iconst 1, 1) := by decide +kernel
theorem dX6_isFull_129 : decode cX6_isFull 129 = .ok (.goto 4, 3) := by decide +kernel
theorem dX6_isFull_132 : decode cX6_isFull 132 = .ok (.iconst 0, 1) := by decide +kernel
theorem dX6_isFull_133 : decode cX6_isFull 133 = .ok (.ireturn, 1) := by decide +kernel
theorem dX6_isFull_134 : decode cX6_isFull 134 = .ok (.aload_n 0, 1) := by decide +kernel
theorem dX6_isFull_135 : decode cX6_isFull 135 = .ok (.getfield 12, 3) := by decide +kernel
theorem dX6_isFull_138 : decode cX6_isFull 138 = .ok (.getfield 135, 3) := by decide +kernel
theorem dX6_isFull_141 : decode cX6_isFull 141 = .ok (.getfield 143, 3) := by decide +kernel
theorem dX6_isFull_144 : decode cX6_isFull 144 = .ok (.iconst 4, 1) := by decide +kernel
theorem dX6_isFull_145 : decode cX6_isFull 145 = .ok (.if_icmp .lt 7, 3) := by decide +kernel
theorem dX6_isFull_148 : decode cX6_isFull 148 = .ok (.iconst 1, 1) := by decide +kernel
theorem dX6_isFull_149 : decode cX6_isFull 149 = .ok (.goto 4, 3) := by decide +kernel
theorem dX6_isFull_152 : decode cX6_isFull 152 = .ok (.iconst 0, 1) := by decide +kernel
theorem dX6_isFull_153 : decode cX6_isFull 153 = .ok (.ireturn, 1) := by decide +kernel
theorem dX6_isFull_154 : decode cX6_isFull 154 = .ok (.iconst 0, 1) := by decide +kernel
theorem dX6_isFull_155 : decode cX6_isFull 155 = .ok (.ireturn, 1) := by decide +kernel
theorem dX6_readLandLine_0 : decode cX6_readLandLine 0 = .ok (.aload_n 0, 1) := by decide +kernel
theorem dX6_readLandLine_1 : decode cX6_readLandLine 1 = .ok (.iconst 1, 1) := by decide +kernel
theorem dX6_readLandLine_2 : decode cX6_readLandLine 2 = .ok (.putfield 36, 3) := by decide +kernel
theorem dX6_readLandLine_5 : decode cX6_readLandLine 5 = .ok (.aload_n 0, 1) := by decide +kernel
theorem dX6_readLandLine_6 : decode cX6_readLandLine 6 = .ok (.getfield 29, 3) := by decide +kernel
theorem dX6_readLandLine_9 : decode cX6_readLandLine 9 = .ok (.invokevirtual 70, 3) := by decide +kernel
theorem dX6_readLandLine_12 : decode cX6_readLandLine 12 = .ok (.aload_n 0, 1) := by decide +kernel
theorem dX6_readLandLine_13 : decode cX6_readLandLine 13 = .ok (.ldc 145, 2) := by decide +kernel
theorem dX6_readLandLine_15 : decode cX6_readLandLine 15 = .ok (.invokevirtual 147, 3) := by decide +kernel
theorem dX6_readLandLine_18 : decode cX6_readLandLine 18 = .ok (.ifCond .eq 12, 3) := by decide +kernel
theorem dX6_readLandLine_21 : decode cX6_readLandLine 21 = .ok (.aload_n 0, 1) := by decide +kernel
theorem dX6_readLandLine_22 : decode cX6_readLandLine 22 = .ok (.bipush 6, 2) := by decide +kernel
theorem dX6_readLandLine_24 : decode cX6_readLandLine 24 = .ok (.invokevirtual 150, 3) := by decide +kernel
theorem dX6_readLandLine_27 : decode cX6_readLandLine 27 = .ok (.ifCond .ne 5, 3) := by decide +kernel
theorem dX6_readLandLine_30 : decode cX6_readLandLine 30 = .ok (.iconst 0, 1) := by decide +kernel
theorem dX6_readLandLine_31 : decode cX6_readLandLine 31 = .ok (.ireturn, 1) := by decide +kernel
theorem dX6_readLandLine_32 : decode cX6_readLandLine 32 = .ok (.aload_n 0, 1) := by decide +kernel
theorem dX6_readLandLine_33 : decode cX6_readLandLine 33 = .ok (.getfield 12, 3) := by decide +kernel
theorem dX6_readLandLine_36 : decode cX6_readLandLine 36 = .ok (.aload_n 0, 1) := by decide +kernel
theorem dX6_readLandLine_37 : decode cX6_readLandLine 37 = .ok (.getfield 29, 3) := by decide +kernel
theorem dX6_readLandLine_40 : decode cX6_readLandLine 40 = .ok (.getfield 153, 3) := by decide +kernel
theorem dX6_readLandLine_43 : decode cX6_readLandLine 43 = .ok (.putfield 156, 3) := by decide +kernel
theorem dX6_readLandLine_46 : decode cX6_readLandLine 46 = .ok (.aload_n 0, 1) := by decide +kernel
theorem dX6_readLandLine_47 : decode cX6_readLandLine 47 = .ok (.getfield 29, 3) := by decide +kernel
theorem dX6_readLandLine_50 : decode cX6_readLandLine 50 = .ok (.invokevirtual 70, 3) := by decide +kernel
theorem dX6_readLandLine_53 : decode cX6_readLandLine 53 = .ok (.aload_n 0, 1) := by decide +kernel
theorem dX6_readLandLine_54 : decode cX6_readLandLine 54 = .ok (.ldc 158, 2) := by decide +kernel
theorem dX6_readLandLine_56 : decode cX6_readLandLine 56 = .ok (.invokevirtual 147, 3) := by decide +kernel
theorem dX6_readLandLine_59 : decode cX6_readLandLine 59 = .ok (.ifCond .eq 12, 3) := by decide +kernel
theorem dX6_readLandLine_62 : decode cX6_readLandLine 62 = .ok (.aload_n 0, 1) := by decide +kernel
theorem dX6_readLandLine_63 : decode cX6_readLandLine 63 = .ok (.bipush 100, 2) := by decide +kernel
theorem dX6_readLandLine_65 : decode cX6_readLandLine 65 = .ok (.invokevirtual 150, 3) := by decide +kernel
theorem dX6_readLandLine_68 : decode cX6_readLandLine 68 = .ok (.ifCond .ne 5, 3) := by decide +kernel
theorem dX6_readLandLine_71 : decode cX6_readLandLine 71 = .ok (.iconst 0, 1) := by decide +kernel
theorem dX6_readLandLine_72 : decode cX6_readLandLine 72 = .ok (.ireturn, 1) := by decide +kernel
theorem dX6_readLandLine_73 : decode cX6_readLandLine 73 = .ok (.aload_n 0, 1) := by decide +kernel
theorem dX6_readLandLine_74 : decode cX6_readLandLine 74 = .ok (.getfield 12, 3) := by decide +kernel
theorem dX6_readLandLine_77 : decode cX6_readLandLine 77 = .ok (.aload_n 0, 1) := by decide +kernel
theorem dX6_readLandLine_78 : decode cX6_readLandLine 78 = .ok (.getfield 29, 3) := by decide +kernel
theorem dX6_readLandLine_81 : decode cX6_readLandLine 81 = .ok (.getfield 153, 3) := by decide +kernel
theorem dX6_readLandLine_84 : decode cX6_readLandLine 84 = .ok (.putfield 160, 3) := by decide +kernel
theorem dX6_readLandLine_87 : decode cX6_readLandLine 87 = .ok (.aload_n 0, 1) := by decide +kernel
theorem dX6_readLandLine_88 : decode cX6_readLandLine 88 = .ok (.getfield 29, 3) := by decide +kernel
theorem dX6_readLandLine_91 : decode cX6_readLandLine 91 = .ok (.invokevirtual 70, 3) := by decide +kernel
theorem dX6_readLandLine_94 : decode cX6_readLandLine 94 = .ok (.iconst 1, 1) := by decide +kernel
theorem dX6_readLandLine_95 : decode cX6_readLandLine 95 = .ok (.ireturn, 1) := by decide +kernel
theorem dX6_readPerson_0 : decode cX6_readPerson 0 = .ok (.aload_n 0, 1) := by decide +kernel
theorem dX6_readPerson_1 : decode cX6_readPerson 1 = .ok (.iconst 1, 1) := by decide +kernel
theorem dX6_readPerson_2 : decode cX6_readPerson 2 = .ok (.aload_n 0, 1) := by decide +kernel
theorem dX6_readPerson_3 : decode cX6_readPerson 3 = .ok (.getfield 12, 3) := by decide +kernel
theorem dX6_readPerson_6 : decode cX6_readPerson 6 = .ok (.getfield 126, 3) := by decide +kernel
theorem dX6_readPerson_9 : decode cX6_readPerson 9 = .ok (.invokevirtual 163, 3) := by decide +kernel
theorem dX6_readPerson_12 : decode cX6_readPerson 12 = .ok (.ifCond .ne 5, 3) := by decide +kernel
theorem dX6_readPerson_15 : decode cX6_readPerson 15 = .ok (.iconst 0, 1) := by decide +kernel
theorem dX6_readPerson_16 : decode cX6_readPerson 16 = .ok (.ireturn, 1) := by decide +kernel
theorem dX6_readPerson_17 : decode cX6_readPerson 17 = .ok (.aload_n 0, 1) := by decide +kernel
theorem dX6_readPerson_18 : decode cX6_readPerson 18 = .ok (.getfield 12, 3) := by decide +kernel
theorem dX6_readPerson_21 : decode cX6_readPerson 21 = .ok (.dup, 1) := by decide +kernel
theorem dX6_readPerson_22 : decode cX6_readPerson 22 = .ok (.getfield 126, 3) := by decide +kernel
theorem dX6_readPerson_25 : decode cX6_readPerson 25 = .ok (.iconst 1, 1) := by decide +kernel
theorem dX6_readPerson_26 : decode cX6_readPerson 26 = .ok (.iadd, 1) := by decide +kernel
theorem dX6_readPerson_27 : decode cX6_readPerson 27 = .ok (.putfield 126, 3) := by decide +kernel
theorem dX6_readPerson_30 : decode cX6_readPerson 30 = .ok (.iconst 1, 1) := by decide +kernel
theorem dX6_readPerson_31 : decode cX6_readPerson 31 = .ok (.ireturn, 1) := by decide +kernel
theorem dX6_readFirm_0 : decode cX6_readFirm 0 = .ok (.aload_n 0, 1) := by decide +kernel
theorem dX6_readFirm_1 : decode cX6_readFirm 1 = .ok (.getfield 12, 3) := by decide +kernel
theorem dX6_readFirm_4 : decode cX6_readFirm 4 = .ok (.getfield 129, 3) := by decide +kernel
theorem dX6_readFirm_7 : decode cX6_readFirm 7 = .ok (.istore_n 1, 1) := by decide +kernel
theorem dX6_readFirm_8 : decode cX6_readFirm 8 = .ok (.aload_n 0, 1) := by decide +kernel
theorem dX6_readFirm_9 : decode cX6_readFirm 9 = .ok (.iconst 2, 1) := by decide +kernel
theorem dX6_readFirm_10 : decode cX6_readFirm 10 = .ok (.iload_n 1, 1) := by decide +kernel
theorem dX6_readFirm_11 : decode cX6_readFirm 11 = .ok (.invokevirtual 163, 3) := by decide +kernel
theorem dX6_readFirm_14 : decode cX6_readFirm 14 = .ok (.ifCond .ne 5, 3) := by decide +kernel
theorem dX6_readFirm_17 : decode cX6_readFirm 17 = .ok (.iconst 0, 1) := by decide +kernel
theorem dX6_readFirm_18 : decode cX6_readFirm 18 = .ok (.ireturn, 1) := by decide +kernel
theorem dX6_readFirm_19 : decode cX6_readFirm 19 = .ok (.iconst 0, 1) := by decide +kernel
theorem dX6_readFirm_20 : decode cX6_readFirm 20 = .ok (.istore_n 2, 1) := by decide +kernel
theorem dX6_readFirm_21 : decode cX6_readFirm 21 = .ok (.iconst 0, 1) := by decide +kernel
theorem dX6_readFirm_22 : decode cX6_readFirm 22 = .ok (.istore_n 3, 1) := by decide +kernel
theorem dX6_readFirm_23 : decode cX6_readFirm 23 = .ok (.iload_n 3, 1) := by decide +kernel
theorem dX6_readFirm_24 : decode cX6_readFirm 24 = .ok (.iconst 5, 1) := by decide +kernel
theorem dX6_readFirm_25 : decode cX6_readFirm 25 = .ok (.if_icmp .gt 91, 3) := by decide +kernel
theorem dX6_readFirm_28 : decode cX6_readFirm 28 = .ok (.aload_n 0, 1) := by decide +kernel
theorem dX6_readFirm_29 : decode cX6_readFirm 29 = .ok (.iconst 1, 1) := by decide +kernel
theorem dX6_readFirm_30 : decode cX6_readFirm 30 = .ok (.invokevirtual 167, 3) := by decide +kernel
theorem dX6_readFirm_33 : decode cX6_readFirm 33 = .ok (.istore 4, 2) := by decide +kernel
theorem dX6_readFirm_35 : decode cX6_readFirm 35 = .ok (.iload 4, 2) := by decide +kernel
theorem dX6_readFirm_37 : decode cX6_readFirm 37 = .ok (.iconst (-1), 1) := by decide +kernel
theorem dX6_readFirm_38 : decode cX6_readFirm 38 = .ok (.if_icmp .ne 5, 3) := by decide +kernel
theorem dX6_readFirm_41 : decode cX6_readFirm 41 = .ok (.iconst 0, 1) := by decide +kernel
theorem dX6_readFirm_42 : decode cX6_readFirm 42 = .ok (.ireturn, 1) := by decide +kernel
theorem dX6_readFirm_43 : decode cX6_readFirm 43 = .ok (.iload_n 2, 1) := by decide +kernel
theorem dX6_readFirm_44 : decode cX6_readFirm 44 = .ok (.iload 4, 2) := by decide +kernel
theorem dX6_readFirm_46 : decode cX6_readFirm 46 = .ok (.invokestatic 171, 3) := by decide +kernel
theorem dX6_readFirm_49 : decode cX6_readFirm 49 = .ok (.ifCond .eq 9, 3) := by decide +kernel
theorem dX6_readFirm_52 : decode cX6_readFirm 52 = .ok (.aload_n 0, 1) := by decide +kernel
theorem dX6_readFirm_53 : decode cX6_readFirm 53 = .ok (.iconst 3, 1) := by decide +kernel
theorem dX6_readFirm_54 : decode cX6_readFirm 54 = .ok (.invokevirtual 66, 3) := by decide +kernel
theorem dX6_readFirm_57 : decode cX6_readFirm 57 = .ok (.ireturn, 1) := by decide +kernel
theorem dX6_readFirm_58 : decode cX6_readFirm 58 = .ok (.iload_n 2, 1) := by decide +kernel
theorem dX6_readFirm_59 : decode cX6_readFirm 59 = .ok (.iconst 1, 1) := by decide +kernel
theorem dX6_readFirm_60 : decode cX6_readFirm 60 = .ok (.iload 4, 2) := by decide +kernel
theorem dX6_readFirm_62 : decode cX6_readFirm 62 = .ok (.ishl, 1) := by decide +kernel
theorem dX6_readFirm_63 : decode cX6_readFirm 63 = .ok (.ior, 1) := by decide +kernel
theorem dX6_readFirm_64 : decode cX6_readFirm 64 = .ok (.istore_n 2, 1) := by decide +kernel
theorem dX6_readFirm_65 : decode cX6_readFirm 65 = .ok (.iload_n 3, 1) := by decide +kernel
theorem dX6_readFirm_66 : decode cX6_readFirm 66 = .ok (.ifCond .ne 16, 3) := by decide +kernel
theorem dX6_readFirm_69 : decode cX6_readFirm 69 = .ok (.aload_n 0, 1) := by decide +kernel
theorem dX6_readFirm_70 : decode cX6_readFirm 70 = .ok (.getfield 12, 3) := by decide +kernel
theorem dX6_readFirm_73 : decode cX6_readFirm 73 = .ok (.getfield 174, 3) := by decide +kernel
theorem dX6_readFirm_76 : decode cX6_readFirm 76 = .ok (.iload_n 1, 1) := by decide +kernel
theorem dX6_readFirm_77 : decode cX6_readFirm 77 = .ok (.iload 4, 2) := by decide +kernel
theorem dX6_readFirm_79 : decode cX6_readFirm 79 = .ok (.invokestatic 177, 3) := by decide +kernel
theorem dX6_readFirm_82 : decode cX6_readFirm 82 = .ok (.aload_n 0, 1) := by decide +kernel
theorem dX6_readFirm_83 : decode cX6_readFirm 83 = .ok (.getfield 29, 3) := by decide +kernel
theorem dX6_readFirm_86 : decode cX6_readFirm 86 = .ok (.invokevirtual 70, 3) := by decide +kernel
theorem dX6_readFirm_89 : decode cX6_readFirm 89 = .ok (.aload_n 0, 1) := by decide +kernel
theorem dX6_readFirm_90 : decode cX6_readFirm 90 = .ok (.getfield 29, 3) := by decide +kernel
theorem dX6_readFirm_93 : decode cX6_readFirm 93 = .ok (.getfield 60, 3) := by decide +kernel
theorem dX6_readFirm_96 : decode cX6_readFirm 96 = .ok (.iconst 4, 1) := by decide +kernel
theorem dX6_readFirm_97 : decode cX6_readFirm 97 = .ok (.if_icmp .eq 6, 3) := by decide +kernel
theorem dX6_readFirm_100 : decode cX6_readFirm 100 = .ok (.goto 16, 3) := by decide +kernel
theorem dX6_readFirm_103 : decode cX6_readFirm 103 = .ok (.aload_n 0, 1) := by decide +kernel
theorem dX6_readFirm_104 : decode cX6_readFirm 104 = .ok (.getfield 29, 3) := by decide +kernel
theorem dX6_readFirm_107 : decode cX6_readFirm 107 = .ok (.invokevirtual 70, 3) := by decide +kernel
theorem dX6_readFirm_110 : decode cX6_readFirm 110 = .ok (.iinc 3 1, 3) := by decide +kernel
theorem dX6_readFirm_113 : decode cX6_readFirm 113 = .ok (.goto (-90), 3) := by decide +kernel
theorem dX6_readFirm_116 : decode cX6_readFirm 116 = .ok (.aload_n 0, 1) := by decide +kernel
theorem dX6_readFirm_117 : decode cX6_readFirm 117 = .ok (.getfield 12, 3) := by decide +kernel
theorem dX6_readFirm_120 : decode cX6_readFirm 120 = .ok (.getfield 181, 3) := by decide +kernel
theorem dX6_readFirm_123 : decode cX6_readFirm 123 = .ok (.iload_n 1, 1) := by decide +kernel
theorem dX6_readFirm_124 : decode cX6_readFirm 124 = .ok (.iload_n 2, 1) := by decide +kernel
theorem dX6_readFirm_125 : decode cX6_readFirm 125 = .ok (.invokestatic 177, 3) := by decide +kernel
theorem dX6_readFirm_128 : decode cX6_readFirm 128 = .ok (.aload_n 0, 1) := by decide +kernel
theorem dX6_readFirm_129 : decode cX6_readFirm 129 = .ok (.getfield 12, 3) := by decide +kernel
theorem dX6_readFirm_132 : decode cX6_readFirm 132 = .ok (.dup, 1) := by decide +kernel
theorem dX6_readFirm_133 : decode cX6_readFirm 133 = .ok (.getfield 129, 3) := by decide +kernel
theorem dX6_readFirm_136 : decode cX6_readFirm 136 = .ok (.iconst 1, 1) := by decide +kernel
theorem dX6_readFirm_137 : decode cX6_readFirm 137 = .ok (.iadd, 1) := by decide +kernel
theorem dX6_readFirm_138 : decode cX6_readFirm 138 = .ok (.putfield 129, 3) := by decide +kernel
theorem dX6_readFirm_141 : decode cX6_readFirm 141 = .ok (.iconst 1, 1) := by decide +kernel
theorem dX6_readFirm_142 : decode cX6_readFirm 142 = .ok (.ireturn, 1) := by decide +kernel
theorem dX6_readGate_0 : decode cX6_readGate 0 = .ok (.aload_n 0, 1) := by decide +kernel
theorem dX6_readGate_1 : decode cX6_readGate 1 = .ok (.iconst 3, 1) := by decide +kernel
theorem dX6_readGate_2 : decode cX6_readGate 2 = .ok (.aload_n 0, 1) := by decide +kernel
theorem dX6_readGate_3 : decode cX6_readGate 3 = .ok (.getfield 12, 3) := by decide +kernel
theorem dX6_readGate_6 : decode cX6_readGate 6 = .ok (.getfield 63, 3) := by decide +kernel
theorem dX6_readGate_9 : decode cX6_readGate 9 = .ok (.invokevirtual 163, 3) := by decide +kernel
theorem dX6_readGate_12 : decode cX6_readGate 12 = .ok (.ifCond .ne 5, 3) := by decide +kernel
theorem dX6_readGate_15 : decode cX6_readGate 15 = .ok (.iconst 0, 1) := by decide +kernel
theorem dX6_readGate_16 : decode cX6_readGate 16 = .ok (.ireturn, 1) := by decide +kernel
theorem dX6_readGate_17 : decode cX6_readGate 17 = .ok (.aload_n 0, 1) := by decide +kernel
theorem dX6_readGate_18 : decode cX6_readGate 18 = .ok (.invokevirtual 184, 3) := by decide +kernel
theorem dX6_readGate_21 : decode cX6_readGate 21 = .ok (.istore_n 1, 1) := by decide +kernel
theorem dX6_readGate_22 : decode cX6_readGate 22 = .ok (.iload_n 1, 1) := by decide +kernel
theorem dX6_readGate_23 : decode cX6_readGate 23 = .ok (.iconst (-1), 1) := by decide +kernel
theorem dX6_readGate_24 : decode cX6_readGate 24 = .ok (.if_icmp .ne 9, 3) := by decide +kernel
theorem dX6_readGate_27 : decode cX6_readGate 27 = .ok (.aload_n 0, 1) := by decide +kernel
theorem dX6_readGate_28 : decode cX6_readGate 28 = .ok (.iconst 1, 1) := by decide +kernel
theorem dX6_readGate_29 : decode cX6_readGate 29 = .ok (.invokevirtual 66, 3) := by decide +kernel
theorem dX6_readGate_32 : decode cX6_readGate 32 = .ok (.ireturn, 1) := by decide +kernel
theorem dX6_readGate_33 : decode cX6_readGate 33 = .ok (.aload_n 0, 1) := by decide +kernel
theorem dX6_readGate_34 : decode cX6_readGate 34 = .ok (.getfield 29, 3) := by decide +kernel
theorem dX6_readGate_37 : decode cX6_readGate 37 = .ok (.invokevirtual 70, 3) := by decide +kernel
theorem dX6_readGate_40 : decode cX6_readGate 40 = .ok (.aload_n 0, 1) := by decide +kernel
theorem dX6_readGate_41 : decode cX6_readGate 41 = .ok (.iconst 2, 1) := by decide +kernel
theorem dX6_readGate_42 : decode cX6_readGate 42 = .ok (.invokevirtual 167, 3) := by decide +kernel
theorem dX6_readGate_45 : decode cX6_readGate 45 = .ok (.istore_n 2, 1) := by decide +kernel
theorem dX6_readGate_46 : decode cX6_readGate 46 = .ok (.iload_n 2, 1) := by decide +kernel
theorem dX6_readGate_47 : decode cX6_readGate 47 = .ok (.iconst (-1), 1) := by decide +kernel
theorem dX6_readGate_48 : decode cX6_readGate 48 = .ok (.if_icmp .ne 5, 3) := by decide +kernel
theorem dX6_readGate_51 : decode cX6_readGate 51 = .ok (.iconst 0, 1) := by decide +kernel
theorem dX6_readGate_52 : decode cX6_readGate 52 = .ok (.ireturn, 1) := by decide +kernel
theorem dX6_readGate_53 : decode cX6_readGate 53 = .ok (.aload_n 0, 1) := by decide +kernel
theorem dX6_readGate_54 : decode cX6_readGate 54 = .ok (.getfield 29, 3) := by decide +kernel
theorem dX6_readGate_57 : decode cX6_readGate 57 = .ok (.invokevirtual 70, 3) := by decide +kernel
theorem dX6_readGate_60 : decode cX6_readGate 60 = .ok (.aload_n 0, 1) := by decide +kernel
theorem dX6_readGate_61 : decode cX6_readGate 61 = .ok (.ldc 187, 2) := by decide +kernel
theorem dX6_readGate_63 : decode cX6_readGate 63 = .ok (.invokevirtual 147, 3) := by decide +kernel
theorem dX6_readGate_66 : decode cX6_readGate 66 = .ok (.ifCond .eq 12, 3) := by decide +kernel
theorem dX6_readGate_69 : decode cX6_readGate 69 = .ok (.aload_n 0, 1) := by decide +kernel
theorem dX6_readGate_70 : decode cX6_readGate 70 = .ok (.bipush 99, 2) := by decide +kernel
theorem dX6_readGate_72 : decode cX6_readGate 72 = .ok (.invokevirtual 150, 3) := by decide +kernel
theorem dX6_readGate_75 : decode cX6_readGate 75 = .ok (.ifCond .ne 5, 3) := by decide +kernel
theorem dX6_readGate_78 : decode cX6_readGate 78 = .ok (.iconst 0, 1) := by decide +kernel
theorem dX6_readGate_79 : decode cX6_readGate 79 = .ok (.ireturn, 1) := by decide +kernel
theorem dX6_readGate_80 : decode cX6_readGate 80 = .ok (.aload_n 0, 1) := by decide +kernel
theorem dX6_readGate_81 : decode cX6_readGate 81 = .ok (.getfield 29, 3) := by decide +kernel
theorem dX6_readGate_84 : decode cX6_readGate 84 = .ok (.getfield 153, 3) := by decide +kernel
theorem dX6_readGate_87 : decode cX6_readGate 87 = .ok (.istore_n 3, 1) := by decide +kernel
theorem dX6_readGate_88 : decode cX6_readGate 88 = .ok (.aload_n 0, 1) := by decide +kernel
theorem dX6_readGate_89 : decode cX6_readGate 89 = .ok (.getfield 29, 3) := by decide +kernel
theorem dX6_readGate_92 : decode cX6_readGate 92 = .ok (.invokevirtual 70, 3) := by decide +kernel
theorem dX6_readGate_95 : decode cX6_readGate 95 = .ok (.aload_n 0, 1) := by decide +kernel
theorem dX6_readGate_96 : decode cX6_readGate 96 = .ok (.invokevirtual 189, 3) := by decide +kernel
theorem dX6_readGate_99 : decode cX6_readGate 99 = .ok (.istore 4, 2) := by decide +kernel
theorem dX6_readGate_101 : decode cX6_readGate 101 = .ok (.iload 4, 2) := by decide +kernel
theorem dX6_readGate_103 : decode cX6_readGate 103 = .ok (.iconst (-1), 1) := by decide +kernel
theorem dX6_readGate_104 : decode cX6_readGate 104 = .ok (.if_icmp .ne 9, 3) := by decide +kernel
theorem dX6_readGate_107 : decode cX6_readGate 107 = .ok (.aload_n 0, 1) := by decide +kernel
theorem dX6_readGate_108 : decode cX6_readGate 108 = .ok (.iconst 1, 1) := by decide +kernel
theorem dX6_readGate_109 : decode cX6_readGate 109 = .ok (.invokevirtual 66, 3) := by decide +kernel
theorem dX6_readGate_112 : decode cX6_readGate 112 = .ok (.ireturn, 1) := by decide +kernel
theorem dX6_readGate_113 : decode cX6_readGate 113 = .ok (.aload_n 0, 1) := by decide +kernel
theorem dX6_readGate_114 : decode cX6_readGate 114 = .ok (.getfield 12, 3) := by decide +kernel
theorem dX6_readGate_117 : decode cX6_readGate 117 = .ok (.iload_n 1, 1) := by decide +kernel
theorem dX6_readGate_118 : decode cX6_readGate 118 = .ok (.iload_n 2, 1) := by decide +kernel
theorem dX6_readGate_119 : decode cX6_readGate 119 = .ok (.iload_n 3, 1) := by decide +kernel
theorem dX6_readGate_120 : decode cX6_readGate 120 = .ok (.iload 4, 2) := by decide +kernel
theorem dX6_readGate_122 : decode cX6_readGate 122 = .ok (.invokevirtual 192, 3) := by decide +kernel
theorem dX6_readGate_125 : decode cX6_readGate 125 = .ok (.aload_n 0, 1) := by decide +kernel
theorem dX6_readGate_126 : decode cX6_readGate 126 = .ok (.getfield 29, 3) := by decide +kernel
theorem dX6_readGate_129 : decode cX6_readGate 129 = .ok (.invokevirtual 70, 3) := by decide +kernel
theorem dX6_readGate_132 : decode cX6_readGate 132 = .ok (.iconst 1, 1) := by decide +kernel
theorem dX6_readGate_133 : decode cX6_readGate 133 = .ok (.ireturn, 1) := by decide +kernel
theorem dX6_kindOf_0 : decode cX6_kindOf 0 = .ok (.aload_n 0, 1) := by decide +kernel
theorem dX6_kindOf_1 : decode cX6_kindOf 1 = .ok (.getfield 29, 3) := by decide +kernel
theorem dX6_kindOf_4 : decode cX6_kindOf 4 = .ok (.ldc 196, 2) := by decide +kernel
theorem dX6_kindOf_6 : decode cX6_kindOf 6 = .ok (.invokevirtual 106, 3) := by decide +kernel
theorem dX6_kindOf_9 : decode cX6_kindOf 9 = .ok (.ifCond .eq 5, 3) := by decide +kernel
theorem dX6_kindOf_12 : decode cX6_kindOf 12 = .ok (.iconst 0, 1) := by decide +kernel
theorem dX6_kindOf_13 : decode cX6_kindOf 13 = .ok (.ireturn, 1) := by decide +kernel
theorem dX6_kindOf_14 : decode cX6_kindOf 14 = .ok (.aload_n 0, 1) := by decide +kernel
theorem dX6_kindOf_15 : decode cX6_kindOf 15 = .ok (.getfield 29, 3) := by decide +kernel
theorem dX6_kindOf_18 : decode cX6_kindOf 18 = .ok (.ldc 198, 2) := by decide +kernel
theorem dX6_kindOf_20 : decode cX6_kindOf 20 = .ok (.invokevirtual 106, 3) := by decide +kernel
theorem dX6_kindOf_23 : decode cX6_kindOf 23 = .ok (.ifCond .eq 5, 3) := by decide +kernel
theorem dX6_kindOf_26 : decode cX6_kindOf 26 = .ok (.iconst 1, 1) := by decide +kernel
theorem dX6_kindOf_27 : decode cX6_kindOf 27 = .ok (.ireturn, 1) := by decide +kernel
theorem dX6_kindOf_28 : decode cX6_kindOf 28 = .ok (.aload_n 0, 1) := by decide +kernel
theorem dX6_kindOf_29 : decode cX6_kindOf 29 = .ok (.getfield 29, 3) := by decide +kernel
theorem dX6_kindOf_32 : decode cX6_kindOf 32 = .ok (.ldc 200, 2) := by decide +kernel
theorem dX6_kindOf_34 : decode cX6_kindOf 34 = .ok (.invokevirtual 106, 3) := by decide +kernel
theorem dX6_kindOf_37 : decode cX6_kindOf 37 = .ok (.ifCond .eq 5, 3) := by decide +kernel
theorem dX6_kindOf_40 : decode cX6_kindOf 40 = .ok (.iconst 2, 1) := by decide +kernel
theorem dX6_kindOf_41 : decode cX6_kindOf 41 = .ok (.ireturn, 1) := by decide +kernel
theorem dX6_kindOf_42 : decode cX6_kindOf 42 = .ok (.aload_n 0, 1) := by decide +kernel
theorem dX6_kindOf_43 : decode cX6_kindOf 43 = .ok (.getfield 29, 3) := by decide +kernel
theorem dX6_kindOf_46 : decode cX6_kindOf 46 = .ok (.ldc 202, 2) := by decide +kernel
theorem dX6_kindOf_48 : decode cX6_kindOf 48 = .ok (.invokevirtual 106, 3) := by decide +kernel
theorem dX6_kindOf_51 : decode cX6_kindOf 51 = .ok (.ifCond .eq 7, 3) := by decide +kernel
theorem dX6_kindOf_54 : decode cX6_kindOf 54 = .ok (.iconst 3, 1) := by decide +kernel
theorem dX6_kindOf_55 : decode cX6_kindOf 55 = .ok (.goto 4, 3) := by decide +kernel
theorem dX6_kindOf_58 : decode cX6_kindOf 58 = .ok (.iconst (-1), 1) := by decide +kernel
theorem dX6_kindOf_59 : decode cX6_kindOf 59 = .ok (.ireturn, 1) := by decide +kernel
theorem dX6_hungOf_0 : decode cX6_hungOf 0 = .ok (.aload_n 0, 1) := by decide +kernel
theorem dX6_hungOf_1 : decode cX6_hungOf 1 = .ok (.getfield 29, 3) := by decide +kernel
theorem dX6_hungOf_4 : decode cX6_hungOf 4 = .ok (.ldc 204, 2) := by decide +kernel
theorem dX6_hungOf_6 : decode cX6_hungOf 6 = .ok (.invokevirtual 106, 3) := by decide +kernel
theorem dX6_hungOf_9 : decode cX6_hungOf 9 = .ok (.ifCond .eq 5, 3) := by decide +kernel
theorem dX6_hungOf_12 : decode cX6_hungOf 12 = .ok (.iconst 0, 1) := by decide +kernel
theorem dX6_hungOf_13 : decode cX6_hungOf 13 = .ok (.ireturn, 1) := by decide +kernel
theorem dX6_hungOf_14 : decode cX6_hungOf 14 = .ok (.aload_n 0, 1) := by decide +kernel
theorem dX6_hungOf_15 : decode cX6_hungOf 15 = .ok (.getfield 29, 3) := by decide +kernel
theorem dX6_hungOf_18 : decode cX6_hungOf 18 = .ok (.ldc 206, 2) := by decide +kernel
theorem dX6_hungOf_20 : decode cX6_hungOf 20 = .ok (.invokevirtual 106, 3) := by decide +kernel
theorem dX6_hungOf_23 : decode cX6_hungOf 23 = .ok (.ifCond .eq 5, 3) := by decide +kernel
theorem dX6_hungOf_26 : decode cX6_hungOf 26 = .ok (.iconst 1, 1) := by decide +kernel
theorem dX6_hungOf_27 : decode cX6_hungOf 27 = .ok (.ireturn, 1) := by decide +kernel
theorem dX6_hungOf_28 : decode cX6_hungOf 28 = .ok (.aload_n 0, 1) := by decide +kernel
theorem dX6_hungOf_29 : decode cX6_hungOf 29 = .ok (.getfield 29, 3) := by decide +kernel
theorem dX6_hungOf_32 : decode cX6_hungOf 32 = .ok (.ldc 208, 2) := by decide +kernel
theorem dX6_hungOf_34 : decode cX6_hungOf 34 = .ok (.invokevirtual 106, 3) := by decide +kernel
theorem dX6_hungOf_37 : decode cX6_hungOf 37 = .ok (.ifCond .eq 7, 3) := by decide +kernel
theorem dX6_hungOf_40 : decode cX6_hungOf 40 = .ok (.iconst 2, 1) := by decide +kernel
theorem dX6_hungOf_41 : decode cX6_hungOf 41 = .ok (.goto 4, 3) := by decide +kernel
theorem dX6_hungOf_44 : decode cX6_hungOf 44 = .ok (.iconst (-1), 1) := by decide +kernel
theorem dX6_hungOf_45 : decode cX6_hungOf 45 = .ok (.ireturn, 1) := by decide +kernel
theorem dX6_readPath_0 : decode cX6_readPath 0 = .ok (.aload_n 0, 1) := by decide +kernel
theorem dX6_readPath_1 : decode cX6_readPath 1 = .ok (.iconst 3, 1) := by decide +kernel
theorem dX6_readPath_2 : decode cX6_readPath 2 = .ok (.invokevirtual 167, 3) := by decide +kernel
theorem dX6_readPath_5 : decode cX6_readPath 5 = .ok (.istore_n 1, 1) := by decide +kernel
theorem dX6_readPath_6 : decode cX6_readPath 6 = .ok (.iload_n 1, 1) := by decide +kernel
theorem dX6_readPath_7 : decode cX6_readPath 7 = .ok (.iconst (-1), 1) := by decide +kernel
theorem dX6_readPath_8 : decode cX6_readPath 8 = .ok (.if_icmp .ne 5, 3) := by decide +kernel
theorem dX6_readPath_11 : decode cX6_readPath 11 = .ok (.iconst 0, 1) := by decide +kernel
theorem dX6_readPath_12 : decode cX6_readPath 12 = .ok (.ireturn, 1) := by decide +kernel
theorem dX6_readPath_13 : decode cX6_readPath 13 = .ok (.aload_n 0, 1) := by decide +kernel
theorem dX6_readPath_14 : decode cX6_readPath 14 = .ok (.getfield 29, 3) := by decide +kernel
theorem dX6_readPath_17 : decode cX6_readPath 17 = .ok (.invokevirtual 70, 3) := by decide +kernel
theorem dX6_readPath_20 : decode cX6_readPath 20 = .ok (.aload_n 0, 1) := by decide +kernel
theorem dX6_readPath_21 : decode cX6_readPath 21 = .ok (.iconst 3, 1) := by decide +kernel
theorem dX6_readPath_22 : decode cX6_readPath 22 = .ok (.invokevirtual 167, 3) := by decide +kernel
theorem dX6_readPath_25 : decode cX6_readPath 25 = .ok (.istore_n 2, 1) := by decide +kernel
theorem dX6_readPath_26 : decode cX6_readPath 26 = .ok (.iload_n 2, 1) := by decide +kernel
theorem dX6_readPath_27 : decode cX6_readPath 27 = .ok (.iconst (-1), 1) := by decide +kernel
theorem dX6_readPath_28 : decode cX6_readPath 28 = .ok (.if_icmp .ne 5, 3) := by decide +kernel
theorem dX6_readPath_31 : decode cX6_readPath 31 = .ok (.iconst 0, 1) := by decide +kernel
theorem dX6_readPath_32 : decode cX6_readPath 32 = .ok (.ireturn, 1) := by decide +kernel
theorem dX6_readPath_33 : decode cX6_readPath 33 = .ok (.iload_n 2, 1) := by decide +kernel
theorem dX6_readPath_34 : decode cX6_readPath 34 = .ok (.iload_n 1, 1) := by decide +kernel
theorem dX6_readPath_35 : decode cX6_readPath 35 = .ok (.if_icmp .eq 21, 3) := by decide +kernel
theorem dX6_readPath_38 : decode cX6_readPath 38 = .ok (.aload_n 0, 1) := by decide +kernel
theorem dX6_readPath_39 : decode cX6_readPath 39 = .ok (.getfield 12, 3) := by decide +kernel
theorem dX6_readPath_42 : decode cX6_readPath 42 = .ok (.getfield 210, 3) := by decide +kernel
theorem dX6_readPath_45 : decode cX6_readPath 45 = .ok (.iload_n 1, 1) := by decide +kernel
theorem dX6_readPath_46 : decode cX6_readPath 46 = .ok (.invokestatic 213, 3) := by decide +kernel
theorem dX6_readPath_49 : decode cX6_readPath 49 = .ok (.iload_n 2, 1) := by decide +kernel
theorem dX6_readPath_50 : decode cX6_readPath 50 = .ok (.invokestatic 171, 3) := by decide +kernel
theorem dX6_readPath_53 : decode cX6_readPath 53 = .ok (.ifCond .eq 9, 3) := by decide +kernel
theorem dX6_readPath_56 : decode cX6_readPath 56 = .ok (.aload_n 0, 1) := by decide +kernel
theorem dX6_readPath_57 : decode cX6_readPath 57 = .ok (.iconst 3, 1) := by decide +kernel
theorem dX6_readPath_58 : decode cX6_readPath 58 = .ok (.invokevirtual 66, 3) := by decide +kernel
theorem dX6_readPath_61 : decode cX6_readPath 61 = .ok (.ireturn, 1) := by decide +kernel
theorem dX6_readPath_62 : decode cX6_readPath 62 = .ok (.aload_n 0, 1) := by decide +kernel
theorem dX6_readPath_63 : decode cX6_readPath 63 = .ok (.getfield 12, 3) := by decide +kernel
theorem dX6_readPath_66 : decode cX6_readPath 66 = .ok (.iload_n 1, 1) := by decide +kernel
theorem dX6_readPath_67 : decode cX6_readPath 67 = .ok (.iload_n 2, 1) := by decide +kernel
theorem dX6_readPath_68 : decode cX6_readPath 68 = .ok (.invokevirtual 217, 3) := by decide +kernel
theorem dX6_readPath_71 : decode cX6_readPath 71 = .ok (.aload_n 0, 1) := by decide +kernel
theorem dX6_readPath_72 : decode cX6_readPath 72 = .ok (.getfield 29, 3) := by decide +kernel
theorem dX6_readPath_75 : decode cX6_readPath 75 = .ok (.invokevirtual 70, 3) := by decide +kernel
theorem dX6_readPath_78 : decode cX6_readPath 78 = .ok (.iconst 1, 1) := by decide +kernel
theorem dX6_readPath_79 : decode cX6_readPath 79 = .ok (.ireturn, 1) := by decide +kernel
theorem dX6_readWant_0 : decode cX6_readWant 0 = .ok (.aload_n 0, 1) := by decide +kernel
theorem dX6_readWant_1 : decode cX6_readWant 1 = .ok (.iconst 1, 1) := by decide +kernel
theorem dX6_readWant_2 : decode cX6_readWant 2 = .ok (.invokevirtual 167, 3) := by decide +kernel
theorem dX6_readWant_5 : decode cX6_readWant 5 = .ok (.istore_n 2, 1) := by decide +kernel
theorem dX6_readWant_6 : decode cX6_readWant 6 = .ok (.iload_n 2, 1) := by decide +kernel
theorem dX6_readWant_7 : decode cX6_readWant 7 = .ok (.iconst (-1), 1) := by decide +kernel
theorem dX6_readWant_8 : decode cX6_readWant 8 = .ok (.if_icmp .ne 5, 3) := by decide +kernel
theorem dX6_readWant_11 : decode cX6_readWant 11 = .ok (.iconst 0, 1) := by decide +kernel
theorem dX6_readWant_12 : decode cX6_readWant 12 = .ok (.ireturn, 1) := by decide +kernel
theorem dX6_readWant_13 : decode cX6_readWant 13 = .ok (.aload_n 0, 1) := by decide +kernel
theorem dX6_readWant_14 : decode cX6_readWant 14 = .ok (.getfield 29, 3) := by decide +kernel
theorem dX6_readWant_17 : decode cX6_readWant 17 = .ok (.invokevirtual 70, 3) := by decide +kernel
theorem dX6_readWant_20 : decode cX6_readWant 20 = .ok (.aload_n 0, 1) := by decide +kernel
theorem dX6_readWant_21 : decode cX6_readWant 21 = .ok (.iconst 3, 1) := by decide +kernel
theorem dX6_readWant_22 : decode cX6_readWant 22 = .ok (.invokevirtual 167, 3) := by decide +kernel
theorem dX6_readWant_25 : decode cX6_readWant 25 = .ok (.istore_n 3, 1) := by decide +kernel
theorem dX6_readWant_26 : decode cX6_readWant 26 = .ok (.iload_n 3, 1) := by decide +kernel
theorem dX6_readWant_27 : decode cX6_readWant 27 = .ok (.iconst (-1), 1) := by decide +kernel
theorem dX6_readWant_28 : decode cX6_readWant 28 = .ok (.if_icmp .ne 5, 3) := by decide +kernel
theorem dX6_readWant_31 : decode cX6_readWant 31 = .ok (.iconst 0, 1) := by decide +kernel
theorem dX6_readWant_32 : decode cX6_readWant 32 = .ok (.ireturn, 1) := by decide +kernel
theorem dX6_readWant_33 : decode cX6_readWant 33 = .ok (.aload_n 0, 1) := by decide +kernel
theorem dX6_readWant_34 : decode cX6_readWant 34 = .ok (.getfield 12, 3) := by decide +kernel
theorem dX6_readWant_37 : decode cX6_readWant 37 = .ok (.getfield 135, 3) := by decide +kernel
theorem dX6_readWant_40 : decode cX6_readWant 40 = .ok (.iload_n 2, 1) := by decide +kernel
theorem dX6_readWant_41 : decode cX6_readWant 41 = .ok (.iload_n 3, 1) := by decide +kernel
theorem dX6_readWant_42 : decode cX6_readWant 42 = .ok (.iload_n 1, 1) := by decide +kernel
theorem dX6_readWant_43 : decode cX6_readWant 43 = .ok (.invokevirtual 221, 3) := by decide +kernel
theorem dX6_readWant_46 : decode cX6_readWant 46 = .ok (.aload_n 0, 1) := by decide +kernel
theorem dX6_readWant_47 : decode cX6_readWant 47 = .ok (.getfield 29, 3) := by decide +kernel
theorem dX6_readWant_50 : decode cX6_readWant 50 = .ok (.invokevirtual 70, 3) := by decide +kernel
theorem dX6_readWant_53 : decode cX6_readWant 53 = .ok (.iconst 1, 1) := by decide +kernel
theorem dX6_readWant_54 : decode cX6_readWant 54 = .ok (.ireturn, 1) := by decide +kernel
theorem dX6_readLost_0 : decode cX6_readLost 0 = .ok (.aload_n 0, 1) := by decide +kernel
theorem dX6_readLost_1 : decode cX6_readLost 1 = .ok (.iconst 3, 1) := by decide +kernel
theorem dX6_readLost_2 : decode cX6_readLost 2 = .ok (.invokevirtual 167, 3) := by decide +kernel
theorem dX6_readLost_5 : decode cX6_readLost 5 = .ok (.istore_n 1, 1) := by decide +kernel
theorem dX6_readLost_6 : decode cX6_readLost 6 = .ok (.iload_n 1, 1) := by decide +kernel
theorem dX6_readLost_7 : decode cX6_readLost 7 = .ok (.iconst (-1), 1) := by decide +kernel
theorem dX6_readLost_8 : decode cX6_readLost 8 = .ok (.if_icmp .ne 5, 3) := by decide +kernel
theorem dX6_readLost_11 : decode cX6_readLost 11 = .ok (.iconst 0, 1) := by decide +kernel
theorem dX6_readLost_12 : decode cX6_readLost 12 = .ok (.ireturn, 1) := by decide +kernel
theorem dX6_readLost_13 : decode cX6_readLost 13 = .ok (.aload_n 0, 1) := by decide +kernel
theorem dX6_readLost_14 : decode cX6_readLost 14 = .ok (.getfield 12, 3) := by decide +kernel
theorem dX6_readLost_17 : decode cX6_readLost 17 = .ok (.getfield 135, 3) := by decide +kernel
theorem dX6_readLost_20 : decode cX6_readLost 20 = .ok (.iload_n 1, 1) := by decide +kernel
theorem dX6_readLost_21 : decode cX6_readLost 21 = .ok (.invokevirtual 225, 3) := by decide +kernel
theorem dX6_readLost_24 : decode cX6_readLost 24 = .ok (.ifCond .eq 9, 3) := by decide +kernel
theorem dX6_readLost_27 : decode cX6_readLost 27 = .ok (.aload_n 0, 1) := by decide +kernel
theorem dX6_readLost_28 : decode cX6_readLost 28 = .ok (.iconst 3, 1) := by decide +kernel
theorem dX6_readLost_29 : decode cX6_readLost 29 = .ok (.invokevirtual 66, 3) := by decide +kernel
theorem dX6_readLost_32 : decode cX6_readLost 32 = .ok (.ireturn, 1) := by decide +kernel
theorem dX6_readLost_33 : decode cX6_readLost 33 = .ok (.aload_n 0, 1) := by decide +kernel
theorem dX6_readLost_34 : decode cX6_readLost 34 = .ok (.getfield 12, 3) := by decide +kernel
theorem dX6_readLost_37 : decode cX6_readLost 37 = .ok (.getfield 135, 3) := by decide +kernel
theorem dX6_readLost_40 : decode cX6_readLost 40 = .ok (.iload_n 1, 1) := by decide +kernel
theorem dX6_readLost_41 : decode cX6_readLost 41 = .ok (.invokevirtual 228, 3) := by decide +kernel
theorem dX6_readLost_44 : decode cX6_readLost 44 = .ok (.aload_n 0, 1) := by decide +kernel
theorem dX6_readLost_45 : decode cX6_readLost 45 = .ok (.getfield 29, 3) := by decide +kernel
theorem dX6_readLost_48 : decode cX6_readLost 48 = .ok (.invokevirtual 70, 3) := by decide +kernel
theorem dX6_readLost_51 : decode cX6_readLost 51 = .ok (.iconst 1, 1) := by decide +kernel
theorem dX6_readLost_52 : decode cX6_readLost 52 = .ok (.ireturn, 1) := by decide +kernel
theorem dX6_readHad_0 : decode cX6_readHad 0 = .ok (.aload_n 0, 1) := by decide +kernel
theorem dX6_readHad_1 : decode cX6_readHad 1 = .ok (.iconst 1, 1) := by decide +kernel
theorem dX6_readHad_2 : decode cX6_readHad 2 = .ok (.invokevirtual 167, 3) := by decide +kernel
theorem dX6_readHad_5 : decode cX6_readHad 5 = .ok (.istore_n 1, 1) := by decide +kernel
theorem dX6_readHad_6 : decode cX6_readHad 6 = .ok (.iload_n 1, 1) := by decide +kernel
theorem dX6_readHad_7 : decode cX6_readHad 7 = .ok (.iconst (-1), 1) := by decide +kernel
theorem dX6_readHad_8 : decode cX6_readHad 8 = .ok (.if_icmp .ne 5, 3) := by decide +kernel
theorem dX6_readHad_11 : decode cX6_readHad 11 = .ok (.iconst 0, 1) := by decide +kernel
theorem dX6_readHad_12 : decode cX6_readHad 12 = .ok (.ireturn, 1) := by decide +kernel
theorem dX6_readHad_13 : decode cX6_readHad 13 = .ok (.aload_n 0, 1) := by decide +kernel
theorem dX6_readHad_14 : decode cX6_readHad 14 = .ok (.getfield 12, 3) := by decide +kernel
