theorem dX0_init_0 : decode cX0_init 0 = .ok (.aload_n 0, 1) := by decide +kernel
theorem dX0_init_1 : decode cX0_init 1 = .ok (.invokespecial 3, 3) := by decide +kernel
theorem dX0_init_4 : decode cX0_init 4 = .ok (.aload_n 0, 1) := by decide +kernel
theorem dX0_init_5 : decode cX0_init 5 = .ok (.iconst 0, 1) := by decide +kernel
theorem dX0_init_6 : decode cX0_init 6 = .ok (.putfield 9, 3) := by decide +kernel
theorem dX0_init_9 : decode cX0_init 9 = .ok (.aload_n 0, 1) := by decide +kernel
theorem dX0_init_10 : decode cX0_init 10 = .ok (.iconst 0, 1) := by decide +kernel
theorem dX0_init_11 : decode cX0_init 11 = .ok (.putfield 15, 3) := by decide +kernel
theorem dX0_init_14 : decode cX0_init 14 = .ok (.aload_n 0, 1) := by decide +kernel
theorem dX0_init_15 : decode cX0_init 15 = .ok (.bipush 6, 2) := by decide +kernel
theorem dX0_init_17 : decode cX0_init 17 = .ok (.newarray .int, 2) := by decide +kernel
theorem dX0_init_19 : decode cX0_init 19 = .ok (.putfield 18, 3) := by decide +kernel
theorem dX0_init_22 : decode cX0_init 22 = .ok (.return_, 1) := by decide +kernel
theorem dX0_drop_0 : decode cX0_drop 0 = .ok (.aload_n 0, 1) := by decide +kernel
theorem dX0_drop_1 : decode cX0_drop 1 = .ok (.iconst 0, 1) := by decide +kernel
theorem dX0_drop_2 : decode cX0_drop 2 = .ok (.putfield 9, 3) := by decide +kernel
theorem dX0_drop_5 : decode cX0_drop 5 = .ok (.aload_n 0, 1) := by decide +kernel
theorem dX0_drop_6 : decode cX0_drop 6 = .ok (.iconst 0, 1) := by decide +kernel
theorem dX0_drop_7 : decode cX0_drop 7 = .ok (.putfield 15, 3) := by decide +kernel
theorem dX0_drop_10 : decode cX0_drop 10 = .ok (.return_, 1) := by decide +kernel
theorem dX0_copyFrom_0 : decode cX0_copyFrom 0 = .ok (.aload_n 0, 1) := by decide +kernel
theorem dX0_copyFrom_1 : decode cX0_copyFrom 1 = .ok (.aload_n 1, 1) := by decide +kernel
theorem dX0_copyFrom_2 : decode cX0_copyFrom 2 = .ok (.getfield 9, 3) := by decide +kernel
theorem dX0_copyFrom_5 : decode cX0_copyFrom 5 = .ok (.putfield 9, 3) := by decide +kernel
theorem dX0_copyFrom_8 : decode cX0_copyFrom 8 = .ok (.aload_n 0, 1) := by decide +kernel
theorem dX0_copyFrom_9 : decode cX0_copyFrom 9 = .ok (.aload_n 1, 1) := by decide +kernel
theorem dX0_copyFrom_10 : decode cX0_copyFrom 10 = .ok (.getfield 15, 3) := by decide +kernel
theorem dX0_copyFrom_13 : decode cX0_copyFrom 13 = .ok (.putfield 15, 3) := by decide +kernel
theorem dX0_copyFrom_16 : decode cX0_copyFrom 16 = .ok (.aload_n 1, 1) := by decide +kernel
theorem dX0_copyFrom_17 : decode cX0_copyFrom 17 = .ok (.getfield 18, 3) := by decide +kernel
theorem dX0_copyFrom_20 : decode cX0_copyFrom 20 = .ok (.iconst 0, 1) := by decide +kernel
theorem dX0_copyFrom_21 : decode cX0_copyFrom 21 = .ok (.aload_n 0, 1) := by decide +kernel
theorem dX0_copyFrom_22 : decode cX0_copyFrom 22 = .ok (.getfield 18, 3) := by decide +kernel
theorem dX0_copyFrom_25 : decode cX0_copyFrom 25 = .ok (.iconst 0, 1) := by decide +kernel
theorem dX0_copyFrom_26 : decode cX0_copyFrom 26 = .ok (.bipush 6, 2) := by decide +kernel
theorem dX0_copyFrom_28 : decode cX0_copyFrom 28 = .ok (.invokestatic 22, 3) := by decide +kernel
theorem dX0_copyFrom_31 : decode cX0_copyFrom 31 = .ok (.return_, 1) := by decide +kernel
theorem dX0_readFrom_0 : decode cX0_readFrom 0 = .ok (.aload_n 0, 1) := by decide +kernel
theorem dX0_readFrom_1 : decode cX0_readFrom 1 = .ok (.invokevirtual 28, 3) := by decide +kernel
theorem dX0_readFrom_4 : decode cX0_readFrom 4 = .ok (.iconst 0, 1) := by decide +kernel
theorem dX0_readFrom_5 : decode cX0_readFrom 5 = .ok (.istore_n 3, 1) := by decide +kernel
theorem dX0_readFrom_6 : decode cX0_readFrom 6 = .ok (.iload_n 3, 1) := by decide +kernel
theorem dX0_readFrom_7 : decode cX0_readFrom 7 = .ok (.bipush 6, 2) := by decide +kernel
theorem dX0_readFrom_9 : decode cX0_readFrom 9 = .ok (.if_icmp .gt 112, 3) := by decide +kernel
theorem dX0_readFrom_12 : decode cX0_readFrom 12 = .ok (.aload_n 1, 1) := by decide +kernel
theorem dX0_readFrom_13 : decode cX0_readFrom 13 = .ok (.invokevirtual 31, 3) := by decide +kernel
theorem dX0_readFrom_16 : decode cX0_readFrom 16 = .ok (.ifCond .ne 105, 3) := by decide +kernel
theorem dX0_readFrom_19 : decode cX0_readFrom 19 = .ok (.aload_n 1, 1) := by decide +kernel
theorem dX0_readFrom_20 : decode cX0_readFrom 20 = .ok (.invokevirtual 37, 3) := by decide +kernel
theorem dX0_readFrom_23 : decode cX0_readFrom 23 = .ok (.ifCond .ne 98, 3) := by decide +kernel
theorem dX0_readFrom_26 : decode cX0_readFrom 26 = .ok (.aload_n 1, 1) := by decide +kernel
theorem dX0_readFrom_27 : decode cX0_readFrom 27 = .ok (.iconst 0, 1) := by decide +kernel
theorem dX0_readFrom_28 : decode cX0_readFrom 28 = .ok (.iload_n 2, 1) := by decide +kernel
theorem dX0_readFrom_29 : decode cX0_readFrom 29 = .ok (.iconst 1, 1) := by decide +kernel
theorem dX0_readFrom_30 : decode cX0_readFrom 30 = .ok (.isub, 1) := by decide +kernel
theorem dX0_readFrom_31 : decode cX0_readFrom 31 = .ok (.invokevirtual 40, 3) := by decide +kernel
theorem dX0_readFrom_34 : decode cX0_readFrom 34 = .ok (.istore 4, 2) := by decide +kernel
theorem dX0_readFrom_36 : decode cX0_readFrom 36 = .ok (.iload 4, 2) := by decide +kernel
theorem dX0_readFrom_38 : decode cX0_readFrom 38 = .ok (.iconst (-1), 1) := by decide +kernel
theorem dX0_readFrom_39 : decode cX0_readFrom 39 = .ok (.if_icmp .eq 21, 3) := by decide +kernel
theorem dX0_readFrom_42 : decode cX0_readFrom 42 = .ok (.aload_n 0, 1) := by decide +kernel
theorem dX0_readFrom_43 : decode cX0_readFrom 43 = .ok (.iload 4, 2) := by decide +kernel
theorem dX0_readFrom_45 : decode cX0_readFrom 45 = .ok (.invokevirtual 44, 3) := by decide +kernel
theorem dX0_readFrom_48 : decode cX0_readFrom 48 = .ok (.ifCond .eq 12, 3) := by decide +kernel
theorem dX0_readFrom_51 : decode cX0_readFrom 51 = .ok (.aload_n 1, 1) := by decide +kernel
theorem dX0_readFrom_52 : decode cX0_readFrom 52 = .ok (.iconst 2, 1) := by decide +kernel
theorem dX0_readFrom_53 : decode cX0_readFrom 53 = .ok (.aload_n 1, 1) := by decide +kernel
theorem dX0_readFrom_54 : decode cX0_readFrom 54 = .ok (.getfield 48, 3) := by decide +kernel
theorem dX0_readFrom_57 : decode cX0_readFrom 57 = .ok (.invokevirtual 51, 3) := by decide +kernel
theorem dX0_readFrom_60 : decode cX0_readFrom 60 = .ok (.aload_n 1, 1) := by decide +kernel
theorem dX0_readFrom_61 : decode cX0_readFrom 61 = .ok (.iconst 0, 1) := by decide +kernel
theorem dX0_readFrom_62 : decode cX0_readFrom 62 = .ok (.sipush 140, 3) := by decide +kernel
theorem dX0_readFrom_65 : decode cX0_readFrom 65 = .ok (.invokevirtual 40, 3) := by decide +kernel
theorem dX0_readFrom_68 : decode cX0_readFrom 68 = .ok (.istore 5, 2) := by decide +kernel
theorem dX0_readFrom_70 : decode cX0_readFrom 70 = .ok (.aload_n 1, 1) := by decide +kernel
theorem dX0_readFrom_71 : decode cX0_readFrom 71 = .ok (.bipush 59, 2) := by decide +kernel
theorem dX0_readFrom_73 : decode cX0_readFrom 73 = .ok (.invokevirtual 55, 3) := by decide +kernel
theorem dX0_readFrom_76 : decode cX0_readFrom 76 = .ok (.aload_n 1, 1) := by decide +kernel
theorem dX0_readFrom_77 : decode cX0_readFrom 77 = .ok (.invokevirtual 31, 3) := by decide +kernel
theorem dX0_readFrom_80 : decode cX0_readFrom 80 = .ok (.ifCond .ne 35, 3) := by decide +kernel
theorem dX0_readFrom_83 : decode cX0_readFrom 83 = .ok (.aload_n 0, 1) := by decide +kernel
theorem dX0_readFrom_84 : decode cX0_readFrom 84 = .ok (.getfield 18, 3) := by decide +kernel
theorem dX0_readFrom_87 : decode cX0_readFrom 87 = .ok (.iload 4, 2) := by decide +kernel
theorem dX0_readFrom_89 : decode cX0_readFrom 89 = .ok (.iload 5, 2) := by decide +kernel
theorem dX0_readFrom_91 : decode cX0_readFrom 91 = .ok (.iastore, 1) := by decide +kernel
theorem dX0_readFrom_92 : decode cX0_readFrom 92 = .ok (.aload_n 0, 1) := by decide +kernel
theorem dX0_readFrom_93 : decode cX0_readFrom 93 = .ok (.dup, 1) := by decide +kernel
theorem dX0_readFrom_94 : decode cX0_readFrom 94 = .ok (.getfield 15, 3) := by decide +kernel
theorem dX0_readFrom_97 : decode cX0_readFrom 97 = .ok (.iconst 1, 1) := by decide +kernel
theorem dX0_readFrom_98 : decode cX0_readFrom 98 = .ok (.iload 4, 2) := by decide +kernel
theorem dX0_readFrom_100 : decode cX0_readFrom 100 = .ok (.ishl, 1) := by decide +kernel
theorem dX0_readFrom_101 : decode cX0_readFrom 101 = .ok (.ior, 1) := by decide +kernel
theorem dX0_readFrom_102 : decode cX0_readFrom 102 = .ok (.putfield 15, 3) := by decide +kernel
theorem dX0_readFrom_105 : decode cX0_readFrom 105 = .ok (.aload_n 0, 1) := by decide +kernel
theorem dX0_readFrom_106 : decode cX0_readFrom 106 = .ok (.dup, 1) := by decide +kernel
theorem dX0_readFrom_107 : decode cX0_readFrom 107 = .ok (.getfield 9, 3) := by decide +kernel
theorem dX0_readFrom_110 : decode cX0_readFrom 110 = .ok (.iconst 1, 1) := by decide +kernel
theorem dX0_readFrom_111 : decode cX0_readFrom 111 = .ok (.iadd, 1) := by decide +kernel
theorem dX0_readFrom_112 : decode cX0_readFrom 112 = .ok (.putfield 9, 3) := by decide +kernel
theorem dX0_readFrom_115 : decode cX0_readFrom 115 = .ok (.iinc 3 1, 3) := by decide +kernel
theorem dX0_readFrom_118 : decode cX0_readFrom 118 = .ok (.goto (-112), 3) := by decide +kernel
theorem dX0_readFrom_121 : decode cX0_readFrom 121 = .ok (.return_, 1) := by decide +kernel
theorem dX0_hasLine_0 : decode cX0_hasLine 0 = .ok (.aload_n 0, 1) := by decide +kernel
theorem dX0_hasLine_1 : decode cX0_hasLine 1 = .ok (.getfield 15, 3) := by decide +kernel
theorem dX0_hasLine_4 : decode cX0_hasLine 4 = .ok (.iload_n 1, 1) := by decide +kernel
theorem dX0_hasLine_5 : decode cX0_hasLine 5 = .ok (.ishr, 1) := by decide +kernel
theorem dX0_hasLine_6 : decode cX0_hasLine 6 = .ok (.iconst 1, 1) := by decide +kernel
theorem dX0_hasLine_7 : decode cX0_hasLine 7 = .ok (.iand, 1) := by decide +kernel
theorem dX0_hasLine_8 : decode cX0_hasLine 8 = .ok (.ifCond .eq 7, 3) := by decide +kernel
theorem dX0_hasLine_11 : decode cX0_hasLine 11 = .ok (.iconst 1, 1) := by decide +kernel
theorem dX0_hasLine_12 : decode cX0_hasLine 12 = .ok (.goto 4, 3) := by decide +kernel
theorem dX0_hasLine_15 : decode cX0_hasLine 15 = .ok (.iconst 0, 1) := by decide +kernel
theorem dX0_hasLine_16 : decode cX0_hasLine 16 = .ok (.ireturn, 1) := by decide +kernel
theorem dX0_hasBoth_0 : decode cX0_hasBoth 0 = .ok (.aload_n 0, 1) := by decide +kernel
theorem dX0_hasBoth_1 : decode cX0_hasBoth 1 = .ok (.iload_n 1, 1) := by decide +kernel
theorem dX0_hasBoth_2 : decode cX0_hasBoth 2 = .ok (.invokevirtual 44, 3) := by decide +kernel
theorem dX0_hasBoth_5 : decode cX0_hasBoth 5 = .ok (.ifCond .eq 15, 3) := by decide +kernel
theorem dX0_hasBoth_8 : decode cX0_hasBoth 8 = .ok (.aload_n 0, 1) := by decide +kernel
theorem dX0_hasBoth_9 : decode cX0_hasBoth 9 = .ok (.iload_n 2, 1) := by decide +kernel
theorem dX0_hasBoth_10 : decode cX0_hasBoth 10 = .ok (.invokevirtual 44, 3) := by decide +kernel
theorem dX0_hasBoth_13 : decode cX0_hasBoth 13 = .ok (.ifCond .eq 7, 3) := by decide +kernel
theorem dX0_hasBoth_16 : decode cX0_hasBoth 16 = .ok (.iconst 1, 1) := by decide +kernel
theorem dX0_hasBoth_17 : decode cX0_hasBoth 17 = .ok (.goto 4, 3) := by decide +kernel
theorem dX0_hasBoth_20 : decode cX0_hasBoth 20 = .ok (.iconst 0, 1) := by decide +kernel
theorem dX0_hasBoth_21 : decode cX0_hasBoth 21 = .ok (.ireturn, 1) := by decide +kernel
theorem dX0_mondaysHad_0 : decode cX0_mondaysHad 0 = .ok (.aload_n 0, 1) := by decide +kernel
theorem dX0_mondaysHad_1 : decode cX0_mondaysHad 1 = .ok (.getfield 18, 3) := by decide +kernel
theorem dX0_mondaysHad_4 : decode cX0_mondaysHad 4 = .ok (.iload_n 1, 1) := by decide +kernel
theorem dX0_mondaysHad_5 : decode cX0_mondaysHad 5 = .ok (.iaload, 1) := by decide +kernel
theorem dX0_mondaysHad_6 : decode cX0_mondaysHad 6 = .ok (.bipush 6, 2) := by decide +kernel
theorem dX0_mondaysHad_8 : decode cX0_mondaysHad 8 = .ok (.iload_n 2, 1) := by decide +kernel
theorem dX0_mondaysHad_9 : decode cX0_mondaysHad 9 = .ok (.imul, 1) := by decide +kernel
theorem dX0_mondaysHad_10 : decode cX0_mondaysHad 10 = .ok (.isub, 1) := by decide +kernel
theorem dX0_mondaysHad_11 : decode cX0_mondaysHad 11 = .ok (.istore_n 3, 1) := by decide +kernel
theorem dX0_mondaysHad_12 : decode cX0_mondaysHad 12 = .ok (.iload_n 3, 1) := by decide +kernel
theorem dX0_mondaysHad_13 : decode cX0_mondaysHad 13 = .ok (.ifCond .lt 12, 3) := by decide +kernel
theorem dX0_mondaysHad_16 : decode cX0_mondaysHad 16 = .ok (.iload_n 3, 1) := by decide +kernel
theorem dX0_mondaysHad_17 : decode cX0_mondaysHad 17 = .ok (.iload_n 2, 1) := by decide +kernel
theorem dX0_mondaysHad_18 : decode cX0_mondaysHad 18 = .ok (.if_icmp .gt 7, 3) := by decide +kernel
theorem dX0_mondaysHad_21 : decode cX0_mondaysHad 21 = .ok (.iload_n 3, 1) := by decide +kernel
theorem dX0_mondaysHad_22 : decode cX0_mondaysHad 22 = .ok (.goto 4, 3) := by decide +kernel
theorem dX0_mondaysHad_25 : decode cX0_mondaysHad 25 = .ok (.iconst (-1), 1) := by decide +kernel
theorem dX0_mondaysHad_26 : decode cX0_mondaysHad 26 = .ok (.ireturn, 1) := by decide +kernel
theorem dX1_init_0 : decode cX1_init 0 = .ok (.aload_n 0, 1) := by decide +kernel
theorem dX1_init_1 : decode cX1_init 1 = .ok (.invokespecial 3, 3) := by decide +kernel
theorem dX1_init_4 : decode cX1_init 4 = .ok (.aload_n 0, 1) := by decide +kernel
theorem dX1_init_5 : decode cX1_init 5 = .ok (.sipush 448, 3) := by decide +kernel
theorem dX1_init_8 : decode cX1_init 8 = .ok (.newarray .int, 2) := by decide +kernel
theorem dX1_init_10 : decode cX1_init 10 = .ok (.putfield 11, 3) := by decide +kernel
theorem dX1_init_13 : decode cX1_init 13 = .ok (.aload_n 0, 1) := by decide +kernel
theorem dX1_init_14 : decode cX1_init 14 = .ok (.bipush 6, 2) := by decide +kernel
theorem dX1_init_16 : decode cX1_init 16 = .ok (.newarray .int, 2) := by decide +kernel
theorem dX1_init_18 : decode cX1_init 18 = .ok (.putfield 15, 3) := by decide +kernel
theorem dX1_init_21 : decode cX1_init 21 = .ok (.aload_n 0, 1) := by decide +kernel
theorem dX1_init_22 : decode cX1_init 22 = .ok (.aload_n 1, 1) := by decide +kernel
theorem dX1_init_23 : decode cX1_init 23 = .ok (.putfield 18, 3) := by decide +kernel
theorem dX1_init_26 : decode cX1_init 26 = .ok (.return_, 1) := by decide +kernel
theorem dX1_giveTo_0 : decode cX1_giveTo 0 = .ok (.aload_n 0, 1) := by decide +kernel
theorem dX1_giveTo_1 : decode cX1_giveTo 1 = .ok (.invokevirtual 22, 3) := by decide +kernel
theorem dX1_giveTo_4 : decode cX1_giveTo 4 = .ok (.iload_n 1, 1) := by decide +kernel
theorem dX1_giveTo_5 : decode cX1_giveTo 5 = .ok (.istore_n 2, 1) := by decide +kernel
theorem dX1_giveTo_6 : decode cX1_giveTo 6 = .ok (.iconst 0, 1) := by decide +kernel
theorem dX1_giveTo_7 : decode cX1_giveTo 7 = .ok (.istore_n 3, 1) := by decide +kernel
theorem dX1_giveTo_8 : decode cX1_giveTo 8 = .ok (.iload_n 3, 1) := by decide +kernel
theorem dX1_giveTo_9 : decode cX1_giveTo 9 = .ok (.aload_n 0, 1) := by decide +kernel
theorem dX1_giveTo_10 : decode cX1_giveTo 10 = .ok (.getfield 18, 3) := by decide +kernel
theorem dX1_giveTo_13 : decode cX1_giveTo 13 = .ok (.getfield 25, 3) := by decide +kernel
theorem dX1_giveTo_16 : decode cX1_giveTo 16 = .ok (.if_icmp .ge 44, 3) := by decide +kernel
theorem dX1_giveTo_19 : decode cX1_giveTo 19 = .ok (.aload_n 0, 1) := by decide +kernel
theorem dX1_giveTo_20 : decode cX1_giveTo 20 = .ok (.getfield 15, 3) := by decide +kernel
theorem dX1_giveTo_23 : decode cX1_giveTo 23 = .ok (.iload_n 3, 1) := by decide +kernel
theorem dX1_giveTo_24 : decode cX1_giveTo 24 = .ok (.aload_n 0, 1) := by decide +kernel
theorem dX1_giveTo_25 : decode cX1_giveTo 25 = .ok (.iload_n 3, 1) := by decide +kernel
theorem dX1_giveTo_26 : decode cX1_giveTo 26 = .ok (.iload_n 2, 1) := by decide +kernel
theorem dX1_giveTo_27 : decode cX1_giveTo 27 = .ok (.invokevirtual 31, 3) := by decide +kernel
theorem dX1_giveTo_30 : decode cX1_giveTo 30 = .ok (.iastore, 1) := by decide +kernel
theorem dX1_giveTo_31 : decode cX1_giveTo 31 = .ok (.aload_n 0, 1) := by decide +kernel
theorem dX1_giveTo_32 : decode cX1_giveTo 32 = .ok (.getfield 15, 3) := by decide +kernel
theorem dX1_giveTo_35 : decode cX1_giveTo 35 = .ok (.iload_n 3, 1) := by decide +kernel
theorem dX1_giveTo_36 : decode cX1_giveTo 36 = .ok (.iaload, 1) := by decide +kernel
theorem dX1_giveTo_37 : decode cX1_giveTo 37 = .ok (.iconst (-1), 1) := by decide +kernel
theorem dX1_giveTo_38 : decode cX1_giveTo 38 = .ok (.if_icmp .eq 16, 3) := by decide +kernel
theorem dX1_giveTo_41 : decode cX1_giveTo 41 = .ok (.iload_n 2, 1) := by decide +kernel
theorem dX1_giveTo_42 : decode cX1_giveTo 42 = .ok (.iconst 1, 1) := by decide +kernel
theorem dX1_giveTo_43 : decode cX1_giveTo 43 = .ok (.aload_n 0, 1) := by decide +kernel
theorem dX1_giveTo_44 : decode cX1_giveTo 44 = .ok (.getfield 15, 3) := by decide +kernel
theorem dX1_giveTo_47 : decode cX1_giveTo 47 = .ok (.iload_n 3, 1) := by decide +kernel
theorem dX1_giveTo_48 : decode cX1_giveTo 48 = .ok (.iaload, 1) := by decide +kernel
theorem dX1_giveTo_49 : decode cX1_giveTo 49 = .ok (.ishl, 1) := by decide +kernel
theorem dX1_giveTo_50 : decode cX1_giveTo 50 = .ok (.iconst (-1), 1) := by decide +kernel
theorem dX1_giveTo_51 : decode cX1_giveTo 51 = .ok (.ixor, 1) := by decide +kernel
theorem dX1_giveTo_52 : decode cX1_giveTo 52 = .ok (.iand, 1) := by decide +kernel
theorem dX1_giveTo_53 : decode cX1_giveTo 53 = .ok (.istore_n 2, 1) := by decide +kernel
theorem dX1_giveTo_54 : decode cX1_giveTo 54 = .ok (.iinc 3 1, 3) := by decide +kernel
theorem dX1_giveTo_57 : decode cX1_giveTo 57 = .ok (.goto (-49), 3) := by decide +kernel
theorem dX1_giveTo_60 : decode cX1_giveTo 60 = .ok (.aload_n 0, 1) := by decide +kernel
theorem dX1_giveTo_61 : decode cX1_giveTo 61 = .ok (.getfield 11, 3) := by decide +kernel
theorem dX1_giveTo_64 : decode cX1_giveTo 64 = .ok (.iload_n 1, 1) := by decide +kernel
theorem dX1_giveTo_65 : decode cX1_giveTo 65 = .ok (.iaload, 1) := by decide +kernel
theorem dX1_giveTo_66 : decode cX1_giveTo 66 = .ok (.ireturn, 1) := by decide +kernel
theorem dX1_fillBest_0 : decode cX1_fillBest 0 = .ok (.aload_n 0, 1) := by decide +kernel
theorem dX1_fillBest_1 : decode cX1_fillBest 1 = .ok (.getfield 18, 3) := by decide +kernel
theorem dX1_fillBest_4 : decode cX1_fillBest 4 = .ok (.getfield 35, 3) := by decide +kernel
theorem dX1_fillBest_7 : decode cX1_fillBest 7 = .ok (.invokestatic 38, 3) := by decide +kernel
theorem dX1_fillBest_10 : decode cX1_fillBest 10 = .ok (.istore_n 1, 1) := by decide +kernel
theorem dX1_fillBest_11 : decode cX1_fillBest 11 = .ok (.iconst 0, 1) := by decide +kernel
theorem dX1_fillBest_12 : decode cX1_fillBest 12 = .ok (.istore_n 2, 1) := by decide +kernel
theorem dX1_fillBest_13 : decode cX1_fillBest 13 = .ok (.iload_n 2, 1) := by decide +kernel
theorem dX1_fillBest_14 : decode cX1_fillBest 14 = .ok (.iload_n 1, 1) := by decide +kernel
theorem dX1_fillBest_15 : decode cX1_fillBest 15 = .ok (.if_icmp .gt 27, 3) := by decide +kernel
theorem dX1_fillBest_18 : decode cX1_fillBest 18 = .ok (.aload_n 0, 1) := by decide +kernel
theorem dX1_fillBest_19 : decode cX1_fillBest 19 = .ok (.getfield 11, 3) := by decide +kernel
theorem dX1_fillBest_22 : decode cX1_fillBest 22 = .ok (.aload_n 0, 1) := by decide +kernel
theorem dX1_fillBest_23 : decode cX1_fillBest 23 = .ok (.getfield 18, 3) := by decide +kernel
theorem dX1_fillBest_26 : decode cX1_fillBest 26 = .ok (.getfield 25, 3) := by decide +kernel
theorem dX1_fillBest_29 : decode cX1_fillBest 29 = .ok (.bipush 64, 2) := by decide +kernel
theorem dX1_fillBest_31 : decode cX1_fillBest 31 = .ok (.imul, 1) := by decide +kernel
theorem dX1_fillBest_32 : decode cX1_fillBest 32 = .ok (.iload_n 2, 1) := by decide +kernel
theorem dX1_fillBest_33 : decode cX1_fillBest 33 = .ok (.iadd, 1) := by decide +kernel
theorem dX1_fillBest_34 : decode cX1_fillBest 34 = .ok (.iconst 0, 1) := by decide +kernel
theorem dX1_fillBest_35 : decode cX1_fillBest 35 = .ok (.iastore, 1) := by decide +kernel
theorem dX1_fillBest_36 : decode cX1_fillBest 36 = .ok (.iinc 2 1, 3) := by decide +kernel
theorem dX1_fillBest_39 : decode cX1_fillBest 39 = .ok (.goto (-26), 3) := by decide +kernel
theorem dX1_fillBest_42 : decode cX1_fillBest 42 = .ok (.aload_n 0, 1) := by decide +kernel
theorem dX1_fillBest_43 : decode cX1_fillBest 43 = .ok (.getfield 18, 3) := by decide +kernel
theorem dX1_fillBest_46 : decode cX1_fillBest 46 = .ok (.getfield 25, 3) := by decide +kernel
theorem dX1_fillBest_49 : decode cX1_fillBest 49 = .ok (.iconst 1, 1) := by decide +kernel
theorem dX1_fillBest_50 : decode cX1_fillBest 50 = .ok (.isub, 1) := by decide +kernel
theorem dX1_fillBest_51 : decode cX1_fillBest 51 = .ok (.istore_n 2, 1) := by decide +kernel
theorem dX1_fillBest_52 : decode cX1_fillBest 52 = .ok (.iload_n 2, 1) := by decide +kernel
theorem dX1_fillBest_53 : decode cX1_fillBest 53 = .ok (.ifCond .lt 86, 3) := by decide +kernel
theorem dX1_fillBest_56 : decode cX1_fillBest 56 = .ok (.iconst 0, 1) := by decide +kernel
theorem dX1_fillBest_57 : decode cX1_fillBest 57 = .ok (.istore_n 3, 1) := by decide +kernel
theorem dX1_fillBest_58 : decode cX1_fillBest 58 = .ok (.iload_n 3, 1) := by decide +kernel
theorem dX1_fillBest_59 : decode cX1_fillBest 59 = .ok (.iload_n 1, 1) := by decide +kernel
theorem dX1_fillBest_60 : decode cX1_fillBest 60 = .ok (.if_icmp .gt 73, 3) := by decide +kernel
theorem dX1_fillBest_63 : decode cX1_fillBest 63 = .ok (.aload_n 0, 1) := by decide +kernel
theorem dX1_fillBest_64 : decode cX1_fillBest 64 = .ok (.getfield 11, 3) := by decide +kernel
theorem dX1_fillBest_67 : decode cX1_fillBest 67 = .ok (.iload_n 2, 1) := by decide +kernel
theorem dX1_fillBest_68 : decode cX1_fillBest 68 = .ok (.iconst 1, 1) := by decide +kernel
theorem dX1_fillBest_69 : decode cX1_fillBest 69 = .ok (.iadd, 1) := by decide +kernel
theorem dX1_fillBest_70 : decode cX1_fillBest 70 = .ok (.bipush 64, 2) := by decide +kernel
theorem dX1_fillBest_72 : decode cX1_fillBest 72 = .ok (.imul, 1) := by decide +kernel
theorem dX1_fillBest_73 : decode cX1_fillBest 73 = .ok (.iload_n 3, 1) := by decide +kernel
theorem dX1_fillBest_74 : decode cX1_fillBest 74 = .ok (.iadd, 1) := by decide +kernel
theorem dX1_fillBest_75 : decode cX1_fillBest 75 = .ok (.iaload, 1) := by decide +kernel
theorem dX1_fillBest_76 : decode cX1_fillBest 76 = .ok (.istore 4, 2) := by decide +kernel
theorem dX1_fillBest_78 : decode cX1_fillBest 78 = .ok (.iconst 0, 1) := by decide +kernel
theorem dX1_fillBest_79 : decode cX1_fillBest 79 = .ok (.istore 5, 2) := by decide +kernel
theorem dX1_fillBest_81 : decode cX1_fillBest 81 = .ok (.iload 5, 2) := by decide +kernel
theorem dX1_fillBest_83 : decode cX1_fillBest 83 = .ok (.aload_n 0, 1) := by decide +kernel
theorem dX1_fillBest_84 : decode cX1_fillBest 84 = .ok (.getfield 18, 3) := by decide +kernel
theorem dX1_fillBest_87 : decode cX1_fillBest 87 = .ok (.getfield 35, 3) := by decide +kernel
theorem dX1_fillBest_90 : decode cX1_fillBest 90 = .ok (.if_icmp .ge 24, 3) := by decide +kernel
theorem dX1_fillBest_93 : decode cX1_fillBest 93 = .ok (.iload 4, 2) := by decide +kernel
theorem dX1_fillBest_95 : decode cX1_fillBest 95 = .ok (.aload_n 0, 1) := by decide +kernel
theorem dX1_fillBest_96 : decode cX1_fillBest 96 = .ok (.iload_n 2, 1) := by decide +kernel
theorem dX1_fillBest_97 : decode cX1_fillBest 97 = .ok (.iload 5, 2) := by decide +kernel
theorem dX1_fillBest_99 : decode cX1_fillBest 99 = .ok (.iload_n 3, 1) := by decide +kernel
theorem dX1_fillBest_100 : decode cX1_fillBest 100 = .ok (.invokevirtual 42, 3) := by decide +kernel
theorem dX1_fillBest_103 : decode cX1_fillBest 103 = .ok (.invokestatic 46, 3) := by decide +kernel
theorem dX1_fillBest_106 : decode cX1_fillBest 106 = .ok (.istore 4, 2) := by decide +kernel
theorem dX1_fillBest_108 : decode cX1_fillBest 108 = .ok (.iinc 5 1, 3) := by decide +kernel
theorem dX1_fillBest_111 : decode cX1_fillBest 111 = .ok (.goto (-30), 3) := by decide +kernel
theorem dX1_fillBest_114 : decode cX1_fillBest 114 = .ok (.aload_n 0, 1) := by decide +kernel
theorem dX1_fillBest_115 : decode cX1_fillBest 115 = .ok (.getfield 11, 3) := by decide +kernel
theorem dX1_fillBest_118 : decode cX1_fillBest 118 = .ok (.iload_n 2, 1) := by decide +kernel
theorem dX1_fillBest_119 : decode cX1_fillBest 119 = .ok (.bipush 64, 2) := by decide +kernel
theorem dX1_fillBest_121 : decode cX1_fillBest 121 = .ok (.imul, 1) := by decide +kernel
theorem dX1_fillBest_122 : decode cX1_fillBest 122 = .ok (.iload_n 3, 1) := by decide +kernel
theorem dX1_fillBest_123 : decode cX1_fillBest 123 = .ok (.iadd, 1) := by decide +kernel
theorem dX1_fillBest_124 : decode cX1_fillBest 124 = .ok (.iload 4, 2) := by decide +kernel
theorem dX1_fillBest_126 : decode cX1_fillBest 126 = .ok (.iastore, 1) := by decide +kernel
theorem dX1_fillBest_127 : decode cX1_fillBest 127 = .ok (.iinc 3 1, 3) := by decide +kernel
theorem dX1_fillBest_130 : decode cX1_fillBest 130 = .ok (.goto (-72), 3) := by decide +kernel
theorem dX1_fillBest_133 : decode cX1_fillBest 133 = .ok (.iinc 2 (-1), 3) := by decide +kernel
theorem dX1_fillBest_136 : decode cX1_fillBest 136 = .ok (.goto (-84), 3) := by decide +kernel
theorem dX1_fillBest_139 : decode cX1_fillBest 139 = .ok (.return_, 1) := by decide +kernel
theorem dX1_worthBy_0 : decode cX1_worthBy 0 = .ok (.iload_n 3, 1) := by decide +kernel
theorem dX1_worthBy_1 : decode cX1_worthBy 1 = .ok (.iload_n 2, 1) := by decide +kernel
theorem dX1_worthBy_2 : decode cX1_worthBy 2 = .ok (.ishr, 1) := by decide +kernel
theorem dX1_worthBy_3 : decode cX1_worthBy 3 = .ok (.iconst 1, 1) := by decide +kernel
theorem dX1_worthBy_4 : decode cX1_worthBy 4 = .ok (.iand, 1) := by decide +kernel
theorem dX1_worthBy_5 : decode cX1_worthBy 5 = .ok (.ifCond .eq 19, 3) := by decide +kernel
theorem dX1_worthBy_8 : decode cX1_worthBy 8 = .ok (.aload_n 0, 1) := by decide +kernel
theorem dX1_worthBy_9 : decode cX1_worthBy 9 = .ok (.getfield 18, 3) := by decide +kernel
theorem dX1_worthBy_12 : decode cX1_worthBy 12 = .ok (.getfield 51, 3) := by decide +kernel
theorem dX1_worthBy_15 : decode cX1_worthBy 15 = .ok (.iload_n 2, 1) := by decide +kernel
theorem dX1_worthBy_16 : decode cX1_worthBy 16 = .ok (.iaload, 1) := by decide +kernel
theorem dX1_worthBy_17 : decode cX1_worthBy 17 = .ok (.iload_n 1, 1) := by decide +kernel
theorem dX1_worthBy_18 : decode cX1_worthBy 18 = .ok (.ishr, 1) := by decide +kernel
theorem dX1_worthBy_19 : decode cX1_worthBy 19 = .ok (.iconst 1, 1) := by decide +kernel
theorem dX1_worthBy_20 : decode cX1_worthBy 20 = .ok (.iand, 1) := by decide +kernel
theorem dX1_worthBy_21 : decode cX1_worthBy 21 = .ok (.ifCond .ne 5, 3) := by decide +kernel
theorem dX1_worthBy_24 : decode cX1_worthBy 24 = .ok (.iconst (-1), 1) := by decide +kernel
theorem dX1_worthBy_25 : decode cX1_worthBy 25 = .ok (.ireturn, 1) := by decide +kernel
theorem dX1_worthBy_26 : decode cX1_worthBy 26 = .ok (.aload_n 0, 1) := by decide +kernel
theorem dX1_worthBy_27 : decode cX1_worthBy 27 = .ok (.getfield 18, 3) := by decide +kernel
theorem dX1_worthBy_30 : decode cX1_worthBy 30 = .ok (.getfield 54, 3) := by decide +kernel
theorem dX1_worthBy_33 : decode cX1_worthBy 33 = .ok (.iload_n 1, 1) := by decide +kernel
theorem dX1_worthBy_34 : decode cX1_worthBy 34 = .ok (.iaload, 1) := by decide +kernel
theorem dX1_worthBy_35 : decode cX1_worthBy 35 = .ok (.aload_n 0, 1) := by decide +kernel
theorem dX1_worthBy_36 : decode cX1_worthBy 36 = .ok (.getfield 11, 3) := by decide +kernel
theorem dX1_worthBy_39 : decode cX1_worthBy 39 = .ok (.iload_n 1, 1) := by decide +kernel
theorem dX1_worthBy_40 : decode cX1_worthBy 40 = .ok (.iconst 1, 1) := by decide +kernel
theorem dX1_worthBy_41 : decode cX1_worthBy 41 = .ok (.iadd, 1) := by decide +kernel
theorem dX1_worthBy_42 : decode cX1_worthBy 42 = .ok (.bipush 64, 2) := by decide +kernel
theorem dX1_worthBy_44 : decode cX1_worthBy 44 = .ok (.imul, 1) := by decide +kernel
theorem dX1_worthBy_45 : decode cX1_worthBy 45 = .ok (.iload_n 3, 1) := by decide +kernel
theorem dX1_worthBy_46 : decode cX1_worthBy 46 = .ok (.iconst 1, 1) := by decide +kernel
theorem dX1_worthBy_47 : decode cX1_worthBy 47 = .ok (.iload_n 2, 1) := by decide +kernel
theorem dX1_worthBy_48 : decode cX1_worthBy 48 = .ok (.ishl, 1) := by decide +kernel
theorem dX1_worthBy_49 : decode cX1_worthBy 49 = .ok (.iconst (-1), 1) := by decide +kernel
theorem dX1_worthBy_50 : decode cX1_worthBy 50 = .ok (.ixor, 1) := by decide +kernel
theorem dX1_worthBy_51 : decode cX1_worthBy 51 = .ok (.iand, 1) := by decide +kernel
theorem dX1_worthBy_52 : decode cX1_worthBy 52 = .ok (.iadd, 1) := by decide +kernel
theorem dX1_worthBy_53 : decode cX1_worthBy 53 = .ok (.iaload, 1) := by decide +kernel
theorem dX1_worthBy_54 : decode cX1_worthBy 54 = .ok (.iadd, 1) := by decide +kernel
theorem dX1_worthBy_55 : decode cX1_worthBy 55 = .ok (.ireturn, 1) := by decide +kernel
theorem dX1_firstGiver_0 : decode cX1_firstGiver 0 = .ok (.iconst 0, 1) := by decide +kernel
theorem dX1_firstGiver_1 : decode cX1_firstGiver 1 = .ok (.istore_n 3, 1) := by decide +kernel
theorem dX1_firstGiver_2 : decode cX1_firstGiver 2 = .ok (.iload_n 3, 1) := by decide +kernel
theorem dX1_firstGiver_3 : decode cX1_firstGiver 3 = .ok (.aload_n 0, 1) := by decide +kernel
theorem dX1_firstGiver_4 : decode cX1_firstGiver 4 = .ok (.getfield 18, 3) := by decide +kernel
theorem dX1_firstGiver_7 : decode cX1_firstGiver 7 = .ok (.getfield 35, 3) := by decide +kernel
theorem dX1_firstGiver_10 : decode cX1_firstGiver 10 = .ok (.if_icmp .ge 32, 3) := by decide +kernel
theorem dX1_firstGiver_13 : decode cX1_firstGiver 13 = .ok (.aload_n 0, 1) := by decide +kernel
theorem dX1_firstGiver_14 : decode cX1_firstGiver 14 = .ok (.iload_n 1, 1) := by decide +kernel
theorem dX1_firstGiver_15 : decode cX1_firstGiver 15 = .ok (.iload_n 3, 1) := by decide +kernel
theorem dX1_firstGiver_16 : decode cX1_firstGiver 16 = .ok (.iload_n 2, 1) := by decide +kernel
theorem dX1_firstGiver_17 : decode cX1_firstGiver 17 = .ok (.invokevirtual 42, 3) := by decide +kernel
theorem dX1_firstGiver_20 : decode cX1_firstGiver 20 = .ok (.aload_n 0, 1) := by decide +kernel
theorem dX1_firstGiver_21 : decode cX1_firstGiver 21 = .ok (.getfield 11, 3) := by decide +kernel
theorem dX1_firstGiver_24 : decode cX1_firstGiver 24 = .ok (.iload_n 1, 1) := by decide +kernel
theorem dX1_firstGiver_25 : decode cX1_firstGiver 25 = .ok (.bipush 64, 2) := by decide +kernel
theorem dX1_firstGiver_27 : decode cX1_firstGiver 27 = .ok (.imul, 1) := by decide +kernel
theorem dX1_firstGiver_28 : decode cX1_firstGiver 28 = .ok (.iload_n 2, 1) := by decide +kernel
theorem dX1_firstGiver_29 : decode cX1_firstGiver 29 = .ok (.iadd, 1) := by decide +kernel
theorem dX1_firstGiver_30 : decode cX1_firstGiver 30 = .ok (.iaload, 1) := by decide +kernel
theorem dX1_firstGiver_31 : decode cX1_firstGiver 31 = .ok (.if_icmp .ne 5, 3) := by decide +kernel
theorem dX1_firstGiver_34 : decode cX1_firstGiver 34 = .ok (.iload_n 3, 1) := by decide +kernel
theorem dX1_firstGiver_35 : decode cX1_firstGiver 35 = .ok (.ireturn, 1) := by decide +kernel
theorem dX1_firstGiver_36 : decode cX1_firstGiver 36 = .ok (.iinc 3 1, 3) := by decide +kernel
theorem dX1_firstGiver_39 : decode cX1_firstGiver 39 = .ok (.goto (-37), 3) := by decide +kernel
theorem dX1_firstGiver_42 : decode cX1_firstGiver 42 = .ok (.iconst (-1), 1) := by decide +kernel
theorem dX1_firstGiver_43 : decode cX1_firstGiver 43 = .ok (.ireturn, 1) := by decide +kernel
theorem dX2_init_0 : decode cX2_init 0 = .ok (.aload_n 0, 1) := by decide +kernel
theorem dX2_init_1 : decode cX2_init 1 = .ok (.invokespecial 3, 3) := by decide +kernel
theorem dX2_init_4 : decode cX2_init 4 = .ok (.aload_n 0, 1) := by decide +kernel
theorem dX2_init_5 : decode cX2_init 5 = .ok (.sipush 150, 3) := by decide +kernel
theorem dX2_init_8 : decode cX2_init 8 = .ok (.newarray .int, 2) := by decide +kernel
theorem dX2_init_10 : decode cX2_init 10 = .ok (.putfield 9, 3) := by decide +kernel
theorem dX2_init_13 : decode cX2_init 13 = .ok (.aload_n 0, 1) := by decide +kernel
theorem dX2_init_14 : decode cX2_init 14 = .ok (.iconst 0, 1) := by decide +kernel
theorem dX2_init_15 : decode cX2_init 15 = .ok (.putfield 15, 3) := by decide +kernel
theorem dX2_init_18 : decode cX2_init 18 = .ok (.aload_n 0, 1) := by decide +kernel
theorem dX2_init_19 : decode cX2_init 19 = .ok (.sipush 150, 3) := by decide +kernel
theorem dX2_init_22 : decode cX2_init 22 = .ok (.newarray .int, 2) := by decide +kernel
theorem dX2_init_24 : decode cX2_init 24 = .ok (.putfield 19, 3) := by decide +kernel
theorem dX2_init_27 : decode cX2_init 27 = .ok (.aload_n 0, 1) := by decide +kernel
theorem dX2_init_28 : decode cX2_init 28 = .ok (.bipush 8, 2) := by decide +kernel
theorem dX2_init_30 : decode cX2_init 30 = .ok (.newarray .int, 2) := by decide +kernel
theorem dX2_init_32 : decode cX2_init 32 = .ok (.putfield 22, 3) := by decide +kernel
theorem dX2_init_35 : decode cX2_init 35 = .ok (.return_, 1) := by decide +kernel
theorem dX2_drop_0 : decode cX2_drop 0 = .ok (.aload_n 0, 1) := by decide +kernel
theorem dX2_drop_1 : decode cX2_drop 1 = .ok (.iconst 0, 1) := by decide +kernel
theorem dX2_drop_2 : decode cX2_drop 2 = .ok (.putfield 15, 3) := by decide +kernel
theorem dX2_drop_5 : decode cX2_drop 5 = .ok (.return_, 1) := by decide +kernel
theorem dX2_copyFrom_0 : decode cX2_copyFrom 0 = .ok (.aload_n 0, 1) := by decide +kernel
theorem dX2_copyFrom_1 : decode cX2_copyFrom 1 = .ok (.aload_n 1, 1) := by decide +kernel
theorem dX2_copyFrom_2 : decode cX2_copyFrom 2 = .ok (.getfield 15, 3) := by decide +kernel
theorem dX2_copyFrom_5 : decode cX2_copyFrom 5 = .ok (.putfield 15, 3) := by decide +kernel
theorem dX2_copyFrom_8 : decode cX2_copyFrom 8 = .ok (.aload_n 1, 1) := by decide +kernel
theorem dX2_copyFrom_9 : decode cX2_copyFrom 9 = .ok (.getfield 9, 3) := by decide +kernel
theorem dX2_copyFrom_12 : decode cX2_copyFrom 12 = .ok (.iconst 0, 1) := by decide +kernel
theorem dX2_copyFrom_13 : decode cX2_copyFrom 13 = .ok (.aload_n 0, 1) := by decide +kernel
theorem dX2_copyFrom_14 : decode cX2_copyFrom 14 = .ok (.getfield 9, 3) := by decide +kernel
theorem dX2_copyFrom_17 : decode cX2_copyFrom 17 = .ok (.iconst 0, 1) := by decide +kernel
theorem dX2_copyFrom_18 : decode cX2_copyFrom 18 = .ok (.sipush 150, 3) := by decide +kernel
theorem dX2_copyFrom_21 : decode cX2_copyFrom 21 = .ok (.invokestatic 25, 3) := by decide +kernel
theorem dX2_copyFrom_24 : decode cX2_copyFrom 24 = .ok (.return_, 1) := by decide +kernel
theorem dX2_readFrom_0 : decode cX2_readFrom 0 = .ok (.aload_n 0, 1) := by decide +kernel
theorem dX2_readFrom_1 : decode cX2_readFrom 1 = .ok (.iconst 0, 1) := by decide +kernel
theorem dX2_readFrom_2 : decode cX2_readFrom 2 = .ok (.putfield 15, 3) := by decide +kernel
theorem dX2_readFrom_5 : decode cX2_readFrom 5 = .ok (.aload_n 0, 1) := by decide +kernel
theorem dX2_readFrom_6 : decode cX2_readFrom 6 = .ok (.aload_n 1, 1) := by decide +kernel
theorem dX2_readFrom_7 : decode cX2_readFrom 7 = .ok (.iconst 0, 1) := by decide +kernel
theorem dX2_readFrom_8 : decode cX2_readFrom 8 = .ok (.invokevirtual 31, 3) := by decide +kernel
theorem dX2_readFrom_11 : decode cX2_readFrom 11 = .ok (.aload_n 1, 1) := by decide +kernel
theorem dX2_readFrom_12 : decode cX2_readFrom 12 = .ok (.invokevirtual 35, 3) := by decide +kernel
theorem dX2_readFrom_15 : decode cX2_readFrom 15 = .ok (.return_, 1) := by decide +kernel
theorem dX2_emit_0 : decode cX2_emit 0 = .ok (.aload_n 0, 1) := by decide +kernel
theorem dX2_emit_1 : decode cX2_emit 1 = .ok (.getfield 15, 3) := by decide +kernel
theorem dX2_emit_4 : decode cX2_emit 4 = .ok (.sipush 150, 3) := by decide +kernel
theorem dX2_emit_7 : decode cX2_emit 7 = .ok (.if_icmp .ge 23, 3) := by decide +kernel
theorem dX2_emit_10 : decode cX2_emit 10 = .ok (.aload_n 0, 1) := by decide +kernel
theorem dX2_emit_11 : decode cX2_emit 11 = .ok (.getfield 9, 3) := by decide +kernel
theorem dX2_emit_14 : decode cX2_emit 14 = .ok (.aload_n 0, 1) := by decide +kernel
theorem dX2_emit_15 : decode cX2_emit 15 = .ok (.getfield 15, 3) := by decide +kernel
theorem dX2_emit_18 : decode cX2_emit 18 = .ok (.iload_n 1, 1) := by decide +kernel
theorem dX2_emit_19 : decode cX2_emit 19 = .ok (.iastore, 1) := by decide +kernel
theorem dX2_emit_20 : decode cX2_emit 20 = .ok (.aload_n 0, 1) := by decide +kernel
theorem dX2_emit_21 : decode cX2_emit 21 = .ok (.dup, 1) := by decide +kernel
theorem dX2_emit_22 : decode cX2_emit 22 = .ok (.getfield 15, 3) := by decide +kernel
theorem dX2_emit_25 : decode cX2_emit 25 = .ok (.iconst 1, 1) := by decide +kernel
theorem dX2_emit_26 : decode cX2_emit 26 = .ok (.iadd, 1) := by decide +kernel
theorem dX2_emit_27 : decode cX2_emit 27 = .ok (.putfield 15, 3) := by decide +kernel
theorem dX2_emit_30 : decode cX2_emit 30 = .ok (.return_, 1) := by decide +kernel
theorem dX2_readSum_0 : decode cX2_readSum 0 = .ok (.aload_n 0, 1) := by decide +kernel
theorem dX2_readSum_1 : decode cX2_readSum 1 = .ok (.aload_n 1, 1) := by decide +kernel
theorem dX2_readSum_2 : decode cX2_readSum 2 = .ok (.iload_n 2, 1) := by decide +kernel
theorem dX2_readSum_3 : decode cX2_readSum 3 = .ok (.invokevirtual 40, 3) := by decide +kernel
theorem dX2_readSum_6 : decode cX2_readSum 6 = .ok (.iconst 0, 1) := by decide +kernel
theorem dX2_readSum_7 : decode cX2_readSum 7 = .ok (.istore_n 3, 1) := by decide +kernel
theorem dX2_readSum_8 : decode cX2_readSum 8 = .ok (.iload_n 3, 1) := by decide +kernel
theorem dX2_readSum_9 : decode cX2_readSum 9 = .ok (.sipush 150, 3) := by decide +kernel
theorem dX2_readSum_12 : decode cX2_readSum 12 = .ok (.if_icmp .ge 68, 3) := by decide +kernel
theorem dX2_readSum_15 : decode cX2_readSum 15 = .ok (.aload_n 1, 1) := by decide +kernel
theorem dX2_readSum_16 : decode cX2_readSum 16 = .ok (.invokevirtual 43, 3) := by decide +kernel
theorem dX2_readSum_19 : decode cX2_readSum 19 = .ok (.ifCond .ne 61, 3) := by decide +kernel
theorem dX2_readSum_22 : decode cX2_readSum 22 = .ok (.aload_n 1, 1) := by decide +kernel
theorem dX2_readSum_23 : decode cX2_readSum 23 = .ok (.bipush 43, 2) := by decide +kernel
theorem dX2_readSum_25 : decode cX2_readSum 25 = .ok (.invokevirtual 47, 3) := by decide +kernel
theorem dX2_readSum_28 : decode cX2_readSum 28 = .ok (.ifCond .eq 9, 3) := by decide +kernel
theorem dX2_readSum_31 : decode cX2_readSum 31 = .ok (.sipush 2000, 3) := by decide +kernel
theorem dX2_readSum_34 : decode cX2_readSum 34 = .ok (.goto 19, 3) := by decide +kernel
theorem dX2_readSum_37 : decode cX2_readSum 37 = .ok (.aload_n 1, 1) := by decide +kernel
theorem dX2_readSum_38 : decode cX2_readSum 38 = .ok (.bipush 45, 2) := by decide +kernel
theorem dX2_readSum_40 : decode cX2_readSum 40 = .ok (.invokevirtual 47, 3) := by decide +kernel
theorem dX2_readSum_43 : decode cX2_readSum 43 = .ok (.ifCond .eq 9, 3) := by decide +kernel
theorem dX2_readSum_46 : decode cX2_readSum 46 = .ok (.sipush 2001, 3) := by decide +kernel
theorem dX2_readSum_49 : decode cX2_readSum 49 = .ok (.goto 4, 3) := by decide +kernel
theorem dX2_readSum_52 : decode cX2_readSum 52 = .ok (.iconst (-1), 1) := by decide +kernel
theorem dX2_readSum_53 : decode cX2_readSum 53 = .ok (.istore 4, 2) := by decide +kernel
theorem dX2_readSum_55 : decode cX2_readSum 55 = .ok (.iload 4, 2) := by decide +kernel
theorem dX2_readSum_57 : decode cX2_readSum 57 = .ok (.iconst (-1), 1) := by decide +kernel
theorem dX2_readSum_58 : decode cX2_readSum 58 = .ok (.if_icmp .ne 4, 3) := by decide +kernel
theorem dX2_readSum_61 : decode cX2_readSum 61 = .ok (.return_, 1) := by decide +kernel
theorem dX2_readSum_62 : decode cX2_readSum 62 = .ok (.aload_n 0, 1) := by decide +kernel
theorem dX2_readSum_63 : decode cX2_readSum 63 = .ok (.aload_n 1, 1) := by decide +kernel
theorem dX2_readSum_64 : decode cX2_readSum 64 = .ok (.iload_n 2, 1) := by decide +kernel
theorem dX2_readSum_65 : decode cX2_readSum 65 = .ok (.invokevirtual 40, 3) := by decide +kernel
theorem dX2_readSum_68 : decode cX2_readSum 68 = .ok (.aload_n 0, 1) := by decide +kernel
theorem dX2_readSum_69 : decode cX2_readSum 69 = .ok (.iload 4, 2) := by decide +kernel
theorem dX2_readSum_71 : decode cX2_readSum 71 = .ok (.invokevirtual 51, 3) := by decide +kernel
theorem dX2_readSum_74 : decode cX2_readSum 74 = .ok (.iinc 3 1, 3) := by decide +kernel
theorem dX2_readSum_77 : decode cX2_readSum 77 = .ok (.goto (-69), 3) := by decide +kernel
theorem dX2_readSum_80 : decode cX2_readSum 80 = .ok (.return_, 1) := by decide +kernel
theorem dX2_readProduct_0 : decode cX2_readProduct 0 = .ok (.aload_n 0, 1) := by decide +kernel
theorem dX2_readProduct_1 : decode cX2_readProduct 1 = .ok (.aload_n 1, 1) := by decide +kernel
theorem dX2_readProduct_2 : decode cX2_readProduct 2 = .ok (.iload_n 2, 1) := by decide +kernel
theorem dX2_readProduct_3 : decode cX2_readProduct 3 = .ok (.invokevirtual 55, 3) := by decide +kernel
theorem dX2_readProduct_6 : decode cX2_readProduct 6 = .ok (.iconst 0, 1) := by decide +kernel
theorem dX2_readProduct_7 : decode cX2_readProduct 7 = .ok (.istore_n 3, 1) := by decide +kernel
theorem dX2_readProduct_8 : decode cX2_readProduct 8 = .ok (.iload_n 3, 1) := by decide +kernel
theorem dX2_readProduct_9 : decode cX2_readProduct 9 = .ok (.sipush 150, 3) := by decide +kernel
theorem dX2_readProduct_12 : decode cX2_readProduct 12 = .ok (.if_icmp .ge 83, 3) := by decide +kernel
theorem dX2_readProduct_15 : decode cX2_readProduct 15 = .ok (.aload_n 1, 1) := by decide +kernel
theorem dX2_readProduct_16 : decode cX2_readProduct 16 = .ok (.invokevirtual 43, 3) := by decide +kernel
theorem dX2_readProduct_19 : decode cX2_readProduct 19 = .ok (.ifCond .ne 76, 3) := by decide +kernel
theorem dX2_readProduct_22 : decode cX2_readProduct 22 = .ok (.aload_n 1, 1) := by decide +kernel
theorem dX2_readProduct_23 : decode cX2_readProduct 23 = .ok (.bipush 42, 2) := by decide +kernel
theorem dX2_readProduct_25 : decode cX2_readProduct 25 = .ok (.invokevirtual 47, 3) := by decide +kernel
theorem dX2_readProduct_28 : decode cX2_readProduct 28 = .ok (.ifCond .eq 9, 3) := by decide +kernel
theorem dX2_readProduct_31 : decode cX2_readProduct 31 = .ok (.sipush 2002, 3) := by decide +kernel
theorem dX2_readProduct_34 : decode cX2_readProduct 34 = .ok (.goto 34, 3) := by decide +kernel
theorem dX2_readProduct_37 : decode cX2_readProduct 37 = .ok (.aload_n 1, 1) := by decide +kernel
theorem dX2_readProduct_38 : decode cX2_readProduct 38 = .ok (.bipush 47, 2) := by decide +kernel
theorem dX2_readProduct_40 : decode cX2_readProduct 40 = .ok (.invokevirtual 47, 3) := by decide +kernel
theorem dX2_readProduct_43 : decode cX2_readProduct 43 = .ok (.ifCond .eq 9, 3) := by decide +kernel
theorem dX2_readProduct_46 : decode cX2_readProduct 46 = .ok (.sipush 2003, 3) := by decide +kernel
theorem dX2_readProduct_49 : decode cX2_readProduct 49 = .ok (.goto 19, 3) := by decide +kernel
theorem dX2_readProduct_52 : decode cX2_readProduct 52 = .ok (.aload_n 1, 1) := by decide +kernel
theorem dX2_readProduct_53 : decode cX2_readProduct 53 = .ok (.bipush 37, 2) := by decide +kernel
theorem dX2_readProduct_55 : decode cX2_readProduct 55 = .ok (.invokevirtual 47, 3) := by decide +kernel
theorem dX2_readProduct_58 : decode cX2_readProduct 58 = .ok (.ifCond .eq 9, 3) := by decide +kernel
theorem dX2_readProduct_61 : decode cX2_readProduct 61 = .ok (.sipush 2004, 3) := by decide +kernel
theorem dX2_readProduct_64 : decode cX2_readProduct 64 = .ok (.goto 4, 3) := by decide +kernel
theorem dX2_readProduct_67 : decode cX2_readProduct 67 = .ok (.iconst (-1), 1) := by decide +kernel
theorem dX2_readProduct_68 : decode cX2_readProduct 68 = .ok (.istore 4, 2) := by decide +kernel
theorem dX2_readProduct_70 : decode cX2_readProduct 70 = .ok (.iload 4, 2) := by decide +kernel
theorem dX2_readProduct_72 : decode cX2_readProduct 72 = .ok (.iconst (-1), 1) := by decide +kernel
theorem dX2_readProduct_73 : decode cX2_readProduct 73 = .ok (.if_icmp .ne 4, 3) := by decide +kernel
theorem dX2_readProduct_76 : decode cX2_readProduct 76 = .ok (.return_, 1) := by decide +kernel
theorem dX2_readProduct_77 : decode cX2_readProduct 77 = .ok (.aload_n 0, 1) := by decide +kernel
theorem dX2_readProduct_78 : decode cX2_readProduct 78 = .ok (.aload_n 1, 1) := by decide +kernel
theorem dX2_readProduct_79 : decode cX2_readProduct 79 = .ok (.iload_n 2, 1) := by decide +kernel
theorem dX2_readProduct_80 : decode cX2_readProduct 80 = .ok (.invokevirtual 55, 3) := by decide +kernel
theorem dX2_readProduct_83 : decode cX2_readProduct 83 = .ok (.aload_n 0, 1) := by decide +kernel
theorem dX2_readProduct_84 : decode cX2_readProduct 84 = .ok (.iload 4, 2) := by decide +kernel
theorem dX2_readProduct_86 : decode cX2_readProduct 86 = .ok (.invokevirtual 51, 3) := by decide +kernel
theorem dX2_readProduct_89 : decode cX2_readProduct 89 = .ok (.iinc 3 1, 3) := by decide +kernel
theorem dX2_readProduct_92 : decode cX2_readProduct 92 = .ok (.goto (-84), 3) := by decide +kernel
theorem dX2_readProduct_95 : decode cX2_readProduct 95 = .ok (.return_, 1) := by decide +kernel
theorem dX2_readUnit_0 : decode cX2_readUnit 0 = .ok (.aload_n 1, 1) := by decide +kernel
theorem dX2_readUnit_1 : decode cX2_readUnit 1 = .ok (.invokevirtual 43, 3) := by decide +kernel
theorem dX2_readUnit_4 : decode cX2_readUnit 4 = .ok (.ifCond .eq 4, 3) := by decide +kernel
theorem dX2_readUnit_7 : decode cX2_readUnit 7 = .ok (.return_, 1) := by decide +kernel
theorem dX2_readUnit_8 : decode cX2_readUnit 8 = .ok (.aload_n 1, 1) := by decide +kernel
theorem dX2_readUnit_9 : decode cX2_readUnit 9 = .ok (.invokevirtual 58, 3) := by decide +kernel
theorem dX2_readUnit_12 : decode cX2_readUnit 12 = .ok (.ifCond .eq 18, 3) := by decide +kernel
theorem dX2_readUnit_15 : decode cX2_readUnit 15 = .ok (.aload_n 0, 1) := by decide +kernel
theorem dX2_readUnit_16 : decode cX2_readUnit 16 = .ok (.aload_n 1, 1) := by decide +kernel
theorem dX2_readUnit_17 : decode cX2_readUnit 17 = .ok (.iconst 0, 1) := by decide +kernel
theorem dX2_readUnit_18 : decode cX2_readUnit 18 = .ok (.sipush 999, 3) := by decide +kernel
theorem dX2_readUnit_21 : decode cX2_readUnit 21 = .ok (.invokevirtual 61, 3) := by decide +kernel
theorem dX2_readUnit_24 : decode cX2_readUnit 24 = .ok (.invokevirtual 51, 3) := by decide +kernel
theorem dX2_readUnit_27 : decode cX2_readUnit 27 = .ok (.goto 27, 3) := by decide +kernel
theorem dX2_readUnit_30 : decode cX2_readUnit 30 = .ok (.aload_n 1, 1) := by decide +kernel
theorem dX2_readUnit_31 : decode cX2_readUnit 31 = .ok (.invokevirtual 65, 3) := by decide +kernel
theorem dX2_readUnit_34 : decode cX2_readUnit 34 = .ok (.bipush 40, 2) := by decide +kernel
theorem dX2_readUnit_36 : decode cX2_readUnit 36 = .ok (.if_icmp .ne 12, 3) := by decide +kernel
theorem dX2_readUnit_39 : decode cX2_readUnit 39 = .ok (.aload_n 0, 1) := by decide +kernel
theorem dX2_readUnit_40 : decode cX2_readUnit 40 = .ok (.aload_n 1, 1) := by decide +kernel
theorem dX2_readUnit_41 : decode cX2_readUnit 41 = .ok (.iload_n 2, 1) := by decide +kernel
theorem dX2_readUnit_42 : decode cX2_readUnit 42 = .ok (.invokevirtual 69, 3) := by decide +kernel
theorem dX2_readUnit_45 : decode cX2_readUnit 45 = .ok (.goto 9, 3) := by decide +kernel
theorem dX2_readUnit_48 : decode cX2_readUnit 48 = .ok (.aload_n 0, 1) := by decide +kernel
theorem dX2_readUnit_49 : decode cX2_readUnit 49 = .ok (.aload_n 1, 1) := by decide +kernel
theorem dX2_readUnit_50 : decode cX2_readUnit 50 = .ok (.iload_n 2, 1) := by decide +kernel
theorem dX2_readUnit_51 : decode cX2_readUnit 51 = .ok (.invokevirtual 72, 3) := by decide +kernel
theorem dX2_readUnit_54 : decode cX2_readUnit 54 = .ok (.return_, 1) := by decide +kernel
theorem dX2_readBracket_0 : decode cX2_readBracket 0 = .ok (.iload_n 2, 1) := by decide +kernel
theorem dX2_readBracket_1 : decode cX2_readBracket 1 = .ok (.bipush 6, 2) := by decide +kernel
theorem dX2_readBracket_3 : decode cX2_readBracket 3 = .ok (.if_icmp .lt 13, 3) := by decide +kernel
theorem dX2_readBracket_6 : decode cX2_readBracket 6 = .ok (.aload_n 1, 1) := by decide +kernel
theorem dX2_readBracket_7 : decode cX2_readBracket 7 = .ok (.iconst 3, 1) := by decide +kernel
theorem dX2_readBracket_8 : decode cX2_readBracket 8 = .ok (.aload_n 1, 1) := by decide +kernel
theorem dX2_readBracket_9 : decode cX2_readBracket 9 = .ok (.invokevirtual 75, 3) := by decide +kernel
theorem dX2_readBracket_12 : decode cX2_readBracket 12 = .ok (.invokevirtual 78, 3) := by decide +kernel
theorem dX2_readBracket_15 : decode cX2_readBracket 15 = .ok (.return_, 1) := by decide +kernel
theorem dX2_readBracket_16 : decode cX2_readBracket 16 = .ok (.aload_n 1, 1) := by decide +kernel
theorem dX2_readBracket_17 : decode cX2_readBracket 17 = .ok (.bipush 40, 2) := by decide +kernel
theorem dX2_readBracket_19 : decode cX2_readBracket 19 = .ok (.invokevirtual 82, 3) := by decide +kernel
theorem dX2_readBracket_22 : decode cX2_readBracket 22 = .ok (.aload_n 0, 1) := by decide +kernel
theorem dX2_readBracket_23 : decode cX2_readBracket 23 = .ok (.aload_n 1, 1) := by decide +kernel
theorem dX2_readBracket_24 : decode cX2_readBracket 24 = .ok (.iload_n 2, 1) := by decide +kernel
theorem dX2_readBracket_25 : decode cX2_readBracket 25 = .ok (.iconst 1, 1) := by decide +kernel
theorem dX2_readBracket_26 : decode cX2_readBracket 26 = .ok (.iadd, 1) := by decide +kernel
theorem dX2_readBracket_27 : decode cX2_readBracket 27 = .ok (.invokevirtual 31, 3) := by decide +kernel
theorem dX2_readBracket_30 : decode cX2_readBracket 30 = .ok (.aload_n 1, 1) := by decide +kernel
theorem dX2_readBracket_31 : decode cX2_readBracket 31 = .ok (.bipush 41, 2) := by decide +kernel
theorem dX2_readBracket_33 : decode cX2_readBracket 33 = .ok (.invokevirtual 82, 3) := by decide +kernel
theorem dX2_readBracket_36 : decode cX2_readBracket 36 = .ok (.return_, 1) := by decide +kernel
theorem dX2_readName_0 : decode cX2_readName 0 = .ok (.aload_n 1, 1) := by decide +kernel
theorem dX2_readName_1 : decode cX2_readName 1 = .ok (.ldc 86, 2) := by decide +kernel
theorem dX2_readName_3 : decode cX2_readName 3 = .ok (.invokevirtual 88, 3) := by decide +kernel
theorem dX2_readName_6 : decode cX2_readName 6 = .ok (.istore_n 3, 1) := by decide +kernel
theorem dX2_readName_7 : decode cX2_readName 7 = .ok (.iload_n 3, 1) := by decide +kernel
theorem dX2_readName_8 : decode cX2_readName 8 = .ok (.iconst (-1), 1) := by decide +kernel
theorem dX2_readName_9 : decode cX2_readName 9 = .ok (.if_icmp .ne 4, 3) := by decide +kernel
theorem dX2_readName_12 : decode cX2_readName 12 = .ok (.return_, 1) := by decide +kernel
theorem dX2_readName_13 : decode cX2_readName 13 = .ok (.iload_n 3, 1) := by decide +kernel
theorem dX2_readName_14 : decode cX2_readName 14 = .ok (.bipush 8, 2) := by decide +kernel
theorem dX2_readName_16 : decode cX2_readName 16 = .ok (.if_icmp .ge 13, 3) := by decide +kernel
theorem dX2_readName_19 : decode cX2_readName 19 = .ok (.aload_n 0, 1) := by decide +kernel
theorem dX2_readName_20 : decode cX2_readName 20 = .ok (.sipush 1000, 3) := by decide +kernel
theorem dX2_readName_23 : decode cX2_readName 23 = .ok (.iload_n 3, 1) := by decide +kernel
theorem dX2_readName_24 : decode cX2_readName 24 = .ok (.iadd, 1) := by decide +kernel
theorem dX2_readName_25 : decode cX2_readName 25 = .ok (.invokevirtual 51, 3) := by decide +kernel
theorem dX2_readName_28 : decode cX2_readName 28 = .ok (.return_, 1) := by decide +kernel
theorem dX2_readName_29 : decode cX2_readName 29 = .ok (.iload_n 2, 1) := by decide +kernel
theorem dX2_readName_30 : decode cX2_readName 30 = .ok (.bipush 6, 2) := by decide +kernel
theorem dX2_readName_32 : decode cX2_readName 32 = .ok (.if_icmp .lt 13, 3) := by decide +kernel
theorem dX2_readName_35 : decode cX2_readName 35 = .ok (.aload_n 1, 1) := by decide +kernel
theorem dX2_readName_36 : decode cX2_readName 36 = .ok (.iconst 3, 1) := by decide +kernel
theorem dX2_readName_37 : decode cX2_readName 37 = .ok (.aload_n 1, 1) := by decide +kernel
theorem dX2_readName_38 : decode cX2_readName 38 = .ok (.getfield 92, 3) := by decide +kernel
theorem dX2_readName_41 : decode cX2_readName 41 = .ok (.invokevirtual 78, 3) := by decide +kernel
theorem dX2_readName_44 : decode cX2_readName 44 = .ok (.return_, 1) := by decide +kernel
theorem dX2_readName_45 : decode cX2_readName 45 = .ok (.aload_n 1, 1) := by decide +kernel
theorem dX2_readName_46 : decode cX2_readName 46 = .ok (.bipush 91, 2) := by decide +kernel
theorem dX2_readName_48 : decode cX2_readName 48 = .ok (.invokevirtual 82, 3) := by decide +kernel
theorem dX2_readName_51 : decode cX2_readName 51 = .ok (.aload_n 0, 1) := by decide +kernel
theorem dX2_readName_52 : decode cX2_readName 52 = .ok (.aload_n 1, 1) := by decide +kernel
theorem dX2_readName_53 : decode cX2_readName 53 = .ok (.iload_n 2, 1) := by decide +kernel
theorem dX2_readName_54 : decode cX2_readName 54 = .ok (.iconst 1, 1) := by decide +kernel
theorem dX2_readName_55 : decode cX2_readName 55 = .ok (.iadd, 1) := by decide +kernel
theorem dX2_readName_56 : decode cX2_readName 56 = .ok (.invokevirtual 31, 3) := by decide +kernel
theorem dX2_readName_59 : decode cX2_readName 59 = .ok (.aload_n 1, 1) := by decide +kernel
theorem dX2_readName_60 : decode cX2_readName 60 = .ok (.bipush 44, 2) := by decide +kernel
theorem dX2_readName_62 : decode cX2_readName 62 = .ok (.invokevirtual 82, 3) := by decide +kernel
theorem dX2_readName_65 : decode cX2_readName 65 = .ok (.aload_n 0, 1) := by decide +kernel
theorem dX2_readName_66 : decode cX2_readName 66 = .ok (.aload_n 1, 1) := by decide +kernel
theorem dX2_readName_67 : decode cX2_readName 67 = .ok (.iload_n 2, 1) := by decide +kernel
theorem dX2_readName_68 : decode cX2_readName 68 = .ok (.iconst 1, 1) := by decide +kernel
theorem dX2_readName_69 : decode cX2_readName 69 = .ok (.iadd, 1) := by decide +kernel
theorem dX2_readName_70 : decode cX2_readName 70 = .ok (.invokevirtual 31, 3) := by decide +kernel
theorem dX2_readName_73 : decode cX2_readName 73 = .ok (.aload_n 1, 1) := by decide +kernel
theorem dX2_readName_74 : decode cX2_readName 74 = .ok (.bipush 93, 2) := by decide +kernel
theorem dX2_readName_76 : decode cX2_readName 76 = .ok (.invokevirtual 82, 3) := by decide +kernel
theorem dX2_readName_79 : decode cX2_readName 79 = .ok (.aload_n 0, 1) := by decide +kernel
theorem dX2_readName_80 : decode cX2_readName 80 = .ok (.iload_n 3, 1) := by decide +kernel
theorem dX2_readName_81 : decode cX2_readName 81 = .ok (.bipush 8, 2) := by decide +kernel
theorem dX2_readName_83 : decode cX2_readName 83 = .ok (.if_icmp .ne 9, 3) := by decide +kernel
theorem dX2_readName_86 : decode cX2_readName 86 = .ok (.sipush 2005, 3) := by decide +kernel
theorem dX2_readName_89 : decode cX2_readName 89 = .ok (.goto 6, 3) := by decide +kernel
theorem dX2_readName_92 : decode cX2_readName 92 = .ok (.sipush 2006, 3) := by decide +kernel
theorem dX2_readName_95 : decode cX2_readName 95 = .ok (.invokevirtual 51, 3) := by decide +kernel
theorem dX2_readName_98 : decode cX2_readName 98 = .ok (.return_, 1) := by decide +kernel
theorem dX2_priceOfSeen_0 : decode cX2_priceOfSeen 0 = .ok (.iconst 5, 1) := by decide +kernel
theorem dX2_priceOfSeen_1 : decode cX2_priceOfSeen 1 = .ok (.aload_n 0, 1) := by decide +kernel
theorem dX2_priceOfSeen_2 : decode cX2_priceOfSeen 2 = .ok (.getfield 22, 3) := by decide +kernel
theorem dX2_priceOfSeen_5 : decode cX2_priceOfSeen 5 = .ok (.iconst 1, 1) := by decide +kernel
theorem dX2_priceOfSeen_6 : decode cX2_priceOfSeen 6 = .ok (.iaload, 1) := by decide +kernel
theorem dX2_priceOfSeen_7 : decode cX2_priceOfSeen 7 = .ok (.iconst 3, 1) := by decide +kernel
theorem dX2_priceOfSeen_8 : decode cX2_priceOfSeen 8 = .ok (.imul, 1) := by decide +kernel
theorem dX2_priceOfSeen_9 : decode cX2_priceOfSeen 9 = .ok (.iadd, 1) := by decide +kernel
theorem dX2_priceOfSeen_10 : decode cX2_priceOfSeen 10 = .ok (.aload_n 0, 1) := by decide +kernel
theorem dX2_priceOfSeen_11 : decode cX2_priceOfSeen 11 = .ok (.getfield 22, 3) := by decide +kernel
theorem dX2_priceOfSeen_14 : decode cX2_priceOfSeen 14 = .ok (.iconst 2, 1) := by decide +kernel
theorem dX2_priceOfSeen_15 : decode cX2_priceOfSeen 15 = .ok (.iaload, 1) := by decide +kernel
theorem dX2_priceOfSeen_16 : decode cX2_priceOfSeen 16 = .ok (.iadd, 1) := by decide +kernel
theorem dX2_priceOfSeen_17 : decode cX2_priceOfSeen 17 = .ok (.istore_n 1, 1) := by decide +kernel
theorem dX2_priceOfSeen_18 : decode cX2_priceOfSeen 18 = .ok (.iconst 0, 1) := by decide +kernel
theorem dX2_priceOfSeen_19 : decode cX2_priceOfSeen 19 = .ok (.istore_n 2, 1) := by decide +kernel
theorem dX2_priceOfSeen_20 : decode cX2_priceOfSeen 20 = .ok (.iconst 0, 1) := by decide +kernel
theorem dX2_priceOfSeen_21 : decode cX2_priceOfSeen 21 = .ok (.istore_n 3, 1) := by decide +kernel
theorem dX2_priceOfSeen_22 : decode cX2_priceOfSeen 22 = .ok (.iload_n 3, 1) := by decide +kernel
theorem dX2_priceOfSeen_23 : decode cX2_priceOfSeen 23 = .ok (.aload_n 0, 1) := by decide +kernel
theorem dX2_priceOfSeen_24 : decode cX2_priceOfSeen 24 = .ok (.getfield 15, 3) := by decide +kernel
theorem dX2_priceOfSeen_27 : decode cX2_priceOfSeen 27 = .ok (.if_icmp .ge 85, 3) := by decide +kernel
theorem dX2_priceOfSeen_30 : decode cX2_priceOfSeen 30 = .ok (.aload_n 0, 1) := by decide +kernel
theorem dX2_priceOfSeen_31 : decode cX2_priceOfSeen 31 = .ok (.getfield 9, 3) := by decide +kernel
theorem dX2_priceOfSeen_34 : decode cX2_priceOfSeen 34 = .ok (.iload_n 3, 1) := by decide +kernel
theorem dX2_priceOfSeen_35 : decode cX2_priceOfSeen 35 = .ok (.iaload, 1) := by decide +kernel
theorem dX2_priceOfSeen_36 : decode cX2_priceOfSeen 36 = .ok (.istore 4, 2) := by decide +kernel
theorem dX2_priceOfSeen_38 : decode cX2_priceOfSeen 38 = .ok (.iload 4, 2) := by decide +kernel
theorem dX2_priceOfSeen_40 : decode cX2_priceOfSeen 40 = .ok (.sipush 2000, 3) := by decide +kernel
theorem dX2_priceOfSeen_43 : decode cX2_priceOfSeen 43 = .ok (.if_icmp .lt 41, 3) := by decide +kernel
theorem dX2_priceOfSeen_46 : decode cX2_priceOfSeen 46 = .ok (.iload_n 2, 1) := by decide +kernel
theorem dX2_priceOfSeen_47 : decode cX2_priceOfSeen 47 = .ok (.iconst 2, 1) := by decide +kernel
theorem dX2_priceOfSeen_48 : decode cX2_priceOfSeen 48 = .ok (.if_icmp .lt 58, 3) := by decide +kernel
theorem dX2_priceOfSeen_51 : decode cX2_priceOfSeen 51 = .ok (.iinc 2 (-1), 3) := by decide +kernel
theorem dX2_priceOfSeen_54 : decode cX2_priceOfSeen 54 = .ok (.aload_n 0, 1) := by decide +kernel
theorem dX2_priceOfSeen_55 : decode cX2_priceOfSeen 55 = .ok (.getfield 19, 3) := by decide +kernel
theorem dX2_priceOfSeen_58 : decode cX2_priceOfSeen 58 = .ok (.iload_n 2, 1) := by decide +kernel
theorem dX2_priceOfSeen_59 : decode cX2_priceOfSeen 59 = .ok (.iconst 1, 1) := by decide +kernel
theorem dX2_priceOfSeen_60 : decode cX2_priceOfSeen 60 = .ok (.isub, 1) := by decide +kernel
theorem dX2_priceOfSeen_61 : decode cX2_priceOfSeen 61 = .ok (.iload 4, 2) := by decide +kernel
theorem dX2_priceOfSeen_63 : decode cX2_priceOfSeen 63 = .ok (.aload_n 0, 1) := by decide +kernel
theorem dX2_priceOfSeen_64 : decode cX2_priceOfSeen 64 = .ok (.getfield 19, 3) := by decide +kernel
theorem dX2_priceOfSeen_67 : decode cX2_priceOfSeen 67 = .ok (.iload_n 2, 1) := by decide +kernel
theorem dX2_priceOfSeen_68 : decode cX2_priceOfSeen 68 = .ok (.iconst 1, 1) := by decide +kernel
theorem dX2_priceOfSeen_69 : decode cX2_priceOfSeen 69 = .ok (.isub, 1) := by decide +kernel
theorem dX2_priceOfSeen_70 : decode cX2_priceOfSeen 70 = .ok (.iaload, 1) := by decide +kernel
theorem dX2_priceOfSeen_71 : decode cX2_priceOfSeen 71 = .ok (.aload_n 0, 1) := by decide +kernel
theorem dX2_priceOfSeen_72 : decode cX2_priceOfSeen 72 = .ok (.getfield 19, 3) := by decide +kernel
theorem dX2_priceOfSeen_75 : decode cX2_priceOfSeen 75 = .ok (.iload_n 2, 1) := by decide +kernel
theorem dX2_priceOfSeen_76 : decode cX2_priceOfSeen 76 = .ok (.iaload, 1) := by decide +kernel
theorem dX2_priceOfSeen_77 : decode cX2_priceOfSeen 77 = .ok (.invokestatic 95, 3) := by decide +kernel
theorem dX2_priceOfSeen_80 : decode cX2_priceOfSeen 80 = .ok (.iastore, 1) := by decide +kernel
theorem dX2_priceOfSeen_81 : decode cX2_priceOfSeen 81 = .ok (.goto 25, 3) := by decide +kernel
theorem dX2_priceOfSeen_84 : decode cX2_priceOfSeen 84 = .ok (.iload_n 2, 1) := by decide +kernel
theorem dX2_priceOfSeen_85 : decode cX2_priceOfSeen 85 = .ok (.sipush 150, 3) := by decide +kernel
theorem dX2_priceOfSeen_88 : decode cX2_priceOfSeen 88 = .ok (.if_icmp .ge 18, 3) := by decide +kernel
theorem dX2_priceOfSeen_91 : decode cX2_priceOfSeen 91 = .ok (.aload_n 0, 1) := by decide +kernel
theorem dX2_priceOfSeen_92 : decode cX2_priceOfSeen 92 = .ok (.getfield 19, 3) := by decide +kernel
theorem dX2_priceOfSeen_95 : decode cX2_priceOfSeen 95 = .ok (.iload_n 2, 1) := by decide +kernel
theorem dX2_priceOfSeen_96 : decode cX2_priceOfSeen 96 = .ok (.aload_n 0, 1) := by decide +kernel
theorem dX2_priceOfSeen_97 : decode cX2_priceOfSeen 97 = .ok (.iload 4, 2) := by decide +kernel
theorem dX2_priceOfSeen_99 : decode cX2_priceOfSeen 99 = .ok (.invokevirtual 99, 3) := by decide +kernel
theorem dX2_priceOfSeen_102 : decode cX2_priceOfSeen 102 = .ok (.iastore, 1) := by decide +kernel
theorem dX2_priceOfSeen_103 : decode cX2_priceOfSeen 103 = .ok (.iinc 2 1, 3) := by decide +kernel
theorem dX2_priceOfSeen_106 : decode cX2_priceOfSeen 106 = .ok (.iinc 3 1, 3) := by decide +kernel
theorem dX2_priceOfSeen_109 : decode cX2_priceOfSeen 109 = .ok (.goto (-87), 3) := by decide +kernel
theorem dX2_priceOfSeen_112 : decode cX2_priceOfSeen 112 = .ok (.iload_n 2, 1) := by decide +kernel
theorem dX2_priceOfSeen_113 : decode cX2_priceOfSeen 113 = .ok (.ifCond .le 10, 3) := by decide +kernel
theorem dX2_priceOfSeen_116 : decode cX2_priceOfSeen 116 = .ok (.aload_n 0, 1) := by decide +kernel
theorem dX2_priceOfSeen_117 : decode cX2_priceOfSeen 117 = .ok (.getfield 19, 3) := by decide +kernel
theorem dX2_priceOfSeen_120 : decode cX2_priceOfSeen 120 = .ok (.iconst 0, 1) := by decide +kernel
theorem dX2_priceOfSeen_121 : decode cX2_priceOfSeen 121 = .ok (.iaload, 1) := by decide +kernel
theorem dX2_priceOfSeen_122 : decode cX2_priceOfSeen 122 = .ok (.istore_n 1, 1) := by decide +kernel
theorem dX2_priceOfSeen_123 : decode cX2_priceOfSeen 123 = .ok (.iconst 0, 1) := by decide +kernel
theorem dX2_priceOfSeen_124 : decode cX2_priceOfSeen 124 = .ok (.bipush 99, 2) := by decide +kernel
theorem dX2_priceOfSeen_126 : decode cX2_priceOfSeen 126 = .ok (.iload_n 1, 1) := by decide +kernel
theorem dX2_priceOfSeen_127 : decode cX2_priceOfSeen 127 = .ok (.invokestatic 103, 3) := by decide +kernel
theorem dX2_priceOfSeen_130 : decode cX2_priceOfSeen 130 = .ok (.invokestatic 108, 3) := by decide +kernel
theorem dX2_priceOfSeen_133 : decode cX2_priceOfSeen 133 = .ok (.ireturn, 1) := by decide +kernel
theorem dX2_valueOf_0 : decode cX2_valueOf 0 = .ok (.iload_n 1, 1) := by decide +kernel
theorem dX2_valueOf_1 : decode cX2_valueOf 1 = .ok (.sipush 1000, 3) := by decide +kernel
theorem dX2_valueOf_4 : decode cX2_valueOf 4 = .ok (.isub, 1) := by decide +kernel
theorem dX2_valueOf_5 : decode cX2_valueOf 5 = .ok (.istore_n 2, 1) := by decide +kernel
theorem dX2_valueOf_6 : decode cX2_valueOf 6 = .ok (.iload_n 2, 1) := by decide +kernel
theorem dX2_valueOf_7 : decode cX2_valueOf 7 = .ok (.ifCond .lt 18, 3) := by decide +kernel
theorem dX2_valueOf_10 : decode cX2_valueOf 10 = .ok (.iload_n 2, 1) := by decide +kernel
theorem dX2_valueOf_11 : decode cX2_valueOf 11 = .ok (.bipush 8, 2) := by decide +kernel
theorem dX2_valueOf_13 : decode cX2_valueOf 13 = .ok (.if_icmp .ge 12, 3) := by decide +kernel
theorem dX2_valueOf_16 : decode cX2_valueOf 16 = .ok (.aload_n 0, 1) := by decide +kernel
theorem dX2_valueOf_17 : decode cX2_valueOf 17 = .ok (.getfield 22, 3) := by decide +kernel
theorem dX2_valueOf_20 : decode cX2_valueOf 20 = .ok (.iload_n 2, 1) := by decide +kernel
theorem dX2_valueOf_21 : decode cX2_valueOf 21 = .ok (.iaload, 1) := by decide +kernel
theorem dX2_valueOf_22 : decode cX2_valueOf 22 = .ok (.goto 4, 3) := by decide +kernel
theorem dX2_valueOf_25 : decode cX2_valueOf 25 = .ok (.iload_n 1, 1) := by decide +kernel
theorem dX2_valueOf_26 : decode cX2_valueOf 26 = .ok (.ireturn, 1) := by decide +kernel
theorem dX2_combined_0 : decode cX2_combined 0 = .ok (.iload_n 0, 1) := by decide +kernel
theorem dX2_combined_1 : decode cX2_combined 1 = .ok (.tableswitch 86 2000 2005 #[39, 43, 47, 51, 63, 75], 39) := by decide +kernel
theorem dX2_combined_40 : decode cX2_combined 40 = .ok (.iload_n 1, 1) := by decide +kernel
theorem dX2_combined_41 : decode cX2_combined 41 = .ok (.iload_n 2, 1) := by decide +kernel
theorem dX2_combined_42 : decode cX2_combined 42 = .ok (.iadd, 1) := by decide +kernel
theorem dX2_combined_43 : decode cX2_combined 43 = .ok (.ireturn, 1) := by decide +kernel
theorem dX2_combined_44 : decode cX2_combined 44 = .ok (.iload_n 1, 1) := by decide +kernel
theorem dX2_combined_45 : decode cX2_combined 45 = .ok (.iload_n 2, 1) := by decide +kernel
theorem dX2_combined_46 : decode cX2_combined 46 = .ok (.isub, 1) := by decide +kernel
theorem dX2_combined_47 : decode cX2_combined 47 = .ok (.ireturn, 1) := by decide +kernel
theorem dX2_combined_48 : decode cX2_combined 48 = .ok (.iload_n 1, 1) := by decide +kernel
theorem dX2_combined_49 : decode cX2_combined 49 = .ok (.iload_n 2, 1) := by decide +kernel
theorem dX2_combined_50 : decode cX2_combined 50 = .ok (.imul, 1) := by decide +kernel
theorem dX2_combined_51 : decode cX2_combined 51 = .ok (.ireturn, 1) := by decide +kernel
theorem dX2_combined_52 : decode cX2_combined 52 = .ok (.iload_n 2, 1) := by decide +kernel
theorem dX2_combined_53 : decode cX2_combined 53 = .ok (.ifCond .ne 7, 3) := by decide +kernel
theorem dX2_combined_56 : decode cX2_combined 56 = .ok (.iconst 0, 1) := by decide +kernel
theorem dX2_combined_57 : decode cX2_combined 57 = .ok (.goto 6, 3) := by decide +kernel
theorem dX2_combined_60 : decode cX2_combined 60 = .ok (.iload_n 1, 1) := by decide +kernel
theorem dX2_combined_61 : decode cX2_combined 61 = .ok (.iload_n 2, 1) := by decide +kernel
theorem dX2_combined_62 : decode cX2_combined 62 = .ok (.idiv, 1) := by decide +kernel
theorem dX2_combined_63 : decode cX2_combined 63 = .ok (.ireturn, 1) := by decide +kernel
theorem dX2_combined_64 : decode cX2_combined 64 = .ok (.iload_n 2, 1) := by decide +kernel
theorem dX2_combined_65 : decode cX2_combined 65 = .ok (.ifCond .ne 7, 3) := by decide +kernel
theorem dX2_combined_68 : decode cX2_combined 68 = .ok (.iconst 0, 1) := by decide +kernel
theorem dX2_combined_69 : decode cX2_combined 69 = .ok (.goto 6, 3) := by decide +kernel
theorem dX2_combined_72 : decode cX2_combined 72 = .ok (.iload_n 1, 1) := by decide +kernel
theorem dX2_combined_73 : decode cX2_combined 73 = .ok (.iload_n 2, 1) := by decide +kernel
theorem dX2_combined_74 : decode cX2_combined 74 = .ok (.irem, 1) := by decide +kernel
theorem dX2_combined_75 : decode cX2_combined 75 = .ok (.ireturn, 1) := by decide +kernel
theorem dX2_combined_76 : decode cX2_combined 76 = .ok (.iload_n 1, 1) := by decide +kernel
theorem dX2_combined_77 : decode cX2_combined 77 = .ok (.iload_n 2, 1) := by decide +kernel
theorem dX2_combined_78 : decode cX2_combined 78 = .ok (.if_icmp .gt 7, 3) := by decide +kernel
theorem dX2_combined_81 : decode cX2_combined 81 = .ok (.iload_n 1, 1) := by decide +kernel
theorem dX2_combined_82 : decode cX2_combined 82 = .ok (.goto 4, 3) := by decide +kernel
theorem dX2_combined_85 : decode cX2_combined 85 = .ok (.iload_n 2, 1) := by decide +kernel
theorem dX2_combined_86 : decode cX2_combined 86 = .ok (.ireturn, 1) := by decide +kernel
theorem dX2_combined_87 : decode cX2_combined 87 = .ok (.iload_n 1, 1) := by decide +kernel
theorem dX2_combined_88 : decode cX2_combined 88 = .ok (.iload_n 2, 1) := by decide +kernel
theorem dX2_combined_89 : decode cX2_combined 89 = .ok (.if_icmp .lt 7, 3) := by decide +kernel
theorem dX2_combined_92 : decode cX2_combined 92 = .ok (.iload_n 1, 1) := by decide +kernel
theorem dX2_combined_93 : decode cX2_combined 93 = .ok (.goto 4, 3) := by decide +kernel
theorem dX2_combined_96 : decode cX2_combined 96 = .ok (.iload_n 2, 1) := by decide +kernel
theorem dX2_combined_97 : decode cX2_combined 97 = .ok (.ireturn, 1) := by decide +kernel
theorem dX3_init_0 : decode cX3_init 0 = .ok (.aload_n 0, 1) := by decide +kernel
theorem dX3_init_1 : decode cX3_init 1 = .ok (.invokespecial 3, 3) := by decide +kernel
theorem dX3_init_4 : decode cX3_init 4 = .ok (.aload_n 0, 1) := by decide +kernel
theorem dX3_init_5 : decode cX3_init 5 = .ok (.iconst 0, 1) := by decide +kernel
theorem dX3_init_6 : decode cX3_init 6 = .ok (.putfield 9, 3) := by decide +kernel
theorem dX3_init_9 : decode cX3_init 9 = .ok (.aload_n 0, 1) := by decide +kernel
theorem dX3_init_10 : decode cX3_init 10 = .ok (.iconst 0, 1) := by decide +kernel
theorem dX3_init_11 : decode cX3_init 11 = .ok (.putfield 15, 3) := by decide +kernel
theorem dX3_init_14 : decode cX3_init 14 = .ok (.aload_n 0, 1) := by decide +kernel
theorem dX3_init_15 : decode cX3_init 15 = .ok (.iconst 0, 1) := by decide +kernel
theorem dX3_init_16 : decode cX3_init 16 = .ok (.putfield 18, 3) := by decide +kernel
theorem dX3_init_19 : decode cX3_init 19 = .ok (.aload_n 0, 1) := by decide +kernel
theorem dX3_init_20 : decode cX3_init 20 = .ok (.bipush 6, 2) := by decide +kernel
theorem dX3_init_22 : decode cX3_init 22 = .ok (.newarray .int, 2) := by decide +kernel
theorem dX3_init_24 : decode cX3_init 24 = .ok (.putfield 21, 3) := by decide +kernel
theorem dX3_init_27 : decode cX3_init 27 = .ok (.aload_n 0, 1) := by decide +kernel
theorem dX3_init_28 : decode cX3_init 28 = .ok (.bipush 6, 2) := by decide +kernel
theorem dX3_init_30 : decode cX3_init 30 = .ok (.newarray .int, 2) := by decide +kernel
theorem dX3_init_32 : decode cX3_init 32 = .ok (.putfield 25, 3) := by decide +kernel
theorem dX3_init_35 : decode cX3_init 35 = .ok (.aload_n 0, 1) := by decide +kernel
theorem dX3_init_36 : decode cX3_init 36 = .ok (.bipush 6, 2) := by decide +kernel
theorem dX3_init_38 : decode cX3_init 38 = .ok (.newarray .int, 2) := by decide +kernel
theorem dX3_init_40 : decode cX3_init 40 = .ok (.putfield 28, 3) := by decide +kernel
theorem dX3_init_43 : decode cX3_init 43 = .ok (.aload_n 0, 1) := by decide +kernel
theorem dX3_init_44 : decode cX3_init 44 = .ok (.bipush 6, 2) := by decide +kernel
theorem dX3_init_46 : decode cX3_init 46 = .ok (.newarray .int, 2) := by decide +kernel
theorem dX3_init_48 : decode cX3_init 48 = .ok (.putfield 31, 3) := by decide +kernel
theorem dX3_init_51 : decode cX3_init 51 = .ok (.aload_n 0, 1) := by decide +kernel
theorem dX3_init_52 : decode cX3_init 52 = .ok (.bipush 6, 2) := by decide +kernel
theorem dX3_init_54 : decode cX3_init 54 = .ok (.newarray .int, 2) := by decide +kernel
theorem dX3_init_56 : decode cX3_init 56 = .ok (.putfield 34, 3) := by decide +kernel
theorem dX3_init_59 : decode cX3_init 59 = .ok (.aload_n 0, 1) := by decide +kernel
theorem dX3_init_60 : decode cX3_init 60 = .ok (.bipush 12, 2) := by decide +kernel
theorem dX3_init_62 : decode cX3_init 62 = .ok (.newarray .int, 2) := by decide +kernel
theorem dX3_init_64 : decode cX3_init 64 = .ok (.putfield 37, 3) := by decide +kernel
theorem dX3_init_67 : decode cX3_init 67 = .ok (.aload_n 0, 1) := by decide +kernel
theorem dX3_init_68 : decode cX3_init 68 = .ok (.aload_n 1, 1) := by decide +kernel
theorem dX3_init_69 : decode cX3_init 69 = .ok (.putfield 40, 3) := by decide +kernel
theorem dX3_init_72 : decode cX3_init 72 = .ok (.aload_n 0, 1) := by decide +kernel
theorem dX3_init_73 : decode cX3_init 73 = .ok (.aload_n 2, 1) := by decide +kernel
theorem dX3_init_74 : decode cX3_init 74 = .ok (.putfield 44, 3) := by decide +kernel
theorem dX3_init_77 : decode cX3_init 77 = .ok (.return_, 1) := by decide +kernel
theorem dX3_begin_0 : decode cX3_begin 0 = .ok (.aload_n 0, 1) := by decide +kernel
theorem dX3_begin_1 : decode cX3_begin 1 = .ok (.iconst 0, 1) := by decide +kernel
theorem dX3_begin_2 : decode cX3_begin 2 = .ok (.putfield 9, 3) := by decide +kernel
theorem dX3_begin_5 : decode cX3_begin 5 = .ok (.aload_n 0, 1) := by decide +kernel
theorem dX3_begin_6 : decode cX3_begin 6 = .ok (.iconst 0, 1) := by decide +kernel
theorem dX3_begin_7 : decode cX3_begin 7 = .ok (.putfield 15, 3) := by decide +kernel
theorem dX3_begin_10 : decode cX3_begin 10 = .ok (.aload_n 0, 1) := by decide +kernel
theorem dX3_begin_11 : decode cX3_begin 11 = .ok (.iconst 0, 1) := by decide +kernel
theorem dX3_begin_12 : decode cX3_begin 12 = .ok (.putfield 18, 3) := by decide +kernel
theorem dX3_begin_15 : decode cX3_begin 15 = .ok (.iconst 0, 1) := by decide +kernel
theorem dX3_begin_16 : decode cX3_begin 16 = .ok (.istore_n 1, 1) := by decide +kernel
theorem dX3_begin_17 : decode cX3_begin 17 = .ok (.iload_n 1, 1) := by decide +kernel
theorem dX3_begin_18 : decode cX3_begin 18 = .ok (.bipush 6, 2) := by decide +kernel
theorem dX3_begin_20 : decode cX3_begin 20 = .ok (.if_icmp .ge 52, 3) := by decide +kernel
theorem dX3_begin_23 : decode cX3_begin 23 = .ok (.aload_n 0, 1) := by decide +kernel
theorem dX3_begin_24 : decode cX3_begin 24 = .ok (.getfield 21, 3) := by decide +kernel
theorem dX3_begin_27 : decode cX3_begin 27 = .ok (.iload_n 1, 1) := by decide +kernel
theorem dX3_begin_28 : decode cX3_begin 28 = .ok (.aload_n 0, 1) := by decide +kernel
theorem dX3_begin_29 : decode cX3_begin 29 = .ok (.getfield 40, 3) := by decide +kernel
theorem dX3_begin_32 : decode cX3_begin 32 = .ok (.getfield 48, 3) := by decide +kernel
theorem dX3_begin_35 : decode cX3_begin 35 = .ok (.iload_n 1, 1) := by decide +kernel
theorem dX3_begin_36 : decode cX3_begin 36 = .ok (.iaload, 1) := by decide +kernel
theorem dX3_begin_37 : decode cX3_begin 37 = .ok (.iastore, 1) := by decide +kernel
theorem dX3_begin_38 : decode cX3_begin 38 = .ok (.aload_n 0, 1) := by decide +kernel
theorem dX3_begin_39 : decode cX3_begin 39 = .ok (.getfield 25, 3) := by decide +kernel
theorem dX3_begin_42 : decode cX3_begin 42 = .ok (.iload_n 1, 1) := by decide +kernel
theorem dX3_begin_43 : decode cX3_begin 43 = .ok (.iconst 0, 1) := by decide +kernel
theorem dX3_begin_44 : decode cX3_begin 44 = .ok (.iastore, 1) := by decide +kernel
theorem dX3_begin_45 : decode cX3_begin 45 = .ok (.aload_n 0, 1) := by decide +kernel
theorem dX3_begin_46 : decode cX3_begin 46 = .ok (.getfield 28, 3) := by decide +kernel
theorem dX3_begin_49 : decode cX3_begin 49 = .ok (.iload_n 1, 1) := by decide +kernel
theorem dX3_begin_50 : decode cX3_begin 50 = .ok (.iconst 0, 1) := by decide +kernel
theorem dX3_begin_51 : decode cX3_begin 51 = .ok (.iastore, 1) := by decide +kernel
theorem dX3_begin_52 : decode cX3_begin 52 = .ok (.aload_n 0, 1) := by decide +kernel
theorem dX3_begin_53 : decode cX3_begin 53 = .ok (.getfield 31, 3) := by decide +kernel
theorem dX3_begin_56 : decode cX3_begin 56 = .ok (.iload_n 1, 1) := by decide +kernel
theorem dX3_begin_57 : decode cX3_begin 57 = .ok (.iconst (-1), 1) := by decide +kernel
theorem dX3_begin_58 : decode cX3_begin 58 = .ok (.iastore, 1) := by decide +kernel
theorem dX3_begin_59 : decode cX3_begin 59 = .ok (.aload_n 0, 1) := by decide +kernel
theorem dX3_begin_60 : decode cX3_begin 60 = .ok (.getfield 34, 3) := by decide +kernel
theorem dX3_begin_63 : decode cX3_begin 63 = .ok (.iload_n 1, 1) := by decide +kernel
theorem dX3_begin_64 : decode cX3_begin 64 = .ok (.iconst 0, 1) := by decide +kernel
theorem dX3_begin_65 : decode cX3_begin 65 = .ok (.iastore, 1) := by decide +kernel
theorem dX3_begin_66 : decode cX3_begin 66 = .ok (.iinc 1 1, 3) := by decide +kernel
theorem dX3_begin_69 : decode cX3_begin 69 = .ok (.goto (-52), 3) := by decide +kernel
theorem dX3_begin_72 : decode cX3_begin 72 = .ok (.aload_n 0, 1) := by decide +kernel
theorem dX3_begin_73 : decode cX3_begin 73 = .ok (.getfield 40, 3) := by decide +kernel
theorem dX3_begin_76 : decode cX3_begin 76 = .ok (.getfield 51, 3) := by decide +kernel
theorem dX3_begin_79 : decode cX3_begin 79 = .ok (.iconst 0, 1) := by decide +kernel
theorem dX3_begin_80 : decode cX3_begin 80 = .ok (.aload_n 0, 1) := by decide +kernel
theorem dX3_begin_81 : decode cX3_begin 81 = .ok (.getfield 37, 3) := by decide +kernel
theorem dX3_begin_84 : decode cX3_begin 84 = .ok (.iconst 0, 1) := by decide +kernel
theorem dX3_begin_85 : decode cX3_begin 85 = .ok (.bipush 12, 2) := by decide +kernel
theorem dX3_begin_87 : decode cX3_begin 87 = .ok (.invokestatic 52, 3) := by decide +kernel
theorem dX3_begin_90 : decode cX3_begin 90 = .ok (.return_, 1) := by decide +kernel
theorem dX3_copyFrom_0 : decode cX3_copyFrom 0 = .ok (.aload_n 0, 1) := by decide +kernel
theorem dX3_copyFrom_1 : decode cX3_copyFrom 1 = .ok (.aload_n 1, 1) := by decide +kernel
theorem dX3_copyFrom_2 : decode cX3_copyFrom 2 = .ok (.getfield 9, 3) := by decide +kernel
theorem dX3_copyFrom_5 : decode cX3_copyFrom 5 = .ok (.putfield 9, 3) := by decide +kernel
theorem dX3_copyFrom_8 : decode cX3_copyFrom 8 = .ok (.aload_n 0, 1) := by decide +kernel
theorem dX3_copyFrom_9 : decode cX3_copyFrom 9 = .ok (.aload_n 1, 1) := by decide +kernel
theorem dX3_copyFrom_10 : decode cX3_copyFrom 10 = .ok (.getfield 15, 3) := by decide +kernel
theorem dX3_copyFrom_13 : decode cX3_copyFrom 13 = .ok (.putfield 15, 3) := by decide +kernel
theorem dX3_copyFrom_16 : decode cX3_copyFrom 16 = .ok (.aload_n 0, 1) := by decide +kernel
theorem dX3_copyFrom_17 : decode cX3_copyFrom 17 = .ok (.aload_n 1, 1) := by decide +kernel
theorem dX3_copyFrom_18 : decode cX3_copyFrom 18 = .ok (.getfield 18, 3) := by decide +kernel
theorem dX3_copyFrom_21 : decode cX3_copyFrom 21 = .ok (.putfield 18, 3) := by decide +kernel
theorem dX3_copyFrom_24 : decode cX3_copyFrom 24 = .ok (.aload_n 1, 1) := by decide +kernel
theorem dX3_copyFrom_25 : decode cX3_copyFrom 25 = .ok (.getfield 21, 3) := by decide +kernel
theorem dX3_copyFrom_28 : decode cX3_copyFrom 28 = .ok (.iconst 0, 1) := by decide +kernel
theorem dX3_copyFrom_29 : decode cX3_copyFrom 29 = .ok (.aload_n 0, 1) := by decide +kernel
theorem dX3_copyFrom_30 : decode cX3_copyFrom 30 = .ok (.getfield 21, 3) := by decide +kernel
theorem dX3_copyFrom_33 : decode cX3_copyFrom 33 = .ok (.iconst 0, 1) := by decide +kernel
theorem dX3_copyFrom_34 : decode cX3_copyFrom 34 = .ok (.bipush 6, 2) := by decide +kernel
theorem dX3_copyFrom_36 : decode cX3_copyFrom 36 = .ok (.invokestatic 52, 3) := by decide +kernel
theorem dX3_copyFrom_39 : decode cX3_copyFrom 39 = .ok (.aload_n 1, 1) := by decide +kernel
theorem dX3_copyFrom_40 : decode cX3_copyFrom 40 = .ok (.getfield 25, 3) := by decide +kernel
theorem dX3_copyFrom_43 : decode cX3_copyFrom 43 = .ok (.iconst 0, 1) := by decide +kernel
theorem dX3_copyFrom_44 : decode cX3_copyFrom 44 = .ok (.aload_n 0, 1) := by decide +kernel
theorem dX3_copyFrom_45 : decode cX3_copyFrom 45 = .ok (.getfield 25, 3) := by decide +kernel
theorem dX3_copyFrom_48 : decode cX3_copyFrom 48 = .ok (.iconst 0, 1) := by decide +kernel
theorem dX3_copyFrom_49 : decode cX3_copyFrom 49 = .ok (.bipush 6, 2) := by decide +kernel
theorem dX3_copyFrom_51 : decode cX3_copyFrom 51 = .ok (.invokestatic 52, 3) := by decide +kernel
theorem dX3_copyFrom_54 : decode cX3_copyFrom 54 = .ok (.aload_n 1, 1) := by decide +kernel
theorem dX3_copyFrom_55 : decode cX3_copyFrom 55 = .ok (.getfield 28, 3) := by decide +kernel
theorem dX3_copyFrom_58 : decode cX3_copyFrom 58 = .ok (.iconst 0, 1) := by decide +kernel
theorem dX3_copyFrom_59 : decode cX3_copyFrom 59 = .ok (.aload_n 0, 1) := by decide +kernel
theorem dX3_copyFrom_60 : decode cX3_copyFrom 60 = .ok (.getfield 28, 3) := by decide +kernel
theorem dX3_copyFrom_63 : decode cX3_copyFrom 63 = .ok (.iconst 0, 1) := by decide +kernel
theorem dX3_copyFrom_64 : decode cX3_copyFrom 64 = .ok (.bipush 6, 2) := by decide +kernel
theorem dX3_copyFrom_66 : decode cX3_copyFrom 66 = .ok (.invokestatic 52, 3) := by decide +kernel
theorem dX3_copyFrom_69 : decode cX3_copyFrom 69 = .ok (.aload_n 1, 1) := by decide +kernel
theorem dX3_copyFrom_70 : decode cX3_copyFrom 70 = .ok (.getfield 31, 3) := by decide +kernel
theorem dX3_copyFrom_73 : decode cX3_copyFrom 73 = .ok (.iconst 0, 1) := by decide +kernel
theorem dX3_copyFrom_74 : decode cX3_copyFrom 74 = .ok (.aload_n 0, 1) := by decide +kernel
theorem dX3_copyFrom_75 : decode cX3_copyFrom 75 = .ok (.getfield 31, 3) := by decide +kernel
theorem dX3_copyFrom_78 : decode cX3_copyFrom 78 = .ok (.iconst 0, 1) := by decide +kernel
theorem dX3_copyFrom_79 : decode cX3_copyFrom 79 = .ok (.bipush 6, 2) := by decide +kernel
theorem dX3_copyFrom_81 : decode cX3_copyFrom 81 = .ok (.invokestatic 52, 3) := by decide +kernel
theorem dX3_copyFrom_84 : decode cX3_copyFrom 84 = .ok (.aload_n 1, 1) := by decide +kernel
theorem dX3_copyFrom_85 : decode cX3_copyFrom 85 = .ok (.getfield 34, 3) := by decide +kernel
theorem dX3_copyFrom_88 : decode cX3_copyFrom 88 = .ok (.iconst 0, 1) := by decide +kernel
theorem dX3_copyFrom_89 : decode cX3_copyFrom 89 = .ok (.aload_n 0, 1) := by decide +kernel
theorem dX3_copyFrom_90 : decode cX3_copyFrom 90 = .ok (.getfield 34, 3) := by decide +kernel
theorem dX3_copyFrom_93 : decode cX3_copyFrom 93 = .ok (.iconst 0, 1) := by decide +kernel
theorem dX3_copyFrom_94 : decode cX3_copyFrom 94 = .ok (.bipush 6, 2) := by decide +kernel
theorem dX3_copyFrom_96 : decode cX3_copyFrom 96 = .ok (.invokestatic 52, 3) := by decide +kernel
theorem dX3_copyFrom_99 : decode cX3_copyFrom 99 = .ok (.aload_n 1, 1) := by decide +kernel
theorem dX3_copyFrom_100 : decode cX3_copyFrom 100 = .ok (.getfield 37, 3) := by decide +kernel
theorem dX3_copyFrom_103 : decode cX3_copyFrom 103 = .ok (.iconst 0, 1) := by decide +kernel
theorem dX3_copyFrom_104 : decode cX3_copyFrom 104 = .ok (.aload_n 0, 1) := by decide +kernel
theorem dX3_copyFrom_105 : decode cX3_copyFrom 105 = .ok (.getfield 37, 3) := by decide +kernel
theorem dX3_copyFrom_108 : decode cX3_copyFrom 108 = .ok (.iconst 0, 1) := by decide +kernel
theorem dX3_copyFrom_109 : decode cX3_copyFrom 109 = .ok (.bipush 12, 2) := by decide +kernel
theorem dX3_copyFrom_111 : decode cX3_copyFrom 111 = .ok (.invokestatic 52, 3) := by decide +kernel
theorem dX3_copyFrom_114 : decode cX3_copyFrom 114 = .ok (.return_, 1) := by decide +kernel
theorem dX3_saveTo_0 : decode cX3_saveTo 0 = .ok (.aload_n 0, 1) := by decide +kernel
theorem dX3_saveTo_1 : decode cX3_saveTo 1 = .ok (.getfield 21, 3) := by decide +kernel
theorem dX3_saveTo_4 : decode cX3_saveTo 4 = .ok (.iconst 0, 1) := by decide +kernel
theorem dX3_saveTo_5 : decode cX3_saveTo 5 = .ok (.aload_n 1, 1) := by decide +kernel
theorem dX3_saveTo_6 : decode cX3_saveTo 6 = .ok (.iload_n 2, 1) := by decide +kernel
theorem dX3_saveTo_7 : decode cX3_saveTo 7 = .ok (.bipush 6, 2) := by decide +kernel
theorem dX3_saveTo_9 : decode cX3_saveTo 9 = .ok (.invokestatic 52, 3) := by decide +kernel
theorem dX3_saveTo_12 : decode cX3_saveTo 12 = .ok (.aload_n 0, 1) := by decide +kernel
theorem dX3_saveTo_13 : decode cX3_saveTo 13 = .ok (.getfield 25, 3) := by decide +kernel
theorem dX3_saveTo_16 : decode cX3_saveTo 16 = .ok (.iconst 0, 1) := by decide +kernel
theorem dX3_saveTo_17 : decode cX3_saveTo 17 = .ok (.aload_n 1, 1) := by decide +kernel
theorem dX3_saveTo_18 : decode cX3_saveTo 18 = .ok (.iload_n 2, 1) := by decide +kernel
theorem dX3_saveTo_19 : decode cX3_saveTo 19 = .ok (.bipush 6, 2) := by decide +kernel
theorem dX3_saveTo_21 : decode cX3_saveTo 21 = .ok (.iadd, 1) := by decide +kernel
theorem dX3_saveTo_22 : decode cX3_saveTo 22 = .ok (.bipush 6, 2) := by decide +kernel
theorem dX3_saveTo_24 : decode cX3_saveTo 24 = .ok (.invokestatic 52, 3) := by decide +kernel
theorem dX3_saveTo_27 : decode cX3_saveTo 27 = .ok (.aload_n 0, 1) := by decide +kernel
theorem dX3_saveTo_28 : decode cX3_saveTo 28 = .ok (.getfield 28, 3) := by decide +kernel
theorem dX3_saveTo_31 : decode cX3_saveTo 31 = .ok (.iconst 0, 1) := by decide +kernel
theorem dX3_saveTo_32 : decode cX3_saveTo 32 = .ok (.aload_n 1, 1) := by decide +kernel
theorem dX3_saveTo_33 : decode cX3_saveTo 33 = .ok (.iload_n 2, 1) := by decide +kernel
theorem dX3_saveTo_34 : decode cX3_saveTo 34 = .ok (.bipush 12, 2) := by decide +kernel
theorem dX3_saveTo_36 : decode cX3_saveTo 36 = .ok (.iadd, 1) := by decide +kernel
theorem dX3_saveTo_37 : decode cX3_saveTo 37 = .ok (.bipush 6, 2) := by decide +kernel
theorem dX3_saveTo_39 : decode cX3_saveTo 39 = .ok (.invokestatic 52, 3) := by decide +kernel
theorem dX3_saveTo_42 : decode cX3_saveTo 42 = .ok (.aload_n 0, 1) := by decide +kernel
theorem dX3_saveTo_43 : decode cX3_saveTo 43 = .ok (.getfield 31, 3) := by decide +kernel
theorem dX3_saveTo_46 : decode cX3_saveTo 46 = .ok (.iconst 0, 1) := by decide +kernel
theorem dX3_saveTo_47 : decode cX3_saveTo 47 = .ok (.aload_n 1, 1) := by decide +kernel
theorem dX3_saveTo_48 : decode cX3_saveTo 48 = .ok (.iload_n 2, 1) := by decide +kernel
theorem dX3_saveTo_49 : decode cX3_saveTo 49 = .ok (.bipush 18, 2) := by decide +kernel
theorem dX3_saveTo_51 : decode cX3_saveTo 51 = .ok (.iadd, 1) := by decide +kernel
theorem dX3_saveTo_52 : decode cX3_saveTo 52 = .ok (.bipush 6, 2) := by decide +kernel
theorem dX3_saveTo_54 : decode cX3_saveTo 54 = .ok (.invokestatic 52, 3) := by decide +kernel
theorem dX3_saveTo_57 : decode cX3_saveTo 57 = .ok (.aload_n 0, 1) := by decide +kernel
theorem dX3_saveTo_58 : decode cX3_saveTo 58 = .ok (.getfield 34, 3) := by decide +kernel
theorem dX3_saveTo_61 : decode cX3_saveTo 61 = .ok (.iconst 0, 1) := by decide +kernel
theorem dX3_saveTo_62 : decode cX3_saveTo 62 = .ok (.aload_n 1, 1) := by decide +kernel
theorem dX3_saveTo_63 : decode cX3_saveTo 63 = .ok (.iload_n 2, 1) := by decide +kernel
theorem dX3_saveTo_64 : decode cX3_saveTo 64 = .ok (.bipush 24, 2) := by decide +kernel
theorem dX3_saveTo_66 : decode cX3_saveTo 66 = .ok (.iadd, 1) := by decide +kernel
theorem dX3_saveTo_67 : decode cX3_saveTo 67 = .ok (.bipush 6, 2) := by decide +kernel
theorem dX3_saveTo_69 : decode cX3_saveTo 69 = .ok (.invokestatic 52, 3) := by decide +kernel
theorem dX3_saveTo_72 : decode cX3_saveTo 72 = .ok (.aload_n 0, 1) := by decide +kernel
theorem dX3_saveTo_73 : decode cX3_saveTo 73 = .ok (.getfield 37, 3) := by decide +kernel
theorem dX3_saveTo_76 : decode cX3_saveTo 76 = .ok (.iconst 0, 1) := by decide +kernel
theorem dX3_saveTo_77 : decode cX3_saveTo 77 = .ok (.aload_n 1, 1) := by decide +kernel
theorem dX3_saveTo_78 : decode cX3_saveTo 78 = .ok (.iload_n 2, 1) := by decide +kernel
theorem dX3_saveTo_79 : decode cX3_saveTo 79 = .ok (.bipush 30, 2) := by decide +kernel
theorem dX3_saveTo_81 : decode cX3_saveTo 81 = .ok (.iadd, 1) := by decide +kernel
theorem dX3_saveTo_82 : decode cX3_saveTo 82 = .ok (.bipush 12, 2) := by decide +kernel
theorem dX3_saveTo_84 : decode cX3_saveTo 84 = .ok (.invokestatic 52, 3) := by decide +kernel
theorem dX3_saveTo_87 : decode cX3_saveTo 87 = .ok (.aload_n 1, 1) := by decide +kernel
theorem dX3_saveTo_88 : decode cX3_saveTo 88 = .ok (.iload_n 2, 1) := by decide +kernel
theorem dX3_saveTo_89 : decode cX3_saveTo 89 = .ok (.bipush 45, 2) := by decide +kernel
theorem dX3_saveTo_91 : decode cX3_saveTo 91 = .ok (.iadd, 1) := by decide +kernel
theorem dX3_saveTo_92 : decode cX3_saveTo 92 = .ok (.iconst 3, 1) := by decide +kernel
theorem dX3_saveTo_93 : decode cX3_saveTo 93 = .ok (.isub, 1) := by decide +kernel
theorem dX3_saveTo_94 : decode cX3_saveTo 94 = .ok (.aload_n 0, 1) := by decide +kernel
theorem dX3_saveTo_95 : decode cX3_saveTo 95 = .ok (.getfield 9, 3) := by decide +kernel
theorem dX3_saveTo_98 : decode cX3_saveTo 98 = .ok (.iastore, 1) := by decide +kernel
theorem dX3_saveTo_99 : decode cX3_saveTo 99 = .ok (.aload_n 1, 1) := by decide +kernel
theorem dX3_saveTo_100 : decode cX3_saveTo 100 = .ok (.iload_n 2, 1) := by decide +kernel
theorem dX3_saveTo_101 : decode cX3_saveTo 101 = .ok (.bipush 45, 2) := by decide +kernel
theorem dX3_saveTo_103 : decode cX3_saveTo 103 = .ok (.iadd, 1) := by decide +kernel
theorem dX3_saveTo_104 : decode cX3_saveTo 104 = .ok (.iconst 2, 1) := by decide +kernel
theorem dX3_saveTo_105 : decode cX3_saveTo 105 = .ok (.isub, 1) := by decide +kernel
theorem dX3_saveTo_106 : decode cX3_saveTo 106 = .ok (.aload_n 0, 1) := by decide +kernel
theorem dX3_saveTo_107 : decode cX3_saveTo 107 = .ok (.getfield 15, 3) := by decide +kernel
theorem dX3_saveTo_110 : decode cX3_saveTo 110 = .ok (.iastore, 1) := by decide +kernel
theorem dX3_saveTo_111 : decode cX3_saveTo 111 = .ok (.aload_n 1, 1) := by decide +kernel
theorem dX3_saveTo_112 : decode cX3_saveTo 112 = .ok (.iload_n 2, 1) := by decide +kernel
theorem dX3_saveTo_113 : decode cX3_saveTo 113 = .ok (.bipush 45, 2) := by decide +kernel
theorem dX3_saveTo_115 : decode cX3_saveTo 115 = .ok (.iadd, 1) := by decide +kernel
theorem dX3_saveTo_116 : decode cX3_saveTo 116 = .ok (.iconst 1, 1) := by decide +kernel
theorem dX3_saveTo_117 : decode cX3_saveTo 117 = .ok (.isub, 1) := by decide +kernel
theorem dX3_saveTo_118 : decode cX3_saveTo 118 = .ok (.aload_n 0, 1) := by decide +kernel
theorem dX3_saveTo_119 : decode cX3_saveTo 119 = .ok (.getfield 18, 3) := by decide +kernel
theorem dX3_saveTo_122 : decode cX3_saveTo 122 = .ok (.iastore, 1) := by decide +kernel
theorem dX3_saveTo_123 : decode cX3_saveTo 123 = .ok (.return_, 1) := by decide +kernel
theorem dX3_loadFrom_0 : decode cX3_loadFrom 0 = .ok (.aload_n 1, 1) := by decide +kernel
theorem dX3_loadFrom_1 : decode cX3_loadFrom 1 = .ok (.iload_n 2, 1) := by decide +kernel
theorem dX3_loadFrom_2 : decode cX3_loadFrom 2 = .ok (.aload_n 0, 1) := by decide +kernel
theorem dX3_loadFrom_3 : decode cX3_loadFrom 3 = .ok (.getfield 21, 3) := by decide +kernel
theorem dX3_loadFrom_6 : decode cX3_loadFrom 6 = .ok (.iconst 0, 1) := by decide +kernel
theorem dX3_loadFrom_7 : decode cX3_loadFrom 7 = .ok (.bipush 6, 2) := by decide +kernel
theorem dX3_loadFrom_9 : decode cX3_loadFrom 9 = .ok (.invokestatic 52, 3) := by decide +kernel
theorem dX3_loadFrom_12 : decode cX3_loadFrom 12 = .ok (.aload_n 1, 1) := by decide +kernel
theorem dX3_loadFrom_13 : decode cX3_loadFrom 13 = .ok (.iload_n 2, 1) := by decide +kernel
theorem dX3_loadFrom_14 : decode cX3_loadFrom 14 = .ok (.bipush 6, 2) := by decide +kernel
theorem dX3_loadFrom_16 : decode cX3_loadFrom 16 = .ok (.iadd, 1) := by decide +kernel
theorem dX3_loadFrom_17 : decode cX3_loadFrom 17 = .ok (.aload_n 0, 1) := by decide +kernel
theorem dX3_loadFrom_18 : decode cX3_loadFrom 18 = .ok (.getfield 25, 3) := by decide +kernel
theorem dX3_loadFrom_21 : decode cX3_loadFrom 21 = .ok (.iconst 0, 1) := by decide +kernel
theorem dX3_loadFrom_22 : decode cX3_loadFrom 22 = .ok (.bipush 6, 2) := by decide +kernel
theorem dX3_loadFrom_24 : decode cX3_loadFrom 24 = .ok (.invokestatic 52, 3) := by decide +kernel
theorem dX3_loadFrom_27 : decode cX3_loadFrom 27 = .ok (.aload_n 1, 1) := by decide +kernel
theorem dX3_loadFrom_28 : decode cX3_loadFrom 28 = .ok (.iload_n 2, 1) := by decide +kernel
theorem dX3_loadFrom_29 : decode cX3_loadFrom 29 = .ok (.bipush 12, 2) := by decide +kernel
theorem dX3_loadFrom_31 : decode cX3_loadFrom 31 = .ok (.iadd, 1) := by decide +kernel
theorem dX3_loadFrom_32 : decode cX3_loadFrom 32 = .ok (.aload_n 0, 1) := by decide +kernel
theorem dX3_loadFrom_33 : decode cX3_loadFrom 33 = .ok (.getfield 28, 3) := by decide +kernel
theorem dX3_loadFrom_36 : decode cX3_loadFrom 36 = .ok (.iconst 0, 1) := by decide +kernel
theorem dX3_loadFrom_37 : decode cX3_loadFrom 37 = .ok (.bipush 6, 2) := by decide +kernel
theorem dX3_loadFrom_39 : decode cX3_loadFrom 39 = .ok (.invokestatic 52, 3) := by decide +kernel
theorem dX3_loadFrom_42 : decode cX3_loadFrom 42 = .ok (.aload_n 1, 1) := by decide +kernel
theorem dX3_loadFrom_43 : decode cX3_loadFrom 43 = .ok (.iload_n 2, 1) := by decide +kernel
theorem dX3_loadFrom_44 : decode cX3_loadFrom 44 = .ok (.bipush 18, 2) := by decide +kernel
theorem dX3_loadFrom_46 : decode cX3_loadFrom 46 = .ok (.iadd, 1) := by decide +kernel
theorem dX3_loadFrom_47 : decode cX3_loadFrom 47 = .ok (.aload_n 0, 1) := by decide +kernel
theorem dX3_loadFrom_48 : decode cX3_loadFrom 48 = .ok (.getfield 31, 3) := by decide +kernel
theorem dX3_loadFrom_51 : decode cX3_loadFrom 51 = .ok (.iconst 0, 1) := by decide +kernel
theorem dX3_loadFrom_52 : decode cX3_loadFrom 52 = .ok (.bipush 6, 2) := by decide +kernel
theorem dX3_loadFrom_54 : decode cX3_loadFrom 54 = .ok (.invokestatic 52, 3) := by decide +kernel
theorem dX3_loadFrom_57 : decode cX3_loadFrom 57 = .ok (.aload_n 1, 1) := by decide +kernel
theorem dX3_loadFrom_58 : decode cX3_loadFrom 58 = .ok (.iload_n 2, 1) := by decide +kernel
theorem dX3_loadFrom_59 : decode cX3_loadFrom 59 = .ok (.bipush 24, 2) := by decide +kernel
theorem dX3_loadFrom_61 : decode cX3_loadFrom 61 = .ok (.iadd, 1) := by decide +kernel
theorem dX3_loadFrom_62 : decode cX3_loadFrom 62 = .ok (.aload_n 0, 1) := by decide +kernel
theorem dX3_loadFrom_63 : decode cX3_loadFrom 63 = .ok (.getfield 34, 3) := by decide +kernel
theorem dX3_loadFrom_66 : decode cX3_loadFrom 66 = .ok (.iconst 0, 1) := by decide +kernel
theorem dX3_loadFrom_67 : decode cX3_loadFrom 67 = .ok (.bipush 6, 2) := by decide +kernel
theorem dX3_loadFrom_69 : decode cX3_loadFrom 69 = .ok (.invokestatic 52, 3) := by decide +kernel
theorem dX3_loadFrom_72 : decode cX3_loadFrom 72 = .ok (.aload_n 1, 1) := by decide +kernel
theorem dX3_loadFrom_73 : decode cX3_loadFrom 73 = .ok (.iload_n 2, 1) := by decide +kernel
theorem dX3_loadFrom_74 : decode cX3_loadFrom 74 = .ok (.bipush 30, 2) := by decide +kernel
theorem dX3_loadFrom_76 : decode cX3_loadFrom 76 = .ok (.iadd, 1) := by decide +kernel
theorem dX3_loadFrom_77 : decode cX3_loadFrom 77 = .ok (.aload_n 0, 1) := by decide +kernel
theorem dX3_loadFrom_78 : decode cX3_loadFrom 78 = .ok (.getfield 37, 3) := by decide +kernel
theorem dX3_loadFrom_81 : decode cX3_loadFrom 81 = .ok (.iconst 0, 1) := by decide +kernel
theorem dX3_loadFrom_82 : decode cX3_loadFrom 82 = .ok (.bipush 12, 2) := by decide +kernel
theorem dX3_loadFrom_84 : decode cX3_loadFrom 84 = .ok (.invokestatic 52, 3) := by decide +kernel
theorem dX3_loadFrom_87 : decode cX3_loadFrom 87 = .ok (.aload_n 0, 1) := by decide +kernel
theorem dX3_loadFrom_88 : decode cX3_loadFrom 88 = .ok (.aload_n 1, 1) := by decide +kernel
theorem dX3_loadFrom_89 : decode cX3_loadFrom 89 = .ok (.iload_n 2, 1) := by decide +kernel
theorem dX3_loadFrom_90 : decode cX3_loadFrom 90 = .ok (.bipush 45, 2) := by decide +kernel
theorem dX3_loadFrom_92 : decode cX3_loadFrom 92 = .ok (.iadd, 1) := by decide +kernel
theorem dX3_loadFrom_93 : decode cX3_loadFrom 93 = .ok (.iconst 3, 1) := by decide +kernel
theorem dX3_loadFrom_94 : decode cX3_loadFrom 94 = .ok (.isub, 1) := by decide +kernel
theorem dX3_loadFrom_95 : decode cX3_loadFrom 95 = .ok (.iaload, 1) := by decide +kernel
theorem dX3_loadFrom_96 : decode cX3_loadFrom 96 = .ok (.putfield 9, 3) := by decide +kernel
theorem dX3_loadFrom_99 : decode cX3_loadFrom 99 = .ok (.aload_n 0, 1) := by decide +kernel
theorem dX3_loadFrom_100 : decode cX3_loadFrom 100 = .ok (.aload_n 1, 1) := by decide +kernel
theorem dX3_loadFrom_101 : decode cX3_loadFrom 101 = .ok (.iload_n 2, 1) := by decide +kernel
theorem dX3_loadFrom_102 : decode cX3_loadFrom 102 = .ok (.bipush 45, 2) := by decide +kernel
theorem dX3_loadFrom_104 : decode cX3_loadFrom 104 = .ok (.iadd, 1) := by decide +kernel
theorem dX3_loadFrom_105 : decode cX3_loadFrom 105 = .ok (.iconst 2, 1) := by decide +kernel
theorem dX3_loadFrom_106 : decode cX3_loadFrom 106 = .ok (.isub, 1) := by decide +kernel
theorem dX3_loadFrom_107 : decode cX3_loadFrom 107 = .ok (.iaload, 1) := by decide +kernel
theorem dX3_loadFrom_108 : decode cX3_loadFrom 108 = .ok (.putfield 15, 3) := by decide +kernel
theorem dX3_loadFrom_111 : decode cX3_loadFrom 111 = .ok (.aload_n 0, 1) := by decide +kernel
theorem dX3_loadFrom_112 : decode cX3_loadFrom 112 = .ok (.aload_n 1, 1) := by decide +kernel
theorem dX3_loadFrom_113 : decode cX3_loadFrom 113 = .ok (.iload_n 2, 1) := by decide +kernel
theorem dX3_loadFrom_114 : decode cX3_loadFrom 114 = .ok (.bipush 45, 2) := by decide +kernel
theorem dX3_loadFrom_116 : decode cX3_loadFrom 116 = .ok (.iadd, 1) := by decide +kernel
theorem dX3_loadFrom_117 : decode cX3_loadFrom 117 = .ok (.iconst 1, 1) := by decide +kernel
theorem dX3_loadFrom_118 : decode cX3_loadFrom 118 = .ok (.isub, 1) := by decide +kernel
theorem dX3_loadFrom_119 : decode cX3_loadFrom 119 = .ok (.iaload, 1) := by decide +kernel
theorem dX3_loadFrom_120 : decode cX3_loadFrom 120 = .ok (.putfield 18, 3) := by decide +kernel
theorem dX3_loadFrom_123 : decode cX3_loadFrom 123 = .ok (.return_, 1) := by decide +kernel
theorem dX3_hasBought_0 : decode cX3_hasBought 0 = .ok (.aload_n 0, 1) := by decide +kernel
theorem dX3_hasBought_1 : decode cX3_hasBought 1 = .ok (.getfield 31, 3) := by decide +kernel
theorem dX3_hasBought_4 : decode cX3_hasBought 4 = .ok (.iload_n 1, 1) := by decide +kernel
theorem dX3_hasBought_5 : decode cX3_hasBought 5 = .ok (.iaload, 1) := by decide +kernel
theorem dX3_hasBought_6 : decode cX3_hasBought 6 = .ok (.iconst (-1), 1) := by decide +kernel
theorem dX3_hasBought_7 : decode cX3_hasBought 7 = .ok (.if_icmp .eq 7, 3) := by decide +kernel
theorem dX3_hasBought_10 : decode cX3_hasBought 10 = .ok (.iconst 1, 1) := by decide +kernel
theorem dX3_hasBought_11 : decode cX3_hasBought 11 = .ok (.goto 4, 3) := by decide +kernel
theorem dX3_hasBought_14 : decode cX3_hasBought 14 = .ok (.iconst 0, 1) := by decide +kernel
theorem dX3_hasBought_15 : decode cX3_hasBought 15 = .ok (.ireturn, 1) := by decide +kernel
theorem dX3_boughtBits_0 : decode cX3_boughtBits 0 = .ok (.iconst 0, 1) := by decide +kernel
theorem dX3_boughtBits_1 : decode cX3_boughtBits 1 = .ok (.istore_n 1, 1) := by decide +kernel
theorem dX3_boughtBits_2 : decode cX3_boughtBits 2 = .ok (.iconst 0, 1) := by decide +kernel
theorem dX3_boughtBits_3 : decode cX3_boughtBits 3 = .ok (.istore_n 2, 1) := by decide +kernel
theorem dX3_boughtBits_4 : decode cX3_boughtBits 4 = .ok (.iload_n 2, 1) := by decide +kernel
theorem dX3_boughtBits_5 : decode cX3_boughtBits 5 = .ok (.aload_n 0, 1) := by decide +kernel
theorem dX3_boughtBits_6 : decode cX3_boughtBits 6 = .ok (.getfield 40, 3) := by decide +kernel
theorem dX3_boughtBits_9 : decode cX3_boughtBits 9 = .ok (.getfield 58, 3) := by decide +kernel
theorem dX3_boughtBits_12 : decode cX3_boughtBits 12 = .ok (.if_icmp .ge 25, 3) := by decide +kernel
theorem dX3_boughtBits_15 : decode cX3_boughtBits 15 = .ok (.aload_n 0, 1) := by decide +kernel
theorem dX3_boughtBits_16 : decode cX3_boughtBits 16 = .ok (.getfield 31, 3) := by decide +kernel
theorem dX3_boughtBits_19 : decode cX3_boughtBits 19 = .ok (.iload_n 2, 1) := by decide +kernel
theorem dX3_boughtBits_20 : decode cX3_boughtBits 20 = .ok (.iaload, 1) := by decide +kernel
theorem dX3_boughtBits_21 : decode cX3_boughtBits 21 = .ok (.iconst (-1), 1) := by decide +kernel
theorem dX3_boughtBits_22 : decode cX3_boughtBits 22 = .ok (.if_icmp .eq 9, 3) := by decide +kernel
theorem dX3_boughtBits_25 : decode cX3_boughtBits 25 = .ok (.iload_n 1, 1) := by decide +kernel
theorem dX3_boughtBits_26 : decode cX3_boughtBits 26 = .ok (.iconst 1, 1) := by decide +kernel
theorem dX3_boughtBits_27 : decode cX3_boughtBits 27 = .ok (.iload_n 2, 1) := by decide +kernel
theorem dX3_boughtBits_28 : decode cX3_boughtBits 28 = .ok (.ishl, 1) := by decide +kernel
theorem dX3_boughtBits_29 : decode cX3_boughtBits 29 = .ok (.ior, 1) := by decide +kernel
theorem dX3_boughtBits_30 : decode cX3_boughtBits 30 = .ok (.istore_n 1, 1) := by decide +kernel
theorem dX3_boughtBits_31 : decode cX3_boughtBits 31 = .ok (.iinc 2 1, 3) := by decide +kernel
theorem dX3_boughtBits_34 : decode cX3_boughtBits 34 = .ok (.goto (-30), 3) := by decide +kernel
theorem dX3_boughtBits_37 : decode cX3_boughtBits 37 = .ok (.iload_n 1, 1) := by decide +kernel
theorem dX3_boughtBits_38 : decode cX3_boughtBits 38 = .ok (.ireturn, 1) := by decide +kernel
theorem dX3_stayingBits_0 : decode cX3_stayingBits 0 = .ok (.aload_n 0, 1) := by decide +kernel
theorem dX3_stayingBits_1 : decode cX3_stayingBits 1 = .ok (.getfield 40, 3) := by decide +kernel
theorem dX3_stayingBits_4 : decode cX3_stayingBits 4 = .ok (.getfield 58, 3) := by decide +kernel
theorem dX3_stayingBits_7 : decode cX3_stayingBits 7 = .ok (.invokestatic 61, 3) := by decide +kernel
theorem dX3_stayingBits_10 : decode cX3_stayingBits 10 = .ok (.aload_n 0, 1) := by decide +kernel
theorem dX3_stayingBits_11 : decode cX3_stayingBits 11 = .ok (.invokevirtual 65, 3) := by decide +kernel
theorem dX3_stayingBits_14 : decode cX3_stayingBits 14 = .ok (.iconst (-1), 1) := by decide +kernel
theorem dX3_stayingBits_15 : decode cX3_stayingBits 15 = .ok (.ixor, 1) := by decide +kernel
theorem dX3_stayingBits_16 : decode cX3_stayingBits 16 = .ok (.iand, 1) := by decide +kernel
theorem dX3_stayingBits_17 : decode cX3_stayingBits 17 = .ok (.ireturn, 1) := by decide +kernel
theorem dX3_leftBy_0 : decode cX3_leftBy 0 = .ok (.aload_n 0, 1) := by decide +kernel
theorem dX3_leftBy_1 : decode cX3_leftBy 1 = .ok (.getfield 40, 3) := by decide +kernel
theorem dX3_leftBy_4 : decode cX3_leftBy 4 = .ok (.getfield 69, 3) := by decide +kernel
theorem dX3_leftBy_7 : decode cX3_leftBy 7 = .ok (.invokestatic 61, 3) := by decide +kernel
theorem dX3_leftBy_10 : decode cX3_leftBy 10 = .ok (.aload_n 0, 1) := by decide +kernel
theorem dX3_leftBy_11 : decode cX3_leftBy 11 = .ok (.getfield 40, 3) := by decide +kernel
theorem dX3_leftBy_14 : decode cX3_leftBy 14 = .ok (.iload_n 1, 1) := by decide +kernel
theorem dX3_leftBy_15 : decode cX3_leftBy 15 = .ok (.invokevirtual 72, 3) := by decide +kernel
theorem dX3_leftBy_18 : decode cX3_leftBy 18 = .ok (.iconst (-1), 1) := by decide +kernel
theorem dX3_leftBy_19 : decode cX3_leftBy 19 = .ok (.ixor, 1) := by decide +kernel
theorem dX3_leftBy_20 : decode cX3_leftBy 20 = .ok (.iand, 1) := by decide +kernel
theorem dX3_leftBy_21 : decode cX3_leftBy 21 = .ok (.ireturn, 1) := by decide +kernel
theorem dX3_coinsOfAll_0 : decode cX3_coinsOfAll 0 = .ok (.iconst 0, 1) := by decide +kernel
theorem dX3_coinsOfAll_1 : decode cX3_coinsOfAll 1 = .ok (.istore_n 1, 1) := by decide +kernel
theorem dX3_coinsOfAll_2 : decode cX3_coinsOfAll 2 = .ok (.iconst 0, 1) := by decide +kernel
theorem dX3_coinsOfAll_3 : decode cX3_coinsOfAll 3 = .ok (.istore_n 2, 1) := by decide +kernel
theorem dX3_coinsOfAll_4 : decode cX3_coinsOfAll 4 = .ok (.iload_n 2, 1) := by decide +kernel
theorem dX3_coinsOfAll_5 : decode cX3_coinsOfAll 5 = .ok (.aload_n 0, 1) := by decide +kernel
theorem dX3_coinsOfAll_6 : decode cX3_coinsOfAll 6 = .ok (.getfield 40, 3) := by decide +kernel
theorem dX3_coinsOfAll_9 : decode cX3_coinsOfAll 9 = .ok (.getfield 58, 3) := by decide +kernel
theorem dX3_coinsOfAll_12 : decode cX3_coinsOfAll 12 = .ok (.if_icmp .ge 18, 3) := by decide +kernel
theorem dX3_coinsOfAll_15 : decode cX3_coinsOfAll 15 = .ok (.iload_n 1, 1) := by decide +kernel
theorem dX3_coinsOfAll_16 : decode cX3_coinsOfAll 16 = .ok (.aload_n 0, 1) := by decide +kernel
theorem dX3_coinsOfAll_17 : decode cX3_coinsOfAll 17 = .ok (.getfield 21, 3) := by decide +kernel
theorem dX3_coinsOfAll_20 : decode cX3_coinsOfAll 20 = .ok (.iload_n 2, 1) := by decide +kernel
theorem dX3_coinsOfAll_21 : decode cX3_coinsOfAll 21 = .ok (.iaload, 1) := by decide +kernel
theorem dX3_coinsOfAll_22 : decode cX3_coinsOfAll 22 = .ok (.iadd, 1) := by decide +kernel
theorem dX3_coinsOfAll_23 : decode cX3_coinsOfAll 23 = .ok (.istore_n 1, 1) := by decide +kernel
theorem dX3_coinsOfAll_24 : decode cX3_coinsOfAll 24 = .ok (.iinc 2 1, 3) := by decide +kernel
theorem dX3_coinsOfAll_27 : decode cX3_coinsOfAll 27 = .ok (.goto (-23), 3) := by decide +kernel
theorem dX3_coinsOfAll_30 : decode cX3_coinsOfAll 30 = .ok (.iload_n 1, 1) := by decide +kernel
theorem dX3_coinsOfAll_31 : decode cX3_coinsOfAll 31 = .ok (.ireturn, 1) := by decide +kernel
theorem dX3_daysOfAll_0 : decode cX3_daysOfAll 0 = .ok (.aload_n 0, 1) := by decide +kernel
theorem dX3_daysOfAll_1 : decode cX3_daysOfAll 1 = .ok (.aload_n 0, 1) := by decide +kernel
theorem dX3_daysOfAll_2 : decode cX3_daysOfAll 2 = .ok (.invokevirtual 75, 3) := by decide +kernel
theorem dX3_daysOfAll_5 : decode cX3_daysOfAll 5 = .ok (.aload_n 0, 1) := by decide +kernel
theorem dX3_daysOfAll_6 : decode cX3_daysOfAll 6 = .ok (.getfield 40, 3) := by decide +kernel
theorem dX3_daysOfAll_9 : decode cX3_daysOfAll 9 = .ok (.getfield 58, 3) := by decide +kernel
theorem dX3_daysOfAll_12 : decode cX3_daysOfAll 12 = .ok (.invokestatic 61, 3) := by decide +kernel
theorem dX3_daysOfAll_15 : decode cX3_daysOfAll 15 = .ok (.invokevirtual 78, 3) := by decide +kernel
theorem dX3_daysOfAll_18 : decode cX3_daysOfAll 18 = .ok (.ireturn, 1) := by decide +kernel
theorem dX3_mostDays_0 : decode cX3_mostDays 0 = .ok (.iconst 0, 1) := by decide +kernel
theorem dX3_mostDays_1 : decode cX3_mostDays 1 = .ok (.istore_n 1, 1) := by decide +kernel
theorem dX3_mostDays_2 : decode cX3_mostDays 2 = .ok (.iconst 0, 1) := by decide +kernel
theorem dX3_mostDays_3 : decode cX3_mostDays 3 = .ok (.istore_n 2, 1) := by decide +kernel
theorem dX3_mostDays_4 : decode cX3_mostDays 4 = .ok (.iload_n 2, 1) := by decide +kernel
theorem dX3_mostDays_5 : decode cX3_mostDays 5 = .ok (.aload_n 0, 1) := by decide +kernel
theorem dX3_mostDays_6 : decode cX3_mostDays 6 = .ok (.getfield 40, 3) := by decide +kernel
theorem dX3_mostDays_9 : decode cX3_mostDays 9 = .ok (.getfield 58, 3) := by decide +kernel
theorem dX3_mostDays_12 : decode cX3_mostDays 12 = .ok (.if_icmp .ge 20, 3) := by decide +kernel
theorem dX3_mostDays_15 : decode cX3_mostDays 15 = .ok (.iload_n 1, 1) := by decide +kernel
theorem dX3_mostDays_16 : decode cX3_mostDays 16 = .ok (.aload_n 0, 1) := by decide +kernel
theorem dX3_mostDays_17 : decode cX3_mostDays 17 = .ok (.getfield 25, 3) := by decide +kernel
theorem dX3_mostDays_20 : decode cX3_mostDays 20 = .ok (.iload_n 2, 1) := by decide +kernel
theorem dX3_mostDays_21 : decode cX3_mostDays 21 = .ok (.iaload, 1) := by decide +kernel
theorem dX3_mostDays_22 : decode cX3_mostDays 22 = .ok (.invokestatic 82, 3) := by decide +kernel
theorem dX3_mostDays_25 : decode cX3_mostDays 25 = .ok (.istore_n 1, 1) := by decide +kernel
theorem dX3_mostDays_26 : decode cX3_mostDays 26 = .ok (.iinc 2 1, 3) := by decide +kernel
theorem dX3_mostDays_29 : decode cX3_mostDays 29 = .ok (.goto (-25), 3) := by decide +kernel
theorem dX3_mostDays_32 : decode cX3_mostDays 32 = .ok (.iload_n 1, 1) := by decide +kernel
theorem dX3_mostDays_33 : decode cX3_mostDays 33 = .ok (.ireturn, 1) := by decide +kernel
theorem dX3_daysUpTo_0 : decode cX3_daysUpTo 0 = .ok (.iconst 0, 1) := by decide +kernel
theorem dX3_daysUpTo_1 : decode cX3_daysUpTo 1 = .ok (.istore_n 3, 1) := by decide +kernel
theorem dX3_daysUpTo_2 : decode cX3_daysUpTo 2 = .ok (.iconst 0, 1) := by decide +kernel
theorem dX3_daysUpTo_3 : decode cX3_daysUpTo 3 = .ok (.istore 4, 2) := by decide +kernel
theorem dX3_daysUpTo_5 : decode cX3_daysUpTo 5 = .ok (.iload 4, 2) := by decide +kernel
theorem dX3_daysUpTo_7 : decode cX3_daysUpTo 7 = .ok (.aload_n 0, 1) := by decide +kernel
theorem dX3_daysUpTo_8 : decode cX3_daysUpTo 8 = .ok (.getfield 40, 3) := by decide +kernel
theorem dX3_daysUpTo_11 : decode cX3_daysUpTo 11 = .ok (.getfield 58, 3) := by decide +kernel
theorem dX3_daysUpTo_14 : decode cX3_daysUpTo 14 = .ok (.if_icmp .ge 32, 3) := by decide +kernel
theorem dX3_daysUpTo_17 : decode cX3_daysUpTo 17 = .ok (.iload_n 2, 1) := by decide +kernel
theorem dX3_daysUpTo_18 : decode cX3_daysUpTo 18 = .ok (.iload 4, 2) := by decide +kernel
theorem dX3_daysUpTo_20 : decode cX3_daysUpTo 20 = .ok (.ishr, 1) := by decide +kernel
theorem dX3_daysUpTo_21 : decode cX3_daysUpTo 21 = .ok (.iconst 1, 1) := by decide +kernel
theorem dX3_daysUpTo_22 : decode cX3_daysUpTo 22 = .ok (.iand, 1) := by decide +kernel
theorem dX3_daysUpTo_23 : decode cX3_daysUpTo 23 = .ok (.ifCond .eq 17, 3) := by decide +kernel
theorem dX3_daysUpTo_26 : decode cX3_daysUpTo 26 = .ok (.iload_n 3, 1) := by decide +kernel
theorem dX3_daysUpTo_27 : decode cX3_daysUpTo 27 = .ok (.iload_n 1, 1) := by decide +kernel
theorem dX3_daysUpTo_28 : decode cX3_daysUpTo 28 = .ok (.aload_n 0, 1) := by decide +kernel
theorem dX3_daysUpTo_29 : decode cX3_daysUpTo 29 = .ok (.getfield 25, 3) := by decide +kernel
theorem dX3_daysUpTo_32 : decode cX3_daysUpTo 32 = .ok (.iload 4, 2) := by decide +kernel
theorem dX3_daysUpTo_34 : decode cX3_daysUpTo 34 = .ok (.iaload, 1) := by decide +kernel
theorem dX3_daysUpTo_35 : decode cX3_daysUpTo 35 = .ok (.invokestatic 87, 3) := by decide +kernel
theorem dX3_daysUpTo_38 : decode cX3_daysUpTo 38 = .ok (.iadd, 1) := by decide +kernel
theorem dX3_daysUpTo_39 : decode cX3_daysUpTo 39 = .ok (.istore_n 3, 1) := by decide +kernel
theorem dX3_daysUpTo_40 : decode cX3_daysUpTo 40 = .ok (.iinc 4 1, 3) := by decide +kernel
theorem dX3_daysUpTo_43 : decode cX3_daysUpTo 43 = .ok (.goto (-38), 3) := by decide +kernel
theorem dX3_daysUpTo_46 : decode cX3_daysUpTo 46 = .ok (.iload_n 3, 1) := by decide +kernel
theorem dX3_daysUpTo_47 : decode cX3_daysUpTo 47 = .ok (.ireturn, 1) := by decide +kernel
theorem dX3_isDone_0 : decode cX3_isDone 0 = .ok (.aload_n 0, 1) := by decide +kernel
theorem dX3_isDone_1 : decode cX3_isDone 1 = .ok (.getfield 18, 3) := by decide +kernel
theorem dX3_isDone_4 : decode cX3_isDone 4 = .ok (.iload_n 1, 1) := by decide +kernel
theorem dX3_isDone_5 : decode cX3_isDone 5 = .ok (.ishr, 1) := by decide +kernel
theorem dX3_isDone_6 : decode cX3_isDone 6 = .ok (.iconst 1, 1) := by decide +kernel
theorem dX3_isDone_7 : decode cX3_isDone 7 = .ok (.iand, 1) := by decide +kernel
theorem dX3_isDone_8 : decode cX3_isDone 8 = .ok (.ifCond .eq 7, 3) := by decide +kernel
theorem dX3_isDone_11 : decode cX3_isDone 11 = .ok (.iconst 1, 1) := by decide +kernel
theorem dX3_isDone_12 : decode cX3_isDone 12 = .ok (.goto 4, 3) := by decide +kernel
theorem dX3_isDone_15 : decode cX3_isDone 15 = .ok (.iconst 0, 1) := by decide +kernel
theorem dX3_isDone_16 : decode cX3_isDone 16 = .ok (.ireturn, 1) := by decide +kernel
theorem dX3_isAhead_0 : decode cX3_isAhead 0 = .ok (.aload_n 0, 1) := by decide +kernel
theorem dX3_isAhead_1 : decode cX3_isAhead 1 = .ok (.iload_n 1, 1) := by decide +kernel
theorem dX3_isAhead_2 : decode cX3_isAhead 2 = .ok (.invokevirtual 90, 3) := by decide +kernel
theorem dX3_isAhead_5 : decode cX3_isAhead 5 = .ok (.ifCond .ne 20, 3) := by decide +kernel
theorem dX3_isAhead_8 : decode cX3_isAhead 8 = .ok (.aload_n 0, 1) := by decide +kernel
theorem dX3_isAhead_9 : decode cX3_isAhead 9 = .ok (.getfield 37, 3) := by decide +kernel
theorem dX3_isAhead_12 : decode cX3_isAhead 12 = .ok (.iload_n 1, 1) := by decide +kernel
theorem dX3_isAhead_13 : decode cX3_isAhead 13 = .ok (.iaload, 1) := by decide +kernel
theorem dX3_isAhead_14 : decode cX3_isAhead 14 = .ok (.aload_n 0, 1) := by decide +kernel
theorem dX3_isAhead_15 : decode cX3_isAhead 15 = .ok (.getfield 9, 3) := by decide +kernel
theorem dX3_isAhead_18 : decode cX3_isAhead 18 = .ok (.if_icmp .lt 7, 3) := by decide +kernel
theorem dX3_isAhead_21 : decode cX3_isAhead 21 = .ok (.iconst 1, 1) := by decide +kernel
theorem dX3_isAhead_22 : decode cX3_isAhead 22 = .ok (.goto 4, 3) := by decide +kernel
theorem dX3_isAhead_25 : decode cX3_isAhead 25 = .ok (.iconst 0, 1) := by decide +kernel
theorem dX3_isAhead_26 : decode cX3_isAhead 26 = .ok (.ireturn, 1) := by decide +kernel
theorem dX3_fallsNow_0 : decode cX3_fallsNow 0 = .ok (.aload_n 0, 1) := by decide +kernel
theorem dX3_fallsNow_1 : decode cX3_fallsNow 1 = .ok (.getfield 37, 3) := by decide +kernel
theorem dX3_fallsNow_4 : decode cX3_fallsNow 4 = .ok (.iload_n 1, 1) := by decide +kernel
theorem dX3_fallsNow_5 : decode cX3_fallsNow 5 = .ok (.iaload, 1) := by decide +kernel
theorem dX3_fallsNow_6 : decode cX3_fallsNow 6 = .ok (.aload_n 0, 1) := by decide +kernel
theorem dX3_fallsNow_7 : decode cX3_fallsNow 7 = .ok (.getfield 9, 3) := by decide +kernel
theorem dX3_fallsNow_10 : decode cX3_fallsNow 10 = .ok (.if_icmp .ne 18, 3) := by decide +kernel
theorem dX3_fallsNow_13 : decode cX3_fallsNow 13 = .ok (.aload_n 0, 1) := by decide +kernel
theorem dX3_fallsNow_14 : decode cX3_fallsNow 14 = .ok (.getfield 18, 3) := by decide +kernel
theorem dX3_fallsNow_17 : decode cX3_fallsNow 17 = .ok (.iload_n 1, 1) := by decide +kernel
theorem dX3_fallsNow_18 : decode cX3_fallsNow 18 = .ok (.ishr, 1) := by decide +kernel
theorem dX3_fallsNow_19 : decode cX3_fallsNow 19 = .ok (.iconst 1, 1) := by decide +kernel
theorem dX3_fallsNow_20 : decode cX3_fallsNow 20 = .ok (.iand, 1) := by decide +kernel
theorem dX3_fallsNow_21 : decode cX3_fallsNow 21 = .ok (.ifCond .ne 7, 3) := by decide +kernel
theorem dX3_fallsNow_24 : decode cX3_fallsNow 24 = .ok (.iconst 1, 1) := by decide +kernel
theorem dX3_fallsNow_25 : decode cX3_fallsNow 25 = .ok (.goto 4, 3) := by decide +kernel
theorem dX3_fallsNow_28 : decode cX3_fallsNow 28 = .ok (.iconst 0, 1) := by decide +kernel
theorem dX3_fallsNow_29 : decode cX3_fallsNow 29 = .ok (.ireturn, 1) := by decide +kernel
theorem dX3_openTasksOn_0 : decode cX3_openTasksOn 0 = .ok (.iconst 0, 1) := by decide +kernel
theorem dX3_openTasksOn_1 : decode cX3_openTasksOn 1 = .ok (.istore_n 2, 1) := by decide +kernel
theorem dX3_openTasksOn_2 : decode cX3_openTasksOn 2 = .ok (.iconst 0, 1) := by decide +kernel
theorem dX3_openTasksOn_3 : decode cX3_openTasksOn 3 = .ok (.istore_n 3, 1) := by decide +kernel
theorem dX3_openTasksOn_4 : decode cX3_openTasksOn 4 = .ok (.iload_n 3, 1) := by decide +kernel
theorem dX3_openTasksOn_5 : decode cX3_openTasksOn 5 = .ok (.aload_n 0, 1) := by decide +kernel
theorem dX3_openTasksOn_6 : decode cX3_openTasksOn 6 = .ok (.getfield 40, 3) := by decide +kernel
theorem dX3_openTasksOn_9 : decode cX3_openTasksOn 9 = .ok (.getfield 94, 3) := by decide +kernel
theorem dX3_openTasksOn_12 : decode cX3_openTasksOn 12 = .ok (.if_icmp .ge 30, 3) := by decide +kernel
theorem dX3_openTasksOn_15 : decode cX3_openTasksOn 15 = .ok (.aload_n 0, 1) := by decide +kernel
theorem dX3_openTasksOn_16 : decode cX3_openTasksOn 16 = .ok (.iload_n 3, 1) := by decide +kernel
theorem dX3_openTasksOn_17 : decode cX3_openTasksOn 17 = .ok (.invokevirtual 90, 3) := by decide +kernel
theorem dX3_openTasksOn_20 : decode cX3_openTasksOn 20 = .ok (.ifCond .ne 16, 3) := by decide +kernel
theorem dX3_openTasksOn_23 : decode cX3_openTasksOn 23 = .ok (.aload_n 0, 1) := by decide +kernel
theorem dX3_openTasksOn_24 : decode cX3_openTasksOn 24 = .ok (.getfield 37, 3) := by decide +kernel
theorem dX3_openTasksOn_27 : decode cX3_openTasksOn 27 = .ok (.iload_n 3, 1) := by decide +kernel
theorem dX3_openTasksOn_28 : decode cX3_openTasksOn 28 = .ok (.iaload, 1) := by decide +kernel
theorem dX3_openTasksOn_29 : decode cX3_openTasksOn 29 = .ok (.iload_n 1, 1) := by decide +kernel
theorem dX3_openTasksOn_30 : decode cX3_openTasksOn 30 = .ok (.if_icmp .ne 6, 3) := by decide +kernel
theorem dX3_openTasksOn_33 : decode cX3_openTasksOn 33 = .ok (.iinc 2 1, 3) := by decide +kernel
theorem dX3_openTasksOn_36 : decode cX3_openTasksOn 36 = .ok (.iinc 3 1, 3) := by decide +kernel
theorem dX3_openTasksOn_39 : decode cX3_openTasksOn 39 = .ok (.goto (-35), 3) := by decide +kernel
theorem dX3_openTasksOn_42 : decode cX3_openTasksOn 42 = .ok (.iload_n 2, 1) := by decide +kernel
theorem dX3_openTasksOn_43 : decode cX3_openTasksOn 43 = .ok (.ireturn, 1) := by decide +kernel
theorem dX3_busyBits_0 : decode cX3_busyBits 0 = .ok (.iconst 0, 1) := by decide +kernel
theorem dX3_busyBits_1 : decode cX3_busyBits 1 = .ok (.istore_n 3, 1) := by decide +kernel
theorem dX3_busyBits_2 : decode cX3_busyBits 2 = .ok (.iconst 0, 1) := by decide +kernel
theorem dX3_busyBits_3 : decode cX3_busyBits 3 = .ok (.istore 4, 2) := by decide +kernel
theorem dX3_busyBits_5 : decode cX3_busyBits 5 = .ok (.iload 4, 2) := by decide +kernel
theorem dX3_busyBits_7 : decode cX3_busyBits 7 = .ok (.aload_n 0, 1) := by decide +kernel
theorem dX3_busyBits_8 : decode cX3_busyBits 8 = .ok (.getfield 40, 3) := by decide +kernel
theorem dX3_busyBits_11 : decode cX3_busyBits 11 = .ok (.getfield 94, 3) := by decide +kernel
theorem dX3_busyBits_14 : decode cX3_busyBits 14 = .ok (.if_icmp .ge 64, 3) := by decide +kernel
theorem dX3_busyBits_17 : decode cX3_busyBits 17 = .ok (.aload_n 0, 1) := by decide +kernel
theorem dX3_busyBits_18 : decode cX3_busyBits 18 = .ok (.getfield 37, 3) := by decide +kernel
theorem dX3_busyBits_21 : decode cX3_busyBits 21 = .ok (.iload 4, 2) := by decide +kernel
theorem dX3_busyBits_23 : decode cX3_busyBits 23 = .ok (.iaload, 1) := by decide +kernel
theorem dX3_busyBits_24 : decode cX3_busyBits 24 = .ok (.aload_n 0, 1) := by decide +kernel
theorem dX3_busyBits_25 : decode cX3_busyBits 25 = .ok (.getfield 9, 3) := by decide +kernel
theorem dX3_busyBits_28 : decode cX3_busyBits 28 = .ok (.isub, 1) := by decide +kernel
theorem dX3_busyBits_29 : decode cX3_busyBits 29 = .ok (.istore 5, 2) := by decide +kernel
theorem dX3_busyBits_31 : decode cX3_busyBits 31 = .ok (.aload_n 0, 1) := by decide +kernel
theorem dX3_busyBits_32 : decode cX3_busyBits 32 = .ok (.getfield 40, 3) := by decide +kernel
theorem dX3_busyBits_35 : decode cX3_busyBits 35 = .ok (.getfield 97, 3) := by decide +kernel
theorem dX3_busyBits_38 : decode cX3_busyBits 38 = .ok (.iload 4, 2) := by decide +kernel
theorem dX3_busyBits_40 : decode cX3_busyBits 40 = .ok (.iaload, 1) := by decide +kernel
theorem dX3_busyBits_41 : decode cX3_busyBits 41 = .ok (.iload_n 1, 1) := by decide +kernel
theorem dX3_busyBits_42 : decode cX3_busyBits 42 = .ok (.if_icmp .ne 30, 3) := by decide +kernel
theorem dX3_busyBits_45 : decode cX3_busyBits 45 = .ok (.aload_n 0, 1) := by decide +kernel
theorem dX3_busyBits_46 : decode cX3_busyBits 46 = .ok (.iload 4, 2) := by decide +kernel
theorem dX3_busyBits_48 : decode cX3_busyBits 48 = .ok (.invokevirtual 90, 3) := by decide +kernel
theorem dX3_busyBits_51 : decode cX3_busyBits 51 = .ok (.ifCond .ne 21, 3) := by decide +kernel
theorem dX3_busyBits_54 : decode cX3_busyBits 54 = .ok (.iload 5, 2) := by decide +kernel
theorem dX3_busyBits_56 : decode cX3_busyBits 56 = .ok (.ifCond .lt 16, 3) := by decide +kernel
theorem dX3_busyBits_59 : decode cX3_busyBits 59 = .ok (.iload 5, 2) := by decide +kernel
theorem dX3_busyBits_61 : decode cX3_busyBits 61 = .ok (.iload_n 2, 1) := by decide +kernel
theorem dX3_busyBits_62 : decode cX3_busyBits 62 = .ok (.if_icmp .ge 10, 3) := by decide +kernel
theorem dX3_busyBits_65 : decode cX3_busyBits 65 = .ok (.iload_n 3, 1) := by decide +kernel
theorem dX3_busyBits_66 : decode cX3_busyBits 66 = .ok (.iconst 1, 1) := by decide +kernel
theorem dX3_busyBits_67 : decode cX3_busyBits 67 = .ok (.iload 5, 2) := by decide +kernel
theorem dX3_busyBits_69 : decode cX3_busyBits 69 = .ok (.ishl, 1) := by decide +kernel
theorem dX3_busyBits_70 : decode cX3_busyBits 70 = .ok (.ior, 1) := by decide +kernel
theorem dX3_busyBits_71 : decode cX3_busyBits 71 = .ok (.istore_n 3, 1) := by decide +kernel
theorem dX3_busyBits_72 : decode cX3_busyBits 72 = .ok (.iinc 4 1, 3) := by decide +kernel
theorem dX3_busyBits_75 : decode cX3_busyBits 75 = .ok (.goto (-70), 3) := by decide +kernel
theorem dX3_busyBits_78 : decode cX3_busyBits 78 = .ok (.iload_n 3, 1) := by decide +kernel
theorem dX3_busyBits_79 : decode cX3_busyBits 79 = .ok (.ireturn, 1) := by decide +kernel
theorem dX3_tasksNow_0 : decode cX3_tasksNow 0 = .ok (.iconst 0, 1) := by decide +kernel
theorem dX3_tasksNow_1 : decode cX3_tasksNow 1 = .ok (.istore_n 2, 1) := by decide +kernel
theorem dX3_tasksNow_2 : decode cX3_tasksNow 2 = .ok (.iconst 0, 1) := by decide +kernel
theorem dX3_tasksNow_3 : decode cX3_tasksNow 3 = .ok (.istore_n 3, 1) := by decide +kernel
theorem dX3_tasksNow_4 : decode cX3_tasksNow 4 = .ok (.iload_n 3, 1) := by decide +kernel
theorem dX3_tasksNow_5 : decode cX3_tasksNow 5 = .ok (.aload_n 0, 1) := by decide +kernel
theorem dX3_tasksNow_6 : decode cX3_tasksNow 6 = .ok (.getfield 40, 3) := by decide +kernel
theorem dX3_tasksNow_9 : decode cX3_tasksNow 9 = .ok (.getfield 94, 3) := by decide +kernel
theorem dX3_tasksNow_12 : decode cX3_tasksNow 12 = .ok (.if_icmp .ge 33, 3) := by decide +kernel
theorem dX3_tasksNow_15 : decode cX3_tasksNow 15 = .ok (.aload_n 0, 1) := by decide +kernel
theorem dX3_tasksNow_16 : decode cX3_tasksNow 16 = .ok (.getfield 40, 3) := by decide +kernel
theorem dX3_tasksNow_19 : decode cX3_tasksNow 19 = .ok (.getfield 97, 3) := by decide +kernel
theorem dX3_tasksNow_22 : decode cX3_tasksNow 22 = .ok (.iload_n 3, 1) := by decide +kernel
theorem dX3_tasksNow_23 : decode cX3_tasksNow 23 = .ok (.iaload, 1) := by decide +kernel
theorem dX3_tasksNow_24 : decode cX3_tasksNow 24 = .ok (.iload_n 1, 1) := by decide +kernel
theorem dX3_tasksNow_25 : decode cX3_tasksNow 25 = .ok (.if_icmp .ne 14, 3) := by decide +kernel
theorem dX3_tasksNow_28 : decode cX3_tasksNow 28 = .ok (.aload_n 0, 1) := by decide +kernel
theorem dX3_tasksNow_29 : decode cX3_tasksNow 29 = .ok (.iload_n 3, 1) := by decide +kernel
theorem dX3_tasksNow_30 : decode cX3_tasksNow 30 = .ok (.invokevirtual 100, 3) := by decide +kernel
theorem dX3_tasksNow_33 : decode cX3_tasksNow 33 = .ok (.ifCond .eq 6, 3) := by decide +kernel
theorem dX3_tasksNow_36 : decode cX3_tasksNow 36 = .ok (.iinc 2 1, 3) := by decide +kernel
theorem dX3_tasksNow_39 : decode cX3_tasksNow 39 = .ok (.iinc 3 1, 3) := by decide +kernel
theorem dX3_tasksNow_42 : decode cX3_tasksNow 42 = .ok (.goto (-38), 3) := by decide +kernel
theorem dX3_tasksNow_45 : decode cX3_tasksNow 45 = .ok (.iload_n 2, 1) := by decide +kernel
theorem dX3_tasksNow_46 : decode cX3_tasksNow 46 = .ok (.ireturn, 1) := by decide +kernel
theorem dX3_priceFor_0 : decode cX3_priceFor 0 = .ok (.aload_n 0, 1) := by decide +kernel
theorem dX3_priceFor_1 : decode cX3_priceFor 1 = .ok (.invokevirtual 65, 3) := by decide +kernel
theorem dX3_priceFor_4 : decode cX3_priceFor 4 = .ok (.iconst 1, 1) := by decide +kernel
theorem dX3_priceFor_5 : decode cX3_priceFor 5 = .ok (.iload_n 1, 1) := by decide +kernel
theorem dX3_priceFor_6 : decode cX3_priceFor 6 = .ok (.ishl, 1) := by decide +kernel
theorem dX3_priceFor_7 : decode cX3_priceFor 7 = .ok (.iconst (-1), 1) := by decide +kernel
theorem dX3_priceFor_8 : decode cX3_priceFor 8 = .ok (.ixor, 1) := by decide +kernel
theorem dX3_priceFor_9 : decode cX3_priceFor 9 = .ok (.iand, 1) := by decide +kernel
theorem dX3_priceFor_10 : decode cX3_priceFor 10 = .ok (.istore_n 2, 1) := by decide +kernel
theorem dX3_priceFor_11 : decode cX3_priceFor 11 = .ok (.aload_n 0, 1) := by decide +kernel
theorem dX3_priceFor_12 : decode cX3_priceFor 12 = .ok (.getfield 40, 3) := by decide +kernel
theorem dX3_priceFor_15 : decode cX3_priceFor 15 = .ok (.getfield 58, 3) := by decide +kernel
theorem dX3_priceFor_18 : decode cX3_priceFor 18 = .ok (.invokestatic 61, 3) := by decide +kernel
theorem dX3_priceFor_21 : decode cX3_priceFor 21 = .ok (.iconst 1, 1) := by decide +kernel
theorem dX3_priceFor_22 : decode cX3_priceFor 22 = .ok (.iload_n 1, 1) := by decide +kernel
theorem dX3_priceFor_23 : decode cX3_priceFor 23 = .ok (.ishl, 1) := by decide +kernel
theorem dX3_priceFor_24 : decode cX3_priceFor 24 = .ok (.iconst (-1), 1) := by decide +kernel
theorem dX3_priceFor_25 : decode cX3_priceFor 25 = .ok (.ixor, 1) := by decide +kernel
theorem dX3_priceFor_26 : decode cX3_priceFor 26 = .ok (.iand, 1) := by decide +kernel
theorem dX3_priceFor_27 : decode cX3_priceFor 27 = .ok (.iload_n 2, 1) := by decide +kernel
theorem dX3_priceFor_28 : decode cX3_priceFor 28 = .ok (.iconst (-1), 1) := by decide +kernel
theorem dX3_priceFor_29 : decode cX3_priceFor 29 = .ok (.ixor, 1) := by decide +kernel
theorem dX3_priceFor_30 : decode cX3_priceFor 30 = .ok (.iand, 1) := by decide +kernel
theorem dX3_priceFor_31 : decode cX3_priceFor 31 = .ok (.istore_n 3, 1) := by decide +kernel
theorem dX3_priceFor_32 : decode cX3_priceFor 32 = .ok (.aload_n 0, 1) := by decide +kernel
theorem dX3_priceFor_33 : decode cX3_priceFor 33 = .ok (.getfield 44, 3) := by decide +kernel
theorem dX3_priceFor_36 : decode cX3_priceFor 36 = .ok (.getfield 103, 3) := by decide +kernel
theorem dX3_priceFor_39 : decode cX3_priceFor 39 = .ok (.astore 4, 2) := by decide +kernel
theorem dX3_priceFor_41 : decode cX3_priceFor 41 = .ok (.aload 4, 2) := by decide +kernel
theorem dX3_priceFor_43 : decode cX3_priceFor 43 = .ok (.iconst 0, 1) := by decide +kernel
theorem dX3_priceFor_44 : decode cX3_priceFor 44 = .ok (.aload_n 0, 1) := by decide +kernel
theorem dX3_priceFor_45 : decode cX3_priceFor 45 = .ok (.getfield 9, 3) := by decide +kernel
theorem dX3_priceFor_48 : decode cX3_priceFor 48 = .ok (.iastore, 1) := by decide +kernel
theorem dX3_priceFor_49 : decode cX3_priceFor 49 = .ok (.aload 4, 2) := by decide +kernel
theorem dX3_priceFor_51 : decode cX3_priceFor 51 = .ok (.iconst 1, 1) := by decide +kernel
theorem dX3_priceFor_52 : decode cX3_priceFor 52 = .ok (.iload_n 2, 1) := by decide +kernel
theorem dX3_priceFor_53 : decode cX3_priceFor 53 = .ok (.invokestatic 108, 3) := by decide +kernel
theorem dX3_priceFor_56 : decode cX3_priceFor 56 = .ok (.iastore, 1) := by decide +kernel
theorem dX3_priceFor_57 : decode cX3_priceFor 57 = .ok (.aload 4, 2) := by decide +kernel
theorem dX3_priceFor_59 : decode cX3_priceFor 59 = .ok (.iconst 2, 1) := by decide +kernel
theorem dX3_priceFor_60 : decode cX3_priceFor 60 = .ok (.aload_n 0, 1) := by decide +kernel
theorem dX3_priceFor_61 : decode cX3_priceFor 61 = .ok (.getfield 28, 3) := by decide +kernel
theorem dX3_priceFor_64 : decode cX3_priceFor 64 = .ok (.iload_n 1, 1) := by decide +kernel
theorem dX3_priceFor_65 : decode cX3_priceFor 65 = .ok (.iaload, 1) := by decide +kernel
theorem dX3_priceFor_66 : decode cX3_priceFor 66 = .ok (.iastore, 1) := by decide +kernel
theorem dX3_priceFor_67 : decode cX3_priceFor 67 = .ok (.aload 4, 2) := by decide +kernel
theorem dX3_priceFor_69 : decode cX3_priceFor 69 = .ok (.iconst 3, 1) := by decide +kernel
theorem dX3_priceFor_70 : decode cX3_priceFor 70 = .ok (.aload_n 0, 1) := by decide +kernel
theorem dX3_priceFor_71 : decode cX3_priceFor 71 = .ok (.getfield 21, 3) := by decide +kernel
theorem dX3_priceFor_74 : decode cX3_priceFor 74 = .ok (.iload_n 1, 1) := by decide +kernel
theorem dX3_priceFor_75 : decode cX3_priceFor 75 = .ok (.iaload, 1) := by decide +kernel
theorem dX3_priceFor_76 : decode cX3_priceFor 76 = .ok (.iastore, 1) := by decide +kernel
theorem dX3_priceFor_77 : decode cX3_priceFor 77 = .ok (.aload 4, 2) := by decide +kernel
theorem dX3_priceFor_79 : decode cX3_priceFor 79 = .ok (.iconst 4, 1) := by decide +kernel
theorem dX3_priceFor_80 : decode cX3_priceFor 80 = .ok (.aload_n 0, 1) := by decide +kernel
theorem dX3_priceFor_81 : decode cX3_priceFor 81 = .ok (.getfield 40, 3) := by decide +kernel
theorem dX3_priceFor_84 : decode cX3_priceFor 84 = .ok (.getfield 113, 3) := by decide +kernel
theorem dX3_priceFor_87 : decode cX3_priceFor 87 = .ok (.iload_n 1, 1) := by decide +kernel
theorem dX3_priceFor_88 : decode cX3_priceFor 88 = .ok (.iaload, 1) := by decide +kernel
theorem dX3_priceFor_89 : decode cX3_priceFor 89 = .ok (.iastore, 1) := by decide +kernel
theorem dX3_priceFor_90 : decode cX3_priceFor 90 = .ok (.aload 4, 2) := by decide +kernel
theorem dX3_priceFor_92 : decode cX3_priceFor 92 = .ok (.iconst 5, 1) := by decide +kernel
theorem dX3_priceFor_93 : decode cX3_priceFor 93 = .ok (.aload_n 0, 1) := by decide +kernel
theorem dX3_priceFor_94 : decode cX3_priceFor 94 = .ok (.getfield 40, 3) := by decide +kernel
theorem dX3_priceFor_97 : decode cX3_priceFor 97 = .ok (.getfield 116, 3) := by decide +kernel
theorem dX3_priceFor_100 : decode cX3_priceFor 100 = .ok (.iload_n 1, 1) := by decide +kernel
theorem dX3_priceFor_101 : decode cX3_priceFor 101 = .ok (.iaload, 1) := by decide +kernel
theorem dX3_priceFor_102 : decode cX3_priceFor 102 = .ok (.aload_n 0, 1) := by decide +kernel
theorem dX3_priceFor_103 : decode cX3_priceFor 103 = .ok (.getfield 40, 3) := by decide +kernel
theorem dX3_priceFor_106 : decode cX3_priceFor 106 = .ok (.iload_n 3, 1) := by decide +kernel
theorem dX3_priceFor_107 : decode cX3_priceFor 107 = .ok (.invokevirtual 72, 3) := by decide +kernel
theorem dX3_priceFor_110 : decode cX3_priceFor 110 = .ok (.iconst (-1), 1) := by decide +kernel
theorem dX3_priceFor_111 : decode cX3_priceFor 111 = .ok (.ixor, 1) := by decide +kernel
theorem dX3_priceFor_112 : decode cX3_priceFor 112 = .ok (.iand, 1) := by decide +kernel
theorem dX3_priceFor_113 : decode cX3_priceFor 113 = .ok (.invokestatic 108, 3) := by decide +kernel
theorem dX3_priceFor_116 : decode cX3_priceFor 116 = .ok (.iastore, 1) := by decide +kernel
theorem dX3_priceFor_117 : decode cX3_priceFor 117 = .ok (.aload 4, 2) := by decide +kernel
theorem dX3_priceFor_119 : decode cX3_priceFor 119 = .ok (.bipush 6, 2) := by decide +kernel
theorem dX3_priceFor_121 : decode cX3_priceFor 121 = .ok (.aload_n 0, 1) := by decide +kernel
theorem dX3_priceFor_122 : decode cX3_priceFor 122 = .ok (.iload_n 1, 1) := by decide +kernel
theorem dX3_priceFor_123 : decode cX3_priceFor 123 = .ok (.invokevirtual 119, 3) := by decide +kernel
theorem dX3_priceFor_126 : decode cX3_priceFor 126 = .ok (.iastore, 1) := by decide +kernel
theorem dX3_priceFor_127 : decode cX3_priceFor 127 = .ok (.aload 4, 2) := by decide +kernel
theorem dX3_priceFor_129 : decode cX3_priceFor 129 = .ok (.bipush 7, 2) := by decide +kernel
theorem dX3_priceFor_131 : decode cX3_priceFor 131 = .ok (.iload_n 1, 1) := by decide +kernel
theorem dX3_priceFor_132 : decode cX3_priceFor 132 = .ok (.iastore, 1) := by decide +kernel
theorem dX3_priceFor_133 : decode cX3_priceFor 133 = .ok (.aload_n 0, 1) := by decide +kernel
theorem dX3_priceFor_134 : decode cX3_priceFor 134 = .ok (.getfield 44, 3) := by decide +kernel
theorem dX3_priceFor_137 : decode cX3_priceFor 137 = .ok (.invokevirtual 122, 3) := by decide +kernel
theorem dX3_priceFor_140 : decode cX3_priceFor 140 = .ok (.ireturn, 1) := by decide +kernel
theorem dX3_canBuy_0 : decode cX3_canBuy 0 = .ok (.aload_n 0, 1) := by decide +kernel
theorem dX3_canBuy_1 : decode cX3_canBuy 1 = .ok (.iload_n 1, 1) := by decide +kernel
theorem dX3_canBuy_2 : decode cX3_canBuy 2 = .ok (.invokevirtual 125, 3) := by decide +kernel
theorem dX3_canBuy_5 : decode cX3_canBuy 5 = .ok (.ifCond .ne 21, 3) := by decide +kernel
theorem dX3_canBuy_8 : decode cX3_canBuy 8 = .ok (.aload_n 0, 1) := by decide +kernel
theorem dX3_canBuy_9 : decode cX3_canBuy 9 = .ok (.getfield 21, 3) := by decide +kernel
theorem dX3_canBuy_12 : decode cX3_canBuy 12 = .ok (.iload_n 1, 1) := by decide +kernel
theorem dX3_canBuy_13 : decode cX3_canBuy 13 = .ok (.iaload, 1) := by decide +kernel
theorem dX3_canBuy_14 : decode cX3_canBuy 14 = .ok (.aload_n 0, 1) := by decide +kernel
theorem dX3_canBuy_15 : decode cX3_canBuy 15 = .ok (.iload_n 1, 1) := by decide +kernel
theorem dX3_canBuy_16 : decode cX3_canBuy 16 = .ok (.invokevirtual 128, 3) := by decide +kernel
theorem dX3_canBuy_19 : decode cX3_canBuy 19 = .ok (.if_icmp .lt 7, 3) := by decide +kernel
theorem dX3_canBuy_22 : decode cX3_canBuy 22 = .ok (.iconst 1, 1) := by decide +kernel
theorem dX3_canBuy_23 : decode cX3_canBuy 23 = .ok (.goto 4, 3) := by decide +kernel
theorem dX3_canBuy_26 : decode cX3_canBuy 26 = .ok (.iconst 0, 1) := by decide +kernel
theorem dX3_canBuy_27 : decode cX3_canBuy 27 = .ok (.ireturn, 1) := by decide +kernel
theorem dX3_buyOff_0 : decode cX3_buyOff 0 = .ok (.aload_n 0, 1) := by decide +kernel
theorem dX3_buyOff_1 : decode cX3_buyOff 1 = .ok (.iload_n 1, 1) := by decide +kernel
theorem dX3_buyOff_2 : decode cX3_buyOff 2 = .ok (.invokevirtual 125, 3) := by decide +kernel
theorem dX3_buyOff_5 : decode cX3_buyOff 5 = .ok (.ifCond .eq 5, 3) := by decide +kernel
theorem dX3_buyOff_8 : decode cX3_buyOff 8 = .ok (.iconst 0, 1) := by decide +kernel
theorem dX3_buyOff_9 : decode cX3_buyOff 9 = .ok (.ireturn, 1) := by decide +kernel
theorem dX3_buyOff_10 : decode cX3_buyOff 10 = .ok (.aload_n 0, 1) := by decide +kernel
theorem dX3_buyOff_11 : decode cX3_buyOff 11 = .ok (.iload_n 1, 1) := by decide +kernel
theorem dX3_buyOff_12 : decode cX3_buyOff 12 = .ok (.invokevirtual 128, 3) := by decide +kernel
theorem dX3_buyOff_15 : decode cX3_buyOff 15 = .ok (.istore_n 2, 1) := by decide +kernel
theorem dX3_buyOff_16 : decode cX3_buyOff 16 = .ok (.aload_n 0, 1) := by decide +kernel
theorem dX3_buyOff_17 : decode cX3_buyOff 17 = .ok (.getfield 21, 3) := by decide +kernel
theorem dX3_buyOff_20 : decode cX3_buyOff 20 = .ok (.iload_n 1, 1) := by decide +kernel
theorem dX3_buyOff_21 : decode cX3_buyOff 21 = .ok (.iaload, 1) := by decide +kernel
theorem dX3_buyOff_22 : decode cX3_buyOff 22 = .ok (.iload_n 2, 1) := by decide +kernel
theorem dX3_buyOff_23 : decode cX3_buyOff 23 = .ok (.if_icmp .ge 5, 3) := by decide +kernel
theorem dX3_buyOff_26 : decode cX3_buyOff 26 = .ok (.iconst 0, 1) := by decide +kernel
theorem dX3_buyOff_27 : decode cX3_buyOff 27 = .ok (.ireturn, 1) := by decide +kernel
theorem dX3_buyOff_28 : decode cX3_buyOff 28 = .ok (.aload_n 0, 1) := by decide +kernel
theorem dX3_buyOff_29 : decode cX3_buyOff 29 = .ok (.getfield 21, 3) := by decide +kernel
theorem dX3_buyOff_32 : decode cX3_buyOff 32 = .ok (.iload_n 1, 1) := by decide +kernel
theorem dX3_buyOff_33 : decode cX3_buyOff 33 = .ok (.dup2, 1) := by decide +kernel
theorem dX3_buyOff_34 : decode cX3_buyOff 34 = .ok (.iaload, 1) := by decide +kernel
theorem dX3_buyOff_35 : decode cX3_buyOff 35 = .ok (.iload_n 2, 1) := by decide +kernel
theorem dX3_buyOff_36 : decode cX3_buyOff 36 = .ok (.isub, 1) := by decide +kernel
theorem dX3_buyOff_37 : decode cX3_buyOff 37 = .ok (.iastore, 1) := by decide +kernel
theorem dX3_buyOff_38 : decode cX3_buyOff 38 = .ok (.aload_n 0, 1) := by decide +kernel
theorem dX3_buyOff_39 : decode cX3_buyOff 39 = .ok (.getfield 31, 3) := by decide +kernel
theorem dX3_buyOff_42 : decode cX3_buyOff 42 = .ok (.iload_n 1, 1) := by decide +kernel
theorem dX3_buyOff_43 : decode cX3_buyOff 43 = .ok (.iload_n 2, 1) := by decide +kernel
theorem dX3_buyOff_44 : decode cX3_buyOff 44 = .ok (.iastore, 1) := by decide +kernel
theorem dX3_buyOff_45 : decode cX3_buyOff 45 = .ok (.iconst 1, 1) := by decide +kernel
theorem dX3_buyOff_46 : decode cX3_buyOff 46 = .ok (.ireturn, 1) := by decide +kernel
theorem dX3_sellBack_0 : decode cX3_sellBack 0 = .ok (.aload_n 0, 1) := by decide +kernel
theorem dX3_sellBack_1 : decode cX3_sellBack 1 = .ok (.iload_n 1, 1) := by decide +kernel
theorem dX3_sellBack_2 : decode cX3_sellBack 2 = .ok (.invokevirtual 125, 3) := by decide +kernel
theorem dX3_sellBack_5 : decode cX3_sellBack 5 = .ok (.ifCond .ne 5, 3) := by decide +kernel
theorem dX3_sellBack_8 : decode cX3_sellBack 8 = .ok (.iconst 0, 1) := by decide +kernel
theorem dX3_sellBack_9 : decode cX3_sellBack 9 = .ok (.ireturn, 1) := by decide +kernel
theorem dX3_sellBack_10 : decode cX3_sellBack 10 = .ok (.aload_n 0, 1) := by decide +kernel
theorem dX3_sellBack_11 : decode cX3_sellBack 11 = .ok (.getfield 21, 3) := by decide +kernel
theorem dX3_sellBack_14 : decode cX3_sellBack 14 = .ok (.iload_n 1, 1) := by decide +kernel
theorem dX3_sellBack_15 : decode cX3_sellBack 15 = .ok (.dup2, 1) := by decide +kernel
theorem dX3_sellBack_16 : decode cX3_sellBack 16 = .ok (.iaload, 1) := by decide +kernel
theorem dX3_sellBack_17 : decode cX3_sellBack 17 = .ok (.aload_n 0, 1) := by decide +kernel
theorem dX3_sellBack_18 : decode cX3_sellBack 18 = .ok (.getfield 31, 3) := by decide +kernel
theorem dX3_sellBack_21 : decode cX3_sellBack 21 = .ok (.iload_n 1, 1) := by decide +kernel
theorem dX3_sellBack_22 : decode cX3_sellBack 22 = .ok (.iaload, 1) := by decide +kernel
theorem dX3_sellBack_23 : decode cX3_sellBack 23 = .ok (.iconst 2, 1) := by decide +kernel
theorem dX3_sellBack_24 : decode cX3_sellBack 24 = .ok (.idiv, 1) := by decide +kernel
theorem dX3_sellBack_25 : decode cX3_sellBack 25 = .ok (.iadd, 1) := by decide +kernel
theorem dX3_sellBack_26 : decode cX3_sellBack 26 = .ok (.iastore, 1) := by decide +kernel
theorem dX3_sellBack_27 : decode cX3_sellBack 27 = .ok (.aload_n 0, 1) := by decide +kernel
theorem dX3_sellBack_28 : decode cX3_sellBack 28 = .ok (.getfield 31, 3) := by decide +kernel
theorem dX3_sellBack_31 : decode cX3_sellBack 31 = .ok (.iload_n 1, 1) := by decide +kernel
theorem dX3_sellBack_32 : decode cX3_sellBack 32 = .ok (.iconst (-1), 1) := by decide +kernel
theorem dX3_sellBack_33 : decode cX3_sellBack 33 = .ok (.iastore, 1) := by decide +kernel
theorem dX3_sellBack_34 : decode cX3_sellBack 34 = .ok (.iconst 1, 1) := by decide +kernel
theorem dX3_sellBack_35 : decode cX3_sellBack 35 = .ok (.ireturn, 1) := by decide +kernel
theorem dX3_putOff_0 : decode cX3_putOff 0 = .ok (.aload_n 0, 1) := by decide +kernel
theorem dX3_putOff_1 : decode cX3_putOff 1 = .ok (.iload_n 1, 1) := by decide +kernel
theorem dX3_putOff_2 : decode cX3_putOff 2 = .ok (.invokevirtual 131, 3) := by decide +kernel
theorem dX3_putOff_5 : decode cX3_putOff 5 = .ok (.ifCond .eq 14, 3) := by decide +kernel
theorem dX3_putOff_8 : decode cX3_putOff 8 = .ok (.aload_n 0, 1) := by decide +kernel
theorem dX3_putOff_9 : decode cX3_putOff 9 = .ok (.getfield 37, 3) := by decide +kernel
theorem dX3_putOff_12 : decode cX3_putOff 12 = .ok (.iload_n 1, 1) := by decide +kernel
theorem dX3_putOff_13 : decode cX3_putOff 13 = .ok (.iaload, 1) := by decide +kernel
theorem dX3_putOff_14 : decode cX3_putOff 14 = .ok (.bipush 60, 2) := by decide +kernel
theorem dX3_putOff_16 : decode cX3_putOff 16 = .ok (.if_icmp .lt 5, 3) := by decide +kernel
theorem dX3_putOff_19 : decode cX3_putOff 19 = .ok (.iconst 0, 1) := by decide +kernel
theorem dX3_putOff_20 : decode cX3_putOff 20 = .ok (.ireturn, 1) := by decide +kernel
theorem dX3_putOff_21 : decode cX3_putOff 21 = .ok (.aload_n 0, 1) := by decide +kernel
theorem dX3_putOff_22 : decode cX3_putOff 22 = .ok (.getfield 37, 3) := by decide +kernel
theorem dX3_putOff_25 : decode cX3_putOff 25 = .ok (.iload_n 1, 1) := by decide +kernel
theorem dX3_putOff_26 : decode cX3_putOff 26 = .ok (.dup2, 1) := by decide +kernel
theorem dX3_putOff_27 : decode cX3_putOff 27 = .ok (.iaload, 1) := by decide +kernel
theorem dX3_putOff_28 : decode cX3_putOff 28 = .ok (.iconst 1, 1) := by decide +kernel
theorem dX3_putOff_29 : decode cX3_putOff 29 = .ok (.iadd, 1) := by decide +kernel
theorem dX3_putOff_30 : decode cX3_putOff 30 = .ok (.iastore, 1) := by decide +kernel
theorem dX3_putOff_31 : decode cX3_putOff 31 = .ok (.iconst 1, 1) := by decide +kernel
theorem dX3_putOff_32 : decode cX3_putOff 32 = .ok (.ireturn, 1) := by decide +kernel
theorem dX3_passWeekByWork_0 : decode cX3_passWeekByWork 0 = .ok (.aload_n 0, 1) := by decide +kernel
theorem dX3_passWeekByWork_1 : decode cX3_passWeekByWork 1 = .ok (.getfield 9, 3) := by decide +kernel
theorem dX3_passWeekByWork_4 : decode cX3_passWeekByWork 4 = .ok (.sipush 300, 3) := by decide +kernel
theorem dX3_passWeekByWork_7 : decode cX3_passWeekByWork 7 = .ok (.if_icmp .lt 5, 3) := by decide +kernel
theorem dX3_passWeekByWork_10 : decode cX3_passWeekByWork 10 = .ok (.iconst 0, 1) := by decide +kernel
theorem dX3_passWeekByWork_11 : decode cX3_passWeekByWork 11 = .ok (.ireturn, 1) := by decide +kernel
theorem dX3_passWeekByWork_12 : decode cX3_passWeekByWork 12 = .ok (.aload_n 0, 1) := by decide +kernel
theorem dX3_passWeekByWork_13 : decode cX3_passWeekByWork 13 = .ok (.invokevirtual 134, 3) := by decide +kernel
theorem dX3_passWeekByWork_16 : decode cX3_passWeekByWork 16 = .ok (.iconst 1, 1) := by decide +kernel
theorem dX3_passWeekByWork_17 : decode cX3_passWeekByWork 17 = .ok (.ireturn, 1) := by decide +kernel
theorem dX3_payFine_0 : decode cX3_payFine 0 = .ok (.aload_n 0, 1) := by decide +kernel
theorem dX3_payFine_1 : decode cX3_payFine 1 = .ok (.getfield 40, 3) := by decide +kernel
theorem dX3_payFine_4 : decode cX3_payFine 4 = .ok (.getfield 97, 3) := by decide +kernel
theorem dX3_payFine_7 : decode cX3_payFine 7 = .ok (.iload_n 1, 1) := by decide +kernel
theorem dX3_payFine_8 : decode cX3_payFine 8 = .ok (.iaload, 1) := by decide +kernel
theorem dX3_payFine_9 : decode cX3_payFine 9 = .ok (.istore_n 2, 1) := by decide +kernel
theorem dX3_payFine_10 : decode cX3_payFine 10 = .ok (.aload_n 0, 1) := by decide +kernel
theorem dX3_payFine_11 : decode cX3_payFine 11 = .ok (.getfield 21, 3) := by decide +kernel
theorem dX3_payFine_14 : decode cX3_payFine 14 = .ok (.iload_n 2, 1) := by decide +kernel
theorem dX3_payFine_15 : decode cX3_payFine 15 = .ok (.iaload, 1) := by decide +kernel
theorem dX3_payFine_16 : decode cX3_payFine 16 = .ok (.aload_n 0, 1) := by decide +kernel
theorem dX3_payFine_17 : decode cX3_payFine 17 = .ok (.getfield 40, 3) := by decide +kernel
theorem dX3_payFine_20 : decode cX3_payFine 20 = .ok (.getfield 137, 3) := by decide +kernel
theorem dX3_payFine_23 : decode cX3_payFine 23 = .ok (.iload_n 1, 1) := by decide +kernel
theorem dX3_payFine_24 : decode cX3_payFine 24 = .ok (.iaload, 1) := by decide +kernel
theorem dX3_payFine_25 : decode cX3_payFine 25 = .ok (.invokestatic 87, 3) := by decide +kernel
theorem dX3_payFine_28 : decode cX3_payFine 28 = .ok (.istore_n 3, 1) := by decide +kernel
theorem dX3_payFine_29 : decode cX3_payFine 29 = .ok (.aload_n 0, 1) := by decide +kernel
theorem dX3_payFine_30 : decode cX3_payFine 30 = .ok (.getfield 21, 3) := by decide +kernel
theorem dX3_payFine_33 : decode cX3_payFine 33 = .ok (.iload_n 2, 1) := by decide +kernel
theorem dX3_payFine_34 : decode cX3_payFine 34 = .ok (.dup2, 1) := by decide +kernel
theorem dX3_payFine_35 : decode cX3_payFine 35 = .ok (.iaload, 1) := by decide +kernel
theorem dX3_payFine_36 : decode cX3_payFine 36 = .ok (.iload_n 3, 1) := by decide +kernel
theorem dX3_payFine_37 : decode cX3_payFine 37 = .ok (.isub, 1) := by decide +kernel
theorem dX3_payFine_38 : decode cX3_payFine 38 = .ok (.iastore, 1) := by decide +kernel
theorem dX3_payFine_39 : decode cX3_payFine 39 = .ok (.aload_n 0, 1) := by decide +kernel
theorem dX3_payFine_40 : decode cX3_payFine 40 = .ok (.getfield 34, 3) := by decide +kernel
theorem dX3_payFine_43 : decode cX3_payFine 43 = .ok (.iload_n 2, 1) := by decide +kernel
theorem dX3_payFine_44 : decode cX3_payFine 44 = .ok (.dup2, 1) := by decide +kernel
theorem dX3_payFine_45 : decode cX3_payFine 45 = .ok (.iaload, 1) := by decide +kernel
theorem dX3_payFine_46 : decode cX3_payFine 46 = .ok (.iload_n 3, 1) := by decide +kernel
theorem dX3_payFine_47 : decode cX3_payFine 47 = .ok (.iadd, 1) := by decide +kernel
theorem dX3_payFine_48 : decode cX3_payFine 48 = .ok (.iastore, 1) := by decide +kernel
theorem dX3_payFine_49 : decode cX3_payFine 49 = .ok (.iload_n 3, 1) := by decide +kernel
theorem dX3_payFine_50 : decode cX3_payFine 50 = .ok (.ireturn, 1) := by decide +kernel
theorem dX3_passWeek_0 : decode cX3_passWeek 0 = .ok (.aload_n 0, 1) := by decide +kernel
theorem dX3_passWeek_1 : decode cX3_passWeek 1 = .ok (.dup, 1) := by decide +kernel
theorem dX3_passWeek_2 : decode cX3_passWeek 2 = .ok (.getfield 15, 3) := by decide +kernel
theorem dX3_passWeek_5 : decode cX3_passWeek 5 = .ok (.aload_n 0, 1) := by decide +kernel
theorem dX3_passWeek_6 : decode cX3_passWeek 6 = .ok (.aload_n 0, 1) := by decide +kernel
theorem dX3_passWeek_7 : decode cX3_passWeek 7 = .ok (.aload_n 0, 1) := by decide +kernel
theorem dX3_passWeek_8 : decode cX3_passWeek 8 = .ok (.invokevirtual 140, 3) := by decide +kernel
theorem dX3_passWeek_11 : decode cX3_passWeek 11 = .ok (.invokevirtual 143, 3) := by decide +kernel
theorem dX3_passWeek_14 : decode cX3_passWeek 14 = .ok (.invokevirtual 146, 3) := by decide +kernel
theorem dX3_passWeek_17 : decode cX3_passWeek 17 = .ok (.iadd, 1) := by decide +kernel
theorem dX3_passWeek_18 : decode cX3_passWeek 18 = .ok (.putfield 15, 3) := by decide +kernel
theorem dX3_passWeek_21 : decode cX3_passWeek 21 = .ok (.iconst 0, 1) := by decide +kernel
theorem dX3_passWeek_22 : decode cX3_passWeek 22 = .ok (.istore_n 1, 1) := by decide +kernel
theorem dX3_passWeek_23 : decode cX3_passWeek 23 = .ok (.iload_n 1, 1) := by decide +kernel
theorem dX3_passWeek_24 : decode cX3_passWeek 24 = .ok (.aload_n 0, 1) := by decide +kernel
theorem dX3_passWeek_25 : decode cX3_passWeek 25 = .ok (.getfield 40, 3) := by decide +kernel
theorem dX3_passWeek_28 : decode cX3_passWeek 28 = .ok (.getfield 94, 3) := by decide +kernel
theorem dX3_passWeek_31 : decode cX3_passWeek 31 = .ok (.if_icmp .ge 54, 3) := by decide +kernel
theorem dX3_passWeek_34 : decode cX3_passWeek 34 = .ok (.aload_n 0, 1) := by decide +kernel
theorem dX3_passWeek_35 : decode cX3_passWeek 35 = .ok (.iload_n 1, 1) := by decide +kernel
theorem dX3_passWeek_36 : decode cX3_passWeek 36 = .ok (.invokevirtual 100, 3) := by decide +kernel
theorem dX3_passWeek_39 : decode cX3_passWeek 39 = .ok (.ifCond .eq 40, 3) := by decide +kernel
theorem dX3_passWeek_42 : decode cX3_passWeek 42 = .ok (.aload_n 0, 1) := by decide +kernel
theorem dX3_passWeek_43 : decode cX3_passWeek 43 = .ok (.aload_n 0, 1) := by decide +kernel
theorem dX3_passWeek_44 : decode cX3_passWeek 44 = .ok (.getfield 40, 3) := by decide +kernel
theorem dX3_passWeek_47 : decode cX3_passWeek 47 = .ok (.getfield 97, 3) := by decide +kernel
theorem dX3_passWeek_50 : decode cX3_passWeek 50 = .ok (.iload_n 1, 1) := by decide +kernel
theorem dX3_passWeek_51 : decode cX3_passWeek 51 = .ok (.iaload, 1) := by decide +kernel
theorem dX3_passWeek_52 : decode cX3_passWeek 52 = .ok (.invokevirtual 125, 3) := by decide +kernel
theorem dX3_passWeek_55 : decode cX3_passWeek 55 = .ok (.ifCond .eq 12, 3) := by decide +kernel
theorem dX3_passWeek_58 : decode cX3_passWeek 58 = .ok (.aload_n 0, 1) := by decide +kernel
theorem dX3_passWeek_59 : decode cX3_passWeek 59 = .ok (.iload_n 1, 1) := by decide +kernel
theorem dX3_passWeek_60 : decode cX3_passWeek 60 = .ok (.invokevirtual 149, 3) := by decide +kernel
theorem dX3_passWeek_63 : decode cX3_passWeek 63 = .ok (.pop, 1) := by decide +kernel
theorem dX3_passWeek_64 : decode cX3_passWeek 64 = .ok (.goto 15, 3) := by decide +kernel
theorem dX3_passWeek_67 : decode cX3_passWeek 67 = .ok (.aload_n 0, 1) := by decide +kernel
theorem dX3_passWeek_68 : decode cX3_passWeek 68 = .ok (.dup, 1) := by decide +kernel
theorem dX3_passWeek_69 : decode cX3_passWeek 69 = .ok (.getfield 18, 3) := by decide +kernel
theorem dX3_passWeek_72 : decode cX3_passWeek 72 = .ok (.iconst 1, 1) := by decide +kernel
theorem dX3_passWeek_73 : decode cX3_passWeek 73 = .ok (.iload_n 1, 1) := by decide +kernel
theorem dX3_passWeek_74 : decode cX3_passWeek 74 = .ok (.ishl, 1) := by decide +kernel
theorem dX3_passWeek_75 : decode cX3_passWeek 75 = .ok (.ior, 1) := by decide +kernel
theorem dX3_passWeek_76 : decode cX3_passWeek 76 = .ok (.putfield 18, 3) := by decide +kernel
theorem dX3_passWeek_79 : decode cX3_passWeek 79 = .ok (.iinc 1 1, 3) := by decide +kernel
theorem dX3_passWeek_82 : decode cX3_passWeek 82 = .ok (.goto (-59), 3) := by decide +kernel
theorem dX3_passWeek_85 : decode cX3_passWeek 85 = .ok (.iconst 0, 1) := by decide +kernel
theorem dX3_passWeek_86 : decode cX3_passWeek 86 = .ok (.istore_n 1, 1) := by decide +kernel
theorem dX3_passWeek_87 : decode cX3_passWeek 87 = .ok (.iload_n 1, 1) := by decide +kernel
theorem dX3_passWeek_88 : decode cX3_passWeek 88 = .ok (.aload_n 0, 1) := by decide +kernel
theorem dX3_passWeek_89 : decode cX3_passWeek 89 = .ok (.getfield 40, 3) := by decide +kernel
theorem dX3_passWeek_92 : decode cX3_passWeek 92 = .ok (.getfield 58, 3) := by decide +kernel
theorem dX3_passWeek_95 : decode cX3_passWeek 95 = .ok (.if_icmp .ge 87, 3) := by decide +kernel
theorem dX3_passWeek_98 : decode cX3_passWeek 98 = .ok (.aload_n 0, 1) := by decide +kernel
theorem dX3_passWeek_99 : decode cX3_passWeek 99 = .ok (.iload_n 1, 1) := by decide +kernel
theorem dX3_passWeek_100 : decode cX3_passWeek 100 = .ok (.invokevirtual 125, 3) := by decide +kernel
theorem dX3_passWeek_103 : decode cX3_passWeek 103 = .ok (.ifCond .eq 34, 3) := by decide +kernel
theorem dX3_passWeek_106 : decode cX3_passWeek 106 = .ok (.aload_n 0, 1) := by decide +kernel
theorem dX3_passWeek_107 : decode cX3_passWeek 107 = .ok (.getfield 25, 3) := by decide +kernel
theorem dX3_passWeek_110 : decode cX3_passWeek 110 = .ok (.iload_n 1, 1) := by decide +kernel
theorem dX3_passWeek_111 : decode cX3_passWeek 111 = .ok (.dup2, 1) := by decide +kernel
theorem dX3_passWeek_112 : decode cX3_passWeek 112 = .ok (.iaload, 1) := by decide +kernel
theorem dX3_passWeek_113 : decode cX3_passWeek 113 = .ok (.bipush 6, 2) := by decide +kernel
theorem dX3_passWeek_115 : decode cX3_passWeek 115 = .ok (.iadd, 1) := by decide +kernel
theorem dX3_passWeek_116 : decode cX3_passWeek 116 = .ok (.iastore, 1) := by decide +kernel
theorem dX3_passWeek_117 : decode cX3_passWeek 117 = .ok (.aload_n 0, 1) := by decide +kernel
theorem dX3_passWeek_118 : decode cX3_passWeek 118 = .ok (.getfield 28, 3) := by decide +kernel
theorem dX3_passWeek_121 : decode cX3_passWeek 121 = .ok (.iload_n 1, 1) := by decide +kernel
theorem dX3_passWeek_122 : decode cX3_passWeek 122 = .ok (.dup2, 1) := by decide +kernel
theorem dX3_passWeek_123 : decode cX3_passWeek 123 = .ok (.iaload, 1) := by decide +kernel
theorem dX3_passWeek_124 : decode cX3_passWeek 124 = .ok (.iconst 1, 1) := by decide +kernel
theorem dX3_passWeek_125 : decode cX3_passWeek 125 = .ok (.iadd, 1) := by decide +kernel
theorem dX3_passWeek_126 : decode cX3_passWeek 126 = .ok (.iastore, 1) := by decide +kernel
theorem dX3_passWeek_127 : decode cX3_passWeek 127 = .ok (.aload_n 0, 1) := by decide +kernel
theorem dX3_passWeek_128 : decode cX3_passWeek 128 = .ok (.getfield 31, 3) := by decide +kernel
theorem dX3_passWeek_131 : decode cX3_passWeek 131 = .ok (.iload_n 1, 1) := by decide +kernel
theorem dX3_passWeek_132 : decode cX3_passWeek 132 = .ok (.iconst (-1), 1) := by decide +kernel
theorem dX3_passWeek_133 : decode cX3_passWeek 133 = .ok (.iastore, 1) := by decide +kernel
theorem dX3_passWeek_134 : decode cX3_passWeek 134 = .ok (.goto 42, 3) := by decide +kernel
theorem dX3_passWeek_137 : decode cX3_passWeek 137 = .ok (.aload_n 0, 1) := by decide +kernel
theorem dX3_passWeek_138 : decode cX3_passWeek 138 = .ok (.getfield 25, 3) := by decide +kernel
theorem dX3_passWeek_141 : decode cX3_passWeek 141 = .ok (.iload_n 1, 1) := by decide +kernel
theorem dX3_passWeek_142 : decode cX3_passWeek 142 = .ok (.dup2, 1) := by decide +kernel
theorem dX3_passWeek_143 : decode cX3_passWeek 143 = .ok (.iaload, 1) := by decide +kernel
theorem dX3_passWeek_144 : decode cX3_passWeek 144 = .ok (.bipush 7, 2) := by decide +kernel
theorem dX3_passWeek_146 : decode cX3_passWeek 146 = .ok (.iadd, 1) := by decide +kernel
theorem dX3_passWeek_147 : decode cX3_passWeek 147 = .ok (.iastore, 1) := by decide +kernel
theorem dX3_passWeek_148 : decode cX3_passWeek 148 = .ok (.aload_n 0, 1) := by decide +kernel
theorem dX3_passWeek_149 : decode cX3_passWeek 149 = .ok (.getfield 21, 3) := by decide +kernel
theorem dX3_passWeek_152 : decode cX3_passWeek 152 = .ok (.iload_n 1, 1) := by decide +kernel
theorem dX3_passWeek_153 : decode cX3_passWeek 153 = .ok (.sipush 999, 3) := by decide +kernel
theorem dX3_passWeek_156 : decode cX3_passWeek 156 = .ok (.aload_n 0, 1) := by decide +kernel
theorem dX3_passWeek_157 : decode cX3_passWeek 157 = .ok (.getfield 21, 3) := by decide +kernel
theorem dX3_passWeek_160 : decode cX3_passWeek 160 = .ok (.iload_n 1, 1) := by decide +kernel
theorem dX3_passWeek_161 : decode cX3_passWeek 161 = .ok (.iaload, 1) := by decide +kernel
theorem dX3_passWeek_162 : decode cX3_passWeek 162 = .ok (.aload_n 0, 1) := by decide +kernel
theorem dX3_passWeek_163 : decode cX3_passWeek 163 = .ok (.getfield 40, 3) := by decide +kernel
theorem dX3_passWeek_166 : decode cX3_passWeek 166 = .ok (.getfield 113, 3) := by decide +kernel
theorem dX3_passWeek_169 : decode cX3_passWeek 169 = .ok (.iload_n 1, 1) := by decide +kernel
theorem dX3_passWeek_170 : decode cX3_passWeek 170 = .ok (.iaload, 1) := by decide +kernel
theorem dX3_passWeek_171 : decode cX3_passWeek 171 = .ok (.iadd, 1) := by decide +kernel
theorem dX3_passWeek_172 : decode cX3_passWeek 172 = .ok (.invokestatic 87, 3) := by decide +kernel
theorem dX3_passWeek_175 : decode cX3_passWeek 175 = .ok (.iastore, 1) := by decide +kernel
theorem dX3_passWeek_176 : decode cX3_passWeek 176 = .ok (.iinc 1 1, 3) := by decide +kernel
theorem dX3_passWeek_179 : decode cX3_passWeek 179 = .ok (.goto (-92), 3) := by decide +kernel
theorem dX3_passWeek_182 : decode cX3_passWeek 182 = .ok (.aload_n 0, 1) := by decide +kernel
theorem dX3_passWeek_183 : decode cX3_passWeek 183 = .ok (.dup, 1) := by decide +kernel
theorem dX3_passWeek_184 : decode cX3_passWeek 184 = .ok (.getfield 9, 3) := by decide +kernel
theorem dX3_passWeek_187 : decode cX3_passWeek 187 = .ok (.iconst 1, 1) := by decide +kernel
theorem dX3_passWeek_188 : decode cX3_passWeek 188 = .ok (.iadd, 1) := by decide +kernel
theorem dX3_passWeek_189 : decode cX3_passWeek 189 = .ok (.putfield 9, 3) := by decide +kernel
theorem dX3_passWeek_192 : decode cX3_passWeek 192 = .ok (.return_, 1) := by decide +kernel
theorem dX3_worthOf_0 : decode cX3_worthOf 0 = .ok (.iconst 0, 1) := by decide +kernel
theorem dX3_worthOf_1 : decode cX3_worthOf 1 = .ok (.istore_n 2, 1) := by decide +kernel
theorem dX3_worthOf_2 : decode cX3_worthOf 2 = .ok (.iconst 0, 1) := by decide +kernel
theorem dX3_worthOf_3 : decode cX3_worthOf 3 = .ok (.istore_n 3, 1) := by decide +kernel
theorem dX3_worthOf_4 : decode cX3_worthOf 4 = .ok (.iload_n 3, 1) := by decide +kernel
theorem dX3_worthOf_5 : decode cX3_worthOf 5 = .ok (.aload_n 0, 1) := by decide +kernel
theorem dX3_worthOf_6 : decode cX3_worthOf 6 = .ok (.getfield 40, 3) := by decide +kernel
theorem dX3_worthOf_9 : decode cX3_worthOf 9 = .ok (.getfield 69, 3) := by decide +kernel
theorem dX3_worthOf_12 : decode cX3_worthOf 12 = .ok (.if_icmp .ge 29, 3) := by decide +kernel
theorem dX3_worthOf_15 : decode cX3_worthOf 15 = .ok (.iload_n 1, 1) := by decide +kernel
theorem dX3_worthOf_16 : decode cX3_worthOf 16 = .ok (.iload_n 3, 1) := by decide +kernel
theorem dX3_worthOf_17 : decode cX3_worthOf 17 = .ok (.ishr, 1) := by decide +kernel
theorem dX3_worthOf_18 : decode cX3_worthOf 18 = .ok (.iconst 1, 1) := by decide +kernel
theorem dX3_worthOf_19 : decode cX3_worthOf 19 = .ok (.iand, 1) := by decide +kernel
theorem dX3_worthOf_20 : decode cX3_worthOf 20 = .ok (.ifCond .eq 15, 3) := by decide +kernel
theorem dX3_worthOf_23 : decode cX3_worthOf 23 = .ok (.iload_n 2, 1) := by decide +kernel
theorem dX3_worthOf_24 : decode cX3_worthOf 24 = .ok (.aload_n 0, 1) := by decide +kernel
theorem dX3_worthOf_25 : decode cX3_worthOf 25 = .ok (.getfield 40, 3) := by decide +kernel
theorem dX3_worthOf_28 : decode cX3_worthOf 28 = .ok (.getfield 152, 3) := by decide +kernel
theorem dX3_worthOf_31 : decode cX3_worthOf 31 = .ok (.iload_n 3, 1) := by decide +kernel
theorem dX3_worthOf_32 : decode cX3_worthOf 32 = .ok (.iaload, 1) := by decide +kernel
theorem dX3_worthOf_33 : decode cX3_worthOf 33 = .ok (.iadd, 1) := by decide +kernel
theorem dX3_worthOf_34 : decode cX3_worthOf 34 = .ok (.istore_n 2, 1) := by decide +kernel
theorem dX3_worthOf_35 : decode cX3_worthOf 35 = .ok (.iinc 3 1, 3) := by decide +kernel
theorem dX3_worthOf_38 : decode cX3_worthOf 38 = .ok (.goto (-34), 3) := by decide +kernel
theorem dX3_worthOf_41 : decode cX3_worthOf 41 = .ok (.iload_n 2, 1) := by decide +kernel
theorem dX3_worthOf_42 : decode cX3_worthOf 42 = .ok (.ireturn, 1) := by decide +kernel
theorem dX4_init_0 : decode cX4_init 0 = .ok (.aload_n 0, 1) := by decide +kernel
theorem dX4_init_1 : decode cX4_init 1 = .ok (.invokespecial 3, 3) := by decide +kernel
theorem dX4_init_4 : decode cX4_init 4 = .ok (.aload_n 0, 1) := by decide +kernel
theorem dX4_init_5 : decode cX4_init 5 = .ok (.iconst 0, 1) := by decide +kernel
theorem dX4_init_6 : decode cX4_init 6 = .ok (.putfield 9, 3) := by decide +kernel
theorem dX4_init_9 : decode cX4_init 9 = .ok (.aload_n 0, 1) := by decide +kernel
theorem dX4_init_10 : decode cX4_init 10 = .ok (.bipush 30, 2) := by decide +kernel
theorem dX4_init_12 : decode cX4_init 12 = .ok (.newarray .int, 2) := by decide +kernel
theorem dX4_init_14 : decode cX4_init 14 = .ok (.putfield 15, 3) := by decide +kernel
theorem dX4_init_17 : decode cX4_init 17 = .ok (.aload_n 0, 1) := by decide +kernel
theorem dX4_init_18 : decode cX4_init 18 = .ok (.bipush 30, 2) := by decide +kernel
theorem dX4_init_20 : decode cX4_init 20 = .ok (.newarray .int, 2) := by decide +kernel
theorem dX4_init_22 : decode cX4_init 22 = .ok (.putfield 19, 3) := by decide +kernel
theorem dX4_init_25 : decode cX4_init 25 = .ok (.aload_n 0, 1) := by decide +kernel
theorem dX4_init_26 : decode cX4_init 26 = .ok (.bipush 30, 2) := by decide +kernel
theorem dX4_init_28 : decode cX4_init 28 = .ok (.newarray .int, 2) := by decide +kernel
theorem dX4_init_30 : decode cX4_init 30 = .ok (.putfield 22, 3) := by decide +kernel
theorem dX4_init_33 : decode cX4_init 33 = .ok (.aload_n 0, 1) := by decide +kernel
theorem dX4_init_34 : decode cX4_init 34 = .ok (.iconst 0, 1) := by decide +kernel
theorem dX4_init_35 : decode cX4_init 35 = .ok (.putfield 25, 3) := by decide +kernel
theorem dX4_init_38 : decode cX4_init 38 = .ok (.aload_n 0, 1) := by decide +kernel
theorem dX4_init_39 : decode cX4_init 39 = .ok (.iconst 0, 1) := by decide +kernel
theorem dX4_init_40 : decode cX4_init 40 = .ok (.putfield 28, 3) := by decide +kernel
theorem dX4_init_43 : decode cX4_init 43 = .ok (.aload_n 0, 1) := by decide +kernel
theorem dX4_init_44 : decode cX4_init 44 = .ok (.iconst 0, 1) := by decide +kernel
theorem dX4_init_45 : decode cX4_init 45 = .ok (.putfield 31, 3) := by decide +kernel
theorem dX4_init_48 : decode cX4_init 48 = .ok (.return_, 1) := by decide +kernel
theorem dX4_forgetRefused_0 : decode cX4_forgetRefused 0 = .ok (.aload_n 0, 1) := by decide +kernel
theorem dX4_forgetRefused_1 : decode cX4_forgetRefused 1 = .ok (.iconst 0, 1) := by decide +kernel
theorem dX4_forgetRefused_2 : decode cX4_forgetRefused 2 = .ok (.putfield 31, 3) := by decide +kernel
theorem dX4_forgetRefused_5 : decode cX4_forgetRefused 5 = .ok (.return_, 1) := by decide +kernel
theorem dX4_readFrom_0 : decode cX4_readFrom 0 = .ok (.aload_n 0, 1) := by decide +kernel
theorem dX4_readFrom_1 : decode cX4_readFrom 1 = .ok (.iconst 0, 1) := by decide +kernel
theorem dX4_readFrom_2 : decode cX4_readFrom 2 = .ok (.putfield 9, 3) := by decide +kernel
theorem dX4_readFrom_5 : decode cX4_readFrom 5 = .ok (.aload_n 0, 1) := by decide +kernel
theorem dX4_readFrom_6 : decode cX4_readFrom 6 = .ok (.aload_n 1, 1) := by decide +kernel
theorem dX4_readFrom_7 : decode cX4_readFrom 7 = .ok (.aload_n 2, 1) := by decide +kernel
theorem dX4_readFrom_8 : decode cX4_readFrom 8 = .ok (.iconst 0, 1) := by decide +kernel
theorem dX4_readFrom_9 : decode cX4_readFrom 9 = .ok (.invokevirtual 34, 3) := by decide +kernel
theorem dX4_readFrom_12 : decode cX4_readFrom 12 = .ok (.return_, 1) := by decide +kernel
theorem dX4_readSteps_0 : decode cX4_readSteps 0 = .ok (.iconst 0, 1) := by decide +kernel
theorem dX4_readSteps_1 : decode cX4_readSteps 1 = .ok (.istore 4, 2) := by decide +kernel
theorem dX4_readSteps_3 : decode cX4_readSteps 3 = .ok (.iload 4, 2) := by decide +kernel
theorem dX4_readSteps_5 : decode cX4_readSteps 5 = .ok (.bipush 30, 2) := by decide +kernel
theorem dX4_readSteps_7 : decode cX4_readSteps 7 = .ok (.if_icmp .gt 53, 3) := by decide +kernel
theorem dX4_readSteps_10 : decode cX4_readSteps 10 = .ok (.aload_n 1, 1) := by decide +kernel
theorem dX4_readSteps_11 : decode cX4_readSteps 11 = .ok (.invokevirtual 38, 3) := by decide +kernel
theorem dX4_readSteps_14 : decode cX4_readSteps 14 = .ok (.ifCond .ne 46, 3) := by decide +kernel
theorem dX4_readSteps_17 : decode cX4_readSteps 17 = .ok (.iload_n 3, 1) := by decide +kernel
theorem dX4_readSteps_18 : decode cX4_readSteps 18 = .ok (.ifCond .ne 13, 3) := by decide +kernel
theorem dX4_readSteps_21 : decode cX4_readSteps 21 = .ok (.aload_n 1, 1) := by decide +kernel
theorem dX4_readSteps_22 : decode cX4_readSteps 22 = .ok (.invokevirtual 44, 3) := by decide +kernel
theorem dX4_readSteps_25 : decode cX4_readSteps 25 = .ok (.ifCond .eq 16, 3) := by decide +kernel
theorem dX4_readSteps_28 : decode cX4_readSteps 28 = .ok (.goto 12, 3) := by decide +kernel
theorem dX4_readSteps_31 : decode cX4_readSteps 31 = .ok (.aload_n 1, 1) := by decide +kernel
theorem dX4_readSteps_32 : decode cX4_readSteps 32 = .ok (.invokevirtual 47, 3) := by decide +kernel
theorem dX4_readSteps_35 : decode cX4_readSteps 35 = .ok (.bipush 93, 2) := by decide +kernel
theorem dX4_readSteps_37 : decode cX4_readSteps 37 = .ok (.if_icmp .ne 4, 3) := by decide +kernel
theorem dX4_readSteps_40 : decode cX4_readSteps 40 = .ok (.return_, 1) := by decide +kernel
theorem dX4_readSteps_41 : decode cX4_readSteps 41 = .ok (.aload_n 0, 1) := by decide +kernel
theorem dX4_readSteps_42 : decode cX4_readSteps 42 = .ok (.aload_n 1, 1) := by decide +kernel
theorem dX4_readSteps_43 : decode cX4_readSteps 43 = .ok (.aload_n 2, 1) := by decide +kernel
theorem dX4_readSteps_44 : decode cX4_readSteps 44 = .ok (.iload_n 3, 1) := by decide +kernel
theorem dX4_readSteps_45 : decode cX4_readSteps 45 = .ok (.invokevirtual 51, 3) := by decide +kernel
theorem dX4_readSteps_48 : decode cX4_readSteps 48 = .ok (.aload_n 1, 1) := by decide +kernel
theorem dX4_readSteps_49 : decode cX4_readSteps 49 = .ok (.bipush 59, 2) := by decide +kernel
theorem dX4_readSteps_51 : decode cX4_readSteps 51 = .ok (.invokevirtual 54, 3) := by decide +kernel
theorem dX4_readSteps_54 : decode cX4_readSteps 54 = .ok (.iinc 4 1, 3) := by decide +kernel
theorem dX4_readSteps_57 : decode cX4_readSteps 57 = .ok (.goto (-54), 3) := by decide +kernel
theorem dX4_readSteps_60 : decode cX4_readSteps 60 = .ok (.return_, 1) := by decide +kernel
theorem dX4_readStep_0 : decode cX4_readStep 0 = .ok (.aload_n 1, 1) := by decide +kernel
theorem dX4_readStep_1 : decode cX4_readStep 1 = .ok (.ldc 58, 2) := by decide +kernel
theorem dX4_readStep_3 : decode cX4_readStep 3 = .ok (.invokevirtual 60, 3) := by decide +kernel
theorem dX4_readStep_6 : decode cX4_readStep 6 = .ok (.istore 4, 2) := by decide +kernel
theorem dX4_readStep_8 : decode cX4_readStep 8 = .ok (.aload_n 0, 1) := by decide +kernel
theorem dX4_readStep_9 : decode cX4_readStep 9 = .ok (.getfield 9, 3) := by decide +kernel
theorem dX4_readStep_12 : decode cX4_readStep 12 = .ok (.istore 5, 2) := by decide +kernel
theorem dX4_readStep_14 : decode cX4_readStep 14 = .ok (.iload 4, 2) := by decide +kernel
theorem dX4_readStep_16 : decode cX4_readStep 16 = .ok (.iconst (-1), 1) := by decide +kernel
theorem dX4_readStep_17 : decode cX4_readStep 17 = .ok (.if_icmp .eq 10, 3) := by decide +kernel
theorem dX4_readStep_20 : decode cX4_readStep 20 = .ok (.iload 5, 2) := by decide +kernel
theorem dX4_readStep_22 : decode cX4_readStep 22 = .ok (.bipush 30, 2) := by decide +kernel
theorem dX4_readStep_24 : decode cX4_readStep 24 = .ok (.if_icmp .lt 4, 3) := by decide +kernel
theorem dX4_readStep_27 : decode cX4_readStep 27 = .ok (.return_, 1) := by decide +kernel
theorem dX4_readStep_28 : decode cX4_readStep 28 = .ok (.aload_n 0, 1) := by decide +kernel
theorem dX4_readStep_29 : decode cX4_readStep 29 = .ok (.dup, 1) := by decide +kernel
theorem dX4_readStep_30 : decode cX4_readStep 30 = .ok (.getfield 9, 3) := by decide +kernel
theorem dX4_readStep_33 : decode cX4_readStep 33 = .ok (.iconst 1, 1) := by decide +kernel
theorem dX4_readStep_34 : decode cX4_readStep 34 = .ok (.iadd, 1) := by decide +kernel
theorem dX4_readStep_35 : decode cX4_readStep 35 = .ok (.putfield 9, 3) := by decide +kernel
theorem dX4_readStep_38 : decode cX4_readStep 38 = .ok (.aload_n 0, 1) := by decide +kernel
theorem dX4_readStep_39 : decode cX4_readStep 39 = .ok (.getfield 15, 3) := by decide +kernel
theorem dX4_readStep_42 : decode cX4_readStep 42 = .ok (.iload 5, 2) := by decide +kernel
theorem dX4_readStep_44 : decode cX4_readStep 44 = .ok (.iload 4, 2) := by decide +kernel
theorem dX4_readStep_46 : decode cX4_readStep 46 = .ok (.iastore, 1) := by decide +kernel
theorem dX4_readStep_47 : decode cX4_readStep 47 = .ok (.aload_n 0, 1) := by decide +kernel
theorem dX4_readStep_48 : decode cX4_readStep 48 = .ok (.getfield 19, 3) := by decide +kernel
theorem dX4_readStep_51 : decode cX4_readStep 51 = .ok (.iload 5, 2) := by decide +kernel
theorem dX4_readStep_53 : decode cX4_readStep 53 = .ok (.iconst 0, 1) := by decide +kernel
theorem dX4_readStep_54 : decode cX4_readStep 54 = .ok (.iastore, 1) := by decide +kernel
theorem dX4_readStep_55 : decode cX4_readStep 55 = .ok (.iload 4, 2) := by decide +kernel
theorem dX4_readStep_57 : decode cX4_readStep 57 = .ok (.ifCond .eq 9, 3) := by decide +kernel
theorem dX4_readStep_60 : decode cX4_readStep 60 = .ok (.iload 4, 2) := by decide +kernel
theorem dX4_readStep_62 : decode cX4_readStep 62 = .ok (.iconst 1, 1) := by decide +kernel
theorem dX4_readStep_63 : decode cX4_readStep 63 = .ok (.if_icmp .ne 24, 3) := by decide +kernel
theorem dX4_readStep_66 : decode cX4_readStep 66 = .ok (.aload_n 0, 1) := by decide +kernel
theorem dX4_readStep_67 : decode cX4_readStep 67 = .ok (.getfield 19, 3) := by decide +kernel
theorem dX4_readStep_70 : decode cX4_readStep 70 = .ok (.iload 5, 2) := by decide +kernel
theorem dX4_readStep_72 : decode cX4_readStep 72 = .ok (.aload_n 1, 1) := by decide +kernel
theorem dX4_readStep_73 : decode cX4_readStep 73 = .ok (.iconst 0, 1) := by decide +kernel
theorem dX4_readStep_74 : decode cX4_readStep 74 = .ok (.aload_n 2, 1) := by decide +kernel
theorem dX4_readStep_75 : decode cX4_readStep 75 = .ok (.getfield 64, 3) := by decide +kernel
theorem dX4_readStep_78 : decode cX4_readStep 78 = .ok (.iconst 1, 1) := by decide +kernel
theorem dX4_readStep_79 : decode cX4_readStep 79 = .ok (.isub, 1) := by decide +kernel
theorem dX4_readStep_80 : decode cX4_readStep 80 = .ok (.invokevirtual 69, 3) := by decide +kernel
theorem dX4_readStep_83 : decode cX4_readStep 83 = .ok (.iastore, 1) := by decide +kernel
theorem dX4_readStep_84 : decode cX4_readStep 84 = .ok (.goto 45, 3) := by decide +kernel
theorem dX4_readStep_87 : decode cX4_readStep 87 = .ok (.iload 4, 2) := by decide +kernel
theorem dX4_readStep_89 : decode cX4_readStep 89 = .ok (.iconst 2, 1) := by decide +kernel
theorem dX4_readStep_90 : decode cX4_readStep 90 = .ok (.if_icmp .ne 24, 3) := by decide +kernel
theorem dX4_readStep_93 : decode cX4_readStep 93 = .ok (.aload_n 0, 1) := by decide +kernel
theorem dX4_readStep_94 : decode cX4_readStep 94 = .ok (.getfield 19, 3) := by decide +kernel
theorem dX4_readStep_97 : decode cX4_readStep 97 = .ok (.iload 5, 2) := by decide +kernel
theorem dX4_readStep_99 : decode cX4_readStep 99 = .ok (.aload_n 1, 1) := by decide +kernel
theorem dX4_readStep_100 : decode cX4_readStep 100 = .ok (.iconst 0, 1) := by decide +kernel
theorem dX4_readStep_101 : decode cX4_readStep 101 = .ok (.aload_n 2, 1) := by decide +kernel
theorem dX4_readStep_102 : decode cX4_readStep 102 = .ok (.getfield 73, 3) := by decide +kernel
theorem dX4_readStep_105 : decode cX4_readStep 105 = .ok (.iconst 1, 1) := by decide +kernel
theorem dX4_readStep_106 : decode cX4_readStep 106 = .ok (.isub, 1) := by decide +kernel
theorem dX4_readStep_107 : decode cX4_readStep 107 = .ok (.invokevirtual 69, 3) := by decide +kernel
theorem dX4_readStep_110 : decode cX4_readStep 110 = .ok (.iastore, 1) := by decide +kernel
theorem dX4_readStep_111 : decode cX4_readStep 111 = .ok (.goto 18, 3) := by decide +kernel
theorem dX4_readStep_114 : decode cX4_readStep 114 = .ok (.iload 4, 2) := by decide +kernel
theorem dX4_readStep_116 : decode cX4_readStep 116 = .ok (.iconst 4, 1) := by decide +kernel
theorem dX4_readStep_117 : decode cX4_readStep 117 = .ok (.if_icmp .ne 12, 3) := by decide +kernel
theorem dX4_readStep_120 : decode cX4_readStep 120 = .ok (.aload_n 0, 1) := by decide +kernel
theorem dX4_readStep_121 : decode cX4_readStep 121 = .ok (.aload_n 1, 1) := by decide +kernel
theorem dX4_readStep_122 : decode cX4_readStep 122 = .ok (.aload_n 2, 1) := by decide +kernel
theorem dX4_readStep_123 : decode cX4_readStep 123 = .ok (.iload_n 3, 1) := by decide +kernel
theorem dX4_readStep_124 : decode cX4_readStep 124 = .ok (.iload 5, 2) := by decide +kernel
theorem dX4_readStep_126 : decode cX4_readStep 126 = .ok (.invokevirtual 76, 3) := by decide +kernel
theorem dX4_readStep_129 : decode cX4_readStep 129 = .ok (.aload_n 0, 1) := by decide +kernel
theorem dX4_readStep_130 : decode cX4_readStep 130 = .ok (.getfield 22, 3) := by decide +kernel
theorem dX4_readStep_133 : decode cX4_readStep 133 = .ok (.iload 5, 2) := by decide +kernel
theorem dX4_readStep_135 : decode cX4_readStep 135 = .ok (.aload_n 0, 1) := by decide +kernel
theorem dX4_readStep_136 : decode cX4_readStep 136 = .ok (.getfield 9, 3) := by decide +kernel
theorem dX4_readStep_139 : decode cX4_readStep 139 = .ok (.iastore, 1) := by decide +kernel
theorem dX4_readStep_140 : decode cX4_readStep 140 = .ok (.return_, 1) := by decide +kernel
theorem dX4_readAgain_0 : decode cX4_readAgain 0 = .ok (.iload_n 3, 1) := by decide +kernel
theorem dX4_readAgain_1 : decode cX4_readAgain 1 = .ok (.bipush 6, 2) := by decide +kernel
theorem dX4_readAgain_3 : decode cX4_readAgain 3 = .ok (.if_icmp .lt 13, 3) := by decide +kernel
theorem dX4_readAgain_6 : decode cX4_readAgain 6 = .ok (.aload_n 1, 1) := by decide +kernel
theorem dX4_readAgain_7 : decode cX4_readAgain 7 = .ok (.iconst 3, 1) := by decide +kernel
theorem dX4_readAgain_8 : decode cX4_readAgain 8 = .ok (.aload_n 1, 1) := by decide +kernel
theorem dX4_readAgain_9 : decode cX4_readAgain 9 = .ok (.getfield 80, 3) := by decide +kernel
theorem dX4_readAgain_12 : decode cX4_readAgain 12 = .ok (.invokevirtual 83, 3) := by decide +kernel
theorem dX4_readAgain_15 : decode cX4_readAgain 15 = .ok (.return_, 1) := by decide +kernel
theorem dX4_readAgain_16 : decode cX4_readAgain 16 = .ok (.aload_n 0, 1) := by decide +kernel
theorem dX4_readAgain_17 : decode cX4_readAgain 17 = .ok (.getfield 19, 3) := by decide +kernel
theorem dX4_readAgain_20 : decode cX4_readAgain 20 = .ok (.iload 4, 2) := by decide +kernel
theorem dX4_readAgain_22 : decode cX4_readAgain 22 = .ok (.aload_n 1, 1) := by decide +kernel
theorem dX4_readAgain_23 : decode cX4_readAgain 23 = .ok (.iconst 0, 1) := by decide +kernel
theorem dX4_readAgain_24 : decode cX4_readAgain 24 = .ok (.bipush 60, 2) := by decide +kernel
theorem dX4_readAgain_26 : decode cX4_readAgain 26 = .ok (.invokevirtual 69, 3) := by decide +kernel
theorem dX4_readAgain_29 : decode cX4_readAgain 29 = .ok (.iastore, 1) := by decide +kernel
theorem dX4_readAgain_30 : decode cX4_readAgain 30 = .ok (.aload_n 1, 1) := by decide +kernel
theorem dX4_readAgain_31 : decode cX4_readAgain 31 = .ok (.bipush 91, 2) := by decide +kernel
theorem dX4_readAgain_33 : decode cX4_readAgain 33 = .ok (.invokevirtual 54, 3) := by decide +kernel
theorem dX4_readAgain_36 : decode cX4_readAgain 36 = .ok (.aload_n 0, 1) := by decide +kernel
theorem dX4_readAgain_37 : decode cX4_readAgain 37 = .ok (.aload_n 1, 1) := by decide +kernel
theorem dX4_readAgain_38 : decode cX4_readAgain 38 = .ok (.aload_n 2, 1) := by decide +kernel
theorem dX4_readAgain_39 : decode cX4_readAgain 39 = .ok (.iload_n 3, 1) := by decide +kernel
theorem dX4_readAgain_40 : decode cX4_readAgain 40 = .ok (.iconst 1, 1) := by decide +kernel
theorem dX4_readAgain_41 : decode cX4_readAgain 41 = .ok (.iadd, 1) := by decide +kernel
theorem dX4_readAgain_42 : decode cX4_readAgain 42 = .ok (.invokevirtual 34, 3) := by decide +kernel
theorem dX4_readAgain_45 : decode cX4_readAgain 45 = .ok (.aload_n 1, 1) := by decide +kernel
theorem dX4_readAgain_46 : decode cX4_readAgain 46 = .ok (.bipush 93, 2) := by decide +kernel
theorem dX4_readAgain_48 : decode cX4_readAgain 48 = .ok (.invokevirtual 54, 3) := by decide +kernel
theorem dX4_readAgain_51 : decode cX4_readAgain 51 = .ok (.return_, 1) := by decide +kernel
theorem dX4_runOn_0 : decode cX4_runOn 0 = .ok (.aload_n 0, 1) := by decide +kernel
theorem dX4_runOn_1 : decode cX4_runOn 1 = .ok (.iconst 0, 1) := by decide +kernel
theorem dX4_runOn_2 : decode cX4_runOn 2 = .ok (.putfield 25, 3) := by decide +kernel
theorem dX4_runOn_5 : decode cX4_runOn 5 = .ok (.aload_n 0, 1) := by decide +kernel
theorem dX4_runOn_6 : decode cX4_runOn 6 = .ok (.iconst 0, 1) := by decide +kernel
theorem dX4_runOn_7 : decode cX4_runOn 7 = .ok (.putfield 28, 3) := by decide +kernel
theorem dX4_runOn_10 : decode cX4_runOn 10 = .ok (.aload_n 0, 1) := by decide +kernel
theorem dX4_runOn_11 : decode cX4_runOn 11 = .ok (.iconst 0, 1) := by decide +kernel
theorem dX4_runOn_12 : decode cX4_runOn 12 = .ok (.putfield 31, 3) := by decide +kernel
theorem dX4_runOn_15 : decode cX4_runOn 15 = .ok (.aload_n 0, 1) := by decide +kernel
theorem dX4_runOn_16 : decode cX4_runOn 16 = .ok (.aload_n 1, 1) := by decide +kernel
theorem dX4_runOn_17 : decode cX4_runOn 17 = .ok (.iconst 0, 1) := by decide +kernel
theorem dX4_runOn_18 : decode cX4_runOn 18 = .ok (.aload_n 0, 1) := by decide +kernel
theorem dX4_runOn_19 : decode cX4_runOn 19 = .ok (.getfield 9, 3) := by decide +kernel
theorem dX4_runOn_22 : decode cX4_runOn 22 = .ok (.iconst 0, 1) := by decide +kernel
theorem dX4_runOn_23 : decode cX4_runOn 23 = .ok (.invokevirtual 87, 3) := by decide +kernel
theorem dX4_runOn_26 : decode cX4_runOn 26 = .ok (.aload_n 0, 1) := by decide +kernel
theorem dX4_runOn_27 : decode cX4_runOn 27 = .ok (.getfield 28, 3) := by decide +kernel
theorem dX4_runOn_30 : decode cX4_runOn 30 = .ok (.ireturn, 1) := by decide +kernel
theorem dX4_runSteps_0 : decode cX4_runSteps 0 = .ok (.iload 4, 2) := by decide +kernel
theorem dX4_runSteps_2 : decode cX4_runSteps 2 = .ok (.bipush 6, 2) := by decide +kernel
theorem dX4_runSteps_4 : decode cX4_runSteps 4 = .ok (.if_icmp .le 4, 3) := by decide +kernel
theorem dX4_runSteps_7 : decode cX4_runSteps 7 = .ok (.return_, 1) := by decide +kernel
theorem dX4_runSteps_8 : decode cX4_runSteps 8 = .ok (.iload_n 2, 1) := by decide +kernel
theorem dX4_runSteps_9 : decode cX4_runSteps 9 = .ok (.istore 5, 2) := by decide +kernel
theorem dX4_runSteps_11 : decode cX4_runSteps 11 = .ok (.iconst 0, 1) := by decide +kernel
theorem dX4_runSteps_12 : decode cX4_runSteps 12 = .ok (.istore 6, 2) := by decide +kernel
theorem dX4_runSteps_14 : decode cX4_runSteps 14 = .ok (.iload 6, 2) := by decide +kernel
theorem dX4_runSteps_16 : decode cX4_runSteps 16 = .ok (.bipush 30, 2) := by decide +kernel
theorem dX4_runSteps_18 : decode cX4_runSteps 18 = .ok (.if_icmp .ge 153, 3) := by decide +kernel
theorem dX4_runSteps_21 : decode cX4_runSteps 21 = .ok (.iload 5, 2) := by decide +kernel
theorem dX4_runSteps_23 : decode cX4_runSteps 23 = .ok (.iload_n 3, 1) := by decide +kernel
theorem dX4_runSteps_24 : decode cX4_runSteps 24 = .ok (.if_icmp .ge 147, 3) := by decide +kernel
theorem dX4_runSteps_27 : decode cX4_runSteps 27 = .ok (.aload_n 0, 1) := by decide +kernel
theorem dX4_runSteps_28 : decode cX4_runSteps 28 = .ok (.getfield 25, 3) := by decide +kernel
theorem dX4_runSteps_31 : decode cX4_runSteps 31 = .ok (.sipush 200, 3) := by decide +kernel
theorem dX4_runSteps_34 : decode cX4_runSteps 34 = .ok (.if_icmp .ge 137, 3) := by decide +kernel
theorem dX4_runSteps_37 : decode cX4_runSteps 37 = .ok (.aload_n 0, 1) := by decide +kernel
theorem dX4_runSteps_38 : decode cX4_runSteps 38 = .ok (.dup, 1) := by decide +kernel
theorem dX4_runSteps_39 : decode cX4_runSteps 39 = .ok (.getfield 25, 3) := by decide +kernel
theorem dX4_runSteps_42 : decode cX4_runSteps 42 = .ok (.iconst 1, 1) := by decide +kernel
theorem dX4_runSteps_43 : decode cX4_runSteps 43 = .ok (.iadd, 1) := by decide +kernel
theorem dX4_runSteps_44 : decode cX4_runSteps 44 = .ok (.putfield 25, 3) := by decide +kernel
theorem dX4_runSteps_47 : decode cX4_runSteps 47 = .ok (.aload_n 0, 1) := by decide +kernel
theorem dX4_runSteps_48 : decode cX4_runSteps 48 = .ok (.getfield 15, 3) := by decide +kernel
theorem dX4_runSteps_51 : decode cX4_runSteps 51 = .ok (.iload 5, 2) := by decide +kernel
theorem dX4_runSteps_53 : decode cX4_runSteps 53 = .ok (.iaload, 1) := by decide +kernel
theorem dX4_runSteps_54 : decode cX4_runSteps 54 = .ok (.iconst 4, 1) := by decide +kernel
theorem dX4_runSteps_55 : decode cX4_runSteps 55 = .ok (.if_icmp .ne 57, 3) := by decide +kernel
theorem dX4_runSteps_58 : decode cX4_runSteps 58 = .ok (.iconst 0, 1) := by decide +kernel
theorem dX4_runSteps_59 : decode cX4_runSteps 59 = .ok (.istore 7, 2) := by decide +kernel
theorem dX4_runSteps_61 : decode cX4_runSteps 61 = .ok (.iload 7, 2) := by decide +kernel
theorem dX4_runSteps_63 : decode cX4_runSteps 63 = .ok (.aload_n 0, 1) := by decide +kernel
theorem dX4_runSteps_64 : decode cX4_runSteps 64 = .ok (.getfield 19, 3) := by decide +kernel
theorem dX4_runSteps_67 : decode cX4_runSteps 67 = .ok (.iload 5, 2) := by decide +kernel
theorem dX4_runSteps_69 : decode cX4_runSteps 69 = .ok (.iaload, 1) := by decide +kernel
theorem dX4_runSteps_70 : decode cX4_runSteps 70 = .ok (.if_icmp .ge 39, 3) := by decide +kernel
theorem dX4_runSteps_73 : decode cX4_runSteps 73 = .ok (.aload_n 0, 1) := by decide +kernel
theorem dX4_runSteps_74 : decode cX4_runSteps 74 = .ok (.getfield 25, 3) := by decide +kernel
theorem dX4_runSteps_77 : decode cX4_runSteps 77 = .ok (.sipush 200, 3) := by decide +kernel
theorem dX4_runSteps_80 : decode cX4_runSteps 80 = .ok (.if_icmp .ge 29, 3) := by decide +kernel
theorem dX4_runSteps_83 : decode cX4_runSteps 83 = .ok (.aload_n 0, 1) := by decide +kernel
theorem dX4_runSteps_84 : decode cX4_runSteps 84 = .ok (.aload_n 1, 1) := by decide +kernel
theorem dX4_runSteps_85 : decode cX4_runSteps 85 = .ok (.iload 5, 2) := by decide +kernel
theorem dX4_runSteps_87 : decode cX4_runSteps 87 = .ok (.iconst 1, 1) := by decide +kernel
theorem dX4_runSteps_88 : decode cX4_runSteps 88 = .ok (.iadd, 1) := by decide +kernel
theorem dX4_runSteps_89 : decode cX4_runSteps 89 = .ok (.aload_n 0, 1) := by decide +kernel
theorem dX4_runSteps_90 : decode cX4_runSteps 90 = .ok (.getfield 22, 3) := by decide +kernel
theorem dX4_runSteps_93 : decode cX4_runSteps 93 = .ok (.iload 5, 2) := by decide +kernel
theorem dX4_runSteps_95 : decode cX4_runSteps 95 = .ok (.iaload, 1) := by decide +kernel
theorem dX4_runSteps_96 : decode cX4_runSteps 96 = .ok (.iload 4, 2) := by decide +kernel
theorem dX4_runSteps_98 : decode cX4_runSteps 98 = .ok (.iconst 1, 1) := by decide +kernel
theorem dX4_runSteps_99 : decode cX4_runSteps 99 = .ok (.iadd, 1) := by decide +kernel
theorem dX4_runSteps_100 : decode cX4_runSteps 100 = .ok (.invokevirtual 87, 3) := by decide +kernel
theorem dX4_runSteps_103 : decode cX4_runSteps 103 = .ok (.iinc 7 1, 3) := by decide +kernel
theorem dX4_runSteps_106 : decode cX4_runSteps 106 = .ok (.goto (-45), 3) := by decide +kernel
theorem dX4_runSteps_109 : decode cX4_runSteps 109 = .ok (.goto 47, 3) := by decide +kernel
theorem dX4_runSteps_112 : decode cX4_runSteps 112 = .ok (.aload_n 1, 1) := by decide +kernel
theorem dX4_runSteps_113 : decode cX4_runSteps 113 = .ok (.aload_n 0, 1) := by decide +kernel
theorem dX4_runSteps_114 : decode cX4_runSteps 114 = .ok (.getfield 15, 3) := by decide +kernel
theorem dX4_runSteps_117 : decode cX4_runSteps 117 = .ok (.iload 5, 2) := by decide +kernel
theorem dX4_runSteps_119 : decode cX4_runSteps 119 = .ok (.iaload, 1) := by decide +kernel
theorem dX4_runSteps_120 : decode cX4_runSteps 120 = .ok (.aload_n 0, 1) := by decide +kernel
theorem dX4_runSteps_121 : decode cX4_runSteps 121 = .ok (.getfield 19, 3) := by decide +kernel
theorem dX4_runSteps_124 : decode cX4_runSteps 124 = .ok (.iload 5, 2) := by decide +kernel
theorem dX4_runSteps_126 : decode cX4_runSteps 126 = .ok (.iaload, 1) := by decide +kernel
theorem dX4_runSteps_127 : decode cX4_runSteps 127 = .ok (.invokestatic 91, 3) := by decide +kernel
theorem dX4_runSteps_130 : decode cX4_runSteps 130 = .ok (.ifCond .eq 16, 3) := by decide +kernel
theorem dX4_runSteps_133 : decode cX4_runSteps 133 = .ok (.aload_n 0, 1) := by decide +kernel
theorem dX4_runSteps_134 : decode cX4_runSteps 134 = .ok (.dup, 1) := by decide +kernel
theorem dX4_runSteps_135 : decode cX4_runSteps 135 = .ok (.getfield 28, 3) := by decide +kernel
theorem dX4_runSteps_138 : decode cX4_runSteps 138 = .ok (.iconst 1, 1) := by decide +kernel
theorem dX4_runSteps_139 : decode cX4_runSteps 139 = .ok (.iadd, 1) := by decide +kernel
theorem dX4_runSteps_140 : decode cX4_runSteps 140 = .ok (.putfield 28, 3) := by decide +kernel
theorem dX4_runSteps_143 : decode cX4_runSteps 143 = .ok (.goto 13, 3) := by decide +kernel
theorem dX4_runSteps_146 : decode cX4_runSteps 146 = .ok (.aload_n 0, 1) := by decide +kernel
theorem dX4_runSteps_147 : decode cX4_runSteps 147 = .ok (.dup, 1) := by decide +kernel
theorem dX4_runSteps_148 : decode cX4_runSteps 148 = .ok (.getfield 31, 3) := by decide +kernel
theorem dX4_runSteps_151 : decode cX4_runSteps 151 = .ok (.iconst 1, 1) := by decide +kernel
theorem dX4_runSteps_152 : decode cX4_runSteps 152 = .ok (.iadd, 1) := by decide +kernel
theorem dX4_runSteps_153 : decode cX4_runSteps 153 = .ok (.putfield 31, 3) := by decide +kernel
theorem dX4_runSteps_156 : decode cX4_runSteps 156 = .ok (.aload_n 0, 1) := by decide +kernel
theorem dX4_runSteps_157 : decode cX4_runSteps 157 = .ok (.getfield 22, 3) := by decide +kernel
theorem dX4_runSteps_160 : decode cX4_runSteps 160 = .ok (.iload 5, 2) := by decide +kernel
theorem dX4_runSteps_162 : decode cX4_runSteps 162 = .ok (.iaload, 1) := by decide +kernel
theorem dX4_runSteps_163 : decode cX4_runSteps 163 = .ok (.istore 5, 2) := by decide +kernel
theorem dX4_runSteps_165 : decode cX4_runSteps 165 = .ok (.iinc 6 1, 3) := by decide +kernel
theorem dX4_runSteps_168 : decode cX4_runSteps 168 = .ok (.goto (-154), 3) := by decide +kernel
theorem dX4_runSteps_171 : decode cX4_runSteps 171 = .ok (.return_, 1) := by decide +kernel
theorem dX4_stepSucceeds_0 : decode cX4_stepSucceeds 0 = .ok (.iload_n 1, 1) := by decide +kernel
theorem dX4_stepSucceeds_1 : decode cX4_stepSucceeds 1 = .ok (.tableswitch 54 0 3 #[31, 37, 43, 49], 31) := by decide +kernel
theorem dX4_stepSucceeds_32 : decode cX4_stepSucceeds 32 = .ok (.aload_n 0, 1) := by decide +kernel
theorem dX4_stepSucceeds_33 : decode cX4_stepSucceeds 33 = .ok (.iload_n 2, 1) := by decide +kernel
theorem dX4_stepSucceeds_34 : decode cX4_stepSucceeds 34 = .ok (.invokevirtual 95, 3) := by decide +kernel
theorem dX4_stepSucceeds_37 : decode cX4_stepSucceeds 37 = .ok (.ireturn, 1) := by decide +kernel
theorem dX4_stepSucceeds_38 : decode cX4_stepSucceeds 38 = .ok (.aload_n 0, 1) := by decide +kernel
theorem dX4_stepSucceeds_39 : decode cX4_stepSucceeds 39 = .ok (.iload_n 2, 1) := by decide +kernel
theorem dX4_stepSucceeds_40 : decode cX4_stepSucceeds 40 = .ok (.invokevirtual 101, 3) := by decide +kernel
theorem dX4_stepSucceeds_43 : decode cX4_stepSucceeds 43 = .ok (.ireturn, 1) := by decide +kernel
theorem dX4_stepSucceeds_44 : decode cX4_stepSucceeds 44 = .ok (.aload_n 0, 1) := by decide +kernel
theorem dX4_stepSucceeds_45 : decode cX4_stepSucceeds 45 = .ok (.iload_n 2, 1) := by decide +kernel
theorem dX4_stepSucceeds_46 : decode cX4_stepSucceeds 46 = .ok (.invokevirtual 104, 3) := by decide +kernel
theorem dX4_stepSucceeds_49 : decode cX4_stepSucceeds 49 = .ok (.ireturn, 1) := by decide +kernel
theorem dX4_stepSucceeds_50 : decode cX4_stepSucceeds 50 = .ok (.aload_n 0, 1) := by decide +kernel
theorem dX4_stepSucceeds_51 : decode cX4_stepSucceeds 51 = .ok (.invokevirtual 107, 3) := by decide +kernel
theorem dX4_stepSucceeds_54 : decode cX4_stepSucceeds 54 = .ok (.ireturn, 1) := by decide +kernel
theorem dX4_stepSucceeds_55 : decode cX4_stepSucceeds 55 = .ok (.iconst 0, 1) := by decide +kernel
theorem dX4_stepSucceeds_56 : decode cX4_stepSucceeds 56 = .ok (.ireturn, 1) := by decide +kernel
theorem dX5_init_0 : decode cX5_init 0 = .ok (.aload_n 0, 1) := by decide +kernel
theorem dX5_init_1 : decode cX5_init 1 = .ok (.invokespecial 3, 3) := by decide +kernel
theorem dX5_init_4 : decode cX5_init 4 = .ok (.aload_n 0, 1) := by decide +kernel
theorem dX5_init_5 : decode cX5_init 5 = .ok (.sipush 765, 3) := by decide +kernel
theorem dX5_init_8 : decode cX5_init 8 = .ok (.newarray .int, 2) := by decide +kernel
theorem dX5_init_10 : decode cX5_init 10 = .ok (.putfield 13, 3) := by decide +kernel
theorem dX5_init_13 : decode cX5_init 13 = .ok (.aload_n 0, 1) := by decide +kernel
theorem dX5_init_14 : decode cX5_init 14 = .ok (.iconst 0, 1) := by decide +kernel
theorem dX5_init_15 : decode cX5_init 15 = .ok (.putfield 17, 3) := by decide +kernel
theorem dX5_init_18 : decode cX5_init 18 = .ok (.return_, 1) := by decide +kernel
theorem dX5_drop_0 : decode cX5_drop 0 = .ok (.aload_n 0, 1) := by decide +kernel
theorem dX5_drop_1 : decode cX5_drop 1 = .ok (.iconst 0, 1) := by decide +kernel
theorem dX5_drop_2 : decode cX5_drop 2 = .ok (.putfield 17, 3) := by decide +kernel
theorem dX5_drop_5 : decode cX5_drop 5 = .ok (.return_, 1) := by decide +kernel
theorem dX5_push_0 : decode cX5_push 0 = .ok (.aload_n 0, 1) := by decide +kernel
theorem dX5_push_1 : decode cX5_push 1 = .ok (.getfield 17, 3) := by decide +kernel
theorem dX5_push_4 : decode cX5_push 4 = .ok (.bipush 17, 2) := by decide +kernel
theorem dX5_push_6 : decode cX5_push 6 = .ok (.if_icmp .ge 28, 3) := by decide +kernel
theorem dX5_push_9 : decode cX5_push 9 = .ok (.aload_n 1, 1) := by decide +kernel
theorem dX5_push_10 : decode cX5_push 10 = .ok (.aload_n 0, 1) := by decide +kernel
theorem dX5_push_11 : decode cX5_push 11 = .ok (.getfield 13, 3) := by decide +kernel
theorem dX5_push_14 : decode cX5_push 14 = .ok (.aload_n 0, 1) := by decide +kernel
theorem dX5_push_15 : decode cX5_push 15 = .ok (.getfield 17, 3) := by decide +kernel
theorem dX5_push_18 : decode cX5_push 18 = .ok (.bipush 45, 2) := by decide +kernel
theorem dX5_push_20 : decode cX5_push 20 = .ok (.imul, 1) := by decide +kernel
theorem dX5_push_21 : decode cX5_push 21 = .ok (.invokevirtual 21, 3) := by decide +kernel
theorem dX5_push_24 : decode cX5_push 24 = .ok (.aload_n 0, 1) := by decide +kernel
theorem dX5_push_25 : decode cX5_push 25 = .ok (.dup, 1) := by decide +kernel
theorem dX5_push_26 : decode cX5_push 26 = .ok (.getfield 17, 3) := by decide +kernel
theorem dX5_push_29 : decode cX5_push 29 = .ok (.iconst 1, 1) := by decide +kernel
theorem dX5_push_30 : decode cX5_push 30 = .ok (.iadd, 1) := by decide +kernel
theorem dX5_push_31 : decode cX5_push 31 = .ok (.putfield 17, 3) := by decide +kernel
theorem dX5_push_34 : decode cX5_push 34 = .ok (.return_, 1) := by decide +kernel
theorem dX5_popInto_0 : decode cX5_popInto 0 = .ok (.aload_n 0, 1) := by decide +kernel
theorem dX5_popInto_1 : decode cX5_popInto 1 = .ok (.getfield 17, 3) := by decide +kernel
theorem dX5_popInto_4 : decode cX5_popInto 4 = .ok (.ifCond .gt 5, 3) := by decide +kernel
theorem dX5_popInto_7 : decode cX5_popInto 7 = .ok (.iconst 0, 1) := by decide +kernel
theorem dX5_popInto_8 : decode cX5_popInto 8 = .ok (.ireturn, 1) := by decide +kernel
theorem dX5_popInto_9 : decode cX5_popInto 9 = .ok (.aload_n 0, 1) := by decide +kernel
theorem dX5_popInto_10 : decode cX5_popInto 10 = .ok (.dup, 1) := by decide +kernel
theorem dX5_popInto_11 : decode cX5_popInto 11 = .ok (.getfield 17, 3) := by decide +kernel
theorem dX5_popInto_14 : decode cX5_popInto 14 = .ok (.iconst 1, 1) := by decide +kernel
theorem dX5_popInto_15 : decode cX5_popInto 15 = .ok (.isub, 1) := by decide +kernel
theorem dX5_popInto_16 : decode cX5_popInto 16 = .ok (.putfield 17, 3) := by decide +kernel
theorem dX5_popInto_19 : decode cX5_popInto 19 = .ok (.aload_n 1, 1) := by decide +kernel
theorem dX5_popInto_20 : decode cX5_popInto 20 = .ok (.aload_n 0, 1) := by decide +kernel
theorem dX5_popInto_21 : decode cX5_popInto 21 = .ok (.getfield 13, 3) := by decide +kernel
theorem dX5_popInto_24 : decode cX5_popInto 24 = .ok (.aload_n 0, 1) := by decide +kernel
theorem dX5_popInto_25 : decode cX5_popInto 25 = .ok (.getfield 17, 3) := by decide +kernel
theorem dX5_popInto_28 : decode cX5_popInto 28 = .ok (.bipush 45, 2) := by decide +kernel
theorem dX5_popInto_30 : decode cX5_popInto 30 = .ok (.imul, 1) := by decide +kernel
theorem dX5_popInto_31 : decode cX5_popInto 31 = .ok (.invokevirtual 25, 3) := by decide +kernel
theorem dX5_popInto_34 : decode cX5_popInto 34 = .ok (.iconst 1, 1) := by decide +kernel
theorem dX5_popInto_35 : decode cX5_popInto 35 = .ok (.ireturn, 1) := by decide +kernel
theorem dX5_copyFrom_0 : decode cX5_copyFrom 0 = .ok (.aload_n 0, 1) := by decide +kernel
theorem dX5_copyFrom_1 : decode cX5_copyFrom 1 = .ok (.aload_n 1, 1) := by decide +kernel
theorem dX5_copyFrom_2 : decode cX5_copyFrom 2 = .ok (.getfield 17, 3) := by decide +kernel
theorem dX5_copyFrom_5 : decode cX5_copyFrom 5 = .ok (.putfield 17, 3) := by decide +kernel
theorem dX5_copyFrom_8 : decode cX5_copyFrom 8 = .ok (.aload_n 1, 1) := by decide +kernel
theorem dX5_copyFrom_9 : decode cX5_copyFrom 9 = .ok (.getfield 13, 3) := by decide +kernel
theorem dX5_copyFrom_12 : decode cX5_copyFrom 12 = .ok (.iconst 0, 1) := by decide +kernel
theorem dX5_copyFrom_13 : decode cX5_copyFrom 13 = .ok (.aload_n 0, 1) := by decide +kernel
theorem dX5_copyFrom_14 : decode cX5_copyFrom 14 = .ok (.getfield 13, 3) := by decide +kernel
theorem dX5_copyFrom_17 : decode cX5_copyFrom 17 = .ok (.iconst 0, 1) := by decide +kernel
theorem dX5_copyFrom_18 : decode cX5_copyFrom 18 = .ok (.aload_n 0, 1) := by decide +kernel
theorem dX5_copyFrom_19 : decode cX5_copyFrom 19 = .ok (.getfield 17, 3) := by decide +kernel
theorem dX5_copyFrom_22 : decode cX5_copyFrom 22 = .ok (.bipush 45, 2) := by decide +kernel
theorem dX5_copyFrom_24 : decode cX5_copyFrom 24 = .ok (.imul, 1) := by decide +kernel
theorem dX5_copyFrom_25 : decode cX5_copyFrom 25 = .ok (.invokestatic 28, 3) := by decide +kernel
theorem dX5_copyFrom_28 : decode cX5_copyFrom 28 = .ok (.return_, 1) := by decide +kernel
theorem dX6_init_0 : decode cX6_init 0 = .ok (.aload_n 0, 1) := by decide +kernel
theorem dX6_init_1 : decode cX6_init 1 = .ok (.invokespecial 3, 3) := by decide +kernel
theorem dX6_init_4 : decode cX6_init 4 = .ok (.aload_n 0, 1) := by decide +kernel
theorem dX6_init_5 : decode cX6_init 5 = .ok (.iconst 0, 1) := by decide +kernel
theorem dX6_init_6 : decode cX6_init 6 = .ok (.putfield 9, 3) := by decide +kernel
theorem dX6_init_9 : decode cX6_init 9 = .ok (.aload_n 0, 1) := by decide +kernel
theorem dX6_init_10 : decode cX6_init 10 = .ok (.iconst 0, 1) := by decide +kernel
theorem dX6_init_11 : decode cX6_init 11 = .ok (.putfield 15, 3) := by decide +kernel
theorem dX6_init_14 : decode cX6_init 14 = .ok (.aload_n 0, 1) := by decide +kernel
theorem dX6_init_15 : decode cX6_init 15 = .ok (.iconst 0, 1) := by decide +kernel
theorem dX6_init_16 : decode cX6_init 16 = .ok (.putfield 18, 3) := by decide +kernel
theorem dX6_init_19 : decode cX6_init 19 = .ok (.aload_n 0, 1) := by decide +kernel
theorem dX6_init_20 : decode cX6_init 20 = .ok (.iconst 0, 1) := by decide +kernel
theorem dX6_init_21 : decode cX6_init 21 = .ok (.putfield 21, 3) := by decide +kernel
theorem dX6_init_24 : decode cX6_init 24 = .ok (.aload_n 0, 1) := by decide +kernel
theorem dX6_init_25 : decode cX6_init 25 = .ok (.iconst 0, 1) := by decide +kernel
theorem dX6_init_26 : decode cX6_init 26 = .ok (.putfield 24, 3) := by decide +kernel
theorem dX6_init_29 : decode cX6_init 29 = .ok (.aload_n 0, 1) := by decide +kernel
theorem dX6_init_30 : decode cX6_init 30 = .ok (.iconst 0, 1) := by decide +kernel
theorem dX6_init_31 : decode cX6_init 31 = .ok (.putfield 27, 3) := by decide +kernel
theorem dX6_init_34 : decode cX6_init 34 = .ok (.aload_n 0, 1) := by decide +kernel
theorem dX6_init_35 : decode cX6_init 35 = .ok (.iconst 0, 1) := by decide +kernel
theorem dX6_init_36 : decode cX6_init 36 = .ok (.putfield 30, 3) := by decide +kernel
theorem dX6_init_39 : decode cX6_init 39 = .ok (.aload_n 0, 1) := by decide +kernel
theorem dX6_init_40 : decode cX6_init 40 = .ok (.aload_n 1, 1) := by decide +kernel
theorem dX6_init_41 : decode cX6_init 41 = .ok (.putfield 33, 3) := by decide +kernel
theorem dX6_init_44 : decode cX6_init 44 = .ok (.aload_n 0, 1) := by decide +kernel
theorem dX6_init_45 : decode cX6_init 45 = .ok (.aload_n 2, 1) := by decide +kernel
theorem dX6_init_46 : decode cX6_init 46 = .ok (.putfield 37, 3) := by decide +kernel
theorem dX6_init_49 : decode cX6_init 49 = .ok (.return_, 1) := by decide +kernel
theorem dX6_searchFor_0 : decode cX6_searchFor 0 = .ok (.aload_n 0, 1) := by decide +kernel
theorem dX6_searchFor_1 : decode cX6_searchFor 1 = .ok (.iload_n 2, 1) := by decide +kernel
theorem dX6_searchFor_2 : decode cX6_searchFor 2 = .ok (.putfield 9, 3) := by decide +kernel
theorem dX6_searchFor_5 : decode cX6_searchFor 5 = .ok (.aload_n 0, 1) := by decide +kernel
theorem dX6_searchFor_6 : decode cX6_searchFor 6 = .ok (.iload_n 3, 1) := by decide +kernel
theorem dX6_searchFor_7 : decode cX6_searchFor 7 = .ok (.bipush 10, 2) := by decide +kernel
theorem dX6_searchFor_9 : decode cX6_searchFor 9 = .ok (.invokestatic 41, 3) := by decide +kernel
theorem dX6_searchFor_12 : decode cX6_searchFor 12 = .ok (.putfield 15, 3) := by decide +kernel
theorem dX6_searchFor_15 : decode cX6_searchFor 15 = .ok (.aload_n 0, 1) := by decide +kernel
theorem dX6_searchFor_16 : decode cX6_searchFor 16 = .ok (.aload_n 1, 1) := by decide +kernel
theorem dX6_searchFor_17 : decode cX6_searchFor 17 = .ok (.getfield 47, 3) := by decide +kernel
theorem dX6_searchFor_20 : decode cX6_searchFor 20 = .ok (.putfield 18, 3) := by decide +kernel
theorem dX6_searchFor_23 : decode cX6_searchFor 23 = .ok (.aload_n 0, 1) := by decide +kernel
theorem dX6_searchFor_24 : decode cX6_searchFor 24 = .ok (.aload_n 1, 1) := by decide +kernel
theorem dX6_searchFor_25 : decode cX6_searchFor 25 = .ok (.getfield 50, 3) := by decide +kernel
theorem dX6_searchFor_28 : decode cX6_searchFor 28 = .ok (.iload_n 2, 1) := by decide +kernel
theorem dX6_searchFor_29 : decode cX6_searchFor 29 = .ok (.iaload, 1) := by decide +kernel
theorem dX6_searchFor_30 : decode cX6_searchFor 30 = .ok (.putfield 21, 3) := by decide +kernel
theorem dX6_searchFor_33 : decode cX6_searchFor 33 = .ok (.aload_n 0, 1) := by decide +kernel
theorem dX6_searchFor_34 : decode cX6_searchFor 34 = .ok (.aload_n 1, 1) := by decide +kernel
theorem dX6_searchFor_35 : decode cX6_searchFor 35 = .ok (.iload_n 2, 1) := by decide +kernel
theorem dX6_searchFor_36 : decode cX6_searchFor 36 = .ok (.aload_n 0, 1) := by decide +kernel
theorem dX6_searchFor_37 : decode cX6_searchFor 37 = .ok (.getfield 15, 3) := by decide +kernel
theorem dX6_searchFor_40 : decode cX6_searchFor 40 = .ok (.invokevirtual 53, 3) := by decide +kernel
theorem dX6_searchFor_43 : decode cX6_searchFor 43 = .ok (.putfield 24, 3) := by decide +kernel
theorem dX6_searchFor_46 : decode cX6_searchFor 46 = .ok (.aload_n 0, 1) := by decide +kernel
theorem dX6_searchFor_47 : decode cX6_searchFor 47 = .ok (.iconst 0, 1) := by decide +kernel
theorem dX6_searchFor_48 : decode cX6_searchFor 48 = .ok (.putfield 27, 3) := by decide +kernel
theorem dX6_searchFor_51 : decode cX6_searchFor 51 = .ok (.aload_n 0, 1) := by decide +kernel
theorem dX6_searchFor_52 : decode cX6_searchFor 52 = .ok (.iconst 0, 1) := by decide +kernel
theorem dX6_searchFor_53 : decode cX6_searchFor 53 = .ok (.putfield 30, 3) := by decide +kernel
theorem dX6_searchFor_56 : decode cX6_searchFor 56 = .ok (.aload_n 0, 1) := by decide +kernel
theorem dX6_searchFor_57 : decode cX6_searchFor 57 = .ok (.getfield 33, 3) := by decide +kernel
theorem dX6_searchFor_60 : decode cX6_searchFor 60 = .ok (.getfield 56, 3) := by decide +kernel
theorem dX6_searchFor_63 : decode cX6_searchFor 63 = .ok (.invokestatic 61, 3) := by decide +kernel
theorem dX6_searchFor_66 : decode cX6_searchFor 66 = .ok (.iconst 1, 1) := by decide +kernel
theorem dX6_searchFor_67 : decode cX6_searchFor 67 = .ok (.iload_n 2, 1) := by decide +kernel
theorem dX6_searchFor_68 : decode cX6_searchFor 68 = .ok (.ishl, 1) := by decide +kernel
theorem dX6_searchFor_69 : decode cX6_searchFor 69 = .ok (.iconst (-1), 1) := by decide +kernel
theorem dX6_searchFor_70 : decode cX6_searchFor 70 = .ok (.ixor, 1) := by decide +kernel
theorem dX6_searchFor_71 : decode cX6_searchFor 71 = .ok (.iand, 1) := by decide +kernel
theorem dX6_searchFor_72 : decode cX6_searchFor 72 = .ok (.istore 4, 2) := by decide +kernel
theorem dX6_searchFor_74 : decode cX6_searchFor 74 = .ok (.aload_n 0, 1) := by decide +kernel
theorem dX6_searchFor_75 : decode cX6_searchFor 75 = .ok (.getfield 37, 3) := by decide +kernel
theorem dX6_searchFor_78 : decode cX6_searchFor 78 = .ok (.getfield 65, 3) := by decide +kernel
theorem dX6_searchFor_81 : decode cX6_searchFor 81 = .ok (.astore 5, 2) := by decide +kernel
theorem dX6_searchFor_83 : decode cX6_searchFor 83 = .ok (.aload 5, 2) := by decide +kernel
theorem dX6_searchFor_85 : decode cX6_searchFor 85 = .ok (.iconst 1, 1) := by decide +kernel
theorem dX6_searchFor_86 : decode cX6_searchFor 86 = .ok (.iconst 0, 1) := by decide +kernel
theorem dX6_searchFor_87 : decode cX6_searchFor 87 = .ok (.iastore, 1) := by decide +kernel
theorem dX6_searchFor_88 : decode cX6_searchFor 88 = .ok (.aload 5, 2) := by decide +kernel
theorem dX6_searchFor_90 : decode cX6_searchFor 90 = .ok (.iconst 4, 1) := by decide +kernel
theorem dX6_searchFor_91 : decode cX6_searchFor 91 = .ok (.aload_n 0, 1) := by decide +kernel
theorem dX6_searchFor_92 : decode cX6_searchFor 92 = .ok (.getfield 33, 3) := by decide +kernel
theorem dX6_searchFor_95 : decode cX6_searchFor 95 = .ok (.getfield 70, 3) := by decide +kernel
theorem dX6_searchFor_98 : decode cX6_searchFor 98 = .ok (.iload_n 2, 1) := by decide +kernel
theorem dX6_searchFor_99 : decode cX6_searchFor 99 = .ok (.iaload, 1) := by decide +kernel
theorem dX6_searchFor_100 : decode cX6_searchFor 100 = .ok (.iastore, 1) := by decide +kernel
theorem dX6_searchFor_101 : decode cX6_searchFor 101 = .ok (.aload 5, 2) := by decide +kernel
theorem dX6_searchFor_103 : decode cX6_searchFor 103 = .ok (.iconst 5, 1) := by decide +kernel
theorem dX6_searchFor_104 : decode cX6_searchFor 104 = .ok (.aload_n 0, 1) := by decide +kernel
theorem dX6_searchFor_105 : decode cX6_searchFor 105 = .ok (.getfield 33, 3) := by decide +kernel
theorem dX6_searchFor_108 : decode cX6_searchFor 108 = .ok (.getfield 73, 3) := by decide +kernel
theorem dX6_searchFor_111 : decode cX6_searchFor 111 = .ok (.iload_n 2, 1) := by decide +kernel
theorem dX6_searchFor_112 : decode cX6_searchFor 112 = .ok (.iaload, 1) := by decide +kernel
theorem dX6_searchFor_113 : decode cX6_searchFor 113 = .ok (.aload_n 0, 1) := by decide +kernel
theorem dX6_searchFor_114 : decode cX6_searchFor 114 = .ok (.getfield 33, 3) := by decide +kernel
theorem dX6_searchFor_117 : decode cX6_searchFor 117 = .ok (.iload 4, 2) := by decide +kernel
theorem dX6_searchFor_119 : decode cX6_searchFor 119 = .ok (.invokevirtual 76, 3) := by decide +kernel
theorem dX6_searchFor_122 : decode cX6_searchFor 122 = .ok (.iconst (-1), 1) := by decide +kernel
theorem dX6_searchFor_123 : decode cX6_searchFor 123 = .ok (.ixor, 1) := by decide +kernel
theorem dX6_searchFor_124 : decode cX6_searchFor 124 = .ok (.iand, 1) := by decide +kernel
theorem dX6_searchFor_125 : decode cX6_searchFor 125 = .ok (.invokestatic 79, 3) := by decide +kernel
theorem dX6_searchFor_128 : decode cX6_searchFor 128 = .ok (.iastore, 1) := by decide +kernel
theorem dX6_searchFor_129 : decode cX6_searchFor 129 = .ok (.aload 5, 2) := by decide +kernel
theorem dX6_searchFor_131 : decode cX6_searchFor 131 = .ok (.bipush 6, 2) := by decide +kernel
theorem dX6_searchFor_133 : decode cX6_searchFor 133 = .ok (.iconst 0, 1) := by decide +kernel
theorem dX6_searchFor_134 : decode cX6_searchFor 134 = .ok (.iastore, 1) := by decide +kernel
theorem dX6_searchFor_135 : decode cX6_searchFor 135 = .ok (.aload 5, 2) := by decide +kernel
theorem dX6_searchFor_137 : decode cX6_searchFor 137 = .ok (.bipush 7, 2) := by decide +kernel
theorem dX6_searchFor_139 : decode cX6_searchFor 139 = .ok (.iload_n 2, 1) := by decide +kernel
theorem dX6_searchFor_140 : decode cX6_searchFor 140 = .ok (.iastore, 1) := by decide +kernel
theorem dX6_searchFor_141 : decode cX6_searchFor 141 = .ok (.aload_n 0, 1) := by decide +kernel
theorem dX6_searchFor_142 : decode cX6_searchFor 142 = .ok (.iconst 0, 1) := by decide +kernel
theorem dX6_searchFor_143 : decode cX6_searchFor 143 = .ok (.iconst 0, 1) := by decide +kernel
theorem dX6_searchFor_144 : decode cX6_searchFor 144 = .ok (.aload_n 1, 1) := by decide +kernel
theorem dX6_searchFor_145 : decode cX6_searchFor 145 = .ok (.getfield 84, 3) := by decide +kernel
theorem dX6_searchFor_148 : decode cX6_searchFor 148 = .ok (.iload_n 2, 1) := by decide +kernel
theorem dX6_searchFor_149 : decode cX6_searchFor 149 = .ok (.iaload, 1) := by decide +kernel
theorem dX6_searchFor_150 : decode cX6_searchFor 150 = .ok (.invokevirtual 87, 3) := by decide +kernel
theorem dX6_searchFor_153 : decode cX6_searchFor 153 = .ok (.return_, 1) := by decide +kernel
theorem dX6_searchFrom_0 : decode cX6_searchFrom 0 = .ok (.iload_n 1, 1) := by decide +kernel
theorem dX6_searchFrom_1 : decode cX6_searchFrom 1 = .ok (.aload_n 0, 1) := by decide +kernel
theorem dX6_searchFrom_2 : decode cX6_searchFrom 2 = .ok (.getfield 15, 3) := by decide +kernel
theorem dX6_searchFrom_5 : decode cX6_searchFrom 5 = .ok (.if_icmp .lt 9, 3) := by decide +kernel
theorem dX6_searchFrom_8 : decode cX6_searchFrom 8 = .ok (.aload_n 0, 1) := by decide +kernel
theorem dX6_searchFrom_9 : decode cX6_searchFrom 9 = .ok (.iload_n 2, 1) := by decide +kernel
theorem dX6_searchFrom_10 : decode cX6_searchFrom 10 = .ok (.invokevirtual 91, 3) := by decide +kernel
theorem dX6_searchFrom_13 : decode cX6_searchFrom 13 = .ok (.return_, 1) := by decide +kernel
theorem dX6_searchFrom_14 : decode cX6_searchFrom 14 = .ok (.aload_n 0, 1) := by decide +kernel
theorem dX6_searchFrom_15 : decode cX6_searchFrom 15 = .ok (.iload_n 1, 1) := by decide +kernel
theorem dX6_searchFrom_16 : decode cX6_searchFrom 16 = .ok (.iconst 1, 1) := by decide +kernel
theorem dX6_searchFrom_17 : decode cX6_searchFrom 17 = .ok (.iadd, 1) := by decide +kernel
theorem dX6_searchFrom_18 : decode cX6_searchFrom 18 = .ok (.iload_n 2, 1) := by decide +kernel
theorem dX6_searchFrom_19 : decode cX6_searchFrom 19 = .ok (.sipush 999, 3) := by decide +kernel
theorem dX6_searchFrom_22 : decode cX6_searchFrom 22 = .ok (.iload_n 3, 1) := by decide +kernel
theorem dX6_searchFrom_23 : decode cX6_searchFrom 23 = .ok (.aload_n 0, 1) := by decide +kernel
theorem dX6_searchFrom_24 : decode cX6_searchFrom 24 = .ok (.getfield 33, 3) := by decide +kernel
theorem dX6_searchFrom_27 : decode cX6_searchFrom 27 = .ok (.getfield 70, 3) := by decide +kernel
theorem dX6_searchFrom_30 : decode cX6_searchFrom 30 = .ok (.aload_n 0, 1) := by decide +kernel
theorem dX6_searchFrom_31 : decode cX6_searchFrom 31 = .ok (.getfield 9, 3) := by decide +kernel
theorem dX6_searchFrom_34 : decode cX6_searchFrom 34 = .ok (.iaload, 1) := by decide +kernel
theorem dX6_searchFrom_35 : decode cX6_searchFrom 35 = .ok (.iadd, 1) := by decide +kernel
theorem dX6_searchFrom_36 : decode cX6_searchFrom 36 = .ok (.invokestatic 41, 3) := by decide +kernel
theorem dX6_searchFrom_39 : decode cX6_searchFrom 39 = .ok (.invokevirtual 87, 3) := by decide +kernel
theorem dX6_searchFrom_42 : decode cX6_searchFrom 42 = .ok (.aload_n 0, 1) := by decide +kernel
theorem dX6_searchFrom_43 : decode cX6_searchFrom 43 = .ok (.getfield 24, 3) := by decide +kernel
theorem dX6_searchFrom_46 : decode cX6_searchFrom 46 = .ok (.iload_n 1, 1) := by decide +kernel
theorem dX6_searchFrom_47 : decode cX6_searchFrom 47 = .ok (.ishr, 1) := by decide +kernel
theorem dX6_searchFrom_48 : decode cX6_searchFrom 48 = .ok (.iconst 1, 1) := by decide +kernel
theorem dX6_searchFrom_49 : decode cX6_searchFrom 49 = .ok (.iand, 1) := by decide +kernel
theorem dX6_searchFrom_50 : decode cX6_searchFrom 50 = .ok (.ifCond .eq 4, 3) := by decide +kernel
theorem dX6_searchFrom_53 : decode cX6_searchFrom 53 = .ok (.return_, 1) := by decide +kernel
theorem dX6_searchFrom_54 : decode cX6_searchFrom 54 = .ok (.aload_n 0, 1) := by decide +kernel
theorem dX6_searchFrom_55 : decode cX6_searchFrom 55 = .ok (.getfield 37, 3) := by decide +kernel
theorem dX6_searchFrom_58 : decode cX6_searchFrom 58 = .ok (.getfield 65, 3) := by decide +kernel
theorem dX6_searchFrom_61 : decode cX6_searchFrom 61 = .ok (.astore 4, 2) := by decide +kernel
theorem dX6_searchFrom_63 : decode cX6_searchFrom 63 = .ok (.aload 4, 2) := by decide +kernel
theorem dX6_searchFrom_65 : decode cX6_searchFrom 65 = .ok (.iconst 0, 1) := by decide +kernel
theorem dX6_searchFrom_66 : decode cX6_searchFrom 66 = .ok (.aload_n 0, 1) := by decide +kernel
theorem dX6_searchFrom_67 : decode cX6_searchFrom 67 = .ok (.getfield 18, 3) := by decide +kernel
theorem dX6_searchFrom_70 : decode cX6_searchFrom 70 = .ok (.iload_n 1, 1) := by decide +kernel
theorem dX6_searchFrom_71 : decode cX6_searchFrom 71 = .ok (.iadd, 1) := by decide +kernel
theorem dX6_searchFrom_72 : decode cX6_searchFrom 72 = .ok (.iastore, 1) := by decide +kernel
theorem dX6_searchFrom_73 : decode cX6_searchFrom 73 = .ok (.aload 4, 2) := by decide +kernel
theorem dX6_searchFrom_75 : decode cX6_searchFrom 75 = .ok (.iconst 2, 1) := by decide +kernel
theorem dX6_searchFrom_76 : decode cX6_searchFrom 76 = .ok (.aload_n 0, 1) := by decide +kernel
theorem dX6_searchFrom_77 : decode cX6_searchFrom 77 = .ok (.getfield 21, 3) := by decide +kernel
theorem dX6_searchFrom_80 : decode cX6_searchFrom 80 = .ok (.iload_n 2, 1) := by decide +kernel
theorem dX6_searchFrom_81 : decode cX6_searchFrom 81 = .ok (.invokestatic 79, 3) := by decide +kernel
theorem dX6_searchFrom_84 : decode cX6_searchFrom 84 = .ok (.iadd, 1) := by decide +kernel
theorem dX6_searchFrom_85 : decode cX6_searchFrom 85 = .ok (.iastore, 1) := by decide +kernel
theorem dX6_searchFrom_86 : decode cX6_searchFrom 86 = .ok (.aload 4, 2) := by decide +kernel
theorem dX6_searchFrom_88 : decode cX6_searchFrom 88 = .ok (.iconst 3, 1) := by decide +kernel
theorem dX6_searchFrom_89 : decode cX6_searchFrom 89 = .ok (.iload_n 3, 1) := by decide +kernel
theorem dX6_searchFrom_90 : decode cX6_searchFrom 90 = .ok (.iastore, 1) := by decide +kernel
theorem dX6_searchFrom_91 : decode cX6_searchFrom 91 = .ok (.aload_n 0, 1) := by decide +kernel
theorem dX6_searchFrom_92 : decode cX6_searchFrom 92 = .ok (.getfield 37, 3) := by decide +kernel
theorem dX6_searchFrom_95 : decode cX6_searchFrom 95 = .ok (.invokevirtual 95, 3) := by decide +kernel
theorem dX6_searchFrom_98 : decode cX6_searchFrom 98 = .ok (.istore 5, 2) := by decide +kernel
theorem dX6_searchFrom_100 : decode cX6_searchFrom 100 = .ok (.iload 5, 2) := by decide +kernel
theorem dX6_searchFrom_102 : decode cX6_searchFrom 102 = .ok (.iload_n 3, 1) := by decide +kernel
theorem dX6_searchFrom_103 : decode cX6_searchFrom 103 = .ok (.if_icmp .gt 19, 3) := by decide +kernel
theorem dX6_searchFrom_106 : decode cX6_searchFrom 106 = .ok (.aload_n 0, 1) := by decide +kernel
theorem dX6_searchFrom_107 : decode cX6_searchFrom 107 = .ok (.iload_n 1, 1) := by decide +kernel
theorem dX6_searchFrom_108 : decode cX6_searchFrom 108 = .ok (.iconst 1, 1) := by decide +kernel
theorem dX6_searchFrom_109 : decode cX6_searchFrom 109 = .ok (.iadd, 1) := by decide +kernel
theorem dX6_searchFrom_110 : decode cX6_searchFrom 110 = .ok (.iload_n 2, 1) := by decide +kernel
theorem dX6_searchFrom_111 : decode cX6_searchFrom 111 = .ok (.iconst 1, 1) := by decide +kernel
theorem dX6_searchFrom_112 : decode cX6_searchFrom 112 = .ok (.iload_n 1, 1) := by decide +kernel
theorem dX6_searchFrom_113 : decode cX6_searchFrom 113 = .ok (.ishl, 1) := by decide +kernel
theorem dX6_searchFrom_114 : decode cX6_searchFrom 114 = .ok (.ior, 1) := by decide +kernel
theorem dX6_searchFrom_115 : decode cX6_searchFrom 115 = .ok (.iload_n 3, 1) := by decide +kernel
theorem dX6_searchFrom_116 : decode cX6_searchFrom 116 = .ok (.iload 5, 2) := by decide +kernel
theorem dX6_searchFrom_118 : decode cX6_searchFrom 118 = .ok (.isub, 1) := by decide +kernel
theorem dX6_searchFrom_119 : decode cX6_searchFrom 119 = .ok (.invokevirtual 87, 3) := by decide +kernel
theorem dX6_searchFrom_122 : decode cX6_searchFrom 122 = .ok (.return_, 1) := by decide +kernel
theorem dX6_noteSet_0 : decode cX6_noteSet 0 = .ok (.iload_n 1, 1) := by decide +kernel
theorem dX6_noteSet_1 : decode cX6_noteSet 1 = .ok (.invokestatic 79, 3) := by decide +kernel
theorem dX6_noteSet_4 : decode cX6_noteSet 4 = .ok (.istore_n 2, 1) := by decide +kernel
theorem dX6_noteSet_5 : decode cX6_noteSet 5 = .ok (.iload_n 2, 1) := by decide +kernel
theorem dX6_noteSet_6 : decode cX6_noteSet 6 = .ok (.aload_n 0, 1) := by decide +kernel
theorem dX6_noteSet_7 : decode cX6_noteSet 7 = .ok (.getfield 27, 3) := by decide +kernel
theorem dX6_noteSet_10 : decode cX6_noteSet 10 = .ok (.if_icmp .gt 19, 3) := by decide +kernel
theorem dX6_noteSet_13 : decode cX6_noteSet 13 = .ok (.iload_n 2, 1) := by decide +kernel
theorem dX6_noteSet_14 : decode cX6_noteSet 14 = .ok (.aload_n 0, 1) := by decide +kernel
theorem dX6_noteSet_15 : decode cX6_noteSet 15 = .ok (.getfield 27, 3) := by decide +kernel
theorem dX6_noteSet_18 : decode cX6_noteSet 18 = .ok (.if_icmp .ne 21, 3) := by decide +kernel
theorem dX6_noteSet_21 : decode cX6_noteSet 21 = .ok (.iload_n 1, 1) := by decide +kernel
theorem dX6_noteSet_22 : decode cX6_noteSet 22 = .ok (.aload_n 0, 1) := by decide +kernel
theorem dX6_noteSet_23 : decode cX6_noteSet 23 = .ok (.getfield 30, 3) := by decide +kernel
theorem dX6_noteSet_26 : decode cX6_noteSet 26 = .ok (.if_icmp .ge 13, 3) := by decide +kernel
theorem dX6_noteSet_29 : decode cX6_noteSet 29 = .ok (.aload_n 0, 1) := by decide +kernel
theorem dX6_noteSet_30 : decode cX6_noteSet 30 = .ok (.iload_n 2, 1) := by decide +kernel
theorem dX6_noteSet_31 : decode cX6_noteSet 31 = .ok (.putfield 27, 3) := by decide +kernel
theorem dX6_noteSet_34 : decode cX6_noteSet 34 = .ok (.aload_n 0, 1) := by decide +kernel
theorem dX6_noteSet_35 : decode cX6_noteSet 35 = .ok (.iload_n 1, 1) := by decide +kernel
theorem dX6_noteSet_36 : decode cX6_noteSet 36 = .ok (.putfield 30, 3) := by decide +kernel
theorem dX6_noteSet_39 : decode cX6_noteSet 39 = .ok (.return_, 1) := by decide +kernel
theorem dX7_init_0 : decode cX7_init 0 = .ok (.aload_n 0, 1) := by decide +kernel
theorem dX7_init_1 : decode cX7_init 1 = .ok (.invokespecial 3, 3) := by decide +kernel
theorem dX7_init_4 : decode cX7_init 4 = .ok (.aload_n 0, 1) := by decide +kernel
theorem dX7_init_5 : decode cX7_init 5 = .ok (.sipush 600, 3) := by decide +kernel
theorem dX7_init_8 : decode cX7_init 8 = .ok (.newarray .byte, 2) := by decide +kernel
theorem dX7_init_10 : decode cX7_init 10 = .ok (.putfield 9, 3) := by decide +kernel
theorem dX7_init_13 : decode cX7_init 13 = .ok (.aload_n 0, 1) := by decide +kernel
theorem dX7_init_14 : decode cX7_init 14 = .ok (.iconst 0, 1) := by decide +kernel
theorem dX7_init_15 : decode cX7_init 15 = .ok (.putfield 15, 3) := by decide +kernel
theorem dX7_init_18 : decode cX7_init 18 = .ok (.aload_n 0, 1) := by decide +kernel
theorem dX7_init_19 : decode cX7_init 19 = .ok (.iconst 0, 1) := by decide +kernel
theorem dX7_init_20 : decode cX7_init 20 = .ok (.putfield 19, 3) := by decide +kernel
theorem dX7_init_23 : decode cX7_init 23 = .ok (.aload_n 0, 1) := by decide +kernel
theorem dX7_init_24 : decode cX7_init 24 = .ok (.iconst 0, 1) := by decide +kernel
theorem dX7_init_25 : decode cX7_init 25 = .ok (.putfield 22, 3) := by decide +kernel
theorem dX7_init_28 : decode cX7_init 28 = .ok (.aload_n 0, 1) := by decide +kernel
theorem dX7_init_29 : decode cX7_init 29 = .ok (.iconst 0, 1) := by decide +kernel
theorem dX7_init_30 : decode cX7_init 30 = .ok (.putfield 25, 3) := by decide +kernel
theorem dX7_init_33 : decode cX7_init 33 = .ok (.aload_n 0, 1) := by decide +kernel
theorem dX7_init_34 : decode cX7_init 34 = .ok (.iconst (-1), 1) := by decide +kernel
theorem dX7_init_35 : decode cX7_init 35 = .ok (.putfield 28, 3) := by decide +kernel
theorem dX7_init_38 : decode cX7_init 38 = .ok (.aload_n 0, 1) := by decide +kernel
theorem dX7_init_39 : decode cX7_init 39 = .ok (.iconst 0, 1) := by decide +kernel
theorem dX7_init_40 : decode cX7_init 40 = .ok (.putfield 31, 3) := by decide +kernel
theorem dX7_init_43 : decode cX7_init 43 = .ok (.return_, 1) := by decide +kernel
theorem dX7_hasRoomFor_0 : decode cX7_hasRoomFor 0 = .ok (.aload_n 0, 1) := by decide +kernel
theorem dX7_hasRoomFor_1 : decode cX7_hasRoomFor 1 = .ok (.getfield 15, 3) := by decide +kernel
theorem dX7_hasRoomFor_4 : decode cX7_hasRoomFor 4 = .ok (.iload_n 1, 1) := by decide +kernel
theorem dX7_hasRoomFor_5 : decode cX7_hasRoomFor 5 = .ok (.iadd, 1) := by decide +kernel
theorem dX7_hasRoomFor_6 : decode cX7_hasRoomFor 6 = .ok (.sipush 600, 3) := by decide +kernel
theorem dX7_hasRoomFor_9 : decode cX7_hasRoomFor 9 = .ok (.if_icmp .gt 7, 3) := by decide +kernel
theorem dX7_hasRoomFor_12 : decode cX7_hasRoomFor 12 = .ok (.iconst 1, 1) := by decide +kernel
theorem dX7_hasRoomFor_13 : decode cX7_hasRoomFor 13 = .ok (.goto 4, 3) := by decide +kernel
theorem dX7_hasRoomFor_16 : decode cX7_hasRoomFor 16 = .ok (.iconst 0, 1) := by decide +kernel
theorem dX7_hasRoomFor_17 : decode cX7_hasRoomFor 17 = .ok (.ireturn, 1) := by decide +kernel
theorem dX7_addBytesOf_0 : decode cX7_addBytesOf 0 = .ok (.bipush 24, 2) := by decide +kernel
theorem dX7_addBytesOf_2 : decode cX7_addBytesOf 2 = .ok (.istore_n 2, 1) := by decide +kernel
theorem dX7_addBytesOf_3 : decode cX7_addBytesOf 3 = .ok (.iload_n 2, 1) := by decide +kernel
theorem dX7_addBytesOf_4 : decode cX7_addBytesOf 4 = .ok (.ifCond .lt 42, 3) := by decide +kernel
theorem dX7_addBytesOf_7 : decode cX7_addBytesOf 7 = .ok (.aload_n 0, 1) := by decide +kernel
theorem dX7_addBytesOf_8 : decode cX7_addBytesOf 8 = .ok (.getfield 15, 3) := by decide +kernel
theorem dX7_addBytesOf_11 : decode cX7_addBytesOf 11 = .ok (.sipush 600, 3) := by decide +kernel
theorem dX7_addBytesOf_14 : decode cX7_addBytesOf 14 = .ok (.if_icmp .ge 32, 3) := by decide +kernel
theorem dX7_addBytesOf_17 : decode cX7_addBytesOf 17 = .ok (.aload_n 0, 1) := by decide +kernel
theorem dX7_addBytesOf_18 : decode cX7_addBytesOf 18 = .ok (.getfield 9, 3) := by decide +kernel
theorem dX7_addBytesOf_21 : decode cX7_addBytesOf 21 = .ok (.aload_n 0, 1) := by decide +kernel
theorem dX7_addBytesOf_22 : decode cX7_addBytesOf 22 = .ok (.getfield 15, 3) := by decide +kernel
theorem dX7_addBytesOf_25 : decode cX7_addBytesOf 25 = .ok (.iload_n 1, 1) := by decide +kernel
theorem dX7_addBytesOf_26 : decode cX7_addBytesOf 26 = .ok (.iload_n 2, 1) := by decide +kernel
theorem dX7_addBytesOf_27 : decode cX7_addBytesOf 27 = .ok (.ishr, 1) := by decide +kernel
theorem dX7_addBytesOf_28 : decode cX7_addBytesOf 28 = .ok (.i2b, 1) := by decide +kernel
theorem dX7_addBytesOf_29 : decode cX7_addBytesOf 29 = .ok (.bastore, 1) := by decide +kernel
theorem dX7_addBytesOf_30 : decode cX7_addBytesOf 30 = .ok (.aload_n 0, 1) := by decide +kernel
theorem dX7_addBytesOf_31 : decode cX7_addBytesOf 31 = .ok (.dup, 1) := by decide +kernel
theorem dX7_addBytesOf_32 : decode cX7_addBytesOf 32 = .ok (.getfield 15, 3) := by decide +kernel
theorem dX7_addBytesOf_35 : decode cX7_addBytesOf 35 = .ok (.iconst 1, 1) := by decide +kernel
theorem dX7_addBytesOf_36 : decode cX7_addBytesOf 36 = .ok (.iadd, 1) := by decide +kernel
theorem dX7_addBytesOf_37 : decode cX7_addBytesOf 37 = .ok (.putfield 15, 3) := by decide +kernel
theorem dX7_addBytesOf_40 : decode cX7_addBytesOf 40 = .ok (.iinc 2 (-8), 3) := by decide +kernel
theorem dX7_addBytesOf_43 : decode cX7_addBytesOf 43 = .ok (.goto (-40), 3) := by decide +kernel
theorem dX7_addBytesOf_46 : decode cX7_addBytesOf 46 = .ok (.return_, 1) := by decide +kernel
theorem dX7_beginReading_0 : decode cX7_beginReading 0 = .ok (.aload_n 0, 1) := by decide +kernel
theorem dX7_beginReading_1 : decode cX7_beginReading 1 = .ok (.iload_n 1, 1) := by decide +kernel
theorem dX7_beginReading_2 : decode cX7_beginReading 2 = .ok (.putfield 19, 3) := by decide +kernel
theorem dX7_beginReading_5 : decode cX7_beginReading 5 = .ok (.aload_n 0, 1) := by decide +kernel
theorem dX7_beginReading_6 : decode cX7_beginReading 6 = .ok (.iconst 0, 1) := by decide +kernel
theorem dX7_beginReading_7 : decode cX7_beginReading 7 = .ok (.putfield 15, 3) := by decide +kernel
theorem dX7_beginReading_10 : decode cX7_beginReading 10 = .ok (.aload_n 0, 1) := by decide +kernel
theorem dX7_beginReading_11 : decode cX7_beginReading 11 = .ok (.iconst 0, 1) := by decide +kernel
theorem dX7_beginReading_12 : decode cX7_beginReading 12 = .ok (.putfield 22, 3) := by decide +kernel
theorem dX7_beginReading_15 : decode cX7_beginReading 15 = .ok (.aload_n 0, 1) := by decide +kernel
theorem dX7_beginReading_16 : decode cX7_beginReading 16 = .ok (.iconst 0, 1) := by decide +kernel
theorem dX7_beginReading_17 : decode cX7_beginReading 17 = .ok (.putfield 25, 3) := by decide +kernel
theorem dX7_beginReading_20 : decode cX7_beginReading 20 = .ok (.aload_n 0, 1) := by decide +kernel
theorem dX7_beginReading_21 : decode cX7_beginReading 21 = .ok (.iconst (-1), 1) := by decide +kernel
theorem dX7_beginReading_22 : decode cX7_beginReading 22 = .ok (.putfield 28, 3) := by decide +kernel
theorem dX7_beginReading_25 : decode cX7_beginReading 25 = .ok (.return_, 1) := by decide +kernel
theorem dX7_flawed_0 : decode cX7_flawed 0 = .ok (.aload_n 0, 1) := by decide +kernel
theorem dX7_flawed_1 : decode cX7_flawed 1 = .ok (.getfield 25, 3) := by decide +kernel
theorem dX7_flawed_4 : decode cX7_flawed 4 = .ok (.ifCond .eq 7, 3) := by decide +kernel
theorem dX7_flawed_7 : decode cX7_flawed 7 = .ok (.iconst 1, 1) := by decide +kernel
theorem dX7_flawed_8 : decode cX7_flawed 8 = .ok (.goto 4, 3) := by decide +kernel
theorem dX7_flawed_11 : decode cX7_flawed 11 = .ok (.iconst 0, 1) := by decide +kernel
theorem dX7_flawed_12 : decode cX7_flawed 12 = .ok (.ireturn, 1) := by decide +kernel
theorem dX7_signPlace_0 : decode cX7_signPlace 0 = .ok (.aload_n 0, 1) := by decide +kernel
theorem dX7_signPlace_1 : decode cX7_signPlace 1 = .ok (.getfield 22, 3) := by decide +kernel
theorem dX7_signPlace_4 : decode cX7_signPlace 4 = .ok (.ireturn, 1) := by decide +kernel
theorem dX7_flawAnswer_0 : decode cX7_flawAnswer 0 = .ok (.aload_n 0, 1) := by decide +kernel
theorem dX7_flawAnswer_1 : decode cX7_flawAnswer 1 = .ok (.getfield 25, 3) := by decide +kernel
theorem dX7_flawAnswer_4 : decode cX7_flawAnswer 4 = .ok (.bipush 10, 2) := by decide +kernel
theorem dX7_flawAnswer_6 : decode cX7_flawAnswer 6 = .ok (.isub, 1) := by decide +kernel
theorem dX7_flawAnswer_7 : decode cX7_flawAnswer 7 = .ok (.ireturn, 1) := by decide +kernel
theorem dX7_noteFlaw_0 : decode cX7_noteFlaw 0 = .ok (.aload_n 0, 1) := by decide +kernel
theorem dX7_noteFlaw_1 : decode cX7_noteFlaw 1 = .ok (.getfield 25, 3) := by decide +kernel
theorem dX7_noteFlaw_4 : decode cX7_noteFlaw 4 = .ok (.ifCond .ne 13, 3) := by decide +kernel
theorem dX7_noteFlaw_7 : decode cX7_noteFlaw 7 = .ok (.aload_n 0, 1) := by decide +kernel
theorem dX7_noteFlaw_8 : decode cX7_noteFlaw 8 = .ok (.iload_n 1, 1) := by decide +kernel
theorem dX7_noteFlaw_9 : decode cX7_noteFlaw 9 = .ok (.putfield 25, 3) := by decide +kernel
theorem dX7_noteFlaw_12 : decode cX7_noteFlaw 12 = .ok (.aload_n 0, 1) := by decide +kernel
theorem dX7_noteFlaw_13 : decode cX7_noteFlaw 13 = .ok (.iload_n 2, 1) := by decide +kernel
theorem dX7_noteFlaw_14 : decode cX7_noteFlaw 14 = .ok (.putfield 28, 3) := by decide +kernel
theorem dX7_noteFlaw_17 : decode cX7_noteFlaw 17 = .ok (.return_, 1) := by decide +kernel
theorem dX7_peekSign_0 : decode cX7_peekSign 0 = .ok (.aload_n 0, 1) := by decide +kernel
theorem dX7_peekSign_1 : decode cX7_peekSign 1 = .ok (.getfield 22, 3) := by decide +kernel
theorem dX7_peekSign_4 : decode cX7_peekSign 4 = .ok (.aload_n 0, 1) := by decide +kernel
theorem dX7_peekSign_5 : decode cX7_peekSign 5 = .ok (.getfield 19, 3) := by decide +kernel
theorem dX7_peekSign_8 : decode cX7_peekSign 8 = .ok (.if_icmp .ge 30, 3) := by decide +kernel
theorem dX7_peekSign_11 : decode cX7_peekSign 11 = .ok (.aload_n 0, 1) := by decide +kernel
theorem dX7_peekSign_12 : decode cX7_peekSign 12 = .ok (.getfield 9, 3) := by decide +kernel
theorem dX7_peekSign_15 : decode cX7_peekSign 15 = .ok (.aload_n 0, 1) := by decide +kernel
theorem dX7_peekSign_16 : decode cX7_peekSign 16 = .ok (.getfield 22, 3) := by decide +kernel
theorem dX7_peekSign_19 : decode cX7_peekSign 19 = .ok (.baload, 1) := by decide +kernel
theorem dX7_peekSign_20 : decode cX7_peekSign 20 = .ok (.bipush 32, 2) := by decide +kernel
theorem dX7_peekSign_22 : decode cX7_peekSign 22 = .ok (.if_icmp .ne 16, 3) := by decide +kernel
theorem dX7_peekSign_25 : decode cX7_peekSign 25 = .ok (.aload_n 0, 1) := by decide +kernel
theorem dX7_peekSign_26 : decode cX7_peekSign 26 = .ok (.dup, 1) := by decide +kernel
theorem dX7_peekSign_27 : decode cX7_peekSign 27 = .ok (.getfield 22, 3) := by decide +kernel
theorem dX7_peekSign_30 : decode cX7_peekSign 30 = .ok (.iconst 1, 1) := by decide +kernel
theorem dX7_peekSign_31 : decode cX7_peekSign 31 = .ok (.iadd, 1) := by decide +kernel
theorem dX7_peekSign_32 : decode cX7_peekSign 32 = .ok (.putfield 22, 3) := by decide +kernel
theorem dX7_peekSign_35 : decode cX7_peekSign 35 = .ok (.goto (-35), 3) := by decide +kernel
theorem dX7_peekSign_38 : decode cX7_peekSign 38 = .ok (.aload_n 0, 1) := by decide +kernel
theorem dX7_peekSign_39 : decode cX7_peekSign 39 = .ok (.getfield 22, 3) := by decide +kernel
theorem dX7_peekSign_42 : decode cX7_peekSign 42 = .ok (.aload_n 0, 1) := by decide +kernel
theorem dX7_peekSign_43 : decode cX7_peekSign 43 = .ok (.getfield 19, 3) := by decide +kernel
theorem dX7_peekSign_46 : decode cX7_peekSign 46 = .ok (.if_icmp .ge 19, 3) := by decide +kernel
theorem dX7_peekSign_49 : decode cX7_peekSign 49 = .ok (.aload_n 0, 1) := by decide +kernel
theorem dX7_peekSign_50 : decode cX7_peekSign 50 = .ok (.getfield 9, 3) := by decide +kernel
theorem dX7_peekSign_53 : decode cX7_peekSign 53 = .ok (.aload_n 0, 1) := by decide +kernel
theorem dX7_peekSign_54 : decode cX7_peekSign 54 = .ok (.getfield 22, 3) := by decide +kernel
theorem dX7_peekSign_57 : decode cX7_peekSign 57 = .ok (.baload, 1) := by decide +kernel
theorem dX7_peekSign_58 : decode cX7_peekSign 58 = .ok (.sipush 255, 3) := by decide +kernel
theorem dX7_peekSign_61 : decode cX7_peekSign 61 = .ok (.iand, 1) := by decide +kernel
theorem dX7_peekSign_62 : decode cX7_peekSign 62 = .ok (.goto 4, 3) := by decide +kernel
theorem dX7_peekSign_65 : decode cX7_peekSign 65 = .ok (.iconst (-1), 1) := by decide +kernel
theorem dX7_peekSign_66 : decode cX7_peekSign 66 = .ok (.ireturn, 1) := by decide +kernel
theorem dX7_atEnd_0 : decode cX7_atEnd 0 = .ok (.aload_n 0, 1) := by decide +kernel
theorem dX7_atEnd_1 : decode cX7_atEnd 1 = .ok (.invokevirtual 34, 3) := by decide +kernel
theorem dX7_atEnd_4 : decode cX7_atEnd 4 = .ok (.iconst (-1), 1) := by decide +kernel
theorem dX7_atEnd_5 : decode cX7_atEnd 5 = .ok (.if_icmp .ne 7, 3) := by decide +kernel
theorem dX7_atEnd_8 : decode cX7_atEnd 8 = .ok (.iconst 1, 1) := by decide +kernel
theorem dX7_atEnd_9 : decode cX7_atEnd 9 = .ok (.goto 4, 3) := by decide +kernel
theorem dX7_atEnd_12 : decode cX7_atEnd 12 = .ok (.iconst 0, 1) := by decide +kernel
theorem dX7_atEnd_13 : decode cX7_atEnd 13 = .ok (.ireturn, 1) := by decide +kernel
theorem dX7_atDigit_0 : decode cX7_atDigit 0 = .ok (.aload_n 0, 1) := by decide +kernel
theorem dX7_atDigit_1 : decode cX7_atDigit 1 = .ok (.invokevirtual 34, 3) := by decide +kernel
theorem dX7_atDigit_4 : decode cX7_atDigit 4 = .ok (.invokestatic 38, 3) := by decide +kernel
theorem dX7_atDigit_7 : decode cX7_atDigit 7 = .ok (.ireturn, 1) := by decide +kernel
theorem dX7_takeSign_0 : decode cX7_takeSign 0 = .ok (.aload_n 0, 1) := by decide +kernel
theorem dX7_takeSign_1 : decode cX7_takeSign 1 = .ok (.getfield 25, 3) := by decide +kernel
theorem dX7_takeSign_4 : decode cX7_takeSign 4 = .ok (.ifCond .ne 11, 3) := by decide +kernel
theorem dX7_takeSign_7 : decode cX7_takeSign 7 = .ok (.aload_n 0, 1) := by decide +kernel
theorem dX7_takeSign_8 : decode cX7_takeSign 8 = .ok (.invokevirtual 34, 3) := by decide +kernel
theorem dX7_takeSign_11 : decode cX7_takeSign 11 = .ok (.iload_n 1, 1) := by decide +kernel
theorem dX7_takeSign_12 : decode cX7_takeSign 12 = .ok (.if_icmp .eq 5, 3) := by decide +kernel
theorem dX7_takeSign_15 : decode cX7_takeSign 15 = .ok (.iconst 0, 1) := by decide +kernel
theorem dX7_takeSign_16 : decode cX7_takeSign 16 = .ok (.ireturn, 1) := by decide +kernel
theorem dX7_takeSign_17 : decode cX7_takeSign 17 = .ok (.aload_n 0, 1) := by decide +kernel
theorem dX7_takeSign_18 : decode cX7_takeSign 18 = .ok (.dup, 1) := by decide +kernel
theorem dX7_takeSign_19 : decode cX7_takeSign 19 = .ok (.getfield 22, 3) := by decide +kernel
theorem dX7_takeSign_22 : decode cX7_takeSign 22 = .ok (.iconst 1, 1) := by decide +kernel
theorem dX7_takeSign_23 : decode cX7_takeSign 23 = .ok (.iadd, 1) := by decide +kernel
theorem dX7_takeSign_24 : decode cX7_takeSign 24 = .ok (.putfield 22, 3) := by decide +kernel
theorem dX7_takeSign_27 : decode cX7_takeSign 27 = .ok (.iconst 1, 1) := by decide +kernel
theorem dX7_takeSign_28 : decode cX7_takeSign 28 = .ok (.ireturn, 1) := by decide +kernel
theorem dX7_expectSign_0 : decode cX7_expectSign 0 = .ok (.aload_n 0, 1) := by decide +kernel
theorem dX7_expectSign_1 : decode cX7_expectSign 1 = .ok (.getfield 25, 3) := by decide +kernel
theorem dX7_expectSign_4 : decode cX7_expectSign 4 = .ok (.ifCond .eq 4, 3) := by decide +kernel
theorem dX7_expectSign_7 : decode cX7_expectSign 7 = .ok (.return_, 1) := by decide +kernel
theorem dX7_expectSign_8 : decode cX7_expectSign 8 = .ok (.aload_n 0, 1) := by decide +kernel
theorem dX7_expectSign_9 : decode cX7_expectSign 9 = .ok (.invokevirtual 34, 3) := by decide +kernel
theorem dX7_expectSign_12 : decode cX7_expectSign 12 = .ok (.iload_n 1, 1) := by decide +kernel
theorem dX7_expectSign_13 : decode cX7_expectSign 13 = .ok (.if_icmp .ne 16, 3) := by decide +kernel
theorem dX7_expectSign_16 : decode cX7_expectSign 16 = .ok (.aload_n 0, 1) := by decide +kernel
theorem dX7_expectSign_17 : decode cX7_expectSign 17 = .ok (.dup, 1) := by decide +kernel
theorem dX7_expectSign_18 : decode cX7_expectSign 18 = .ok (.getfield 22, 3) := by decide +kernel
theorem dX7_expectSign_21 : decode cX7_expectSign 21 = .ok (.iconst 1, 1) := by decide +kernel
theorem dX7_expectSign_22 : decode cX7_expectSign 22 = .ok (.iadd, 1) := by decide +kernel
theorem dX7_expectSign_23 : decode cX7_expectSign 23 = .ok (.putfield 22, 3) := by decide +kernel
theorem dX7_expectSign_26 : decode cX7_expectSign 26 = .ok (.goto 12, 3) := by decide +kernel
theorem dX7_expectSign_29 : decode cX7_expectSign 29 = .ok (.aload_n 0, 1) := by decide +kernel
theorem dX7_expectSign_30 : decode cX7_expectSign 30 = .ok (.iconst 1, 1) := by decide +kernel
theorem dX7_expectSign_31 : decode cX7_expectSign 31 = .ok (.aload_n 0, 1) := by decide +kernel
theorem dX7_expectSign_32 : decode cX7_expectSign 32 = .ok (.getfield 22, 3) := by decide +kernel
theorem dX7_expectSign_35 : decode cX7_expectSign 35 = .ok (.invokevirtual 42, 3) := by decide +kernel
theorem dX7_expectSign_38 : decode cX7_expectSign 38 = .ok (.return_, 1) := by decide +kernel
theorem dX7_expectEnd_0 : decode cX7_expectEnd 0 = .ok (.aload_n 0, 1) := by decide +kernel
theorem dX7_expectEnd_1 : decode cX7_expectEnd 1 = .ok (.getfield 25, 3) := by decide +kernel
theorem dX7_expectEnd_4 : decode cX7_expectEnd 4 = .ok (.ifCond .ne 19, 3) := by decide +kernel
theorem dX7_expectEnd_7 : decode cX7_expectEnd 7 = .ok (.aload_n 0, 1) := by decide +kernel
theorem dX7_expectEnd_8 : decode cX7_expectEnd 8 = .ok (.invokevirtual 46, 3) := by decide +kernel
theorem dX7_expectEnd_11 : decode cX7_expectEnd 11 = .ok (.ifCond .ne 12, 3) := by decide +kernel
theorem dX7_expectEnd_14 : decode cX7_expectEnd 14 = .ok (.aload_n 0, 1) := by decide +kernel
theorem dX7_expectEnd_15 : decode cX7_expectEnd 15 = .ok (.iconst 1, 1) := by decide +kernel
theorem dX7_expectEnd_16 : decode cX7_expectEnd 16 = .ok (.aload_n 0, 1) := by decide +kernel
theorem dX7_expectEnd_17 : decode cX7_expectEnd 17 = .ok (.getfield 22, 3) := by decide +kernel
theorem dX7_expectEnd_20 : decode cX7_expectEnd 20 = .ok (.invokevirtual 42, 3) := by decide +kernel
theorem dX7_expectEnd_23 : decode cX7_expectEnd 23 = .ok (.return_, 1) := by decide +kernel
theorem dX7_readNumber_0 : decode cX7_readNumber 0 = .ok (.aload_n 0, 1) := by decide +kernel
theorem dX7_readNumber_1 : decode cX7_readNumber 1 = .ok (.getfield 25, 3) := by decide +kernel
theorem dX7_readNumber_4 : decode cX7_readNumber 4 = .ok (.ifCond .eq 5, 3) := by decide +kernel
theorem dX7_readNumber_7 : decode cX7_readNumber 7 = .ok (.iconst (-1), 1) := by decide +kernel
theorem dX7_readNumber_8 : decode cX7_readNumber 8 = .ok (.ireturn, 1) := by decide +kernel
theorem dX7_readNumber_9 : decode cX7_readNumber 9 = .ok (.aload_n 0, 1) := by decide +kernel
theorem dX7_readNumber_10 : decode cX7_readNumber 10 = .ok (.invokevirtual 50, 3) := by decide +kernel
theorem dX7_readNumber_13 : decode cX7_readNumber 13 = .ok (.ifCond .ne 14, 3) := by decide +kernel
theorem dX7_readNumber_16 : decode cX7_readNumber 16 = .ok (.aload_n 0, 1) := by decide +kernel
theorem dX7_readNumber_17 : decode cX7_readNumber 17 = .ok (.iconst 1, 1) := by decide +kernel
theorem dX7_readNumber_18 : decode cX7_readNumber 18 = .ok (.aload_n 0, 1) := by decide +kernel
theorem dX7_readNumber_19 : decode cX7_readNumber 19 = .ok (.getfield 22, 3) := by decide +kernel
theorem dX7_readNumber_22 : decode cX7_readNumber 22 = .ok (.invokevirtual 42, 3) := by decide +kernel
theorem dX7_readNumber_25 : decode cX7_readNumber 25 = .ok (.iconst (-1), 1) := by decide +kernel
theorem dX7_readNumber_26 : decode cX7_readNumber 26 = .ok (.ireturn, 1) := by decide +kernel
theorem dX7_readNumber_27 : decode cX7_readNumber 27 = .ok (.aload_n 0, 1) := by decide +kernel
theorem dX7_readNumber_28 : decode cX7_readNumber 28 = .ok (.aload_n 0, 1) := by decide +kernel
theorem dX7_readNumber_29 : decode cX7_readNumber 29 = .ok (.getfield 22, 3) := by decide +kernel
theorem dX7_readNumber_32 : decode cX7_readNumber 32 = .ok (.putfield 31, 3) := by decide +kernel
theorem dX7_readNumber_35 : decode cX7_readNumber 35 = .ok (.iconst 0, 1) := by decide +kernel
theorem dX7_readNumber_36 : decode cX7_readNumber 36 = .ok (.istore_n 3, 1) := by decide +kernel
theorem dX7_readNumber_37 : decode cX7_readNumber 37 = .ok (.aload_n 0, 1) := by decide +kernel
theorem dX7_readNumber_38 : decode cX7_readNumber 38 = .ok (.getfield 22, 3) := by decide +kernel
theorem dX7_readNumber_41 : decode cX7_readNumber 41 = .ok (.aload_n 0, 1) := by decide +kernel
theorem dX7_readNumber_42 : decode cX7_readNumber 42 = .ok (.getfield 19, 3) := by decide +kernel
theorem dX7_readNumber_45 : decode cX7_readNumber 45 = .ok (.if_icmp .ge 54, 3) := by decide +kernel
theorem dX7_readNumber_48 : decode cX7_readNumber 48 = .ok (.aload_n 0, 1) := by decide +kernel
theorem dX7_readNumber_49 : decode cX7_readNumber 49 = .ok (.getfield 9, 3) := by decide +kernel
theorem dX7_readNumber_52 : decode cX7_readNumber 52 = .ok (.aload_n 0, 1) := by decide +kernel
theorem dX7_readNumber_53 : decode cX7_readNumber 53 = .ok (.getfield 22, 3) := by decide +kernel
theorem dX7_readNumber_56 : decode cX7_readNumber 56 = .ok (.baload, 1) := by decide +kernel
theorem dX7_readNumber_57 : decode cX7_readNumber 57 = .ok (.invokestatic 38, 3) := by decide +kernel
theorem dX7_readNumber_60 : decode cX7_readNumber 60 = .ok (.ifCond .eq 39, 3) := by decide +kernel
theorem dX7_readNumber_63 : decode cX7_readNumber 63 = .ok (.ldc 53, 2) := by decide +kernel
theorem dX7_readNumber_65 : decode cX7_readNumber 65 = .ok (.iload_n 3, 1) := by decide +kernel
theorem dX7_readNumber_66 : decode cX7_readNumber 66 = .ok (.bipush 10, 2) := by decide +kernel
theorem dX7_readNumber_68 : decode cX7_readNumber 68 = .ok (.imul, 1) := by decide +kernel
theorem dX7_readNumber_69 : decode cX7_readNumber 69 = .ok (.aload_n 0, 1) := by decide +kernel
theorem dX7_readNumber_70 : decode cX7_readNumber 70 = .ok (.getfield 9, 3) := by decide +kernel
theorem dX7_readNumber_73 : decode cX7_readNumber 73 = .ok (.aload_n 0, 1) := by decide +kernel
theorem dX7_readNumber_74 : decode cX7_readNumber 74 = .ok (.getfield 22, 3) := by decide +kernel
theorem dX7_readNumber_77 : decode cX7_readNumber 77 = .ok (.baload, 1) := by decide +kernel
theorem dX7_readNumber_78 : decode cX7_readNumber 78 = .ok (.iadd, 1) := by decide +kernel
theorem dX7_readNumber_79 : decode cX7_readNumber 79 = .ok (.bipush 48, 2) := by decide +kernel
theorem dX7_readNumber_81 : decode cX7_readNumber 81 = .ok (.isub, 1) := by decide +kernel
theorem dX7_readNumber_82 : decode cX7_readNumber 82 = .ok (.invokestatic 54, 3) := by decide +kernel
theorem dX7_readNumber_85 : decode cX7_readNumber 85 = .ok (.istore_n 3, 1) := by decide +kernel
theorem dX7_readNumber_86 : decode cX7_readNumber 86 = .ok (.aload_n 0, 1) := by decide +kernel
theorem dX7_readNumber_87 : decode cX7_readNumber 87 = .ok (.dup, 1) := by decide +kernel
theorem dX7_readNumber_88 : decode cX7_readNumber 88 = .ok (.getfield 22, 3) := by decide +kernel
theorem dX7_readNumber_91 : decode cX7_readNumber 91 = .ok (.iconst 1, 1) := by decide +kernel
theorem dX7_readNumber_92 : decode cX7_readNumber 92 = .ok (.iadd, 1) := by decide +kernel
theorem dX7_readNumber_93 : decode cX7_readNumber 93 = .ok (.putfield 22, 3) := by decide +kernel
theorem dX7_readNumber_96 : decode cX7_readNumber 96 = .ok (.goto (-59), 3) := by decide +kernel
theorem dX7_readNumber_99 : decode cX7_readNumber 99 = .ok (.iload_n 3, 1) := by decide +kernel
theorem dX7_readNumber_100 : decode cX7_readNumber 100 = .ok (.iload_n 1, 1) := by decide +kernel
theorem dX7_readNumber_101 : decode cX7_readNumber 101 = .ok (.if_icmp .lt 8, 3) := by decide +kernel
theorem dX7_readNumber_104 : decode cX7_readNumber 104 = .ok (.iload_n 3, 1) := by decide +kernel
theorem dX7_readNumber_105 : decode cX7_readNumber 105 = .ok (.iload_n 2, 1) := by decide +kernel
theorem dX7_readNumber_106 : decode cX7_readNumber 106 = .ok (.if_icmp .le 14, 3) := by decide +kernel
theorem dX7_readNumber_109 : decode cX7_readNumber 109 = .ok (.aload_n 0, 1) := by decide +kernel
theorem dX7_readNumber_110 : decode cX7_readNumber 110 = .ok (.iconst 2, 1) := by decide +kernel
theorem dX7_readNumber_111 : decode cX7_readNumber 111 = .ok (.aload_n 0, 1) := by decide +kernel
theorem dX7_readNumber_112 : decode cX7_readNumber 112 = .ok (.getfield 31, 3) := by decide +kernel
theorem dX7_readNumber_115 : decode cX7_readNumber 115 = .ok (.invokevirtual 42, 3) := by decide +kernel
theorem dX7_readNumber_118 : decode cX7_readNumber 118 = .ok (.iconst (-1), 1) := by decide +kernel
theorem dX7_readNumber_119 : decode cX7_readNumber 119 = .ok (.ireturn, 1) := by decide +kernel
theorem dX7_readNumber_120 : decode cX7_readNumber 120 = .ok (.iload_n 3, 1) := by decide +kernel
theorem dX7_readNumber_121 : decode cX7_readNumber 121 = .ok (.ireturn, 1) := by decide +kernel
theorem dX7_readWord_0 : decode cX7_readWord 0 = .ok (.aload_n 0, 1) := by decide +kernel
theorem dX7_readWord_1 : decode cX7_readWord 1 = .ok (.getfield 25, 3) := by decide +kernel
theorem dX7_readWord_4 : decode cX7_readWord 4 = .ok (.ifCond .eq 5, 3) := by decide +kernel
theorem dX7_readWord_7 : decode cX7_readWord 7 = .ok (.iconst (-1), 1) := by decide +kernel
theorem dX7_readWord_8 : decode cX7_readWord 8 = .ok (.ireturn, 1) := by decide +kernel
theorem dX7_readWord_9 : decode cX7_readWord 9 = .ok (.aload_n 0, 1) := by decide +kernel
theorem dX7_readWord_10 : decode cX7_readWord 10 = .ok (.invokevirtual 34, 3) := by decide +kernel
theorem dX7_readWord_13 : decode cX7_readWord 13 = .ok (.pop, 1) := by decide +kernel
theorem dX7_readWord_14 : decode cX7_readWord 14 = .ok (.aload_n 0, 1) := by decide +kernel
theorem dX7_readWord_15 : decode cX7_readWord 15 = .ok (.aload_n 0, 1) := by decide +kernel
theorem dX7_readWord_16 : decode cX7_readWord 16 = .ok (.getfield 22, 3) := by decide +kernel
theorem dX7_readWord_19 : decode cX7_readWord 19 = .ok (.putfield 31, 3) := by decide +kernel
theorem dX7_readWord_22 : decode cX7_readWord 22 = .ok (.aload_n 0, 1) := by decide +kernel
theorem dX7_readWord_23 : decode cX7_readWord 23 = .ok (.getfield 22, 3) := by decide +kernel
theorem dX7_readWord_26 : decode cX7_readWord 26 = .ok (.istore_n 2, 1) := by decide +kernel
theorem dX7_readWord_27 : decode cX7_readWord 27 = .ok (.iload_n 2, 1) := by decide +kernel
theorem dX7_readWord_28 : decode cX7_readWord 28 = .ok (.aload_n 0, 1) := by decide +kernel
theorem dX7_readWord_29 : decode cX7_readWord 29 = .ok (.getfield 19, 3) := by decide +kernel
theorem dX7_readWord_32 : decode cX7_readWord 32 = .ok (.if_icmp .ge 31, 3) := by decide +kernel
theorem dX7_readWord_35 : decode cX7_readWord 35 = .ok (.aload_n 0, 1) := by decide +kernel
theorem dX7_readWord_36 : decode cX7_readWord 36 = .ok (.getfield 9, 3) := by decide +kernel
theorem dX7_readWord_39 : decode cX7_readWord 39 = .ok (.iload_n 2, 1) := by decide +kernel
theorem dX7_readWord_40 : decode cX7_readWord 40 = .ok (.baload, 1) := by decide +kernel
theorem dX7_readWord_41 : decode cX7_readWord 41 = .ok (.bipush 97, 2) := by decide +kernel
theorem dX7_readWord_43 : decode cX7_readWord 43 = .ok (.if_icmp .lt 20, 3) := by decide +kernel
theorem dX7_readWord_46 : decode cX7_readWord 46 = .ok (.aload_n 0, 1) := by decide +kernel
theorem dX7_readWord_47 : decode cX7_readWord 47 = .ok (.getfield 9, 3) := by decide +kernel
theorem dX7_readWord_50 : decode cX7_readWord 50 = .ok (.iload_n 2, 1) := by decide +kernel
theorem dX7_readWord_51 : decode cX7_readWord 51 = .ok (.baload, 1) := by decide +kernel
theorem dX7_readWord_52 : decode cX7_readWord 52 = .ok (.bipush 122, 2) := by decide +kernel
theorem dX7_readWord_54 : decode cX7_readWord 54 = .ok (.if_icmp .gt 9, 3) := by decide +kernel
theorem dX7_readWord_57 : decode cX7_readWord 57 = .ok (.iinc 2 1, 3) := by decide +kernel
theorem dX7_readWord_60 : decode cX7_readWord 60 = .ok (.goto (-33), 3) := by decide +kernel
theorem dX7_readWord_63 : decode cX7_readWord 63 = .ok (.aload_n 0, 1) := by decide +kernel
theorem dX7_readWord_64 : decode cX7_readWord 64 = .ok (.aload_n 1, 1) := by decide +kernel
theorem dX7_readWord_65 : decode cX7_readWord 65 = .ok (.aload_n 0, 1) := by decide +kernel
theorem dX7_readWord_66 : decode cX7_readWord 66 = .ok (.getfield 22, 3) := by decide +kernel
theorem dX7_readWord_69 : decode cX7_readWord 69 = .ok (.iload_n 2, 1) := by decide +kernel
theorem dX7_readWord_70 : decode cX7_readWord 70 = .ok (.invokevirtual 60, 3) := by decide +kernel
theorem dX7_readWord_73 : decode cX7_readWord 73 = .ok (.istore_n 3, 1) := by decide +kernel
theorem dX7_readWord_74 : decode cX7_readWord 74 = .ok (.iload_n 3, 1) := by decide +kernel
theorem dX7_readWord_75 : decode cX7_readWord 75 = .ok (.iconst (-1), 1) := by decide +kernel
theorem dX7_readWord_76 : decode cX7_readWord 76 = .ok (.if_icmp .ne 15, 3) := by decide +kernel
theorem dX7_readWord_79 : decode cX7_readWord 79 = .ok (.aload_n 0, 1) := by decide +kernel
theorem dX7_readWord_80 : decode cX7_readWord 80 = .ok (.iconst 1, 1) := by decide +kernel
theorem dX7_readWord_81 : decode cX7_readWord 81 = .ok (.aload_n 0, 1) := by decide +kernel
theorem dX7_readWord_82 : decode cX7_readWord 82 = .ok (.getfield 22, 3) := by decide +kernel
theorem dX7_readWord_85 : decode cX7_readWord 85 = .ok (.invokevirtual 42, 3) := by decide +kernel
theorem dX7_readWord_88 : decode cX7_readWord 88 = .ok (.goto 8, 3) := by decide +kernel
theorem dX7_readWord_91 : decode cX7_readWord 91 = .ok (.aload_n 0, 1) := by decide +kernel
theorem dX7_readWord_92 : decode cX7_readWord 92 = .ok (.iload_n 2, 1) := by decide +kernel
theorem dX7_readWord_93 : decode cX7_readWord 93 = .ok (.putfield 22, 3) := by decide +kernel
theorem dX7_readWord_96 : decode cX7_readWord 96 = .ok (.iload_n 3, 1) := by decide +kernel
theorem dX7_readWord_97 : decode cX7_readWord 97 = .ok (.ireturn, 1) := by decide +kernel
theorem dX7_indexAmong_0 : decode cX7_indexAmong 0 = .ok (.iconst 0, 1) := by decide +kernel
theorem dX7_indexAmong_1 : decode cX7_indexAmong 1 = .ok (.istore 4, 2) := by decide +kernel
theorem dX7_indexAmong_3 : decode cX7_indexAmong 3 = .ok (.iload_n 2, 1) := by decide +kernel
theorem dX7_indexAmong_4 : decode cX7_indexAmong 4 = .ok (.istore 5, 2) := by decide +kernel
theorem dX7_indexAmong_6 : decode cX7_indexAmong 6 = .ok (.iconst 1, 1) := by decide +kernel
theorem dX7_indexAmong_7 : decode cX7_indexAmong 7 = .ok (.istore 6, 2) := by decide +kernel
theorem dX7_indexAmong_9 : decode cX7_indexAmong 9 = .ok (.iconst 0, 1) := by decide +kernel
theorem dX7_indexAmong_10 : decode cX7_indexAmong 10 = .ok (.istore 7, 2) := by decide +kernel
theorem dX7_indexAmong_12 : decode cX7_indexAmong 12 = .ok (.iload 7, 2) := by decide +kernel
theorem dX7_indexAmong_14 : decode cX7_indexAmong 14 = .ok (.aload_n 1, 1) := by decide +kernel
theorem dX7_indexAmong_15 : decode cX7_indexAmong 15 = .ok (.invokevirtual 64, 3) := by decide +kernel
theorem dX7_indexAmong_18 : decode cX7_indexAmong 18 = .ok (.if_icmp .gt 91, 3) := by decide +kernel
theorem dX7_indexAmong_21 : decode cX7_indexAmong 21 = .ok (.iload 7, 2) := by decide +kernel
theorem dX7_indexAmong_23 : decode cX7_indexAmong 23 = .ok (.aload_n 1, 1) := by decide +kernel
theorem dX7_indexAmong_24 : decode cX7_indexAmong 24 = .ok (.invokevirtual 64, 3) := by decide +kernel
theorem dX7_indexAmong_27 : decode cX7_indexAmong 27 = .ok (.if_icmp .ge 12, 3) := by decide +kernel
theorem dX7_indexAmong_30 : decode cX7_indexAmong 30 = .ok (.aload_n 1, 1) := by decide +kernel
theorem dX7_indexAmong_31 : decode cX7_indexAmong 31 = .ok (.iload 7, 2) := by decide +kernel
theorem dX7_indexAmong_33 : decode cX7_indexAmong 33 = .ok (.invokevirtual 69, 3) := by decide +kernel
theorem dX7_indexAmong_36 : decode cX7_indexAmong 36 = .ok (.goto 5, 3) := by decide +kernel
theorem dX7_indexAmong_39 : decode cX7_indexAmong 39 = .ok (.bipush 32, 2) := by decide +kernel
theorem dX7_indexAmong_41 : decode cX7_indexAmong 41 = .ok (.istore 8, 2) := by decide +kernel
theorem dX7_indexAmong_43 : decode cX7_indexAmong 43 = .ok (.iload 8, 2) := by decide +kernel
theorem dX7_indexAmong_45 : decode cX7_indexAmong 45 = .ok (.bipush 32, 2) := by decide +kernel
theorem dX7_indexAmong_47 : decode cX7_indexAmong 47 = .ok (.if_icmp .ne 29, 3) := by decide +kernel
theorem dX7_indexAmong_50 : decode cX7_indexAmong 50 = .ok (.iload 6, 2) := by decide +kernel
theorem dX7_indexAmong_52 : decode cX7_indexAmong 52 = .ok (.ifCond .eq 12, 3) := by decide +kernel
theorem dX7_indexAmong_55 : decode cX7_indexAmong 55 = .ok (.iload 5, 2) := by decide +kernel
theorem dX7_indexAmong_57 : decode cX7_indexAmong 57 = .ok (.iload_n 3, 1) := by decide +kernel
theorem dX7_indexAmong_58 : decode cX7_indexAmong 58 = .ok (.if_icmp .ne 6, 3) := by decide +kernel
theorem dX7_indexAmong_61 : decode cX7_indexAmong 61 = .ok (.iload 4, 2) := by decide +kernel
theorem dX7_indexAmong_63 : decode cX7_indexAmong 63 = .ok (.ireturn, 1) := by decide +kernel
theorem dX7_indexAmong_64 : decode cX7_indexAmong 64 = .ok (.iinc 4 1, 3) := by decide +kernel
theorem dX7_indexAmong_67 : decode cX7_indexAmong 67 = .ok (.iload_n 2, 1) := by decide +kernel
theorem dX7_indexAmong_68 : decode cX7_indexAmong 68 = .ok (.istore 5, 2) := by decide +kernel
theorem dX7_indexAmong_70 : decode cX7_indexAmong 70 = .ok (.iconst 1, 1) := by decide +kernel
theorem dX7_indexAmong_71 : decode cX7_indexAmong 71 = .ok (.istore 6, 2) := by decide +kernel
theorem dX7_indexAmong_73 : decode cX7_indexAmong 73 = .ok (.goto 30, 3) := by decide +kernel
theorem dX7_indexAmong_76 : decode cX7_indexAmong 76 = .ok (.iload 5, 2) := by decide +kernel
theorem dX7_indexAmong_78 : decode cX7_indexAmong 78 = .ok (.iload_n 3, 1) := by decide +kernel
theorem dX7_indexAmong_79 : decode cX7_indexAmong 79 = .ok (.if_icmp .ge 21, 3) := by decide +kernel
theorem dX7_indexAmong_82 : decode cX7_indexAmong 82 = .ok (.aload_n 0, 1) := by decide +kernel
theorem dX7_indexAmong_83 : decode cX7_indexAmong 83 = .ok (.getfield 9, 3) := by decide +kernel
theorem dX7_indexAmong_86 : decode cX7_indexAmong 86 = .ok (.iload 5, 2) := by decide +kernel
theorem dX7_indexAmong_88 : decode cX7_indexAmong 88 = .ok (.baload, 1) := by decide +kernel
theorem dX7_indexAmong_89 : decode cX7_indexAmong 89 = .ok (.iload 8, 2) := by decide +kernel
theorem dX7_indexAmong_91 : decode cX7_indexAmong 91 = .ok (.if_icmp .ne 9, 3) := by decide +kernel
theorem dX7_indexAmong_94 : decode cX7_indexAmong 94 = .ok (.iinc 5 1, 3) := by decide +kernel
theorem dX7_indexAmong_97 : decode cX7_indexAmong 97 = .ok (.goto 6, 3) := by decide +kernel
theorem dX7_indexAmong_100 : decode cX7_indexAmong 100 = .ok (.iconst 0, 1) := by decide +kernel
theorem dX7_indexAmong_101 : decode cX7_indexAmong 101 = .ok (.istore 6, 2) := by decide +kernel
theorem dX7_indexAmong_103 : decode cX7_indexAmong 103 = .ok (.iinc 7 1, 3) := by decide +kernel
theorem dX7_indexAmong_106 : decode cX7_indexAmong 106 = .ok (.goto (-94), 3) := by decide +kernel
theorem dX7_indexAmong_109 : decode cX7_indexAmong 109 = .ok (.iconst (-1), 1) := by decide +kernel
theorem dX7_indexAmong_110 : decode cX7_indexAmong 110 = .ok (.ireturn, 1) := by decide +kernel
theorem dX7_isDigit_0 : decode cX7_isDigit 0 = .ok (.iload_n 0, 1) := by decide +kernel
theorem dX7_isDigit_1 : decode cX7_isDigit 1 = .ok (.bipush 48, 2) := by decide +kernel
theorem dX7_isDigit_3 : decode cX7_isDigit 3 = .ok (.if_icmp .lt 13, 3) := by decide +kernel
theorem dX7_isDigit_6 : decode cX7_isDigit 6 = .ok (.iload_n 0, 1) := by decide +kernel
theorem dX7_isDigit_7 : decode cX7_isDigit 7 = .ok (.bipush 57, 2) := by decide +kernel
theorem dX7_isDigit_9 : decode cX7_isDigit 9 = .ok (.if_icmp .gt 7, 3) := by decide +kernel
theorem dX7_isDigit_12 : decode cX7_isDigit 12 = .ok (.iconst 1, 1) := by decide +kernel
theorem dX7_isDigit_13 : decode cX7_isDigit 13 = .ok (.goto 4, 3) := by decide +kernel
theorem dX7_isDigit_16 : decode cX7_isDigit 16 = .ok (.iconst 0, 1) := by decide +kernel
theorem dX7_isDigit_17 : decode cX7_isDigit 17 = .ok (.ireturn, 1) := by decide +kernel
theorem dX8_init_0 : decode cX8_init 0 = .ok (.aload_n 0, 1) := by decide +kernel
theorem dX8_init_1 : decode cX8_init 1 = .ok (.invokespecial 3, 3) := by decide +kernel
theorem dX8_init_4 : decode cX8_init 4 = .ok (.aload_n 0, 1) := by decide +kernel
theorem dX8_init_5 : decode cX8_init 5 = .ok (.iconst 0, 1) := by decide +kernel
theorem dX8_init_6 : decode cX8_init 6 = .ok (.putfield 9, 3) := by decide +kernel
theorem dX8_init_9 : decode cX8_init 9 = .ok (.aload_n 0, 1) := by decide +kernel
theorem dX8_init_10 : decode cX8_init 10 = .ok (.iconst 0, 1) := by decide +kernel
theorem dX8_init_11 : decode cX8_init 11 = .ok (.putfield 15, 3) := by decide +kernel
theorem dX8_init_14 : decode cX8_init 14 = .ok (.aload_n 0, 1) := by decide +kernel
theorem dX8_init_15 : decode cX8_init 15 = .ok (.iconst 0, 1) := by decide +kernel
theorem dX8_init_16 : decode cX8_init 16 = .ok (.putfield 18, 3) := by decide +kernel
theorem dX8_init_19 : decode cX8_init 19 = .ok (.aload_n 0, 1) := by decide +kernel
theorem dX8_init_20 : decode cX8_init 20 = .ok (.bipush 6, 2) := by decide +kernel
theorem dX8_init_22 : decode cX8_init 22 = .ok (.newarray .int, 2) := by decide +kernel
theorem dX8_init_24 : decode cX8_init 24 = .ok (.putfield 21, 3) := by decide +kernel
theorem dX8_init_27 : decode cX8_init 27 = .ok (.aload_n 0, 1) := by decide +kernel
theorem dX8_init_28 : decode cX8_init 28 = .ok (.bipush 6, 2) := by decide +kernel
theorem dX8_init_30 : decode cX8_init 30 = .ok (.newarray .int, 2) := by decide +kernel
theorem dX8_init_32 : decode cX8_init 32 = .ok (.putfield 25, 3) := by decide +kernel
theorem dX8_init_35 : decode cX8_init 35 = .ok (.aload_n 0, 1) := by decide +kernel
theorem dX8_init_36 : decode cX8_init 36 = .ok (.bipush 6, 2) := by decide +kernel
theorem dX8_init_38 : decode cX8_init 38 = .ok (.newarray .int, 2) := by decide +kernel
theorem dX8_init_40 : decode cX8_init 40 = .ok (.putfield 28, 3) := by decide +kernel
theorem dX8_init_43 : decode cX8_init 43 = .ok (.aload_n 0, 1) := by decide +kernel
theorem dX8_init_44 : decode cX8_init 44 = .ok (.bipush 6, 2) := by decide +kernel
theorem dX8_init_46 : decode cX8_init 46 = .ok (.newarray .int, 2) := by decide +kernel
theorem dX8_init_48 : decode cX8_init 48 = .ok (.putfield 31, 3) := by decide +kernel
theorem dX8_init_51 : decode cX8_init 51 = .ok (.aload_n 0, 1) := by decide +kernel
theorem dX8_init_52 : decode cX8_init 52 = .ok (.bipush 12, 2) := by decide +kernel
theorem dX8_init_54 : decode cX8_init 54 = .ok (.newarray .int, 2) := by decide +kernel
theorem dX8_init_56 : decode cX8_init 56 = .ok (.putfield 34, 3) := by decide +kernel
theorem dX8_init_59 : decode cX8_init 59 = .ok (.aload_n 0, 1) := by decide +kernel
theorem dX8_init_60 : decode cX8_init 60 = .ok (.bipush 12, 2) := by decide +kernel
theorem dX8_init_62 : decode cX8_init 62 = .ok (.newarray .int, 2) := by decide +kernel
theorem dX8_init_64 : decode cX8_init 64 = .ok (.putfield 37, 3) := by decide +kernel
theorem dX8_init_67 : decode cX8_init 67 = .ok (.aload_n 0, 1) := by decide +kernel
theorem dX8_init_68 : decode cX8_init 68 = .ok (.bipush 12, 2) := by decide +kernel
theorem dX8_init_70 : decode cX8_init 70 = .ok (.newarray .int, 2) := by decide +kernel
theorem dX8_init_72 : decode cX8_init 72 = .ok (.putfield 40, 3) := by decide +kernel
theorem dX8_init_75 : decode cX8_init 75 = .ok (.return_, 1) := by decide +kernel
theorem dX8_copyFrom_0 : decode cX8_copyFrom 0 = .ok (.aload_n 0, 1) := by decide +kernel
theorem dX8_copyFrom_1 : decode cX8_copyFrom 1 = .ok (.aload_n 1, 1) := by decide +kernel
theorem dX8_copyFrom_2 : decode cX8_copyFrom 2 = .ok (.getfield 9, 3) := by decide +kernel
theorem dX8_copyFrom_5 : decode cX8_copyFrom 5 = .ok (.putfield 9, 3) := by decide +kernel
theorem dX8_copyFrom_8 : decode cX8_copyFrom 8 = .ok (.aload_n 0, 1) := by decide +kernel
theorem dX8_copyFrom_9 : decode cX8_copyFrom 9 = .ok (.aload_n 1, 1) := by decide +kernel
theorem dX8_copyFrom_10 : decode cX8_copyFrom 10 = .ok (.getfield 15, 3) := by decide +kernel
theorem dX8_copyFrom_13 : decode cX8_copyFrom 13 = .ok (.putfield 15, 3) := by decide +kernel
theorem dX8_copyFrom_16 : decode cX8_copyFrom 16 = .ok (.aload_n 0, 1) := by decide +kernel
theorem dX8_copyFrom_17 : decode cX8_copyFrom 17 = .ok (.aload_n 1, 1) := by decide +kernel
theorem dX8_copyFrom_18 : decode cX8_copyFrom 18 = .ok (.getfield 18, 3) := by decide +kernel
theorem dX8_copyFrom_21 : decode cX8_copyFrom 21 = .ok (.putfield 18, 3) := by decide +kernel
theorem dX8_copyFrom_24 : decode cX8_copyFrom 24 = .ok (.aload_n 1, 1) := by decide +kernel
theorem dX8_copyFrom_25 : decode cX8_copyFrom 25 = .ok (.getfield 21, 3) := by decide +kernel
theorem dX8_copyFrom_28 : decode cX8_copyFrom 28 = .ok (.iconst 0, 1) := by decide +kernel
theorem dX8_copyFrom_29 : decode cX8_copyFrom 29 = .ok (.aload_n 0, 1) := by decide +kernel
theorem dX8_copyFrom_30 : decode cX8_copyFrom 30 = .ok (.getfield 21, 3) := by decide +kernel
theorem dX8_copyFrom_33 : decode cX8_copyFrom 33 = .ok (.iconst 0, 1) := by decide +kernel
theorem dX8_copyFrom_34 : decode cX8_copyFrom 34 = .ok (.bipush 6, 2) := by decide +kernel
theorem dX8_copyFrom_36 : decode cX8_copyFrom 36 = .ok (.invokestatic 43, 3) := by decide +kernel
theorem dX8_copyFrom_39 : decode cX8_copyFrom 39 = .ok (.aload_n 1, 1) := by decide +kernel
theorem dX8_copyFrom_40 : decode cX8_copyFrom 40 = .ok (.getfield 25, 3) := by decide +kernel
theorem dX8_copyFrom_43 : decode cX8_copyFrom 43 = .ok (.iconst 0, 1) := by decide +kernel
theorem dX8_copyFrom_44 : decode cX8_copyFrom 44 = .ok (.aload_n 0, 1) := by decide +kernel
theorem dX8_copyFrom_45 : decode cX8_copyFrom 45 = .ok (.getfield 25, 3) := by decide +kernel
theorem dX8_copyFrom_48 : decode cX8_copyFrom 48 = .ok (.iconst 0, 1) := by decide +kernel
theorem dX8_copyFrom_49 : decode cX8_copyFrom 49 = .ok (.bipush 6, 2) := by decide +kernel
theorem dX8_copyFrom_51 : decode cX8_copyFrom 51 = .ok (.invokestatic 43, 3) := by decide +kernel
theorem dX8_copyFrom_54 : decode cX8_copyFrom 54 = .ok (.aload_n 1, 1) := by decide +kernel
theorem dX8_copyFrom_55 : decode cX8_copyFrom 55 = .ok (.getfield 28, 3) := by decide +kernel
theorem dX8_copyFrom_58 : decode cX8_copyFrom 58 = .ok (.iconst 0, 1) := by decide +kernel
theorem dX8_copyFrom_59 : decode cX8_copyFrom 59 = .ok (.aload_n 0, 1) := by decide +kernel
theorem dX8_copyFrom_60 : decode cX8_copyFrom 60 = .ok (.getfield 28, 3) := by decide +kernel
theorem dX8_copyFrom_63 : decode cX8_copyFrom 63 = .ok (.iconst 0, 1) := by decide +kernel
theorem dX8_copyFrom_64 : decode cX8_copyFrom 64 = .ok (.bipush 6, 2) := by decide +kernel
theorem dX8_copyFrom_66 : decode cX8_copyFrom 66 = .ok (.invokestatic 43, 3) := by decide +kernel
theorem dX8_copyFrom_69 : decode cX8_copyFrom 69 = .ok (.aload_n 1, 1) := by decide +kernel
theorem dX8_copyFrom_70 : decode cX8_copyFrom 70 = .ok (.getfield 31, 3) := by decide +kernel
theorem dX8_copyFrom_73 : decode cX8_copyFrom 73 = .ok (.iconst 0, 1) := by decide +kernel
theorem dX8_copyFrom_74 : decode cX8_copyFrom 74 = .ok (.aload_n 0, 1) := by decide +kernel
theorem dX8_copyFrom_75 : decode cX8_copyFrom 75 = .ok (.getfield 31, 3) := by decide +kernel
theorem dX8_copyFrom_78 : decode cX8_copyFrom 78 = .ok (.iconst 0, 1) := by decide +kernel
theorem dX8_copyFrom_79 : decode cX8_copyFrom 79 = .ok (.bipush 6, 2) := by decide +kernel
theorem dX8_copyFrom_81 : decode cX8_copyFrom 81 = .ok (.invokestatic 43, 3) := by decide +kernel
theorem dX8_copyFrom_84 : decode cX8_copyFrom 84 = .ok (.aload_n 1, 1) := by decide +kernel
theorem dX8_copyFrom_85 : decode cX8_copyFrom 85 = .ok (.getfield 34, 3) := by decide +kernel
theorem dX8_copyFrom_88 : decode cX8_copyFrom 88 = .ok (.iconst 0, 1) := by decide +kernel
theorem dX8_copyFrom_89 : decode cX8_copyFrom 89 = .ok (.aload_n 0, 1) := by decide +kernel
theorem dX8_copyFrom_90 : decode cX8_copyFrom 90 = .ok (.getfield 34, 3) := by decide +kernel
theorem dX8_copyFrom_93 : decode cX8_copyFrom 93 = .ok (.iconst 0, 1) := by decide +kernel
theorem dX8_copyFrom_94 : decode cX8_copyFrom 94 = .ok (.bipush 12, 2) := by decide +kernel
theorem dX8_copyFrom_96 : decode cX8_copyFrom 96 = .ok (.invokestatic 43, 3) := by decide +kernel
theorem dX8_copyFrom_99 : decode cX8_copyFrom 99 = .ok (.aload_n 1, 1) := by decide +kernel
theorem dX8_copyFrom_100 : decode cX8_copyFrom 100 = .ok (.getfield 37, 3) := by decide +kernel
theorem dX8_copyFrom_103 : decode cX8_copyFrom 103 = .ok (.iconst 0, 1) := by decide +kernel
theorem dX8_copyFrom_104 : decode cX8_copyFrom 104 = .ok (.aload_n 0, 1) := by decide +kernel
theorem dX8_copyFrom_105 : decode cX8_copyFrom 105 = .ok (.getfield 37, 3) := by decide +kernel
theorem dX8_copyFrom_108 : decode cX8_copyFrom 108 = .ok (.iconst 0, 1) := by decide +kernel
theorem dX8_copyFrom_109 : decode cX8_copyFrom 109 = .ok (.bipush 12, 2) := by decide +kernel
theorem dX8_copyFrom_111 : decode cX8_copyFrom 111 = .ok (.invokestatic 43, 3) := by decide +kernel
theorem dX8_copyFrom_114 : decode cX8_copyFrom 114 = .ok (.aload_n 1, 1) := by decide +kernel
theorem dX8_copyFrom_115 : decode cX8_copyFrom 115 = .ok (.getfield 40, 3) := by decide +kernel
theorem dX8_copyFrom_118 : decode cX8_copyFrom 118 = .ok (.iconst 0, 1) := by decide +kernel
theorem dX8_copyFrom_119 : decode cX8_copyFrom 119 = .ok (.aload_n 0, 1) := by decide +kernel
theorem dX8_copyFrom_120 : decode cX8_copyFrom 120 = .ok (.getfield 40, 3) := by decide +kernel
theorem dX8_copyFrom_123 : decode cX8_copyFrom 123 = .ok (.iconst 0, 1) := by decide +kernel
theorem dX8_copyFrom_124 : decode cX8_copyFrom 124 = .ok (.bipush 12, 2) := by decide +kernel
theorem dX8_copyFrom_126 : decode cX8_copyFrom 126 = .ok (.invokestatic 43, 3) := by decide +kernel
theorem dX8_copyFrom_129 : decode cX8_copyFrom 129 = .ok (.return_, 1) := by decide +kernel
theorem dX8_ableBits_0 : decode cX8_ableBits 0 = .ok (.iconst 0, 1) := by decide +kernel
theorem dX8_ableBits_1 : decode cX8_ableBits 1 = .ok (.istore_n 2, 1) := by decide +kernel
theorem dX8_ableBits_2 : decode cX8_ableBits 2 = .ok (.iconst 0, 1) := by decide +kernel
theorem dX8_ableBits_3 : decode cX8_ableBits 3 = .ok (.istore_n 3, 1) := by decide +kernel
theorem dX8_ableBits_4 : decode cX8_ableBits 4 = .ok (.iload_n 3, 1) := by decide +kernel
theorem dX8_ableBits_5 : decode cX8_ableBits 5 = .ok (.aload_n 0, 1) := by decide +kernel
theorem dX8_ableBits_6 : decode cX8_ableBits 6 = .ok (.getfield 9, 3) := by decide +kernel
theorem dX8_ableBits_9 : decode cX8_ableBits 9 = .ok (.if_icmp .ge 28, 3) := by decide +kernel
theorem dX8_ableBits_12 : decode cX8_ableBits 12 = .ok (.aload_n 0, 1) := by decide +kernel
theorem dX8_ableBits_13 : decode cX8_ableBits 13 = .ok (.getfield 28, 3) := by decide +kernel
theorem dX8_ableBits_16 : decode cX8_ableBits 16 = .ok (.iload_n 3, 1) := by decide +kernel
theorem dX8_ableBits_17 : decode cX8_ableBits 17 = .ok (.iaload, 1) := by decide +kernel
theorem dX8_ableBits_18 : decode cX8_ableBits 18 = .ok (.iload_n 1, 1) := by decide +kernel
theorem dX8_ableBits_19 : decode cX8_ableBits 19 = .ok (.ishr, 1) := by decide +kernel
theorem dX8_ableBits_20 : decode cX8_ableBits 20 = .ok (.iconst 1, 1) := by decide +kernel
theorem dX8_ableBits_21 : decode cX8_ableBits 21 = .ok (.iand, 1) := by decide +kernel
theorem dX8_ableBits_22 : decode cX8_ableBits 22 = .ok (.ifCond .eq 9, 3) := by decide +kernel
theorem dX8_ableBits_25 : decode cX8_ableBits 25 = .ok (.iload_n 2, 1) := by decide +kernel
theorem dX8_ableBits_26 : decode cX8_ableBits 26 = .ok (.iconst 1, 1) := by decide +kernel
theorem dX8_ableBits_27 : decode cX8_ableBits 27 = .ok (.iload_n 3, 1) := by decide +kernel
theorem dX8_ableBits_28 : decode cX8_ableBits 28 = .ok (.ishl, 1) := by decide +kernel
theorem dX8_ableBits_29 : decode cX8_ableBits 29 = .ok (.ior, 1) := by decide +kernel
theorem dX8_ableBits_30 : decode cX8_ableBits 30 = .ok (.istore_n 2, 1) := by decide +kernel
theorem dX8_ableBits_31 : decode cX8_ableBits 31 = .ok (.iinc 3 1, 3) := by decide +kernel
theorem dX8_ableBits_34 : decode cX8_ableBits 34 = .ok (.goto (-30), 3) := by decide +kernel
theorem dX8_ableBits_37 : decode cX8_ableBits 37 = .ok (.iload_n 2, 1) := by decide +kernel
theorem dX8_ableBits_38 : decode cX8_ableBits 38 = .ok (.ireturn, 1) := by decide +kernel
theorem dX8_skillsOf_0 : decode cX8_skillsOf 0 = .ok (.iconst 0, 1) := by decide +kernel
theorem dX8_skillsOf_1 : decode cX8_skillsOf 1 = .ok (.istore_n 2, 1) := by decide +kernel
theorem dX8_skillsOf_2 : decode cX8_skillsOf 2 = .ok (.iconst 0, 1) := by decide +kernel
theorem dX8_skillsOf_3 : decode cX8_skillsOf 3 = .ok (.istore_n 3, 1) := by decide +kernel
theorem dX8_skillsOf_4 : decode cX8_skillsOf 4 = .ok (.iload_n 3, 1) := by decide +kernel
theorem dX8_skillsOf_5 : decode cX8_skillsOf 5 = .ok (.aload_n 0, 1) := by decide +kernel
theorem dX8_skillsOf_6 : decode cX8_skillsOf 6 = .ok (.getfield 9, 3) := by decide +kernel
theorem dX8_skillsOf_9 : decode cX8_skillsOf 9 = .ok (.if_icmp .ge 26, 3) := by decide +kernel
theorem dX8_skillsOf_12 : decode cX8_skillsOf 12 = .ok (.iload_n 1, 1) := by decide +kernel
theorem dX8_skillsOf_13 : decode cX8_skillsOf 13 = .ok (.iload_n 3, 1) := by decide +kernel
theorem dX8_skillsOf_14 : decode cX8_skillsOf 14 = .ok (.ishr, 1) := by decide +kernel
theorem dX8_skillsOf_15 : decode cX8_skillsOf 15 = .ok (.iconst 1, 1) := by decide +kernel
theorem dX8_skillsOf_16 : decode cX8_skillsOf 16 = .ok (.iand, 1) := by decide +kernel
theorem dX8_skillsOf_17 : decode cX8_skillsOf 17 = .ok (.ifCond .eq 12, 3) := by decide +kernel
theorem dX8_skillsOf_20 : decode cX8_skillsOf 20 = .ok (.iload_n 2, 1) := by decide +kernel
theorem dX8_skillsOf_21 : decode cX8_skillsOf 21 = .ok (.aload_n 0, 1) := by decide +kernel
theorem dX8_skillsOf_22 : decode cX8_skillsOf 22 = .ok (.getfield 28, 3) := by decide +kernel
theorem dX8_skillsOf_25 : decode cX8_skillsOf 25 = .ok (.iload_n 3, 1) := by decide +kernel
theorem dX8_skillsOf_26 : decode cX8_skillsOf 26 = .ok (.iaload, 1) := by decide +kernel
theorem dX8_skillsOf_27 : decode cX8_skillsOf 27 = .ok (.ior, 1) := by decide +kernel
theorem dX8_skillsOf_28 : decode cX8_skillsOf 28 = .ok (.istore_n 2, 1) := by decide +kernel
theorem dX8_skillsOf_29 : decode cX8_skillsOf 29 = .ok (.iinc 3 1, 3) := by decide +kernel
theorem dX8_skillsOf_32 : decode cX8_skillsOf 32 = .ok (.goto (-28), 3) := by decide +kernel
theorem dX8_skillsOf_35 : decode cX8_skillsOf 35 = .ok (.iload_n 2, 1) := by decide +kernel
theorem dX8_skillsOf_36 : decode cX8_skillsOf 36 = .ok (.ireturn, 1) := by decide +kernel
theorem dX8_readFrom_0 : decode cX8_readFrom 0 = .ok (.aload_n 0, 1) := by decide +kernel
theorem dX8_readFrom_1 : decode cX8_readFrom 1 = .ok (.iconst 0, 1) := by decide +kernel
theorem dX8_readFrom_2 : decode cX8_readFrom 2 = .ok (.putfield 9, 3) := by decide +kernel
theorem dX8_readFrom_5 : decode cX8_readFrom 5 = .ok (.aload_n 0, 1) := by decide +kernel
theorem dX8_readFrom_6 : decode cX8_readFrom 6 = .ok (.iconst 0, 1) := by decide +kernel
theorem dX8_readFrom_7 : decode cX8_readFrom 7 = .ok (.putfield 15, 3) := by decide +kernel
theorem dX8_readFrom_10 : decode cX8_readFrom 10 = .ok (.aload_n 0, 1) := by decide +kernel
theorem dX8_readFrom_11 : decode cX8_readFrom 11 = .ok (.iconst 0, 1) := by decide +kernel
theorem dX8_readFrom_12 : decode cX8_readFrom 12 = .ok (.putfield 18, 3) := by decide +kernel
theorem dX8_readFrom_15 : decode cX8_readFrom 15 = .ok (.iconst 0, 1) := by decide +kernel
theorem dX8_readFrom_16 : decode cX8_readFrom 16 = .ok (.istore_n 2, 1) := by decide +kernel
theorem dX8_readFrom_17 : decode cX8_readFrom 17 = .ok (.iload_n 2, 1) := by decide +kernel
theorem dX8_readFrom_18 : decode cX8_readFrom 18 = .ok (.bipush 60, 2) := by decide +kernel
theorem dX8_readFrom_20 : decode cX8_readFrom 20 = .ok (.if_icmp .gt 57, 3) := by decide +kernel
theorem dX8_readFrom_23 : decode cX8_readFrom 23 = .ok (.aload_n 1, 1) := by decide +kernel
theorem dX8_readFrom_24 : decode cX8_readFrom 24 = .ok (.invokevirtual 49, 3) := by decide +kernel
theorem dX8_readFrom_27 : decode cX8_readFrom 27 = .ok (.ifCond .ne 50, 3) := by decide +kernel
theorem dX8_readFrom_30 : decode cX8_readFrom 30 = .ok (.aload_n 1, 1) := by decide +kernel
theorem dX8_readFrom_31 : decode cX8_readFrom 31 = .ok (.invokevirtual 55, 3) := by decide +kernel
theorem dX8_readFrom_34 : decode cX8_readFrom 34 = .ok (.ifCond .ne 43, 3) := by decide +kernel
theorem dX8_readFrom_37 : decode cX8_readFrom 37 = .ok (.aload_n 1, 1) := by decide +kernel
theorem dX8_readFrom_38 : decode cX8_readFrom 38 = .ok (.ldc 58, 2) := by decide +kernel
theorem dX8_readFrom_40 : decode cX8_readFrom 40 = .ok (.invokevirtual 60, 3) := by decide +kernel
theorem dX8_readFrom_43 : decode cX8_readFrom 43 = .ok (.istore_n 3, 1) := by decide +kernel
theorem dX8_readFrom_44 : decode cX8_readFrom 44 = .ok (.iload_n 2, 1) := by decide +kernel
theorem dX8_readFrom_45 : decode cX8_readFrom 45 = .ok (.bipush 60, 2) := by decide +kernel
theorem dX8_readFrom_47 : decode cX8_readFrom 47 = .ok (.if_icmp .lt 12, 3) := by decide +kernel
theorem dX8_readFrom_50 : decode cX8_readFrom 50 = .ok (.aload_n 1, 1) := by decide +kernel
theorem dX8_readFrom_51 : decode cX8_readFrom 51 = .ok (.iconst 3, 1) := by decide +kernel
theorem dX8_readFrom_52 : decode cX8_readFrom 52 = .ok (.aload_n 1, 1) := by decide +kernel
theorem dX8_readFrom_53 : decode cX8_readFrom 53 = .ok (.getfield 64, 3) := by decide +kernel
theorem dX8_readFrom_56 : decode cX8_readFrom 56 = .ok (.invokevirtual 67, 3) := by decide +kernel
theorem dX8_readFrom_59 : decode cX8_readFrom 59 = .ok (.aload_n 0, 1) := by decide +kernel
theorem dX8_readFrom_60 : decode cX8_readFrom 60 = .ok (.aload_n 1, 1) := by decide +kernel
theorem dX8_readFrom_61 : decode cX8_readFrom 61 = .ok (.iload_n 3, 1) := by decide +kernel
theorem dX8_readFrom_62 : decode cX8_readFrom 62 = .ok (.invokevirtual 71, 3) := by decide +kernel
theorem dX8_readFrom_65 : decode cX8_readFrom 65 = .ok (.aload_n 1, 1) := by decide +kernel
theorem dX8_readFrom_66 : decode cX8_readFrom 66 = .ok (.bipush 59, 2) := by decide +kernel
theorem dX8_readFrom_68 : decode cX8_readFrom 68 = .ok (.invokevirtual 75, 3) := by decide +kernel
theorem dX8_readFrom_71 : decode cX8_readFrom 71 = .ok (.iinc 2 1, 3) := by decide +kernel
theorem dX8_readFrom_74 : decode cX8_readFrom 74 = .ok (.goto (-57), 3) := by decide +kernel
theorem dX8_readFrom_77 : decode cX8_readFrom 77 = .ok (.return_, 1) := by decide +kernel
theorem dX8_readClause_0 : decode cX8_readClause 0 = .ok (.iload_n 2, 1) := by decide +kernel
theorem dX8_readClause_1 : decode cX8_readClause 1 = .ok (.tableswitch 63 0 3 #[31, 39, 47, 55], 31) := by decide +kernel
theorem dX8_readClause_32 : decode cX8_readClause 32 = .ok (.aload_n 0, 1) := by decide +kernel
theorem dX8_readClause_33 : decode cX8_readClause 33 = .ok (.aload_n 1, 1) := by decide +kernel
theorem dX8_readClause_34 : decode cX8_readClause 34 = .ok (.invokevirtual 79, 3) := by decide +kernel
theorem dX8_readClause_37 : decode cX8_readClause 37 = .ok (.goto 27, 3) := by decide +kernel
theorem dX8_readClause_40 : decode cX8_readClause 40 = .ok (.aload_n 0, 1) := by decide +kernel
theorem dX8_readClause_41 : decode cX8_readClause 41 = .ok (.aload_n 1, 1) := by decide +kernel
theorem dX8_readClause_42 : decode cX8_readClause 42 = .ok (.invokevirtual 83, 3) := by decide +kernel
theorem dX8_readClause_45 : decode cX8_readClause 45 = .ok (.goto 19, 3) := by decide +kernel
theorem dX8_readClause_48 : decode cX8_readClause 48 = .ok (.aload_n 0, 1) := by decide +kernel
theorem dX8_readClause_49 : decode cX8_readClause 49 = .ok (.aload_n 1, 1) := by decide +kernel
theorem dX8_readClause_50 : decode cX8_readClause 50 = .ok (.invokevirtual 86, 3) := by decide +kernel
theorem dX8_readClause_53 : decode cX8_readClause 53 = .ok (.goto 11, 3) := by decide +kernel
theorem dX8_readClause_56 : decode cX8_readClause 56 = .ok (.aload_n 0, 1) := by decide +kernel
theorem dX8_readClause_57 : decode cX8_readClause 57 = .ok (.aload_n 1, 1) := by decide +kernel
theorem dX8_readClause_58 : decode cX8_readClause 58 = .ok (.invokevirtual 89, 3) := by decide +kernel
theorem dX8_readClause_61 : decode cX8_readClause 61 = .ok (.goto 3, 3) := by decide +kernel
theorem dX8_readClause_64 : decode cX8_readClause 64 = .ok (.return_, 1) := by decide +kernel
theorem dX8_readPerson_0 : decode cX8_readPerson 0 = .ok (.aload_n 0, 1) := by decide +kernel
theorem dX8_readPerson_1 : decode cX8_readPerson 1 = .ok (.getfield 9, 3) := by decide +kernel
theorem dX8_readPerson_4 : decode cX8_readPerson 4 = .ok (.bipush 6, 2) := by decide +kernel
theorem dX8_readPerson_6 : decode cX8_readPerson 6 = .ok (.if_icmp .lt 12, 3) := by decide +kernel
theorem dX8_readPerson_9 : decode cX8_readPerson 9 = .ok (.aload_n 1, 1) := by decide +kernel
theorem dX8_readPerson_10 : decode cX8_readPerson 10 = .ok (.iconst 3, 1) := by decide +kernel
theorem dX8_readPerson_11 : decode cX8_readPerson 11 = .ok (.aload_n 1, 1) := by decide +kernel
theorem dX8_readPerson_12 : decode cX8_readPerson 12 = .ok (.getfield 64, 3) := by decide +kernel
theorem dX8_readPerson_15 : decode cX8_readPerson 15 = .ok (.invokevirtual 67, 3) := by decide +kernel
theorem dX8_readPerson_18 : decode cX8_readPerson 18 = .ok (.aload_n 1, 1) := by decide +kernel
theorem dX8_readPerson_19 : decode cX8_readPerson 19 = .ok (.iconst 0, 1) := by decide +kernel
theorem dX8_readPerson_20 : decode cX8_readPerson 20 = .ok (.sipush 500, 3) := by decide +kernel
theorem dX8_readPerson_23 : decode cX8_readPerson 23 = .ok (.invokevirtual 92, 3) := by decide +kernel
theorem dX8_readPerson_26 : decode cX8_readPerson 26 = .ok (.istore_n 2, 1) := by decide +kernel
theorem dX8_readPerson_27 : decode cX8_readPerson 27 = .ok (.aload_n 1, 1) := by decide +kernel
theorem dX8_readPerson_28 : decode cX8_readPerson 28 = .ok (.iconst 0, 1) := by decide +kernel
theorem dX8_readPerson_29 : decode cX8_readPerson 29 = .ok (.bipush 30, 2) := by decide +kernel
theorem dX8_readPerson_31 : decode cX8_readPerson 31 = .ok (.invokevirtual 92, 3) := by decide +kernel
theorem dX8_readPerson_34 : decode cX8_readPerson 34 = .ok (.istore_n 3, 1) := by decide +kernel
theorem dX8_readPerson_35 : decode cX8_readPerson 35 = .ok (.aload_n 1, 1) := by decide +kernel
theorem dX8_readPerson_36 : decode cX8_readPerson 36 = .ok (.invokevirtual 49, 3) := by decide +kernel
theorem dX8_readPerson_39 : decode cX8_readPerson 39 = .ok (.ifCond .ne 43, 3) := by decide +kernel
theorem dX8_readPerson_42 : decode cX8_readPerson 42 = .ok (.aload_n 0, 1) := by decide +kernel
theorem dX8_readPerson_43 : decode cX8_readPerson 43 = .ok (.getfield 21, 3) := by decide +kernel
theorem dX8_readPerson_46 : decode cX8_readPerson 46 = .ok (.aload_n 0, 1) := by decide +kernel
theorem dX8_readPerson_47 : decode cX8_readPerson 47 = .ok (.getfield 9, 3) := by decide +kernel
theorem dX8_readPerson_50 : decode cX8_readPerson 50 = .ok (.iload_n 2, 1) := by decide +kernel
theorem dX8_readPerson_51 : decode cX8_readPerson 51 = .ok (.iastore, 1) := by decide +kernel
theorem dX8_readPerson_52 : decode cX8_readPerson 52 = .ok (.aload_n 0, 1) := by decide +kernel
theorem dX8_readPerson_53 : decode cX8_readPerson 53 = .ok (.getfield 25, 3) := by decide +kernel
theorem dX8_readPerson_56 : decode cX8_readPerson 56 = .ok (.aload_n 0, 1) := by decide +kernel
theorem dX8_readPerson_57 : decode cX8_readPerson 57 = .ok (.getfield 9, 3) := by decide +kernel
theorem dX8_readPerson_60 : decode cX8_readPerson 60 = .ok (.iload_n 3, 1) := by decide +kernel
theorem dX8_readPerson_61 : decode cX8_readPerson 61 = .ok (.iastore, 1) := by decide +kernel
theorem dX8_readPerson_62 : decode cX8_readPerson 62 = .ok (.aload_n 0, 1) := by decide +kernel
theorem dX8_readPerson_63 : decode cX8_readPerson 63 = .ok (.getfield 28, 3) := by decide +kernel
theorem dX8_readPerson_66 : decode cX8_readPerson 66 = .ok (.aload_n 0, 1) := by decide +kernel
theorem dX8_readPerson_67 : decode cX8_readPerson 67 = .ok (.getfield 9, 3) := by decide +kernel
theorem dX8_readPerson_70 : decode cX8_readPerson 70 = .ok (.iconst 0, 1) := by decide +kernel
theorem dX8_readPerson_71 : decode cX8_readPerson 71 = .ok (.iastore, 1) := by decide +kernel
theorem dX8_readPerson_72 : decode cX8_readPerson 72 = .ok (.aload_n 0, 1) := by decide +kernel
theorem dX8_readPerson_73 : decode cX8_readPerson 73 = .ok (.dup, 1) := by decide +kernel
theorem dX8_readPerson_74 : decode cX8_readPerson 74 = .ok (.getfield 9, 3) := by decide +kernel
theorem dX8_readPerson_77 : decode cX8_readPerson 77 = .ok (.iconst 1, 1) := by decide +kernel
theorem dX8_readPerson_78 : decode cX8_readPerson 78 = .ok (.iadd, 1) := by decide +kernel
theorem dX8_readPerson_79 : decode cX8_readPerson 79 = .ok (.putfield 9, 3) := by decide +kernel
theorem dX8_readPerson_82 : decode cX8_readPerson 82 = .ok (.return_, 1) := by decide +kernel
theorem dX8_readDuty_0 : decode cX8_readDuty 0 = .ok (.aload_n 0, 1) := by decide +kernel
theorem dX8_readDuty_1 : decode cX8_readDuty 1 = .ok (.getfield 15, 3) := by decide +kernel
theorem dX8_readDuty_4 : decode cX8_readDuty 4 = .ok (.bipush 6, 2) := by decide +kernel
theorem dX8_readDuty_6 : decode cX8_readDuty 6 = .ok (.if_icmp .lt 12, 3) := by decide +kernel
theorem dX8_readDuty_9 : decode cX8_readDuty 9 = .ok (.aload_n 1, 1) := by decide +kernel
theorem dX8_readDuty_10 : decode cX8_readDuty 10 = .ok (.iconst 3, 1) := by decide +kernel
theorem dX8_readDuty_11 : decode cX8_readDuty 11 = .ok (.aload_n 1, 1) := by decide +kernel
theorem dX8_readDuty_12 : decode cX8_readDuty 12 = .ok (.getfield 64, 3) := by decide +kernel
theorem dX8_readDuty_15 : decode cX8_readDuty 15 = .ok (.invokevirtual 67, 3) := by decide +kernel
theorem dX8_readDuty_18 : decode cX8_readDuty 18 = .ok (.aload_n 1, 1) := by decide +kernel
theorem dX8_readDuty_19 : decode cX8_readDuty 19 = .ok (.iconst 1, 1) := by decide +kernel
theorem dX8_readDuty_20 : decode cX8_readDuty 20 = .ok (.bipush 30, 2) := by decide +kernel
theorem dX8_readDuty_22 : decode cX8_readDuty 22 = .ok (.invokevirtual 92, 3) := by decide +kernel
theorem dX8_readDuty_25 : decode cX8_readDuty 25 = .ok (.istore_n 2, 1) := by decide +kernel
theorem dX8_readDuty_26 : decode cX8_readDuty 26 = .ok (.aload_n 1, 1) := by decide +kernel
theorem dX8_readDuty_27 : decode cX8_readDuty 27 = .ok (.invokevirtual 49, 3) := by decide +kernel
theorem dX8_readDuty_30 : decode cX8_readDuty 30 = .ok (.ifCond .ne 23, 3) := by decide +kernel
theorem dX8_readDuty_33 : decode cX8_readDuty 33 = .ok (.aload_n 0, 1) := by decide +kernel
theorem dX8_readDuty_34 : decode cX8_readDuty 34 = .ok (.getfield 31, 3) := by decide +kernel
theorem dX8_readDuty_37 : decode cX8_readDuty 37 = .ok (.aload_n 0, 1) := by decide +kernel
theorem dX8_readDuty_38 : decode cX8_readDuty 38 = .ok (.getfield 15, 3) := by decide +kernel
theorem dX8_readDuty_41 : decode cX8_readDuty 41 = .ok (.iload_n 2, 1) := by decide +kernel
theorem dX8_readDuty_42 : decode cX8_readDuty 42 = .ok (.iastore, 1) := by decide +kernel
theorem dX8_readDuty_43 : decode cX8_readDuty 43 = .ok (.aload_n 0, 1) := by decide +kernel
theorem dX8_readDuty_44 : decode cX8_readDuty 44 = .ok (.dup, 1) := by decide +kernel
theorem dX8_readDuty_45 : decode cX8_readDuty 45 = .ok (.getfield 15, 3) := by decide +kernel
theorem dX8_readDuty_48 : decode cX8_readDuty 48 = .ok (.iconst 1, 1) := by decide +kernel
theorem dX8_readDuty_49 : decode cX8_readDuty 49 = .ok (.iadd, 1) := by decide +kernel
theorem dX8_readDuty_50 : decode cX8_readDuty 50 = .ok (.putfield 15, 3) := by decide +kernel
theorem dX8_readDuty_53 : decode cX8_readDuty 53 = .ok (.return_, 1) := by decide +kernel
theorem dX8_readSkill_0 : decode cX8_readSkill 0 = .ok (.aload_n 1, 1) := by decide +kernel
theorem dX8_readSkill_1 : decode cX8_readSkill 1 = .ok (.iconst 0, 1) := by decide +kernel
theorem dX8_readSkill_2 : decode cX8_readSkill 2 = .ok (.aload_n 0, 1) := by decide +kernel
theorem dX8_readSkill_3 : decode cX8_readSkill 3 = .ok (.getfield 9, 3) := by decide +kernel
theorem dX8_readSkill_6 : decode cX8_readSkill 6 = .ok (.iconst 1, 1) := by decide +kernel
theorem dX8_readSkill_7 : decode cX8_readSkill 7 = .ok (.isub, 1) := by decide +kernel
theorem dX8_readSkill_8 : decode cX8_readSkill 8 = .ok (.invokevirtual 92, 3) := by decide +kernel
theorem dX8_readSkill_11 : decode cX8_readSkill 11 = .ok (.istore_n 2, 1) := by decide +kernel
theorem dX8_readSkill_12 : decode cX8_readSkill 12 = .ok (.aload_n 1, 1) := by decide +kernel
theorem dX8_readSkill_13 : decode cX8_readSkill 13 = .ok (.iconst 0, 1) := by decide +kernel
theorem dX8_readSkill_14 : decode cX8_readSkill 14 = .ok (.aload_n 0, 1) := by decide +kernel
theorem dX8_readSkill_15 : decode cX8_readSkill 15 = .ok (.getfield 15, 3) := by decide +kernel
theorem dX8_readSkill_18 : decode cX8_readSkill 18 = .ok (.iconst 1, 1) := by decide +kernel
theorem dX8_readSkill_19 : decode cX8_readSkill 19 = .ok (.isub, 1) := by decide +kernel
theorem dX8_readSkill_20 : decode cX8_readSkill 20 = .ok (.invokevirtual 92, 3) := by decide +kernel
theorem dX8_readSkill_23 : decode cX8_readSkill 23 = .ok (.istore_n 3, 1) := by decide +kernel
theorem dX8_readSkill_24 : decode cX8_readSkill 24 = .ok (.aload_n 1, 1) := by decide +kernel
theorem dX8_readSkill_25 : decode cX8_readSkill 25 = .ok (.invokevirtual 49, 3) := by decide +kernel
theorem dX8_readSkill_28 : decode cX8_readSkill 28 = .ok (.ifCond .ne 15, 3) := by decide +kernel
theorem dX8_readSkill_31 : decode cX8_readSkill 31 = .ok (.aload_n 0, 1) := by decide +kernel
theorem dX8_readSkill_32 : decode cX8_readSkill 32 = .ok (.getfield 28, 3) := by decide +kernel
theorem dX8_readSkill_35 : decode cX8_readSkill 35 = .ok (.iload_n 2, 1) := by decide +kernel
theorem dX8_readSkill_36 : decode cX8_readSkill 36 = .ok (.dup2, 1) := by decide +kernel
theorem dX8_readSkill_37 : decode cX8_readSkill 37 = .ok (.iaload, 1) := by decide +kernel
theorem dX8_readSkill_38 : decode cX8_readSkill 38 = .ok (.iconst 1, 1) := by decide +kernel
theorem dX8_readSkill_39 : decode cX8_readSkill 39 = .ok (.iload_n 3, 1) := by decide +kernel
theorem dX8_readSkill_40 : decode cX8_readSkill 40 = .ok (.ishl, 1) := by decide +kernel
theorem dX8_readSkill_41 : decode cX8_readSkill 41 = .ok (.ior, 1) := by decide +kernel
theorem dX8_readSkill_42 : decode cX8_readSkill 42 = .ok (.iastore, 1) := by decide +kernel
theorem dX8_readSkill_43 : decode cX8_readSkill 43 = .ok (.return_, 1) := by decide +kernel
theorem dX8_readTask_0 : decode cX8_readTask 0 = .ok (.aload_n 0, 1) := by decide +kernel
theorem dX8_readTask_1 : decode cX8_readTask 1 = .ok (.getfield 18, 3) := by decide +kernel
theorem dX8_readTask_4 : decode cX8_readTask 4 = .ok (.bipush 12, 2) := by decide +kernel
theorem dX8_readTask_6 : decode cX8_readTask 6 = .ok (.if_icmp .lt 12, 3) := by decide +kernel
theorem dX8_readTask_9 : decode cX8_readTask 9 = .ok (.aload_n 1, 1) := by decide +kernel
theorem dX8_readTask_10 : decode cX8_readTask 10 = .ok (.iconst 3, 1) := by decide +kernel
theorem dX8_readTask_11 : decode cX8_readTask 11 = .ok (.aload_n 1, 1) := by decide +kernel
theorem dX8_readTask_12 : decode cX8_readTask 12 = .ok (.getfield 64, 3) := by decide +kernel
theorem dX8_readTask_15 : decode cX8_readTask 15 = .ok (.invokevirtual 67, 3) := by decide +kernel
theorem dX8_readTask_18 : decode cX8_readTask 18 = .ok (.aload_n 1, 1) := by decide +kernel
theorem dX8_readTask_19 : decode cX8_readTask 19 = .ok (.iconst 0, 1) := by decide +kernel
theorem dX8_readTask_20 : decode cX8_readTask 20 = .ok (.aload_n 0, 1) := by decide +kernel
theorem dX8_readTask_21 : decode cX8_readTask 21 = .ok (.getfield 9, 3) := by decide +kernel
theorem dX8_readTask_24 : decode cX8_readTask 24 = .ok (.iconst 1, 1) := by decide +kernel
theorem dX8_readTask_25 : decode cX8_readTask 25 = .ok (.isub, 1) := by decide +kernel
theorem dX8_readTask_26 : decode cX8_readTask 26 = .ok (.invokevirtual 92, 3) := by decide +kernel
theorem dX8_readTask_29 : decode cX8_readTask 29 = .ok (.istore_n 2, 1) := by decide +kernel
theorem dX8_readTask_30 : decode cX8_readTask 30 = .ok (.aload_n 1, 1) := by decide +kernel
theorem dX8_readTask_31 : decode cX8_readTask 31 = .ok (.iconst 0, 1) := by decide +kernel
theorem dX8_readTask_32 : decode cX8_readTask 32 = .ok (.bipush 60, 2) := by decide +kernel
theorem dX8_readTask_34 : decode cX8_readTask 34 = .ok (.invokevirtual 92, 3) := by decide +kernel
theorem dX8_readTask_37 : decode cX8_readTask 37 = .ok (.istore_n 3, 1) := by decide +kernel
theorem dX8_readTask_38 : decode cX8_readTask 38 = .ok (.aload_n 1, 1) := by decide +kernel
theorem dX8_readTask_39 : decode cX8_readTask 39 = .ok (.iconst 0, 1) := by decide +kernel
theorem dX8_readTask_40 : decode cX8_readTask 40 = .ok (.bipush 60, 2) := by decide +kernel
theorem dX8_readTask_42 : decode cX8_readTask 42 = .ok (.invokevirtual 92, 3) := by decide +kernel
theorem dX8_readTask_45 : decode cX8_readTask 45 = .ok (.istore 4, 2) := by decide +kernel
theorem dX8_readTask_47 : decode cX8_readTask 47 = .ok (.aload_n 1, 1) := by decide +kernel
theorem dX8_readTask_48 : decode cX8_readTask 48 = .ok (.invokevirtual 49, 3) := by decide +kernel
theorem dX8_readTask_51 : decode cX8_readTask 51 = .ok (.ifCond .ne 44, 3) := by decide +kernel
theorem dX8_readTask_54 : decode cX8_readTask 54 = .ok (.aload_n 0, 1) := by decide +kernel
theorem dX8_readTask_55 : decode cX8_readTask 55 = .ok (.getfield 34, 3) := by decide +kernel
theorem dX8_readTask_58 : decode cX8_readTask 58 = .ok (.aload_n 0, 1) := by decide +kernel
theorem dX8_readTask_59 : decode cX8_readTask 59 = .ok (.getfield 18, 3) := by decide +kernel
theorem dX8_readTask_62 : decode cX8_readTask 62 = .ok (.iload_n 2, 1) := by decide +kernel
theorem dX8_readTask_63 : decode cX8_readTask 63 = .ok (.iastore, 1) := by decide +kernel
theorem dX8_readTask_64 : decode cX8_readTask 64 = .ok (.aload_n 0, 1) := by decide +kernel
theorem dX8_readTask_65 : decode cX8_readTask 65 = .ok (.getfield 37, 3) := by decide +kernel
theorem dX8_readTask_68 : decode cX8_readTask 68 = .ok (.aload_n 0, 1) := by decide +kernel
theorem dX8_readTask_69 : decode cX8_readTask 69 = .ok (.getfield 18, 3) := by decide +kernel
theorem dX8_readTask_72 : decode cX8_readTask 72 = .ok (.iload_n 3, 1) := by decide +kernel
theorem dX8_readTask_73 : decode cX8_readTask 73 = .ok (.iastore, 1) := by decide +kernel
theorem dX8_readTask_74 : decode cX8_readTask 74 = .ok (.aload_n 0, 1) := by decide +kernel
theorem dX8_readTask_75 : decode cX8_readTask 75 = .ok (.getfield 40, 3) := by decide +kernel
theorem dX8_readTask_78 : decode cX8_readTask 78 = .ok (.aload_n 0, 1) := by decide +kernel
theorem dX8_readTask_79 : decode cX8_readTask 79 = .ok (.getfield 18, 3) := by decide +kernel
theorem dX8_readTask_82 : decode cX8_readTask 82 = .ok (.iload 4, 2) := by decide +kernel
theorem dX8_readTask_84 : decode cX8_readTask 84 = .ok (.iastore, 1) := by decide +kernel
theorem dX8_readTask_85 : decode cX8_readTask 85 = .ok (.aload_n 0, 1) := by decide +kernel
theorem dX8_readTask_86 : decode cX8_readTask 86 = .ok (.dup, 1) := by decide +kernel
theorem dX8_readTask_87 : decode cX8_readTask 87 = .ok (.getfield 18, 3) := by decide +kernel
theorem dX8_readTask_90 : decode cX8_readTask 90 = .ok (.iconst 1, 1) := by decide +kernel
theorem dX8_readTask_91 : decode cX8_readTask 91 = .ok (.iadd, 1) := by decide +kernel
theorem dX8_readTask_92 : decode cX8_readTask 92 = .ok (.putfield 18, 3) := by decide +kernel
theorem dX8_readTask_95 : decode cX8_readTask 95 = .ok (.return_, 1) := by decide +kernel
theorem dX9_init_0 : decode cX9_init 0 = .ok (.aload_n 0, 1) := by decide +kernel
theorem dX9_init_1 : decode cX9_init 1 = .ok (.invokespecial 1, 3) := by decide +kernel
theorem dX9_init_4 : decode cX9_init 4 = .ok (.aload_n 0, 1) := by decide +kernel
theorem dX9_init_5 : decode cX9_init 5 = .ok (.iconst 0, 1) := by decide +kernel
theorem dX9_init_6 : decode cX9_init 6 = .ok (.putfield 7, 3) := by decide +kernel
theorem dX9_init_9 : decode cX9_init 9 = .ok (.aload_n 0, 1) := by decide +kernel
theorem dX9_init_10 : decode cX9_init 10 = .ok (.iconst 0, 1) := by decide +kernel
theorem dX9_init_11 : decode cX9_init 11 = .ok (.putfield 13, 3) := by decide +kernel
theorem dX9_init_14 : decode cX9_init 14 = .ok (.aload_n 0, 1) := by decide +kernel
theorem dX9_init_15 : decode cX9_init 15 = .ok (.aload_n 1, 1) := by decide +kernel
theorem dX9_init_16 : decode cX9_init 16 = .ok (.putfield 16, 3) := by decide +kernel
theorem dX9_init_19 : decode cX9_init 19 = .ok (.return_, 1) := by decide +kernel
theorem dX9_liveFrom_0 : decode cX9_liveFrom 0 = .ok (.aload_n 0, 1) := by decide +kernel
theorem dX9_liveFrom_1 : decode cX9_liveFrom 1 = .ok (.getfield 16, 3) := by decide +kernel
theorem dX9_liveFrom_4 : decode cX9_liveFrom 4 = .ok (.aload_n 1, 1) := by decide +kernel
theorem dX9_liveFrom_5 : decode cX9_liveFrom 5 = .ok (.invokevirtual 20, 3) := by decide +kernel
theorem dX9_liveFrom_8 : decode cX9_liveFrom 8 = .ok (.aload_n 0, 1) := by decide +kernel
theorem dX9_liveFrom_9 : decode cX9_liveFrom 9 = .ok (.iload_n 2, 1) := by decide +kernel
theorem dX9_liveFrom_10 : decode cX9_liveFrom 10 = .ok (.putfield 7, 3) := by decide +kernel
theorem dX9_liveFrom_13 : decode cX9_liveFrom 13 = .ok (.aload_n 0, 1) := by decide +kernel
theorem dX9_liveFrom_14 : decode cX9_liveFrom 14 = .ok (.iconst 0, 1) := by decide +kernel
theorem dX9_liveFrom_15 : decode cX9_liveFrom 15 = .ok (.putfield 13, 3) := by decide +kernel
theorem dX9_liveFrom_18 : decode cX9_liveFrom 18 = .ok (.aload_n 0, 1) := by decide +kernel
theorem dX9_liveFrom_19 : decode cX9_liveFrom 19 = .ok (.getfield 16, 3) := by decide +kernel
theorem dX9_liveFrom_22 : decode cX9_liveFrom 22 = .ok (.getfield 26, 3) := by decide +kernel
theorem dX9_liveFrom_25 : decode cX9_liveFrom 25 = .ok (.getfield 30, 3) := by decide +kernel
theorem dX9_liveFrom_28 : decode cX9_liveFrom 28 = .ok (.istore 6, 2) := by decide +kernel
theorem dX9_liveFrom_30 : decode cX9_liveFrom 30 = .ok (.iconst 0, 1) := by decide +kernel
theorem dX9_liveFrom_31 : decode cX9_liveFrom 31 = .ok (.istore 7, 2) := by decide +kernel
theorem dX9_liveFrom_33 : decode cX9_liveFrom 33 = .ok (.iload 7, 2) := by decide +kernel
theorem dX9_liveFrom_35 : decode cX9_liveFrom 35 = .ok (.iload_n 3, 1) := by decide +kernel
theorem dX9_liveFrom_36 : decode cX9_liveFrom 36 = .ok (.if_icmp .ge 31, 3) := by decide +kernel
theorem dX9_liveFrom_39 : decode cX9_liveFrom 39 = .ok (.iload 6, 2) := by decide +kernel
theorem dX9_liveFrom_41 : decode cX9_liveFrom 41 = .ok (.ifCond .le 13, 3) := by decide +kernel
theorem dX9_liveFrom_44 : decode cX9_liveFrom 44 = .ok (.aload_n 0, 1) := by decide +kernel
theorem dX9_liveFrom_45 : decode cX9_liveFrom 45 = .ok (.iload 6, 2) := by decide +kernel
theorem dX9_liveFrom_47 : decode cX9_liveFrom 47 = .ok (.iload 4, 2) := by decide +kernel
theorem dX9_liveFrom_49 : decode cX9_liveFrom 49 = .ok (.iload 5, 2) := by decide +kernel
theorem dX9_liveFrom_51 : decode cX9_liveFrom 51 = .ok (.invokevirtual 35, 3) := by decide +kernel
theorem dX9_liveFrom_54 : decode cX9_liveFrom 54 = .ok (.aload_n 0, 1) := by decide +kernel
theorem dX9_liveFrom_55 : decode cX9_liveFrom 55 = .ok (.getfield 16, 3) := by decide +kernel
theorem dX9_liveFrom_58 : decode cX9_liveFrom 58 = .ok (.invokevirtual 39, 3) := by decide +kernel
theorem dX9_liveFrom_61 : decode cX9_liveFrom 61 = .ok (.iinc 7 1, 3) := by decide +kernel
theorem dX9_liveFrom_64 : decode cX9_liveFrom 64 = .ok (.goto (-31), 3) := by decide +kernel
theorem dX9_liveFrom_67 : decode cX9_liveFrom 67 = .ok (.return_, 1) := by decide +kernel
theorem dX9_tradeAmong_0 : decode cX9_tradeAmong 0 = .ok (.aload_n 0, 1) := by decide +kernel
theorem dX9_tradeAmong_1 : decode cX9_tradeAmong 1 = .ok (.iload_n 1, 1) := by decide +kernel
theorem dX9_tradeAmong_2 : decode cX9_tradeAmong 2 = .ok (.invokevirtual 42, 3) := by decide +kernel
theorem dX9_tradeAmong_5 : decode cX9_tradeAmong 5 = .ok (.istore 4, 2) := by decide +kernel
theorem dX9_tradeAmong_7 : decode cX9_tradeAmong 7 = .ok (.aload_n 0, 1) := by decide +kernel
theorem dX9_tradeAmong_8 : decode cX9_tradeAmong 8 = .ok (.bipush 16, 2) := by decide +kernel
theorem dX9_tradeAmong_10 : decode cX9_tradeAmong 10 = .ok (.invokevirtual 42, 3) := by decide +kernel
theorem dX9_tradeAmong_13 : decode cX9_tradeAmong 13 = .ok (.iload_n 2, 1) := by decide +kernel
theorem dX9_tradeAmong_14 : decode cX9_tradeAmong 14 = .ok (.if_icmp .ge 25, 3) := by decide +kernel
theorem dX9_tradeAmong_17 : decode cX9_tradeAmong 17 = .ok (.aload_n 0, 1) := by decide +kernel
theorem dX9_tradeAmong_18 : decode cX9_tradeAmong 18 = .ok (.getfield 16, 3) := by decide +kernel
theorem dX9_tradeAmong_21 : decode cX9_tradeAmong 21 = .ok (.iload 4, 2) := by decide +kernel
theorem dX9_tradeAmong_23 : decode cX9_tradeAmong 23 = .ok (.invokevirtual 46, 3) := by decide +kernel
theorem dX9_tradeAmong_26 : decode cX9_tradeAmong 26 = .ok (.ifCond .eq 13, 3) := by decide +kernel
theorem dX9_tradeAmong_29 : decode cX9_tradeAmong 29 = .ok (.aload_n 0, 1) := by decide +kernel
theorem dX9_tradeAmong_30 : decode cX9_tradeAmong 30 = .ok (.dup, 1) := by decide +kernel
theorem dX9_tradeAmong_31 : decode cX9_tradeAmong 31 = .ok (.getfield 13, 3) := by decide +kernel
theorem dX9_tradeAmong_34 : decode cX9_tradeAmong 34 = .ok (.iconst 1, 1) := by decide +kernel
theorem dX9_tradeAmong_35 : decode cX9_tradeAmong 35 = .ok (.iadd, 1) := by decide +kernel
theorem dX9_tradeAmong_36 : decode cX9_tradeAmong 36 = .ok (.putfield 13, 3) := by decide +kernel
theorem dX9_tradeAmong_39 : decode cX9_tradeAmong 39 = .ok (.aload_n 0, 1) := by decide +kernel
theorem dX9_tradeAmong_40 : decode cX9_tradeAmong 40 = .ok (.iload_n 1, 1) := by decide +kernel
theorem dX9_tradeAmong_41 : decode cX9_tradeAmong 41 = .ok (.invokevirtual 42, 3) := by decide +kernel
theorem dX9_tradeAmong_44 : decode cX9_tradeAmong 44 = .ok (.istore 5, 2) := by decide +kernel
theorem dX9_tradeAmong_46 : decode cX9_tradeAmong 46 = .ok (.aload_n 0, 1) := by decide +kernel
theorem dX9_tradeAmong_47 : decode cX9_tradeAmong 47 = .ok (.bipush 16, 2) := by decide +kernel
theorem dX9_tradeAmong_49 : decode cX9_tradeAmong 49 = .ok (.invokevirtual 42, 3) := by decide +kernel
theorem dX9_tradeAmong_52 : decode cX9_tradeAmong 52 = .ok (.iload_n 3, 1) := by decide +kernel
theorem dX9_tradeAmong_53 : decode cX9_tradeAmong 53 = .ok (.if_icmp .ge 13, 3) := by decide +kernel
theorem dX9_tradeAmong_56 : decode cX9_tradeAmong 56 = .ok (.aload_n 0, 1) := by decide +kernel
theorem dX9_tradeAmong_57 : decode cX9_tradeAmong 57 = .ok (.getfield 16, 3) := by decide +kernel
theorem dX9_tradeAmong_60 : decode cX9_tradeAmong 60 = .ok (.iload 5, 2) := by decide +kernel
theorem dX9_tradeAmong_62 : decode cX9_tradeAmong 62 = .ok (.invokevirtual 50, 3) := by decide +kernel
theorem dX9_tradeAmong_65 : decode cX9_tradeAmong 65 = .ok (.pop, 1) := by decide +kernel
theorem dX9_tradeAmong_66 : decode cX9_tradeAmong 66 = .ok (.return_, 1) := by decide +kernel
theorem dX9_drawBelow_0 : decode cX9_drawBelow 0 = .ok (.aload_n 0, 1) := by decide +kernel
theorem dX9_drawBelow_1 : decode cX9_drawBelow 1 = .ok (.aload_n 0, 1) := by decide +kernel
theorem dX9_drawBelow_2 : decode cX9_drawBelow 2 = .ok (.getfield 7, 3) := by decide +kernel
theorem dX9_drawBelow_5 : decode cX9_drawBelow 5 = .ok (.ldc 53, 2) := by decide +kernel
theorem dX9_drawBelow_7 : decode cX9_drawBelow 7 = .ok (.imul, 1) := by decide +kernel
theorem dX9_drawBelow_8 : decode cX9_drawBelow 8 = .ok (.sipush 12345, 3) := by decide +kernel
theorem dX9_drawBelow_11 : decode cX9_drawBelow 11 = .ok (.iadd, 1) := by decide +kernel
theorem dX9_drawBelow_12 : decode cX9_drawBelow 12 = .ok (.putfield 7, 3) := by decide +kernel
theorem dX9_drawBelow_15 : decode cX9_drawBelow 15 = .ok (.aload_n 0, 1) := by decide +kernel
theorem dX9_drawBelow_16 : decode cX9_drawBelow 16 = .ok (.getfield 7, 3) := by decide +kernel
theorem dX9_drawBelow_19 : decode cX9_drawBelow 19 = .ok (.bipush 16, 2) := by decide +kernel
theorem dX9_drawBelow_21 : decode cX9_drawBelow 21 = .ok (.iushr, 1) := by decide +kernel
theorem dX9_drawBelow_22 : decode cX9_drawBelow 22 = .ok (.sipush 32767, 3) := by decide +kernel
theorem dX9_drawBelow_25 : decode cX9_drawBelow 25 = .ok (.iand, 1) := by decide +kernel
theorem dX9_drawBelow_26 : decode cX9_drawBelow 26 = .ok (.istore_n 2, 1) := by decide +kernel
theorem dX9_drawBelow_27 : decode cX9_drawBelow 27 = .ok (.iload_n 1, 1) := by decide +kernel
theorem dX9_drawBelow_28 : decode cX9_drawBelow 28 = .ok (.ifCond .le 9, 3) := by decide +kernel
theorem dX9_drawBelow_31 : decode cX9_drawBelow 31 = .ok (.iload_n 2, 1) := by decide +kernel
theorem dX9_drawBelow_32 : decode cX9_drawBelow 32 = .ok (.iload_n 1, 1) := by decide +kernel
theorem dX9_drawBelow_33 : decode cX9_drawBelow 33 = .ok (.irem, 1) := by decide +kernel
theorem dX9_drawBelow_34 : decode cX9_drawBelow 34 = .ok (.goto 4, 3) := by decide +kernel
theorem dX9_drawBelow_37 : decode cX9_drawBelow 37 = .ok (.iconst 0, 1) := by decide +kernel
theorem dX9_drawBelow_38 : decode cX9_drawBelow 38 = .ok (.ireturn, 1) := by decide +kernel
theorem dX10_init_0 : decode cX10_init 0 = .ok (.aload_n 0, 1) := by decide +kernel
theorem dX10_init_1 : decode cX10_init 1 = .ok (.invokespecial 1, 3) := by decide +kernel
theorem dX10_init_4 : decode cX10_init 4 = .ok (.aload_n 0, 1) := by decide +kernel
theorem dX10_init_5 : decode cX10_init 5 = .ok (.new 7, 3) := by decide +kernel
theorem dX10_init_8 : decode cX10_init 8 = .ok (.dup, 1) := by decide +kernel
theorem dX10_init_9 : decode cX10_init 9 = .ok (.invokespecial 9, 3) := by decide +kernel
theorem dX10_init_12 : decode cX10_init 12 = .ok (.putfield 10, 3) := by decide +kernel
theorem dX10_init_15 : decode cX10_init 15 = .ok (.aload_n 0, 1) := by decide +kernel
theorem dX10_init_16 : decode cX10_init 16 = .ok (.new 16, 3) := by decide +kernel
theorem dX10_init_19 : decode cX10_init 19 = .ok (.dup, 1) := by decide +kernel
theorem dX10_init_20 : decode cX10_init 20 = .ok (.invokespecial 18, 3) := by decide +kernel
theorem dX10_init_23 : decode cX10_init 23 = .ok (.putfield 19, 3) := by decide +kernel
theorem dX10_init_26 : decode cX10_init 26 = .ok (.aload_n 0, 1) := by decide +kernel
theorem dX10_init_27 : decode cX10_init 27 = .ok (.new 16, 3) := by decide +kernel
theorem dX10_init_30 : decode cX10_init 30 = .ok (.dup, 1) := by decide +kernel
theorem dX10_init_31 : decode cX10_init 31 = .ok (.invokespecial 18, 3) := by decide +kernel
theorem dX10_init_34 : decode cX10_init 34 = .ok (.putfield 23, 3) := by decide +kernel
theorem dX10_init_37 : decode cX10_init 37 = .ok (.aload_n 0, 1) := by decide +kernel
theorem dX10_init_38 : decode cX10_init 38 = .ok (.new 26, 3) := by decide +kernel
theorem dX10_init_41 : decode cX10_init 41 = .ok (.dup, 1) := by decide +kernel
theorem dX10_init_42 : decode cX10_init 42 = .ok (.invokespecial 28, 3) := by decide +kernel
theorem dX10_init_45 : decode cX10_init 45 = .ok (.putfield 29, 3) := by decide +kernel
theorem dX10_init_48 : decode cX10_init 48 = .ok (.aload_n 0, 1) := by decide +kernel
theorem dX10_init_49 : decode cX10_init 49 = .ok (.new 26, 3) := by decide +kernel
theorem dX10_init_52 : decode cX10_init 52 = .ok (.dup, 1) := by decide +kernel
theorem dX10_init_53 : decode cX10_init 53 = .ok (.invokespecial 28, 3) := by decide +kernel
theorem dX10_init_56 : decode cX10_init 56 = .ok (.putfield 33, 3) := by decide +kernel
theorem dX10_init_59 : decode cX10_init 59 = .ok (.aload_n 0, 1) := by decide +kernel
theorem dX10_init_60 : decode cX10_init 60 = .ok (.new 36, 3) := by decide +kernel
theorem dX10_init_63 : decode cX10_init 63 = .ok (.dup, 1) := by decide +kernel
theorem dX10_init_64 : decode cX10_init 64 = .ok (.invokespecial 38, 3) := by decide +kernel
theorem dX10_init_67 : decode cX10_init 67 = .ok (.putfield 39, 3) := by decide +kernel
theorem dX10_init_70 : decode cX10_init 70 = .ok (.aload_n 0, 1) := by decide +kernel
theorem dX10_init_71 : decode cX10_init 71 = .ok (.new 36, 3) := by decide +kernel
theorem dX10_init_74 : decode cX10_init 74 = .ok (.dup, 1) := by decide +kernel
theorem dX10_init_75 : decode cX10_init 75 = .ok (.invokespecial 38, 3) := by decide +kernel
theorem dX10_init_78 : decode cX10_init 78 = .ok (.putfield 43, 3) := by decide +kernel
theorem dX10_init_81 : decode cX10_init 81 = .ok (.aload_n 0, 1) := by decide +kernel
theorem dX10_init_82 : decode cX10_init 82 = .ok (.new 46, 3) := by decide +kernel
theorem dX10_init_85 : decode cX10_init 85 = .ok (.dup, 1) := by decide +kernel
theorem dX10_init_86 : decode cX10_init 86 = .ok (.invokespecial 48, 3) := by decide +kernel
theorem dX10_init_89 : decode cX10_init 89 = .ok (.putfield 49, 3) := by decide +kernel
theorem dX10_init_92 : decode cX10_init 92 = .ok (.aload_n 0, 1) := by decide +kernel
theorem dX10_init_93 : decode cX10_init 93 = .ok (.new 53, 3) := by decide +kernel
theorem dX10_init_96 : decode cX10_init 96 = .ok (.dup, 1) := by decide +kernel
theorem dX10_init_97 : decode cX10_init 97 = .ok (.aload_n 0, 1) := by decide +kernel
theorem dX10_init_98 : decode cX10_init 98 = .ok (.getfield 19, 3) := by decide +kernel
theorem dX10_init_101 : decode cX10_init 101 = .ok (.aload_n 0, 1) := by decide +kernel
theorem dX10_init_102 : decode cX10_init 102 = .ok (.getfield 29, 3) := by decide +kernel
theorem dX10_init_105 : decode cX10_init 105 = .ok (.invokespecial 55, 3) := by decide +kernel
theorem dX10_init_108 : decode cX10_init 108 = .ok (.putfield 58, 3) := by decide +kernel
theorem dX10_init_111 : decode cX10_init 111 = .ok (.aload_n 0, 1) := by decide +kernel
theorem dX10_init_112 : decode cX10_init 112 = .ok (.new 53, 3) := by decide +kernel
theorem dX10_init_115 : decode cX10_init 115 = .ok (.dup, 1) := by decide +kernel
theorem dX10_init_116 : decode cX10_init 116 = .ok (.aload_n 0, 1) := by decide +kernel
theorem dX10_init_117 : decode cX10_init 117 = .ok (.getfield 19, 3) := by decide +kernel
theorem dX10_init_120 : decode cX10_init 120 = .ok (.aload_n 0, 1) := by decide +kernel
theorem dX10_init_121 : decode cX10_init 121 = .ok (.getfield 29, 3) := by decide +kernel
theorem dX10_init_124 : decode cX10_init 124 = .ok (.invokespecial 55, 3) := by decide +kernel
theorem dX10_init_127 : decode cX10_init 127 = .ok (.putfield 62, 3) := by decide +kernel
theorem dX10_init_130 : decode cX10_init 130 = .ok (.aload_n 0, 1) := by decide +kernel
theorem dX10_init_131 : decode cX10_init 131 = .ok (.new 65, 3) := by decide +kernel
theorem dX10_init_134 : decode cX10_init 134 = .ok (.dup, 1) := by decide +kernel
theorem dX10_init_135 : decode cX10_init 135 = .ok (.aload_n 0, 1) := by decide +kernel
theorem dX10_init_136 : decode cX10_init 136 = .ok (.getfield 19, 3) := by decide +kernel
theorem dX10_init_139 : decode cX10_init 139 = .ok (.invokespecial 67, 3) := by decide +kernel
theorem dX10_init_142 : decode cX10_init 142 = .ok (.putfield 70, 3) := by decide +kernel
theorem dX10_init_145 : decode cX10_init 145 = .ok (.aload_n 0, 1) := by decide +kernel
theorem dX10_init_146 : decode cX10_init 146 = .ok (.new 74, 3) := by decide +kernel
theorem dX10_init_149 : decode cX10_init 149 = .ok (.dup, 1) := by decide +kernel
theorem dX10_init_150 : decode cX10_init 150 = .ok (.aload_n 0, 1) := by decide +kernel
theorem dX10_init_151 : decode cX10_init 151 = .ok (.getfield 19, 3) := by decide +kernel
theorem dX10_init_154 : decode cX10_init 154 = .ok (.aload_n 0, 1) := by decide +kernel
theorem dX10_init_155 : decode cX10_init 155 = .ok (.getfield 29, 3) := by decide +kernel
theorem dX10_init_158 : decode cX10_init 158 = .ok (.invokespecial 76, 3) := by decide +kernel
theorem dX10_init_161 : decode cX10_init 161 = .ok (.putfield 77, 3) := by decide +kernel
theorem dX10_init_164 : decode cX10_init 164 = .ok (.aload_n 0, 1) := by decide +kernel
theorem dX10_init_165 : decode cX10_init 165 = .ok (.new 81, 3) := by decide +kernel
theorem dX10_init_168 : decode cX10_init 168 = .ok (.dup, 1) := by decide +kernel
theorem dX10_init_169 : decode cX10_init 169 = .ok (.aload_n 0, 1) := by decide +kernel
theorem dX10_init_170 : decode cX10_init 170 = .ok (.getfield 62, 3) := by decide +kernel
theorem dX10_init_173 : decode cX10_init 173 = .ok (.invokespecial 83, 3) := by decide +kernel
theorem dX10_init_176 : decode cX10_init 176 = .ok (.putfield 86, 3) := by decide +kernel
theorem dX10_init_179 : decode cX10_init 179 = .ok (.aload_n 0, 1) := by decide +kernel
theorem dX10_init_180 : decode cX10_init 180 = .ok (.new 90, 3) := by decide +kernel
theorem dX10_init_183 : decode cX10_init 183 = .ok (.dup, 1) := by decide +kernel
theorem dX10_init_184 : decode cX10_init 184 = .ok (.invokespecial 92, 3) := by decide +kernel
theorem dX10_init_187 : decode cX10_init 187 = .ok (.putfield 93, 3) := by decide +kernel
theorem dX10_init_190 : decode cX10_init 190 = .ok (.aload_n 0, 1) := by decide +kernel
theorem dX10_init_191 : decode cX10_init 191 = .ok (.iconst 3, 1) := by decide +kernel
theorem dX10_init_192 : decode cX10_init 192 = .ok (.anewarray 90, 3) := by decide +kernel
theorem dX10_init_195 : decode cX10_init 195 = .ok (.putfield 97, 3) := by decide +kernel
theorem dX10_init_198 : decode cX10_init 198 = .ok (.aload_n 0, 1) := by decide +kernel
theorem dX10_init_199 : decode cX10_init 199 = .ok (.iconst 0, 1) := by decide +kernel
theorem dX10_init_200 : decode cX10_init 200 = .ok (.putfield 101, 3) := by decide +kernel
theorem dX10_init_203 : decode cX10_init 203 = .ok (.aload_n 0, 1) := by decide +kernel
theorem dX10_init_204 : decode cX10_init 204 = .ok (.iconst 0, 1) := by decide +kernel
theorem dX10_init_205 : decode cX10_init 205 = .ok (.putfield 105, 3) := by decide +kernel
theorem dX10_init_208 : decode cX10_init 208 = .ok (.aload_n 0, 1) := by decide +kernel
theorem dX10_init_209 : decode cX10_init 209 = .ok (.iconst 0, 1) := by decide +kernel
theorem dX10_init_210 : decode cX10_init 210 = .ok (.putfield 108, 3) := by decide +kernel
theorem dX10_init_213 : decode cX10_init 213 = .ok (.iconst 0, 1) := by decide +kernel
theorem dX10_init_214 : decode cX10_init 214 = .ok (.istore_n 1, 1) := by decide +kernel
theorem dX10_init_215 : decode cX10_init 215 = .ok (.iload_n 1, 1) := by decide +kernel
theorem dX10_init_216 : decode cX10_init 216 = .ok (.iconst 3, 1) := by decide +kernel
theorem dX10_init_217 : decode cX10_init 217 = .ok (.if_icmp .ge 22, 3) := by decide +kernel
theorem dX10_init_220 : decode cX10_init 220 = .ok (.aload_n 0, 1) := by decide +kernel
theorem dX10_init_221 : decode cX10_init 221 = .ok (.getfield 97, 3) := by decide +kernel
theorem dX10_init_224 : decode cX10_init 224 = .ok (.iload_n 1, 1) := by decide +kernel
theorem dX10_init_225 : decode cX10_init 225 = .ok (.new 90, 3) := by decide +kernel
theorem dX10_init_228 : decode cX10_init 228 = .ok (.dup, 1) := by decide +kernel
theorem dX10_init_229 : decode cX10_init 229 = .ok (.invokespecial 92, 3) := by decide +kernel
theorem dX10_init_232 : decode cX10_init 232 = .ok (.aastore, 1) := by decide +kernel
theorem dX10_init_233 : decode cX10_init 233 = .ok (.iinc 1 1, 3) := by decide +kernel
theorem dX10_init_236 : decode cX10_init 236 = .ok (.goto (-21), 3) := by decide +kernel
theorem dX10_init_239 : decode cX10_init 239 = .ok (.aload_n 0, 1) := by decide +kernel
theorem dX10_init_240 : decode cX10_init 240 = .ok (.getfield 58, 3) := by decide +kernel
theorem dX10_init_243 : decode cX10_init 243 = .ok (.invokevirtual 111, 3) := by decide +kernel
theorem dX10_init_246 : decode cX10_init 246 = .ok (.return_, 1) := by decide +kernel
theorem dX10_feed_0 : decode cX10_feed 0 = .ok (.aload_n 0, 1) := by decide +kernel
theorem dX10_feed_1 : decode cX10_feed 1 = .ok (.getfield 10, 3) := by decide +kernel
theorem dX10_feed_4 : decode cX10_feed 4 = .ok (.bipush 20, 2) := by decide +kernel
theorem dX10_feed_6 : decode cX10_feed 6 = .ok (.invokevirtual 114, 3) := by decide +kernel
theorem dX10_feed_9 : decode cX10_feed 9 = .ok (.ifCond .ne 5, 3) := by decide +kernel
theorem dX10_feed_12 : decode cX10_feed 12 = .ok (.iconst (-1), 1) := by decide +kernel
theorem dX10_feed_13 : decode cX10_feed 13 = .ok (.ireturn, 1) := by decide +kernel
theorem dX10_feed_14 : decode cX10_feed 14 = .ok (.aload_n 0, 1) := by decide +kernel
theorem dX10_feed_15 : decode cX10_feed 15 = .ok (.getfield 10, 3) := by decide +kernel
theorem dX10_feed_18 : decode cX10_feed 18 = .ok (.iload_n 1, 1) := by decide +kernel
theorem dX10_feed_19 : decode cX10_feed 19 = .ok (.invokevirtual 118, 3) := by decide +kernel
theorem dX10_feed_22 : decode cX10_feed 22 = .ok (.aload_n 0, 1) := by decide +kernel
theorem dX10_feed_23 : decode cX10_feed 23 = .ok (.getfield 10, 3) := by decide +kernel
theorem dX10_feed_26 : decode cX10_feed 26 = .ok (.iload_n 2, 1) := by decide +kernel
theorem dX10_feed_27 : decode cX10_feed 27 = .ok (.invokevirtual 118, 3) := by decide +kernel
