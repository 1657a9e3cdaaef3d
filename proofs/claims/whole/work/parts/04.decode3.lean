theorem dX11_clear_67 : decode cX11_clear 67 = .ok (.aload_n 0, 1) := by decide +kernel
theorem dX11_clear_68 : decode cX11_clear 68 = .ok (.getfield 73, 3) := by decide +kernel
theorem dX11_clear_71 : decode cX11_clear 71 = .ok (.bipush 55, 2) := by decide +kernel
theorem dX11_clear_73 : decode cX11_clear 73 = .ok (.iaload, 1) := by decide +kernel
theorem dX11_clear_74 : decode cX11_clear 74 = .ok (.iload 4, 2) := by decide +kernel
theorem dX11_clear_76 : decode cX11_clear 76 = .ok (.iadd, 1) := by decide +kernel
theorem dX11_clear_77 : decode cX11_clear 77 = .ok (.invokevirtual 335, 3) := by decide +kernel
theorem dX11_clear_80 : decode cX11_clear 80 = .ok (.ifCond .eq 7, 3) := by decide +kernel
theorem dX11_clear_83 : decode cX11_clear 83 = .ok (.iconst 0, 1) := by decide +kernel
theorem dX11_clear_84 : decode cX11_clear 84 = .ok (.goto 7, 3) := by decide +kernel
theorem dX11_clear_87 : decode cX11_clear 87 = .ok (.iconst 1, 1) := by decide +kernel
theorem dX11_clear_88 : decode cX11_clear 88 = .ok (.iload 4, 2) := by decide +kernel
theorem dX11_clear_90 : decode cX11_clear 90 = .ok (.ishl, 1) := by decide +kernel
theorem dX11_clear_91 : decode cX11_clear 91 = .ok (.ior, 1) := by decide +kernel
theorem dX11_clear_92 : decode cX11_clear 92 = .ok (.istore_n 3, 1) := by decide +kernel
theorem dX11_clear_93 : decode cX11_clear 93 = .ok (.iinc 4 1, 3) := by decide +kernel
theorem dX11_clear_96 : decode cX11_clear 96 = .ok (.goto (-38), 3) := by decide +kernel
theorem dX11_clear_99 : decode cX11_clear 99 = .ok (.iload_n 3, 1) := by decide +kernel
theorem dX11_clear_100 : decode cX11_clear 100 = .ok (.ireturn, 1) := by decide +kernel
theorem dX11_richest_0 : decode cX11_richest 0 = .ok (.aload_n 0, 1) := by decide +kernel
theorem dX11_richest_1 : decode cX11_richest 1 = .ok (.iconst 0, 1) := by decide +kernel
theorem dX11_richest_2 : decode cX11_richest 2 = .ok (.putfield 97, 3) := by decide +kernel
theorem dX11_richest_5 : decode cX11_richest 5 = .ok (.aload_n 0, 1) := by decide +kernel
theorem dX11_richest_6 : decode cX11_richest 6 = .ok (.iload_n 1, 1) := by decide +kernel
theorem dX11_richest_7 : decode cX11_richest 7 = .ok (.iconst 0, 1) := by decide +kernel
theorem dX11_richest_8 : decode cX11_richest 8 = .ok (.iconst 1, 1) := by decide +kernel
theorem dX11_richest_9 : decode cX11_richest 9 = .ok (.invokestatic 131, 3) := by decide +kernel
theorem dX11_richest_12 : decode cX11_richest 12 = .ok (.ifCond .ne 7, 3) := by decide +kernel
theorem dX11_richest_15 : decode cX11_richest 15 = .ok (.iconst 1, 1) := by decide +kernel
theorem dX11_richest_16 : decode cX11_richest 16 = .ok (.goto 4, 3) := by decide +kernel
theorem dX11_richest_19 : decode cX11_richest 19 = .ok (.iconst 0, 1) := by decide +kernel
theorem dX11_richest_20 : decode cX11_richest 20 = .ok (.iconst 1, 1) := by decide +kernel
theorem dX11_richest_21 : decode cX11_richest 21 = .ok (.iconst 1, 1) := by decide +kernel
theorem dX11_richest_22 : decode cX11_richest 22 = .ok (.invokevirtual 173, 3) := by decide +kernel
theorem dX11_richest_25 : decode cX11_richest 25 = .ok (.ifCond .eq 5, 3) := by decide +kernel
theorem dX11_richest_28 : decode cX11_richest 28 = .ok (.iconst 0, 1) := by decide +kernel
theorem dX11_richest_29 : decode cX11_richest 29 = .ok (.ireturn, 1) := by decide +kernel
theorem dX11_richest_30 : decode cX11_richest 30 = .ok (.iconst (-1), 1) := by decide +kernel
theorem dX11_richest_31 : decode cX11_richest 31 = .ok (.istore_n 2, 1) := by decide +kernel
theorem dX11_richest_32 : decode cX11_richest 32 = .ok (.iconst 0, 1) := by decide +kernel
theorem dX11_richest_33 : decode cX11_richest 33 = .ok (.istore_n 3, 1) := by decide +kernel
theorem dX11_richest_34 : decode cX11_richest 34 = .ok (.iload_n 3, 1) := by decide +kernel
theorem dX11_richest_35 : decode cX11_richest 35 = .ok (.aload_n 0, 1) := by decide +kernel
theorem dX11_richest_36 : decode cX11_richest 36 = .ok (.getfield 23, 3) := by decide +kernel
theorem dX11_richest_39 : decode cX11_richest 39 = .ok (.iconst 0, 1) := by decide +kernel
theorem dX11_richest_40 : decode cX11_richest 40 = .ok (.iaload, 1) := by decide +kernel
theorem dX11_richest_41 : decode cX11_richest 41 = .ok (.if_icmp .ge 39, 3) := by decide +kernel
theorem dX11_richest_44 : decode cX11_richest 44 = .ok (.iload_n 2, 1) := by decide +kernel
theorem dX11_richest_45 : decode cX11_richest 45 = .ok (.iconst (-1), 1) := by decide +kernel
theorem dX11_richest_46 : decode cX11_richest 46 = .ok (.if_icmp .eq 22, 3) := by decide +kernel
theorem dX11_richest_49 : decode cX11_richest 49 = .ok (.aload_n 0, 1) := by decide +kernel
theorem dX11_richest_50 : decode cX11_richest 50 = .ok (.getfield 73, 3) := by decide +kernel
theorem dX11_richest_53 : decode cX11_richest 53 = .ok (.iconst 0, 1) := by decide +kernel
theorem dX11_richest_54 : decode cX11_richest 54 = .ok (.iload_n 3, 1) := by decide +kernel
theorem dX11_richest_55 : decode cX11_richest 55 = .ok (.iadd, 1) := by decide +kernel
theorem dX11_richest_56 : decode cX11_richest 56 = .ok (.iaload, 1) := by decide +kernel
theorem dX11_richest_57 : decode cX11_richest 57 = .ok (.aload_n 0, 1) := by decide +kernel
theorem dX11_richest_58 : decode cX11_richest 58 = .ok (.getfield 73, 3) := by decide +kernel
theorem dX11_richest_61 : decode cX11_richest 61 = .ok (.iconst 0, 1) := by decide +kernel
theorem dX11_richest_62 : decode cX11_richest 62 = .ok (.iload_n 2, 1) := by decide +kernel
theorem dX11_richest_63 : decode cX11_richest 63 = .ok (.iadd, 1) := by decide +kernel
theorem dX11_richest_64 : decode cX11_richest 64 = .ok (.iaload, 1) := by decide +kernel
theorem dX11_richest_65 : decode cX11_richest 65 = .ok (.if_icmp .le 7, 3) := by decide +kernel
theorem dX11_richest_68 : decode cX11_richest 68 = .ok (.iload_n 3, 1) := by decide +kernel
theorem dX11_richest_69 : decode cX11_richest 69 = .ok (.goto 4, 3) := by decide +kernel
theorem dX11_richest_72 : decode cX11_richest 72 = .ok (.iload_n 2, 1) := by decide +kernel
theorem dX11_richest_73 : decode cX11_richest 73 = .ok (.istore_n 2, 1) := by decide +kernel
theorem dX11_richest_74 : decode cX11_richest 74 = .ok (.iinc 3 1, 3) := by decide +kernel
theorem dX11_richest_77 : decode cX11_richest 77 = .ok (.goto (-43), 3) := by decide +kernel
theorem dX11_richest_80 : decode cX11_richest 80 = .ok (.iload_n 1, 1) := by decide +kernel
theorem dX11_richest_81 : decode cX11_richest 81 = .ok (.ifCond .eq 8, 3) := by decide +kernel
theorem dX11_richest_84 : decode cX11_richest 84 = .ok (.iload_n 2, 1) := by decide +kernel
theorem dX11_richest_85 : decode cX11_richest 85 = .ok (.iconst (-1), 1) := by decide +kernel
theorem dX11_richest_86 : decode cX11_richest 86 = .ok (.if_icmp .ne 7, 3) := by decide +kernel
theorem dX11_richest_89 : decode cX11_richest 89 = .ok (.iload_n 2, 1) := by decide +kernel
theorem dX11_richest_90 : decode cX11_richest 90 = .ok (.goto 11, 3) := by decide +kernel
theorem dX11_richest_93 : decode cX11_richest 93 = .ok (.aload_n 0, 1) := by decide +kernel
theorem dX11_richest_94 : decode cX11_richest 94 = .ok (.getfield 73, 3) := by decide +kernel
theorem dX11_richest_97 : decode cX11_richest 97 = .ok (.iconst 0, 1) := by decide +kernel
theorem dX11_richest_98 : decode cX11_richest 98 = .ok (.iload_n 2, 1) := by decide +kernel
theorem dX11_richest_99 : decode cX11_richest 99 = .ok (.iadd, 1) := by decide +kernel
theorem dX11_richest_100 : decode cX11_richest 100 = .ok (.iaload, 1) := by decide +kernel
theorem dX11_richest_101 : decode cX11_richest 101 = .ok (.ireturn, 1) := by decide +kernel
theorem dX11_back_0 : decode cX11_back 0 = .ok (.aload_n 0, 1) := by decide +kernel
theorem dX11_back_1 : decode cX11_back 1 = .ok (.iconst 0, 1) := by decide +kernel
theorem dX11_back_2 : decode cX11_back 2 = .ok (.putfield 97, 3) := by decide +kernel
theorem dX11_back_5 : decode cX11_back 5 = .ok (.aload_n 0, 1) := by decide +kernel
theorem dX11_back_6 : decode cX11_back 6 = .ok (.aload_n 0, 1) := by decide +kernel
theorem dX11_back_7 : decode cX11_back 7 = .ok (.iload_n 1, 1) := by decide +kernel
theorem dX11_back_8 : decode cX11_back 8 = .ok (.invokevirtual 325, 3) := by decide +kernel
theorem dX11_back_11 : decode cX11_back 11 = .ok (.ifCond .ne 7, 3) := by decide +kernel
theorem dX11_back_14 : decode cX11_back 14 = .ok (.iconst 1, 1) := by decide +kernel
theorem dX11_back_15 : decode cX11_back 15 = .ok (.goto 4, 3) := by decide +kernel
theorem dX11_back_18 : decode cX11_back 18 = .ok (.iconst 0, 1) := by decide +kernel
theorem dX11_back_19 : decode cX11_back 19 = .ok (.iconst 1, 1) := by decide +kernel
theorem dX11_back_20 : decode cX11_back 20 = .ok (.iconst 0, 1) := by decide +kernel
theorem dX11_back_21 : decode cX11_back 21 = .ok (.invokevirtual 173, 3) := by decide +kernel
theorem dX11_back_24 : decode cX11_back 24 = .ok (.ifCond .eq 5, 3) := by decide +kernel
theorem dX11_back_27 : decode cX11_back 27 = .ok (.iconst 0, 1) := by decide +kernel
theorem dX11_back_28 : decode cX11_back 28 = .ok (.ireturn, 1) := by decide +kernel
theorem dX11_back_29 : decode cX11_back 29 = .ok (.aload_n 0, 1) := by decide +kernel
theorem dX11_back_30 : decode cX11_back 30 = .ok (.getfield 73, 3) := by decide +kernel
theorem dX11_back_33 : decode cX11_back 33 = .ok (.iload_n 1, 1) := by decide +kernel
theorem dX11_back_34 : decode cX11_back 34 = .ok (.invokestatic 261, 3) := by decide +kernel
theorem dX11_back_37 : decode cX11_back 37 = .ok (.ifCond .eq 17, 3) := by decide +kernel
theorem dX11_back_40 : decode cX11_back 40 = .ok (.aload_n 0, 1) := by decide +kernel
theorem dX11_back_41 : decode cX11_back 41 = .ok (.getfield 73, 3) := by decide +kernel
theorem dX11_back_44 : decode cX11_back 44 = .ok (.bipush 18, 2) := by decide +kernel
theorem dX11_back_46 : decode cX11_back 46 = .ok (.iload_n 1, 1) := by decide +kernel
theorem dX11_back_47 : decode cX11_back 47 = .ok (.iadd, 1) := by decide +kernel
theorem dX11_back_48 : decode cX11_back 48 = .ok (.iaload, 1) := by decide +kernel
theorem dX11_back_49 : decode cX11_back 49 = .ok (.iconst 2, 1) := by decide +kernel
theorem dX11_back_50 : decode cX11_back 50 = .ok (.idiv, 1) := by decide +kernel
theorem dX11_back_51 : decode cX11_back 51 = .ok (.goto 4, 3) := by decide +kernel
theorem dX11_back_54 : decode cX11_back 54 = .ok (.iconst (-1), 1) := by decide +kernel
theorem dX11_back_55 : decode cX11_back 55 = .ok (.ireturn, 1) := by decide +kernel
theorem dX11_loses_0 : decode cX11_loses 0 = .ok (.aload_n 0, 1) := by decide +kernel
theorem dX11_loses_1 : decode cX11_loses 1 = .ok (.iconst 0, 1) := by decide +kernel
theorem dX11_loses_2 : decode cX11_loses 2 = .ok (.putfield 97, 3) := by decide +kernel
theorem dX11_loses_5 : decode cX11_loses 5 = .ok (.aload_n 0, 1) := by decide +kernel
theorem dX11_loses_6 : decode cX11_loses 6 = .ok (.iload_n 1, 1) := by decide +kernel
theorem dX11_loses_7 : decode cX11_loses 7 = .ok (.iconst 0, 1) := by decide +kernel
theorem dX11_loses_8 : decode cX11_loses 8 = .ok (.bipush 99, 2) := by decide +kernel
theorem dX11_loses_10 : decode cX11_loses 10 = .ok (.invokestatic 131, 3) := by decide +kernel
theorem dX11_loses_13 : decode cX11_loses 13 = .ok (.ifCond .ne 7, 3) := by decide +kernel
theorem dX11_loses_16 : decode cX11_loses 16 = .ok (.iconst 1, 1) := by decide +kernel
theorem dX11_loses_17 : decode cX11_loses 17 = .ok (.goto 4, 3) := by decide +kernel
theorem dX11_loses_20 : decode cX11_loses 20 = .ok (.iconst 0, 1) := by decide +kernel
theorem dX11_loses_21 : decode cX11_loses 21 = .ok (.iconst 1, 1) := by decide +kernel
theorem dX11_loses_22 : decode cX11_loses 22 = .ok (.iconst 1, 1) := by decide +kernel
theorem dX11_loses_23 : decode cX11_loses 23 = .ok (.invokevirtual 173, 3) := by decide +kernel
theorem dX11_loses_26 : decode cX11_loses 26 = .ok (.ifCond .eq 5, 3) := by decide +kernel
theorem dX11_loses_29 : decode cX11_loses 29 = .ok (.iconst 0, 1) := by decide +kernel
theorem dX11_loses_30 : decode cX11_loses 30 = .ok (.ireturn, 1) := by decide +kernel
theorem dX11_loses_31 : decode cX11_loses 31 = .ok (.aload_n 0, 1) := by decide +kernel
theorem dX11_loses_32 : decode cX11_loses 32 = .ok (.getfield 73, 3) := by decide +kernel
theorem dX11_loses_35 : decode cX11_loses 35 = .ok (.aload_n 0, 1) := by decide +kernel
theorem dX11_loses_36 : decode cX11_loses 36 = .ok (.getfield 76, 3) := by decide +kernel
theorem dX11_loses_39 : decode cX11_loses 39 = .ok (.invokestatic 315, 3) := by decide +kernel
theorem dX11_loses_42 : decode cX11_loses 42 = .ok (.iconst 0, 1) := by decide +kernel
theorem dX11_loses_43 : decode cX11_loses 43 = .ok (.istore_n 2, 1) := by decide +kernel
theorem dX11_loses_44 : decode cX11_loses 44 = .ok (.iload_n 2, 1) := by decide +kernel
theorem dX11_loses_45 : decode cX11_loses 45 = .ok (.iload_n 1, 1) := by decide +kernel
theorem dX11_loses_46 : decode cX11_loses 46 = .ok (.if_icmp .ge 17, 3) := by decide +kernel
theorem dX11_loses_49 : decode cX11_loses 49 = .ok (.aload_n 0, 1) := by decide +kernel
theorem dX11_loses_50 : decode cX11_loses 50 = .ok (.aload_n 0, 1) := by decide +kernel
theorem dX11_loses_51 : decode cX11_loses 51 = .ok (.getfield 76, 3) := by decide +kernel
theorem dX11_loses_54 : decode cX11_loses 54 = .ok (.invokevirtual 298, 3) := by decide +kernel
theorem dX11_loses_57 : decode cX11_loses 57 = .ok (.iinc 2 1, 3) := by decide +kernel
theorem dX11_loses_60 : decode cX11_loses 60 = .ok (.goto (-16), 3) := by decide +kernel
theorem dX11_loses_63 : decode cX11_loses 63 = .ok (.aload_n 0, 1) := by decide +kernel
theorem dX11_loses_64 : decode cX11_loses 64 = .ok (.getfield 76, 3) := by decide +kernel
theorem dX11_loses_67 : decode cX11_loses 67 = .ok (.bipush 54, 2) := by decide +kernel
theorem dX11_loses_69 : decode cX11_loses 69 = .ok (.iaload, 1) := by decide +kernel
theorem dX11_loses_70 : decode cX11_loses 70 = .ok (.aload_n 0, 1) := by decide +kernel
theorem dX11_loses_71 : decode cX11_loses 71 = .ok (.getfield 73, 3) := by decide +kernel
theorem dX11_loses_74 : decode cX11_loses 74 = .ok (.bipush 54, 2) := by decide +kernel
theorem dX11_loses_76 : decode cX11_loses 76 = .ok (.iaload, 1) := by decide +kernel
theorem dX11_loses_77 : decode cX11_loses 77 = .ok (.isub, 1) := by decide +kernel
theorem dX11_loses_78 : decode cX11_loses 78 = .ok (.ireturn, 1) := by decide +kernel
theorem dX11_missed_0 : decode cX11_missed 0 = .ok (.aload_n 0, 1) := by decide +kernel
theorem dX11_missed_1 : decode cX11_missed 1 = .ok (.iconst 0, 1) := by decide +kernel
theorem dX11_missed_2 : decode cX11_missed 2 = .ok (.putfield 97, 3) := by decide +kernel
theorem dX11_missed_5 : decode cX11_missed 5 = .ok (.iconst 0, 1) := by decide +kernel
theorem dX11_missed_6 : decode cX11_missed 6 = .ok (.istore_n 1, 1) := by decide +kernel
theorem dX11_missed_7 : decode cX11_missed 7 = .ok (.iconst 0, 1) := by decide +kernel
theorem dX11_missed_8 : decode cX11_missed 8 = .ok (.istore_n 2, 1) := by decide +kernel
theorem dX11_missed_9 : decode cX11_missed 9 = .ok (.iload_n 2, 1) := by decide +kernel
theorem dX11_missed_10 : decode cX11_missed 10 = .ok (.aload_n 0, 1) := by decide +kernel
theorem dX11_missed_11 : decode cX11_missed 11 = .ok (.getfield 23, 3) := by decide +kernel
theorem dX11_missed_14 : decode cX11_missed 14 = .ok (.iconst 2, 1) := by decide +kernel
theorem dX11_missed_15 : decode cX11_missed 15 = .ok (.iaload, 1) := by decide +kernel
theorem dX11_missed_16 : decode cX11_missed 16 = .ok (.if_icmp .ge 50, 3) := by decide +kernel
theorem dX11_missed_19 : decode cX11_missed 19 = .ok (.iload_n 1, 1) := by decide +kernel
theorem dX11_missed_20 : decode cX11_missed 20 = .ok (.aload_n 0, 1) := by decide +kernel
theorem dX11_missed_21 : decode cX11_missed 21 = .ok (.getfield 73, 3) := by decide +kernel
theorem dX11_missed_24 : decode cX11_missed 24 = .ok (.bipush 42, 2) := by decide +kernel
theorem dX11_missed_26 : decode cX11_missed 26 = .ok (.iload_n 2, 1) := by decide +kernel
theorem dX11_missed_27 : decode cX11_missed 27 = .ok (.iadd, 1) := by decide +kernel
theorem dX11_missed_28 : decode cX11_missed 28 = .ok (.iaload, 1) := by decide +kernel
theorem dX11_missed_29 : decode cX11_missed 29 = .ok (.ifCond .ne 28, 3) := by decide +kernel
theorem dX11_missed_32 : decode cX11_missed 32 = .ok (.aload_n 0, 1) := by decide +kernel
theorem dX11_missed_33 : decode cX11_missed 33 = .ok (.getfield 73, 3) := by decide +kernel
theorem dX11_missed_36 : decode cX11_missed 36 = .ok (.bipush 30, 2) := by decide +kernel
theorem dX11_missed_38 : decode cX11_missed 38 = .ok (.iload_n 2, 1) := by decide +kernel
theorem dX11_missed_39 : decode cX11_missed 39 = .ok (.iadd, 1) := by decide +kernel
theorem dX11_missed_40 : decode cX11_missed 40 = .ok (.iaload, 1) := by decide +kernel
theorem dX11_missed_41 : decode cX11_missed 41 = .ok (.aload_n 0, 1) := by decide +kernel
theorem dX11_missed_42 : decode cX11_missed 42 = .ok (.getfield 73, 3) := by decide +kernel
theorem dX11_missed_45 : decode cX11_missed 45 = .ok (.bipush 55, 2) := by decide +kernel
theorem dX11_missed_47 : decode cX11_missed 47 = .ok (.iaload, 1) := by decide +kernel
theorem dX11_missed_48 : decode cX11_missed 48 = .ok (.if_icmp .ge 9, 3) := by decide +kernel
theorem dX11_missed_51 : decode cX11_missed 51 = .ok (.iconst 1, 1) := by decide +kernel
theorem dX11_missed_52 : decode cX11_missed 52 = .ok (.iload_n 2, 1) := by decide +kernel
theorem dX11_missed_53 : decode cX11_missed 53 = .ok (.ishl, 1) := by decide +kernel
theorem dX11_missed_54 : decode cX11_missed 54 = .ok (.goto 4, 3) := by decide +kernel
theorem dX11_missed_57 : decode cX11_missed 57 = .ok (.iconst 0, 1) := by decide +kernel
theorem dX11_missed_58 : decode cX11_missed 58 = .ok (.ior, 1) := by decide +kernel
theorem dX11_missed_59 : decode cX11_missed 59 = .ok (.istore_n 1, 1) := by decide +kernel
theorem dX11_missed_60 : decode cX11_missed 60 = .ok (.iinc 2 1, 3) := by decide +kernel
theorem dX11_missed_63 : decode cX11_missed 63 = .ok (.goto (-54), 3) := by decide +kernel
theorem dX11_missed_66 : decode cX11_missed 66 = .ok (.iload_n 1, 1) := by decide +kernel
theorem dX11_missed_67 : decode cX11_missed 67 = .ok (.ireturn, 1) := by decide +kernel
theorem dX11_due_0 : decode cX11_due 0 = .ok (.aload_n 0, 1) := by decide +kernel
theorem dX11_due_1 : decode cX11_due 1 = .ok (.iconst 0, 1) := by decide +kernel
theorem dX11_due_2 : decode cX11_due 2 = .ok (.putfield 97, 3) := by decide +kernel
theorem dX11_due_5 : decode cX11_due 5 = .ok (.aload_n 0, 1) := by decide +kernel
theorem dX11_due_6 : decode cX11_due 6 = .ok (.getfield 73, 3) := by decide +kernel
theorem dX11_due_9 : decode cX11_due 9 = .ok (.aload_n 0, 1) := by decide +kernel
theorem dX11_due_10 : decode cX11_due 10 = .ok (.getfield 76, 3) := by decide +kernel
theorem dX11_due_13 : decode cX11_due 13 = .ok (.invokestatic 315, 3) := by decide +kernel
theorem dX11_due_16 : decode cX11_due 16 = .ok (.aload_n 0, 1) := by decide +kernel
theorem dX11_due_17 : decode cX11_due 17 = .ok (.aload_n 0, 1) := by decide +kernel
theorem dX11_due_18 : decode cX11_due 18 = .ok (.getfield 76, 3) := by decide +kernel
theorem dX11_due_21 : decode cX11_due 21 = .ok (.invokevirtual 298, 3) := by decide +kernel
theorem dX11_due_24 : decode cX11_due 24 = .ok (.aload_n 0, 1) := by decide +kernel
theorem dX11_due_25 : decode cX11_due 25 = .ok (.aload_n 0, 1) := by decide +kernel
theorem dX11_due_26 : decode cX11_due 26 = .ok (.getfield 76, 3) := by decide +kernel
theorem dX11_due_29 : decode cX11_due 29 = .ok (.bipush 24, 2) := by decide +kernel
theorem dX11_due_31 : decode cX11_due 31 = .ok (.invokevirtual 322, 3) := by decide +kernel
theorem dX11_due_34 : decode cX11_due 34 = .ok (.aload_n 0, 1) := by decide +kernel
theorem dX11_due_35 : decode cX11_due 35 = .ok (.aload_n 0, 1) := by decide +kernel
theorem dX11_due_36 : decode cX11_due 36 = .ok (.getfield 73, 3) := by decide +kernel
theorem dX11_due_39 : decode cX11_due 39 = .ok (.bipush 24, 2) := by decide +kernel
theorem dX11_due_41 : decode cX11_due 41 = .ok (.invokevirtual 322, 3) := by decide +kernel
theorem dX11_due_44 : decode cX11_due 44 = .ok (.isub, 1) := by decide +kernel
theorem dX11_due_45 : decode cX11_due 45 = .ok (.ireturn, 1) := by decide +kernel
theorem dX11_draw_0 : decode cX11_draw 0 = .ok (.aload_n 0, 1) := by decide +kernel
theorem dX11_draw_1 : decode cX11_draw 1 = .ok (.aload_n 0, 1) := by decide +kernel
theorem dX11_draw_2 : decode cX11_draw 2 = .ok (.getfield 358, 3) := by decide +kernel
theorem dX11_draw_5 : decode cX11_draw 5 = .ok (.ldc_w 361, 3) := by decide +kernel
theorem dX11_draw_8 : decode cX11_draw 8 = .ok (.imul, 1) := by decide +kernel
theorem dX11_draw_9 : decode cX11_draw 9 = .ok (.sipush 12345, 3) := by decide +kernel
theorem dX11_draw_12 : decode cX11_draw 12 = .ok (.iadd, 1) := by decide +kernel
theorem dX11_draw_13 : decode cX11_draw 13 = .ok (.putfield 358, 3) := by decide +kernel
theorem dX11_draw_16 : decode cX11_draw 16 = .ok (.aload_n 0, 1) := by decide +kernel
theorem dX11_draw_17 : decode cX11_draw 17 = .ok (.getfield 358, 3) := by decide +kernel
theorem dX11_draw_20 : decode cX11_draw 20 = .ok (.bipush 16, 2) := by decide +kernel
theorem dX11_draw_22 : decode cX11_draw 22 = .ok (.ishr, 1) := by decide +kernel
theorem dX11_draw_23 : decode cX11_draw 23 = .ok (.sipush 32767, 3) := by decide +kernel
theorem dX11_draw_26 : decode cX11_draw 26 = .ok (.iand, 1) := by decide +kernel
theorem dX11_draw_27 : decode cX11_draw 27 = .ok (.iload_n 1, 1) := by decide +kernel
theorem dX11_draw_28 : decode cX11_draw 28 = .ok (.irem, 1) := by decide +kernel
theorem dX11_draw_29 : decode cX11_draw 29 = .ok (.ireturn, 1) := by decide +kernel
theorem dX11_yearBy_0 : decode cX11_yearBy 0 = .ok (.aload_n 0, 1) := by decide +kernel
theorem dX11_yearBy_1 : decode cX11_yearBy 1 = .ok (.getfield 73, 3) := by decide +kernel
theorem dX11_yearBy_4 : decode cX11_yearBy 4 = .ok (.aload_n 0, 1) := by decide +kernel
theorem dX11_yearBy_5 : decode cX11_yearBy 5 = .ok (.getfield 76, 3) := by decide +kernel
theorem dX11_yearBy_8 : decode cX11_yearBy 8 = .ok (.invokestatic 315, 3) := by decide +kernel
theorem dX11_yearBy_11 : decode cX11_yearBy 11 = .ok (.aload_n 0, 1) := by decide +kernel
theorem dX11_yearBy_12 : decode cX11_yearBy 12 = .ok (.iload_n 1, 1) := by decide +kernel
theorem dX11_yearBy_13 : decode cX11_yearBy 13 = .ok (.putfield 358, 3) := by decide +kernel
theorem dX11_yearBy_16 : decode cX11_yearBy 16 = .ok (.aload_n 0, 1) := by decide +kernel
theorem dX11_yearBy_17 : decode cX11_yearBy 17 = .ok (.iconst 0, 1) := by decide +kernel
theorem dX11_yearBy_18 : decode cX11_yearBy 18 = .ok (.putfield 362, 3) := by decide +kernel
theorem dX11_yearBy_21 : decode cX11_yearBy 21 = .ok (.iconst 0, 1) := by decide +kernel
theorem dX11_yearBy_22 : decode cX11_yearBy 22 = .ok (.istore 5, 2) := by decide +kernel
theorem dX11_yearBy_24 : decode cX11_yearBy 24 = .ok (.iload 5, 2) := by decide +kernel
theorem dX11_yearBy_26 : decode cX11_yearBy 26 = .ok (.iload_n 2, 1) := by decide +kernel
theorem dX11_yearBy_27 : decode cX11_yearBy 27 = .ok (.if_icmp .ge 108, 3) := by decide +kernel
theorem dX11_yearBy_30 : decode cX11_yearBy 30 = .ok (.aload_n 0, 1) := by decide +kernel
theorem dX11_yearBy_31 : decode cX11_yearBy 31 = .ok (.getfield 23, 3) := by decide +kernel
theorem dX11_yearBy_34 : decode cX11_yearBy 34 = .ok (.iconst 0, 1) := by decide +kernel
theorem dX11_yearBy_35 : decode cX11_yearBy 35 = .ok (.iaload, 1) := by decide +kernel
theorem dX11_yearBy_36 : decode cX11_yearBy 36 = .ok (.ifCond .le 85, 3) := by decide +kernel
theorem dX11_yearBy_39 : decode cX11_yearBy 39 = .ok (.aload_n 0, 1) := by decide +kernel
theorem dX11_yearBy_40 : decode cX11_yearBy 40 = .ok (.aload_n 0, 1) := by decide +kernel
theorem dX11_yearBy_41 : decode cX11_yearBy 41 = .ok (.getfield 23, 3) := by decide +kernel
theorem dX11_yearBy_44 : decode cX11_yearBy 44 = .ok (.iconst 0, 1) := by decide +kernel
theorem dX11_yearBy_45 : decode cX11_yearBy 45 = .ok (.iaload, 1) := by decide +kernel
theorem dX11_yearBy_46 : decode cX11_yearBy 46 = .ok (.invokevirtual 365, 3) := by decide +kernel
theorem dX11_yearBy_49 : decode cX11_yearBy 49 = .ok (.istore 6, 2) := by decide +kernel
theorem dX11_yearBy_51 : decode cX11_yearBy 51 = .ok (.aload_n 0, 1) := by decide +kernel
theorem dX11_yearBy_52 : decode cX11_yearBy 52 = .ok (.bipush 16, 2) := by decide +kernel
theorem dX11_yearBy_54 : decode cX11_yearBy 54 = .ok (.invokevirtual 365, 3) := by decide +kernel
theorem dX11_yearBy_57 : decode cX11_yearBy 57 = .ok (.iload_n 3, 1) := by decide +kernel
theorem dX11_yearBy_58 : decode cX11_yearBy 58 = .ok (.if_icmp .ge 30, 3) := by decide +kernel
theorem dX11_yearBy_61 : decode cX11_yearBy 61 = .ok (.aload_n 0, 1) := by decide +kernel
theorem dX11_yearBy_62 : decode cX11_yearBy 62 = .ok (.dup, 1) := by decide +kernel
theorem dX11_yearBy_63 : decode cX11_yearBy 63 = .ok (.getfield 362, 3) := by decide +kernel
theorem dX11_yearBy_66 : decode cX11_yearBy 66 = .ok (.aload_n 0, 1) := by decide +kernel
theorem dX11_yearBy_67 : decode cX11_yearBy 67 = .ok (.aload_n 0, 1) := by decide +kernel
theorem dX11_yearBy_68 : decode cX11_yearBy 68 = .ok (.getfield 76, 3) := by decide +kernel
theorem dX11_yearBy_71 : decode cX11_yearBy 71 = .ok (.iload 6, 2) := by decide +kernel
theorem dX11_yearBy_73 : decode cX11_yearBy 73 = .ok (.invokevirtual 292, 3) := by decide +kernel
theorem dX11_yearBy_76 : decode cX11_yearBy 76 = .ok (.ifCond .eq 7, 3) := by decide +kernel
theorem dX11_yearBy_79 : decode cX11_yearBy 79 = .ok (.iconst 1, 1) := by decide +kernel
theorem dX11_yearBy_80 : decode cX11_yearBy 80 = .ok (.goto 4, 3) := by decide +kernel
theorem dX11_yearBy_83 : decode cX11_yearBy 83 = .ok (.iconst 0, 1) := by decide +kernel
theorem dX11_yearBy_84 : decode cX11_yearBy 84 = .ok (.iadd, 1) := by decide +kernel
theorem dX11_yearBy_85 : decode cX11_yearBy 85 = .ok (.putfield 362, 3) := by decide +kernel
theorem dX11_yearBy_88 : decode cX11_yearBy 88 = .ok (.aload_n 0, 1) := by decide +kernel
theorem dX11_yearBy_89 : decode cX11_yearBy 89 = .ok (.aload_n 0, 1) := by decide +kernel
theorem dX11_yearBy_90 : decode cX11_yearBy 90 = .ok (.getfield 23, 3) := by decide +kernel
theorem dX11_yearBy_93 : decode cX11_yearBy 93 = .ok (.iconst 0, 1) := by decide +kernel
theorem dX11_yearBy_94 : decode cX11_yearBy 94 = .ok (.iaload, 1) := by decide +kernel
theorem dX11_yearBy_95 : decode cX11_yearBy 95 = .ok (.invokevirtual 365, 3) := by decide +kernel
theorem dX11_yearBy_98 : decode cX11_yearBy 98 = .ok (.istore 7, 2) := by decide +kernel
theorem dX11_yearBy_100 : decode cX11_yearBy 100 = .ok (.aload_n 0, 1) := by decide +kernel
theorem dX11_yearBy_101 : decode cX11_yearBy 101 = .ok (.bipush 16, 2) := by decide +kernel
theorem dX11_yearBy_103 : decode cX11_yearBy 103 = .ok (.invokevirtual 365, 3) := by decide +kernel
theorem dX11_yearBy_106 : decode cX11_yearBy 106 = .ok (.iload 4, 2) := by decide +kernel
theorem dX11_yearBy_108 : decode cX11_yearBy 108 = .ok (.if_icmp .ge 13, 3) := by decide +kernel
theorem dX11_yearBy_111 : decode cX11_yearBy 111 = .ok (.aload_n 0, 1) := by decide +kernel
theorem dX11_yearBy_112 : decode cX11_yearBy 112 = .ok (.getfield 76, 3) := by decide +kernel
theorem dX11_yearBy_115 : decode cX11_yearBy 115 = .ok (.iload 7, 2) := by decide +kernel
theorem dX11_yearBy_117 : decode cX11_yearBy 117 = .ok (.invokestatic 295, 3) := by decide +kernel
theorem dX11_yearBy_120 : decode cX11_yearBy 120 = .ok (.pop, 1) := by decide +kernel
theorem dX11_yearBy_121 : decode cX11_yearBy 121 = .ok (.aload_n 0, 1) := by decide +kernel
theorem dX11_yearBy_122 : decode cX11_yearBy 122 = .ok (.aload_n 0, 1) := by decide +kernel
theorem dX11_yearBy_123 : decode cX11_yearBy 123 = .ok (.getfield 76, 3) := by decide +kernel
theorem dX11_yearBy_126 : decode cX11_yearBy 126 = .ok (.invokevirtual 298, 3) := by decide +kernel
theorem dX11_yearBy_129 : decode cX11_yearBy 129 = .ok (.iinc 5 1, 3) := by decide +kernel
theorem dX11_yearBy_132 : decode cX11_yearBy 132 = .ok (.goto (-108), 3) := by decide +kernel
theorem dX11_yearBy_135 : decode cX11_yearBy 135 = .ok (.return_, 1) := by decide +kernel
theorem dX11_isYear_0 : decode cX11_isYear 0 = .ok (.iload_n 0, 1) := by decide +kernel
theorem dX11_isYear_1 : decode cX11_isYear 1 = .ok (.iconst 1, 1) := by decide +kernel
theorem dX11_isYear_2 : decode cX11_isYear 2 = .ok (.bipush 96, 2) := by decide +kernel
theorem dX11_isYear_4 : decode cX11_isYear 4 = .ok (.invokestatic 131, 3) := by decide +kernel
theorem dX11_isYear_7 : decode cX11_isYear 7 = .ok (.ifCond .eq 27, 3) := by decide +kernel
theorem dX11_isYear_10 : decode cX11_isYear 10 = .ok (.iload_n 1, 1) := by decide +kernel
theorem dX11_isYear_11 : decode cX11_isYear 11 = .ok (.iconst 0, 1) := by decide +kernel
theorem dX11_isYear_12 : decode cX11_isYear 12 = .ok (.bipush 16, 2) := by decide +kernel
theorem dX11_isYear_14 : decode cX11_isYear 14 = .ok (.invokestatic 131, 3) := by decide +kernel
theorem dX11_isYear_17 : decode cX11_isYear 17 = .ok (.ifCond .eq 17, 3) := by decide +kernel
theorem dX11_isYear_20 : decode cX11_isYear 20 = .ok (.iload_n 2, 1) := by decide +kernel
theorem dX11_isYear_21 : decode cX11_isYear 21 = .ok (.iconst 0, 1) := by decide +kernel
theorem dX11_isYear_22 : decode cX11_isYear 22 = .ok (.bipush 16, 2) := by decide +kernel
theorem dX11_isYear_24 : decode cX11_isYear 24 = .ok (.invokestatic 131, 3) := by decide +kernel
theorem dX11_isYear_27 : decode cX11_isYear 27 = .ok (.ifCond .eq 7, 3) := by decide +kernel
theorem dX11_isYear_30 : decode cX11_isYear 30 = .ok (.iconst 1, 1) := by decide +kernel
theorem dX11_isYear_31 : decode cX11_isYear 31 = .ok (.goto 4, 3) := by decide +kernel
theorem dX11_isYear_34 : decode cX11_isYear 34 = .ok (.iconst 0, 1) := by decide +kernel
theorem dX11_isYear_35 : decode cX11_isYear 35 = .ok (.ireturn, 1) := by decide +kernel
theorem dX11_year_0 : decode cX11_year 0 = .ok (.aload_n 0, 1) := by decide +kernel
theorem dX11_year_1 : decode cX11_year 1 = .ok (.iconst 0, 1) := by decide +kernel
theorem dX11_year_2 : decode cX11_year 2 = .ok (.putfield 97, 3) := by decide +kernel
theorem dX11_year_5 : decode cX11_year 5 = .ok (.aload_n 0, 1) := by decide +kernel
theorem dX11_year_6 : decode cX11_year 6 = .ok (.iload_n 2, 1) := by decide +kernel
theorem dX11_year_7 : decode cX11_year 7 = .ok (.iload_n 3, 1) := by decide +kernel
theorem dX11_year_8 : decode cX11_year 8 = .ok (.iload 4, 2) := by decide +kernel
theorem dX11_year_10 : decode cX11_year 10 = .ok (.invokestatic 368, 3) := by decide +kernel
theorem dX11_year_13 : decode cX11_year 13 = .ok (.ifCond .eq 13, 3) := by decide +kernel
theorem dX11_year_16 : decode cX11_year 16 = .ok (.iload 5, 2) := by decide +kernel
theorem dX11_year_18 : decode cX11_year 18 = .ok (.iconst 0, 1) := by decide +kernel
theorem dX11_year_19 : decode cX11_year 19 = .ok (.iconst 4, 1) := by decide +kernel
theorem dX11_year_20 : decode cX11_year 20 = .ok (.invokestatic 131, 3) := by decide +kernel
theorem dX11_year_23 : decode cX11_year 23 = .ok (.ifCond .ne 7, 3) := by decide +kernel
theorem dX11_year_26 : decode cX11_year 26 = .ok (.iconst 1, 1) := by decide +kernel
theorem dX11_year_27 : decode cX11_year 27 = .ok (.goto 4, 3) := by decide +kernel
theorem dX11_year_30 : decode cX11_year 30 = .ok (.iconst 0, 1) := by decide +kernel
theorem dX11_year_31 : decode cX11_year 31 = .ok (.iconst 1, 1) := by decide +kernel
theorem dX11_year_32 : decode cX11_year 32 = .ok (.iconst 1, 1) := by decide +kernel
theorem dX11_year_33 : decode cX11_year 33 = .ok (.invokevirtual 173, 3) := by decide +kernel
theorem dX11_year_36 : decode cX11_year 36 = .ok (.ifCond .eq 5, 3) := by decide +kernel
theorem dX11_year_39 : decode cX11_year 39 = .ok (.iconst 0, 1) := by decide +kernel
theorem dX11_year_40 : decode cX11_year 40 = .ok (.ireturn, 1) := by decide +kernel
theorem dX11_year_41 : decode cX11_year 41 = .ok (.aload_n 0, 1) := by decide +kernel
theorem dX11_year_42 : decode cX11_year 42 = .ok (.iload_n 1, 1) := by decide +kernel
theorem dX11_year_43 : decode cX11_year 43 = .ok (.iload_n 2, 1) := by decide +kernel
theorem dX11_year_44 : decode cX11_year 44 = .ok (.iload_n 3, 1) := by decide +kernel
theorem dX11_year_45 : decode cX11_year 45 = .ok (.iload 4, 2) := by decide +kernel
theorem dX11_year_47 : decode cX11_year 47 = .ok (.invokevirtual 371, 3) := by decide +kernel
theorem dX11_year_50 : decode cX11_year 50 = .ok (.iload 5, 2) := by decide +kernel
theorem dX11_year_52 : decode cX11_year 52 = .ok (.tableswitch 74 0 3 #[32, 42, 53, 69], 32) := by decide +kernel
theorem dX11_year_84 : decode cX11_year 84 = .ok (.aload_n 0, 1) := by decide +kernel
theorem dX11_year_85 : decode cX11_year 85 = .ok (.aload_n 0, 1) := by decide +kernel
theorem dX11_year_86 : decode cX11_year 86 = .ok (.getfield 76, 3) := by decide +kernel
theorem dX11_year_89 : decode cX11_year 89 = .ok (.iconst 0, 1) := by decide +kernel
theorem dX11_year_90 : decode cX11_year 90 = .ok (.invokevirtual 322, 3) := by decide +kernel
theorem dX11_year_93 : decode cX11_year 93 = .ok (.ireturn, 1) := by decide +kernel
theorem dX11_year_94 : decode cX11_year 94 = .ok (.aload_n 0, 1) := by decide +kernel
theorem dX11_year_95 : decode cX11_year 95 = .ok (.aload_n 0, 1) := by decide +kernel
theorem dX11_year_96 : decode cX11_year 96 = .ok (.getfield 76, 3) := by decide +kernel
theorem dX11_year_99 : decode cX11_year 99 = .ok (.bipush 6, 2) := by decide +kernel
theorem dX11_year_101 : decode cX11_year 101 = .ok (.invokevirtual 322, 3) := by decide +kernel
theorem dX11_year_104 : decode cX11_year 104 = .ok (.ireturn, 1) := by decide +kernel
theorem dX11_year_105 : decode cX11_year 105 = .ok (.aload_n 0, 1) := by decide +kernel
theorem dX11_year_106 : decode cX11_year 106 = .ok (.getfield 76, 3) := by decide +kernel
theorem dX11_year_109 : decode cX11_year 109 = .ok (.bipush 54, 2) := by decide +kernel
theorem dX11_year_111 : decode cX11_year 111 = .ok (.iaload, 1) := by decide +kernel
theorem dX11_year_112 : decode cX11_year 112 = .ok (.aload_n 0, 1) := by decide +kernel
theorem dX11_year_113 : decode cX11_year 113 = .ok (.getfield 73, 3) := by decide +kernel
theorem dX11_year_116 : decode cX11_year 116 = .ok (.bipush 54, 2) := by decide +kernel
theorem dX11_year_118 : decode cX11_year 118 = .ok (.iaload, 1) := by decide +kernel
theorem dX11_year_119 : decode cX11_year 119 = .ok (.isub, 1) := by decide +kernel
theorem dX11_year_120 : decode cX11_year 120 = .ok (.ireturn, 1) := by decide +kernel
theorem dX11_year_121 : decode cX11_year 121 = .ok (.aload_n 0, 1) := by decide +kernel
theorem dX11_year_122 : decode cX11_year 122 = .ok (.getfield 362, 3) := by decide +kernel
theorem dX11_year_125 : decode cX11_year 125 = .ok (.ireturn, 1) := by decide +kernel
theorem dX11_year_126 : decode cX11_year 126 = .ok (.aload_n 0, 1) := by decide +kernel
theorem dX11_year_127 : decode cX11_year 127 = .ok (.aload_n 0, 1) := by decide +kernel
theorem dX11_year_128 : decode cX11_year 128 = .ok (.getfield 76, 3) := by decide +kernel
theorem dX11_year_131 : decode cX11_year 131 = .ok (.invokevirtual 319, 3) := by decide +kernel
theorem dX11_year_134 : decode cX11_year 134 = .ok (.ireturn, 1) := by decide +kernel
theorem dX11_span_0 : decode cX11_span 0 = .ok (.aload_n 0, 1) := by decide +kernel
theorem dX11_span_1 : decode cX11_span 1 = .ok (.iconst 0, 1) := by decide +kernel
theorem dX11_span_2 : decode cX11_span 2 = .ok (.putfield 97, 3) := by decide +kernel
theorem dX11_span_5 : decode cX11_span 5 = .ok (.aload_n 0, 1) := by decide +kernel
theorem dX11_span_6 : decode cX11_span 6 = .ok (.iload_n 2, 1) := by decide +kernel
theorem dX11_span_7 : decode cX11_span 7 = .ok (.iconst 1, 1) := by decide +kernel
theorem dX11_span_8 : decode cX11_span 8 = .ok (.bipush 20, 2) := by decide +kernel
theorem dX11_span_10 : decode cX11_span 10 = .ok (.invokestatic 131, 3) := by decide +kernel
theorem dX11_span_13 : decode cX11_span 13 = .ok (.ifCond .eq 41, 3) := by decide +kernel
theorem dX11_span_16 : decode cX11_span 16 = .ok (.iload_n 3, 1) := by decide +kernel
theorem dX11_span_17 : decode cX11_span 17 = .ok (.iload 4, 2) := by decide +kernel
theorem dX11_span_19 : decode cX11_span 19 = .ok (.iload 5, 2) := by decide +kernel
theorem dX11_span_21 : decode cX11_span 21 = .ok (.invokestatic 368, 3) := by decide +kernel
theorem dX11_span_24 : decode cX11_span 24 = .ok (.ifCond .eq 30, 3) := by decide +kernel
theorem dX11_span_27 : decode cX11_span 27 = .ok (.iload 6, 2) := by decide +kernel
theorem dX11_span_29 : decode cX11_span 29 = .ok (.iconst 0, 1) := by decide +kernel
theorem dX11_span_30 : decode cX11_span 30 = .ok (.iconst 2, 1) := by decide +kernel
theorem dX11_span_31 : decode cX11_span 31 = .ok (.invokestatic 131, 3) := by decide +kernel
theorem dX11_span_34 : decode cX11_span 34 = .ok (.ifCond .eq 20, 3) := by decide +kernel
theorem dX11_span_37 : decode cX11_span 37 = .ok (.iload 7, 2) := by decide +kernel
theorem dX11_span_39 : decode cX11_span 39 = .ok (.iconst 0, 1) := by decide +kernel
theorem dX11_span_40 : decode cX11_span 40 = .ok (.aload_n 0, 1) := by decide +kernel
theorem dX11_span_41 : decode cX11_span 41 = .ok (.getfield 23, 3) := by decide +kernel
theorem dX11_span_44 : decode cX11_span 44 = .ok (.iconst 2, 1) := by decide +kernel
theorem dX11_span_45 : decode cX11_span 45 = .ok (.iaload, 1) := by decide +kernel
theorem dX11_span_46 : decode cX11_span 46 = .ok (.iconst 1, 1) := by decide +kernel
theorem dX11_span_47 : decode cX11_span 47 = .ok (.isub, 1) := by decide +kernel
theorem dX11_span_48 : decode cX11_span 48 = .ok (.invokestatic 131, 3) := by decide +kernel
theorem dX11_span_51 : decode cX11_span 51 = .ok (.ifCond .ne 7, 3) := by decide +kernel
theorem dX11_span_54 : decode cX11_span 54 = .ok (.iconst 1, 1) := by decide +kernel
theorem dX11_span_55 : decode cX11_span 55 = .ok (.goto 4, 3) := by decide +kernel
theorem dX11_span_58 : decode cX11_span 58 = .ok (.iconst 0, 1) := by decide +kernel
theorem dX11_span_59 : decode cX11_span 59 = .ok (.iconst 1, 1) := by decide +kernel
theorem dX11_span_60 : decode cX11_span 60 = .ok (.iconst 1, 1) := by decide +kernel
theorem dX11_span_61 : decode cX11_span 61 = .ok (.invokevirtual 173, 3) := by decide +kernel
theorem dX11_span_64 : decode cX11_span 64 = .ok (.ifCond .eq 5, 3) := by decide +kernel
theorem dX11_span_67 : decode cX11_span 67 = .ok (.iconst 0, 1) := by decide +kernel
theorem dX11_span_68 : decode cX11_span 68 = .ok (.ireturn, 1) := by decide +kernel
theorem dX11_span_69 : decode cX11_span 69 = .ok (.iconst (-1), 1) := by decide +kernel
theorem dX11_span_70 : decode cX11_span 70 = .ok (.istore 8, 2) := by decide +kernel
theorem dX11_span_72 : decode cX11_span 72 = .ok (.iconst 0, 1) := by decide +kernel
theorem dX11_span_73 : decode cX11_span 73 = .ok (.istore 9, 2) := by decide +kernel
theorem dX11_span_75 : decode cX11_span 75 = .ok (.iconst 0, 1) := by decide +kernel
theorem dX11_span_76 : decode cX11_span 76 = .ok (.istore 10, 2) := by decide +kernel
theorem dX11_span_78 : decode cX11_span 78 = .ok (.iconst 0, 1) := by decide +kernel
theorem dX11_span_79 : decode cX11_span 79 = .ok (.istore 11, 2) := by decide +kernel
theorem dX11_span_81 : decode cX11_span 81 = .ok (.iload 11, 2) := by decide +kernel
theorem dX11_span_83 : decode cX11_span 83 = .ok (.iload_n 2, 1) := by decide +kernel
theorem dX11_span_84 : decode cX11_span 84 = .ok (.if_icmp .ge 83, 3) := by decide +kernel
theorem dX11_span_87 : decode cX11_span 87 = .ok (.aload_n 0, 1) := by decide +kernel
theorem dX11_span_88 : decode cX11_span 88 = .ok (.iload_n 1, 1) := by decide +kernel
theorem dX11_span_89 : decode cX11_span 89 = .ok (.iload 11, 2) := by decide +kernel
theorem dX11_span_91 : decode cX11_span 91 = .ok (.iadd, 1) := by decide +kernel
theorem dX11_span_92 : decode cX11_span 92 = .ok (.iload_n 3, 1) := by decide +kernel
theorem dX11_span_93 : decode cX11_span 93 = .ok (.iload 4, 2) := by decide +kernel
theorem dX11_span_95 : decode cX11_span 95 = .ok (.iload 5, 2) := by decide +kernel
theorem dX11_span_97 : decode cX11_span 97 = .ok (.invokevirtual 371, 3) := by decide +kernel
theorem dX11_span_100 : decode cX11_span 100 = .ok (.aload_n 0, 1) := by decide +kernel
theorem dX11_span_101 : decode cX11_span 101 = .ok (.getfield 76, 3) := by decide +kernel
theorem dX11_span_104 : decode cX11_span 104 = .ok (.bipush 54, 2) := by decide +kernel
theorem dX11_span_106 : decode cX11_span 106 = .ok (.iaload, 1) := by decide +kernel
theorem dX11_span_107 : decode cX11_span 107 = .ok (.aload_n 0, 1) := by decide +kernel
theorem dX11_span_108 : decode cX11_span 108 = .ok (.getfield 73, 3) := by decide +kernel
theorem dX11_span_111 : decode cX11_span 111 = .ok (.bipush 54, 2) := by decide +kernel
theorem dX11_span_113 : decode cX11_span 113 = .ok (.iaload, 1) := by decide +kernel
theorem dX11_span_114 : decode cX11_span 114 = .ok (.isub, 1) := by decide +kernel
theorem dX11_span_115 : decode cX11_span 115 = .ok (.istore 12, 2) := by decide +kernel
theorem dX11_span_117 : decode cX11_span 117 = .ok (.iload 8, 2) := by decide +kernel
theorem dX11_span_119 : decode cX11_span 119 = .ok (.iconst (-1), 1) := by decide +kernel
theorem dX11_span_120 : decode cX11_span 120 = .ok (.if_icmp .ne 8, 3) := by decide +kernel
theorem dX11_span_123 : decode cX11_span 123 = .ok (.iload 12, 2) := by decide +kernel
theorem dX11_span_125 : decode cX11_span 125 = .ok (.goto 10, 3) := by decide +kernel
theorem dX11_span_128 : decode cX11_span 128 = .ok (.iload 8, 2) := by decide +kernel
theorem dX11_span_130 : decode cX11_span 130 = .ok (.iload 12, 2) := by decide +kernel
theorem dX11_span_132 : decode cX11_span 132 = .ok (.invokestatic 237, 3) := by decide +kernel
theorem dX11_span_135 : decode cX11_span 135 = .ok (.istore 8, 2) := by decide +kernel
theorem dX11_span_137 : decode cX11_span 137 = .ok (.iload 9, 2) := by decide +kernel
theorem dX11_span_139 : decode cX11_span 139 = .ok (.iload 12, 2) := by decide +kernel
theorem dX11_span_141 : decode cX11_span 141 = .ok (.invokestatic 240, 3) := by decide +kernel
theorem dX11_span_144 : decode cX11_span 144 = .ok (.istore 9, 2) := by decide +kernel
theorem dX11_span_146 : decode cX11_span 146 = .ok (.iload 10, 2) := by decide +kernel
theorem dX11_span_148 : decode cX11_span 148 = .ok (.aload_n 0, 1) := by decide +kernel
theorem dX11_span_149 : decode cX11_span 149 = .ok (.getfield 76, 3) := by decide +kernel
theorem dX11_span_152 : decode cX11_span 152 = .ok (.bipush 42, 2) := by decide +kernel
theorem dX11_span_154 : decode cX11_span 154 = .ok (.iload 7, 2) := by decide +kernel
theorem dX11_span_156 : decode cX11_span 156 = .ok (.iadd, 1) := by decide +kernel
theorem dX11_span_157 : decode cX11_span 157 = .ok (.iaload, 1) := by decide +kernel
theorem dX11_span_158 : decode cX11_span 158 = .ok (.iadd, 1) := by decide +kernel
theorem dX11_span_159 : decode cX11_span 159 = .ok (.istore 10, 2) := by decide +kernel
theorem dX11_span_161 : decode cX11_span 161 = .ok (.iinc 11 1, 3) := by decide +kernel
theorem dX11_span_164 : decode cX11_span 164 = .ok (.goto (-83), 3) := by decide +kernel
theorem dX11_span_167 : decode cX11_span 167 = .ok (.iload 6, 2) := by decide +kernel
theorem dX11_span_169 : decode cX11_span 169 = .ok (.ifCond .ne 8, 3) := by decide +kernel
theorem dX11_span_172 : decode cX11_span 172 = .ok (.iload 8, 2) := by decide +kernel
theorem dX11_span_174 : decode cX11_span 174 = .ok (.goto 16, 3) := by decide +kernel
theorem dX11_span_177 : decode cX11_span 177 = .ok (.iload 6, 2) := by decide +kernel
theorem dX11_span_179 : decode cX11_span 179 = .ok (.iconst 1, 1) := by decide +kernel
theorem dX11_span_180 : decode cX11_span 180 = .ok (.if_icmp .ne 8, 3) := by decide +kernel
theorem dX11_span_183 : decode cX11_span 183 = .ok (.iload 9, 2) := by decide +kernel
theorem dX11_span_185 : decode cX11_span 185 = .ok (.goto 5, 3) := by decide +kernel
theorem dX11_span_188 : decode cX11_span 188 = .ok (.iload 10, 2) := by decide +kernel
theorem dX11_span_190 : decode cX11_span 190 = .ok (.ireturn, 1) := by decide +kernel
theorem dX11_puts_0 : decode cX11_puts 0 = .ok (.iload_n 3, 1) := by decide +kernel
theorem dX11_puts_1 : decode cX11_puts 1 = .ok (.ifCond .ne 10, 3) := by decide +kernel
theorem dX11_puts_4 : decode cX11_puts 4 = .ok (.aload_n 1, 1) := by decide +kernel
theorem dX11_puts_5 : decode cX11_puts 5 = .ok (.aload_n 0, 1) := by decide +kernel
theorem dX11_puts_6 : decode cX11_puts 6 = .ok (.getfield 375, 3) := by decide +kernel
theorem dX11_puts_9 : decode cX11_puts 9 = .ok (.iload_n 2, 1) := by decide +kernel
theorem dX11_puts_10 : decode cX11_puts 10 = .ok (.iastore, 1) := by decide +kernel
theorem dX11_puts_11 : decode cX11_puts 11 = .ok (.aload_n 0, 1) := by decide +kernel
theorem dX11_puts_12 : decode cX11_puts 12 = .ok (.dup, 1) := by decide +kernel
theorem dX11_puts_13 : decode cX11_puts 13 = .ok (.getfield 375, 3) := by decide +kernel
theorem dX11_puts_16 : decode cX11_puts 16 = .ok (.iconst 1, 1) := by decide +kernel
theorem dX11_puts_17 : decode cX11_puts 17 = .ok (.iadd, 1) := by decide +kernel
theorem dX11_puts_18 : decode cX11_puts 18 = .ok (.putfield 375, 3) := by decide +kernel
theorem dX11_puts_21 : decode cX11_puts 21 = .ok (.aload_n 1, 1) := by decide +kernel
theorem dX11_puts_22 : decode cX11_puts 22 = .ok (.aload_n 0, 1) := by decide +kernel
theorem dX11_puts_23 : decode cX11_puts 23 = .ok (.getfield 375, 3) := by decide +kernel
theorem dX11_puts_26 : decode cX11_puts 26 = .ok (.iconst 1, 1) := by decide +kernel
theorem dX11_puts_27 : decode cX11_puts 27 = .ok (.isub, 1) := by decide +kernel
theorem dX11_puts_28 : decode cX11_puts 28 = .ok (.iaload, 1) := by decide +kernel
theorem dX11_puts_29 : decode cX11_puts 29 = .ok (.ireturn, 1) := by decide +kernel
theorem dX11_putsAll_0 : decode cX11_putsAll 0 = .ok (.aload_n 0, 1) := by decide +kernel
theorem dX11_putsAll_1 : decode cX11_putsAll 1 = .ok (.iconst 0, 1) := by decide +kernel
theorem dX11_putsAll_2 : decode cX11_putsAll 2 = .ok (.putfield 375, 3) := by decide +kernel
theorem dX11_putsAll_5 : decode cX11_putsAll 5 = .ok (.aload_n 0, 1) := by decide +kernel
theorem dX11_putsAll_6 : decode cX11_putsAll 6 = .ok (.aload_n 0, 1) := by decide +kernel
theorem dX11_putsAll_7 : decode cX11_putsAll 7 = .ok (.aload_n 1, 1) := by decide +kernel
theorem dX11_putsAll_8 : decode cX11_putsAll 8 = .ok (.aload_n 0, 1) := by decide +kernel
theorem dX11_putsAll_9 : decode cX11_putsAll 9 = .ok (.getfield 196, 3) := by decide +kernel
theorem dX11_putsAll_12 : decode cX11_putsAll 12 = .ok (.iload_n 2, 1) := by decide +kernel
theorem dX11_putsAll_13 : decode cX11_putsAll 13 = .ok (.invokevirtual 378, 3) := by decide +kernel
theorem dX11_putsAll_16 : decode cX11_putsAll 16 = .ok (.putfield 196, 3) := by decide +kernel
theorem dX11_putsAll_19 : decode cX11_putsAll 19 = .ok (.iconst 0, 1) := by decide +kernel
theorem dX11_putsAll_20 : decode cX11_putsAll 20 = .ok (.istore_n 3, 1) := by decide +kernel
theorem dX11_putsAll_21 : decode cX11_putsAll 21 = .ok (.iload_n 3, 1) := by decide +kernel
theorem dX11_putsAll_22 : decode cX11_putsAll 22 = .ok (.bipush 56, 2) := by decide +kernel
theorem dX11_putsAll_24 : decode cX11_putsAll 24 = .ok (.if_icmp .ge 27, 3) := by decide +kernel
theorem dX11_putsAll_27 : decode cX11_putsAll 27 = .ok (.aload_n 0, 1) := by decide +kernel
theorem dX11_putsAll_28 : decode cX11_putsAll 28 = .ok (.getfield 73, 3) := by decide +kernel
theorem dX11_putsAll_31 : decode cX11_putsAll 31 = .ok (.iload_n 3, 1) := by decide +kernel
theorem dX11_putsAll_32 : decode cX11_putsAll 32 = .ok (.aload_n 0, 1) := by decide +kernel
theorem dX11_putsAll_33 : decode cX11_putsAll 33 = .ok (.aload_n 1, 1) := by decide +kernel
theorem dX11_putsAll_34 : decode cX11_putsAll 34 = .ok (.aload_n 0, 1) := by decide +kernel
theorem dX11_putsAll_35 : decode cX11_putsAll 35 = .ok (.getfield 73, 3) := by decide +kernel
theorem dX11_putsAll_38 : decode cX11_putsAll 38 = .ok (.iload_n 3, 1) := by decide +kernel
theorem dX11_putsAll_39 : decode cX11_putsAll 39 = .ok (.iaload, 1) := by decide +kernel
theorem dX11_putsAll_40 : decode cX11_putsAll 40 = .ok (.iload_n 2, 1) := by decide +kernel
theorem dX11_putsAll_41 : decode cX11_putsAll 41 = .ok (.invokevirtual 378, 3) := by decide +kernel
theorem dX11_putsAll_44 : decode cX11_putsAll 44 = .ok (.iastore, 1) := by decide +kernel
theorem dX11_putsAll_45 : decode cX11_putsAll 45 = .ok (.iinc 3 1, 3) := by decide +kernel
theorem dX11_putsAll_48 : decode cX11_putsAll 48 = .ok (.goto (-27), 3) := by decide +kernel
theorem dX11_putsAll_51 : decode cX11_putsAll 51 = .ok (.iconst 0, 1) := by decide +kernel
theorem dX11_putsAll_52 : decode cX11_putsAll 52 = .ok (.istore_n 3, 1) := by decide +kernel
theorem dX11_putsAll_53 : decode cX11_putsAll 53 = .ok (.iload_n 3, 1) := by decide +kernel
theorem dX11_putsAll_54 : decode cX11_putsAll 54 = .ok (.bipush 16, 2) := by decide +kernel
theorem dX11_putsAll_56 : decode cX11_putsAll 56 = .ok (.if_icmp .ge 49, 3) := by decide +kernel
theorem dX11_putsAll_59 : decode cX11_putsAll 59 = .ok (.iconst 0, 1) := by decide +kernel
theorem dX11_putsAll_60 : decode cX11_putsAll 60 = .ok (.istore 4, 2) := by decide +kernel
theorem dX11_putsAll_62 : decode cX11_putsAll 62 = .ok (.iload 4, 2) := by decide +kernel
theorem dX11_putsAll_64 : decode cX11_putsAll 64 = .ok (.bipush 56, 2) := by decide +kernel
theorem dX11_putsAll_66 : decode cX11_putsAll 66 = .ok (.if_icmp .ge 33, 3) := by decide +kernel
theorem dX11_putsAll_69 : decode cX11_putsAll 69 = .ok (.aload_n 0, 1) := by decide +kernel
theorem dX11_putsAll_70 : decode cX11_putsAll 70 = .ok (.getfield 79, 3) := by decide +kernel
theorem dX11_putsAll_73 : decode cX11_putsAll 73 = .ok (.iload_n 3, 1) := by decide +kernel
theorem dX11_putsAll_74 : decode cX11_putsAll 74 = .ok (.aaload, 1) := by decide +kernel
theorem dX11_putsAll_75 : decode cX11_putsAll 75 = .ok (.iload 4, 2) := by decide +kernel
theorem dX11_putsAll_77 : decode cX11_putsAll 77 = .ok (.aload_n 0, 1) := by decide +kernel
theorem dX11_putsAll_78 : decode cX11_putsAll 78 = .ok (.aload_n 1, 1) := by decide +kernel
theorem dX11_putsAll_79 : decode cX11_putsAll 79 = .ok (.aload_n 0, 1) := by decide +kernel
theorem dX11_putsAll_80 : decode cX11_putsAll 80 = .ok (.getfield 79, 3) := by decide +kernel
theorem dX11_putsAll_83 : decode cX11_putsAll 83 = .ok (.iload_n 3, 1) := by decide +kernel
theorem dX11_putsAll_84 : decode cX11_putsAll 84 = .ok (.aaload, 1) := by decide +kernel
theorem dX11_putsAll_85 : decode cX11_putsAll 85 = .ok (.iload 4, 2) := by decide +kernel
theorem dX11_putsAll_87 : decode cX11_putsAll 87 = .ok (.iaload, 1) := by decide +kernel
theorem dX11_putsAll_88 : decode cX11_putsAll 88 = .ok (.iload_n 2, 1) := by decide +kernel
theorem dX11_putsAll_89 : decode cX11_putsAll 89 = .ok (.invokevirtual 378, 3) := by decide +kernel
theorem dX11_putsAll_92 : decode cX11_putsAll 92 = .ok (.iastore, 1) := by decide +kernel
theorem dX11_putsAll_93 : decode cX11_putsAll 93 = .ok (.iinc 4 1, 3) := by decide +kernel
theorem dX11_putsAll_96 : decode cX11_putsAll 96 = .ok (.goto (-34), 3) := by decide +kernel
theorem dX11_putsAll_99 : decode cX11_putsAll 99 = .ok (.iinc 3 1, 3) := by decide +kernel
theorem dX11_putsAll_102 : decode cX11_putsAll 102 = .ok (.goto (-49), 3) := by decide +kernel
theorem dX11_putsAll_105 : decode cX11_putsAll 105 = .ok (.return_, 1) := by decide +kernel
theorem dX11_image_0 : decode cX11_image 0 = .ok (.aload_n 0, 1) := by decide +kernel
theorem dX11_image_1 : decode cX11_image 1 = .ok (.iconst 0, 1) := by decide +kernel
theorem dX11_image_2 : decode cX11_image 2 = .ok (.putfield 97, 3) := by decide +kernel
theorem dX11_image_5 : decode cX11_image 5 = .ok (.aload_n 0, 1) := by decide +kernel
theorem dX11_image_6 : decode cX11_image 6 = .ok (.getfield 202, 3) := by decide +kernel
theorem dX11_image_9 : decode cX11_image 9 = .ok (.iconst 3, 1) := by decide +kernel
theorem dX11_image_10 : decode cX11_image 10 = .ok (.if_icmp .ne 5, 3) := by decide +kernel
theorem dX11_image_13 : decode cX11_image 13 = .ok (.iconst (-1), 1) := by decide +kernel
theorem dX11_image_14 : decode cX11_image 14 = .ok (.ireturn, 1) := by decide +kernel
theorem dX11_image_15 : decode cX11_image 15 = .ok (.aload_n 0, 1) := by decide +kernel
theorem dX11_image_16 : decode cX11_image 16 = .ok (.aload_n 0, 1) := by decide +kernel
theorem dX11_image_17 : decode cX11_image 17 = .ok (.getfield 82, 3) := by decide +kernel
theorem dX11_image_20 : decode cX11_image 20 = .ok (.aload_n 0, 1) := by decide +kernel
theorem dX11_image_21 : decode cX11_image 21 = .ok (.getfield 202, 3) := by decide +kernel
theorem dX11_image_24 : decode cX11_image 24 = .ok (.aaload, 1) := by decide +kernel
theorem dX11_image_25 : decode cX11_image 25 = .ok (.iconst 0, 1) := by decide +kernel
theorem dX11_image_26 : decode cX11_image 26 = .ok (.invokevirtual 382, 3) := by decide +kernel
theorem dX11_image_29 : decode cX11_image 29 = .ok (.aload_n 0, 1) := by decide +kernel
theorem dX11_image_30 : decode cX11_image 30 = .ok (.dup, 1) := by decide +kernel
theorem dX11_image_31 : decode cX11_image 31 = .ok (.getfield 202, 3) := by decide +kernel
theorem dX11_image_34 : decode cX11_image 34 = .ok (.iconst 1, 1) := by decide +kernel
theorem dX11_image_35 : decode cX11_image 35 = .ok (.iadd, 1) := by decide +kernel
theorem dX11_image_36 : decode cX11_image 36 = .ok (.putfield 202, 3) := by decide +kernel
theorem dX11_image_39 : decode cX11_image 39 = .ok (.aload_n 0, 1) := by decide +kernel
theorem dX11_image_40 : decode cX11_image 40 = .ok (.getfield 202, 3) := by decide +kernel
theorem dX11_image_43 : decode cX11_image 43 = .ok (.ireturn, 1) := by decide +kernel
theorem dX11_restore_0 : decode cX11_restore 0 = .ok (.aload_n 0, 1) := by decide +kernel
theorem dX11_restore_1 : decode cX11_restore 1 = .ok (.iconst 0, 1) := by decide +kernel
theorem dX11_restore_2 : decode cX11_restore 2 = .ok (.putfield 97, 3) := by decide +kernel
theorem dX11_restore_5 : decode cX11_restore 5 = .ok (.aload_n 0, 1) := by decide +kernel
theorem dX11_restore_6 : decode cX11_restore 6 = .ok (.getfield 202, 3) := by decide +kernel
theorem dX11_restore_9 : decode cX11_restore 9 = .ok (.ifCond .ne 5, 3) := by decide +kernel
theorem dX11_restore_12 : decode cX11_restore 12 = .ok (.iconst (-1), 1) := by decide +kernel
theorem dX11_restore_13 : decode cX11_restore 13 = .ok (.ireturn, 1) := by decide +kernel
theorem dX11_restore_14 : decode cX11_restore 14 = .ok (.aload_n 0, 1) := by decide +kernel
theorem dX11_restore_15 : decode cX11_restore 15 = .ok (.dup, 1) := by decide +kernel
theorem dX11_restore_16 : decode cX11_restore 16 = .ok (.getfield 202, 3) := by decide +kernel
theorem dX11_restore_19 : decode cX11_restore 19 = .ok (.iconst 1, 1) := by decide +kernel
theorem dX11_restore_20 : decode cX11_restore 20 = .ok (.isub, 1) := by decide +kernel
theorem dX11_restore_21 : decode cX11_restore 21 = .ok (.putfield 202, 3) := by decide +kernel
theorem dX11_restore_24 : decode cX11_restore 24 = .ok (.aload_n 0, 1) := by decide +kernel
theorem dX11_restore_25 : decode cX11_restore 25 = .ok (.aload_n 0, 1) := by decide +kernel
theorem dX11_restore_26 : decode cX11_restore 26 = .ok (.getfield 82, 3) := by decide +kernel
theorem dX11_restore_29 : decode cX11_restore 29 = .ok (.aload_n 0, 1) := by decide +kernel
theorem dX11_restore_30 : decode cX11_restore 30 = .ok (.getfield 202, 3) := by decide +kernel
theorem dX11_restore_33 : decode cX11_restore 33 = .ok (.aaload, 1) := by decide +kernel
theorem dX11_restore_34 : decode cX11_restore 34 = .ok (.iconst 1, 1) := by decide +kernel
theorem dX11_restore_35 : decode cX11_restore 35 = .ok (.invokevirtual 382, 3) := by decide +kernel
theorem dX11_restore_38 : decode cX11_restore 38 = .ok (.aload_n 0, 1) := by decide +kernel
theorem dX11_restore_39 : decode cX11_restore 39 = .ok (.iconst 0, 1) := by decide +kernel
theorem dX11_restore_40 : decode cX11_restore 40 = .ok (.putfield 199, 3) := by decide +kernel
theorem dX11_restore_43 : decode cX11_restore 43 = .ok (.aload_n 0, 1) := by decide +kernel
theorem dX11_restore_44 : decode cX11_restore 44 = .ok (.getfield 202, 3) := by decide +kernel
theorem dX11_restore_47 : decode cX11_restore 47 = .ok (.ireturn, 1) := by decide +kernel
theorem dX11_status_0 : decode cX11_status 0 = .ok (.aload_n 0, 1) := by decide +kernel
theorem dX11_status_1 : decode cX11_status 1 = .ok (.iconst 0, 1) := by decide +kernel
theorem dX11_status_2 : decode cX11_status 2 = .ok (.putfield 97, 3) := by decide +kernel
theorem dX11_status_5 : decode cX11_status 5 = .ok (.iload_n 1, 1) := by decide +kernel
theorem dX11_status_6 : decode cX11_status 6 = .ok (.iconst 0, 1) := by decide +kernel
theorem dX11_status_7 : decode cX11_status 7 = .ok (.iconst 1, 1) := by decide +kernel
theorem dX11_status_8 : decode cX11_status 8 = .ok (.invokestatic 131, 3) := by decide +kernel
theorem dX11_status_11 : decode cX11_status 11 = .ok (.ifCond .eq 12, 3) := by decide +kernel
theorem dX11_status_14 : decode cX11_status 14 = .ok (.aload_n 0, 1) := by decide +kernel
theorem dX11_status_15 : decode cX11_status 15 = .ok (.getfield 17, 3) := by decide +kernel
theorem dX11_status_18 : decode cX11_status 18 = .ok (.iload_n 1, 1) := by decide +kernel
theorem dX11_status_19 : decode cX11_status 19 = .ok (.iaload, 1) := by decide +kernel
theorem dX11_status_20 : decode cX11_status 20 = .ok (.goto 4, 3) := by decide +kernel
theorem dX11_status_23 : decode cX11_status 23 = .ok (.iconst (-1), 1) := by decide +kernel
theorem dX11_status_24 : decode cX11_status 24 = .ok (.ireturn, 1) := by decide +kernel
theorem dX11_count_0 : decode cX11_count 0 = .ok (.aload_n 0, 1) := by decide +kernel
theorem dX11_count_1 : decode cX11_count 1 = .ok (.iconst 0, 1) := by decide +kernel
theorem dX11_count_2 : decode cX11_count 2 = .ok (.putfield 97, 3) := by decide +kernel
theorem dX11_count_5 : decode cX11_count 5 = .ok (.iload_n 1, 1) := by decide +kernel
theorem dX11_count_6 : decode cX11_count 6 = .ok (.ifCond .ne 10, 3) := by decide +kernel
theorem dX11_count_9 : decode cX11_count 9 = .ok (.aload_n 0, 1) := by decide +kernel
theorem dX11_count_10 : decode cX11_count 10 = .ok (.getfield 202, 3) := by decide +kernel
theorem dX11_count_13 : decode cX11_count 13 = .ok (.goto 28, 3) := by decide +kernel
theorem dX11_count_16 : decode cX11_count 16 = .ok (.iload_n 1, 1) := by decide +kernel
theorem dX11_count_17 : decode cX11_count 17 = .ok (.iconst 1, 1) := by decide +kernel
theorem dX11_count_18 : decode cX11_count 18 = .ok (.if_icmp .ne 10, 3) := by decide +kernel
theorem dX11_count_21 : decode cX11_count 21 = .ok (.aload_n 0, 1) := by decide +kernel
theorem dX11_count_22 : decode cX11_count 22 = .ok (.getfield 100, 3) := by decide +kernel
theorem dX11_count_25 : decode cX11_count 25 = .ok (.goto 16, 3) := by decide +kernel
theorem dX11_count_28 : decode cX11_count 28 = .ok (.iload_n 1, 1) := by decide +kernel
theorem dX11_count_29 : decode cX11_count 29 = .ok (.iconst 2, 1) := by decide +kernel
theorem dX11_count_30 : decode cX11_count 30 = .ok (.if_icmp .ne 10, 3) := by decide +kernel
theorem dX11_count_33 : decode cX11_count 33 = .ok (.aload_n 0, 1) := by decide +kernel
theorem dX11_count_34 : decode cX11_count 34 = .ok (.getfield 196, 3) := by decide +kernel
theorem dX11_count_37 : decode cX11_count 37 = .ok (.goto 4, 3) := by decide +kernel
theorem dX11_count_40 : decode cX11_count 40 = .ok (.iconst (-1), 1) := by decide +kernel
theorem dX11_count_41 : decode cX11_count 41 = .ok (.ireturn, 1) := by decide +kernel
theorem dJ6_bitCount_0f7a4_0 : decode cJ6_bitCount_0f7a4 0 = .ok (.iload_n 0, 1) := by decide +kernel
theorem dJ6_bitCount_0f7a4_1 : decode cJ6_bitCount_0f7a4 1 = .ok (.iload_n 0, 1) := by decide +kernel
theorem dJ6_bitCount_0f7a4_2 : decode cJ6_bitCount_0f7a4 2 = .ok (.iconst 1, 1) := by decide +kernel
theorem dJ6_bitCount_0f7a4_3 : decode cJ6_bitCount_0f7a4 3 = .ok (.iushr, 1) := by decide +kernel
theorem dJ6_bitCount_0f7a4_4 : decode cJ6_bitCount_0f7a4 4 = .ok (.ldc_w 265, 3) := by decide +kernel
theorem dJ6_bitCount_0f7a4_7 : decode cJ6_bitCount_0f7a4 7 = .ok (.iand, 1) := by decide +kernel
theorem dJ6_bitCount_0f7a4_8 : decode cJ6_bitCount_0f7a4 8 = .ok (.isub, 1) := by decide +kernel
theorem dJ6_bitCount_0f7a4_9 : decode cJ6_bitCount_0f7a4 9 = .ok (.istore_n 0, 1) := by decide +kernel
theorem dJ6_bitCount_0f7a4_10 : decode cJ6_bitCount_0f7a4 10 = .ok (.iload_n 0, 1) := by decide +kernel
theorem dJ6_bitCount_0f7a4_11 : decode cJ6_bitCount_0f7a4 11 = .ok (.ldc_w 266, 3) := by decide +kernel
theorem dJ6_bitCount_0f7a4_14 : decode cJ6_bitCount_0f7a4 14 = .ok (.iand, 1) := by decide +kernel
theorem dJ6_bitCount_0f7a4_15 : decode cJ6_bitCount_0f7a4 15 = .ok (.iload_n 0, 1) := by decide +kernel
theorem dJ6_bitCount_0f7a4_16 : decode cJ6_bitCount_0f7a4 16 = .ok (.iconst 2, 1) := by decide +kernel
theorem dJ6_bitCount_0f7a4_17 : decode cJ6_bitCount_0f7a4 17 = .ok (.iushr, 1) := by decide +kernel
theorem dJ6_bitCount_0f7a4_18 : decode cJ6_bitCount_0f7a4 18 = .ok (.ldc_w 266, 3) := by decide +kernel
theorem dJ6_bitCount_0f7a4_21 : decode cJ6_bitCount_0f7a4 21 = .ok (.iand, 1) := by decide +kernel
theorem dJ6_bitCount_0f7a4_22 : decode cJ6_bitCount_0f7a4 22 = .ok (.iadd, 1) := by decide +kernel
theorem dJ6_bitCount_0f7a4_23 : decode cJ6_bitCount_0f7a4 23 = .ok (.istore_n 0, 1) := by decide +kernel
theorem dJ6_bitCount_0f7a4_24 : decode cJ6_bitCount_0f7a4 24 = .ok (.iload_n 0, 1) := by decide +kernel
theorem dJ6_bitCount_0f7a4_25 : decode cJ6_bitCount_0f7a4 25 = .ok (.iload_n 0, 1) := by decide +kernel
theorem dJ6_bitCount_0f7a4_26 : decode cJ6_bitCount_0f7a4 26 = .ok (.iconst 4, 1) := by decide +kernel
theorem dJ6_bitCount_0f7a4_27 : decode cJ6_bitCount_0f7a4 27 = .ok (.iushr, 1) := by decide +kernel
theorem dJ6_bitCount_0f7a4_28 : decode cJ6_bitCount_0f7a4 28 = .ok (.iadd, 1) := by decide +kernel
theorem dJ6_bitCount_0f7a4_29 : decode cJ6_bitCount_0f7a4 29 = .ok (.ldc_w 267, 3) := by decide +kernel
theorem dJ6_bitCount_0f7a4_32 : decode cJ6_bitCount_0f7a4 32 = .ok (.iand, 1) := by decide +kernel
theorem dJ6_bitCount_0f7a4_33 : decode cJ6_bitCount_0f7a4 33 = .ok (.istore_n 0, 1) := by decide +kernel
theorem dJ6_bitCount_0f7a4_34 : decode cJ6_bitCount_0f7a4 34 = .ok (.iload_n 0, 1) := by decide +kernel
theorem dJ6_bitCount_0f7a4_35 : decode cJ6_bitCount_0f7a4 35 = .ok (.iload_n 0, 1) := by decide +kernel
theorem dJ6_bitCount_0f7a4_36 : decode cJ6_bitCount_0f7a4 36 = .ok (.bipush 8, 2) := by decide +kernel
theorem dJ6_bitCount_0f7a4_38 : decode cJ6_bitCount_0f7a4 38 = .ok (.iushr, 1) := by decide +kernel
theorem dJ6_bitCount_0f7a4_39 : decode cJ6_bitCount_0f7a4 39 = .ok (.iadd, 1) := by decide +kernel
theorem dJ6_bitCount_0f7a4_40 : decode cJ6_bitCount_0f7a4 40 = .ok (.istore_n 0, 1) := by decide +kernel
theorem dJ6_bitCount_0f7a4_41 : decode cJ6_bitCount_0f7a4 41 = .ok (.iload_n 0, 1) := by decide +kernel
theorem dJ6_bitCount_0f7a4_42 : decode cJ6_bitCount_0f7a4 42 = .ok (.iload_n 0, 1) := by decide +kernel
theorem dJ6_bitCount_0f7a4_43 : decode cJ6_bitCount_0f7a4 43 = .ok (.bipush 16, 2) := by decide +kernel
theorem dJ6_bitCount_0f7a4_45 : decode cJ6_bitCount_0f7a4 45 = .ok (.iushr, 1) := by decide +kernel
theorem dJ6_bitCount_0f7a4_46 : decode cJ6_bitCount_0f7a4 46 = .ok (.iadd, 1) := by decide +kernel
theorem dJ6_bitCount_0f7a4_47 : decode cJ6_bitCount_0f7a4 47 = .ok (.istore_n 0, 1) := by decide +kernel
theorem dJ6_bitCount_0f7a4_48 : decode cJ6_bitCount_0f7a4 48 = .ok (.iload_n 0, 1) := by decide +kernel
theorem dJ6_bitCount_0f7a4_49 : decode cJ6_bitCount_0f7a4 49 = .ok (.bipush 63, 2) := by decide +kernel
theorem dJ6_bitCount_0f7a4_51 : decode cJ6_bitCount_0f7a4 51 = .ok (.iand, 1) := by decide +kernel
theorem dJ6_bitCount_0f7a4_52 : decode cJ6_bitCount_0f7a4 52 = .ok (.ireturn, 1) := by decide +kernel
theorem dL_town_0 : decode cL_town 0 = .ok (.aload_n 2, 1) := by decide +kernel
theorem dL_town_1 : decode cL_town 1 = .ok (.iconst 0, 1) := by decide +kernel
theorem dL_town_2 : decode cL_town 2 = .ok (.aload_n 0, 1) := by decide +kernel
theorem dL_town_3 : decode cL_town 3 = .ok (.iload_n 1, 1) := by decide +kernel
theorem dL_town_4 : decode cL_town 4 = .ok (.invokevirtual 7, 3) := by decide +kernel
theorem dL_town_7 : decode cL_town 7 = .ok (.i2l, 1) := by decide +kernel
theorem dL_town_8 : decode cL_town 8 = .ok (.lastore, 1) := by decide +kernel
theorem dL_town_9 : decode cL_town 9 = .ok (.goto 6, 3) := by decide +kernel
theorem dL_town_12 : decode cL_town 12 = .ok (.astore_n 3, 1) := by decide +kernel
theorem dL_town_13 : decode cL_town 13 = .ok (.iconst 1, 1) := by decide +kernel
theorem dL_town_14 : decode cL_town 14 = .ok (.ireturn, 1) := by decide +kernel
theorem dL_town_15 : decode cL_town 15 = .ok (.iconst 0, 1) := by decide +kernel
theorem dL_town_16 : decode cL_town 16 = .ok (.ireturn, 1) := by decide +kernel
theorem dL_law_0 : decode cL_law 0 = .ok (.aload_n 2, 1) := by decide +kernel
theorem dL_law_1 : decode cL_law 1 = .ok (.iconst 0, 1) := by decide +kernel
theorem dL_law_2 : decode cL_law 2 = .ok (.aload_n 0, 1) := by decide +kernel
theorem dL_law_3 : decode cL_law 3 = .ok (.iload_n 1, 1) := by decide +kernel
theorem dL_law_4 : decode cL_law 4 = .ok (.invokevirtual 15, 3) := by decide +kernel
theorem dL_law_7 : decode cL_law 7 = .ok (.i2l, 1) := by decide +kernel
theorem dL_law_8 : decode cL_law 8 = .ok (.lastore, 1) := by decide +kernel
theorem dL_law_9 : decode cL_law 9 = .ok (.goto 6, 3) := by decide +kernel
theorem dL_law_12 : decode cL_law 12 = .ok (.astore_n 3, 1) := by decide +kernel
theorem dL_law_13 : decode cL_law 13 = .ok (.iconst 1, 1) := by decide +kernel
theorem dL_law_14 : decode cL_law 14 = .ok (.ireturn, 1) := by decide +kernel
theorem dL_law_15 : decode cL_law 15 = .ok (.iconst 0, 1) := by decide +kernel
theorem dL_law_16 : decode cL_law 16 = .ok (.ireturn, 1) := by decide +kernel
theorem dL_work_0 : decode cL_work 0 = .ok (.aload_n 2, 1) := by decide +kernel
theorem dL_work_1 : decode cL_work 1 = .ok (.iconst 0, 1) := by decide +kernel
theorem dL_work_2 : decode cL_work 2 = .ok (.aload_n 0, 1) := by decide +kernel
theorem dL_work_3 : decode cL_work 3 = .ok (.iload_n 1, 1) := by decide +kernel
theorem dL_work_4 : decode cL_work 4 = .ok (.invokevirtual 18, 3) := by decide +kernel
theorem dL_work_7 : decode cL_work 7 = .ok (.i2l, 1) := by decide +kernel
theorem dL_work_8 : decode cL_work 8 = .ok (.lastore, 1) := by decide +kernel
theorem dL_work_9 : decode cL_work 9 = .ok (.goto 6, 3) := by decide +kernel
theorem dL_work_12 : decode cL_work 12 = .ok (.astore_n 3, 1) := by decide +kernel
theorem dL_work_13 : decode cL_work 13 = .ok (.iconst 1, 1) := by decide +kernel
theorem dL_work_14 : decode cL_work 14 = .ok (.ireturn, 1) := by decide +kernel
theorem dL_work_15 : decode cL_work 15 = .ok (.iconst 0, 1) := by decide +kernel
theorem dL_work_16 : decode cL_work 16 = .ok (.ireturn, 1) := by decide +kernel
theorem dL_book_0 : decode cL_book 0 = .ok (.aload_n 2, 1) := by decide +kernel
theorem dL_book_1 : decode cL_book 1 = .ok (.iconst 0, 1) := by decide +kernel
theorem dL_book_2 : decode cL_book 2 = .ok (.aload_n 0, 1) := by decide +kernel
theorem dL_book_3 : decode cL_book 3 = .ok (.iload_n 1, 1) := by decide +kernel
theorem dL_book_4 : decode cL_book 4 = .ok (.invokevirtual 21, 3) := by decide +kernel
theorem dL_book_7 : decode cL_book 7 = .ok (.i2l, 1) := by decide +kernel
theorem dL_book_8 : decode cL_book 8 = .ok (.lastore, 1) := by decide +kernel
theorem dL_book_9 : decode cL_book 9 = .ok (.goto 6, 3) := by decide +kernel
theorem dL_book_12 : decode cL_book 12 = .ok (.astore_n 3, 1) := by decide +kernel
theorem dL_book_13 : decode cL_book 13 = .ok (.iconst 1, 1) := by decide +kernel
theorem dL_book_14 : decode cL_book 14 = .ok (.ireturn, 1) := by decide +kernel
theorem dL_book_15 : decode cL_book 15 = .ok (.iconst 0, 1) := by decide +kernel
theorem dL_book_16 : decode cL_book 16 = .ok (.ireturn, 1) := by decide +kernel
theorem dL_told_0 : decode cL_told 0 = .ok (.aload_n 2, 1) := by decide +kernel
theorem dL_told_1 : decode cL_told 1 = .ok (.iconst 0, 1) := by decide +kernel
theorem dL_told_2 : decode cL_told 2 = .ok (.aload_n 0, 1) := by decide +kernel
theorem dL_told_3 : decode cL_told 3 = .ok (.iload_n 1, 1) := by decide +kernel
theorem dL_told_4 : decode cL_told 4 = .ok (.invokevirtual 24, 3) := by decide +kernel
theorem dL_told_7 : decode cL_told 7 = .ok (.i2l, 1) := by decide +kernel
theorem dL_told_8 : decode cL_told 8 = .ok (.lastore, 1) := by decide +kernel
theorem dL_told_9 : decode cL_told 9 = .ok (.goto 6, 3) := by decide +kernel
theorem dL_told_12 : decode cL_told 12 = .ok (.astore_n 3, 1) := by decide +kernel
theorem dL_told_13 : decode cL_told 13 = .ok (.iconst 1, 1) := by decide +kernel
theorem dL_told_14 : decode cL_told 14 = .ok (.ireturn, 1) := by decide +kernel
theorem dL_told_15 : decode cL_told 15 = .ok (.iconst 0, 1) := by decide +kernel
theorem dL_told_16 : decode cL_told 16 = .ok (.ireturn, 1) := by decide +kernel
theorem dL_person_0 : decode cL_person 0 = .ok (.aload_n 3, 1) := by decide +kernel
theorem dL_person_1 : decode cL_person 1 = .ok (.iconst 0, 1) := by decide +kernel
theorem dL_person_2 : decode cL_person 2 = .ok (.aload_n 0, 1) := by decide +kernel
theorem dL_person_3 : decode cL_person 3 = .ok (.iload_n 1, 1) := by decide +kernel
theorem dL_person_4 : decode cL_person 4 = .ok (.iload_n 2, 1) := by decide +kernel
theorem dL_person_5 : decode cL_person 5 = .ok (.invokevirtual 27, 3) := by decide +kernel
theorem dL_person_8 : decode cL_person 8 = .ok (.i2l, 1) := by decide +kernel
theorem dL_person_9 : decode cL_person 9 = .ok (.lastore, 1) := by decide +kernel
theorem dL_person_10 : decode cL_person 10 = .ok (.goto 11, 3) := by decide +kernel
theorem dL_person_13 : decode cL_person 13 = .ok (.astore 4, 2) := by decide +kernel
theorem dL_person_15 : decode cL_person 15 = .ok (.iconst 1, 1) := by decide +kernel
theorem dL_person_16 : decode cL_person 16 = .ok (.ireturn, 1) := by decide +kernel
theorem dL_person_17 : decode cL_person 17 = .ok (.astore 4, 2) := by decide +kernel
theorem dL_person_19 : decode cL_person 19 = .ok (.iconst 2, 1) := by decide +kernel
theorem dL_person_20 : decode cL_person 20 = .ok (.ireturn, 1) := by decide +kernel
theorem dL_person_21 : decode cL_person 21 = .ok (.iconst 0, 1) := by decide +kernel
theorem dL_person_22 : decode cL_person 22 = .ok (.ireturn, 1) := by decide +kernel
theorem dL_duty_0 : decode cL_duty 0 = .ok (.aload_n 3, 1) := by decide +kernel
theorem dL_duty_1 : decode cL_duty 1 = .ok (.iconst 0, 1) := by decide +kernel
theorem dL_duty_2 : decode cL_duty 2 = .ok (.aload_n 0, 1) := by decide +kernel
theorem dL_duty_3 : decode cL_duty 3 = .ok (.iload_n 1, 1) := by decide +kernel
theorem dL_duty_4 : decode cL_duty 4 = .ok (.iload_n 2, 1) := by decide +kernel
theorem dL_duty_5 : decode cL_duty 5 = .ok (.invokevirtual 33, 3) := by decide +kernel
theorem dL_duty_8 : decode cL_duty 8 = .ok (.i2l, 1) := by decide +kernel
theorem dL_duty_9 : decode cL_duty 9 = .ok (.lastore, 1) := by decide +kernel
theorem dL_duty_10 : decode cL_duty 10 = .ok (.goto 11, 3) := by decide +kernel
theorem dL_duty_13 : decode cL_duty 13 = .ok (.astore 4, 2) := by decide +kernel
theorem dL_duty_15 : decode cL_duty 15 = .ok (.iconst 1, 1) := by decide +kernel
theorem dL_duty_16 : decode cL_duty 16 = .ok (.ireturn, 1) := by decide +kernel
theorem dL_duty_17 : decode cL_duty 17 = .ok (.astore 4, 2) := by decide +kernel
theorem dL_duty_19 : decode cL_duty 19 = .ok (.iconst 2, 1) := by decide +kernel
theorem dL_duty_20 : decode cL_duty 20 = .ok (.ireturn, 1) := by decide +kernel
theorem dL_duty_21 : decode cL_duty 21 = .ok (.iconst 0, 1) := by decide +kernel
theorem dL_duty_22 : decode cL_duty 22 = .ok (.ireturn, 1) := by decide +kernel
theorem dL_task_0 : decode cL_task 0 = .ok (.aload_n 3, 1) := by decide +kernel
theorem dL_task_1 : decode cL_task 1 = .ok (.iconst 0, 1) := by decide +kernel
theorem dL_task_2 : decode cL_task 2 = .ok (.aload_n 0, 1) := by decide +kernel
theorem dL_task_3 : decode cL_task 3 = .ok (.iload_n 1, 1) := by decide +kernel
theorem dL_task_4 : decode cL_task 4 = .ok (.iload_n 2, 1) := by decide +kernel
theorem dL_task_5 : decode cL_task 5 = .ok (.invokevirtual 36, 3) := by decide +kernel
theorem dL_task_8 : decode cL_task 8 = .ok (.i2l, 1) := by decide +kernel
theorem dL_task_9 : decode cL_task 9 = .ok (.lastore, 1) := by decide +kernel
theorem dL_task_10 : decode cL_task 10 = .ok (.goto 11, 3) := by decide +kernel
theorem dL_task_13 : decode cL_task 13 = .ok (.astore 4, 2) := by decide +kernel
theorem dL_task_15 : decode cL_task 15 = .ok (.iconst 1, 1) := by decide +kernel
theorem dL_task_16 : decode cL_task 16 = .ok (.ireturn, 1) := by decide +kernel
theorem dL_task_17 : decode cL_task 17 = .ok (.astore 4, 2) := by decide +kernel
theorem dL_task_19 : decode cL_task 19 = .ok (.iconst 2, 1) := by decide +kernel
theorem dL_task_20 : decode cL_task 20 = .ok (.ireturn, 1) := by decide +kernel
theorem dL_task_21 : decode cL_task 21 = .ok (.iconst 0, 1) := by decide +kernel
theorem dL_task_22 : decode cL_task 22 = .ok (.ireturn, 1) := by decide +kernel
theorem dL_price_0 : decode cL_price 0 = .ok (.aload_n 2, 1) := by decide +kernel
theorem dL_price_1 : decode cL_price 1 = .ok (.iconst 0, 1) := by decide +kernel
theorem dL_price_2 : decode cL_price 2 = .ok (.aload_n 0, 1) := by decide +kernel
theorem dL_price_3 : decode cL_price 3 = .ok (.iload_n 1, 1) := by decide +kernel
theorem dL_price_4 : decode cL_price 4 = .ok (.invokevirtual 39, 3) := by decide +kernel
theorem dL_price_7 : decode cL_price 7 = .ok (.i2l, 1) := by decide +kernel
theorem dL_price_8 : decode cL_price 8 = .ok (.lastore, 1) := by decide +kernel
theorem dL_price_9 : decode cL_price 9 = .ok (.goto 6, 3) := by decide +kernel
theorem dL_price_12 : decode cL_price 12 = .ok (.astore_n 3, 1) := by decide +kernel
theorem dL_price_13 : decode cL_price 13 = .ok (.iconst 1, 1) := by decide +kernel
theorem dL_price_14 : decode cL_price 14 = .ok (.ireturn, 1) := by decide +kernel
theorem dL_price_15 : decode cL_price 15 = .ok (.iconst 0, 1) := by decide +kernel
theorem dL_price_16 : decode cL_price 16 = .ok (.ireturn, 1) := by decide +kernel
theorem dL_would_0 : decode cL_would 0 = .ok (.aload 9, 2) := by decide +kernel
theorem dL_would_2 : decode cL_would 2 = .ok (.iconst 0, 1) := by decide +kernel
theorem dL_would_3 : decode cL_would 3 = .ok (.aload_n 0, 1) := by decide +kernel
theorem dL_would_4 : decode cL_would 4 = .ok (.iload_n 1, 1) := by decide +kernel
theorem dL_would_5 : decode cL_would 5 = .ok (.iload_n 2, 1) := by decide +kernel
theorem dL_would_6 : decode cL_would 6 = .ok (.iload_n 3, 1) := by decide +kernel
theorem dL_would_7 : decode cL_would 7 = .ok (.iload 4, 2) := by decide +kernel
theorem dL_would_9 : decode cL_would 9 = .ok (.iload 5, 2) := by decide +kernel
theorem dL_would_11 : decode cL_would 11 = .ok (.iload 6, 2) := by decide +kernel
theorem dL_would_13 : decode cL_would 13 = .ok (.iload 7, 2) := by decide +kernel
theorem dL_would_15 : decode cL_would 15 = .ok (.iload 8, 2) := by decide +kernel
theorem dL_would_17 : decode cL_would 17 = .ok (.invokevirtual 42, 3) := by decide +kernel
theorem dL_would_20 : decode cL_would 20 = .ok (.i2l, 1) := by decide +kernel
theorem dL_would_21 : decode cL_would 21 = .ok (.lastore, 1) := by decide +kernel
theorem dL_would_22 : decode cL_would 22 = .ok (.goto 7, 3) := by decide +kernel
theorem dL_would_25 : decode cL_would 25 = .ok (.astore 10, 2) := by decide +kernel
theorem dL_would_27 : decode cL_would 27 = .ok (.iconst 1, 1) := by decide +kernel
theorem dL_would_28 : decode cL_would 28 = .ok (.ireturn, 1) := by decide +kernel
theorem dL_would_29 : decode cL_would 29 = .ok (.iconst 0, 1) := by decide +kernel
theorem dL_would_30 : decode cL_would 30 = .ok (.ireturn, 1) := by decide +kernel
theorem dL_can_0 : decode cL_can 0 = .ok (.aload_n 2, 1) := by decide +kernel
theorem dL_can_1 : decode cL_can 1 = .ok (.iconst 0, 1) := by decide +kernel
theorem dL_can_2 : decode cL_can 2 = .ok (.aload_n 0, 1) := by decide +kernel
theorem dL_can_3 : decode cL_can 3 = .ok (.iload_n 1, 1) := by decide +kernel
theorem dL_can_4 : decode cL_can 4 = .ok (.invokevirtual 46, 3) := by decide +kernel
theorem dL_can_7 : decode cL_can 7 = .ok (.ifCond .eq 7, 3) := by decide +kernel
theorem dL_can_10 : decode cL_can 10 = .ok (.lconst 1, 1) := by decide +kernel
theorem dL_can_11 : decode cL_can 11 = .ok (.goto 4, 3) := by decide +kernel
theorem dL_can_14 : decode cL_can 14 = .ok (.lconst 0, 1) := by decide +kernel
theorem dL_can_15 : decode cL_can 15 = .ok (.lastore, 1) := by decide +kernel
theorem dL_can_16 : decode cL_can 16 = .ok (.goto 6, 3) := by decide +kernel
theorem dL_can_19 : decode cL_can 19 = .ok (.astore_n 3, 1) := by decide +kernel
theorem dL_can_20 : decode cL_can 20 = .ok (.iconst 1, 1) := by decide +kernel
theorem dL_can_21 : decode cL_can 21 = .ok (.ireturn, 1) := by decide +kernel
theorem dL_can_22 : decode cL_can 22 = .ok (.iconst 0, 1) := by decide +kernel
theorem dL_can_23 : decode cL_can 23 = .ok (.ireturn, 1) := by decide +kernel
theorem dL_ahead_0 : decode cL_ahead 0 = .ok (.aload_n 3, 1) := by decide +kernel
theorem dL_ahead_1 : decode cL_ahead 1 = .ok (.iconst 0, 1) := by decide +kernel
theorem dL_ahead_2 : decode cL_ahead 2 = .ok (.aload_n 0, 1) := by decide +kernel
theorem dL_ahead_3 : decode cL_ahead 3 = .ok (.iload_n 1, 1) := by decide +kernel
theorem dL_ahead_4 : decode cL_ahead 4 = .ok (.iload_n 2, 1) := by decide +kernel
theorem dL_ahead_5 : decode cL_ahead 5 = .ok (.invokevirtual 50, 3) := by decide +kernel
theorem dL_ahead_8 : decode cL_ahead 8 = .ok (.i2l, 1) := by decide +kernel
theorem dL_ahead_9 : decode cL_ahead 9 = .ok (.lastore, 1) := by decide +kernel
theorem dL_ahead_10 : decode cL_ahead 10 = .ok (.goto 7, 3) := by decide +kernel
theorem dL_ahead_13 : decode cL_ahead 13 = .ok (.astore 4, 2) := by decide +kernel
theorem dL_ahead_15 : decode cL_ahead 15 = .ok (.iconst 1, 1) := by decide +kernel
theorem dL_ahead_16 : decode cL_ahead 16 = .ok (.ireturn, 1) := by decide +kernel
theorem dL_ahead_17 : decode cL_ahead 17 = .ok (.iconst 0, 1) := by decide +kernel
theorem dL_ahead_18 : decode cL_ahead 18 = .ok (.ireturn, 1) := by decide +kernel
theorem dL_stay_0 : decode cL_stay 0 = .ok (.aload_n 2, 1) := by decide +kernel
theorem dL_stay_1 : decode cL_stay 1 = .ok (.iconst 0, 1) := by decide +kernel
theorem dL_stay_2 : decode cL_stay 2 = .ok (.aload_n 0, 1) := by decide +kernel
theorem dL_stay_3 : decode cL_stay 3 = .ok (.iload_n 1, 1) := by decide +kernel
theorem dL_stay_4 : decode cL_stay 4 = .ok (.invokevirtual 53, 3) := by decide +kernel
theorem dL_stay_7 : decode cL_stay 7 = .ok (.i2l, 1) := by decide +kernel
theorem dL_stay_8 : decode cL_stay 8 = .ok (.lastore, 1) := by decide +kernel
theorem dL_stay_9 : decode cL_stay 9 = .ok (.goto 6, 3) := by decide +kernel
theorem dL_stay_12 : decode cL_stay 12 = .ok (.astore_n 3, 1) := by decide +kernel
theorem dL_stay_13 : decode cL_stay 13 = .ok (.iconst 1, 1) := by decide +kernel
theorem dL_stay_14 : decode cL_stay 14 = .ok (.ireturn, 1) := by decide +kernel
theorem dL_stay_15 : decode cL_stay 15 = .ok (.iconst 0, 1) := by decide +kernel
theorem dL_stay_16 : decode cL_stay 16 = .ok (.ireturn, 1) := by decide +kernel
theorem dL_giver_0 : decode cL_giver 0 = .ok (.aload_n 2, 1) := by decide +kernel
theorem dL_giver_1 : decode cL_giver 1 = .ok (.iconst 0, 1) := by decide +kernel
theorem dL_giver_2 : decode cL_giver 2 = .ok (.aload_n 0, 1) := by decide +kernel
theorem dL_giver_3 : decode cL_giver 3 = .ok (.iload_n 1, 1) := by decide +kernel
theorem dL_giver_4 : decode cL_giver 4 = .ok (.invokevirtual 56, 3) := by decide +kernel
theorem dL_giver_7 : decode cL_giver 7 = .ok (.i2l, 1) := by decide +kernel
theorem dL_giver_8 : decode cL_giver 8 = .ok (.lastore, 1) := by decide +kernel
theorem dL_giver_9 : decode cL_giver 9 = .ok (.goto 6, 3) := by decide +kernel
theorem dL_giver_12 : decode cL_giver 12 = .ok (.astore_n 3, 1) := by decide +kernel
theorem dL_giver_13 : decode cL_giver 13 = .ok (.iconst 1, 1) := by decide +kernel
theorem dL_giver_14 : decode cL_giver 14 = .ok (.ireturn, 1) := by decide +kernel
theorem dL_giver_15 : decode cL_giver 15 = .ok (.iconst 0, 1) := by decide +kernel
theorem dL_giver_16 : decode cL_giver 16 = .ok (.ireturn, 1) := by decide +kernel
theorem dL_skips_0 : decode cL_skips 0 = .ok (.aload 4, 2) := by decide +kernel
theorem dL_skips_2 : decode cL_skips 2 = .ok (.iconst 0, 1) := by decide +kernel
theorem dL_skips_3 : decode cL_skips 3 = .ok (.aload_n 0, 1) := by decide +kernel
theorem dL_skips_4 : decode cL_skips 4 = .ok (.iload_n 1, 1) := by decide +kernel
theorem dL_skips_5 : decode cL_skips 5 = .ok (.iload_n 2, 1) := by decide +kernel
theorem dL_skips_6 : decode cL_skips 6 = .ok (.iload_n 3, 1) := by decide +kernel
theorem dL_skips_7 : decode cL_skips 7 = .ok (.invokevirtual 59, 3) := by decide +kernel
theorem dL_skips_10 : decode cL_skips 10 = .ok (.i2l, 1) := by decide +kernel
theorem dL_skips_11 : decode cL_skips 11 = .ok (.lastore, 1) := by decide +kernel
theorem dL_skips_12 : decode cL_skips 12 = .ok (.goto 11, 3) := by decide +kernel
theorem dL_skips_15 : decode cL_skips 15 = .ok (.astore 5, 2) := by decide +kernel
theorem dL_skips_17 : decode cL_skips 17 = .ok (.iconst 1, 1) := by decide +kernel
theorem dL_skips_18 : decode cL_skips 18 = .ok (.ireturn, 1) := by decide +kernel
theorem dL_skips_19 : decode cL_skips 19 = .ok (.astore 5, 2) := by decide +kernel
theorem dL_skips_21 : decode cL_skips 21 = .ok (.iconst 2, 1) := by decide +kernel
theorem dL_skips_22 : decode cL_skips 22 = .ok (.ireturn, 1) := by decide +kernel
theorem dL_skips_23 : decode cL_skips 23 = .ok (.iconst 0, 1) := by decide +kernel
theorem dL_skips_24 : decode cL_skips 24 = .ok (.ireturn, 1) := by decide +kernel
theorem dL_apart_0 : decode cL_apart 0 = .ok (.aload 4, 2) := by decide +kernel
theorem dL_apart_2 : decode cL_apart 2 = .ok (.iconst 0, 1) := by decide +kernel
theorem dL_apart_3 : decode cL_apart 3 = .ok (.aload_n 0, 1) := by decide +kernel
theorem dL_apart_4 : decode cL_apart 4 = .ok (.iload_n 1, 1) := by decide +kernel
theorem dL_apart_5 : decode cL_apart 5 = .ok (.iload_n 2, 1) := by decide +kernel
theorem dL_apart_6 : decode cL_apart 6 = .ok (.iload_n 3, 1) := by decide +kernel
theorem dL_apart_7 : decode cL_apart 7 = .ok (.invokevirtual 63, 3) := by decide +kernel
theorem dL_apart_10 : decode cL_apart 10 = .ok (.i2l, 1) := by decide +kernel
theorem dL_apart_11 : decode cL_apart 11 = .ok (.lastore, 1) := by decide +kernel
theorem dL_apart_12 : decode cL_apart 12 = .ok (.goto 11, 3) := by decide +kernel
theorem dL_apart_15 : decode cL_apart 15 = .ok (.astore 5, 2) := by decide +kernel
theorem dL_apart_17 : decode cL_apart 17 = .ok (.iconst 1, 1) := by decide +kernel
theorem dL_apart_18 : decode cL_apart 18 = .ok (.ireturn, 1) := by decide +kernel
theorem dL_apart_19 : decode cL_apart 19 = .ok (.astore 5, 2) := by decide +kernel
theorem dL_apart_21 : decode cL_apart 21 = .ok (.iconst 2, 1) := by decide +kernel
theorem dL_apart_22 : decode cL_apart 22 = .ok (.ireturn, 1) := by decide +kernel
theorem dL_apart_23 : decode cL_apart 23 = .ok (.iconst 0, 1) := by decide +kernel
theorem dL_apart_24 : decode cL_apart 24 = .ok (.ireturn, 1) := by decide +kernel
theorem dL_together_0 : decode cL_together 0 = .ok (.aload 4, 2) := by decide +kernel
theorem dL_together_2 : decode cL_together 2 = .ok (.iconst 0, 1) := by decide +kernel
theorem dL_together_3 : decode cL_together 3 = .ok (.aload_n 0, 1) := by decide +kernel
theorem dL_together_4 : decode cL_together 4 = .ok (.iload_n 1, 1) := by decide +kernel
theorem dL_together_5 : decode cL_together 5 = .ok (.iload_n 2, 1) := by decide +kernel
theorem dL_together_6 : decode cL_together 6 = .ok (.iload_n 3, 1) := by decide +kernel
theorem dL_together_7 : decode cL_together 7 = .ok (.invokevirtual 66, 3) := by decide +kernel
theorem dL_together_10 : decode cL_together 10 = .ok (.i2l, 1) := by decide +kernel
theorem dL_together_11 : decode cL_together 11 = .ok (.lastore, 1) := by decide +kernel
theorem dL_together_12 : decode cL_together 12 = .ok (.goto 11, 3) := by decide +kernel
theorem dL_together_15 : decode cL_together 15 = .ok (.astore 5, 2) := by decide +kernel
theorem dL_together_17 : decode cL_together 17 = .ok (.iconst 1, 1) := by decide +kernel
theorem dL_together_18 : decode cL_together 18 = .ok (.ireturn, 1) := by decide +kernel
theorem dL_together_19 : decode cL_together 19 = .ok (.astore 5, 2) := by decide +kernel
theorem dL_together_21 : decode cL_together 21 = .ok (.iconst 2, 1) := by decide +kernel
theorem dL_together_22 : decode cL_together 22 = .ok (.ireturn, 1) := by decide +kernel
theorem dL_together_23 : decode cL_together 23 = .ok (.iconst 0, 1) := by decide +kernel
theorem dL_together_24 : decode cL_together 24 = .ok (.ireturn, 1) := by decide +kernel
theorem dL_met_0 : decode cL_met 0 = .ok (.aload 4, 2) := by decide +kernel
theorem dL_met_2 : decode cL_met 2 = .ok (.iconst 0, 1) := by decide +kernel
theorem dL_met_3 : decode cL_met 3 = .ok (.aload_n 0, 1) := by decide +kernel
theorem dL_met_4 : decode cL_met 4 = .ok (.iload_n 1, 1) := by decide +kernel
theorem dL_met_5 : decode cL_met 5 = .ok (.iload_n 2, 1) := by decide +kernel
theorem dL_met_6 : decode cL_met 6 = .ok (.iload_n 3, 1) := by decide +kernel
theorem dL_met_7 : decode cL_met 7 = .ok (.invokevirtual 69, 3) := by decide +kernel
theorem dL_met_10 : decode cL_met 10 = .ok (.lastore, 1) := by decide +kernel
theorem dL_met_11 : decode cL_met 11 = .ok (.goto 7, 3) := by decide +kernel
theorem dL_met_14 : decode cL_met 14 = .ok (.astore 5, 2) := by decide +kernel
theorem dL_met_16 : decode cL_met 16 = .ok (.iconst 1, 1) := by decide +kernel
theorem dL_met_17 : decode cL_met 17 = .ok (.ireturn, 1) := by decide +kernel
theorem dL_met_18 : decode cL_met 18 = .ok (.iconst 0, 1) := by decide +kernel
theorem dL_met_19 : decode cL_met 19 = .ok (.ireturn, 1) := by decide +kernel
theorem dL_open_0 : decode cL_open 0 = .ok (.aload 4, 2) := by decide +kernel
theorem dL_open_2 : decode cL_open 2 = .ok (.iconst 0, 1) := by decide +kernel
theorem dL_open_3 : decode cL_open 3 = .ok (.aload_n 0, 1) := by decide +kernel
theorem dL_open_4 : decode cL_open 4 = .ok (.iload_n 1, 1) := by decide +kernel
theorem dL_open_5 : decode cL_open 5 = .ok (.iload_n 2, 1) := by decide +kernel
theorem dL_open_6 : decode cL_open 6 = .ok (.iload_n 3, 1) := by decide +kernel
theorem dL_open_7 : decode cL_open 7 = .ok (.invokevirtual 73, 3) := by decide +kernel
theorem dL_open_10 : decode cL_open 10 = .ok (.i2l, 1) := by decide +kernel
theorem dL_open_11 : decode cL_open 11 = .ok (.lastore, 1) := by decide +kernel
theorem dL_open_12 : decode cL_open 12 = .ok (.goto 7, 3) := by decide +kernel
theorem dL_open_15 : decode cL_open 15 = .ok (.astore 5, 2) := by decide +kernel
theorem dL_open_17 : decode cL_open 17 = .ok (.iconst 1, 1) := by decide +kernel
theorem dL_open_18 : decode cL_open 18 = .ok (.ireturn, 1) := by decide +kernel
theorem dL_open_19 : decode cL_open 19 = .ok (.iconst 0, 1) := by decide +kernel
theorem dL_open_20 : decode cL_open 20 = .ok (.ireturn, 1) := by decide +kernel
theorem dL_share_0 : decode cL_share 0 = .ok (.aload 4, 2) := by decide +kernel
theorem dL_share_2 : decode cL_share 2 = .ok (.iconst 0, 1) := by decide +kernel
theorem dL_share_3 : decode cL_share 3 = .ok (.aload_n 0, 1) := by decide +kernel
theorem dL_share_4 : decode cL_share 4 = .ok (.iload_n 1, 1) := by decide +kernel
theorem dL_share_5 : decode cL_share 5 = .ok (.iload_n 2, 1) := by decide +kernel
theorem dL_share_6 : decode cL_share 6 = .ok (.iload_n 3, 1) := by decide +kernel
theorem dL_share_7 : decode cL_share 7 = .ok (.invokevirtual 76, 3) := by decide +kernel
theorem dL_share_10 : decode cL_share 10 = .ok (.i2l, 1) := by decide +kernel
theorem dL_share_11 : decode cL_share 11 = .ok (.lastore, 1) := by decide +kernel
theorem dL_share_12 : decode cL_share 12 = .ok (.goto 11, 3) := by decide +kernel
theorem dL_share_15 : decode cL_share 15 = .ok (.astore 5, 2) := by decide +kernel
theorem dL_share_17 : decode cL_share 17 = .ok (.iconst 1, 1) := by decide +kernel
theorem dL_share_18 : decode cL_share 18 = .ok (.ireturn, 1) := by decide +kernel
theorem dL_share_19 : decode cL_share 19 = .ok (.astore 5, 2) := by decide +kernel
theorem dL_share_21 : decode cL_share 21 = .ok (.iconst 2, 1) := by decide +kernel
theorem dL_share_22 : decode cL_share 22 = .ok (.ireturn, 1) := by decide +kernel
theorem dL_share_23 : decode cL_share 23 = .ok (.iconst 0, 1) := by decide +kernel
theorem dL_share_24 : decode cL_share 24 = .ok (.ireturn, 1) := by decide +kernel
theorem dL_youngest_0 : decode cL_youngest 0 = .ok (.aload_n 2, 1) := by decide +kernel
theorem dL_youngest_1 : decode cL_youngest 1 = .ok (.iconst 0, 1) := by decide +kernel
theorem dL_youngest_2 : decode cL_youngest 2 = .ok (.aload_n 0, 1) := by decide +kernel
theorem dL_youngest_3 : decode cL_youngest 3 = .ok (.iload_n 1, 1) := by decide +kernel
theorem dL_youngest_4 : decode cL_youngest 4 = .ok (.invokevirtual 79, 3) := by decide +kernel
theorem dL_youngest_7 : decode cL_youngest 7 = .ok (.i2l, 1) := by decide +kernel
theorem dL_youngest_8 : decode cL_youngest 8 = .ok (.lastore, 1) := by decide +kernel
theorem dL_youngest_9 : decode cL_youngest 9 = .ok (.goto 6, 3) := by decide +kernel
theorem dL_youngest_12 : decode cL_youngest 12 = .ok (.astore_n 3, 1) := by decide +kernel
theorem dL_youngest_13 : decode cL_youngest 13 = .ok (.iconst 1, 1) := by decide +kernel
theorem dL_youngest_14 : decode cL_youngest 14 = .ok (.ireturn, 1) := by decide +kernel
theorem dL_youngest_15 : decode cL_youngest 15 = .ok (.iconst 0, 1) := by decide +kernel
theorem dL_youngest_16 : decode cL_youngest 16 = .ok (.ireturn, 1) := by decide +kernel
theorem dL_next_0 : decode cL_next 0 = .ok (.aload_n 3, 1) := by decide +kernel
theorem dL_next_1 : decode cL_next 1 = .ok (.iconst 0, 1) := by decide +kernel
theorem dL_next_2 : decode cL_next 2 = .ok (.aload_n 0, 1) := by decide +kernel
theorem dL_next_3 : decode cL_next 3 = .ok (.iload_n 1, 1) := by decide +kernel
theorem dL_next_4 : decode cL_next 4 = .ok (.iload_n 2, 1) := by decide +kernel
theorem dL_next_5 : decode cL_next 5 = .ok (.invokevirtual 82, 3) := by decide +kernel
theorem dL_next_8 : decode cL_next 8 = .ok (.i2l, 1) := by decide +kernel
theorem dL_next_9 : decode cL_next 9 = .ok (.lastore, 1) := by decide +kernel
theorem dL_next_10 : decode cL_next 10 = .ok (.goto 11, 3) := by decide +kernel
theorem dL_next_13 : decode cL_next 13 = .ok (.astore 4, 2) := by decide +kernel
theorem dL_next_15 : decode cL_next 15 = .ok (.iconst 1, 1) := by decide +kernel
theorem dL_next_16 : decode cL_next 16 = .ok (.ireturn, 1) := by decide +kernel
theorem dL_next_17 : decode cL_next 17 = .ok (.astore 4, 2) := by decide +kernel
theorem dL_next_19 : decode cL_next 19 = .ok (.iconst 2, 1) := by decide +kernel
theorem dL_next_20 : decode cL_next 20 = .ok (.ireturn, 1) := by decide +kernel
theorem dL_next_21 : decode cL_next 21 = .ok (.iconst 0, 1) := by decide +kernel
theorem dL_next_22 : decode cL_next 22 = .ok (.ireturn, 1) := by decide +kernel
theorem dL_debt_0 : decode cL_debt 0 = .ok (.aload_n 2, 1) := by decide +kernel
theorem dL_debt_1 : decode cL_debt 1 = .ok (.iconst 0, 1) := by decide +kernel
theorem dL_debt_2 : decode cL_debt 2 = .ok (.aload_n 0, 1) := by decide +kernel
theorem dL_debt_3 : decode cL_debt 3 = .ok (.iload_n 1, 1) := by decide +kernel
theorem dL_debt_4 : decode cL_debt 4 = .ok (.invokevirtual 85, 3) := by decide +kernel
theorem dL_debt_7 : decode cL_debt 7 = .ok (.i2l, 1) := by decide +kernel
theorem dL_debt_8 : decode cL_debt 8 = .ok (.lastore, 1) := by decide +kernel
theorem dL_debt_9 : decode cL_debt 9 = .ok (.goto 6, 3) := by decide +kernel
theorem dL_debt_12 : decode cL_debt 12 = .ok (.astore_n 3, 1) := by decide +kernel
theorem dL_debt_13 : decode cL_debt 13 = .ok (.iconst 1, 1) := by decide +kernel
theorem dL_debt_14 : decode cL_debt 14 = .ok (.ireturn, 1) := by decide +kernel
theorem dL_debt_15 : decode cL_debt 15 = .ok (.iconst 0, 1) := by decide +kernel
theorem dL_debt_16 : decode cL_debt 16 = .ok (.ireturn, 1) := by decide +kernel
theorem dL_spare_0 : decode cL_spare 0 = .ok (.aload_n 3, 1) := by decide +kernel
theorem dL_spare_1 : decode cL_spare 1 = .ok (.iconst 0, 1) := by decide +kernel
theorem dL_spare_2 : decode cL_spare 2 = .ok (.aload_n 0, 1) := by decide +kernel
theorem dL_spare_3 : decode cL_spare 3 = .ok (.iload_n 1, 1) := by decide +kernel
theorem dL_spare_4 : decode cL_spare 4 = .ok (.iload_n 2, 1) := by decide +kernel
theorem dL_spare_5 : decode cL_spare 5 = .ok (.invokevirtual 88, 3) := by decide +kernel
theorem dL_spare_8 : decode cL_spare 8 = .ok (.i2l, 1) := by decide +kernel
theorem dL_spare_9 : decode cL_spare 9 = .ok (.lastore, 1) := by decide +kernel
theorem dL_spare_10 : decode cL_spare 10 = .ok (.goto 11, 3) := by decide +kernel
theorem dL_spare_13 : decode cL_spare 13 = .ok (.astore 4, 2) := by decide +kernel
theorem dL_spare_15 : decode cL_spare 15 = .ok (.iconst 1, 1) := by decide +kernel
theorem dL_spare_16 : decode cL_spare 16 = .ok (.ireturn, 1) := by decide +kernel
theorem dL_spare_17 : decode cL_spare 17 = .ok (.astore 4, 2) := by decide +kernel
theorem dL_spare_19 : decode cL_spare 19 = .ok (.iconst 2, 1) := by decide +kernel
theorem dL_spare_20 : decode cL_spare 20 = .ok (.ireturn, 1) := by decide +kernel
theorem dL_spare_21 : decode cL_spare 21 = .ok (.iconst 0, 1) := by decide +kernel
theorem dL_spare_22 : decode cL_spare 22 = .ok (.ireturn, 1) := by decide +kernel
theorem dL_cheapest_0 : decode cL_cheapest 0 = .ok (.aload_n 2, 1) := by decide +kernel
theorem dL_cheapest_1 : decode cL_cheapest 1 = .ok (.iconst 0, 1) := by decide +kernel
theorem dL_cheapest_2 : decode cL_cheapest 2 = .ok (.aload_n 0, 1) := by decide +kernel
theorem dL_cheapest_3 : decode cL_cheapest 3 = .ok (.iload_n 1, 1) := by decide +kernel
theorem dL_cheapest_4 : decode cL_cheapest 4 = .ok (.invokevirtual 91, 3) := by decide +kernel
theorem dL_cheapest_7 : decode cL_cheapest 7 = .ok (.i2l, 1) := by decide +kernel
theorem dL_cheapest_8 : decode cL_cheapest 8 = .ok (.lastore, 1) := by decide +kernel
theorem dL_cheapest_9 : decode cL_cheapest 9 = .ok (.goto 6, 3) := by decide +kernel
theorem dL_cheapest_12 : decode cL_cheapest 12 = .ok (.astore_n 3, 1) := by decide +kernel
theorem dL_cheapest_13 : decode cL_cheapest 13 = .ok (.iconst 1, 1) := by decide +kernel
theorem dL_cheapest_14 : decode cL_cheapest 14 = .ok (.ireturn, 1) := by decide +kernel
theorem dL_cheapest_15 : decode cL_cheapest 15 = .ok (.iconst 0, 1) := by decide +kernel
theorem dL_cheapest_16 : decode cL_cheapest 16 = .ok (.ireturn, 1) := by decide +kernel
theorem dL_crowd_0 : decode cL_crowd 0 = .ok (.aload_n 2, 1) := by decide +kernel
theorem dL_crowd_1 : decode cL_crowd 1 = .ok (.iconst 0, 1) := by decide +kernel
theorem dL_crowd_2 : decode cL_crowd 2 = .ok (.aload_n 0, 1) := by decide +kernel
theorem dL_crowd_3 : decode cL_crowd 3 = .ok (.iload_n 1, 1) := by decide +kernel
theorem dL_crowd_4 : decode cL_crowd 4 = .ok (.invokevirtual 94, 3) := by decide +kernel
theorem dL_crowd_7 : decode cL_crowd 7 = .ok (.i2l, 1) := by decide +kernel
theorem dL_crowd_8 : decode cL_crowd 8 = .ok (.lastore, 1) := by decide +kernel
theorem dL_crowd_9 : decode cL_crowd 9 = .ok (.goto 6, 3) := by decide +kernel
theorem dL_crowd_12 : decode cL_crowd 12 = .ok (.astore_n 3, 1) := by decide +kernel
theorem dL_crowd_13 : decode cL_crowd 13 = .ok (.iconst 1, 1) := by decide +kernel
theorem dL_crowd_14 : decode cL_crowd 14 = .ok (.ireturn, 1) := by decide +kernel
theorem dL_crowd_15 : decode cL_crowd 15 = .ok (.iconst 0, 1) := by decide +kernel
theorem dL_crowd_16 : decode cL_crowd 16 = .ok (.ireturn, 1) := by decide +kernel
theorem dL_clear_0 : decode cL_clear 0 = .ok (.aload_n 3, 1) := by decide +kernel
theorem dL_clear_1 : decode cL_clear 1 = .ok (.iconst 0, 1) := by decide +kernel
theorem dL_clear_2 : decode cL_clear 2 = .ok (.aload_n 0, 1) := by decide +kernel
theorem dL_clear_3 : decode cL_clear 3 = .ok (.iload_n 1, 1) := by decide +kernel
theorem dL_clear_4 : decode cL_clear 4 = .ok (.iload_n 2, 1) := by decide +kernel
theorem dL_clear_5 : decode cL_clear 5 = .ok (.invokevirtual 97, 3) := by decide +kernel
theorem dL_clear_8 : decode cL_clear 8 = .ok (.i2l, 1) := by decide +kernel
theorem dL_clear_9 : decode cL_clear 9 = .ok (.lastore, 1) := by decide +kernel
theorem dL_clear_10 : decode cL_clear 10 = .ok (.goto 11, 3) := by decide +kernel
theorem dL_clear_13 : decode cL_clear 13 = .ok (.astore 4, 2) := by decide +kernel
theorem dL_clear_15 : decode cL_clear 15 = .ok (.iconst 1, 1) := by decide +kernel
theorem dL_clear_16 : decode cL_clear 16 = .ok (.ireturn, 1) := by decide +kernel
theorem dL_clear_17 : decode cL_clear 17 = .ok (.astore 4, 2) := by decide +kernel
theorem dL_clear_19 : decode cL_clear 19 = .ok (.iconst 2, 1) := by decide +kernel
theorem dL_clear_20 : decode cL_clear 20 = .ok (.ireturn, 1) := by decide +kernel
theorem dL_clear_21 : decode cL_clear 21 = .ok (.iconst 0, 1) := by decide +kernel
theorem dL_clear_22 : decode cL_clear 22 = .ok (.ireturn, 1) := by decide +kernel
theorem dL_richest_0 : decode cL_richest 0 = .ok (.aload_n 2, 1) := by decide +kernel
theorem dL_richest_1 : decode cL_richest 1 = .ok (.iconst 0, 1) := by decide +kernel
theorem dL_richest_2 : decode cL_richest 2 = .ok (.aload_n 0, 1) := by decide +kernel
theorem dL_richest_3 : decode cL_richest 3 = .ok (.iload_n 1, 1) := by decide +kernel
theorem dL_richest_4 : decode cL_richest 4 = .ok (.invokevirtual 100, 3) := by decide +kernel
theorem dL_richest_7 : decode cL_richest 7 = .ok (.i2l, 1) := by decide +kernel
theorem dL_richest_8 : decode cL_richest 8 = .ok (.lastore, 1) := by decide +kernel
theorem dL_richest_9 : decode cL_richest 9 = .ok (.goto 6, 3) := by decide +kernel
theorem dL_richest_12 : decode cL_richest 12 = .ok (.astore_n 3, 1) := by decide +kernel
theorem dL_richest_13 : decode cL_richest 13 = .ok (.iconst 1, 1) := by decide +kernel
theorem dL_richest_14 : decode cL_richest 14 = .ok (.ireturn, 1) := by decide +kernel
theorem dL_richest_15 : decode cL_richest 15 = .ok (.iconst 0, 1) := by decide +kernel
theorem dL_richest_16 : decode cL_richest 16 = .ok (.ireturn, 1) := by decide +kernel
theorem dL_back_0 : decode cL_back 0 = .ok (.aload_n 2, 1) := by decide +kernel
theorem dL_back_1 : decode cL_back 1 = .ok (.iconst 0, 1) := by decide +kernel
theorem dL_back_2 : decode cL_back 2 = .ok (.aload_n 0, 1) := by decide +kernel
theorem dL_back_3 : decode cL_back 3 = .ok (.iload_n 1, 1) := by decide +kernel
theorem dL_back_4 : decode cL_back 4 = .ok (.invokevirtual 103, 3) := by decide +kernel
theorem dL_back_7 : decode cL_back 7 = .ok (.i2l, 1) := by decide +kernel
theorem dL_back_8 : decode cL_back 8 = .ok (.lastore, 1) := by decide +kernel
theorem dL_back_9 : decode cL_back 9 = .ok (.goto 6, 3) := by decide +kernel
theorem dL_back_12 : decode cL_back 12 = .ok (.astore_n 3, 1) := by decide +kernel
theorem dL_back_13 : decode cL_back 13 = .ok (.iconst 1, 1) := by decide +kernel
theorem dL_back_14 : decode cL_back 14 = .ok (.ireturn, 1) := by decide +kernel
theorem dL_back_15 : decode cL_back 15 = .ok (.iconst 0, 1) := by decide +kernel
theorem dL_back_16 : decode cL_back 16 = .ok (.ireturn, 1) := by decide +kernel
theorem dL_loses_0 : decode cL_loses 0 = .ok (.aload_n 2, 1) := by decide +kernel
theorem dL_loses_1 : decode cL_loses 1 = .ok (.iconst 0, 1) := by decide +kernel
theorem dL_loses_2 : decode cL_loses 2 = .ok (.aload_n 0, 1) := by decide +kernel
theorem dL_loses_3 : decode cL_loses 3 = .ok (.iload_n 1, 1) := by decide +kernel
theorem dL_loses_4 : decode cL_loses 4 = .ok (.invokevirtual 106, 3) := by decide +kernel
theorem dL_loses_7 : decode cL_loses 7 = .ok (.i2l, 1) := by decide +kernel
theorem dL_loses_8 : decode cL_loses 8 = .ok (.lastore, 1) := by decide +kernel
theorem dL_loses_9 : decode cL_loses 9 = .ok (.goto 6, 3) := by decide +kernel
theorem dL_loses_12 : decode cL_loses 12 = .ok (.astore_n 3, 1) := by decide +kernel
theorem dL_loses_13 : decode cL_loses 13 = .ok (.iconst 1, 1) := by decide +kernel
theorem dL_loses_14 : decode cL_loses 14 = .ok (.ireturn, 1) := by decide +kernel
theorem dL_loses_15 : decode cL_loses 15 = .ok (.iconst 0, 1) := by decide +kernel
theorem dL_loses_16 : decode cL_loses 16 = .ok (.ireturn, 1) := by decide +kernel
theorem dL_year_0 : decode cL_year 0 = .ok (.aload 6, 2) := by decide +kernel
theorem dL_year_2 : decode cL_year 2 = .ok (.iconst 0, 1) := by decide +kernel
theorem dL_year_3 : decode cL_year 3 = .ok (.aload_n 0, 1) := by decide +kernel
theorem dL_year_4 : decode cL_year 4 = .ok (.iload_n 1, 1) := by decide +kernel
theorem dL_year_5 : decode cL_year 5 = .ok (.iload_n 2, 1) := by decide +kernel
theorem dL_year_6 : decode cL_year 6 = .ok (.iload_n 3, 1) := by decide +kernel
theorem dL_year_7 : decode cL_year 7 = .ok (.iload 4, 2) := by decide +kernel
theorem dL_year_9 : decode cL_year 9 = .ok (.iload 5, 2) := by decide +kernel
theorem dL_year_11 : decode cL_year 11 = .ok (.invokevirtual 109, 3) := by decide +kernel
theorem dL_year_14 : decode cL_year 14 = .ok (.i2l, 1) := by decide +kernel
theorem dL_year_15 : decode cL_year 15 = .ok (.lastore, 1) := by decide +kernel
theorem dL_year_16 : decode cL_year 16 = .ok (.goto 7, 3) := by decide +kernel
theorem dL_year_19 : decode cL_year 19 = .ok (.astore 7, 2) := by decide +kernel
theorem dL_year_21 : decode cL_year 21 = .ok (.iconst 1, 1) := by decide +kernel
theorem dL_year_22 : decode cL_year 22 = .ok (.ireturn, 1) := by decide +kernel
theorem dL_year_23 : decode cL_year 23 = .ok (.iconst 0, 1) := by decide +kernel
theorem dL_year_24 : decode cL_year 24 = .ok (.ireturn, 1) := by decide +kernel
theorem dL_span_0 : decode cL_span 0 = .ok (.aload 8, 2) := by decide +kernel
theorem dL_span_2 : decode cL_span 2 = .ok (.iconst 0, 1) := by decide +kernel
theorem dL_span_3 : decode cL_span 3 = .ok (.aload_n 0, 1) := by decide +kernel
theorem dL_span_4 : decode cL_span 4 = .ok (.iload_n 1, 1) := by decide +kernel
theorem dL_span_5 : decode cL_span 5 = .ok (.iload_n 2, 1) := by decide +kernel
theorem dL_span_6 : decode cL_span 6 = .ok (.iload_n 3, 1) := by decide +kernel
theorem dL_span_7 : decode cL_span 7 = .ok (.iload 4, 2) := by decide +kernel
theorem dL_span_9 : decode cL_span 9 = .ok (.iload 5, 2) := by decide +kernel
theorem dL_span_11 : decode cL_span 11 = .ok (.iload 6, 2) := by decide +kernel
theorem dL_span_13 : decode cL_span 13 = .ok (.iload 7, 2) := by decide +kernel
theorem dL_span_15 : decode cL_span 15 = .ok (.invokevirtual 113, 3) := by decide +kernel
theorem dL_span_18 : decode cL_span 18 = .ok (.i2l, 1) := by decide +kernel
theorem dL_span_19 : decode cL_span 19 = .ok (.lastore, 1) := by decide +kernel
theorem dL_span_20 : decode cL_span 20 = .ok (.goto 7, 3) := by decide +kernel
theorem dL_span_23 : decode cL_span 23 = .ok (.astore 9, 2) := by decide +kernel
theorem dL_span_25 : decode cL_span 25 = .ok (.iconst 1, 1) := by decide +kernel
theorem dL_span_26 : decode cL_span 26 = .ok (.ireturn, 1) := by decide +kernel
theorem dL_span_27 : decode cL_span 27 = .ok (.iconst 0, 1) := by decide +kernel
theorem dL_span_28 : decode cL_span 28 = .ok (.ireturn, 1) := by decide +kernel
