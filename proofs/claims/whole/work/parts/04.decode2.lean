theorem dX11_by_40 : decode cX11_by 40 = .ok (.iload_n 1, 1) := by decide +kernel
theorem dX11_by_41 : decode cX11_by 41 = .ok (.iload_n 2, 1) := by decide +kernel
theorem dX11_by_42 : decode cX11_by 42 = .ok (.iadd, 1) := by decide +kernel
theorem dX11_by_43 : decode cX11_by 43 = .ok (.ireturn, 1) := by decide +kernel
theorem dX11_by_44 : decode cX11_by 44 = .ok (.iload_n 1, 1) := by decide +kernel
theorem dX11_by_45 : decode cX11_by 45 = .ok (.iload_n 2, 1) := by decide +kernel
theorem dX11_by_46 : decode cX11_by 46 = .ok (.isub, 1) := by decide +kernel
theorem dX11_by_47 : decode cX11_by 47 = .ok (.ireturn, 1) := by decide +kernel
theorem dX11_by_48 : decode cX11_by 48 = .ok (.iload_n 1, 1) := by decide +kernel
theorem dX11_by_49 : decode cX11_by 49 = .ok (.iload_n 2, 1) := by decide +kernel
theorem dX11_by_50 : decode cX11_by 50 = .ok (.imul, 1) := by decide +kernel
theorem dX11_by_51 : decode cX11_by 51 = .ok (.ireturn, 1) := by decide +kernel
theorem dX11_by_52 : decode cX11_by 52 = .ok (.iload_n 2, 1) := by decide +kernel
theorem dX11_by_53 : decode cX11_by 53 = .ok (.ifCond .ne 7, 3) := by decide +kernel
theorem dX11_by_56 : decode cX11_by 56 = .ok (.iconst 0, 1) := by decide +kernel
theorem dX11_by_57 : decode cX11_by 57 = .ok (.goto 16, 3) := by decide +kernel
theorem dX11_by_60 : decode cX11_by 60 = .ok (.iload_n 2, 1) := by decide +kernel
theorem dX11_by_61 : decode cX11_by 61 = .ok (.iconst (-1), 1) := by decide +kernel
theorem dX11_by_62 : decode cX11_by 62 = .ok (.if_icmp .ne 8, 3) := by decide +kernel
theorem dX11_by_65 : decode cX11_by 65 = .ok (.iload_n 1, 1) := by decide +kernel
theorem dX11_by_66 : decode cX11_by 66 = .ok (.ineg, 1) := by decide +kernel
theorem dX11_by_67 : decode cX11_by 67 = .ok (.goto 6, 3) := by decide +kernel
theorem dX11_by_70 : decode cX11_by 70 = .ok (.iload_n 1, 1) := by decide +kernel
theorem dX11_by_71 : decode cX11_by 71 = .ok (.iload_n 2, 1) := by decide +kernel
theorem dX11_by_72 : decode cX11_by 72 = .ok (.idiv, 1) := by decide +kernel
theorem dX11_by_73 : decode cX11_by 73 = .ok (.ireturn, 1) := by decide +kernel
theorem dX11_by_74 : decode cX11_by 74 = .ok (.iload_n 2, 1) := by decide +kernel
theorem dX11_by_75 : decode cX11_by 75 = .ok (.ifCond .eq 8, 3) := by decide +kernel
theorem dX11_by_78 : decode cX11_by 78 = .ok (.iload_n 2, 1) := by decide +kernel
theorem dX11_by_79 : decode cX11_by 79 = .ok (.iconst (-1), 1) := by decide +kernel
theorem dX11_by_80 : decode cX11_by 80 = .ok (.if_icmp .ne 7, 3) := by decide +kernel
theorem dX11_by_83 : decode cX11_by 83 = .ok (.iconst 0, 1) := by decide +kernel
theorem dX11_by_84 : decode cX11_by 84 = .ok (.goto 6, 3) := by decide +kernel
theorem dX11_by_87 : decode cX11_by 87 = .ok (.iload_n 1, 1) := by decide +kernel
theorem dX11_by_88 : decode cX11_by 88 = .ok (.iload_n 2, 1) := by decide +kernel
theorem dX11_by_89 : decode cX11_by 89 = .ok (.irem, 1) := by decide +kernel
theorem dX11_by_90 : decode cX11_by 90 = .ok (.ireturn, 1) := by decide +kernel
theorem dX11_by_91 : decode cX11_by 91 = .ok (.iload_n 1, 1) := by decide +kernel
theorem dX11_by_92 : decode cX11_by 92 = .ok (.iload_n 2, 1) := by decide +kernel
theorem dX11_by_93 : decode cX11_by 93 = .ok (.invokestatic 237, 3) := by decide +kernel
theorem dX11_by_96 : decode cX11_by 96 = .ok (.ireturn, 1) := by decide +kernel
theorem dX11_by_97 : decode cX11_by 97 = .ok (.iload_n 1, 1) := by decide +kernel
theorem dX11_by_98 : decode cX11_by 98 = .ok (.iload_n 2, 1) := by decide +kernel
theorem dX11_by_99 : decode cX11_by 99 = .ok (.invokestatic 240, 3) := by decide +kernel
theorem dX11_by_102 : decode cX11_by 102 = .ok (.ireturn, 1) := by decide +kernel
theorem dX11_byLaw_0 : decode cX11_byLaw 0 = .ok (.iconst 0, 1) := by decide +kernel
theorem dX11_byLaw_1 : decode cX11_byLaw 1 = .ok (.istore_n 1, 1) := by decide +kernel
theorem dX11_byLaw_2 : decode cX11_byLaw 2 = .ok (.aload_n 0, 1) := by decide +kernel
theorem dX11_byLaw_3 : decode cX11_byLaw 3 = .ok (.getfield 64, 3) := by decide +kernel
theorem dX11_byLaw_6 : decode cX11_byLaw 6 = .ok (.iconst 0, 1) := by decide +kernel
theorem dX11_byLaw_7 : decode cX11_byLaw 7 = .ok (.iconst 5, 1) := by decide +kernel
theorem dX11_byLaw_8 : decode cX11_byLaw 8 = .ok (.iconst 3, 1) := by decide +kernel
theorem dX11_byLaw_9 : decode cX11_byLaw 9 = .ok (.aload_n 0, 1) := by decide +kernel
theorem dX11_byLaw_10 : decode cX11_byLaw 10 = .ok (.getfield 67, 3) := by decide +kernel
theorem dX11_byLaw_13 : decode cX11_byLaw 13 = .ok (.iconst 1, 1) := by decide +kernel
theorem dX11_byLaw_14 : decode cX11_byLaw 14 = .ok (.iaload, 1) := by decide +kernel
theorem dX11_byLaw_15 : decode cX11_byLaw 15 = .ok (.imul, 1) := by decide +kernel
theorem dX11_byLaw_16 : decode cX11_byLaw 16 = .ok (.iadd, 1) := by decide +kernel
theorem dX11_byLaw_17 : decode cX11_byLaw 17 = .ok (.aload_n 0, 1) := by decide +kernel
theorem dX11_byLaw_18 : decode cX11_byLaw 18 = .ok (.getfield 67, 3) := by decide +kernel
theorem dX11_byLaw_21 : decode cX11_byLaw 21 = .ok (.iconst 2, 1) := by decide +kernel
theorem dX11_byLaw_22 : decode cX11_byLaw 22 = .ok (.iaload, 1) := by decide +kernel
theorem dX11_byLaw_23 : decode cX11_byLaw 23 = .ok (.iadd, 1) := by decide +kernel
theorem dX11_byLaw_24 : decode cX11_byLaw 24 = .ok (.iastore, 1) := by decide +kernel
theorem dX11_byLaw_25 : decode cX11_byLaw 25 = .ok (.iconst 0, 1) := by decide +kernel
theorem dX11_byLaw_26 : decode cX11_byLaw 26 = .ok (.istore_n 2, 1) := by decide +kernel
theorem dX11_byLaw_27 : decode cX11_byLaw 27 = .ok (.iload_n 2, 1) := by decide +kernel
theorem dX11_byLaw_28 : decode cX11_byLaw 28 = .ok (.aload_n 0, 1) := by decide +kernel
theorem dX11_byLaw_29 : decode cX11_byLaw 29 = .ok (.getfield 190, 3) := by decide +kernel
theorem dX11_byLaw_32 : decode cX11_byLaw 32 = .ok (.if_icmp .ge 104, 3) := by decide +kernel
theorem dX11_byLaw_35 : decode cX11_byLaw 35 = .ok (.aload_n 0, 1) := by decide +kernel
theorem dX11_byLaw_36 : decode cX11_byLaw 36 = .ok (.getfield 52, 3) := by decide +kernel
theorem dX11_byLaw_39 : decode cX11_byLaw 39 = .ok (.iload_n 2, 1) := by decide +kernel
theorem dX11_byLaw_40 : decode cX11_byLaw 40 = .ok (.aaload, 1) := by decide +kernel
theorem dX11_byLaw_41 : decode cX11_byLaw 41 = .ok (.iconst 0, 1) := by decide +kernel
theorem dX11_byLaw_42 : decode cX11_byLaw 42 = .ok (.iaload, 1) := by decide +kernel
theorem dX11_byLaw_43 : decode cX11_byLaw 43 = .ok (.iconst 2, 1) := by decide +kernel
theorem dX11_byLaw_44 : decode cX11_byLaw 44 = .ok (.if_icmp .ge 50, 3) := by decide +kernel
theorem dX11_byLaw_47 : decode cX11_byLaw 47 = .ok (.aload_n 0, 1) := by decide +kernel
theorem dX11_byLaw_48 : decode cX11_byLaw 48 = .ok (.getfield 64, 3) := by decide +kernel
theorem dX11_byLaw_51 : decode cX11_byLaw 51 = .ok (.iload_n 1, 1) := by decide +kernel
theorem dX11_byLaw_52 : decode cX11_byLaw 52 = .ok (.aload_n 0, 1) := by decide +kernel
theorem dX11_byLaw_53 : decode cX11_byLaw 53 = .ok (.getfield 52, 3) := by decide +kernel
theorem dX11_byLaw_56 : decode cX11_byLaw 56 = .ok (.iload_n 2, 1) := by decide +kernel
theorem dX11_byLaw_57 : decode cX11_byLaw 57 = .ok (.aaload, 1) := by decide +kernel
theorem dX11_byLaw_58 : decode cX11_byLaw 58 = .ok (.iconst 0, 1) := by decide +kernel
theorem dX11_byLaw_59 : decode cX11_byLaw 59 = .ok (.iaload, 1) := by decide +kernel
theorem dX11_byLaw_60 : decode cX11_byLaw 60 = .ok (.ifCond .ne 14, 3) := by decide +kernel
theorem dX11_byLaw_63 : decode cX11_byLaw 63 = .ok (.aload_n 0, 1) := by decide +kernel
theorem dX11_byLaw_64 : decode cX11_byLaw 64 = .ok (.getfield 52, 3) := by decide +kernel
theorem dX11_byLaw_67 : decode cX11_byLaw 67 = .ok (.iload_n 2, 1) := by decide +kernel
theorem dX11_byLaw_68 : decode cX11_byLaw 68 = .ok (.aaload, 1) := by decide +kernel
theorem dX11_byLaw_69 : decode cX11_byLaw 69 = .ok (.iconst 1, 1) := by decide +kernel
theorem dX11_byLaw_70 : decode cX11_byLaw 70 = .ok (.iaload, 1) := by decide +kernel
theorem dX11_byLaw_71 : decode cX11_byLaw 71 = .ok (.goto 16, 3) := by decide +kernel
theorem dX11_byLaw_74 : decode cX11_byLaw 74 = .ok (.aload_n 0, 1) := by decide +kernel
theorem dX11_byLaw_75 : decode cX11_byLaw 75 = .ok (.getfield 67, 3) := by decide +kernel
theorem dX11_byLaw_78 : decode cX11_byLaw 78 = .ok (.aload_n 0, 1) := by decide +kernel
theorem dX11_byLaw_79 : decode cX11_byLaw 79 = .ok (.getfield 52, 3) := by decide +kernel
theorem dX11_byLaw_82 : decode cX11_byLaw 82 = .ok (.iload_n 2, 1) := by decide +kernel
theorem dX11_byLaw_83 : decode cX11_byLaw 83 = .ok (.aaload, 1) := by decide +kernel
theorem dX11_byLaw_84 : decode cX11_byLaw 84 = .ok (.iconst 1, 1) := by decide +kernel
theorem dX11_byLaw_85 : decode cX11_byLaw 85 = .ok (.iaload, 1) := by decide +kernel
theorem dX11_byLaw_86 : decode cX11_byLaw 86 = .ok (.iaload, 1) := by decide +kernel
theorem dX11_byLaw_87 : decode cX11_byLaw 87 = .ok (.iastore, 1) := by decide +kernel
theorem dX11_byLaw_88 : decode cX11_byLaw 88 = .ok (.iinc 1 1, 3) := by decide +kernel
theorem dX11_byLaw_91 : decode cX11_byLaw 91 = .ok (.goto 39, 3) := by decide +kernel
theorem dX11_byLaw_94 : decode cX11_byLaw 94 = .ok (.iinc 1 (-1), 3) := by decide +kernel
theorem dX11_byLaw_97 : decode cX11_byLaw 97 = .ok (.aload_n 0, 1) := by decide +kernel
theorem dX11_byLaw_98 : decode cX11_byLaw 98 = .ok (.getfield 64, 3) := by decide +kernel
theorem dX11_byLaw_101 : decode cX11_byLaw 101 = .ok (.iload_n 1, 1) := by decide +kernel
theorem dX11_byLaw_102 : decode cX11_byLaw 102 = .ok (.iconst 1, 1) := by decide +kernel
theorem dX11_byLaw_103 : decode cX11_byLaw 103 = .ok (.isub, 1) := by decide +kernel
theorem dX11_byLaw_104 : decode cX11_byLaw 104 = .ok (.aload_n 0, 1) := by decide +kernel
theorem dX11_byLaw_105 : decode cX11_byLaw 105 = .ok (.getfield 52, 3) := by decide +kernel
theorem dX11_byLaw_108 : decode cX11_byLaw 108 = .ok (.iload_n 2, 1) := by decide +kernel
theorem dX11_byLaw_109 : decode cX11_byLaw 109 = .ok (.aaload, 1) := by decide +kernel
theorem dX11_byLaw_110 : decode cX11_byLaw 110 = .ok (.iconst 0, 1) := by decide +kernel
theorem dX11_byLaw_111 : decode cX11_byLaw 111 = .ok (.iaload, 1) := by decide +kernel
theorem dX11_byLaw_112 : decode cX11_byLaw 112 = .ok (.aload_n 0, 1) := by decide +kernel
theorem dX11_byLaw_113 : decode cX11_byLaw 113 = .ok (.getfield 64, 3) := by decide +kernel
theorem dX11_byLaw_116 : decode cX11_byLaw 116 = .ok (.iload_n 1, 1) := by decide +kernel
theorem dX11_byLaw_117 : decode cX11_byLaw 117 = .ok (.iconst 1, 1) := by decide +kernel
theorem dX11_byLaw_118 : decode cX11_byLaw 118 = .ok (.isub, 1) := by decide +kernel
theorem dX11_byLaw_119 : decode cX11_byLaw 119 = .ok (.iaload, 1) := by decide +kernel
theorem dX11_byLaw_120 : decode cX11_byLaw 120 = .ok (.aload_n 0, 1) := by decide +kernel
theorem dX11_byLaw_121 : decode cX11_byLaw 121 = .ok (.getfield 64, 3) := by decide +kernel
theorem dX11_byLaw_124 : decode cX11_byLaw 124 = .ok (.iload_n 1, 1) := by decide +kernel
theorem dX11_byLaw_125 : decode cX11_byLaw 125 = .ok (.iaload, 1) := by decide +kernel
theorem dX11_byLaw_126 : decode cX11_byLaw 126 = .ok (.invokestatic 243, 3) := by decide +kernel
theorem dX11_byLaw_129 : decode cX11_byLaw 129 = .ok (.iastore, 1) := by decide +kernel
theorem dX11_byLaw_130 : decode cX11_byLaw 130 = .ok (.iinc 2 1, 3) := by decide +kernel
theorem dX11_byLaw_133 : decode cX11_byLaw 133 = .ok (.goto (-106), 3) := by decide +kernel
theorem dX11_byLaw_136 : decode cX11_byLaw 136 = .ok (.bipush 99, 2) := by decide +kernel
theorem dX11_byLaw_138 : decode cX11_byLaw 138 = .ok (.iconst 0, 1) := by decide +kernel
theorem dX11_byLaw_139 : decode cX11_byLaw 139 = .ok (.aload_n 0, 1) := by decide +kernel
theorem dX11_byLaw_140 : decode cX11_byLaw 140 = .ok (.getfield 64, 3) := by decide +kernel
theorem dX11_byLaw_143 : decode cX11_byLaw 143 = .ok (.iconst 0, 1) := by decide +kernel
theorem dX11_byLaw_144 : decode cX11_byLaw 144 = .ok (.iaload, 1) := by decide +kernel
theorem dX11_byLaw_145 : decode cX11_byLaw 145 = .ok (.invokestatic 240, 3) := by decide +kernel
theorem dX11_byLaw_148 : decode cX11_byLaw 148 = .ok (.invokestatic 237, 3) := by decide +kernel
theorem dX11_byLaw_151 : decode cX11_byLaw 151 = .ok (.ireturn, 1) := by decide +kernel
theorem dX11_stepHere_0 : decode cX11_stepHere 0 = .ok (.aload_n 0, 1) := by decide +kernel
theorem dX11_stepHere_1 : decode cX11_stepHere 1 = .ok (.iconst 2, 1) := by decide +kernel
theorem dX11_stepHere_2 : decode cX11_stepHere 2 = .ok (.bipush 21, 2) := by decide +kernel
theorem dX11_stepHere_4 : decode cX11_stepHere 4 = .ok (.bipush 25, 2) := by decide +kernel
theorem dX11_stepHere_6 : decode cX11_stepHere 6 = .ok (.iconst 0, 1) := by decide +kernel
theorem dX11_stepHere_7 : decode cX11_stepHere 7 = .ok (.iconst 0, 1) := by decide +kernel
theorem dX11_stepHere_8 : decode cX11_stepHere 8 = .ok (.iconst 0, 1) := by decide +kernel
theorem dX11_stepHere_9 : decode cX11_stepHere 9 = .ok (.invokevirtual 146, 3) := by decide +kernel
theorem dX11_stepHere_12 : decode cX11_stepHere 12 = .ok (.ifCond .eq 5, 3) := by decide +kernel
theorem dX11_stepHere_15 : decode cX11_stepHere 15 = .ok (.iconst 0, 1) := by decide +kernel
theorem dX11_stepHere_16 : decode cX11_stepHere 16 = .ok (.ireturn, 1) := by decide +kernel
theorem dX11_stepHere_17 : decode cX11_stepHere 17 = .ok (.aload_n 0, 1) := by decide +kernel
theorem dX11_stepHere_18 : decode cX11_stepHere 18 = .ok (.bipush 19, 2) := by decide +kernel
theorem dX11_stepHere_20 : decode cX11_stepHere 20 = .ok (.iconst 5, 1) := by decide +kernel
theorem dX11_stepHere_21 : decode cX11_stepHere 21 = .ok (.bipush 12, 2) := by decide +kernel
theorem dX11_stepHere_23 : decode cX11_stepHere 23 = .ok (.bipush 12, 2) := by decide +kernel
theorem dX11_stepHere_25 : decode cX11_stepHere 25 = .ok (.iconst 0, 1) := by decide +kernel
theorem dX11_stepHere_26 : decode cX11_stepHere 26 = .ok (.iconst 0, 1) := by decide +kernel
theorem dX11_stepHere_27 : decode cX11_stepHere 27 = .ok (.invokevirtual 146, 3) := by decide +kernel
theorem dX11_stepHere_30 : decode cX11_stepHere 30 = .ok (.ifCond .eq 5, 3) := by decide +kernel
theorem dX11_stepHere_33 : decode cX11_stepHere 33 = .ok (.iconst 1, 1) := by decide +kernel
theorem dX11_stepHere_34 : decode cX11_stepHere 34 = .ok (.ireturn, 1) := by decide +kernel
theorem dX11_stepHere_35 : decode cX11_stepHere 35 = .ok (.aload_n 0, 1) := by decide +kernel
theorem dX11_stepHere_36 : decode cX11_stepHere 36 = .ok (.bipush 12, 2) := by decide +kernel
theorem dX11_stepHere_38 : decode cX11_stepHere 38 = .ok (.iconst 1, 1) := by decide +kernel
theorem dX11_stepHere_39 : decode cX11_stepHere 39 = .ok (.bipush 20, 2) := by decide +kernel
theorem dX11_stepHere_41 : decode cX11_stepHere 41 = .ok (.iconst 5, 1) := by decide +kernel
theorem dX11_stepHere_42 : decode cX11_stepHere 42 = .ok (.bipush 18, 2) := by decide +kernel
theorem dX11_stepHere_44 : decode cX11_stepHere 44 = .ok (.iconst 0, 1) := by decide +kernel
theorem dX11_stepHere_45 : decode cX11_stepHere 45 = .ok (.invokevirtual 146, 3) := by decide +kernel
theorem dX11_stepHere_48 : decode cX11_stepHere 48 = .ok (.ifCond .eq 5, 3) := by decide +kernel
theorem dX11_stepHere_51 : decode cX11_stepHere 51 = .ok (.iconst 2, 1) := by decide +kernel
theorem dX11_stepHere_52 : decode cX11_stepHere 52 = .ok (.ireturn, 1) := by decide +kernel
theorem dX11_stepHere_53 : decode cX11_stepHere 53 = .ok (.aload_n 0, 1) := by decide +kernel
theorem dX11_stepHere_54 : decode cX11_stepHere 54 = .ok (.bipush 23, 2) := by decide +kernel
theorem dX11_stepHere_56 : decode cX11_stepHere 56 = .ok (.iconst 5, 1) := by decide +kernel
theorem dX11_stepHere_57 : decode cX11_stepHere 57 = .ok (.iconst 5, 1) := by decide +kernel
theorem dX11_stepHere_58 : decode cX11_stepHere 58 = .ok (.bipush 11, 2) := by decide +kernel
theorem dX11_stepHere_60 : decode cX11_stepHere 60 = .ok (.iconst 0, 1) := by decide +kernel
theorem dX11_stepHere_61 : decode cX11_stepHere 61 = .ok (.iconst 0, 1) := by decide +kernel
theorem dX11_stepHere_62 : decode cX11_stepHere 62 = .ok (.invokevirtual 146, 3) := by decide +kernel
theorem dX11_stepHere_65 : decode cX11_stepHere 65 = .ok (.ifCond .eq 5, 3) := by decide +kernel
theorem dX11_stepHere_68 : decode cX11_stepHere 68 = .ok (.iconst 3, 1) := by decide +kernel
theorem dX11_stepHere_69 : decode cX11_stepHere 69 = .ok (.ireturn, 1) := by decide +kernel
theorem dX11_stepHere_70 : decode cX11_stepHere 70 = .ok (.aload_n 0, 1) := by decide +kernel
theorem dX11_stepHere_71 : decode cX11_stepHere 71 = .ok (.iconst 1, 1) := by decide +kernel
theorem dX11_stepHere_72 : decode cX11_stepHere 72 = .ok (.bipush 7, 2) := by decide +kernel
theorem dX11_stepHere_74 : decode cX11_stepHere 74 = .ok (.iconst 1, 1) := by decide +kernel
theorem dX11_stepHere_75 : decode cX11_stepHere 75 = .ok (.bipush 9, 2) := by decide +kernel
theorem dX11_stepHere_77 : decode cX11_stepHere 77 = .ok (.bipush 14, 2) := by decide +kernel
theorem dX11_stepHere_79 : decode cX11_stepHere 79 = .ok (.iconst 0, 1) := by decide +kernel
theorem dX11_stepHere_80 : decode cX11_stepHere 80 = .ok (.invokevirtual 146, 3) := by decide +kernel
theorem dX11_stepHere_83 : decode cX11_stepHere 83 = .ok (.ifCond .eq 7, 3) := by decide +kernel
theorem dX11_stepHere_86 : decode cX11_stepHere 86 = .ok (.iconst 4, 1) := by decide +kernel
theorem dX11_stepHere_87 : decode cX11_stepHere 87 = .ok (.goto 4, 3) := by decide +kernel
theorem dX11_stepHere_90 : decode cX11_stepHere 90 = .ok (.iconst (-1), 1) := by decide +kernel
theorem dX11_stepHere_91 : decode cX11_stepHere 91 = .ok (.ireturn, 1) := by decide +kernel
theorem dX11_readsStep_0 : decode cX11_readsStep 0 = .ok (.aload_n 0, 1) := by decide +kernel
theorem dX11_readsStep_1 : decode cX11_readsStep 1 = .ok (.invokevirtual 246, 3) := by decide +kernel
theorem dX11_readsStep_4 : decode cX11_readsStep 4 = .ok (.istore_n 1, 1) := by decide +kernel
theorem dX11_readsStep_5 : decode cX11_readsStep 5 = .ok (.iload_n 1, 1) := by decide +kernel
theorem dX11_readsStep_6 : decode cX11_readsStep 6 = .ok (.iconst (-1), 1) := by decide +kernel
theorem dX11_readsStep_7 : decode cX11_readsStep 7 = .ok (.if_icmp .ne 12, 3) := by decide +kernel
theorem dX11_readsStep_10 : decode cX11_readsStep 10 = .ok (.aload_n 0, 1) := by decide +kernel
theorem dX11_readsStep_11 : decode cX11_readsStep 11 = .ok (.iconst 1, 1) := by decide +kernel
theorem dX11_readsStep_12 : decode cX11_readsStep 12 = .ok (.aload_n 0, 1) := by decide +kernel
theorem dX11_readsStep_13 : decode cX11_readsStep 13 = .ok (.getfield 106, 3) := by decide +kernel
theorem dX11_readsStep_16 : decode cX11_readsStep 16 = .ok (.invokevirtual 126, 3) := by decide +kernel
theorem dX11_readsStep_19 : decode cX11_readsStep 19 = .ok (.iload_n 1, 1) := by decide +kernel
theorem dX11_readsStep_20 : decode cX11_readsStep 20 = .ok (.iconst 4, 1) := by decide +kernel
theorem dX11_readsStep_21 : decode cX11_readsStep 21 = .ok (.if_icmp .ne 11, 3) := by decide +kernel
theorem dX11_readsStep_24 : decode cX11_readsStep 24 = .ok (.aload_n 0, 1) := by decide +kernel
theorem dX11_readsStep_25 : decode cX11_readsStep 25 = .ok (.invokevirtual 227, 3) := by decide +kernel
theorem dX11_readsStep_28 : decode cX11_readsStep 28 = .ok (.ifCond .ne 4, 3) := by decide +kernel
theorem dX11_readsStep_31 : decode cX11_readsStep 31 = .ok (.return_, 1) := by decide +kernel
theorem dX11_readsStep_32 : decode cX11_readsStep 32 = .ok (.aload_n 0, 1) := by decide +kernel
theorem dX11_readsStep_33 : decode cX11_readsStep 33 = .ok (.getfield 113, 3) := by decide +kernel
theorem dX11_readsStep_36 : decode cX11_readsStep 36 = .ok (.ifCond .eq 4, 3) := by decide +kernel
theorem dX11_readsStep_39 : decode cX11_readsStep 39 = .ok (.return_, 1) := by decide +kernel
theorem dX11_readsStep_40 : decode cX11_readsStep 40 = .ok (.aload_n 0, 1) := by decide +kernel
theorem dX11_readsStep_41 : decode cX11_readsStep 41 = .ok (.invokevirtual 150, 3) := by decide +kernel
theorem dX11_readsStep_44 : decode cX11_readsStep 44 = .ok (.aload_n 0, 1) := by decide +kernel
theorem dX11_readsStep_45 : decode cX11_readsStep 45 = .ok (.getfield 70, 3) := by decide +kernel
theorem dX11_readsStep_48 : decode cX11_readsStep 48 = .ok (.aload_n 0, 1) := by decide +kernel
theorem dX11_readsStep_49 : decode cX11_readsStep 49 = .ok (.getfield 249, 3) := by decide +kernel
theorem dX11_readsStep_52 : decode cX11_readsStep 52 = .ok (.aaload, 1) := by decide +kernel
theorem dX11_readsStep_53 : decode cX11_readsStep 53 = .ok (.astore_n 2, 1) := by decide +kernel
theorem dX11_readsStep_54 : decode cX11_readsStep 54 = .ok (.aload_n 0, 1) := by decide +kernel
theorem dX11_readsStep_55 : decode cX11_readsStep 55 = .ok (.dup, 1) := by decide +kernel
theorem dX11_readsStep_56 : decode cX11_readsStep 56 = .ok (.getfield 249, 3) := by decide +kernel
theorem dX11_readsStep_59 : decode cX11_readsStep 59 = .ok (.iconst 1, 1) := by decide +kernel
theorem dX11_readsStep_60 : decode cX11_readsStep 60 = .ok (.iadd, 1) := by decide +kernel
theorem dX11_readsStep_61 : decode cX11_readsStep 61 = .ok (.putfield 249, 3) := by decide +kernel
theorem dX11_readsStep_64 : decode cX11_readsStep 64 = .ok (.aload_n 2, 1) := by decide +kernel
theorem dX11_readsStep_65 : decode cX11_readsStep 65 = .ok (.iconst 0, 1) := by decide +kernel
theorem dX11_readsStep_66 : decode cX11_readsStep 66 = .ok (.iload_n 1, 1) := by decide +kernel
theorem dX11_readsStep_67 : decode cX11_readsStep 67 = .ok (.iastore, 1) := by decide +kernel
theorem dX11_readsStep_68 : decode cX11_readsStep 68 = .ok (.iload_n 1, 1) := by decide +kernel
theorem dX11_readsStep_69 : decode cX11_readsStep 69 = .ok (.iconst 2, 1) := by decide +kernel
theorem dX11_readsStep_70 : decode cX11_readsStep 70 = .ok (.if_icmp .ge 19, 3) := by decide +kernel
theorem dX11_readsStep_73 : decode cX11_readsStep 73 = .ok (.aload_n 2, 1) := by decide +kernel
theorem dX11_readsStep_74 : decode cX11_readsStep 74 = .ok (.iconst 1, 1) := by decide +kernel
theorem dX11_readsStep_75 : decode cX11_readsStep 75 = .ok (.aload_n 0, 1) := by decide +kernel
theorem dX11_readsStep_76 : decode cX11_readsStep 76 = .ok (.iconst 0, 1) := by decide +kernel
theorem dX11_readsStep_77 : decode cX11_readsStep 77 = .ok (.aload_n 0, 1) := by decide +kernel
theorem dX11_readsStep_78 : decode cX11_readsStep 78 = .ok (.getfield 23, 3) := by decide +kernel
theorem dX11_readsStep_81 : decode cX11_readsStep 81 = .ok (.iconst 0, 1) := by decide +kernel
theorem dX11_readsStep_82 : decode cX11_readsStep 82 = .ok (.iaload, 1) := by decide +kernel
theorem dX11_readsStep_83 : decode cX11_readsStep 83 = .ok (.iconst 1, 1) := by decide +kernel
theorem dX11_readsStep_84 : decode cX11_readsStep 84 = .ok (.isub, 1) := by decide +kernel
theorem dX11_readsStep_85 : decode cX11_readsStep 85 = .ok (.invokevirtual 165, 3) := by decide +kernel
theorem dX11_readsStep_88 : decode cX11_readsStep 88 = .ok (.iastore, 1) := by decide +kernel
theorem dX11_readsStep_89 : decode cX11_readsStep 89 = .ok (.iload_n 1, 1) := by decide +kernel
theorem dX11_readsStep_90 : decode cX11_readsStep 90 = .ok (.iconst 2, 1) := by decide +kernel
theorem dX11_readsStep_91 : decode cX11_readsStep 91 = .ok (.if_icmp .ne 19, 3) := by decide +kernel
theorem dX11_readsStep_94 : decode cX11_readsStep 94 = .ok (.aload_n 2, 1) := by decide +kernel
theorem dX11_readsStep_95 : decode cX11_readsStep 95 = .ok (.iconst 1, 1) := by decide +kernel
theorem dX11_readsStep_96 : decode cX11_readsStep 96 = .ok (.aload_n 0, 1) := by decide +kernel
theorem dX11_readsStep_97 : decode cX11_readsStep 97 = .ok (.iconst 0, 1) := by decide +kernel
theorem dX11_readsStep_98 : decode cX11_readsStep 98 = .ok (.aload_n 0, 1) := by decide +kernel
theorem dX11_readsStep_99 : decode cX11_readsStep 99 = .ok (.getfield 23, 3) := by decide +kernel
theorem dX11_readsStep_102 : decode cX11_readsStep 102 = .ok (.iconst 2, 1) := by decide +kernel
theorem dX11_readsStep_103 : decode cX11_readsStep 103 = .ok (.iaload, 1) := by decide +kernel
theorem dX11_readsStep_104 : decode cX11_readsStep 104 = .ok (.iconst 1, 1) := by decide +kernel
theorem dX11_readsStep_105 : decode cX11_readsStep 105 = .ok (.isub, 1) := by decide +kernel
theorem dX11_readsStep_106 : decode cX11_readsStep 106 = .ok (.invokevirtual 165, 3) := by decide +kernel
theorem dX11_readsStep_109 : decode cX11_readsStep 109 = .ok (.iastore, 1) := by decide +kernel
theorem dX11_readsStep_110 : decode cX11_readsStep 110 = .ok (.iload_n 1, 1) := by decide +kernel
theorem dX11_readsStep_111 : decode cX11_readsStep 111 = .ok (.iconst 4, 1) := by decide +kernel
theorem dX11_readsStep_112 : decode cX11_readsStep 112 = .ok (.if_icmp .ne 70, 3) := by decide +kernel
theorem dX11_readsStep_115 : decode cX11_readsStep 115 = .ok (.aload_n 2, 1) := by decide +kernel
theorem dX11_readsStep_116 : decode cX11_readsStep 116 = .ok (.iconst 1, 1) := by decide +kernel
theorem dX11_readsStep_117 : decode cX11_readsStep 117 = .ok (.aload_n 0, 1) := by decide +kernel
theorem dX11_readsStep_118 : decode cX11_readsStep 118 = .ok (.iconst 0, 1) := by decide +kernel
theorem dX11_readsStep_119 : decode cX11_readsStep 119 = .ok (.bipush 60, 2) := by decide +kernel
theorem dX11_readsStep_121 : decode cX11_readsStep 121 = .ok (.invokevirtual 165, 3) := by decide +kernel
theorem dX11_readsStep_124 : decode cX11_readsStep 124 = .ok (.iastore, 1) := by decide +kernel
theorem dX11_readsStep_125 : decode cX11_readsStep 125 = .ok (.aload_n 0, 1) := by decide +kernel
theorem dX11_readsStep_126 : decode cX11_readsStep 126 = .ok (.bipush 91, 2) := by decide +kernel
theorem dX11_readsStep_128 : decode cX11_readsStep 128 = .ok (.invokevirtual 169, 3) := by decide +kernel
theorem dX11_readsStep_131 : decode cX11_readsStep 131 = .ok (.aload_n 0, 1) := by decide +kernel
theorem dX11_readsStep_132 : decode cX11_readsStep 132 = .ok (.invokevirtual 119, 3) := by decide +kernel
theorem dX11_readsStep_135 : decode cX11_readsStep 135 = .ok (.aload_n 0, 1) := by decide +kernel
theorem dX11_readsStep_136 : decode cX11_readsStep 136 = .ok (.getfield 113, 3) := by decide +kernel
theorem dX11_readsStep_139 : decode cX11_readsStep 139 = .ok (.ifCond .ne 27, 3) := by decide +kernel
theorem dX11_readsStep_142 : decode cX11_readsStep 142 = .ok (.aload_n 0, 1) := by decide +kernel
theorem dX11_readsStep_143 : decode cX11_readsStep 143 = .ok (.aload_n 0, 1) := by decide +kernel
theorem dX11_readsStep_144 : decode cX11_readsStep 144 = .ok (.getfield 106, 3) := by decide +kernel
theorem dX11_readsStep_147 : decode cX11_readsStep 147 = .ok (.invokevirtual 109, 3) := by decide +kernel
theorem dX11_readsStep_150 : decode cX11_readsStep 150 = .ok (.bipush 93, 2) := by decide +kernel
theorem dX11_readsStep_152 : decode cX11_readsStep 152 = .ok (.if_icmp .eq 14, 3) := by decide +kernel
theorem dX11_readsStep_155 : decode cX11_readsStep 155 = .ok (.aload_n 0, 1) := by decide +kernel
theorem dX11_readsStep_156 : decode cX11_readsStep 156 = .ok (.invokevirtual 252, 3) := by decide +kernel
theorem dX11_readsStep_159 : decode cX11_readsStep 159 = .ok (.aload_n 0, 1) := by decide +kernel
theorem dX11_readsStep_160 : decode cX11_readsStep 160 = .ok (.invokevirtual 119, 3) := by decide +kernel
theorem dX11_readsStep_163 : decode cX11_readsStep 163 = .ok (.goto (-28), 3) := by decide +kernel
theorem dX11_readsStep_166 : decode cX11_readsStep 166 = .ok (.aload_n 0, 1) := by decide +kernel
theorem dX11_readsStep_167 : decode cX11_readsStep 167 = .ok (.bipush 93, 2) := by decide +kernel
theorem dX11_readsStep_169 : decode cX11_readsStep 169 = .ok (.invokevirtual 169, 3) := by decide +kernel
theorem dX11_readsStep_172 : decode cX11_readsStep 172 = .ok (.aload_n 0, 1) := by decide +kernel
theorem dX11_readsStep_173 : decode cX11_readsStep 173 = .ok (.dup, 1) := by decide +kernel
theorem dX11_readsStep_174 : decode cX11_readsStep 174 = .ok (.getfield 156, 3) := by decide +kernel
theorem dX11_readsStep_177 : decode cX11_readsStep 177 = .ok (.iconst 1, 1) := by decide +kernel
theorem dX11_readsStep_178 : decode cX11_readsStep 178 = .ok (.isub, 1) := by decide +kernel
theorem dX11_readsStep_179 : decode cX11_readsStep 179 = .ok (.putfield 156, 3) := by decide +kernel
theorem dX11_readsStep_182 : decode cX11_readsStep 182 = .ok (.aload_n 2, 1) := by decide +kernel
theorem dX11_readsStep_183 : decode cX11_readsStep 183 = .ok (.iconst 3, 1) := by decide +kernel
theorem dX11_readsStep_184 : decode cX11_readsStep 184 = .ok (.aload_n 0, 1) := by decide +kernel
theorem dX11_readsStep_185 : decode cX11_readsStep 185 = .ok (.getfield 249, 3) := by decide +kernel
theorem dX11_readsStep_188 : decode cX11_readsStep 188 = .ok (.iastore, 1) := by decide +kernel
theorem dX11_readsStep_189 : decode cX11_readsStep 189 = .ok (.aload_n 0, 1) := by decide +kernel
theorem dX11_readsStep_190 : decode cX11_readsStep 190 = .ok (.bipush 59, 2) := by decide +kernel
theorem dX11_readsStep_192 : decode cX11_readsStep 192 = .ok (.invokevirtual 169, 3) := by decide +kernel
theorem dX11_readsStep_195 : decode cX11_readsStep 195 = .ok (.return_, 1) := by decide +kernel
theorem dX11_book_0 : decode cX11_book 0 = .ok (.aload_n 0, 1) := by decide +kernel
theorem dX11_book_1 : decode cX11_book 1 = .ok (.iconst 0, 1) := by decide +kernel
theorem dX11_book_2 : decode cX11_book 2 = .ok (.putfield 97, 3) := by decide +kernel
theorem dX11_book_5 : decode cX11_book 5 = .ok (.aload_n 0, 1) := by decide +kernel
theorem dX11_book_6 : decode cX11_book 6 = .ok (.iload_n 1, 1) := by decide +kernel
theorem dX11_book_7 : decode cX11_book 7 = .ok (.iconst 0, 1) := by decide +kernel
theorem dX11_book_8 : decode cX11_book 8 = .ok (.aload_n 0, 1) := by decide +kernel
theorem dX11_book_9 : decode cX11_book 9 = .ok (.getfield 100, 3) := by decide +kernel
theorem dX11_book_12 : decode cX11_book 12 = .ok (.invokestatic 131, 3) := by decide +kernel
theorem dX11_book_15 : decode cX11_book 15 = .ok (.ifCond .eq 9, 3) := by decide +kernel
theorem dX11_book_18 : decode cX11_book 18 = .ok (.iload_n 1, 1) := by decide +kernel
theorem dX11_book_19 : decode cX11_book 19 = .ok (.bipush 60, 2) := by decide +kernel
theorem dX11_book_21 : decode cX11_book 21 = .ok (.if_icmp .le 7, 3) := by decide +kernel
theorem dX11_book_24 : decode cX11_book 24 = .ok (.iconst 1, 1) := by decide +kernel
theorem dX11_book_25 : decode cX11_book 25 = .ok (.goto 4, 3) := by decide +kernel
theorem dX11_book_28 : decode cX11_book 28 = .ok (.iconst 0, 1) := by decide +kernel
theorem dX11_book_29 : decode cX11_book 29 = .ok (.iconst 1, 1) := by decide +kernel
theorem dX11_book_30 : decode cX11_book 30 = .ok (.iconst 1, 1) := by decide +kernel
theorem dX11_book_31 : decode cX11_book 31 = .ok (.invokevirtual 173, 3) := by decide +kernel
theorem dX11_book_34 : decode cX11_book 34 = .ok (.ifCond .eq 5, 3) := by decide +kernel
theorem dX11_book_37 : decode cX11_book 37 = .ok (.iconst 0, 1) := by decide +kernel
theorem dX11_book_38 : decode cX11_book 38 = .ok (.ireturn, 1) := by decide +kernel
theorem dX11_book_39 : decode cX11_book 39 = .ok (.aload_n 0, 1) := by decide +kernel
theorem dX11_book_40 : decode cX11_book 40 = .ok (.iload_n 1, 1) := by decide +kernel
theorem dX11_book_41 : decode cX11_book 41 = .ok (.invokevirtual 177, 3) := by decide +kernel
theorem dX11_book_44 : decode cX11_book 44 = .ok (.iconst 0, 1) := by decide +kernel
theorem dX11_book_45 : decode cX11_book 45 = .ok (.istore_n 2, 1) := by decide +kernel
theorem dX11_book_46 : decode cX11_book 46 = .ok (.iconst 0, 1) := by decide +kernel
theorem dX11_book_47 : decode cX11_book 47 = .ok (.istore_n 3, 1) := by decide +kernel
theorem dX11_book_48 : decode cX11_book 48 = .ok (.aload_n 0, 1) := by decide +kernel
theorem dX11_book_49 : decode cX11_book 49 = .ok (.getfield 113, 3) := by decide +kernel
theorem dX11_book_52 : decode cX11_book 52 = .ok (.ifCond .ne 118, 3) := by decide +kernel
theorem dX11_book_55 : decode cX11_book 55 = .ok (.aload_n 0, 1) := by decide +kernel
theorem dX11_book_56 : decode cX11_book 56 = .ok (.getfield 106, 3) := by decide +kernel
theorem dX11_book_59 : decode cX11_book 59 = .ok (.aload_n 0, 1) := by decide +kernel
theorem dX11_book_60 : decode cX11_book 60 = .ok (.getfield 103, 3) := by decide +kernel
theorem dX11_book_63 : decode cX11_book 63 = .ok (.if_icmp .ge 107, 3) := by decide +kernel
theorem dX11_book_66 : decode cX11_book 66 = .ok (.aload_n 0, 1) := by decide +kernel
theorem dX11_book_67 : decode cX11_book 67 = .ok (.getfield 106, 3) := by decide +kernel
theorem dX11_book_70 : decode cX11_book 70 = .ok (.istore 4, 2) := by decide +kernel
theorem dX11_book_72 : decode cX11_book 72 = .ok (.aload_n 0, 1) := by decide +kernel
theorem dX11_book_73 : decode cX11_book 73 = .ok (.iconst 0, 1) := by decide +kernel
theorem dX11_book_74 : decode cX11_book 74 = .ok (.aload_n 0, 1) := by decide +kernel
theorem dX11_book_75 : decode cX11_book 75 = .ok (.getfield 23, 3) := by decide +kernel
theorem dX11_book_78 : decode cX11_book 78 = .ok (.iconst 0, 1) := by decide +kernel
theorem dX11_book_79 : decode cX11_book 79 = .ok (.iaload, 1) := by decide +kernel
theorem dX11_book_80 : decode cX11_book 80 = .ok (.iconst 1, 1) := by decide +kernel
theorem dX11_book_81 : decode cX11_book 81 = .ok (.isub, 1) := by decide +kernel
theorem dX11_book_82 : decode cX11_book 82 = .ok (.invokevirtual 165, 3) := by decide +kernel
theorem dX11_book_85 : decode cX11_book 85 = .ok (.istore 5, 2) := by decide +kernel
theorem dX11_book_87 : decode cX11_book 87 = .ok (.aload_n 0, 1) := by decide +kernel
theorem dX11_book_88 : decode cX11_book 88 = .ok (.getfield 113, 3) := by decide +kernel
theorem dX11_book_91 : decode cX11_book 91 = .ok (.ifCond .ne 19, 3) := by decide +kernel
theorem dX11_book_94 : decode cX11_book 94 = .ok (.iload_n 3, 1) := by decide +kernel
theorem dX11_book_95 : decode cX11_book 95 = .ok (.iload 5, 2) := by decide +kernel
theorem dX11_book_97 : decode cX11_book 97 = .ok (.invokestatic 255, 3) := by decide +kernel
theorem dX11_book_100 : decode cX11_book 100 = .ok (.ifCond .eq 10, 3) := by decide +kernel
theorem dX11_book_103 : decode cX11_book 103 = .ok (.aload_n 0, 1) := by decide +kernel
theorem dX11_book_104 : decode cX11_book 104 = .ok (.iconst 2, 1) := by decide +kernel
theorem dX11_book_105 : decode cX11_book 105 = .ok (.iload 4, 2) := by decide +kernel
theorem dX11_book_107 : decode cX11_book 107 = .ok (.invokevirtual 126, 3) := by decide +kernel
theorem dX11_book_110 : decode cX11_book 110 = .ok (.aload_n 0, 1) := by decide +kernel
theorem dX11_book_111 : decode cX11_book 111 = .ok (.iconst 0, 1) := by decide +kernel
theorem dX11_book_112 : decode cX11_book 112 = .ok (.sipush 140, 3) := by decide +kernel
theorem dX11_book_115 : decode cX11_book 115 = .ok (.invokevirtual 165, 3) := by decide +kernel
theorem dX11_book_118 : decode cX11_book 118 = .ok (.istore 6, 2) := by decide +kernel
theorem dX11_book_120 : decode cX11_book 120 = .ok (.aload_n 0, 1) := by decide +kernel
theorem dX11_book_121 : decode cX11_book 121 = .ok (.bipush 59, 2) := by decide +kernel
theorem dX11_book_123 : decode cX11_book 123 = .ok (.invokevirtual 169, 3) := by decide +kernel
theorem dX11_book_126 : decode cX11_book 126 = .ok (.aload_n 0, 1) := by decide +kernel
theorem dX11_book_127 : decode cX11_book 127 = .ok (.getfield 113, 3) := by decide +kernel
theorem dX11_book_130 : decode cX11_book 130 = .ok (.ifCond .ne 33, 3) := by decide +kernel
theorem dX11_book_133 : decode cX11_book 133 = .ok (.iload_n 3, 1) := by decide +kernel
theorem dX11_book_134 : decode cX11_book 134 = .ok (.iconst 1, 1) := by decide +kernel
theorem dX11_book_135 : decode cX11_book 135 = .ok (.iload 5, 2) := by decide +kernel
theorem dX11_book_137 : decode cX11_book 137 = .ok (.ishl, 1) := by decide +kernel
theorem dX11_book_138 : decode cX11_book 138 = .ok (.ior, 1) := by decide +kernel
theorem dX11_book_139 : decode cX11_book 139 = .ok (.istore_n 3, 1) := by decide +kernel
theorem dX11_book_140 : decode cX11_book 140 = .ok (.aload_n 0, 1) := by decide +kernel
theorem dX11_book_141 : decode cX11_book 141 = .ok (.getfield 61, 3) := by decide +kernel
theorem dX11_book_144 : decode cX11_book 144 = .ok (.iload_n 2, 1) := by decide +kernel
theorem dX11_book_145 : decode cX11_book 145 = .ok (.aaload, 1) := by decide +kernel
theorem dX11_book_146 : decode cX11_book 146 = .ok (.iconst 0, 1) := by decide +kernel
theorem dX11_book_147 : decode cX11_book 147 = .ok (.iload 5, 2) := by decide +kernel
theorem dX11_book_149 : decode cX11_book 149 = .ok (.iastore, 1) := by decide +kernel
theorem dX11_book_150 : decode cX11_book 150 = .ok (.aload_n 0, 1) := by decide +kernel
theorem dX11_book_151 : decode cX11_book 151 = .ok (.getfield 61, 3) := by decide +kernel
theorem dX11_book_154 : decode cX11_book 154 = .ok (.iload_n 2, 1) := by decide +kernel
theorem dX11_book_155 : decode cX11_book 155 = .ok (.aaload, 1) := by decide +kernel
theorem dX11_book_156 : decode cX11_book 156 = .ok (.iconst 1, 1) := by decide +kernel
theorem dX11_book_157 : decode cX11_book 157 = .ok (.iload 6, 2) := by decide +kernel
theorem dX11_book_159 : decode cX11_book 159 = .ok (.iastore, 1) := by decide +kernel
theorem dX11_book_160 : decode cX11_book 160 = .ok (.iinc 2 1, 3) := by decide +kernel
theorem dX11_book_163 : decode cX11_book 163 = .ok (.aload_n 0, 1) := by decide +kernel
theorem dX11_book_164 : decode cX11_book 164 = .ok (.invokevirtual 119, 3) := by decide +kernel
theorem dX11_book_167 : decode cX11_book 167 = .ok (.goto (-119), 3) := by decide +kernel
theorem dX11_book_170 : decode cX11_book 170 = .ok (.aload_n 0, 1) := by decide +kernel
theorem dX11_book_171 : decode cX11_book 171 = .ok (.getfield 113, 3) := by decide +kernel
theorem dX11_book_174 : decode cX11_book 174 = .ok (.ifCond .eq 8, 3) := by decide +kernel
theorem dX11_book_177 : decode cX11_book 177 = .ok (.aload_n 0, 1) := by decide +kernel
theorem dX11_book_178 : decode cX11_book 178 = .ok (.invokevirtual 183, 3) := by decide +kernel
theorem dX11_book_181 : decode cX11_book 181 = .ok (.ireturn, 1) := by decide +kernel
theorem dX11_book_182 : decode cX11_book 182 = .ok (.aload_n 0, 1) := by decide +kernel
theorem dX11_book_183 : decode cX11_book 183 = .ok (.iconst (-1), 1) := by decide +kernel
theorem dX11_book_184 : decode cX11_book 184 = .ok (.putfield 9, 3) := by decide +kernel
theorem dX11_book_187 : decode cX11_book 187 = .ok (.aload_n 0, 1) := by decide +kernel
theorem dX11_book_188 : decode cX11_book 188 = .ok (.iload_n 2, 1) := by decide +kernel
theorem dX11_book_189 : decode cX11_book 189 = .ok (.putfield 193, 3) := by decide +kernel
theorem dX11_book_192 : decode cX11_book 192 = .ok (.aload_n 0, 1) := by decide +kernel
theorem dX11_book_193 : decode cX11_book 193 = .ok (.getfield 61, 3) := by decide +kernel
theorem dX11_book_196 : decode cX11_book 196 = .ok (.aload_n 0, 1) := by decide +kernel
theorem dX11_book_197 : decode cX11_book 197 = .ok (.getfield 58, 3) := by decide +kernel
theorem dX11_book_200 : decode cX11_book 200 = .ok (.iload_n 2, 1) := by decide +kernel
theorem dX11_book_201 : decode cX11_book 201 = .ok (.invokestatic 186, 3) := by decide +kernel
theorem dX11_book_204 : decode cX11_book 204 = .ok (.iload_n 2, 1) := by decide +kernel
theorem dX11_book_205 : decode cX11_book 205 = .ok (.ireturn, 1) := by decide +kernel
theorem dX11_fault_0 : decode cX11_fault 0 = .ok (.aload_n 0, 1) := by decide +kernel
theorem dX11_fault_1 : decode cX11_fault 1 = .ok (.iconst 0, 1) := by decide +kernel
theorem dX11_fault_2 : decode cX11_fault 2 = .ok (.putfield 97, 3) := by decide +kernel
theorem dX11_fault_5 : decode cX11_fault 5 = .ok (.aload_n 0, 1) := by decide +kernel
theorem dX11_fault_6 : decode cX11_fault 6 = .ok (.getfield 9, 3) := by decide +kernel
theorem dX11_fault_9 : decode cX11_fault 9 = .ok (.ireturn, 1) := by decide +kernel
theorem dX11_isSold_0 : decode cX11_isSold 0 = .ok (.aload_n 0, 1) := by decide +kernel
theorem dX11_isSold_1 : decode cX11_isSold 1 = .ok (.bipush 18, 2) := by decide +kernel
theorem dX11_isSold_3 : decode cX11_isSold 3 = .ok (.iload_n 1, 1) := by decide +kernel
theorem dX11_isSold_4 : decode cX11_isSold 4 = .ok (.iadd, 1) := by decide +kernel
theorem dX11_isSold_5 : decode cX11_isSold 5 = .ok (.iaload, 1) := by decide +kernel
theorem dX11_isSold_6 : decode cX11_isSold 6 = .ok (.iconst (-1), 1) := by decide +kernel
theorem dX11_isSold_7 : decode cX11_isSold 7 = .ok (.if_icmp .eq 7, 3) := by decide +kernel
theorem dX11_isSold_10 : decode cX11_isSold 10 = .ok (.iconst 1, 1) := by decide +kernel
theorem dX11_isSold_11 : decode cX11_isSold 11 = .ok (.goto 4, 3) := by decide +kernel
theorem dX11_isSold_14 : decode cX11_isSold 14 = .ok (.iconst 0, 1) := by decide +kernel
theorem dX11_isSold_15 : decode cX11_isSold 15 = .ok (.ireturn, 1) := by decide +kernel
theorem dX11_isToday_0 : decode cX11_isToday 0 = .ok (.aload_n 1, 1) := by decide +kernel
theorem dX11_isToday_1 : decode cX11_isToday 1 = .ok (.bipush 42, 2) := by decide +kernel
theorem dX11_isToday_3 : decode cX11_isToday 3 = .ok (.iload_n 2, 1) := by decide +kernel
theorem dX11_isToday_4 : decode cX11_isToday 4 = .ok (.iadd, 1) := by decide +kernel
theorem dX11_isToday_5 : decode cX11_isToday 5 = .ok (.iaload, 1) := by decide +kernel
theorem dX11_isToday_6 : decode cX11_isToday 6 = .ok (.ifCond .ne 20, 3) := by decide +kernel
theorem dX11_isToday_9 : decode cX11_isToday 9 = .ok (.aload_n 1, 1) := by decide +kernel
theorem dX11_isToday_10 : decode cX11_isToday 10 = .ok (.bipush 30, 2) := by decide +kernel
theorem dX11_isToday_12 : decode cX11_isToday 12 = .ok (.iload_n 2, 1) := by decide +kernel
theorem dX11_isToday_13 : decode cX11_isToday 13 = .ok (.iadd, 1) := by decide +kernel
theorem dX11_isToday_14 : decode cX11_isToday 14 = .ok (.iaload, 1) := by decide +kernel
theorem dX11_isToday_15 : decode cX11_isToday 15 = .ok (.aload_n 1, 1) := by decide +kernel
theorem dX11_isToday_16 : decode cX11_isToday 16 = .ok (.bipush 55, 2) := by decide +kernel
theorem dX11_isToday_18 : decode cX11_isToday 18 = .ok (.iaload, 1) := by decide +kernel
theorem dX11_isToday_19 : decode cX11_isToday 19 = .ok (.if_icmp .ne 7, 3) := by decide +kernel
theorem dX11_isToday_22 : decode cX11_isToday 22 = .ok (.iconst 1, 1) := by decide +kernel
theorem dX11_isToday_23 : decode cX11_isToday 23 = .ok (.goto 4, 3) := by decide +kernel
theorem dX11_isToday_26 : decode cX11_isToday 26 = .ok (.iconst 0, 1) := by decide +kernel
theorem dX11_isToday_27 : decode cX11_isToday 27 = .ok (.ireturn, 1) := by decide +kernel
theorem dX11_priceBy_0 : decode cX11_priceBy 0 = .ok (.aload_n 0, 1) := by decide +kernel
theorem dX11_priceBy_1 : decode cX11_priceBy 1 = .ok (.getfield 67, 3) := by decide +kernel
theorem dX11_priceBy_4 : decode cX11_priceBy 4 = .ok (.iconst 0, 1) := by decide +kernel
theorem dX11_priceBy_5 : decode cX11_priceBy 5 = .ok (.iload_n 1, 1) := by decide +kernel
theorem dX11_priceBy_6 : decode cX11_priceBy 6 = .ok (.iastore, 1) := by decide +kernel
theorem dX11_priceBy_7 : decode cX11_priceBy 7 = .ok (.aload_n 0, 1) := by decide +kernel
theorem dX11_priceBy_8 : decode cX11_priceBy 8 = .ok (.getfield 67, 3) := by decide +kernel
theorem dX11_priceBy_11 : decode cX11_priceBy 11 = .ok (.iconst 1, 1) := by decide +kernel
theorem dX11_priceBy_12 : decode cX11_priceBy 12 = .ok (.iload_n 2, 1) := by decide +kernel
theorem dX11_priceBy_13 : decode cX11_priceBy 13 = .ok (.iastore, 1) := by decide +kernel
theorem dX11_priceBy_14 : decode cX11_priceBy 14 = .ok (.aload_n 0, 1) := by decide +kernel
theorem dX11_priceBy_15 : decode cX11_priceBy 15 = .ok (.getfield 67, 3) := by decide +kernel
theorem dX11_priceBy_18 : decode cX11_priceBy 18 = .ok (.iconst 2, 1) := by decide +kernel
theorem dX11_priceBy_19 : decode cX11_priceBy 19 = .ok (.iload_n 3, 1) := by decide +kernel
theorem dX11_priceBy_20 : decode cX11_priceBy 20 = .ok (.iastore, 1) := by decide +kernel
theorem dX11_priceBy_21 : decode cX11_priceBy 21 = .ok (.aload_n 0, 1) := by decide +kernel
theorem dX11_priceBy_22 : decode cX11_priceBy 22 = .ok (.getfield 67, 3) := by decide +kernel
theorem dX11_priceBy_25 : decode cX11_priceBy 25 = .ok (.iconst 3, 1) := by decide +kernel
theorem dX11_priceBy_26 : decode cX11_priceBy 26 = .ok (.iload 4, 2) := by decide +kernel
theorem dX11_priceBy_28 : decode cX11_priceBy 28 = .ok (.iastore, 1) := by decide +kernel
theorem dX11_priceBy_29 : decode cX11_priceBy 29 = .ok (.aload_n 0, 1) := by decide +kernel
theorem dX11_priceBy_30 : decode cX11_priceBy 30 = .ok (.getfield 67, 3) := by decide +kernel
theorem dX11_priceBy_33 : decode cX11_priceBy 33 = .ok (.iconst 4, 1) := by decide +kernel
theorem dX11_priceBy_34 : decode cX11_priceBy 34 = .ok (.iload 5, 2) := by decide +kernel
theorem dX11_priceBy_36 : decode cX11_priceBy 36 = .ok (.iastore, 1) := by decide +kernel
theorem dX11_priceBy_37 : decode cX11_priceBy 37 = .ok (.aload_n 0, 1) := by decide +kernel
theorem dX11_priceBy_38 : decode cX11_priceBy 38 = .ok (.getfield 67, 3) := by decide +kernel
theorem dX11_priceBy_41 : decode cX11_priceBy 41 = .ok (.iconst 5, 1) := by decide +kernel
theorem dX11_priceBy_42 : decode cX11_priceBy 42 = .ok (.iload 6, 2) := by decide +kernel
theorem dX11_priceBy_44 : decode cX11_priceBy 44 = .ok (.iastore, 1) := by decide +kernel
theorem dX11_priceBy_45 : decode cX11_priceBy 45 = .ok (.aload_n 0, 1) := by decide +kernel
theorem dX11_priceBy_46 : decode cX11_priceBy 46 = .ok (.getfield 67, 3) := by decide +kernel
theorem dX11_priceBy_49 : decode cX11_priceBy 49 = .ok (.bipush 6, 2) := by decide +kernel
theorem dX11_priceBy_51 : decode cX11_priceBy 51 = .ok (.iload 7, 2) := by decide +kernel
theorem dX11_priceBy_53 : decode cX11_priceBy 53 = .ok (.iastore, 1) := by decide +kernel
theorem dX11_priceBy_54 : decode cX11_priceBy 54 = .ok (.aload_n 0, 1) := by decide +kernel
theorem dX11_priceBy_55 : decode cX11_priceBy 55 = .ok (.getfield 67, 3) := by decide +kernel
theorem dX11_priceBy_58 : decode cX11_priceBy 58 = .ok (.bipush 7, 2) := by decide +kernel
theorem dX11_priceBy_60 : decode cX11_priceBy 60 = .ok (.iload 8, 2) := by decide +kernel
theorem dX11_priceBy_62 : decode cX11_priceBy 62 = .ok (.iastore, 1) := by decide +kernel
theorem dX11_priceBy_63 : decode cX11_priceBy 63 = .ok (.aload_n 0, 1) := by decide +kernel
theorem dX11_priceBy_64 : decode cX11_priceBy 64 = .ok (.invokevirtual 258, 3) := by decide +kernel
theorem dX11_priceBy_67 : decode cX11_priceBy 67 = .ok (.ireturn, 1) := by decide +kernel
theorem dX11_ones_0 : decode cX11_ones 0 = .ok (.iconst 0, 1) := by decide +kernel
theorem dX11_ones_1 : decode cX11_ones 1 = .ok (.istore_n 1, 1) := by decide +kernel
theorem dX11_ones_2 : decode cX11_ones 2 = .ok (.iconst 0, 1) := by decide +kernel
theorem dX11_ones_3 : decode cX11_ones 3 = .ok (.istore_n 2, 1) := by decide +kernel
theorem dX11_ones_4 : decode cX11_ones 4 = .ok (.iload_n 2, 1) := by decide +kernel
theorem dX11_ones_5 : decode cX11_ones 5 = .ok (.bipush 16, 2) := by decide +kernel
theorem dX11_ones_7 : decode cX11_ones 7 = .ok (.if_icmp .ge 17, 3) := by decide +kernel
theorem dX11_ones_10 : decode cX11_ones 10 = .ok (.iload_n 1, 1) := by decide +kernel
theorem dX11_ones_11 : decode cX11_ones 11 = .ok (.iload_n 0, 1) := by decide +kernel
theorem dX11_ones_12 : decode cX11_ones 12 = .ok (.iload_n 2, 1) := by decide +kernel
theorem dX11_ones_13 : decode cX11_ones 13 = .ok (.ishr, 1) := by decide +kernel
theorem dX11_ones_14 : decode cX11_ones 14 = .ok (.iconst 1, 1) := by decide +kernel
theorem dX11_ones_15 : decode cX11_ones 15 = .ok (.iand, 1) := by decide +kernel
theorem dX11_ones_16 : decode cX11_ones 16 = .ok (.iadd, 1) := by decide +kernel
theorem dX11_ones_17 : decode cX11_ones 17 = .ok (.istore_n 1, 1) := by decide +kernel
theorem dX11_ones_18 : decode cX11_ones 18 = .ok (.iinc 2 1, 3) := by decide +kernel
theorem dX11_ones_21 : decode cX11_ones 21 = .ok (.goto (-17), 3) := by decide +kernel
theorem dX11_ones_24 : decode cX11_ones 24 = .ok (.iload_n 1, 1) := by decide +kernel
theorem dX11_ones_25 : decode cX11_ones 25 = .ok (.ireturn, 1) := by decide +kernel
theorem dX11_doneByOthers_0 : decode cX11_doneByOthers 0 = .ok (.iconst 0, 1) := by decide +kernel
theorem dX11_doneByOthers_1 : decode cX11_doneByOthers 1 = .ok (.istore_n 3, 1) := by decide +kernel
theorem dX11_doneByOthers_2 : decode cX11_doneByOthers 2 = .ok (.iconst 0, 1) := by decide +kernel
theorem dX11_doneByOthers_3 : decode cX11_doneByOthers 3 = .ok (.istore 4, 2) := by decide +kernel
theorem dX11_doneByOthers_5 : decode cX11_doneByOthers 5 = .ok (.iload 4, 2) := by decide +kernel
theorem dX11_doneByOthers_7 : decode cX11_doneByOthers 7 = .ok (.aload_n 0, 1) := by decide +kernel
theorem dX11_doneByOthers_8 : decode cX11_doneByOthers 8 = .ok (.getfield 23, 3) := by decide +kernel
theorem dX11_doneByOthers_11 : decode cX11_doneByOthers 11 = .ok (.iconst 0, 1) := by decide +kernel
theorem dX11_doneByOthers_12 : decode cX11_doneByOthers 12 = .ok (.iaload, 1) := by decide +kernel
theorem dX11_doneByOthers_13 : decode cX11_doneByOthers 13 = .ok (.if_icmp .ge 38, 3) := by decide +kernel
theorem dX11_doneByOthers_16 : decode cX11_doneByOthers 16 = .ok (.iload_n 3, 1) := by decide +kernel
theorem dX11_doneByOthers_17 : decode cX11_doneByOthers 17 = .ok (.iload 4, 2) := by decide +kernel
theorem dX11_doneByOthers_19 : decode cX11_doneByOthers 19 = .ok (.iload_n 2, 1) := by decide +kernel
theorem dX11_doneByOthers_20 : decode cX11_doneByOthers 20 = .ok (.if_icmp .eq 22, 3) := by decide +kernel
theorem dX11_doneByOthers_23 : decode cX11_doneByOthers 23 = .ok (.aload_n 1, 1) := by decide +kernel
theorem dX11_doneByOthers_24 : decode cX11_doneByOthers 24 = .ok (.iload 4, 2) := by decide +kernel
theorem dX11_doneByOthers_26 : decode cX11_doneByOthers 26 = .ok (.invokestatic 261, 3) := by decide +kernel
theorem dX11_doneByOthers_29 : decode cX11_doneByOthers 29 = .ok (.ifCond .ne 13, 3) := by decide +kernel
theorem dX11_doneByOthers_32 : decode cX11_doneByOthers 32 = .ok (.aload_n 0, 1) := by decide +kernel
theorem dX11_doneByOthers_33 : decode cX11_doneByOthers 33 = .ok (.getfield 35, 3) := by decide +kernel
theorem dX11_doneByOthers_36 : decode cX11_doneByOthers 36 = .ok (.iload 4, 2) := by decide +kernel
theorem dX11_doneByOthers_38 : decode cX11_doneByOthers 38 = .ok (.iaload, 1) := by decide +kernel
theorem dX11_doneByOthers_39 : decode cX11_doneByOthers 39 = .ok (.goto 4, 3) := by decide +kernel
theorem dX11_doneByOthers_42 : decode cX11_doneByOthers 42 = .ok (.iconst 0, 1) := by decide +kernel
theorem dX11_doneByOthers_43 : decode cX11_doneByOthers 43 = .ok (.ior, 1) := by decide +kernel
theorem dX11_doneByOthers_44 : decode cX11_doneByOthers 44 = .ok (.istore_n 3, 1) := by decide +kernel
theorem dX11_doneByOthers_45 : decode cX11_doneByOthers 45 = .ok (.iinc 4 1, 3) := by decide +kernel
theorem dX11_doneByOthers_48 : decode cX11_doneByOthers 48 = .ok (.goto (-43), 3) := by decide +kernel
theorem dX11_doneByOthers_51 : decode cX11_doneByOthers 51 = .ok (.iload_n 3, 1) := by decide +kernel
theorem dX11_doneByOthers_52 : decode cX11_doneByOthers 52 = .ok (.ireturn, 1) := by decide +kernel
theorem dX11_priceOf_0 : decode cX11_priceOf 0 = .ok (.iconst 0, 1) := by decide +kernel
theorem dX11_priceOf_1 : decode cX11_priceOf 1 = .ok (.istore_n 3, 1) := by decide +kernel
theorem dX11_priceOf_2 : decode cX11_priceOf 2 = .ok (.iconst 0, 1) := by decide +kernel
theorem dX11_priceOf_3 : decode cX11_priceOf 3 = .ok (.istore 4, 2) := by decide +kernel
theorem dX11_priceOf_5 : decode cX11_priceOf 5 = .ok (.iconst 0, 1) := by decide +kernel
theorem dX11_priceOf_6 : decode cX11_priceOf 6 = .ok (.istore 5, 2) := by decide +kernel
theorem dX11_priceOf_8 : decode cX11_priceOf 8 = .ok (.iload 5, 2) := by decide +kernel
theorem dX11_priceOf_10 : decode cX11_priceOf 10 = .ok (.aload_n 0, 1) := by decide +kernel
theorem dX11_priceOf_11 : decode cX11_priceOf 11 = .ok (.getfield 23, 3) := by decide +kernel
theorem dX11_priceOf_14 : decode cX11_priceOf 14 = .ok (.iconst 0, 1) := by decide +kernel
theorem dX11_priceOf_15 : decode cX11_priceOf 15 = .ok (.iaload, 1) := by decide +kernel
theorem dX11_priceOf_16 : decode cX11_priceOf 16 = .ok (.if_icmp .ge 32, 3) := by decide +kernel
theorem dX11_priceOf_19 : decode cX11_priceOf 19 = .ok (.iload_n 3, 1) := by decide +kernel
theorem dX11_priceOf_20 : decode cX11_priceOf 20 = .ok (.iload 5, 2) := by decide +kernel
theorem dX11_priceOf_22 : decode cX11_priceOf 22 = .ok (.iload_n 2, 1) := by decide +kernel
theorem dX11_priceOf_23 : decode cX11_priceOf 23 = .ok (.if_icmp .eq 16, 3) := by decide +kernel
theorem dX11_priceOf_26 : decode cX11_priceOf 26 = .ok (.aload_n 1, 1) := by decide +kernel
theorem dX11_priceOf_27 : decode cX11_priceOf 27 = .ok (.iload 5, 2) := by decide +kernel
theorem dX11_priceOf_29 : decode cX11_priceOf 29 = .ok (.invokestatic 261, 3) := by decide +kernel
theorem dX11_priceOf_32 : decode cX11_priceOf 32 = .ok (.ifCond .eq 7, 3) := by decide +kernel
theorem dX11_priceOf_35 : decode cX11_priceOf 35 = .ok (.iconst 1, 1) := by decide +kernel
theorem dX11_priceOf_36 : decode cX11_priceOf 36 = .ok (.goto 4, 3) := by decide +kernel
theorem dX11_priceOf_39 : decode cX11_priceOf 39 = .ok (.iconst 0, 1) := by decide +kernel
theorem dX11_priceOf_40 : decode cX11_priceOf 40 = .ok (.iadd, 1) := by decide +kernel
theorem dX11_priceOf_41 : decode cX11_priceOf 41 = .ok (.istore_n 3, 1) := by decide +kernel
theorem dX11_priceOf_42 : decode cX11_priceOf 42 = .ok (.iinc 5 1, 3) := by decide +kernel
theorem dX11_priceOf_45 : decode cX11_priceOf 45 = .ok (.goto (-37), 3) := by decide +kernel
theorem dX11_priceOf_48 : decode cX11_priceOf 48 = .ok (.iconst 0, 1) := by decide +kernel
theorem dX11_priceOf_49 : decode cX11_priceOf 49 = .ok (.istore 5, 2) := by decide +kernel
theorem dX11_priceOf_51 : decode cX11_priceOf 51 = .ok (.iload 5, 2) := by decide +kernel
theorem dX11_priceOf_53 : decode cX11_priceOf 53 = .ok (.aload_n 0, 1) := by decide +kernel
theorem dX11_priceOf_54 : decode cX11_priceOf 54 = .ok (.getfield 23, 3) := by decide +kernel
theorem dX11_priceOf_57 : decode cX11_priceOf 57 = .ok (.iconst 2, 1) := by decide +kernel
theorem dX11_priceOf_58 : decode cX11_priceOf 58 = .ok (.iaload, 1) := by decide +kernel
theorem dX11_priceOf_59 : decode cX11_priceOf 59 = .ok (.if_icmp .ge 42, 3) := by decide +kernel
theorem dX11_priceOf_62 : decode cX11_priceOf 62 = .ok (.iload 4, 2) := by decide +kernel
theorem dX11_priceOf_64 : decode cX11_priceOf 64 = .ok (.aload_n 0, 1) := by decide +kernel
theorem dX11_priceOf_65 : decode cX11_priceOf 65 = .ok (.getfield 49, 3) := by decide +kernel
theorem dX11_priceOf_68 : decode cX11_priceOf 68 = .ok (.iload 5, 2) := by decide +kernel
theorem dX11_priceOf_70 : decode cX11_priceOf 70 = .ok (.aaload, 1) := by decide +kernel
theorem dX11_priceOf_71 : decode cX11_priceOf 71 = .ok (.iconst 0, 1) := by decide +kernel
theorem dX11_priceOf_72 : decode cX11_priceOf 72 = .ok (.iaload, 1) := by decide +kernel
theorem dX11_priceOf_73 : decode cX11_priceOf 73 = .ok (.iload_n 2, 1) := by decide +kernel
theorem dX11_priceOf_74 : decode cX11_priceOf 74 = .ok (.if_icmp .ne 17, 3) := by decide +kernel
theorem dX11_priceOf_77 : decode cX11_priceOf 77 = .ok (.aload_n 0, 1) := by decide +kernel
theorem dX11_priceOf_78 : decode cX11_priceOf 78 = .ok (.aload_n 1, 1) := by decide +kernel
theorem dX11_priceOf_79 : decode cX11_priceOf 79 = .ok (.iload 5, 2) := by decide +kernel
theorem dX11_priceOf_81 : decode cX11_priceOf 81 = .ok (.invokevirtual 265, 3) := by decide +kernel
theorem dX11_priceOf_84 : decode cX11_priceOf 84 = .ok (.ifCond .eq 7, 3) := by decide +kernel
theorem dX11_priceOf_87 : decode cX11_priceOf 87 = .ok (.iconst 1, 1) := by decide +kernel
theorem dX11_priceOf_88 : decode cX11_priceOf 88 = .ok (.goto 4, 3) := by decide +kernel
theorem dX11_priceOf_91 : decode cX11_priceOf 91 = .ok (.iconst 0, 1) := by decide +kernel
theorem dX11_priceOf_92 : decode cX11_priceOf 92 = .ok (.iadd, 1) := by decide +kernel
theorem dX11_priceOf_93 : decode cX11_priceOf 93 = .ok (.istore 4, 2) := by decide +kernel
theorem dX11_priceOf_95 : decode cX11_priceOf 95 = .ok (.iinc 5 1, 3) := by decide +kernel
theorem dX11_priceOf_98 : decode cX11_priceOf 98 = .ok (.goto (-47), 3) := by decide +kernel
theorem dX11_priceOf_101 : decode cX11_priceOf 101 = .ok (.aload_n 0, 1) := by decide +kernel
theorem dX11_priceOf_102 : decode cX11_priceOf 102 = .ok (.aload_n 1, 1) := by decide +kernel
theorem dX11_priceOf_103 : decode cX11_priceOf 103 = .ok (.bipush 55, 2) := by decide +kernel
theorem dX11_priceOf_105 : decode cX11_priceOf 105 = .ok (.iaload, 1) := by decide +kernel
theorem dX11_priceOf_106 : decode cX11_priceOf 106 = .ok (.iload_n 3, 1) := by decide +kernel
theorem dX11_priceOf_107 : decode cX11_priceOf 107 = .ok (.aload_n 1, 1) := by decide +kernel
theorem dX11_priceOf_108 : decode cX11_priceOf 108 = .ok (.bipush 12, 2) := by decide +kernel
theorem dX11_priceOf_110 : decode cX11_priceOf 110 = .ok (.iload_n 2, 1) := by decide +kernel
theorem dX11_priceOf_111 : decode cX11_priceOf 111 = .ok (.iadd, 1) := by decide +kernel
theorem dX11_priceOf_112 : decode cX11_priceOf 112 = .ok (.iaload, 1) := by decide +kernel
theorem dX11_priceOf_113 : decode cX11_priceOf 113 = .ok (.aload_n 1, 1) := by decide +kernel
theorem dX11_priceOf_114 : decode cX11_priceOf 114 = .ok (.iconst 0, 1) := by decide +kernel
theorem dX11_priceOf_115 : decode cX11_priceOf 115 = .ok (.iload_n 2, 1) := by decide +kernel
theorem dX11_priceOf_116 : decode cX11_priceOf 116 = .ok (.iadd, 1) := by decide +kernel
theorem dX11_priceOf_117 : decode cX11_priceOf 117 = .ok (.iaload, 1) := by decide +kernel
theorem dX11_priceOf_118 : decode cX11_priceOf 118 = .ok (.aload_n 0, 1) := by decide +kernel
theorem dX11_priceOf_119 : decode cX11_priceOf 119 = .ok (.getfield 43, 3) := by decide +kernel
theorem dX11_priceOf_122 : decode cX11_priceOf 122 = .ok (.iload_n 2, 1) := by decide +kernel
theorem dX11_priceOf_123 : decode cX11_priceOf 123 = .ok (.aaload, 1) := by decide +kernel
theorem dX11_priceOf_124 : decode cX11_priceOf 124 = .ok (.iconst 1, 1) := by decide +kernel
theorem dX11_priceOf_125 : decode cX11_priceOf 125 = .ok (.iaload, 1) := by decide +kernel
theorem dX11_priceOf_126 : decode cX11_priceOf 126 = .ok (.aload_n 0, 1) := by decide +kernel
theorem dX11_priceOf_127 : decode cX11_priceOf 127 = .ok (.getfield 35, 3) := by decide +kernel
theorem dX11_priceOf_130 : decode cX11_priceOf 130 = .ok (.iload_n 2, 1) := by decide +kernel
theorem dX11_priceOf_131 : decode cX11_priceOf 131 = .ok (.iaload, 1) := by decide +kernel
theorem dX11_priceOf_132 : decode cX11_priceOf 132 = .ok (.aload_n 0, 1) := by decide +kernel
theorem dX11_priceOf_133 : decode cX11_priceOf 133 = .ok (.aload_n 1, 1) := by decide +kernel
theorem dX11_priceOf_134 : decode cX11_priceOf 134 = .ok (.iload_n 2, 1) := by decide +kernel
theorem dX11_priceOf_135 : decode cX11_priceOf 135 = .ok (.invokevirtual 268, 3) := by decide +kernel
theorem dX11_priceOf_138 : decode cX11_priceOf 138 = .ok (.iconst (-1), 1) := by decide +kernel
theorem dX11_priceOf_139 : decode cX11_priceOf 139 = .ok (.ixor, 1) := by decide +kernel
theorem dX11_priceOf_140 : decode cX11_priceOf 140 = .ok (.iand, 1) := by decide +kernel
theorem dX11_priceOf_141 : decode cX11_priceOf 141 = .ok (.invokestatic 272, 3) := by decide +kernel
theorem dX11_priceOf_144 : decode cX11_priceOf 144 = .ok (.iload 4, 2) := by decide +kernel
theorem dX11_priceOf_146 : decode cX11_priceOf 146 = .ok (.iload_n 2, 1) := by decide +kernel
theorem dX11_priceOf_147 : decode cX11_priceOf 147 = .ok (.invokevirtual 275, 3) := by decide +kernel
theorem dX11_priceOf_150 : decode cX11_priceOf 150 = .ok (.ireturn, 1) := by decide +kernel
theorem dX11_canBuy_0 : decode cX11_canBuy 0 = .ok (.aload_n 1, 1) := by decide +kernel
theorem dX11_canBuy_1 : decode cX11_canBuy 1 = .ok (.iload_n 2, 1) := by decide +kernel
theorem dX11_canBuy_2 : decode cX11_canBuy 2 = .ok (.invokestatic 261, 3) := by decide +kernel
theorem dX11_canBuy_5 : decode cX11_canBuy 5 = .ok (.ifCond .ne 21, 3) := by decide +kernel
theorem dX11_canBuy_8 : decode cX11_canBuy 8 = .ok (.aload_n 1, 1) := by decide +kernel
theorem dX11_canBuy_9 : decode cX11_canBuy 9 = .ok (.iconst 0, 1) := by decide +kernel
theorem dX11_canBuy_10 : decode cX11_canBuy 10 = .ok (.iload_n 2, 1) := by decide +kernel
theorem dX11_canBuy_11 : decode cX11_canBuy 11 = .ok (.iadd, 1) := by decide +kernel
theorem dX11_canBuy_12 : decode cX11_canBuy 12 = .ok (.iaload, 1) := by decide +kernel
theorem dX11_canBuy_13 : decode cX11_canBuy 13 = .ok (.aload_n 0, 1) := by decide +kernel
theorem dX11_canBuy_14 : decode cX11_canBuy 14 = .ok (.aload_n 1, 1) := by decide +kernel
theorem dX11_canBuy_15 : decode cX11_canBuy 15 = .ok (.iload_n 2, 1) := by decide +kernel
theorem dX11_canBuy_16 : decode cX11_canBuy 16 = .ok (.invokevirtual 279, 3) := by decide +kernel
theorem dX11_canBuy_19 : decode cX11_canBuy 19 = .ok (.if_icmp .lt 7, 3) := by decide +kernel
theorem dX11_canBuy_22 : decode cX11_canBuy 22 = .ok (.iconst 1, 1) := by decide +kernel
theorem dX11_canBuy_23 : decode cX11_canBuy 23 = .ok (.goto 4, 3) := by decide +kernel
theorem dX11_canBuy_26 : decode cX11_canBuy 26 = .ok (.iconst 0, 1) := by decide +kernel
theorem dX11_canBuy_27 : decode cX11_canBuy 27 = .ok (.ireturn, 1) := by decide +kernel
theorem dX11_buys_0 : decode cX11_buys 0 = .ok (.aload_n 0, 1) := by decide +kernel
theorem dX11_buys_1 : decode cX11_buys 1 = .ok (.aload_n 1, 1) := by decide +kernel
theorem dX11_buys_2 : decode cX11_buys 2 = .ok (.iload_n 2, 1) := by decide +kernel
theorem dX11_buys_3 : decode cX11_buys 3 = .ok (.invokevirtual 282, 3) := by decide +kernel
theorem dX11_buys_6 : decode cX11_buys 6 = .ok (.ifCond .ne 5, 3) := by decide +kernel
theorem dX11_buys_9 : decode cX11_buys 9 = .ok (.iconst 0, 1) := by decide +kernel
theorem dX11_buys_10 : decode cX11_buys 10 = .ok (.ireturn, 1) := by decide +kernel
theorem dX11_buys_11 : decode cX11_buys 11 = .ok (.aload_n 1, 1) := by decide +kernel
theorem dX11_buys_12 : decode cX11_buys 12 = .ok (.bipush 18, 2) := by decide +kernel
theorem dX11_buys_14 : decode cX11_buys 14 = .ok (.iload_n 2, 1) := by decide +kernel
theorem dX11_buys_15 : decode cX11_buys 15 = .ok (.iadd, 1) := by decide +kernel
theorem dX11_buys_16 : decode cX11_buys 16 = .ok (.aload_n 0, 1) := by decide +kernel
theorem dX11_buys_17 : decode cX11_buys 17 = .ok (.aload_n 1, 1) := by decide +kernel
theorem dX11_buys_18 : decode cX11_buys 18 = .ok (.iload_n 2, 1) := by decide +kernel
theorem dX11_buys_19 : decode cX11_buys 19 = .ok (.invokevirtual 279, 3) := by decide +kernel
theorem dX11_buys_22 : decode cX11_buys 22 = .ok (.iastore, 1) := by decide +kernel
theorem dX11_buys_23 : decode cX11_buys 23 = .ok (.aload_n 1, 1) := by decide +kernel
theorem dX11_buys_24 : decode cX11_buys 24 = .ok (.iconst 0, 1) := by decide +kernel
theorem dX11_buys_25 : decode cX11_buys 25 = .ok (.iload_n 2, 1) := by decide +kernel
theorem dX11_buys_26 : decode cX11_buys 26 = .ok (.iadd, 1) := by decide +kernel
theorem dX11_buys_27 : decode cX11_buys 27 = .ok (.dup2, 1) := by decide +kernel
theorem dX11_buys_28 : decode cX11_buys 28 = .ok (.iaload, 1) := by decide +kernel
theorem dX11_buys_29 : decode cX11_buys 29 = .ok (.aload_n 1, 1) := by decide +kernel
theorem dX11_buys_30 : decode cX11_buys 30 = .ok (.bipush 18, 2) := by decide +kernel
theorem dX11_buys_32 : decode cX11_buys 32 = .ok (.iload_n 2, 1) := by decide +kernel
theorem dX11_buys_33 : decode cX11_buys 33 = .ok (.iadd, 1) := by decide +kernel
theorem dX11_buys_34 : decode cX11_buys 34 = .ok (.iaload, 1) := by decide +kernel
theorem dX11_buys_35 : decode cX11_buys 35 = .ok (.isub, 1) := by decide +kernel
theorem dX11_buys_36 : decode cX11_buys 36 = .ok (.iastore, 1) := by decide +kernel
theorem dX11_buys_37 : decode cX11_buys 37 = .ok (.iconst 1, 1) := by decide +kernel
theorem dX11_buys_38 : decode cX11_buys 38 = .ok (.ireturn, 1) := by decide +kernel
theorem dX11_sells_0 : decode cX11_sells 0 = .ok (.aload_n 0, 1) := by decide +kernel
theorem dX11_sells_1 : decode cX11_sells 1 = .ok (.iload_n 1, 1) := by decide +kernel
theorem dX11_sells_2 : decode cX11_sells 2 = .ok (.invokestatic 261, 3) := by decide +kernel
theorem dX11_sells_5 : decode cX11_sells 5 = .ok (.ifCond .ne 5, 3) := by decide +kernel
theorem dX11_sells_8 : decode cX11_sells 8 = .ok (.iconst 0, 1) := by decide +kernel
theorem dX11_sells_9 : decode cX11_sells 9 = .ok (.ireturn, 1) := by decide +kernel
theorem dX11_sells_10 : decode cX11_sells 10 = .ok (.aload_n 0, 1) := by decide +kernel
theorem dX11_sells_11 : decode cX11_sells 11 = .ok (.iconst 0, 1) := by decide +kernel
theorem dX11_sells_12 : decode cX11_sells 12 = .ok (.iload_n 1, 1) := by decide +kernel
theorem dX11_sells_13 : decode cX11_sells 13 = .ok (.iadd, 1) := by decide +kernel
theorem dX11_sells_14 : decode cX11_sells 14 = .ok (.dup2, 1) := by decide +kernel
theorem dX11_sells_15 : decode cX11_sells 15 = .ok (.iaload, 1) := by decide +kernel
theorem dX11_sells_16 : decode cX11_sells 16 = .ok (.aload_n 0, 1) := by decide +kernel
theorem dX11_sells_17 : decode cX11_sells 17 = .ok (.bipush 18, 2) := by decide +kernel
theorem dX11_sells_19 : decode cX11_sells 19 = .ok (.iload_n 1, 1) := by decide +kernel
theorem dX11_sells_20 : decode cX11_sells 20 = .ok (.iadd, 1) := by decide +kernel
theorem dX11_sells_21 : decode cX11_sells 21 = .ok (.iaload, 1) := by decide +kernel
theorem dX11_sells_22 : decode cX11_sells 22 = .ok (.iconst 2, 1) := by decide +kernel
theorem dX11_sells_23 : decode cX11_sells 23 = .ok (.idiv, 1) := by decide +kernel
theorem dX11_sells_24 : decode cX11_sells 24 = .ok (.iadd, 1) := by decide +kernel
theorem dX11_sells_25 : decode cX11_sells 25 = .ok (.iastore, 1) := by decide +kernel
theorem dX11_sells_26 : decode cX11_sells 26 = .ok (.aload_n 0, 1) := by decide +kernel
theorem dX11_sells_27 : decode cX11_sells 27 = .ok (.bipush 18, 2) := by decide +kernel
theorem dX11_sells_29 : decode cX11_sells 29 = .ok (.iload_n 1, 1) := by decide +kernel
theorem dX11_sells_30 : decode cX11_sells 30 = .ok (.iadd, 1) := by decide +kernel
theorem dX11_sells_31 : decode cX11_sells 31 = .ok (.iconst (-1), 1) := by decide +kernel
theorem dX11_sells_32 : decode cX11_sells 32 = .ok (.iastore, 1) := by decide +kernel
theorem dX11_sells_33 : decode cX11_sells 33 = .ok (.iconst 1, 1) := by decide +kernel
theorem dX11_sells_34 : decode cX11_sells 34 = .ok (.ireturn, 1) := by decide +kernel
theorem dX11_leftIn_0 : decode cX11_leftIn 0 = .ok (.iconst 0, 1) := by decide +kernel
theorem dX11_leftIn_1 : decode cX11_leftIn 1 = .ok (.istore_n 2, 1) := by decide +kernel
theorem dX11_leftIn_2 : decode cX11_leftIn 2 = .ok (.iconst 0, 1) := by decide +kernel
theorem dX11_leftIn_3 : decode cX11_leftIn 3 = .ok (.istore_n 3, 1) := by decide +kernel
theorem dX11_leftIn_4 : decode cX11_leftIn 4 = .ok (.iload_n 3, 1) := by decide +kernel
theorem dX11_leftIn_5 : decode cX11_leftIn 5 = .ok (.aload_n 0, 1) := by decide +kernel
theorem dX11_leftIn_6 : decode cX11_leftIn 6 = .ok (.getfield 23, 3) := by decide +kernel
theorem dX11_leftIn_9 : decode cX11_leftIn 9 = .ok (.iconst 0, 1) := by decide +kernel
theorem dX11_leftIn_10 : decode cX11_leftIn 10 = .ok (.iaload, 1) := by decide +kernel
theorem dX11_leftIn_11 : decode cX11_leftIn 11 = .ok (.if_icmp .ge 30, 3) := by decide +kernel
theorem dX11_leftIn_14 : decode cX11_leftIn 14 = .ok (.iload_n 2, 1) := by decide +kernel
theorem dX11_leftIn_15 : decode cX11_leftIn 15 = .ok (.aload_n 1, 1) := by decide +kernel
theorem dX11_leftIn_16 : decode cX11_leftIn 16 = .ok (.iload_n 3, 1) := by decide +kernel
theorem dX11_leftIn_17 : decode cX11_leftIn 17 = .ok (.invokestatic 261, 3) := by decide +kernel
theorem dX11_leftIn_20 : decode cX11_leftIn 20 = .ok (.ifCond .eq 7, 3) := by decide +kernel
theorem dX11_leftIn_23 : decode cX11_leftIn 23 = .ok (.iconst 0, 1) := by decide +kernel
theorem dX11_leftIn_24 : decode cX11_leftIn 24 = .ok (.goto 9, 3) := by decide +kernel
theorem dX11_leftIn_27 : decode cX11_leftIn 27 = .ok (.aload_n 0, 1) := by decide +kernel
theorem dX11_leftIn_28 : decode cX11_leftIn 28 = .ok (.getfield 35, 3) := by decide +kernel
theorem dX11_leftIn_31 : decode cX11_leftIn 31 = .ok (.iload_n 3, 1) := by decide +kernel
theorem dX11_leftIn_32 : decode cX11_leftIn 32 = .ok (.iaload, 1) := by decide +kernel
theorem dX11_leftIn_33 : decode cX11_leftIn 33 = .ok (.ior, 1) := by decide +kernel
theorem dX11_leftIn_34 : decode cX11_leftIn 34 = .ok (.istore_n 2, 1) := by decide +kernel
theorem dX11_leftIn_35 : decode cX11_leftIn 35 = .ok (.iinc 3 1, 3) := by decide +kernel
theorem dX11_leftIn_38 : decode cX11_leftIn 38 = .ok (.goto (-34), 3) := by decide +kernel
theorem dX11_leftIn_41 : decode cX11_leftIn 41 = .ok (.iconst 1, 1) := by decide +kernel
theorem dX11_leftIn_42 : decode cX11_leftIn 42 = .ok (.aload_n 0, 1) := by decide +kernel
theorem dX11_leftIn_43 : decode cX11_leftIn 43 = .ok (.getfield 23, 3) := by decide +kernel
theorem dX11_leftIn_46 : decode cX11_leftIn 46 = .ok (.iconst 1, 1) := by decide +kernel
theorem dX11_leftIn_47 : decode cX11_leftIn 47 = .ok (.iaload, 1) := by decide +kernel
theorem dX11_leftIn_48 : decode cX11_leftIn 48 = .ok (.ishl, 1) := by decide +kernel
theorem dX11_leftIn_49 : decode cX11_leftIn 49 = .ok (.iconst 1, 1) := by decide +kernel
theorem dX11_leftIn_50 : decode cX11_leftIn 50 = .ok (.isub, 1) := by decide +kernel
theorem dX11_leftIn_51 : decode cX11_leftIn 51 = .ok (.iload_n 2, 1) := by decide +kernel
theorem dX11_leftIn_52 : decode cX11_leftIn 52 = .ok (.iconst (-1), 1) := by decide +kernel
theorem dX11_leftIn_53 : decode cX11_leftIn 53 = .ok (.ixor, 1) := by decide +kernel
theorem dX11_leftIn_54 : decode cX11_leftIn 54 = .ok (.iand, 1) := by decide +kernel
theorem dX11_leftIn_55 : decode cX11_leftIn 55 = .ok (.ireturn, 1) := by decide +kernel
theorem dX11_worthOf_0 : decode cX11_worthOf 0 = .ok (.iconst 0, 1) := by decide +kernel
theorem dX11_worthOf_1 : decode cX11_worthOf 1 = .ok (.istore_n 2, 1) := by decide +kernel
theorem dX11_worthOf_2 : decode cX11_worthOf 2 = .ok (.iconst 0, 1) := by decide +kernel
theorem dX11_worthOf_3 : decode cX11_worthOf 3 = .ok (.istore_n 3, 1) := by decide +kernel
theorem dX11_worthOf_4 : decode cX11_worthOf 4 = .ok (.iload_n 3, 1) := by decide +kernel
theorem dX11_worthOf_5 : decode cX11_worthOf 5 = .ok (.aload_n 0, 1) := by decide +kernel
theorem dX11_worthOf_6 : decode cX11_worthOf 6 = .ok (.getfield 23, 3) := by decide +kernel
theorem dX11_worthOf_9 : decode cX11_worthOf 9 = .ok (.iconst 1, 1) := by decide +kernel
theorem dX11_worthOf_10 : decode cX11_worthOf 10 = .ok (.iaload, 1) := by decide +kernel
theorem dX11_worthOf_11 : decode cX11_worthOf 11 = .ok (.if_icmp .ge 30, 3) := by decide +kernel
theorem dX11_worthOf_14 : decode cX11_worthOf 14 = .ok (.iload_n 2, 1) := by decide +kernel
theorem dX11_worthOf_15 : decode cX11_worthOf 15 = .ok (.iload_n 1, 1) := by decide +kernel
theorem dX11_worthOf_16 : decode cX11_worthOf 16 = .ok (.iload_n 3, 1) := by decide +kernel
theorem dX11_worthOf_17 : decode cX11_worthOf 17 = .ok (.invokestatic 255, 3) := by decide +kernel
theorem dX11_worthOf_20 : decode cX11_worthOf 20 = .ok (.ifCond .eq 12, 3) := by decide +kernel
theorem dX11_worthOf_23 : decode cX11_worthOf 23 = .ok (.aload_n 0, 1) := by decide +kernel
theorem dX11_worthOf_24 : decode cX11_worthOf 24 = .ok (.getfield 29, 3) := by decide +kernel
theorem dX11_worthOf_27 : decode cX11_worthOf 27 = .ok (.iload_n 3, 1) := by decide +kernel
theorem dX11_worthOf_28 : decode cX11_worthOf 28 = .ok (.iaload, 1) := by decide +kernel
theorem dX11_worthOf_29 : decode cX11_worthOf 29 = .ok (.goto 4, 3) := by decide +kernel
theorem dX11_worthOf_32 : decode cX11_worthOf 32 = .ok (.iconst 0, 1) := by decide +kernel
theorem dX11_worthOf_33 : decode cX11_worthOf 33 = .ok (.iadd, 1) := by decide +kernel
theorem dX11_worthOf_34 : decode cX11_worthOf 34 = .ok (.istore_n 2, 1) := by decide +kernel
theorem dX11_worthOf_35 : decode cX11_worthOf 35 = .ok (.iinc 3 1, 3) := by decide +kernel
theorem dX11_worthOf_38 : decode cX11_worthOf 38 = .ok (.goto (-34), 3) := by decide +kernel
theorem dX11_worthOf_41 : decode cX11_worthOf 41 = .ok (.iload_n 2, 1) := by decide +kernel
theorem dX11_worthOf_42 : decode cX11_worthOf 42 = .ok (.ireturn, 1) := by decide +kernel
theorem dX11_weekEnds_0 : decode cX11_weekEnds 0 = .ok (.aload_n 1, 1) := by decide +kernel
theorem dX11_weekEnds_1 : decode cX11_weekEnds 1 = .ok (.bipush 54, 2) := by decide +kernel
theorem dX11_weekEnds_3 : decode cX11_weekEnds 3 = .ok (.dup2, 1) := by decide +kernel
theorem dX11_weekEnds_4 : decode cX11_weekEnds 4 = .ok (.iaload, 1) := by decide +kernel
theorem dX11_weekEnds_5 : decode cX11_weekEnds 5 = .ok (.aload_n 0, 1) := by decide +kernel
theorem dX11_weekEnds_6 : decode cX11_weekEnds 6 = .ok (.aload_n 0, 1) := by decide +kernel
theorem dX11_weekEnds_7 : decode cX11_weekEnds 7 = .ok (.aload_n 1, 1) := by decide +kernel
theorem dX11_weekEnds_8 : decode cX11_weekEnds 8 = .ok (.invokevirtual 285, 3) := by decide +kernel
theorem dX11_weekEnds_11 : decode cX11_weekEnds 11 = .ok (.invokevirtual 289, 3) := by decide +kernel
theorem dX11_weekEnds_14 : decode cX11_weekEnds 14 = .ok (.iadd, 1) := by decide +kernel
theorem dX11_weekEnds_15 : decode cX11_weekEnds 15 = .ok (.iastore, 1) := by decide +kernel
theorem dX11_weekEnds_16 : decode cX11_weekEnds 16 = .ok (.iconst 0, 1) := by decide +kernel
theorem dX11_weekEnds_17 : decode cX11_weekEnds 17 = .ok (.istore_n 2, 1) := by decide +kernel
theorem dX11_weekEnds_18 : decode cX11_weekEnds 18 = .ok (.iload_n 2, 1) := by decide +kernel
theorem dX11_weekEnds_19 : decode cX11_weekEnds 19 = .ok (.aload_n 0, 1) := by decide +kernel
theorem dX11_weekEnds_20 : decode cX11_weekEnds 20 = .ok (.getfield 23, 3) := by decide +kernel
theorem dX11_weekEnds_23 : decode cX11_weekEnds 23 = .ok (.iconst 0, 1) := by decide +kernel
theorem dX11_weekEnds_24 : decode cX11_weekEnds 24 = .ok (.iaload, 1) := by decide +kernel
theorem dX11_weekEnds_25 : decode cX11_weekEnds 25 = .ok (.if_icmp .ge 191, 3) := by decide +kernel
theorem dX11_weekEnds_28 : decode cX11_weekEnds 28 = .ok (.aload_n 1, 1) := by decide +kernel
theorem dX11_weekEnds_29 : decode cX11_weekEnds 29 = .ok (.iload_n 2, 1) := by decide +kernel
theorem dX11_weekEnds_30 : decode cX11_weekEnds 30 = .ok (.invokestatic 261, 3) := by decide +kernel
theorem dX11_weekEnds_33 : decode cX11_weekEnds 33 = .ok (.ifCond .ne 7, 3) := by decide +kernel
theorem dX11_weekEnds_36 : decode cX11_weekEnds 36 = .ok (.iconst 1, 1) := by decide +kernel
theorem dX11_weekEnds_37 : decode cX11_weekEnds 37 = .ok (.goto 4, 3) := by decide +kernel
theorem dX11_weekEnds_40 : decode cX11_weekEnds 40 = .ok (.iconst 0, 1) := by decide +kernel
theorem dX11_weekEnds_41 : decode cX11_weekEnds 41 = .ok (.istore_n 3, 1) := by decide +kernel
theorem dX11_weekEnds_42 : decode cX11_weekEnds 42 = .ok (.aload_n 1, 1) := by decide +kernel
theorem dX11_weekEnds_43 : decode cX11_weekEnds 43 = .ok (.bipush 6, 2) := by decide +kernel
theorem dX11_weekEnds_45 : decode cX11_weekEnds 45 = .ok (.iload_n 2, 1) := by decide +kernel
theorem dX11_weekEnds_46 : decode cX11_weekEnds 46 = .ok (.iadd, 1) := by decide +kernel
theorem dX11_weekEnds_47 : decode cX11_weekEnds 47 = .ok (.dup2, 1) := by decide +kernel
theorem dX11_weekEnds_48 : decode cX11_weekEnds 48 = .ok (.iaload, 1) := by decide +kernel
theorem dX11_weekEnds_49 : decode cX11_weekEnds 49 = .ok (.iload_n 3, 1) := by decide +kernel
theorem dX11_weekEnds_50 : decode cX11_weekEnds 50 = .ok (.ifCond .eq 8, 3) := by decide +kernel
theorem dX11_weekEnds_53 : decode cX11_weekEnds 53 = .ok (.bipush 7, 2) := by decide +kernel
theorem dX11_weekEnds_55 : decode cX11_weekEnds 55 = .ok (.goto 5, 3) := by decide +kernel
theorem dX11_weekEnds_58 : decode cX11_weekEnds 58 = .ok (.bipush 6, 2) := by decide +kernel
theorem dX11_weekEnds_60 : decode cX11_weekEnds 60 = .ok (.iadd, 1) := by decide +kernel
theorem dX11_weekEnds_61 : decode cX11_weekEnds 61 = .ok (.iastore, 1) := by decide +kernel
theorem dX11_weekEnds_62 : decode cX11_weekEnds 62 = .ok (.aload_n 1, 1) := by decide +kernel
theorem dX11_weekEnds_63 : decode cX11_weekEnds 63 = .ok (.bipush 12, 2) := by decide +kernel
theorem dX11_weekEnds_65 : decode cX11_weekEnds 65 = .ok (.iload_n 2, 1) := by decide +kernel
theorem dX11_weekEnds_66 : decode cX11_weekEnds 66 = .ok (.iadd, 1) := by decide +kernel
theorem dX11_weekEnds_67 : decode cX11_weekEnds 67 = .ok (.dup2, 1) := by decide +kernel
theorem dX11_weekEnds_68 : decode cX11_weekEnds 68 = .ok (.iaload, 1) := by decide +kernel
theorem dX11_weekEnds_69 : decode cX11_weekEnds 69 = .ok (.iload_n 3, 1) := by decide +kernel
theorem dX11_weekEnds_70 : decode cX11_weekEnds 70 = .ok (.ifCond .eq 7, 3) := by decide +kernel
theorem dX11_weekEnds_73 : decode cX11_weekEnds 73 = .ok (.iconst 0, 1) := by decide +kernel
theorem dX11_weekEnds_74 : decode cX11_weekEnds 74 = .ok (.goto 4, 3) := by decide +kernel
theorem dX11_weekEnds_77 : decode cX11_weekEnds 77 = .ok (.iconst 1, 1) := by decide +kernel
theorem dX11_weekEnds_78 : decode cX11_weekEnds 78 = .ok (.iadd, 1) := by decide +kernel
theorem dX11_weekEnds_79 : decode cX11_weekEnds 79 = .ok (.iastore, 1) := by decide +kernel
theorem dX11_weekEnds_80 : decode cX11_weekEnds 80 = .ok (.iload_n 3, 1) := by decide +kernel
theorem dX11_weekEnds_81 : decode cX11_weekEnds 81 = .ok (.ifCond .eq 28, 3) := by decide +kernel
theorem dX11_weekEnds_84 : decode cX11_weekEnds 84 = .ok (.aload_n 1, 1) := by decide +kernel
theorem dX11_weekEnds_85 : decode cX11_weekEnds 85 = .ok (.iconst 0, 1) := by decide +kernel
theorem dX11_weekEnds_86 : decode cX11_weekEnds 86 = .ok (.iload_n 2, 1) := by decide +kernel
theorem dX11_weekEnds_87 : decode cX11_weekEnds 87 = .ok (.iadd, 1) := by decide +kernel
theorem dX11_weekEnds_88 : decode cX11_weekEnds 88 = .ok (.sipush 999, 3) := by decide +kernel
theorem dX11_weekEnds_91 : decode cX11_weekEnds 91 = .ok (.aload_n 1, 1) := by decide +kernel
theorem dX11_weekEnds_92 : decode cX11_weekEnds 92 = .ok (.iconst 0, 1) := by decide +kernel
theorem dX11_weekEnds_93 : decode cX11_weekEnds 93 = .ok (.iload_n 2, 1) := by decide +kernel
theorem dX11_weekEnds_94 : decode cX11_weekEnds 94 = .ok (.iadd, 1) := by decide +kernel
theorem dX11_weekEnds_95 : decode cX11_weekEnds 95 = .ok (.iaload, 1) := by decide +kernel
theorem dX11_weekEnds_96 : decode cX11_weekEnds 96 = .ok (.aload_n 0, 1) := by decide +kernel
theorem dX11_weekEnds_97 : decode cX11_weekEnds 97 = .ok (.getfield 43, 3) := by decide +kernel
theorem dX11_weekEnds_100 : decode cX11_weekEnds 100 = .ok (.iload_n 2, 1) := by decide +kernel
theorem dX11_weekEnds_101 : decode cX11_weekEnds 101 = .ok (.aaload, 1) := by decide +kernel
theorem dX11_weekEnds_102 : decode cX11_weekEnds 102 = .ok (.iconst 1, 1) := by decide +kernel
theorem dX11_weekEnds_103 : decode cX11_weekEnds 103 = .ok (.iaload, 1) := by decide +kernel
theorem dX11_weekEnds_104 : decode cX11_weekEnds 104 = .ok (.iadd, 1) := by decide +kernel
theorem dX11_weekEnds_105 : decode cX11_weekEnds 105 = .ok (.invokestatic 237, 3) := by decide +kernel
theorem dX11_weekEnds_108 : decode cX11_weekEnds 108 = .ok (.iastore, 1) := by decide +kernel
theorem dX11_weekEnds_109 : decode cX11_weekEnds 109 = .ok (.iconst 0, 1) := by decide +kernel
theorem dX11_weekEnds_110 : decode cX11_weekEnds 110 = .ok (.istore 4, 2) := by decide +kernel
theorem dX11_weekEnds_112 : decode cX11_weekEnds 112 = .ok (.iload 4, 2) := by decide +kernel
theorem dX11_weekEnds_114 : decode cX11_weekEnds 114 = .ok (.aload_n 0, 1) := by decide +kernel
theorem dX11_weekEnds_115 : decode cX11_weekEnds 115 = .ok (.getfield 23, 3) := by decide +kernel
theorem dX11_weekEnds_118 : decode cX11_weekEnds 118 = .ok (.iconst 2, 1) := by decide +kernel
theorem dX11_weekEnds_119 : decode cX11_weekEnds 119 = .ok (.iaload, 1) := by decide +kernel
theorem dX11_weekEnds_120 : decode cX11_weekEnds 120 = .ok (.if_icmp .ge 90, 3) := by decide +kernel
theorem dX11_weekEnds_123 : decode cX11_weekEnds 123 = .ok (.aload_n 0, 1) := by decide +kernel
theorem dX11_weekEnds_124 : decode cX11_weekEnds 124 = .ok (.getfield 49, 3) := by decide +kernel
theorem dX11_weekEnds_127 : decode cX11_weekEnds 127 = .ok (.iload 4, 2) := by decide +kernel
theorem dX11_weekEnds_129 : decode cX11_weekEnds 129 = .ok (.aaload, 1) := by decide +kernel
theorem dX11_weekEnds_130 : decode cX11_weekEnds 130 = .ok (.iconst 0, 1) := by decide +kernel
theorem dX11_weekEnds_131 : decode cX11_weekEnds 131 = .ok (.iaload, 1) := by decide +kernel
theorem dX11_weekEnds_132 : decode cX11_weekEnds 132 = .ok (.iload_n 2, 1) := by decide +kernel
theorem dX11_weekEnds_133 : decode cX11_weekEnds 133 = .ok (.if_icmp .ne 71, 3) := by decide +kernel
theorem dX11_weekEnds_136 : decode cX11_weekEnds 136 = .ok (.aload_n 0, 1) := by decide +kernel
theorem dX11_weekEnds_137 : decode cX11_weekEnds 137 = .ok (.aload_n 1, 1) := by decide +kernel
theorem dX11_weekEnds_138 : decode cX11_weekEnds 138 = .ok (.iload 4, 2) := by decide +kernel
theorem dX11_weekEnds_140 : decode cX11_weekEnds 140 = .ok (.invokevirtual 265, 3) := by decide +kernel
theorem dX11_weekEnds_143 : decode cX11_weekEnds 143 = .ok (.ifCond .ne 6, 3) := by decide +kernel
theorem dX11_weekEnds_146 : decode cX11_weekEnds 146 = .ok (.goto 58, 3) := by decide +kernel
theorem dX11_weekEnds_149 : decode cX11_weekEnds 149 = .ok (.iload_n 3, 1) := by decide +kernel
theorem dX11_weekEnds_150 : decode cX11_weekEnds 150 = .ok (.ifCond .eq 14, 3) := by decide +kernel
theorem dX11_weekEnds_153 : decode cX11_weekEnds 153 = .ok (.aload_n 1, 1) := by decide +kernel
theorem dX11_weekEnds_154 : decode cX11_weekEnds 154 = .ok (.bipush 42, 2) := by decide +kernel
theorem dX11_weekEnds_156 : decode cX11_weekEnds 156 = .ok (.iload 4, 2) := by decide +kernel
theorem dX11_weekEnds_158 : decode cX11_weekEnds 158 = .ok (.iadd, 1) := by decide +kernel
theorem dX11_weekEnds_159 : decode cX11_weekEnds 159 = .ok (.iconst 1, 1) := by decide +kernel
theorem dX11_weekEnds_160 : decode cX11_weekEnds 160 = .ok (.iastore, 1) := by decide +kernel
theorem dX11_weekEnds_161 : decode cX11_weekEnds 161 = .ok (.goto 43, 3) := by decide +kernel
theorem dX11_weekEnds_164 : decode cX11_weekEnds 164 = .ok (.aload_n 0, 1) := by decide +kernel
theorem dX11_weekEnds_165 : decode cX11_weekEnds 165 = .ok (.getfield 49, 3) := by decide +kernel
theorem dX11_weekEnds_168 : decode cX11_weekEnds 168 = .ok (.iload 4, 2) := by decide +kernel
theorem dX11_weekEnds_170 : decode cX11_weekEnds 170 = .ok (.aaload, 1) := by decide +kernel
theorem dX11_weekEnds_171 : decode cX11_weekEnds 171 = .ok (.iconst 2, 1) := by decide +kernel
theorem dX11_weekEnds_172 : decode cX11_weekEnds 172 = .ok (.iaload, 1) := by decide +kernel
theorem dX11_weekEnds_173 : decode cX11_weekEnds 173 = .ok (.aload_n 1, 1) := by decide +kernel
theorem dX11_weekEnds_174 : decode cX11_weekEnds 174 = .ok (.iconst 0, 1) := by decide +kernel
theorem dX11_weekEnds_175 : decode cX11_weekEnds 175 = .ok (.iload_n 2, 1) := by decide +kernel
theorem dX11_weekEnds_176 : decode cX11_weekEnds 176 = .ok (.iadd, 1) := by decide +kernel
theorem dX11_weekEnds_177 : decode cX11_weekEnds 177 = .ok (.iaload, 1) := by decide +kernel
theorem dX11_weekEnds_178 : decode cX11_weekEnds 178 = .ok (.invokestatic 237, 3) := by decide +kernel
theorem dX11_weekEnds_181 : decode cX11_weekEnds 181 = .ok (.istore 5, 2) := by decide +kernel
theorem dX11_weekEnds_183 : decode cX11_weekEnds 183 = .ok (.aload_n 1, 1) := by decide +kernel
theorem dX11_weekEnds_184 : decode cX11_weekEnds 184 = .ok (.iconst 0, 1) := by decide +kernel
theorem dX11_weekEnds_185 : decode cX11_weekEnds 185 = .ok (.iload_n 2, 1) := by decide +kernel
theorem dX11_weekEnds_186 : decode cX11_weekEnds 186 = .ok (.iadd, 1) := by decide +kernel
theorem dX11_weekEnds_187 : decode cX11_weekEnds 187 = .ok (.dup2, 1) := by decide +kernel
theorem dX11_weekEnds_188 : decode cX11_weekEnds 188 = .ok (.iaload, 1) := by decide +kernel
theorem dX11_weekEnds_189 : decode cX11_weekEnds 189 = .ok (.iload 5, 2) := by decide +kernel
theorem dX11_weekEnds_191 : decode cX11_weekEnds 191 = .ok (.isub, 1) := by decide +kernel
theorem dX11_weekEnds_192 : decode cX11_weekEnds 192 = .ok (.iastore, 1) := by decide +kernel
theorem dX11_weekEnds_193 : decode cX11_weekEnds 193 = .ok (.aload_n 1, 1) := by decide +kernel
theorem dX11_weekEnds_194 : decode cX11_weekEnds 194 = .ok (.bipush 24, 2) := by decide +kernel
theorem dX11_weekEnds_196 : decode cX11_weekEnds 196 = .ok (.iload_n 2, 1) := by decide +kernel
theorem dX11_weekEnds_197 : decode cX11_weekEnds 197 = .ok (.iadd, 1) := by decide +kernel
theorem dX11_weekEnds_198 : decode cX11_weekEnds 198 = .ok (.dup2, 1) := by decide +kernel
theorem dX11_weekEnds_199 : decode cX11_weekEnds 199 = .ok (.iaload, 1) := by decide +kernel
theorem dX11_weekEnds_200 : decode cX11_weekEnds 200 = .ok (.iload 5, 2) := by decide +kernel
theorem dX11_weekEnds_202 : decode cX11_weekEnds 202 = .ok (.iadd, 1) := by decide +kernel
theorem dX11_weekEnds_203 : decode cX11_weekEnds 203 = .ok (.iastore, 1) := by decide +kernel
theorem dX11_weekEnds_204 : decode cX11_weekEnds 204 = .ok (.iinc 4 1, 3) := by decide +kernel
theorem dX11_weekEnds_207 : decode cX11_weekEnds 207 = .ok (.goto (-95), 3) := by decide +kernel
theorem dX11_weekEnds_210 : decode cX11_weekEnds 210 = .ok (.iinc 2 1, 3) := by decide +kernel
theorem dX11_weekEnds_213 : decode cX11_weekEnds 213 = .ok (.goto (-195), 3) := by decide +kernel
theorem dX11_weekEnds_216 : decode cX11_weekEnds 216 = .ok (.iconst 0, 1) := by decide +kernel
theorem dX11_weekEnds_217 : decode cX11_weekEnds 217 = .ok (.istore_n 2, 1) := by decide +kernel
theorem dX11_weekEnds_218 : decode cX11_weekEnds 218 = .ok (.iload_n 2, 1) := by decide +kernel
theorem dX11_weekEnds_219 : decode cX11_weekEnds 219 = .ok (.bipush 6, 2) := by decide +kernel
theorem dX11_weekEnds_221 : decode cX11_weekEnds 221 = .ok (.if_icmp .ge 16, 3) := by decide +kernel
theorem dX11_weekEnds_224 : decode cX11_weekEnds 224 = .ok (.aload_n 1, 1) := by decide +kernel
theorem dX11_weekEnds_225 : decode cX11_weekEnds 225 = .ok (.bipush 18, 2) := by decide +kernel
theorem dX11_weekEnds_227 : decode cX11_weekEnds 227 = .ok (.iload_n 2, 1) := by decide +kernel
theorem dX11_weekEnds_228 : decode cX11_weekEnds 228 = .ok (.iadd, 1) := by decide +kernel
theorem dX11_weekEnds_229 : decode cX11_weekEnds 229 = .ok (.iconst (-1), 1) := by decide +kernel
theorem dX11_weekEnds_230 : decode cX11_weekEnds 230 = .ok (.iastore, 1) := by decide +kernel
theorem dX11_weekEnds_231 : decode cX11_weekEnds 231 = .ok (.iinc 2 1, 3) := by decide +kernel
theorem dX11_weekEnds_234 : decode cX11_weekEnds 234 = .ok (.goto (-16), 3) := by decide +kernel
theorem dX11_weekEnds_237 : decode cX11_weekEnds 237 = .ok (.aload_n 1, 1) := by decide +kernel
theorem dX11_weekEnds_238 : decode cX11_weekEnds 238 = .ok (.bipush 55, 2) := by decide +kernel
theorem dX11_weekEnds_240 : decode cX11_weekEnds 240 = .ok (.dup2, 1) := by decide +kernel
theorem dX11_weekEnds_241 : decode cX11_weekEnds 241 = .ok (.iaload, 1) := by decide +kernel
theorem dX11_weekEnds_242 : decode cX11_weekEnds 242 = .ok (.iconst 1, 1) := by decide +kernel
theorem dX11_weekEnds_243 : decode cX11_weekEnds 243 = .ok (.iadd, 1) := by decide +kernel
theorem dX11_weekEnds_244 : decode cX11_weekEnds 244 = .ok (.iastore, 1) := by decide +kernel
theorem dX11_weekEnds_245 : decode cX11_weekEnds 245 = .ok (.return_, 1) := by decide +kernel
theorem dX11_does_0 : decode cX11_does 0 = .ok (.aload_n 2, 1) := by decide +kernel
theorem dX11_does_1 : decode cX11_does 1 = .ok (.iconst 1, 1) := by decide +kernel
theorem dX11_does_2 : decode cX11_does 2 = .ok (.iaload, 1) := by decide +kernel
theorem dX11_does_3 : decode cX11_does 3 = .ok (.istore_n 3, 1) := by decide +kernel
theorem dX11_does_4 : decode cX11_does 4 = .ok (.aload_n 2, 1) := by decide +kernel
theorem dX11_does_5 : decode cX11_does 5 = .ok (.iconst 0, 1) := by decide +kernel
theorem dX11_does_6 : decode cX11_does 6 = .ok (.iaload, 1) := by decide +kernel
theorem dX11_does_7 : decode cX11_does 7 = .ok (.tableswitch 86 0 2 #[25, 32, 38], 25) := by decide +kernel
theorem dX11_does_32 : decode cX11_does 32 = .ok (.aload_n 0, 1) := by decide +kernel
theorem dX11_does_33 : decode cX11_does 33 = .ok (.aload_n 1, 1) := by decide +kernel
theorem dX11_does_34 : decode cX11_does 34 = .ok (.iload_n 3, 1) := by decide +kernel
theorem dX11_does_35 : decode cX11_does 35 = .ok (.invokevirtual 292, 3) := by decide +kernel
theorem dX11_does_38 : decode cX11_does 38 = .ok (.ireturn, 1) := by decide +kernel
theorem dX11_does_39 : decode cX11_does 39 = .ok (.aload_n 1, 1) := by decide +kernel
theorem dX11_does_40 : decode cX11_does 40 = .ok (.iload_n 3, 1) := by decide +kernel
theorem dX11_does_41 : decode cX11_does 41 = .ok (.invokestatic 295, 3) := by decide +kernel
theorem dX11_does_44 : decode cX11_does 44 = .ok (.ireturn, 1) := by decide +kernel
theorem dX11_does_45 : decode cX11_does 45 = .ok (.aload_n 1, 1) := by decide +kernel
theorem dX11_does_46 : decode cX11_does 46 = .ok (.bipush 42, 2) := by decide +kernel
theorem dX11_does_48 : decode cX11_does 48 = .ok (.iload_n 3, 1) := by decide +kernel
theorem dX11_does_49 : decode cX11_does 49 = .ok (.iadd, 1) := by decide +kernel
theorem dX11_does_50 : decode cX11_does 50 = .ok (.iaload, 1) := by decide +kernel
theorem dX11_does_51 : decode cX11_does 51 = .ok (.iconst 1, 1) := by decide +kernel
theorem dX11_does_52 : decode cX11_does 52 = .ok (.if_icmp .eq 27, 3) := by decide +kernel
theorem dX11_does_55 : decode cX11_does 55 = .ok (.aload_n 1, 1) := by decide +kernel
theorem dX11_does_56 : decode cX11_does 56 = .ok (.bipush 30, 2) := by decide +kernel
theorem dX11_does_58 : decode cX11_does 58 = .ok (.iload_n 3, 1) := by decide +kernel
theorem dX11_does_59 : decode cX11_does 59 = .ok (.iadd, 1) := by decide +kernel
theorem dX11_does_60 : decode cX11_does 60 = .ok (.iaload, 1) := by decide +kernel
theorem dX11_does_61 : decode cX11_does 61 = .ok (.aload_n 1, 1) := by decide +kernel
theorem dX11_does_62 : decode cX11_does 62 = .ok (.bipush 55, 2) := by decide +kernel
theorem dX11_does_64 : decode cX11_does 64 = .ok (.iaload, 1) := by decide +kernel
theorem dX11_does_65 : decode cX11_does 65 = .ok (.if_icmp .lt 14, 3) := by decide +kernel
theorem dX11_does_68 : decode cX11_does 68 = .ok (.aload_n 1, 1) := by decide +kernel
theorem dX11_does_69 : decode cX11_does 69 = .ok (.bipush 30, 2) := by decide +kernel
theorem dX11_does_71 : decode cX11_does 71 = .ok (.iload_n 3, 1) := by decide +kernel
theorem dX11_does_72 : decode cX11_does 72 = .ok (.iadd, 1) := by decide +kernel
theorem dX11_does_73 : decode cX11_does 73 = .ok (.iaload, 1) := by decide +kernel
theorem dX11_does_74 : decode cX11_does 74 = .ok (.bipush 60, 2) := by decide +kernel
theorem dX11_does_76 : decode cX11_does 76 = .ok (.if_icmp .ne 5, 3) := by decide +kernel
theorem dX11_does_79 : decode cX11_does 79 = .ok (.iconst 0, 1) := by decide +kernel
theorem dX11_does_80 : decode cX11_does 80 = .ok (.ireturn, 1) := by decide +kernel
theorem dX11_does_81 : decode cX11_does 81 = .ok (.aload_n 1, 1) := by decide +kernel
theorem dX11_does_82 : decode cX11_does 82 = .ok (.bipush 30, 2) := by decide +kernel
theorem dX11_does_84 : decode cX11_does 84 = .ok (.iload_n 3, 1) := by decide +kernel
theorem dX11_does_85 : decode cX11_does 85 = .ok (.iadd, 1) := by decide +kernel
theorem dX11_does_86 : decode cX11_does 86 = .ok (.dup2, 1) := by decide +kernel
theorem dX11_does_87 : decode cX11_does 87 = .ok (.iaload, 1) := by decide +kernel
theorem dX11_does_88 : decode cX11_does 88 = .ok (.iconst 1, 1) := by decide +kernel
theorem dX11_does_89 : decode cX11_does 89 = .ok (.iadd, 1) := by decide +kernel
theorem dX11_does_90 : decode cX11_does 90 = .ok (.iastore, 1) := by decide +kernel
theorem dX11_does_91 : decode cX11_does 91 = .ok (.iconst 1, 1) := by decide +kernel
theorem dX11_does_92 : decode cX11_does 92 = .ok (.ireturn, 1) := by decide +kernel
theorem dX11_does_93 : decode cX11_does 93 = .ok (.aload_n 1, 1) := by decide +kernel
theorem dX11_does_94 : decode cX11_does 94 = .ok (.bipush 55, 2) := by decide +kernel
theorem dX11_does_96 : decode cX11_does 96 = .ok (.iaload, 1) := by decide +kernel
theorem dX11_does_97 : decode cX11_does 97 = .ok (.sipush 300, 3) := by decide +kernel
theorem dX11_does_100 : decode cX11_does 100 = .ok (.if_icmp .lt 5, 3) := by decide +kernel
theorem dX11_does_103 : decode cX11_does 103 = .ok (.iconst 0, 1) := by decide +kernel
theorem dX11_does_104 : decode cX11_does 104 = .ok (.ireturn, 1) := by decide +kernel
theorem dX11_does_105 : decode cX11_does 105 = .ok (.aload_n 0, 1) := by decide +kernel
theorem dX11_does_106 : decode cX11_does 106 = .ok (.aload_n 1, 1) := by decide +kernel
theorem dX11_does_107 : decode cX11_does 107 = .ok (.invokevirtual 298, 3) := by decide +kernel
theorem dX11_does_110 : decode cX11_does 110 = .ok (.iconst 1, 1) := by decide +kernel
theorem dX11_does_111 : decode cX11_does 111 = .ok (.ireturn, 1) := by decide +kernel
theorem dX11_goes_0 : decode cX11_goes 0 = .ok (.iload_n 1, 1) := by decide +kernel
theorem dX11_goes_1 : decode cX11_goes 1 = .ok (.istore_n 3, 1) := by decide +kernel
theorem dX11_goes_2 : decode cX11_goes 2 = .ok (.iload_n 3, 1) := by decide +kernel
theorem dX11_goes_3 : decode cX11_goes 3 = .ok (.iload_n 2, 1) := by decide +kernel
theorem dX11_goes_4 : decode cX11_goes 4 = .ok (.if_icmp .ge 151, 3) := by decide +kernel
theorem dX11_goes_7 : decode cX11_goes 7 = .ok (.aload_n 0, 1) := by decide +kernel
theorem dX11_goes_8 : decode cX11_goes 8 = .ok (.getfield 302, 3) := by decide +kernel
theorem dX11_goes_11 : decode cX11_goes 11 = .ok (.sipush 200, 3) := by decide +kernel
theorem dX11_goes_14 : decode cX11_goes 14 = .ok (.if_icmp .ge 141, 3) := by decide +kernel
theorem dX11_goes_17 : decode cX11_goes 17 = .ok (.aload_n 0, 1) := by decide +kernel
theorem dX11_goes_18 : decode cX11_goes 18 = .ok (.dup, 1) := by decide +kernel
theorem dX11_goes_19 : decode cX11_goes 19 = .ok (.getfield 302, 3) := by decide +kernel
theorem dX11_goes_22 : decode cX11_goes 22 = .ok (.iconst 1, 1) := by decide +kernel
theorem dX11_goes_23 : decode cX11_goes 23 = .ok (.iadd, 1) := by decide +kernel
theorem dX11_goes_24 : decode cX11_goes 24 = .ok (.putfield 302, 3) := by decide +kernel
theorem dX11_goes_27 : decode cX11_goes 27 = .ok (.aload_n 0, 1) := by decide +kernel
theorem dX11_goes_28 : decode cX11_goes 28 = .ok (.getfield 70, 3) := by decide +kernel
theorem dX11_goes_31 : decode cX11_goes 31 = .ok (.iload_n 3, 1) := by decide +kernel
theorem dX11_goes_32 : decode cX11_goes 32 = .ok (.aaload, 1) := by decide +kernel
theorem dX11_goes_33 : decode cX11_goes 33 = .ok (.iconst 0, 1) := by decide +kernel
theorem dX11_goes_34 : decode cX11_goes 34 = .ok (.iaload, 1) := by decide +kernel
theorem dX11_goes_35 : decode cX11_goes 35 = .ok (.iconst 4, 1) := by decide +kernel
theorem dX11_goes_36 : decode cX11_goes 36 = .ok (.if_icmp .ne 53, 3) := by decide +kernel
theorem dX11_goes_39 : decode cX11_goes 39 = .ok (.iconst 0, 1) := by decide +kernel
theorem dX11_goes_40 : decode cX11_goes 40 = .ok (.istore 4, 2) := by decide +kernel
theorem dX11_goes_42 : decode cX11_goes 42 = .ok (.iload 4, 2) := by decide +kernel
theorem dX11_goes_44 : decode cX11_goes 44 = .ok (.aload_n 0, 1) := by decide +kernel
theorem dX11_goes_45 : decode cX11_goes 45 = .ok (.getfield 70, 3) := by decide +kernel
theorem dX11_goes_48 : decode cX11_goes 48 = .ok (.iload_n 3, 1) := by decide +kernel
theorem dX11_goes_49 : decode cX11_goes 49 = .ok (.aaload, 1) := by decide +kernel
theorem dX11_goes_50 : decode cX11_goes 50 = .ok (.iconst 1, 1) := by decide +kernel
theorem dX11_goes_51 : decode cX11_goes 51 = .ok (.iaload, 1) := by decide +kernel
theorem dX11_goes_52 : decode cX11_goes 52 = .ok (.if_icmp .ge 34, 3) := by decide +kernel
theorem dX11_goes_55 : decode cX11_goes 55 = .ok (.aload_n 0, 1) := by decide +kernel
theorem dX11_goes_56 : decode cX11_goes 56 = .ok (.getfield 302, 3) := by decide +kernel
theorem dX11_goes_59 : decode cX11_goes 59 = .ok (.sipush 200, 3) := by decide +kernel
theorem dX11_goes_62 : decode cX11_goes 62 = .ok (.if_icmp .ge 24, 3) := by decide +kernel
theorem dX11_goes_65 : decode cX11_goes 65 = .ok (.aload_n 0, 1) := by decide +kernel
theorem dX11_goes_66 : decode cX11_goes 66 = .ok (.iload_n 3, 1) := by decide +kernel
theorem dX11_goes_67 : decode cX11_goes 67 = .ok (.iconst 1, 1) := by decide +kernel
theorem dX11_goes_68 : decode cX11_goes 68 = .ok (.iadd, 1) := by decide +kernel
theorem dX11_goes_69 : decode cX11_goes 69 = .ok (.aload_n 0, 1) := by decide +kernel
theorem dX11_goes_70 : decode cX11_goes 70 = .ok (.getfield 70, 3) := by decide +kernel
theorem dX11_goes_73 : decode cX11_goes 73 = .ok (.iload_n 3, 1) := by decide +kernel
theorem dX11_goes_74 : decode cX11_goes 74 = .ok (.aaload, 1) := by decide +kernel
theorem dX11_goes_75 : decode cX11_goes 75 = .ok (.iconst 3, 1) := by decide +kernel
theorem dX11_goes_76 : decode cX11_goes 76 = .ok (.iaload, 1) := by decide +kernel
theorem dX11_goes_77 : decode cX11_goes 77 = .ok (.invokevirtual 305, 3) := by decide +kernel
theorem dX11_goes_80 : decode cX11_goes 80 = .ok (.iinc 4 1, 3) := by decide +kernel
theorem dX11_goes_83 : decode cX11_goes 83 = .ok (.goto (-41), 3) := by decide +kernel
theorem dX11_goes_86 : decode cX11_goes 86 = .ok (.goto 57, 3) := by decide +kernel
theorem dX11_goes_89 : decode cX11_goes 89 = .ok (.aload_n 0, 1) := by decide +kernel
theorem dX11_goes_90 : decode cX11_goes 90 = .ok (.aload_n 0, 1) := by decide +kernel
theorem dX11_goes_91 : decode cX11_goes 91 = .ok (.getfield 73, 3) := by decide +kernel
theorem dX11_goes_94 : decode cX11_goes 94 = .ok (.aload_n 0, 1) := by decide +kernel
theorem dX11_goes_95 : decode cX11_goes 95 = .ok (.getfield 70, 3) := by decide +kernel
theorem dX11_goes_98 : decode cX11_goes 98 = .ok (.iload_n 3, 1) := by decide +kernel
theorem dX11_goes_99 : decode cX11_goes 99 = .ok (.aaload, 1) := by decide +kernel
theorem dX11_goes_100 : decode cX11_goes 100 = .ok (.invokevirtual 308, 3) := by decide +kernel
theorem dX11_goes_103 : decode cX11_goes 103 = .ok (.istore 4, 2) := by decide +kernel
theorem dX11_goes_105 : decode cX11_goes 105 = .ok (.aload_n 0, 1) := by decide +kernel
theorem dX11_goes_106 : decode cX11_goes 106 = .ok (.dup, 1) := by decide +kernel
theorem dX11_goes_107 : decode cX11_goes 107 = .ok (.getfield 312, 3) := by decide +kernel
theorem dX11_goes_110 : decode cX11_goes 110 = .ok (.iload 4, 2) := by decide +kernel
theorem dX11_goes_112 : decode cX11_goes 112 = .ok (.ifCond .eq 7, 3) := by decide +kernel
theorem dX11_goes_115 : decode cX11_goes 115 = .ok (.iconst 1, 1) := by decide +kernel
theorem dX11_goes_116 : decode cX11_goes 116 = .ok (.goto 4, 3) := by decide +kernel
theorem dX11_goes_119 : decode cX11_goes 119 = .ok (.iconst 0, 1) := by decide +kernel
theorem dX11_goes_120 : decode cX11_goes 120 = .ok (.iadd, 1) := by decide +kernel
theorem dX11_goes_121 : decode cX11_goes 121 = .ok (.putfield 312, 3) := by decide +kernel
theorem dX11_goes_124 : decode cX11_goes 124 = .ok (.aload_n 0, 1) := by decide +kernel
theorem dX11_goes_125 : decode cX11_goes 125 = .ok (.dup, 1) := by decide +kernel
theorem dX11_goes_126 : decode cX11_goes 126 = .ok (.getfield 199, 3) := by decide +kernel
theorem dX11_goes_129 : decode cX11_goes 129 = .ok (.iload 4, 2) := by decide +kernel
theorem dX11_goes_131 : decode cX11_goes 131 = .ok (.ifCond .eq 7, 3) := by decide +kernel
theorem dX11_goes_134 : decode cX11_goes 134 = .ok (.iconst 0, 1) := by decide +kernel
theorem dX11_goes_135 : decode cX11_goes 135 = .ok (.goto 4, 3) := by decide +kernel
theorem dX11_goes_138 : decode cX11_goes 138 = .ok (.iconst 1, 1) := by decide +kernel
theorem dX11_goes_139 : decode cX11_goes 139 = .ok (.iadd, 1) := by decide +kernel
theorem dX11_goes_140 : decode cX11_goes 140 = .ok (.putfield 199, 3) := by decide +kernel
theorem dX11_goes_143 : decode cX11_goes 143 = .ok (.aload_n 0, 1) := by decide +kernel
theorem dX11_goes_144 : decode cX11_goes 144 = .ok (.getfield 70, 3) := by decide +kernel
theorem dX11_goes_147 : decode cX11_goes 147 = .ok (.iload_n 3, 1) := by decide +kernel
theorem dX11_goes_148 : decode cX11_goes 148 = .ok (.aaload, 1) := by decide +kernel
theorem dX11_goes_149 : decode cX11_goes 149 = .ok (.iconst 3, 1) := by decide +kernel
theorem dX11_goes_150 : decode cX11_goes 150 = .ok (.iaload, 1) := by decide +kernel
theorem dX11_goes_151 : decode cX11_goes 151 = .ok (.istore_n 3, 1) := by decide +kernel
theorem dX11_goes_152 : decode cX11_goes 152 = .ok (.goto (-150), 3) := by decide +kernel
theorem dX11_goes_155 : decode cX11_goes 155 = .ok (.return_, 1) := by decide +kernel
theorem dX11_work_0 : decode cX11_work 0 = .ok (.aload_n 0, 1) := by decide +kernel
theorem dX11_work_1 : decode cX11_work 1 = .ok (.iconst 0, 1) := by decide +kernel
theorem dX11_work_2 : decode cX11_work 2 = .ok (.putfield 97, 3) := by decide +kernel
theorem dX11_work_5 : decode cX11_work 5 = .ok (.aload_n 0, 1) := by decide +kernel
theorem dX11_work_6 : decode cX11_work 6 = .ok (.iload_n 1, 1) := by decide +kernel
theorem dX11_work_7 : decode cX11_work 7 = .ok (.iconst 0, 1) := by decide +kernel
theorem dX11_work_8 : decode cX11_work 8 = .ok (.aload_n 0, 1) := by decide +kernel
theorem dX11_work_9 : decode cX11_work 9 = .ok (.getfield 100, 3) := by decide +kernel
theorem dX11_work_12 : decode cX11_work 12 = .ok (.invokestatic 131, 3) := by decide +kernel
theorem dX11_work_15 : decode cX11_work 15 = .ok (.ifCond .eq 10, 3) := by decide +kernel
theorem dX11_work_18 : decode cX11_work 18 = .ok (.iload_n 1, 1) := by decide +kernel
theorem dX11_work_19 : decode cX11_work 19 = .ok (.sipush 150, 3) := by decide +kernel
theorem dX11_work_22 : decode cX11_work 22 = .ok (.if_icmp .le 7, 3) := by decide +kernel
theorem dX11_work_25 : decode cX11_work 25 = .ok (.iconst 1, 1) := by decide +kernel
theorem dX11_work_26 : decode cX11_work 26 = .ok (.goto 4, 3) := by decide +kernel
theorem dX11_work_29 : decode cX11_work 29 = .ok (.iconst 0, 1) := by decide +kernel
theorem dX11_work_30 : decode cX11_work 30 = .ok (.iconst 1, 1) := by decide +kernel
theorem dX11_work_31 : decode cX11_work 31 = .ok (.iconst 1, 1) := by decide +kernel
theorem dX11_work_32 : decode cX11_work 32 = .ok (.invokevirtual 173, 3) := by decide +kernel
theorem dX11_work_35 : decode cX11_work 35 = .ok (.ifCond .eq 5, 3) := by decide +kernel
theorem dX11_work_38 : decode cX11_work 38 = .ok (.iconst 0, 1) := by decide +kernel
theorem dX11_work_39 : decode cX11_work 39 = .ok (.ireturn, 1) := by decide +kernel
theorem dX11_work_40 : decode cX11_work 40 = .ok (.aload_n 0, 1) := by decide +kernel
theorem dX11_work_41 : decode cX11_work 41 = .ok (.getfield 196, 3) := by decide +kernel
theorem dX11_work_44 : decode cX11_work 44 = .ok (.bipush 16, 2) := by decide +kernel
theorem dX11_work_46 : decode cX11_work 46 = .ok (.if_icmp .ne 16, 3) := by decide +kernel
theorem dX11_work_49 : decode cX11_work 49 = .ok (.aload_n 0, 1) := by decide +kernel
theorem dX11_work_50 : decode cX11_work 50 = .ok (.iconst 0, 1) := by decide +kernel
theorem dX11_work_51 : decode cX11_work 51 = .ok (.putfield 100, 3) := by decide +kernel
theorem dX11_work_54 : decode cX11_work 54 = .ok (.aload_n 0, 1) := by decide +kernel
theorem dX11_work_55 : decode cX11_work 55 = .ok (.iconst (-1), 1) := by decide +kernel
theorem dX11_work_56 : decode cX11_work 56 = .ok (.putfield 9, 3) := by decide +kernel
theorem dX11_work_59 : decode cX11_work 59 = .ok (.bipush (-20), 2) := by decide +kernel
theorem dX11_work_61 : decode cX11_work 61 = .ok (.ireturn, 1) := by decide +kernel
theorem dX11_work_62 : decode cX11_work 62 = .ok (.aload_n 0, 1) := by decide +kernel
theorem dX11_work_63 : decode cX11_work 63 = .ok (.iload_n 1, 1) := by decide +kernel
theorem dX11_work_64 : decode cX11_work 64 = .ok (.invokevirtual 177, 3) := by decide +kernel
theorem dX11_work_67 : decode cX11_work 67 = .ok (.aload_n 0, 1) := by decide +kernel
theorem dX11_work_68 : decode cX11_work 68 = .ok (.iconst 0, 1) := by decide +kernel
theorem dX11_work_69 : decode cX11_work 69 = .ok (.putfield 249, 3) := by decide +kernel
theorem dX11_work_72 : decode cX11_work 72 = .ok (.aload_n 0, 1) := by decide +kernel
theorem dX11_work_73 : decode cX11_work 73 = .ok (.getfield 113, 3) := by decide +kernel
theorem dX11_work_76 : decode cX11_work 76 = .ok (.ifCond .ne 25, 3) := by decide +kernel
theorem dX11_work_79 : decode cX11_work 79 = .ok (.aload_n 0, 1) := by decide +kernel
theorem dX11_work_80 : decode cX11_work 80 = .ok (.getfield 106, 3) := by decide +kernel
theorem dX11_work_83 : decode cX11_work 83 = .ok (.aload_n 0, 1) := by decide +kernel
theorem dX11_work_84 : decode cX11_work 84 = .ok (.getfield 103, 3) := by decide +kernel
theorem dX11_work_87 : decode cX11_work 87 = .ok (.if_icmp .ge 14, 3) := by decide +kernel
theorem dX11_work_90 : decode cX11_work 90 = .ok (.aload_n 0, 1) := by decide +kernel
theorem dX11_work_91 : decode cX11_work 91 = .ok (.invokevirtual 252, 3) := by decide +kernel
theorem dX11_work_94 : decode cX11_work 94 = .ok (.aload_n 0, 1) := by decide +kernel
theorem dX11_work_95 : decode cX11_work 95 = .ok (.invokevirtual 119, 3) := by decide +kernel
theorem dX11_work_98 : decode cX11_work 98 = .ok (.goto (-26), 3) := by decide +kernel
theorem dX11_work_101 : decode cX11_work 101 = .ok (.aload_n 0, 1) := by decide +kernel
theorem dX11_work_102 : decode cX11_work 102 = .ok (.getfield 113, 3) := by decide +kernel
theorem dX11_work_105 : decode cX11_work 105 = .ok (.ifCond .eq 8, 3) := by decide +kernel
theorem dX11_work_108 : decode cX11_work 108 = .ok (.aload_n 0, 1) := by decide +kernel
theorem dX11_work_109 : decode cX11_work 109 = .ok (.invokevirtual 183, 3) := by decide +kernel
theorem dX11_work_112 : decode cX11_work 112 = .ok (.ireturn, 1) := by decide +kernel
theorem dX11_work_113 : decode cX11_work 113 = .ok (.aload_n 0, 1) := by decide +kernel
theorem dX11_work_114 : decode cX11_work 114 = .ok (.iconst (-1), 1) := by decide +kernel
theorem dX11_work_115 : decode cX11_work 115 = .ok (.putfield 9, 3) := by decide +kernel
theorem dX11_work_118 : decode cX11_work 118 = .ok (.aload_n 0, 1) := by decide +kernel
theorem dX11_work_119 : decode cX11_work 119 = .ok (.getfield 73, 3) := by decide +kernel
theorem dX11_work_122 : decode cX11_work 122 = .ok (.aload_n 0, 1) := by decide +kernel
theorem dX11_work_123 : decode cX11_work 123 = .ok (.getfield 79, 3) := by decide +kernel
theorem dX11_work_126 : decode cX11_work 126 = .ok (.aload_n 0, 1) := by decide +kernel
theorem dX11_work_127 : decode cX11_work 127 = .ok (.getfield 196, 3) := by decide +kernel
theorem dX11_work_130 : decode cX11_work 130 = .ok (.aaload, 1) := by decide +kernel
theorem dX11_work_131 : decode cX11_work 131 = .ok (.invokestatic 315, 3) := by decide +kernel
theorem dX11_work_134 : decode cX11_work 134 = .ok (.aload_n 0, 1) := by decide +kernel
theorem dX11_work_135 : decode cX11_work 135 = .ok (.dup, 1) := by decide +kernel
theorem dX11_work_136 : decode cX11_work 136 = .ok (.getfield 196, 3) := by decide +kernel
theorem dX11_work_139 : decode cX11_work 139 = .ok (.iconst 1, 1) := by decide +kernel
theorem dX11_work_140 : decode cX11_work 140 = .ok (.iadd, 1) := by decide +kernel
theorem dX11_work_141 : decode cX11_work 141 = .ok (.putfield 196, 3) := by decide +kernel
theorem dX11_work_144 : decode cX11_work 144 = .ok (.aload_n 0, 1) := by decide +kernel
theorem dX11_work_145 : decode cX11_work 145 = .ok (.iconst 0, 1) := by decide +kernel
theorem dX11_work_146 : decode cX11_work 146 = .ok (.putfield 302, 3) := by decide +kernel
theorem dX11_work_149 : decode cX11_work 149 = .ok (.aload_n 0, 1) := by decide +kernel
theorem dX11_work_150 : decode cX11_work 150 = .ok (.iconst 0, 1) := by decide +kernel
theorem dX11_work_151 : decode cX11_work 151 = .ok (.putfield 312, 3) := by decide +kernel
theorem dX11_work_154 : decode cX11_work 154 = .ok (.aload_n 0, 1) := by decide +kernel
theorem dX11_work_155 : decode cX11_work 155 = .ok (.iconst 0, 1) := by decide +kernel
theorem dX11_work_156 : decode cX11_work 156 = .ok (.putfield 199, 3) := by decide +kernel
theorem dX11_work_159 : decode cX11_work 159 = .ok (.aload_n 0, 1) := by decide +kernel
theorem dX11_work_160 : decode cX11_work 160 = .ok (.iconst 0, 1) := by decide +kernel
theorem dX11_work_161 : decode cX11_work 161 = .ok (.aload_n 0, 1) := by decide +kernel
theorem dX11_work_162 : decode cX11_work 162 = .ok (.getfield 249, 3) := by decide +kernel
theorem dX11_work_165 : decode cX11_work 165 = .ok (.invokevirtual 305, 3) := by decide +kernel
theorem dX11_work_168 : decode cX11_work 168 = .ok (.aload_n 0, 1) := by decide +kernel
theorem dX11_work_169 : decode cX11_work 169 = .ok (.getfield 312, 3) := by decide +kernel
theorem dX11_work_172 : decode cX11_work 172 = .ok (.ireturn, 1) := by decide +kernel
theorem dX11_undo_0 : decode cX11_undo 0 = .ok (.aload_n 0, 1) := by decide +kernel
theorem dX11_undo_1 : decode cX11_undo 1 = .ok (.iconst 0, 1) := by decide +kernel
theorem dX11_undo_2 : decode cX11_undo 2 = .ok (.putfield 97, 3) := by decide +kernel
theorem dX11_undo_5 : decode cX11_undo 5 = .ok (.aload_n 0, 1) := by decide +kernel
theorem dX11_undo_6 : decode cX11_undo 6 = .ok (.getfield 196, 3) := by decide +kernel
theorem dX11_undo_9 : decode cX11_undo 9 = .ok (.ifCond .ne 5, 3) := by decide +kernel
theorem dX11_undo_12 : decode cX11_undo 12 = .ok (.iconst (-1), 1) := by decide +kernel
theorem dX11_undo_13 : decode cX11_undo 13 = .ok (.ireturn, 1) := by decide +kernel
theorem dX11_undo_14 : decode cX11_undo 14 = .ok (.aload_n 0, 1) := by decide +kernel
theorem dX11_undo_15 : decode cX11_undo 15 = .ok (.dup, 1) := by decide +kernel
theorem dX11_undo_16 : decode cX11_undo 16 = .ok (.getfield 196, 3) := by decide +kernel
theorem dX11_undo_19 : decode cX11_undo 19 = .ok (.iconst 1, 1) := by decide +kernel
theorem dX11_undo_20 : decode cX11_undo 20 = .ok (.isub, 1) := by decide +kernel
theorem dX11_undo_21 : decode cX11_undo 21 = .ok (.putfield 196, 3) := by decide +kernel
theorem dX11_undo_24 : decode cX11_undo 24 = .ok (.aload_n 0, 1) := by decide +kernel
theorem dX11_undo_25 : decode cX11_undo 25 = .ok (.getfield 79, 3) := by decide +kernel
theorem dX11_undo_28 : decode cX11_undo 28 = .ok (.aload_n 0, 1) := by decide +kernel
theorem dX11_undo_29 : decode cX11_undo 29 = .ok (.getfield 196, 3) := by decide +kernel
theorem dX11_undo_32 : decode cX11_undo 32 = .ok (.aaload, 1) := by decide +kernel
theorem dX11_undo_33 : decode cX11_undo 33 = .ok (.aload_n 0, 1) := by decide +kernel
theorem dX11_undo_34 : decode cX11_undo 34 = .ok (.getfield 73, 3) := by decide +kernel
theorem dX11_undo_37 : decode cX11_undo 37 = .ok (.invokestatic 315, 3) := by decide +kernel
theorem dX11_undo_40 : decode cX11_undo 40 = .ok (.aload_n 0, 1) := by decide +kernel
theorem dX11_undo_41 : decode cX11_undo 41 = .ok (.iconst 0, 1) := by decide +kernel
theorem dX11_undo_42 : decode cX11_undo 42 = .ok (.putfield 199, 3) := by decide +kernel
theorem dX11_undo_45 : decode cX11_undo 45 = .ok (.aload_n 0, 1) := by decide +kernel
theorem dX11_undo_46 : decode cX11_undo 46 = .ok (.getfield 196, 3) := by decide +kernel
theorem dX11_undo_49 : decode cX11_undo 49 = .ok (.ireturn, 1) := by decide +kernel
theorem dX11_sumOf_0 : decode cX11_sumOf 0 = .ok (.iconst 0, 1) := by decide +kernel
theorem dX11_sumOf_1 : decode cX11_sumOf 1 = .ok (.istore_n 3, 1) := by decide +kernel
theorem dX11_sumOf_2 : decode cX11_sumOf 2 = .ok (.iconst 0, 1) := by decide +kernel
theorem dX11_sumOf_3 : decode cX11_sumOf 3 = .ok (.istore 4, 2) := by decide +kernel
theorem dX11_sumOf_5 : decode cX11_sumOf 5 = .ok (.iload 4, 2) := by decide +kernel
theorem dX11_sumOf_7 : decode cX11_sumOf 7 = .ok (.aload_n 0, 1) := by decide +kernel
theorem dX11_sumOf_8 : decode cX11_sumOf 8 = .ok (.getfield 23, 3) := by decide +kernel
theorem dX11_sumOf_11 : decode cX11_sumOf 11 = .ok (.iconst 0, 1) := by decide +kernel
theorem dX11_sumOf_12 : decode cX11_sumOf 12 = .ok (.iaload, 1) := by decide +kernel
theorem dX11_sumOf_13 : decode cX11_sumOf 13 = .ok (.if_icmp .ge 18, 3) := by decide +kernel
theorem dX11_sumOf_16 : decode cX11_sumOf 16 = .ok (.iload_n 3, 1) := by decide +kernel
theorem dX11_sumOf_17 : decode cX11_sumOf 17 = .ok (.aload_n 1, 1) := by decide +kernel
theorem dX11_sumOf_18 : decode cX11_sumOf 18 = .ok (.iload_n 2, 1) := by decide +kernel
theorem dX11_sumOf_19 : decode cX11_sumOf 19 = .ok (.iload 4, 2) := by decide +kernel
theorem dX11_sumOf_21 : decode cX11_sumOf 21 = .ok (.iadd, 1) := by decide +kernel
theorem dX11_sumOf_22 : decode cX11_sumOf 22 = .ok (.iaload, 1) := by decide +kernel
theorem dX11_sumOf_23 : decode cX11_sumOf 23 = .ok (.iadd, 1) := by decide +kernel
theorem dX11_sumOf_24 : decode cX11_sumOf 24 = .ok (.istore_n 3, 1) := by decide +kernel
theorem dX11_sumOf_25 : decode cX11_sumOf 25 = .ok (.iinc 4 1, 3) := by decide +kernel
theorem dX11_sumOf_28 : decode cX11_sumOf 28 = .ok (.goto (-23), 3) := by decide +kernel
theorem dX11_sumOf_31 : decode cX11_sumOf 31 = .ok (.iload_n 3, 1) := by decide +kernel
theorem dX11_sumOf_32 : decode cX11_sumOf 32 = .ok (.ireturn, 1) := by decide +kernel
theorem dX11_doneIn_0 : decode cX11_doneIn 0 = .ok (.iconst 0, 1) := by decide +kernel
theorem dX11_doneIn_1 : decode cX11_doneIn 1 = .ok (.istore_n 2, 1) := by decide +kernel
theorem dX11_doneIn_2 : decode cX11_doneIn 2 = .ok (.iconst 0, 1) := by decide +kernel
theorem dX11_doneIn_3 : decode cX11_doneIn 3 = .ok (.istore_n 3, 1) := by decide +kernel
theorem dX11_doneIn_4 : decode cX11_doneIn 4 = .ok (.iload_n 3, 1) := by decide +kernel
theorem dX11_doneIn_5 : decode cX11_doneIn 5 = .ok (.aload_n 0, 1) := by decide +kernel
theorem dX11_doneIn_6 : decode cX11_doneIn 6 = .ok (.getfield 23, 3) := by decide +kernel
theorem dX11_doneIn_9 : decode cX11_doneIn 9 = .ok (.iconst 2, 1) := by decide +kernel
theorem dX11_doneIn_10 : decode cX11_doneIn 10 = .ok (.iaload, 1) := by decide +kernel
theorem dX11_doneIn_11 : decode cX11_doneIn 11 = .ok (.if_icmp .ge 20, 3) := by decide +kernel
theorem dX11_doneIn_14 : decode cX11_doneIn 14 = .ok (.iload_n 2, 1) := by decide +kernel
theorem dX11_doneIn_15 : decode cX11_doneIn 15 = .ok (.aload_n 1, 1) := by decide +kernel
theorem dX11_doneIn_16 : decode cX11_doneIn 16 = .ok (.bipush 42, 2) := by decide +kernel
theorem dX11_doneIn_18 : decode cX11_doneIn 18 = .ok (.iload_n 3, 1) := by decide +kernel
theorem dX11_doneIn_19 : decode cX11_doneIn 19 = .ok (.iadd, 1) := by decide +kernel
theorem dX11_doneIn_20 : decode cX11_doneIn 20 = .ok (.iaload, 1) := by decide +kernel
theorem dX11_doneIn_21 : decode cX11_doneIn 21 = .ok (.iload_n 3, 1) := by decide +kernel
theorem dX11_doneIn_22 : decode cX11_doneIn 22 = .ok (.ishl, 1) := by decide +kernel
theorem dX11_doneIn_23 : decode cX11_doneIn 23 = .ok (.ior, 1) := by decide +kernel
theorem dX11_doneIn_24 : decode cX11_doneIn 24 = .ok (.istore_n 2, 1) := by decide +kernel
theorem dX11_doneIn_25 : decode cX11_doneIn 25 = .ok (.iinc 3 1, 3) := by decide +kernel
theorem dX11_doneIn_28 : decode cX11_doneIn 28 = .ok (.goto (-24), 3) := by decide +kernel
theorem dX11_doneIn_31 : decode cX11_doneIn 31 = .ok (.iload_n 2, 1) := by decide +kernel
theorem dX11_doneIn_32 : decode cX11_doneIn 32 = .ok (.ireturn, 1) := by decide +kernel
theorem dX11_told_0 : decode cX11_told 0 = .ok (.aload_n 0, 1) := by decide +kernel
theorem dX11_told_1 : decode cX11_told 1 = .ok (.iconst 0, 1) := by decide +kernel
theorem dX11_told_2 : decode cX11_told 2 = .ok (.putfield 97, 3) := by decide +kernel
theorem dX11_told_5 : decode cX11_told 5 = .ok (.aload_n 0, 1) := by decide +kernel
theorem dX11_told_6 : decode cX11_told 6 = .ok (.iload_n 1, 1) := by decide +kernel
theorem dX11_told_7 : decode cX11_told 7 = .ok (.iconst 0, 1) := by decide +kernel
theorem dX11_told_8 : decode cX11_told 8 = .ok (.bipush 10, 2) := by decide +kernel
theorem dX11_told_10 : decode cX11_told 10 = .ok (.invokestatic 131, 3) := by decide +kernel
theorem dX11_told_13 : decode cX11_told 13 = .ok (.ifCond .ne 7, 3) := by decide +kernel
theorem dX11_told_16 : decode cX11_told 16 = .ok (.iconst 1, 1) := by decide +kernel
theorem dX11_told_17 : decode cX11_told 17 = .ok (.goto 4, 3) := by decide +kernel
theorem dX11_told_20 : decode cX11_told 20 = .ok (.iconst 0, 1) := by decide +kernel
theorem dX11_told_21 : decode cX11_told 21 = .ok (.iconst 1, 1) := by decide +kernel
theorem dX11_told_22 : decode cX11_told 22 = .ok (.iconst 1, 1) := by decide +kernel
theorem dX11_told_23 : decode cX11_told 23 = .ok (.invokevirtual 173, 3) := by decide +kernel
theorem dX11_told_26 : decode cX11_told 26 = .ok (.ifCond .eq 5, 3) := by decide +kernel
theorem dX11_told_29 : decode cX11_told 29 = .ok (.iconst 0, 1) := by decide +kernel
theorem dX11_told_30 : decode cX11_told 30 = .ok (.ireturn, 1) := by decide +kernel
theorem dX11_told_31 : decode cX11_told 31 = .ok (.iconst 0, 1) := by decide +kernel
theorem dX11_told_32 : decode cX11_told 32 = .ok (.istore_n 2, 1) := by decide +kernel
theorem dX11_told_33 : decode cX11_told 33 = .ok (.iconst 0, 1) := by decide +kernel
theorem dX11_told_34 : decode cX11_told 34 = .ok (.istore_n 3, 1) := by decide +kernel
theorem dX11_told_35 : decode cX11_told 35 = .ok (.iload_n 3, 1) := by decide +kernel
theorem dX11_told_36 : decode cX11_told 36 = .ok (.aload_n 0, 1) := by decide +kernel
theorem dX11_told_37 : decode cX11_told 37 = .ok (.getfield 23, 3) := by decide +kernel
theorem dX11_told_40 : decode cX11_told 40 = .ok (.iconst 0, 1) := by decide +kernel
theorem dX11_told_41 : decode cX11_told 41 = .ok (.iaload, 1) := by decide +kernel
theorem dX11_told_42 : decode cX11_told 42 = .ok (.if_icmp .ge 30, 3) := by decide +kernel
theorem dX11_told_45 : decode cX11_told 45 = .ok (.iload_n 2, 1) := by decide +kernel
theorem dX11_told_46 : decode cX11_told 46 = .ok (.aload_n 0, 1) := by decide +kernel
theorem dX11_told_47 : decode cX11_told 47 = .ok (.getfield 73, 3) := by decide +kernel
theorem dX11_told_50 : decode cX11_told 50 = .ok (.iload_n 3, 1) := by decide +kernel
theorem dX11_told_51 : decode cX11_told 51 = .ok (.invokestatic 261, 3) := by decide +kernel
theorem dX11_told_54 : decode cX11_told 54 = .ok (.ifCond .eq 9, 3) := by decide +kernel
theorem dX11_told_57 : decode cX11_told 57 = .ok (.iconst 1, 1) := by decide +kernel
theorem dX11_told_58 : decode cX11_told 58 = .ok (.iload_n 3, 1) := by decide +kernel
theorem dX11_told_59 : decode cX11_told 59 = .ok (.ishl, 1) := by decide +kernel
theorem dX11_told_60 : decode cX11_told 60 = .ok (.goto 4, 3) := by decide +kernel
theorem dX11_told_63 : decode cX11_told 63 = .ok (.iconst 0, 1) := by decide +kernel
theorem dX11_told_64 : decode cX11_told 64 = .ok (.ior, 1) := by decide +kernel
theorem dX11_told_65 : decode cX11_told 65 = .ok (.istore_n 2, 1) := by decide +kernel
theorem dX11_told_66 : decode cX11_told 66 = .ok (.iinc 3 1, 3) := by decide +kernel
theorem dX11_told_69 : decode cX11_told 69 = .ok (.goto (-34), 3) := by decide +kernel
theorem dX11_told_72 : decode cX11_told 72 = .ok (.iload_n 1, 1) := by decide +kernel
theorem dX11_told_73 : decode cX11_told 73 = .ok (.tableswitch 115 0 9 #[55, 55, 55, 62, 70, 72, 81, 89, 99, 110], 55) := by decide +kernel
theorem dX11_told_128 : decode cX11_told 128 = .ok (.aload_n 0, 1) := by decide +kernel
theorem dX11_told_129 : decode cX11_told 129 = .ok (.getfield 23, 3) := by decide +kernel
theorem dX11_told_132 : decode cX11_told 132 = .ok (.iload_n 1, 1) := by decide +kernel
theorem dX11_told_133 : decode cX11_told 133 = .ok (.iaload, 1) := by decide +kernel
theorem dX11_told_134 : decode cX11_told 134 = .ok (.ireturn, 1) := by decide +kernel
theorem dX11_told_135 : decode cX11_told 135 = .ok (.aload_n 0, 1) := by decide +kernel
theorem dX11_told_136 : decode cX11_told 136 = .ok (.getfield 73, 3) := by decide +kernel
theorem dX11_told_139 : decode cX11_told 139 = .ok (.bipush 55, 2) := by decide +kernel
theorem dX11_told_141 : decode cX11_told 141 = .ok (.iaload, 1) := by decide +kernel
theorem dX11_told_142 : decode cX11_told 142 = .ok (.ireturn, 1) := by decide +kernel
theorem dX11_told_143 : decode cX11_told 143 = .ok (.iload_n 2, 1) := by decide +kernel
theorem dX11_told_144 : decode cX11_told 144 = .ok (.ireturn, 1) := by decide +kernel
theorem dX11_told_145 : decode cX11_told 145 = .ok (.aload_n 0, 1) := by decide +kernel
theorem dX11_told_146 : decode cX11_told 146 = .ok (.aload_n 0, 1) := by decide +kernel
theorem dX11_told_147 : decode cX11_told 147 = .ok (.getfield 73, 3) := by decide +kernel
theorem dX11_told_150 : decode cX11_told 150 = .ok (.invokevirtual 319, 3) := by decide +kernel
theorem dX11_told_153 : decode cX11_told 153 = .ok (.ireturn, 1) := by decide +kernel
theorem dX11_told_154 : decode cX11_told 154 = .ok (.aload_n 0, 1) := by decide +kernel
theorem dX11_told_155 : decode cX11_told 155 = .ok (.getfield 73, 3) := by decide +kernel
theorem dX11_told_158 : decode cX11_told 158 = .ok (.bipush 54, 2) := by decide +kernel
theorem dX11_told_160 : decode cX11_told 160 = .ok (.iaload, 1) := by decide +kernel
theorem dX11_told_161 : decode cX11_told 161 = .ok (.ireturn, 1) := by decide +kernel
theorem dX11_told_162 : decode cX11_told 162 = .ok (.aload_n 0, 1) := by decide +kernel
theorem dX11_told_163 : decode cX11_told 163 = .ok (.aload_n 0, 1) := by decide +kernel
theorem dX11_told_164 : decode cX11_told 164 = .ok (.getfield 73, 3) := by decide +kernel
theorem dX11_told_167 : decode cX11_told 167 = .ok (.iconst 0, 1) := by decide +kernel
theorem dX11_told_168 : decode cX11_told 168 = .ok (.invokevirtual 322, 3) := by decide +kernel
theorem dX11_told_171 : decode cX11_told 171 = .ok (.ireturn, 1) := by decide +kernel
theorem dX11_told_172 : decode cX11_told 172 = .ok (.aload_n 0, 1) := by decide +kernel
theorem dX11_told_173 : decode cX11_told 173 = .ok (.aload_n 0, 1) := by decide +kernel
theorem dX11_told_174 : decode cX11_told 174 = .ok (.getfield 73, 3) := by decide +kernel
theorem dX11_told_177 : decode cX11_told 177 = .ok (.bipush 6, 2) := by decide +kernel
theorem dX11_told_179 : decode cX11_told 179 = .ok (.invokevirtual 322, 3) := by decide +kernel
theorem dX11_told_182 : decode cX11_told 182 = .ok (.ireturn, 1) := by decide +kernel
theorem dX11_told_183 : decode cX11_told 183 = .ok (.aload_n 0, 1) := by decide +kernel
theorem dX11_told_184 : decode cX11_told 184 = .ok (.getfield 193, 3) := by decide +kernel
theorem dX11_told_187 : decode cX11_told 187 = .ok (.ireturn, 1) := by decide +kernel
theorem dX11_told_188 : decode cX11_told 188 = .ok (.aload_n 0, 1) := by decide +kernel
theorem dX11_told_189 : decode cX11_told 189 = .ok (.getfield 199, 3) := by decide +kernel
theorem dX11_told_192 : decode cX11_told 192 = .ok (.ireturn, 1) := by decide +kernel
theorem dX11_isPerson_0 : decode cX11_isPerson 0 = .ok (.iload_n 1, 1) := by decide +kernel
theorem dX11_isPerson_1 : decode cX11_isPerson 1 = .ok (.iconst 0, 1) := by decide +kernel
theorem dX11_isPerson_2 : decode cX11_isPerson 2 = .ok (.aload_n 0, 1) := by decide +kernel
theorem dX11_isPerson_3 : decode cX11_isPerson 3 = .ok (.getfield 23, 3) := by decide +kernel
theorem dX11_isPerson_6 : decode cX11_isPerson 6 = .ok (.iconst 0, 1) := by decide +kernel
theorem dX11_isPerson_7 : decode cX11_isPerson 7 = .ok (.iaload, 1) := by decide +kernel
theorem dX11_isPerson_8 : decode cX11_isPerson 8 = .ok (.iconst 1, 1) := by decide +kernel
theorem dX11_isPerson_9 : decode cX11_isPerson 9 = .ok (.isub, 1) := by decide +kernel
theorem dX11_isPerson_10 : decode cX11_isPerson 10 = .ok (.invokestatic 131, 3) := by decide +kernel
theorem dX11_isPerson_13 : decode cX11_isPerson 13 = .ok (.ireturn, 1) := by decide +kernel
theorem dX11_person_0 : decode cX11_person 0 = .ok (.aload_n 0, 1) := by decide +kernel
theorem dX11_person_1 : decode cX11_person 1 = .ok (.iconst 0, 1) := by decide +kernel
theorem dX11_person_2 : decode cX11_person 2 = .ok (.putfield 97, 3) := by decide +kernel
theorem dX11_person_5 : decode cX11_person 5 = .ok (.aload_n 0, 1) := by decide +kernel
theorem dX11_person_6 : decode cX11_person 6 = .ok (.aload_n 0, 1) := by decide +kernel
theorem dX11_person_7 : decode cX11_person 7 = .ok (.iload_n 1, 1) := by decide +kernel
theorem dX11_person_8 : decode cX11_person 8 = .ok (.invokevirtual 325, 3) := by decide +kernel
theorem dX11_person_11 : decode cX11_person 11 = .ok (.ifCond .ne 7, 3) := by decide +kernel
theorem dX11_person_14 : decode cX11_person 14 = .ok (.iconst 1, 1) := by decide +kernel
theorem dX11_person_15 : decode cX11_person 15 = .ok (.goto 4, 3) := by decide +kernel
theorem dX11_person_18 : decode cX11_person 18 = .ok (.iconst 0, 1) := by decide +kernel
theorem dX11_person_19 : decode cX11_person 19 = .ok (.iconst 1, 1) := by decide +kernel
theorem dX11_person_20 : decode cX11_person 20 = .ok (.iconst 0, 1) := by decide +kernel
theorem dX11_person_21 : decode cX11_person 21 = .ok (.invokevirtual 173, 3) := by decide +kernel
theorem dX11_person_24 : decode cX11_person 24 = .ok (.ifCond .ne 27, 3) := by decide +kernel
theorem dX11_person_27 : decode cX11_person 27 = .ok (.aload_n 0, 1) := by decide +kernel
theorem dX11_person_28 : decode cX11_person 28 = .ok (.iload_n 2, 1) := by decide +kernel
theorem dX11_person_29 : decode cX11_person 29 = .ok (.iconst 0, 1) := by decide +kernel
theorem dX11_person_30 : decode cX11_person 30 = .ok (.bipush 6, 2) := by decide +kernel
theorem dX11_person_32 : decode cX11_person 32 = .ok (.invokestatic 131, 3) := by decide +kernel
theorem dX11_person_35 : decode cX11_person 35 = .ok (.ifCond .ne 7, 3) := by decide +kernel
theorem dX11_person_38 : decode cX11_person 38 = .ok (.iconst 1, 1) := by decide +kernel
theorem dX11_person_39 : decode cX11_person 39 = .ok (.goto 4, 3) := by decide +kernel
theorem dX11_person_42 : decode cX11_person 42 = .ok (.iconst 0, 1) := by decide +kernel
theorem dX11_person_43 : decode cX11_person 43 = .ok (.iconst 2, 1) := by decide +kernel
theorem dX11_person_44 : decode cX11_person 44 = .ok (.iconst 1, 1) := by decide +kernel
theorem dX11_person_45 : decode cX11_person 45 = .ok (.invokevirtual 173, 3) := by decide +kernel
theorem dX11_person_48 : decode cX11_person 48 = .ok (.ifCond .eq 5, 3) := by decide +kernel
theorem dX11_person_51 : decode cX11_person 51 = .ok (.iconst 0, 1) := by decide +kernel
theorem dX11_person_52 : decode cX11_person 52 = .ok (.ireturn, 1) := by decide +kernel
theorem dX11_person_53 : decode cX11_person 53 = .ok (.iload_n 2, 1) := by decide +kernel
theorem dX11_person_54 : decode cX11_person 54 = .ok (.tableswitch 93 0 5 #[38, 47, 56, 66, 76, 83], 38) := by decide +kernel
theorem dX11_person_92 : decode cX11_person 92 = .ok (.aload_n 0, 1) := by decide +kernel
theorem dX11_person_93 : decode cX11_person 93 = .ok (.getfield 73, 3) := by decide +kernel
theorem dX11_person_96 : decode cX11_person 96 = .ok (.iconst 0, 1) := by decide +kernel
theorem dX11_person_97 : decode cX11_person 97 = .ok (.iload_n 1, 1) := by decide +kernel
theorem dX11_person_98 : decode cX11_person 98 = .ok (.iadd, 1) := by decide +kernel
theorem dX11_person_99 : decode cX11_person 99 = .ok (.iaload, 1) := by decide +kernel
theorem dX11_person_100 : decode cX11_person 100 = .ok (.ireturn, 1) := by decide +kernel
theorem dX11_person_101 : decode cX11_person 101 = .ok (.aload_n 0, 1) := by decide +kernel
theorem dX11_person_102 : decode cX11_person 102 = .ok (.getfield 43, 3) := by decide +kernel
theorem dX11_person_105 : decode cX11_person 105 = .ok (.iload_n 1, 1) := by decide +kernel
theorem dX11_person_106 : decode cX11_person 106 = .ok (.aaload, 1) := by decide +kernel
theorem dX11_person_107 : decode cX11_person 107 = .ok (.iconst 1, 1) := by decide +kernel
theorem dX11_person_108 : decode cX11_person 108 = .ok (.iaload, 1) := by decide +kernel
theorem dX11_person_109 : decode cX11_person 109 = .ok (.ireturn, 1) := by decide +kernel
theorem dX11_person_110 : decode cX11_person 110 = .ok (.aload_n 0, 1) := by decide +kernel
theorem dX11_person_111 : decode cX11_person 111 = .ok (.getfield 73, 3) := by decide +kernel
theorem dX11_person_114 : decode cX11_person 114 = .ok (.bipush 6, 2) := by decide +kernel
theorem dX11_person_116 : decode cX11_person 116 = .ok (.iload_n 1, 1) := by decide +kernel
theorem dX11_person_117 : decode cX11_person 117 = .ok (.iadd, 1) := by decide +kernel
theorem dX11_person_118 : decode cX11_person 118 = .ok (.iaload, 1) := by decide +kernel
theorem dX11_person_119 : decode cX11_person 119 = .ok (.ireturn, 1) := by decide +kernel
theorem dX11_person_120 : decode cX11_person 120 = .ok (.aload_n 0, 1) := by decide +kernel
theorem dX11_person_121 : decode cX11_person 121 = .ok (.getfield 73, 3) := by decide +kernel
theorem dX11_person_124 : decode cX11_person 124 = .ok (.bipush 12, 2) := by decide +kernel
theorem dX11_person_126 : decode cX11_person 126 = .ok (.iload_n 1, 1) := by decide +kernel
theorem dX11_person_127 : decode cX11_person 127 = .ok (.iadd, 1) := by decide +kernel
theorem dX11_person_128 : decode cX11_person 128 = .ok (.iaload, 1) := by decide +kernel
theorem dX11_person_129 : decode cX11_person 129 = .ok (.ireturn, 1) := by decide +kernel
theorem dX11_person_130 : decode cX11_person 130 = .ok (.aload_n 0, 1) := by decide +kernel
theorem dX11_person_131 : decode cX11_person 131 = .ok (.getfield 35, 3) := by decide +kernel
theorem dX11_person_134 : decode cX11_person 134 = .ok (.iload_n 1, 1) := by decide +kernel
theorem dX11_person_135 : decode cX11_person 135 = .ok (.iaload, 1) := by decide +kernel
theorem dX11_person_136 : decode cX11_person 136 = .ok (.ireturn, 1) := by decide +kernel
theorem dX11_person_137 : decode cX11_person 137 = .ok (.aload_n 0, 1) := by decide +kernel
theorem dX11_person_138 : decode cX11_person 138 = .ok (.getfield 73, 3) := by decide +kernel
theorem dX11_person_141 : decode cX11_person 141 = .ok (.bipush 18, 2) := by decide +kernel
theorem dX11_person_143 : decode cX11_person 143 = .ok (.iload_n 1, 1) := by decide +kernel
theorem dX11_person_144 : decode cX11_person 144 = .ok (.iadd, 1) := by decide +kernel
theorem dX11_person_145 : decode cX11_person 145 = .ok (.iaload, 1) := by decide +kernel
theorem dX11_person_146 : decode cX11_person 146 = .ok (.ireturn, 1) := by decide +kernel
theorem dX11_person_147 : decode cX11_person 147 = .ok (.aload_n 0, 1) := by decide +kernel
theorem dX11_person_148 : decode cX11_person 148 = .ok (.getfield 73, 3) := by decide +kernel
theorem dX11_person_151 : decode cX11_person 151 = .ok (.bipush 24, 2) := by decide +kernel
theorem dX11_person_153 : decode cX11_person 153 = .ok (.iload_n 1, 1) := by decide +kernel
theorem dX11_person_154 : decode cX11_person 154 = .ok (.iadd, 1) := by decide +kernel
theorem dX11_person_155 : decode cX11_person 155 = .ok (.iaload, 1) := by decide +kernel
theorem dX11_person_156 : decode cX11_person 156 = .ok (.ireturn, 1) := by decide +kernel
theorem dX11_duty_0 : decode cX11_duty 0 = .ok (.aload_n 0, 1) := by decide +kernel
theorem dX11_duty_1 : decode cX11_duty 1 = .ok (.iconst 0, 1) := by decide +kernel
theorem dX11_duty_2 : decode cX11_duty 2 = .ok (.putfield 97, 3) := by decide +kernel
theorem dX11_duty_5 : decode cX11_duty 5 = .ok (.aload_n 0, 1) := by decide +kernel
theorem dX11_duty_6 : decode cX11_duty 6 = .ok (.iload_n 1, 1) := by decide +kernel
theorem dX11_duty_7 : decode cX11_duty 7 = .ok (.iconst 0, 1) := by decide +kernel
theorem dX11_duty_8 : decode cX11_duty 8 = .ok (.aload_n 0, 1) := by decide +kernel
theorem dX11_duty_9 : decode cX11_duty 9 = .ok (.getfield 23, 3) := by decide +kernel
theorem dX11_duty_12 : decode cX11_duty 12 = .ok (.iconst 1, 1) := by decide +kernel
theorem dX11_duty_13 : decode cX11_duty 13 = .ok (.iaload, 1) := by decide +kernel
theorem dX11_duty_14 : decode cX11_duty 14 = .ok (.iconst 1, 1) := by decide +kernel
theorem dX11_duty_15 : decode cX11_duty 15 = .ok (.isub, 1) := by decide +kernel
theorem dX11_duty_16 : decode cX11_duty 16 = .ok (.invokestatic 131, 3) := by decide +kernel
theorem dX11_duty_19 : decode cX11_duty 19 = .ok (.ifCond .ne 7, 3) := by decide +kernel
theorem dX11_duty_22 : decode cX11_duty 22 = .ok (.iconst 1, 1) := by decide +kernel
theorem dX11_duty_23 : decode cX11_duty 23 = .ok (.goto 4, 3) := by decide +kernel
theorem dX11_duty_26 : decode cX11_duty 26 = .ok (.iconst 0, 1) := by decide +kernel
theorem dX11_duty_27 : decode cX11_duty 27 = .ok (.iconst 1, 1) := by decide +kernel
theorem dX11_duty_28 : decode cX11_duty 28 = .ok (.iconst 0, 1) := by decide +kernel
theorem dX11_duty_29 : decode cX11_duty 29 = .ok (.invokevirtual 173, 3) := by decide +kernel
theorem dX11_duty_32 : decode cX11_duty 32 = .ok (.ifCond .ne 26, 3) := by decide +kernel
theorem dX11_duty_35 : decode cX11_duty 35 = .ok (.aload_n 0, 1) := by decide +kernel
theorem dX11_duty_36 : decode cX11_duty 36 = .ok (.iload_n 2, 1) := by decide +kernel
theorem dX11_duty_37 : decode cX11_duty 37 = .ok (.iconst 0, 1) := by decide +kernel
theorem dX11_duty_38 : decode cX11_duty 38 = .ok (.iconst 1, 1) := by decide +kernel
theorem dX11_duty_39 : decode cX11_duty 39 = .ok (.invokestatic 131, 3) := by decide +kernel
theorem dX11_duty_42 : decode cX11_duty 42 = .ok (.ifCond .ne 7, 3) := by decide +kernel
theorem dX11_duty_45 : decode cX11_duty 45 = .ok (.iconst 1, 1) := by decide +kernel
theorem dX11_duty_46 : decode cX11_duty 46 = .ok (.goto 4, 3) := by decide +kernel
theorem dX11_duty_49 : decode cX11_duty 49 = .ok (.iconst 0, 1) := by decide +kernel
theorem dX11_duty_50 : decode cX11_duty 50 = .ok (.iconst 2, 1) := by decide +kernel
theorem dX11_duty_51 : decode cX11_duty 51 = .ok (.iconst 1, 1) := by decide +kernel
theorem dX11_duty_52 : decode cX11_duty 52 = .ok (.invokevirtual 173, 3) := by decide +kernel
theorem dX11_duty_55 : decode cX11_duty 55 = .ok (.ifCond .eq 5, 3) := by decide +kernel
theorem dX11_duty_58 : decode cX11_duty 58 = .ok (.iconst 0, 1) := by decide +kernel
theorem dX11_duty_59 : decode cX11_duty 59 = .ok (.ireturn, 1) := by decide +kernel
theorem dX11_duty_60 : decode cX11_duty 60 = .ok (.iconst 0, 1) := by decide +kernel
theorem dX11_duty_61 : decode cX11_duty 61 = .ok (.istore_n 3, 1) := by decide +kernel
theorem dX11_duty_62 : decode cX11_duty 62 = .ok (.iconst 0, 1) := by decide +kernel
theorem dX11_duty_63 : decode cX11_duty 63 = .ok (.istore 4, 2) := by decide +kernel
theorem dX11_duty_65 : decode cX11_duty 65 = .ok (.iload 4, 2) := by decide +kernel
theorem dX11_duty_67 : decode cX11_duty 67 = .ok (.aload_n 0, 1) := by decide +kernel
theorem dX11_duty_68 : decode cX11_duty 68 = .ok (.getfield 23, 3) := by decide +kernel
theorem dX11_duty_71 : decode cX11_duty 71 = .ok (.iconst 0, 1) := by decide +kernel
theorem dX11_duty_72 : decode cX11_duty 72 = .ok (.iaload, 1) := by decide +kernel
theorem dX11_duty_73 : decode cX11_duty 73 = .ok (.if_icmp .ge 34, 3) := by decide +kernel
theorem dX11_duty_76 : decode cX11_duty 76 = .ok (.iload_n 3, 1) := by decide +kernel
theorem dX11_duty_77 : decode cX11_duty 77 = .ok (.aload_n 0, 1) := by decide +kernel
theorem dX11_duty_78 : decode cX11_duty 78 = .ok (.getfield 35, 3) := by decide +kernel
theorem dX11_duty_81 : decode cX11_duty 81 = .ok (.iload 4, 2) := by decide +kernel
theorem dX11_duty_83 : decode cX11_duty 83 = .ok (.iaload, 1) := by decide +kernel
theorem dX11_duty_84 : decode cX11_duty 84 = .ok (.iload_n 1, 1) := by decide +kernel
theorem dX11_duty_85 : decode cX11_duty 85 = .ok (.invokestatic 255, 3) := by decide +kernel
theorem dX11_duty_88 : decode cX11_duty 88 = .ok (.ifCond .eq 10, 3) := by decide +kernel
theorem dX11_duty_91 : decode cX11_duty 91 = .ok (.iconst 1, 1) := by decide +kernel
theorem dX11_duty_92 : decode cX11_duty 92 = .ok (.iload 4, 2) := by decide +kernel
theorem dX11_duty_94 : decode cX11_duty 94 = .ok (.ishl, 1) := by decide +kernel
theorem dX11_duty_95 : decode cX11_duty 95 = .ok (.goto 4, 3) := by decide +kernel
theorem dX11_duty_98 : decode cX11_duty 98 = .ok (.iconst 0, 1) := by decide +kernel
theorem dX11_duty_99 : decode cX11_duty 99 = .ok (.ior, 1) := by decide +kernel
theorem dX11_duty_100 : decode cX11_duty 100 = .ok (.istore_n 3, 1) := by decide +kernel
theorem dX11_duty_101 : decode cX11_duty 101 = .ok (.iinc 4 1, 3) := by decide +kernel
theorem dX11_duty_104 : decode cX11_duty 104 = .ok (.goto (-39), 3) := by decide +kernel
theorem dX11_duty_107 : decode cX11_duty 107 = .ok (.iload_n 2, 1) := by decide +kernel
theorem dX11_duty_108 : decode cX11_duty 108 = .ok (.ifCond .ne 12, 3) := by decide +kernel
theorem dX11_duty_111 : decode cX11_duty 111 = .ok (.aload_n 0, 1) := by decide +kernel
theorem dX11_duty_112 : decode cX11_duty 112 = .ok (.getfield 29, 3) := by decide +kernel
theorem dX11_duty_115 : decode cX11_duty 115 = .ok (.iload_n 1, 1) := by decide +kernel
theorem dX11_duty_116 : decode cX11_duty 116 = .ok (.iaload, 1) := by decide +kernel
theorem dX11_duty_117 : decode cX11_duty 117 = .ok (.goto 4, 3) := by decide +kernel
theorem dX11_duty_120 : decode cX11_duty 120 = .ok (.iload_n 3, 1) := by decide +kernel
theorem dX11_duty_121 : decode cX11_duty 121 = .ok (.ireturn, 1) := by decide +kernel
theorem dX11_task_0 : decode cX11_task 0 = .ok (.aload_n 0, 1) := by decide +kernel
theorem dX11_task_1 : decode cX11_task 1 = .ok (.iconst 0, 1) := by decide +kernel
theorem dX11_task_2 : decode cX11_task 2 = .ok (.putfield 97, 3) := by decide +kernel
theorem dX11_task_5 : decode cX11_task 5 = .ok (.aload_n 0, 1) := by decide +kernel
theorem dX11_task_6 : decode cX11_task 6 = .ok (.iload_n 1, 1) := by decide +kernel
theorem dX11_task_7 : decode cX11_task 7 = .ok (.iconst 0, 1) := by decide +kernel
theorem dX11_task_8 : decode cX11_task 8 = .ok (.aload_n 0, 1) := by decide +kernel
theorem dX11_task_9 : decode cX11_task 9 = .ok (.getfield 23, 3) := by decide +kernel
theorem dX11_task_12 : decode cX11_task 12 = .ok (.iconst 2, 1) := by decide +kernel
theorem dX11_task_13 : decode cX11_task 13 = .ok (.iaload, 1) := by decide +kernel
theorem dX11_task_14 : decode cX11_task 14 = .ok (.iconst 1, 1) := by decide +kernel
theorem dX11_task_15 : decode cX11_task 15 = .ok (.isub, 1) := by decide +kernel
theorem dX11_task_16 : decode cX11_task 16 = .ok (.invokestatic 131, 3) := by decide +kernel
theorem dX11_task_19 : decode cX11_task 19 = .ok (.ifCond .ne 7, 3) := by decide +kernel
theorem dX11_task_22 : decode cX11_task 22 = .ok (.iconst 1, 1) := by decide +kernel
theorem dX11_task_23 : decode cX11_task 23 = .ok (.goto 4, 3) := by decide +kernel
theorem dX11_task_26 : decode cX11_task 26 = .ok (.iconst 0, 1) := by decide +kernel
theorem dX11_task_27 : decode cX11_task 27 = .ok (.iconst 1, 1) := by decide +kernel
theorem dX11_task_28 : decode cX11_task 28 = .ok (.iconst 0, 1) := by decide +kernel
theorem dX11_task_29 : decode cX11_task 29 = .ok (.invokevirtual 173, 3) := by decide +kernel
theorem dX11_task_32 : decode cX11_task 32 = .ok (.ifCond .ne 26, 3) := by decide +kernel
theorem dX11_task_35 : decode cX11_task 35 = .ok (.aload_n 0, 1) := by decide +kernel
theorem dX11_task_36 : decode cX11_task 36 = .ok (.iload_n 2, 1) := by decide +kernel
theorem dX11_task_37 : decode cX11_task 37 = .ok (.iconst 0, 1) := by decide +kernel
theorem dX11_task_38 : decode cX11_task 38 = .ok (.iconst 3, 1) := by decide +kernel
theorem dX11_task_39 : decode cX11_task 39 = .ok (.invokestatic 131, 3) := by decide +kernel
theorem dX11_task_42 : decode cX11_task 42 = .ok (.ifCond .ne 7, 3) := by decide +kernel
theorem dX11_task_45 : decode cX11_task 45 = .ok (.iconst 1, 1) := by decide +kernel
theorem dX11_task_46 : decode cX11_task 46 = .ok (.goto 4, 3) := by decide +kernel
theorem dX11_task_49 : decode cX11_task 49 = .ok (.iconst 0, 1) := by decide +kernel
theorem dX11_task_50 : decode cX11_task 50 = .ok (.iconst 2, 1) := by decide +kernel
theorem dX11_task_51 : decode cX11_task 51 = .ok (.iconst 1, 1) := by decide +kernel
theorem dX11_task_52 : decode cX11_task 52 = .ok (.invokevirtual 173, 3) := by decide +kernel
theorem dX11_task_55 : decode cX11_task 55 = .ok (.ifCond .eq 5, 3) := by decide +kernel
theorem dX11_task_58 : decode cX11_task 58 = .ok (.iconst 0, 1) := by decide +kernel
theorem dX11_task_59 : decode cX11_task 59 = .ok (.ireturn, 1) := by decide +kernel
theorem dX11_task_60 : decode cX11_task 60 = .ok (.iload_n 2, 1) := by decide +kernel
theorem dX11_task_61 : decode cX11_task 61 = .ok (.iconst 1, 1) := by decide +kernel
theorem dX11_task_62 : decode cX11_task 62 = .ok (.if_icmp .ne 15, 3) := by decide +kernel
theorem dX11_task_65 : decode cX11_task 65 = .ok (.aload_n 0, 1) := by decide +kernel
theorem dX11_task_66 : decode cX11_task 66 = .ok (.getfield 73, 3) := by decide +kernel
theorem dX11_task_69 : decode cX11_task 69 = .ok (.bipush 30, 2) := by decide +kernel
theorem dX11_task_71 : decode cX11_task 71 = .ok (.iload_n 1, 1) := by decide +kernel
theorem dX11_task_72 : decode cX11_task 72 = .ok (.iadd, 1) := by decide +kernel
theorem dX11_task_73 : decode cX11_task 73 = .ok (.iaload, 1) := by decide +kernel
theorem dX11_task_74 : decode cX11_task 74 = .ok (.goto 28, 3) := by decide +kernel
theorem dX11_task_77 : decode cX11_task 77 = .ok (.iload_n 2, 1) := by decide +kernel
theorem dX11_task_78 : decode cX11_task 78 = .ok (.iconst 3, 1) := by decide +kernel
theorem dX11_task_79 : decode cX11_task 79 = .ok (.if_icmp .ne 15, 3) := by decide +kernel
theorem dX11_task_82 : decode cX11_task 82 = .ok (.aload_n 0, 1) := by decide +kernel
theorem dX11_task_83 : decode cX11_task 83 = .ok (.getfield 73, 3) := by decide +kernel
theorem dX11_task_86 : decode cX11_task 86 = .ok (.bipush 42, 2) := by decide +kernel
theorem dX11_task_88 : decode cX11_task 88 = .ok (.iload_n 1, 1) := by decide +kernel
theorem dX11_task_89 : decode cX11_task 89 = .ok (.iadd, 1) := by decide +kernel
theorem dX11_task_90 : decode cX11_task 90 = .ok (.iaload, 1) := by decide +kernel
theorem dX11_task_91 : decode cX11_task 91 = .ok (.goto 11, 3) := by decide +kernel
theorem dX11_task_94 : decode cX11_task 94 = .ok (.aload_n 0, 1) := by decide +kernel
theorem dX11_task_95 : decode cX11_task 95 = .ok (.getfield 49, 3) := by decide +kernel
theorem dX11_task_98 : decode cX11_task 98 = .ok (.iload_n 1, 1) := by decide +kernel
theorem dX11_task_99 : decode cX11_task 99 = .ok (.aaload, 1) := by decide +kernel
theorem dX11_task_100 : decode cX11_task 100 = .ok (.iload_n 2, 1) := by decide +kernel
theorem dX11_task_101 : decode cX11_task 101 = .ok (.iaload, 1) := by decide +kernel
theorem dX11_task_102 : decode cX11_task 102 = .ok (.ireturn, 1) := by decide +kernel
theorem dX11_price_0 : decode cX11_price 0 = .ok (.aload_n 0, 1) := by decide +kernel
theorem dX11_price_1 : decode cX11_price 1 = .ok (.iconst 0, 1) := by decide +kernel
theorem dX11_price_2 : decode cX11_price 2 = .ok (.putfield 97, 3) := by decide +kernel
theorem dX11_price_5 : decode cX11_price 5 = .ok (.aload_n 0, 1) := by decide +kernel
theorem dX11_price_6 : decode cX11_price 6 = .ok (.aload_n 0, 1) := by decide +kernel
theorem dX11_price_7 : decode cX11_price 7 = .ok (.iload_n 1, 1) := by decide +kernel
theorem dX11_price_8 : decode cX11_price 8 = .ok (.invokevirtual 325, 3) := by decide +kernel
theorem dX11_price_11 : decode cX11_price 11 = .ok (.ifCond .ne 7, 3) := by decide +kernel
theorem dX11_price_14 : decode cX11_price 14 = .ok (.iconst 1, 1) := by decide +kernel
theorem dX11_price_15 : decode cX11_price 15 = .ok (.goto 4, 3) := by decide +kernel
theorem dX11_price_18 : decode cX11_price 18 = .ok (.iconst 0, 1) := by decide +kernel
theorem dX11_price_19 : decode cX11_price 19 = .ok (.iconst 1, 1) := by decide +kernel
theorem dX11_price_20 : decode cX11_price 20 = .ok (.iconst 0, 1) := by decide +kernel
theorem dX11_price_21 : decode cX11_price 21 = .ok (.invokevirtual 173, 3) := by decide +kernel
theorem dX11_price_24 : decode cX11_price 24 = .ok (.ifCond .eq 5, 3) := by decide +kernel
theorem dX11_price_27 : decode cX11_price 27 = .ok (.iconst 0, 1) := by decide +kernel
theorem dX11_price_28 : decode cX11_price 28 = .ok (.ireturn, 1) := by decide +kernel
theorem dX11_price_29 : decode cX11_price 29 = .ok (.aload_n 0, 1) := by decide +kernel
theorem dX11_price_30 : decode cX11_price 30 = .ok (.aload_n 0, 1) := by decide +kernel
theorem dX11_price_31 : decode cX11_price 31 = .ok (.getfield 73, 3) := by decide +kernel
theorem dX11_price_34 : decode cX11_price 34 = .ok (.iload_n 1, 1) := by decide +kernel
theorem dX11_price_35 : decode cX11_price 35 = .ok (.invokevirtual 279, 3) := by decide +kernel
theorem dX11_price_38 : decode cX11_price 38 = .ok (.ireturn, 1) := by decide +kernel
theorem dX11_would_0 : decode cX11_would 0 = .ok (.aload_n 0, 1) := by decide +kernel
theorem dX11_would_1 : decode cX11_would 1 = .ok (.iconst 0, 1) := by decide +kernel
theorem dX11_would_2 : decode cX11_would 2 = .ok (.putfield 97, 3) := by decide +kernel
theorem dX11_would_5 : decode cX11_would 5 = .ok (.aload_n 0, 1) := by decide +kernel
theorem dX11_would_6 : decode cX11_would 6 = .ok (.iload_n 1, 1) := by decide +kernel
theorem dX11_would_7 : decode cX11_would 7 = .ok (.iconst 0, 1) := by decide +kernel
theorem dX11_would_8 : decode cX11_would 8 = .ok (.sipush 300, 3) := by decide +kernel
theorem dX11_would_11 : decode cX11_would 11 = .ok (.invokestatic 131, 3) := by decide +kernel
theorem dX11_would_14 : decode cX11_would 14 = .ok (.ifCond .eq 78, 3) := by decide +kernel
theorem dX11_would_17 : decode cX11_would 17 = .ok (.iload_n 2, 1) := by decide +kernel
theorem dX11_would_18 : decode cX11_would 18 = .ok (.iconst 0, 1) := by decide +kernel
theorem dX11_would_19 : decode cX11_would 19 = .ok (.iconst 5, 1) := by decide +kernel
theorem dX11_would_20 : decode cX11_would 20 = .ok (.invokestatic 131, 3) := by decide +kernel
theorem dX11_would_23 : decode cX11_would 23 = .ok (.ifCond .eq 69, 3) := by decide +kernel
theorem dX11_would_26 : decode cX11_would 26 = .ok (.iload_n 3, 1) := by decide +kernel
theorem dX11_would_27 : decode cX11_would 27 = .ok (.iconst 0, 1) := by decide +kernel
theorem dX11_would_28 : decode cX11_would 28 = .ok (.sipush 999, 3) := by decide +kernel
theorem dX11_would_31 : decode cX11_would 31 = .ok (.invokestatic 131, 3) := by decide +kernel
theorem dX11_would_34 : decode cX11_would 34 = .ok (.ifCond .eq 58, 3) := by decide +kernel
theorem dX11_would_37 : decode cX11_would 37 = .ok (.iload 4, 2) := by decide +kernel
theorem dX11_would_39 : decode cX11_would 39 = .ok (.iconst 0, 1) := by decide +kernel
theorem dX11_would_40 : decode cX11_would 40 = .ok (.sipush 999, 3) := by decide +kernel
theorem dX11_would_43 : decode cX11_would 43 = .ok (.invokestatic 131, 3) := by decide +kernel
theorem dX11_would_46 : decode cX11_would 46 = .ok (.ifCond .eq 46, 3) := by decide +kernel
theorem dX11_would_49 : decode cX11_would 49 = .ok (.iload 5, 2) := by decide +kernel
theorem dX11_would_51 : decode cX11_would 51 = .ok (.iconst 0, 1) := by decide +kernel
theorem dX11_would_52 : decode cX11_would 52 = .ok (.bipush 30, 2) := by decide +kernel
theorem dX11_would_54 : decode cX11_would 54 = .ok (.invokestatic 131, 3) := by decide +kernel
theorem dX11_would_57 : decode cX11_would 57 = .ok (.ifCond .eq 35, 3) := by decide +kernel
theorem dX11_would_60 : decode cX11_would 60 = .ok (.iload 6, 2) := by decide +kernel
theorem dX11_would_62 : decode cX11_would 62 = .ok (.iconst 0, 1) := by decide +kernel
theorem dX11_would_63 : decode cX11_would 63 = .ok (.bipush 6, 2) := by decide +kernel
theorem dX11_would_65 : decode cX11_would 65 = .ok (.invokestatic 131, 3) := by decide +kernel
theorem dX11_would_68 : decode cX11_would 68 = .ok (.ifCond .eq 24, 3) := by decide +kernel
theorem dX11_would_71 : decode cX11_would 71 = .ok (.iload 7, 2) := by decide +kernel
theorem dX11_would_73 : decode cX11_would 73 = .ok (.iconst 0, 1) := by decide +kernel
theorem dX11_would_74 : decode cX11_would 74 = .ok (.bipush 12, 2) := by decide +kernel
theorem dX11_would_76 : decode cX11_would 76 = .ok (.invokestatic 131, 3) := by decide +kernel
theorem dX11_would_79 : decode cX11_would 79 = .ok (.ifCond .eq 13, 3) := by decide +kernel
theorem dX11_would_82 : decode cX11_would 82 = .ok (.iload 8, 2) := by decide +kernel
theorem dX11_would_84 : decode cX11_would 84 = .ok (.iconst 0, 1) := by decide +kernel
theorem dX11_would_85 : decode cX11_would 85 = .ok (.iconst 5, 1) := by decide +kernel
theorem dX11_would_86 : decode cX11_would 86 = .ok (.invokestatic 131, 3) := by decide +kernel
theorem dX11_would_89 : decode cX11_would 89 = .ok (.ifCond .ne 7, 3) := by decide +kernel
theorem dX11_would_92 : decode cX11_would 92 = .ok (.iconst 1, 1) := by decide +kernel
theorem dX11_would_93 : decode cX11_would 93 = .ok (.goto 4, 3) := by decide +kernel
theorem dX11_would_96 : decode cX11_would 96 = .ok (.iconst 0, 1) := by decide +kernel
theorem dX11_would_97 : decode cX11_would 97 = .ok (.iconst 1, 1) := by decide +kernel
theorem dX11_would_98 : decode cX11_would 98 = .ok (.iconst 1, 1) := by decide +kernel
theorem dX11_would_99 : decode cX11_would 99 = .ok (.invokevirtual 173, 3) := by decide +kernel
theorem dX11_would_102 : decode cX11_would 102 = .ok (.ifCond .eq 5, 3) := by decide +kernel
theorem dX11_would_105 : decode cX11_would 105 = .ok (.iconst 0, 1) := by decide +kernel
theorem dX11_would_106 : decode cX11_would 106 = .ok (.ireturn, 1) := by decide +kernel
theorem dX11_would_107 : decode cX11_would 107 = .ok (.aload_n 0, 1) := by decide +kernel
theorem dX11_would_108 : decode cX11_would 108 = .ok (.iload_n 1, 1) := by decide +kernel
theorem dX11_would_109 : decode cX11_would 109 = .ok (.iload_n 2, 1) := by decide +kernel
theorem dX11_would_110 : decode cX11_would 110 = .ok (.iload_n 3, 1) := by decide +kernel
theorem dX11_would_111 : decode cX11_would 111 = .ok (.iload 4, 2) := by decide +kernel
theorem dX11_would_113 : decode cX11_would 113 = .ok (.iload 5, 2) := by decide +kernel
theorem dX11_would_115 : decode cX11_would 115 = .ok (.iload 6, 2) := by decide +kernel
theorem dX11_would_117 : decode cX11_would 117 = .ok (.iload 7, 2) := by decide +kernel
theorem dX11_would_119 : decode cX11_would 119 = .ok (.iload 8, 2) := by decide +kernel
theorem dX11_would_121 : decode cX11_would 121 = .ok (.invokevirtual 275, 3) := by decide +kernel
theorem dX11_would_124 : decode cX11_would 124 = .ok (.ireturn, 1) := by decide +kernel
theorem dX11_can_0 : decode cX11_can 0 = .ok (.aload_n 0, 1) := by decide +kernel
theorem dX11_can_1 : decode cX11_can 1 = .ok (.iconst 0, 1) := by decide +kernel
theorem dX11_can_2 : decode cX11_can 2 = .ok (.putfield 97, 3) := by decide +kernel
theorem dX11_can_5 : decode cX11_can 5 = .ok (.aload_n 0, 1) := by decide +kernel
theorem dX11_can_6 : decode cX11_can 6 = .ok (.aload_n 0, 1) := by decide +kernel
theorem dX11_can_7 : decode cX11_can 7 = .ok (.iload_n 1, 1) := by decide +kernel
theorem dX11_can_8 : decode cX11_can 8 = .ok (.invokevirtual 325, 3) := by decide +kernel
theorem dX11_can_11 : decode cX11_can 11 = .ok (.ifCond .ne 7, 3) := by decide +kernel
theorem dX11_can_14 : decode cX11_can 14 = .ok (.iconst 1, 1) := by decide +kernel
theorem dX11_can_15 : decode cX11_can 15 = .ok (.goto 4, 3) := by decide +kernel
theorem dX11_can_18 : decode cX11_can 18 = .ok (.iconst 0, 1) := by decide +kernel
theorem dX11_can_19 : decode cX11_can 19 = .ok (.iconst 1, 1) := by decide +kernel
theorem dX11_can_20 : decode cX11_can 20 = .ok (.iconst 0, 1) := by decide +kernel
theorem dX11_can_21 : decode cX11_can 21 = .ok (.invokevirtual 173, 3) := by decide +kernel
theorem dX11_can_24 : decode cX11_can 24 = .ok (.ifCond .eq 5, 3) := by decide +kernel
theorem dX11_can_27 : decode cX11_can 27 = .ok (.iconst 0, 1) := by decide +kernel
theorem dX11_can_28 : decode cX11_can 28 = .ok (.ireturn, 1) := by decide +kernel
theorem dX11_can_29 : decode cX11_can 29 = .ok (.aload_n 0, 1) := by decide +kernel
theorem dX11_can_30 : decode cX11_can 30 = .ok (.aload_n 0, 1) := by decide +kernel
theorem dX11_can_31 : decode cX11_can 31 = .ok (.getfield 73, 3) := by decide +kernel
theorem dX11_can_34 : decode cX11_can 34 = .ok (.iload_n 1, 1) := by decide +kernel
theorem dX11_can_35 : decode cX11_can 35 = .ok (.invokevirtual 282, 3) := by decide +kernel
theorem dX11_can_38 : decode cX11_can 38 = .ok (.ireturn, 1) := by decide +kernel
theorem dX11_ahead_0 : decode cX11_ahead 0 = .ok (.aload_n 0, 1) := by decide +kernel
theorem dX11_ahead_1 : decode cX11_ahead 1 = .ok (.iconst 0, 1) := by decide +kernel
theorem dX11_ahead_2 : decode cX11_ahead 2 = .ok (.putfield 97, 3) := by decide +kernel
theorem dX11_ahead_5 : decode cX11_ahead 5 = .ok (.aload_n 0, 1) := by decide +kernel
theorem dX11_ahead_6 : decode cX11_ahead 6 = .ok (.iload_n 1, 1) := by decide +kernel
theorem dX11_ahead_7 : decode cX11_ahead 7 = .ok (.iconst 0, 1) := by decide +kernel
theorem dX11_ahead_8 : decode cX11_ahead 8 = .ok (.bipush 99, 2) := by decide +kernel
theorem dX11_ahead_10 : decode cX11_ahead 10 = .ok (.invokestatic 131, 3) := by decide +kernel
theorem dX11_ahead_13 : decode cX11_ahead 13 = .ok (.ifCond .eq 12, 3) := by decide +kernel
theorem dX11_ahead_16 : decode cX11_ahead 16 = .ok (.iload_n 2, 1) := by decide +kernel
theorem dX11_ahead_17 : decode cX11_ahead 17 = .ok (.iconst 0, 1) := by decide +kernel
theorem dX11_ahead_18 : decode cX11_ahead 18 = .ok (.iconst 2, 1) := by decide +kernel
theorem dX11_ahead_19 : decode cX11_ahead 19 = .ok (.invokestatic 131, 3) := by decide +kernel
theorem dX11_ahead_22 : decode cX11_ahead 22 = .ok (.ifCond .ne 7, 3) := by decide +kernel
theorem dX11_ahead_25 : decode cX11_ahead 25 = .ok (.iconst 1, 1) := by decide +kernel
theorem dX11_ahead_26 : decode cX11_ahead 26 = .ok (.goto 4, 3) := by decide +kernel
theorem dX11_ahead_29 : decode cX11_ahead 29 = .ok (.iconst 0, 1) := by decide +kernel
theorem dX11_ahead_30 : decode cX11_ahead 30 = .ok (.iconst 1, 1) := by decide +kernel
theorem dX11_ahead_31 : decode cX11_ahead 31 = .ok (.iconst 1, 1) := by decide +kernel
theorem dX11_ahead_32 : decode cX11_ahead 32 = .ok (.invokevirtual 173, 3) := by decide +kernel
theorem dX11_ahead_35 : decode cX11_ahead 35 = .ok (.ifCond .eq 5, 3) := by decide +kernel
theorem dX11_ahead_38 : decode cX11_ahead 38 = .ok (.iconst 0, 1) := by decide +kernel
theorem dX11_ahead_39 : decode cX11_ahead 39 = .ok (.ireturn, 1) := by decide +kernel
theorem dX11_ahead_40 : decode cX11_ahead 40 = .ok (.aload_n 0, 1) := by decide +kernel
theorem dX11_ahead_41 : decode cX11_ahead 41 = .ok (.getfield 73, 3) := by decide +kernel
theorem dX11_ahead_44 : decode cX11_ahead 44 = .ok (.aload_n 0, 1) := by decide +kernel
theorem dX11_ahead_45 : decode cX11_ahead 45 = .ok (.getfield 76, 3) := by decide +kernel
theorem dX11_ahead_48 : decode cX11_ahead 48 = .ok (.invokestatic 315, 3) := by decide +kernel
theorem dX11_ahead_51 : decode cX11_ahead 51 = .ok (.iconst 0, 1) := by decide +kernel
theorem dX11_ahead_52 : decode cX11_ahead 52 = .ok (.istore_n 3, 1) := by decide +kernel
theorem dX11_ahead_53 : decode cX11_ahead 53 = .ok (.iload_n 3, 1) := by decide +kernel
theorem dX11_ahead_54 : decode cX11_ahead 54 = .ok (.iload_n 1, 1) := by decide +kernel
theorem dX11_ahead_55 : decode cX11_ahead 55 = .ok (.if_icmp .ge 17, 3) := by decide +kernel
theorem dX11_ahead_58 : decode cX11_ahead 58 = .ok (.aload_n 0, 1) := by decide +kernel
theorem dX11_ahead_59 : decode cX11_ahead 59 = .ok (.aload_n 0, 1) := by decide +kernel
theorem dX11_ahead_60 : decode cX11_ahead 60 = .ok (.getfield 76, 3) := by decide +kernel
theorem dX11_ahead_63 : decode cX11_ahead 63 = .ok (.invokevirtual 298, 3) := by decide +kernel
theorem dX11_ahead_66 : decode cX11_ahead 66 = .ok (.iinc 3 1, 3) := by decide +kernel
theorem dX11_ahead_69 : decode cX11_ahead 69 = .ok (.goto (-16), 3) := by decide +kernel
theorem dX11_ahead_72 : decode cX11_ahead 72 = .ok (.iload_n 2, 1) := by decide +kernel
theorem dX11_ahead_73 : decode cX11_ahead 73 = .ok (.ifCond .ne 15, 3) := by decide +kernel
theorem dX11_ahead_76 : decode cX11_ahead 76 = .ok (.aload_n 0, 1) := by decide +kernel
theorem dX11_ahead_77 : decode cX11_ahead 77 = .ok (.aload_n 0, 1) := by decide +kernel
theorem dX11_ahead_78 : decode cX11_ahead 78 = .ok (.getfield 76, 3) := by decide +kernel
theorem dX11_ahead_81 : decode cX11_ahead 81 = .ok (.iconst 0, 1) := by decide +kernel
theorem dX11_ahead_82 : decode cX11_ahead 82 = .ok (.invokevirtual 322, 3) := by decide +kernel
theorem dX11_ahead_85 : decode cX11_ahead 85 = .ok (.goto 29, 3) := by decide +kernel
theorem dX11_ahead_88 : decode cX11_ahead 88 = .ok (.iload_n 2, 1) := by decide +kernel
theorem dX11_ahead_89 : decode cX11_ahead 89 = .ok (.iconst 1, 1) := by decide +kernel
theorem dX11_ahead_90 : decode cX11_ahead 90 = .ok (.if_icmp .ne 16, 3) := by decide +kernel
theorem dX11_ahead_93 : decode cX11_ahead 93 = .ok (.aload_n 0, 1) := by decide +kernel
theorem dX11_ahead_94 : decode cX11_ahead 94 = .ok (.aload_n 0, 1) := by decide +kernel
theorem dX11_ahead_95 : decode cX11_ahead 95 = .ok (.getfield 76, 3) := by decide +kernel
theorem dX11_ahead_98 : decode cX11_ahead 98 = .ok (.bipush 6, 2) := by decide +kernel
theorem dX11_ahead_100 : decode cX11_ahead 100 = .ok (.invokevirtual 322, 3) := by decide +kernel
theorem dX11_ahead_103 : decode cX11_ahead 103 = .ok (.goto 11, 3) := by decide +kernel
theorem dX11_ahead_106 : decode cX11_ahead 106 = .ok (.aload_n 0, 1) := by decide +kernel
theorem dX11_ahead_107 : decode cX11_ahead 107 = .ok (.aload_n 0, 1) := by decide +kernel
theorem dX11_ahead_108 : decode cX11_ahead 108 = .ok (.getfield 76, 3) := by decide +kernel
theorem dX11_ahead_111 : decode cX11_ahead 111 = .ok (.invokevirtual 319, 3) := by decide +kernel
theorem dX11_ahead_114 : decode cX11_ahead 114 = .ok (.ireturn, 1) := by decide +kernel
theorem dX11_left_0 : decode cX11_left 0 = .ok (.aload_n 0, 1) := by decide +kernel
theorem dX11_left_1 : decode cX11_left 1 = .ok (.iconst 0, 1) := by decide +kernel
theorem dX11_left_2 : decode cX11_left 2 = .ok (.putfield 97, 3) := by decide +kernel
theorem dX11_left_5 : decode cX11_left 5 = .ok (.aload_n 0, 1) := by decide +kernel
theorem dX11_left_6 : decode cX11_left 6 = .ok (.aload_n 0, 1) := by decide +kernel
theorem dX11_left_7 : decode cX11_left 7 = .ok (.getfield 73, 3) := by decide +kernel
theorem dX11_left_10 : decode cX11_left 10 = .ok (.invokevirtual 285, 3) := by decide +kernel
theorem dX11_left_13 : decode cX11_left 13 = .ok (.ireturn, 1) := by decide +kernel
theorem dX11_stay_0 : decode cX11_stay 0 = .ok (.aload_n 0, 1) := by decide +kernel
theorem dX11_stay_1 : decode cX11_stay 1 = .ok (.iconst 0, 1) := by decide +kernel
theorem dX11_stay_2 : decode cX11_stay 2 = .ok (.putfield 97, 3) := by decide +kernel
theorem dX11_stay_5 : decode cX11_stay 5 = .ok (.aload_n 0, 1) := by decide +kernel
theorem dX11_stay_6 : decode cX11_stay 6 = .ok (.iload_n 1, 1) := by decide +kernel
theorem dX11_stay_7 : decode cX11_stay 7 = .ok (.iconst 0, 1) := by decide +kernel
theorem dX11_stay_8 : decode cX11_stay 8 = .ok (.iconst 1, 1) := by decide +kernel
theorem dX11_stay_9 : decode cX11_stay 9 = .ok (.aload_n 0, 1) := by decide +kernel
theorem dX11_stay_10 : decode cX11_stay 10 = .ok (.getfield 23, 3) := by decide +kernel
theorem dX11_stay_13 : decode cX11_stay 13 = .ok (.iconst 1, 1) := by decide +kernel
theorem dX11_stay_14 : decode cX11_stay 14 = .ok (.iaload, 1) := by decide +kernel
theorem dX11_stay_15 : decode cX11_stay 15 = .ok (.ishl, 1) := by decide +kernel
theorem dX11_stay_16 : decode cX11_stay 16 = .ok (.iconst 1, 1) := by decide +kernel
theorem dX11_stay_17 : decode cX11_stay 17 = .ok (.isub, 1) := by decide +kernel
theorem dX11_stay_18 : decode cX11_stay 18 = .ok (.invokestatic 131, 3) := by decide +kernel
theorem dX11_stay_21 : decode cX11_stay 21 = .ok (.ifCond .ne 7, 3) := by decide +kernel
theorem dX11_stay_24 : decode cX11_stay 24 = .ok (.iconst 1, 1) := by decide +kernel
theorem dX11_stay_25 : decode cX11_stay 25 = .ok (.goto 4, 3) := by decide +kernel
theorem dX11_stay_28 : decode cX11_stay 28 = .ok (.iconst 0, 1) := by decide +kernel
theorem dX11_stay_29 : decode cX11_stay 29 = .ok (.iconst 1, 1) := by decide +kernel
theorem dX11_stay_30 : decode cX11_stay 30 = .ok (.iconst 1, 1) := by decide +kernel
theorem dX11_stay_31 : decode cX11_stay 31 = .ok (.invokevirtual 173, 3) := by decide +kernel
theorem dX11_stay_34 : decode cX11_stay 34 = .ok (.ifCond .eq 5, 3) := by decide +kernel
theorem dX11_stay_37 : decode cX11_stay 37 = .ok (.iconst 0, 1) := by decide +kernel
theorem dX11_stay_38 : decode cX11_stay 38 = .ok (.ireturn, 1) := by decide +kernel
theorem dX11_stay_39 : decode cX11_stay 39 = .ok (.iconst (-1), 1) := by decide +kernel
theorem dX11_stay_40 : decode cX11_stay 40 = .ok (.istore_n 2, 1) := by decide +kernel
theorem dX11_stay_41 : decode cX11_stay 41 = .ok (.iconst 1, 1) := by decide +kernel
theorem dX11_stay_42 : decode cX11_stay 42 = .ok (.aload_n 0, 1) := by decide +kernel
theorem dX11_stay_43 : decode cX11_stay 43 = .ok (.getfield 23, 3) := by decide +kernel
theorem dX11_stay_46 : decode cX11_stay 46 = .ok (.iconst 0, 1) := by decide +kernel
theorem dX11_stay_47 : decode cX11_stay 47 = .ok (.iaload, 1) := by decide +kernel
theorem dX11_stay_48 : decode cX11_stay 48 = .ok (.ishl, 1) := by decide +kernel
theorem dX11_stay_49 : decode cX11_stay 49 = .ok (.iconst 1, 1) := by decide +kernel
theorem dX11_stay_50 : decode cX11_stay 50 = .ok (.isub, 1) := by decide +kernel
theorem dX11_stay_51 : decode cX11_stay 51 = .ok (.istore_n 3, 1) := by decide +kernel
theorem dX11_stay_52 : decode cX11_stay 52 = .ok (.iload_n 3, 1) := by decide +kernel
theorem dX11_stay_53 : decode cX11_stay 53 = .ok (.ifCond .lt 88, 3) := by decide +kernel
theorem dX11_stay_56 : decode cX11_stay 56 = .ok (.iconst 0, 1) := by decide +kernel
theorem dX11_stay_57 : decode cX11_stay 57 = .ok (.istore 4, 2) := by decide +kernel
theorem dX11_stay_59 : decode cX11_stay 59 = .ok (.iconst 0, 1) := by decide +kernel
theorem dX11_stay_60 : decode cX11_stay 60 = .ok (.istore 5, 2) := by decide +kernel
theorem dX11_stay_62 : decode cX11_stay 62 = .ok (.iload 5, 2) := by decide +kernel
theorem dX11_stay_64 : decode cX11_stay 64 = .ok (.aload_n 0, 1) := by decide +kernel
theorem dX11_stay_65 : decode cX11_stay 65 = .ok (.getfield 23, 3) := by decide +kernel
theorem dX11_stay_68 : decode cX11_stay 68 = .ok (.iconst 0, 1) := by decide +kernel
theorem dX11_stay_69 : decode cX11_stay 69 = .ok (.iaload, 1) := by decide +kernel
theorem dX11_stay_70 : decode cX11_stay 70 = .ok (.if_icmp .ge 34, 3) := by decide +kernel
theorem dX11_stay_73 : decode cX11_stay 73 = .ok (.iload 4, 2) := by decide +kernel
theorem dX11_stay_75 : decode cX11_stay 75 = .ok (.iload_n 3, 1) := by decide +kernel
theorem dX11_stay_76 : decode cX11_stay 76 = .ok (.iload 5, 2) := by decide +kernel
theorem dX11_stay_78 : decode cX11_stay 78 = .ok (.invokestatic 255, 3) := by decide +kernel
theorem dX11_stay_81 : decode cX11_stay 81 = .ok (.ifCond .eq 13, 3) := by decide +kernel
theorem dX11_stay_84 : decode cX11_stay 84 = .ok (.aload_n 0, 1) := by decide +kernel
theorem dX11_stay_85 : decode cX11_stay 85 = .ok (.getfield 35, 3) := by decide +kernel
theorem dX11_stay_88 : decode cX11_stay 88 = .ok (.iload 5, 2) := by decide +kernel
theorem dX11_stay_90 : decode cX11_stay 90 = .ok (.iaload, 1) := by decide +kernel
theorem dX11_stay_91 : decode cX11_stay 91 = .ok (.goto 4, 3) := by decide +kernel
theorem dX11_stay_94 : decode cX11_stay 94 = .ok (.iconst 0, 1) := by decide +kernel
theorem dX11_stay_95 : decode cX11_stay 95 = .ok (.ior, 1) := by decide +kernel
theorem dX11_stay_96 : decode cX11_stay 96 = .ok (.istore 4, 2) := by decide +kernel
theorem dX11_stay_98 : decode cX11_stay 98 = .ok (.iinc 5 1, 3) := by decide +kernel
theorem dX11_stay_101 : decode cX11_stay 101 = .ok (.goto (-39), 3) := by decide +kernel
theorem dX11_stay_104 : decode cX11_stay 104 = .ok (.iload_n 1, 1) := by decide +kernel
theorem dX11_stay_105 : decode cX11_stay 105 = .ok (.iload 4, 2) := by decide +kernel
theorem dX11_stay_107 : decode cX11_stay 107 = .ok (.iconst (-1), 1) := by decide +kernel
theorem dX11_stay_108 : decode cX11_stay 108 = .ok (.ixor, 1) := by decide +kernel
theorem dX11_stay_109 : decode cX11_stay 109 = .ok (.iand, 1) := by decide +kernel
theorem dX11_stay_110 : decode cX11_stay 110 = .ok (.ifCond .ne 23, 3) := by decide +kernel
theorem dX11_stay_113 : decode cX11_stay 113 = .ok (.iload_n 2, 1) := by decide +kernel
theorem dX11_stay_114 : decode cX11_stay 114 = .ok (.iconst (-1), 1) := by decide +kernel
theorem dX11_stay_115 : decode cX11_stay 115 = .ok (.if_icmp .eq 14, 3) := by decide +kernel
theorem dX11_stay_118 : decode cX11_stay 118 = .ok (.iload_n 3, 1) := by decide +kernel
theorem dX11_stay_119 : decode cX11_stay 119 = .ok (.invokestatic 272, 3) := by decide +kernel
theorem dX11_stay_122 : decode cX11_stay 122 = .ok (.iload_n 2, 1) := by decide +kernel
theorem dX11_stay_123 : decode cX11_stay 123 = .ok (.invokestatic 272, 3) := by decide +kernel
theorem dX11_stay_126 : decode cX11_stay 126 = .ok (.if_icmp .gt 7, 3) := by decide +kernel
theorem dX11_stay_129 : decode cX11_stay 129 = .ok (.iload_n 3, 1) := by decide +kernel
theorem dX11_stay_130 : decode cX11_stay 130 = .ok (.goto 4, 3) := by decide +kernel
theorem dX11_stay_133 : decode cX11_stay 133 = .ok (.iload_n 2, 1) := by decide +kernel
theorem dX11_stay_134 : decode cX11_stay 134 = .ok (.istore_n 2, 1) := by decide +kernel
theorem dX11_stay_135 : decode cX11_stay 135 = .ok (.iinc 3 (-1), 3) := by decide +kernel
theorem dX11_stay_138 : decode cX11_stay 138 = .ok (.goto (-86), 3) := by decide +kernel
theorem dX11_stay_141 : decode cX11_stay 141 = .ok (.iload_n 2, 1) := by decide +kernel
theorem dX11_stay_142 : decode cX11_stay 142 = .ok (.ireturn, 1) := by decide +kernel
theorem dX11_givesFrom_0 : decode cX11_givesFrom 0 = .ok (.iload_n 1, 1) := by decide +kernel
theorem dX11_givesFrom_1 : decode cX11_givesFrom 1 = .ok (.aload_n 0, 1) := by decide +kernel
theorem dX11_givesFrom_2 : decode cX11_givesFrom 2 = .ok (.getfield 23, 3) := by decide +kernel
theorem dX11_givesFrom_5 : decode cX11_givesFrom 5 = .ok (.iconst 1, 1) := by decide +kernel
theorem dX11_givesFrom_6 : decode cX11_givesFrom 6 = .ok (.iaload, 1) := by decide +kernel
theorem dX11_givesFrom_7 : decode cX11_givesFrom 7 = .ok (.if_icmp .ne 47, 3) := by decide +kernel
theorem dX11_givesFrom_10 : decode cX11_givesFrom 10 = .ok (.iload_n 3, 1) := by decide +kernel
theorem dX11_givesFrom_11 : decode cX11_givesFrom 11 = .ok (.aload_n 0, 1) := by decide +kernel
theorem dX11_givesFrom_12 : decode cX11_givesFrom 12 = .ok (.getfield 328, 3) := by decide +kernel
theorem dX11_givesFrom_15 : decode cX11_givesFrom 15 = .ok (.if_icmp .gt 4, 3) := by decide +kernel
theorem dX11_givesFrom_18 : decode cX11_givesFrom 18 = .ok (.return_, 1) := by decide +kernel
theorem dX11_givesFrom_19 : decode cX11_givesFrom 19 = .ok (.aload_n 0, 1) := by decide +kernel
theorem dX11_givesFrom_20 : decode cX11_givesFrom 20 = .ok (.iload_n 3, 1) := by decide +kernel
theorem dX11_givesFrom_21 : decode cX11_givesFrom 21 = .ok (.putfield 328, 3) := by decide +kernel
theorem dX11_givesFrom_24 : decode cX11_givesFrom 24 = .ok (.iconst 0, 1) := by decide +kernel
theorem dX11_givesFrom_25 : decode cX11_givesFrom 25 = .ok (.istore 4, 2) := by decide +kernel
theorem dX11_givesFrom_27 : decode cX11_givesFrom 27 = .ok (.iload 4, 2) := by decide +kernel
theorem dX11_givesFrom_29 : decode cX11_givesFrom 29 = .ok (.iload_n 1, 1) := by decide +kernel
theorem dX11_givesFrom_30 : decode cX11_givesFrom 30 = .ok (.if_icmp .ge 23, 3) := by decide +kernel
theorem dX11_givesFrom_33 : decode cX11_givesFrom 33 = .ok (.aload_n 0, 1) := by decide +kernel
theorem dX11_givesFrom_34 : decode cX11_givesFrom 34 = .ok (.getfield 88, 3) := by decide +kernel
theorem dX11_givesFrom_37 : decode cX11_givesFrom 37 = .ok (.iload 4, 2) := by decide +kernel
theorem dX11_givesFrom_39 : decode cX11_givesFrom 39 = .ok (.aload_n 0, 1) := by decide +kernel
theorem dX11_givesFrom_40 : decode cX11_givesFrom 40 = .ok (.getfield 85, 3) := by decide +kernel
theorem dX11_givesFrom_43 : decode cX11_givesFrom 43 = .ok (.iload 4, 2) := by decide +kernel
theorem dX11_givesFrom_45 : decode cX11_givesFrom 45 = .ok (.iaload, 1) := by decide +kernel
theorem dX11_givesFrom_46 : decode cX11_givesFrom 46 = .ok (.iastore, 1) := by decide +kernel
theorem dX11_givesFrom_47 : decode cX11_givesFrom 47 = .ok (.iinc 4 1, 3) := by decide +kernel
theorem dX11_givesFrom_50 : decode cX11_givesFrom 50 = .ok (.goto (-23), 3) := by decide +kernel
theorem dX11_givesFrom_53 : decode cX11_givesFrom 53 = .ok (.return_, 1) := by decide +kernel
theorem dX11_givesFrom_54 : decode cX11_givesFrom 54 = .ok (.iconst 0, 1) := by decide +kernel
theorem dX11_givesFrom_55 : decode cX11_givesFrom 55 = .ok (.istore 4, 2) := by decide +kernel
theorem dX11_givesFrom_57 : decode cX11_givesFrom 57 = .ok (.iload 4, 2) := by decide +kernel
theorem dX11_givesFrom_59 : decode cX11_givesFrom 59 = .ok (.aload_n 0, 1) := by decide +kernel
theorem dX11_givesFrom_60 : decode cX11_givesFrom 60 = .ok (.getfield 23, 3) := by decide +kernel
theorem dX11_givesFrom_63 : decode cX11_givesFrom 63 = .ok (.iconst 0, 1) := by decide +kernel
theorem dX11_givesFrom_64 : decode cX11_givesFrom 64 = .ok (.iaload, 1) := by decide +kernel
theorem dX11_givesFrom_65 : decode cX11_givesFrom 65 = .ok (.if_icmp .ge 76, 3) := by decide +kernel
theorem dX11_givesFrom_68 : decode cX11_givesFrom 68 = .ok (.iload_n 2, 1) := by decide +kernel
theorem dX11_givesFrom_69 : decode cX11_givesFrom 69 = .ok (.iload 4, 2) := by decide +kernel
theorem dX11_givesFrom_71 : decode cX11_givesFrom 71 = .ok (.invokestatic 255, 3) := by decide +kernel
theorem dX11_givesFrom_74 : decode cX11_givesFrom 74 = .ok (.ifCond .ne 61, 3) := by decide +kernel
theorem dX11_givesFrom_77 : decode cX11_givesFrom 77 = .ok (.aload_n 0, 1) := by decide +kernel
theorem dX11_givesFrom_78 : decode cX11_givesFrom 78 = .ok (.getfield 73, 3) := by decide +kernel
theorem dX11_givesFrom_81 : decode cX11_givesFrom 81 = .ok (.iload 4, 2) := by decide +kernel
theorem dX11_givesFrom_83 : decode cX11_givesFrom 83 = .ok (.invokestatic 261, 3) := by decide +kernel
theorem dX11_givesFrom_86 : decode cX11_givesFrom 86 = .ok (.ifCond .ne 49, 3) := by decide +kernel
theorem dX11_givesFrom_89 : decode cX11_givesFrom 89 = .ok (.aload_n 0, 1) := by decide +kernel
theorem dX11_givesFrom_90 : decode cX11_givesFrom 90 = .ok (.getfield 35, 3) := by decide +kernel
theorem dX11_givesFrom_93 : decode cX11_givesFrom 93 = .ok (.iload 4, 2) := by decide +kernel
theorem dX11_givesFrom_95 : decode cX11_givesFrom 95 = .ok (.iaload, 1) := by decide +kernel
theorem dX11_givesFrom_96 : decode cX11_givesFrom 96 = .ok (.iload_n 1, 1) := by decide +kernel
theorem dX11_givesFrom_97 : decode cX11_givesFrom 97 = .ok (.invokestatic 255, 3) := by decide +kernel
theorem dX11_givesFrom_100 : decode cX11_givesFrom 100 = .ok (.ifCond .ne 6, 3) := by decide +kernel
theorem dX11_givesFrom_103 : decode cX11_givesFrom 103 = .ok (.goto 32, 3) := by decide +kernel
theorem dX11_givesFrom_106 : decode cX11_givesFrom 106 = .ok (.aload_n 0, 1) := by decide +kernel
theorem dX11_givesFrom_107 : decode cX11_givesFrom 107 = .ok (.getfield 85, 3) := by decide +kernel
theorem dX11_givesFrom_110 : decode cX11_givesFrom 110 = .ok (.iload_n 1, 1) := by decide +kernel
theorem dX11_givesFrom_111 : decode cX11_givesFrom 111 = .ok (.iload 4, 2) := by decide +kernel
theorem dX11_givesFrom_113 : decode cX11_givesFrom 113 = .ok (.iastore, 1) := by decide +kernel
theorem dX11_givesFrom_114 : decode cX11_givesFrom 114 = .ok (.aload_n 0, 1) := by decide +kernel
theorem dX11_givesFrom_115 : decode cX11_givesFrom 115 = .ok (.iload_n 1, 1) := by decide +kernel
theorem dX11_givesFrom_116 : decode cX11_givesFrom 116 = .ok (.iconst 1, 1) := by decide +kernel
theorem dX11_givesFrom_117 : decode cX11_givesFrom 117 = .ok (.iadd, 1) := by decide +kernel
theorem dX11_givesFrom_118 : decode cX11_givesFrom 118 = .ok (.iload_n 2, 1) := by decide +kernel
theorem dX11_givesFrom_119 : decode cX11_givesFrom 119 = .ok (.iconst 1, 1) := by decide +kernel
theorem dX11_givesFrom_120 : decode cX11_givesFrom 120 = .ok (.iload 4, 2) := by decide +kernel
theorem dX11_givesFrom_122 : decode cX11_givesFrom 122 = .ok (.ishl, 1) := by decide +kernel
theorem dX11_givesFrom_123 : decode cX11_givesFrom 123 = .ok (.ior, 1) := by decide +kernel
theorem dX11_givesFrom_124 : decode cX11_givesFrom 124 = .ok (.iload_n 3, 1) := by decide +kernel
theorem dX11_givesFrom_125 : decode cX11_givesFrom 125 = .ok (.aload_n 0, 1) := by decide +kernel
theorem dX11_givesFrom_126 : decode cX11_givesFrom 126 = .ok (.getfield 29, 3) := by decide +kernel
theorem dX11_givesFrom_129 : decode cX11_givesFrom 129 = .ok (.iload_n 1, 1) := by decide +kernel
theorem dX11_givesFrom_130 : decode cX11_givesFrom 130 = .ok (.iaload, 1) := by decide +kernel
theorem dX11_givesFrom_131 : decode cX11_givesFrom 131 = .ok (.iadd, 1) := by decide +kernel
theorem dX11_givesFrom_132 : decode cX11_givesFrom 132 = .ok (.invokevirtual 331, 3) := by decide +kernel
theorem dX11_givesFrom_135 : decode cX11_givesFrom 135 = .ok (.iinc 4 1, 3) := by decide +kernel
theorem dX11_givesFrom_138 : decode cX11_givesFrom 138 = .ok (.goto (-81), 3) := by decide +kernel
theorem dX11_givesFrom_141 : decode cX11_givesFrom 141 = .ok (.aload_n 0, 1) := by decide +kernel
theorem dX11_givesFrom_142 : decode cX11_givesFrom 142 = .ok (.getfield 85, 3) := by decide +kernel
theorem dX11_givesFrom_145 : decode cX11_givesFrom 145 = .ok (.iload_n 1, 1) := by decide +kernel
theorem dX11_givesFrom_146 : decode cX11_givesFrom 146 = .ok (.iconst (-1), 1) := by decide +kernel
theorem dX11_givesFrom_147 : decode cX11_givesFrom 147 = .ok (.iastore, 1) := by decide +kernel
theorem dX11_givesFrom_148 : decode cX11_givesFrom 148 = .ok (.aload_n 0, 1) := by decide +kernel
theorem dX11_givesFrom_149 : decode cX11_givesFrom 149 = .ok (.iload_n 1, 1) := by decide +kernel
theorem dX11_givesFrom_150 : decode cX11_givesFrom 150 = .ok (.iconst 1, 1) := by decide +kernel
theorem dX11_givesFrom_151 : decode cX11_givesFrom 151 = .ok (.iadd, 1) := by decide +kernel
theorem dX11_givesFrom_152 : decode cX11_givesFrom 152 = .ok (.iload_n 2, 1) := by decide +kernel
theorem dX11_givesFrom_153 : decode cX11_givesFrom 153 = .ok (.iload_n 3, 1) := by decide +kernel
theorem dX11_givesFrom_154 : decode cX11_givesFrom 154 = .ok (.invokevirtual 331, 3) := by decide +kernel
theorem dX11_givesFrom_157 : decode cX11_givesFrom 157 = .ok (.return_, 1) := by decide +kernel
theorem dX11_given_0 : decode cX11_given 0 = .ok (.aload_n 0, 1) := by decide +kernel
theorem dX11_given_1 : decode cX11_given 1 = .ok (.iconst 0, 1) := by decide +kernel
theorem dX11_given_2 : decode cX11_given 2 = .ok (.putfield 97, 3) := by decide +kernel
theorem dX11_given_5 : decode cX11_given 5 = .ok (.aload_n 0, 1) := by decide +kernel
theorem dX11_given_6 : decode cX11_given 6 = .ok (.iconst (-1), 1) := by decide +kernel
theorem dX11_given_7 : decode cX11_given 7 = .ok (.putfield 328, 3) := by decide +kernel
theorem dX11_given_10 : decode cX11_given 10 = .ok (.aload_n 0, 1) := by decide +kernel
theorem dX11_given_11 : decode cX11_given 11 = .ok (.iconst 0, 1) := by decide +kernel
theorem dX11_given_12 : decode cX11_given 12 = .ok (.iconst 0, 1) := by decide +kernel
theorem dX11_given_13 : decode cX11_given 13 = .ok (.iconst 0, 1) := by decide +kernel
theorem dX11_given_14 : decode cX11_given 14 = .ok (.invokevirtual 331, 3) := by decide +kernel
theorem dX11_given_17 : decode cX11_given 17 = .ok (.aload_n 0, 1) := by decide +kernel
theorem dX11_given_18 : decode cX11_given 18 = .ok (.getfield 328, 3) := by decide +kernel
theorem dX11_given_21 : decode cX11_given 21 = .ok (.ireturn, 1) := by decide +kernel
theorem dX11_giver_0 : decode cX11_giver 0 = .ok (.aload_n 0, 1) := by decide +kernel
theorem dX11_giver_1 : decode cX11_giver 1 = .ok (.iconst 0, 1) := by decide +kernel
theorem dX11_giver_2 : decode cX11_giver 2 = .ok (.putfield 97, 3) := by decide +kernel
theorem dX11_giver_5 : decode cX11_giver 5 = .ok (.aload_n 0, 1) := by decide +kernel
theorem dX11_giver_6 : decode cX11_giver 6 = .ok (.iload_n 1, 1) := by decide +kernel
theorem dX11_giver_7 : decode cX11_giver 7 = .ok (.iconst 0, 1) := by decide +kernel
theorem dX11_giver_8 : decode cX11_giver 8 = .ok (.aload_n 0, 1) := by decide +kernel
theorem dX11_giver_9 : decode cX11_giver 9 = .ok (.getfield 23, 3) := by decide +kernel
theorem dX11_giver_12 : decode cX11_giver 12 = .ok (.iconst 1, 1) := by decide +kernel
theorem dX11_giver_13 : decode cX11_giver 13 = .ok (.iaload, 1) := by decide +kernel
theorem dX11_giver_14 : decode cX11_giver 14 = .ok (.iconst 1, 1) := by decide +kernel
theorem dX11_giver_15 : decode cX11_giver 15 = .ok (.isub, 1) := by decide +kernel
theorem dX11_giver_16 : decode cX11_giver 16 = .ok (.invokestatic 131, 3) := by decide +kernel
theorem dX11_giver_19 : decode cX11_giver 19 = .ok (.ifCond .ne 7, 3) := by decide +kernel
theorem dX11_giver_22 : decode cX11_giver 22 = .ok (.iconst 1, 1) := by decide +kernel
theorem dX11_giver_23 : decode cX11_giver 23 = .ok (.goto 4, 3) := by decide +kernel
theorem dX11_giver_26 : decode cX11_giver 26 = .ok (.iconst 0, 1) := by decide +kernel
theorem dX11_giver_27 : decode cX11_giver 27 = .ok (.iconst 1, 1) := by decide +kernel
theorem dX11_giver_28 : decode cX11_giver 28 = .ok (.iconst 0, 1) := by decide +kernel
theorem dX11_giver_29 : decode cX11_giver 29 = .ok (.invokevirtual 173, 3) := by decide +kernel
theorem dX11_giver_32 : decode cX11_giver 32 = .ok (.ifCond .eq 5, 3) := by decide +kernel
theorem dX11_giver_35 : decode cX11_giver 35 = .ok (.iconst 0, 1) := by decide +kernel
theorem dX11_giver_36 : decode cX11_giver 36 = .ok (.ireturn, 1) := by decide +kernel
theorem dX11_giver_37 : decode cX11_giver 37 = .ok (.aload_n 0, 1) := by decide +kernel
theorem dX11_giver_38 : decode cX11_giver 38 = .ok (.iconst (-1), 1) := by decide +kernel
theorem dX11_giver_39 : decode cX11_giver 39 = .ok (.putfield 328, 3) := by decide +kernel
theorem dX11_giver_42 : decode cX11_giver 42 = .ok (.aload_n 0, 1) := by decide +kernel
theorem dX11_giver_43 : decode cX11_giver 43 = .ok (.iconst 0, 1) := by decide +kernel
theorem dX11_giver_44 : decode cX11_giver 44 = .ok (.iconst 0, 1) := by decide +kernel
theorem dX11_giver_45 : decode cX11_giver 45 = .ok (.iconst 0, 1) := by decide +kernel
theorem dX11_giver_46 : decode cX11_giver 46 = .ok (.invokevirtual 331, 3) := by decide +kernel
theorem dX11_giver_49 : decode cX11_giver 49 = .ok (.aload_n 0, 1) := by decide +kernel
theorem dX11_giver_50 : decode cX11_giver 50 = .ok (.getfield 88, 3) := by decide +kernel
theorem dX11_giver_53 : decode cX11_giver 53 = .ok (.iload_n 1, 1) := by decide +kernel
theorem dX11_giver_54 : decode cX11_giver 54 = .ok (.iaload, 1) := by decide +kernel
theorem dX11_giver_55 : decode cX11_giver 55 = .ok (.ireturn, 1) := by decide +kernel
theorem dX11_isKept_0 : decode cX11_isKept 0 = .ok (.iconst 0, 1) := by decide +kernel
theorem dX11_isKept_1 : decode cX11_isKept 1 = .ok (.istore_n 3, 1) := by decide +kernel
theorem dX11_isKept_2 : decode cX11_isKept 2 = .ok (.iload_n 3, 1) := by decide +kernel
theorem dX11_isKept_3 : decode cX11_isKept 3 = .ok (.aload_n 0, 1) := by decide +kernel
theorem dX11_isKept_4 : decode cX11_isKept 4 = .ok (.getfield 23, 3) := by decide +kernel
theorem dX11_isKept_7 : decode cX11_isKept 7 = .ok (.iconst 2, 1) := by decide +kernel
theorem dX11_isKept_8 : decode cX11_isKept 8 = .ok (.iaload, 1) := by decide +kernel
theorem dX11_isKept_9 : decode cX11_isKept 9 = .ok (.if_icmp .ge 48, 3) := by decide +kernel
theorem dX11_isKept_12 : decode cX11_isKept 12 = .ok (.aload_n 0, 1) := by decide +kernel
theorem dX11_isKept_13 : decode cX11_isKept 13 = .ok (.getfield 49, 3) := by decide +kernel
theorem dX11_isKept_16 : decode cX11_isKept 16 = .ok (.iload_n 3, 1) := by decide +kernel
theorem dX11_isKept_17 : decode cX11_isKept 17 = .ok (.aaload, 1) := by decide +kernel
theorem dX11_isKept_18 : decode cX11_isKept 18 = .ok (.iconst 0, 1) := by decide +kernel
theorem dX11_isKept_19 : decode cX11_isKept 19 = .ok (.iaload, 1) := by decide +kernel
theorem dX11_isKept_20 : decode cX11_isKept 20 = .ok (.iload_n 1, 1) := by decide +kernel
theorem dX11_isKept_21 : decode cX11_isKept 21 = .ok (.if_icmp .ne 30, 3) := by decide +kernel
theorem dX11_isKept_24 : decode cX11_isKept 24 = .ok (.aload_n 0, 1) := by decide +kernel
theorem dX11_isKept_25 : decode cX11_isKept 25 = .ok (.getfield 73, 3) := by decide +kernel
theorem dX11_isKept_28 : decode cX11_isKept 28 = .ok (.bipush 42, 2) := by decide +kernel
theorem dX11_isKept_30 : decode cX11_isKept 30 = .ok (.iload_n 3, 1) := by decide +kernel
theorem dX11_isKept_31 : decode cX11_isKept 31 = .ok (.iadd, 1) := by decide +kernel
theorem dX11_isKept_32 : decode cX11_isKept 32 = .ok (.iaload, 1) := by decide +kernel
theorem dX11_isKept_33 : decode cX11_isKept 33 = .ok (.ifCond .ne 18, 3) := by decide +kernel
theorem dX11_isKept_36 : decode cX11_isKept 36 = .ok (.aload_n 0, 1) := by decide +kernel
theorem dX11_isKept_37 : decode cX11_isKept 37 = .ok (.getfield 73, 3) := by decide +kernel
theorem dX11_isKept_40 : decode cX11_isKept 40 = .ok (.bipush 30, 2) := by decide +kernel
theorem dX11_isKept_42 : decode cX11_isKept 42 = .ok (.iload_n 3, 1) := by decide +kernel
theorem dX11_isKept_43 : decode cX11_isKept 43 = .ok (.iadd, 1) := by decide +kernel
theorem dX11_isKept_44 : decode cX11_isKept 44 = .ok (.iaload, 1) := by decide +kernel
theorem dX11_isKept_45 : decode cX11_isKept 45 = .ok (.iload_n 2, 1) := by decide +kernel
theorem dX11_isKept_46 : decode cX11_isKept 46 = .ok (.if_icmp .ne 5, 3) := by decide +kernel
theorem dX11_isKept_49 : decode cX11_isKept 49 = .ok (.iconst 1, 1) := by decide +kernel
theorem dX11_isKept_50 : decode cX11_isKept 50 = .ok (.ireturn, 1) := by decide +kernel
theorem dX11_isKept_51 : decode cX11_isKept 51 = .ok (.iinc 3 1, 3) := by decide +kernel
theorem dX11_isKept_54 : decode cX11_isKept 54 = .ok (.goto (-52), 3) := by decide +kernel
theorem dX11_isKept_57 : decode cX11_isKept 57 = .ok (.iconst 0, 1) := by decide +kernel
theorem dX11_isKept_58 : decode cX11_isKept 58 = .ok (.ireturn, 1) := by decide +kernel
theorem dX11_isPaid_0 : decode cX11_isPaid 0 = .ok (.aload_n 0, 1) := by decide +kernel
theorem dX11_isPaid_1 : decode cX11_isPaid 1 = .ok (.getfield 73, 3) := by decide +kernel
theorem dX11_isPaid_4 : decode cX11_isPaid 4 = .ok (.iconst 0, 1) := by decide +kernel
theorem dX11_isPaid_5 : decode cX11_isPaid 5 = .ok (.iload_n 1, 1) := by decide +kernel
theorem dX11_isPaid_6 : decode cX11_isPaid 6 = .ok (.iadd, 1) := by decide +kernel
theorem dX11_isPaid_7 : decode cX11_isPaid 7 = .ok (.iaload, 1) := by decide +kernel
theorem dX11_isPaid_8 : decode cX11_isPaid 8 = .ok (.istore 4, 2) := by decide +kernel
theorem dX11_isPaid_10 : decode cX11_isPaid 10 = .ok (.aload_n 0, 1) := by decide +kernel
theorem dX11_isPaid_11 : decode cX11_isPaid 11 = .ok (.getfield 73, 3) := by decide +kernel
theorem dX11_isPaid_14 : decode cX11_isPaid 14 = .ok (.bipush 12, 2) := by decide +kernel
theorem dX11_isPaid_16 : decode cX11_isPaid 16 = .ok (.iload_n 1, 1) := by decide +kernel
theorem dX11_isPaid_17 : decode cX11_isPaid 17 = .ok (.iadd, 1) := by decide +kernel
theorem dX11_isPaid_18 : decode cX11_isPaid 18 = .ok (.iaload, 1) := by decide +kernel
theorem dX11_isPaid_19 : decode cX11_isPaid 19 = .ok (.istore 5, 2) := by decide +kernel
theorem dX11_isPaid_21 : decode cX11_isPaid 21 = .ok (.iconst 0, 1) := by decide +kernel
theorem dX11_isPaid_22 : decode cX11_isPaid 22 = .ok (.istore 6, 2) := by decide +kernel
theorem dX11_isPaid_24 : decode cX11_isPaid 24 = .ok (.iconst 0, 1) := by decide +kernel
theorem dX11_isPaid_25 : decode cX11_isPaid 25 = .ok (.istore 7, 2) := by decide +kernel
theorem dX11_isPaid_27 : decode cX11_isPaid 27 = .ok (.iload 7, 2) := by decide +kernel
theorem dX11_isPaid_29 : decode cX11_isPaid 29 = .ok (.aload_n 0, 1) := by decide +kernel
theorem dX11_isPaid_30 : decode cX11_isPaid 30 = .ok (.getfield 23, 3) := by decide +kernel
theorem dX11_isPaid_33 : decode cX11_isPaid 33 = .ok (.iconst 0, 1) := by decide +kernel
theorem dX11_isPaid_34 : decode cX11_isPaid 34 = .ok (.iaload, 1) := by decide +kernel
theorem dX11_isPaid_35 : decode cX11_isPaid 35 = .ok (.if_icmp .ge 31, 3) := by decide +kernel
theorem dX11_isPaid_38 : decode cX11_isPaid 38 = .ok (.iload 6, 2) := by decide +kernel
theorem dX11_isPaid_40 : decode cX11_isPaid 40 = .ok (.iload 7, 2) := by decide +kernel
theorem dX11_isPaid_42 : decode cX11_isPaid 42 = .ok (.iload_n 1, 1) := by decide +kernel
theorem dX11_isPaid_43 : decode cX11_isPaid 43 = .ok (.if_icmp .ne 7, 3) := by decide +kernel
theorem dX11_isPaid_46 : decode cX11_isPaid 46 = .ok (.iconst 0, 1) := by decide +kernel
theorem dX11_isPaid_47 : decode cX11_isPaid 47 = .ok (.goto 10, 3) := by decide +kernel
theorem dX11_isPaid_50 : decode cX11_isPaid 50 = .ok (.aload_n 0, 1) := by decide +kernel
theorem dX11_isPaid_51 : decode cX11_isPaid 51 = .ok (.getfield 35, 3) := by decide +kernel
theorem dX11_isPaid_54 : decode cX11_isPaid 54 = .ok (.iload 7, 2) := by decide +kernel
theorem dX11_isPaid_56 : decode cX11_isPaid 56 = .ok (.iaload, 1) := by decide +kernel
theorem dX11_isPaid_57 : decode cX11_isPaid 57 = .ok (.ior, 1) := by decide +kernel
theorem dX11_isPaid_58 : decode cX11_isPaid 58 = .ok (.istore 6, 2) := by decide +kernel
theorem dX11_isPaid_60 : decode cX11_isPaid 60 = .ok (.iinc 7 1, 3) := by decide +kernel
theorem dX11_isPaid_63 : decode cX11_isPaid 63 = .ok (.goto (-36), 3) := by decide +kernel
theorem dX11_isPaid_66 : decode cX11_isPaid 66 = .ok (.iconst 0, 1) := by decide +kernel
theorem dX11_isPaid_67 : decode cX11_isPaid 67 = .ok (.istore 7, 2) := by decide +kernel
theorem dX11_isPaid_69 : decode cX11_isPaid 69 = .ok (.iload 7, 2) := by decide +kernel
theorem dX11_isPaid_71 : decode cX11_isPaid 71 = .ok (.iload_n 2, 1) := by decide +kernel
theorem dX11_isPaid_72 : decode cX11_isPaid 72 = .ok (.if_icmp .ge 118, 3) := by decide +kernel
theorem dX11_isPaid_75 : decode cX11_isPaid 75 = .ok (.aload_n 0, 1) := by decide +kernel
theorem dX11_isPaid_76 : decode cX11_isPaid 76 = .ok (.getfield 73, 3) := by decide +kernel
theorem dX11_isPaid_79 : decode cX11_isPaid 79 = .ok (.bipush 55, 2) := by decide +kernel
theorem dX11_isPaid_81 : decode cX11_isPaid 81 = .ok (.iaload, 1) := by decide +kernel
theorem dX11_isPaid_82 : decode cX11_isPaid 82 = .ok (.iload 7, 2) := by decide +kernel
theorem dX11_isPaid_84 : decode cX11_isPaid 84 = .ok (.iadd, 1) := by decide +kernel
theorem dX11_isPaid_85 : decode cX11_isPaid 85 = .ok (.istore 8, 2) := by decide +kernel
theorem dX11_isPaid_87 : decode cX11_isPaid 87 = .ok (.iload_n 3, 1) := by decide +kernel
theorem dX11_isPaid_88 : decode cX11_isPaid 88 = .ok (.iload 7, 2) := by decide +kernel
theorem dX11_isPaid_90 : decode cX11_isPaid 90 = .ok (.invokestatic 255, 3) := by decide +kernel
theorem dX11_isPaid_93 : decode cX11_isPaid 93 = .ok (.ifCond .ne 25, 3) := by decide +kernel
theorem dX11_isPaid_96 : decode cX11_isPaid 96 = .ok (.sipush 999, 3) := by decide +kernel
theorem dX11_isPaid_99 : decode cX11_isPaid 99 = .ok (.iload 4, 2) := by decide +kernel
theorem dX11_isPaid_101 : decode cX11_isPaid 101 = .ok (.aload_n 0, 1) := by decide +kernel
theorem dX11_isPaid_102 : decode cX11_isPaid 102 = .ok (.getfield 43, 3) := by decide +kernel
theorem dX11_isPaid_105 : decode cX11_isPaid 105 = .ok (.iload_n 1, 1) := by decide +kernel
theorem dX11_isPaid_106 : decode cX11_isPaid 106 = .ok (.aaload, 1) := by decide +kernel
theorem dX11_isPaid_107 : decode cX11_isPaid 107 = .ok (.iconst 1, 1) := by decide +kernel
theorem dX11_isPaid_108 : decode cX11_isPaid 108 = .ok (.iaload, 1) := by decide +kernel
theorem dX11_isPaid_109 : decode cX11_isPaid 109 = .ok (.iadd, 1) := by decide +kernel
theorem dX11_isPaid_110 : decode cX11_isPaid 110 = .ok (.invokestatic 237, 3) := by decide +kernel
theorem dX11_isPaid_113 : decode cX11_isPaid 113 = .ok (.istore 4, 2) := by decide +kernel
theorem dX11_isPaid_115 : decode cX11_isPaid 115 = .ok (.goto 69, 3) := by decide +kernel
theorem dX11_isPaid_118 : decode cX11_isPaid 118 = .ok (.aload_n 0, 1) := by decide +kernel
theorem dX11_isPaid_119 : decode cX11_isPaid 119 = .ok (.iload 8, 2) := by decide +kernel
theorem dX11_isPaid_121 : decode cX11_isPaid 121 = .ok (.iconst 0, 1) := by decide +kernel
theorem dX11_isPaid_122 : decode cX11_isPaid 122 = .ok (.iload 5, 2) := by decide +kernel
theorem dX11_isPaid_124 : decode cX11_isPaid 124 = .ok (.iload 4, 2) := by decide +kernel
theorem dX11_isPaid_126 : decode cX11_isPaid 126 = .ok (.aload_n 0, 1) := by decide +kernel
theorem dX11_isPaid_127 : decode cX11_isPaid 127 = .ok (.getfield 43, 3) := by decide +kernel
theorem dX11_isPaid_130 : decode cX11_isPaid 130 = .ok (.iload_n 1, 1) := by decide +kernel
theorem dX11_isPaid_131 : decode cX11_isPaid 131 = .ok (.aaload, 1) := by decide +kernel
theorem dX11_isPaid_132 : decode cX11_isPaid 132 = .ok (.iconst 1, 1) := by decide +kernel
theorem dX11_isPaid_133 : decode cX11_isPaid 133 = .ok (.iaload, 1) := by decide +kernel
theorem dX11_isPaid_134 : decode cX11_isPaid 134 = .ok (.aload_n 0, 1) := by decide +kernel
theorem dX11_isPaid_135 : decode cX11_isPaid 135 = .ok (.getfield 35, 3) := by decide +kernel
theorem dX11_isPaid_138 : decode cX11_isPaid 138 = .ok (.iload_n 1, 1) := by decide +kernel
theorem dX11_isPaid_139 : decode cX11_isPaid 139 = .ok (.iaload, 1) := by decide +kernel
theorem dX11_isPaid_140 : decode cX11_isPaid 140 = .ok (.iload 6, 2) := by decide +kernel
theorem dX11_isPaid_142 : decode cX11_isPaid 142 = .ok (.iconst (-1), 1) := by decide +kernel
theorem dX11_isPaid_143 : decode cX11_isPaid 143 = .ok (.ixor, 1) := by decide +kernel
theorem dX11_isPaid_144 : decode cX11_isPaid 144 = .ok (.iand, 1) := by decide +kernel
theorem dX11_isPaid_145 : decode cX11_isPaid 145 = .ok (.invokestatic 272, 3) := by decide +kernel
theorem dX11_isPaid_148 : decode cX11_isPaid 148 = .ok (.iconst 0, 1) := by decide +kernel
theorem dX11_isPaid_149 : decode cX11_isPaid 149 = .ok (.iload_n 1, 1) := by decide +kernel
theorem dX11_isPaid_150 : decode cX11_isPaid 150 = .ok (.invokevirtual 275, 3) := by decide +kernel
theorem dX11_isPaid_153 : decode cX11_isPaid 153 = .ok (.istore 9, 2) := by decide +kernel
theorem dX11_isPaid_155 : decode cX11_isPaid 155 = .ok (.aload_n 0, 1) := by decide +kernel
theorem dX11_isPaid_156 : decode cX11_isPaid 156 = .ok (.iload_n 1, 1) := by decide +kernel
theorem dX11_isPaid_157 : decode cX11_isPaid 157 = .ok (.iload 8, 2) := by decide +kernel
theorem dX11_isPaid_159 : decode cX11_isPaid 159 = .ok (.invokevirtual 335, 3) := by decide +kernel
theorem dX11_isPaid_162 : decode cX11_isPaid 162 = .ok (.ifCond .ne 10, 3) := by decide +kernel
theorem dX11_isPaid_165 : decode cX11_isPaid 165 = .ok (.iload 9, 2) := by decide +kernel
theorem dX11_isPaid_167 : decode cX11_isPaid 167 = .ok (.iload 4, 2) := by decide +kernel
theorem dX11_isPaid_169 : decode cX11_isPaid 169 = .ok (.if_icmp .le 5, 3) := by decide +kernel
theorem dX11_isPaid_172 : decode cX11_isPaid 172 = .ok (.iconst 0, 1) := by decide +kernel
theorem dX11_isPaid_173 : decode cX11_isPaid 173 = .ok (.ireturn, 1) := by decide +kernel
theorem dX11_isPaid_174 : decode cX11_isPaid 174 = .ok (.iload 4, 2) := by decide +kernel
theorem dX11_isPaid_176 : decode cX11_isPaid 176 = .ok (.iload 9, 2) := by decide +kernel
theorem dX11_isPaid_178 : decode cX11_isPaid 178 = .ok (.isub, 1) := by decide +kernel
theorem dX11_isPaid_179 : decode cX11_isPaid 179 = .ok (.istore 4, 2) := by decide +kernel
theorem dX11_isPaid_181 : decode cX11_isPaid 181 = .ok (.iinc 5 1, 3) := by decide +kernel
theorem dX11_isPaid_184 : decode cX11_isPaid 184 = .ok (.iinc 7 1, 3) := by decide +kernel
theorem dX11_isPaid_187 : decode cX11_isPaid 187 = .ok (.goto (-118), 3) := by decide +kernel
theorem dX11_isPaid_190 : decode cX11_isPaid 190 = .ok (.iconst 1, 1) := by decide +kernel
theorem dX11_isPaid_191 : decode cX11_isPaid 191 = .ok (.ireturn, 1) := by decide +kernel
theorem dX11_skips_0 : decode cX11_skips 0 = .ok (.aload_n 0, 1) := by decide +kernel
theorem dX11_skips_1 : decode cX11_skips 1 = .ok (.iconst 0, 1) := by decide +kernel
theorem dX11_skips_2 : decode cX11_skips 2 = .ok (.putfield 97, 3) := by decide +kernel
theorem dX11_skips_5 : decode cX11_skips 5 = .ok (.aload_n 0, 1) := by decide +kernel
theorem dX11_skips_6 : decode cX11_skips 6 = .ok (.aload_n 0, 1) := by decide +kernel
theorem dX11_skips_7 : decode cX11_skips 7 = .ok (.iload_n 1, 1) := by decide +kernel
theorem dX11_skips_8 : decode cX11_skips 8 = .ok (.invokevirtual 325, 3) := by decide +kernel
theorem dX11_skips_11 : decode cX11_skips 11 = .ok (.ifCond .ne 7, 3) := by decide +kernel
theorem dX11_skips_14 : decode cX11_skips 14 = .ok (.iconst 1, 1) := by decide +kernel
theorem dX11_skips_15 : decode cX11_skips 15 = .ok (.goto 4, 3) := by decide +kernel
theorem dX11_skips_18 : decode cX11_skips 18 = .ok (.iconst 0, 1) := by decide +kernel
theorem dX11_skips_19 : decode cX11_skips 19 = .ok (.iconst 1, 1) := by decide +kernel
theorem dX11_skips_20 : decode cX11_skips 20 = .ok (.iconst 0, 1) := by decide +kernel
theorem dX11_skips_21 : decode cX11_skips 21 = .ok (.invokevirtual 173, 3) := by decide +kernel
theorem dX11_skips_24 : decode cX11_skips 24 = .ok (.ifCond .ne 36, 3) := by decide +kernel
theorem dX11_skips_27 : decode cX11_skips 27 = .ok (.aload_n 0, 1) := by decide +kernel
theorem dX11_skips_28 : decode cX11_skips 28 = .ok (.iload_n 2, 1) := by decide +kernel
theorem dX11_skips_29 : decode cX11_skips 29 = .ok (.iconst 0, 1) := by decide +kernel
theorem dX11_skips_30 : decode cX11_skips 30 = .ok (.bipush 10, 2) := by decide +kernel
theorem dX11_skips_32 : decode cX11_skips 32 = .ok (.invokestatic 131, 3) := by decide +kernel
theorem dX11_skips_35 : decode cX11_skips 35 = .ok (.ifCond .eq 12, 3) := by decide +kernel
theorem dX11_skips_38 : decode cX11_skips 38 = .ok (.iload_n 3, 1) := by decide +kernel
theorem dX11_skips_39 : decode cX11_skips 39 = .ok (.iconst 0, 1) := by decide +kernel
theorem dX11_skips_40 : decode cX11_skips 40 = .ok (.iconst 1, 1) := by decide +kernel
theorem dX11_skips_41 : decode cX11_skips 41 = .ok (.invokestatic 131, 3) := by decide +kernel
theorem dX11_skips_44 : decode cX11_skips 44 = .ok (.ifCond .ne 7, 3) := by decide +kernel
theorem dX11_skips_47 : decode cX11_skips 47 = .ok (.iconst 1, 1) := by decide +kernel
theorem dX11_skips_48 : decode cX11_skips 48 = .ok (.goto 4, 3) := by decide +kernel
theorem dX11_skips_51 : decode cX11_skips 51 = .ok (.iconst 0, 1) := by decide +kernel
theorem dX11_skips_52 : decode cX11_skips 52 = .ok (.iconst 2, 1) := by decide +kernel
theorem dX11_skips_53 : decode cX11_skips 53 = .ok (.iconst 1, 1) := by decide +kernel
theorem dX11_skips_54 : decode cX11_skips 54 = .ok (.invokevirtual 173, 3) := by decide +kernel
theorem dX11_skips_57 : decode cX11_skips 57 = .ok (.ifCond .eq 5, 3) := by decide +kernel
theorem dX11_skips_60 : decode cX11_skips 60 = .ok (.iconst 0, 1) := by decide +kernel
theorem dX11_skips_61 : decode cX11_skips 61 = .ok (.ireturn, 1) := by decide +kernel
theorem dX11_skips_62 : decode cX11_skips 62 = .ok (.iconst 0, 1) := by decide +kernel
theorem dX11_skips_63 : decode cX11_skips 63 = .ok (.istore 4, 2) := by decide +kernel
theorem dX11_skips_65 : decode cX11_skips 65 = .ok (.iconst 1, 1) := by decide +kernel
theorem dX11_skips_66 : decode cX11_skips 66 = .ok (.iload_n 2, 1) := by decide +kernel
theorem dX11_skips_67 : decode cX11_skips 67 = .ok (.ishl, 1) := by decide +kernel
theorem dX11_skips_68 : decode cX11_skips 68 = .ok (.iconst 1, 1) := by decide +kernel
theorem dX11_skips_69 : decode cX11_skips 69 = .ok (.isub, 1) := by decide +kernel
theorem dX11_skips_70 : decode cX11_skips 70 = .ok (.istore 5, 2) := by decide +kernel
theorem dX11_skips_72 : decode cX11_skips 72 = .ok (.iload 5, 2) := by decide +kernel
theorem dX11_skips_74 : decode cX11_skips 74 = .ok (.ifCond .lt 37, 3) := by decide +kernel
theorem dX11_skips_77 : decode cX11_skips 77 = .ok (.iload 5, 2) := by decide +kernel
theorem dX11_skips_79 : decode cX11_skips 79 = .ok (.invokestatic 272, 3) := by decide +kernel
theorem dX11_skips_82 : decode cX11_skips 82 = .ok (.iload 4, 2) := by decide +kernel
theorem dX11_skips_84 : decode cX11_skips 84 = .ok (.invokestatic 272, 3) := by decide +kernel
theorem dX11_skips_87 : decode cX11_skips 87 = .ok (.if_icmp .lt 18, 3) := by decide +kernel
theorem dX11_skips_90 : decode cX11_skips 90 = .ok (.aload_n 0, 1) := by decide +kernel
theorem dX11_skips_91 : decode cX11_skips 91 = .ok (.iload_n 1, 1) := by decide +kernel
theorem dX11_skips_92 : decode cX11_skips 92 = .ok (.iload_n 2, 1) := by decide +kernel
theorem dX11_skips_93 : decode cX11_skips 93 = .ok (.iload 5, 2) := by decide +kernel
theorem dX11_skips_95 : decode cX11_skips 95 = .ok (.invokevirtual 338, 3) := by decide +kernel
theorem dX11_skips_98 : decode cX11_skips 98 = .ok (.ifCond .eq 7, 3) := by decide +kernel
theorem dX11_skips_101 : decode cX11_skips 101 = .ok (.iload 5, 2) := by decide +kernel
theorem dX11_skips_103 : decode cX11_skips 103 = .ok (.istore 4, 2) := by decide +kernel
theorem dX11_skips_105 : decode cX11_skips 105 = .ok (.iinc 5 (-1), 3) := by decide +kernel
theorem dX11_skips_108 : decode cX11_skips 108 = .ok (.goto (-36), 3) := by decide +kernel
theorem dX11_skips_111 : decode cX11_skips 111 = .ok (.iload_n 3, 1) := by decide +kernel
theorem dX11_skips_112 : decode cX11_skips 112 = .ok (.iconst 1, 1) := by decide +kernel
theorem dX11_skips_113 : decode cX11_skips 113 = .ok (.if_icmp .ne 8, 3) := by decide +kernel
theorem dX11_skips_116 : decode cX11_skips 116 = .ok (.iload 4, 2) := by decide +kernel
theorem dX11_skips_118 : decode cX11_skips 118 = .ok (.goto 8, 3) := by decide +kernel
theorem dX11_skips_121 : decode cX11_skips 121 = .ok (.iload 4, 2) := by decide +kernel
theorem dX11_skips_123 : decode cX11_skips 123 = .ok (.invokestatic 272, 3) := by decide +kernel
theorem dX11_skips_126 : decode cX11_skips 126 = .ok (.ireturn, 1) := by decide +kernel
theorem dX11_hadBy_0 : decode cX11_hadBy 0 = .ok (.iconst 0, 1) := by decide +kernel
theorem dX11_hadBy_1 : decode cX11_hadBy 1 = .ok (.istore_n 3, 1) := by decide +kernel
theorem dX11_hadBy_2 : decode cX11_hadBy 2 = .ok (.iload_n 3, 1) := by decide +kernel
theorem dX11_hadBy_3 : decode cX11_hadBy 3 = .ok (.aload_n 0, 1) := by decide +kernel
theorem dX11_hadBy_4 : decode cX11_hadBy 4 = .ok (.getfield 193, 3) := by decide +kernel
theorem dX11_hadBy_7 : decode cX11_hadBy 7 = .ok (.if_icmp .ge 62, 3) := by decide +kernel
theorem dX11_hadBy_10 : decode cX11_hadBy 10 = .ok (.aload_n 0, 1) := by decide +kernel
theorem dX11_hadBy_11 : decode cX11_hadBy 11 = .ok (.getfield 58, 3) := by decide +kernel
theorem dX11_hadBy_14 : decode cX11_hadBy 14 = .ok (.iload_n 3, 1) := by decide +kernel
theorem dX11_hadBy_15 : decode cX11_hadBy 15 = .ok (.aaload, 1) := by decide +kernel
theorem dX11_hadBy_16 : decode cX11_hadBy 16 = .ok (.iconst 0, 1) := by decide +kernel
theorem dX11_hadBy_17 : decode cX11_hadBy 17 = .ok (.iaload, 1) := by decide +kernel
theorem dX11_hadBy_18 : decode cX11_hadBy 18 = .ok (.iload_n 1, 1) := by decide +kernel
theorem dX11_hadBy_19 : decode cX11_hadBy 19 = .ok (.if_icmp .ne 44, 3) := by decide +kernel
theorem dX11_hadBy_22 : decode cX11_hadBy 22 = .ok (.aload_n 0, 1) := by decide +kernel
theorem dX11_hadBy_23 : decode cX11_hadBy 23 = .ok (.getfield 58, 3) := by decide +kernel
theorem dX11_hadBy_26 : decode cX11_hadBy 26 = .ok (.iload_n 3, 1) := by decide +kernel
theorem dX11_hadBy_27 : decode cX11_hadBy 27 = .ok (.aaload, 1) := by decide +kernel
theorem dX11_hadBy_28 : decode cX11_hadBy 28 = .ok (.iconst 1, 1) := by decide +kernel
theorem dX11_hadBy_29 : decode cX11_hadBy 29 = .ok (.iaload, 1) := by decide +kernel
theorem dX11_hadBy_30 : decode cX11_hadBy 30 = .ok (.bipush 6, 2) := by decide +kernel
theorem dX11_hadBy_32 : decode cX11_hadBy 32 = .ok (.iload_n 2, 1) := by decide +kernel
theorem dX11_hadBy_33 : decode cX11_hadBy 33 = .ok (.imul, 1) := by decide +kernel
theorem dX11_hadBy_34 : decode cX11_hadBy 34 = .ok (.isub, 1) := by decide +kernel
theorem dX11_hadBy_35 : decode cX11_hadBy 35 = .ok (.iconst 0, 1) := by decide +kernel
theorem dX11_hadBy_36 : decode cX11_hadBy 36 = .ok (.iload_n 2, 1) := by decide +kernel
theorem dX11_hadBy_37 : decode cX11_hadBy 37 = .ok (.invokestatic 131, 3) := by decide +kernel
theorem dX11_hadBy_40 : decode cX11_hadBy 40 = .ok (.ifCond .eq 19, 3) := by decide +kernel
theorem dX11_hadBy_43 : decode cX11_hadBy 43 = .ok (.aload_n 0, 1) := by decide +kernel
theorem dX11_hadBy_44 : decode cX11_hadBy 44 = .ok (.getfield 58, 3) := by decide +kernel
theorem dX11_hadBy_47 : decode cX11_hadBy 47 = .ok (.iload_n 3, 1) := by decide +kernel
theorem dX11_hadBy_48 : decode cX11_hadBy 48 = .ok (.aaload, 1) := by decide +kernel
theorem dX11_hadBy_49 : decode cX11_hadBy 49 = .ok (.iconst 1, 1) := by decide +kernel
theorem dX11_hadBy_50 : decode cX11_hadBy 50 = .ok (.iaload, 1) := by decide +kernel
theorem dX11_hadBy_51 : decode cX11_hadBy 51 = .ok (.bipush 6, 2) := by decide +kernel
theorem dX11_hadBy_53 : decode cX11_hadBy 53 = .ok (.iload_n 2, 1) := by decide +kernel
theorem dX11_hadBy_54 : decode cX11_hadBy 54 = .ok (.imul, 1) := by decide +kernel
theorem dX11_hadBy_55 : decode cX11_hadBy 55 = .ok (.isub, 1) := by decide +kernel
theorem dX11_hadBy_56 : decode cX11_hadBy 56 = .ok (.goto 6, 3) := by decide +kernel
theorem dX11_hadBy_59 : decode cX11_hadBy 59 = .ok (.iload_n 2, 1) := by decide +kernel
theorem dX11_hadBy_60 : decode cX11_hadBy 60 = .ok (.iconst 1, 1) := by decide +kernel
theorem dX11_hadBy_61 : decode cX11_hadBy 61 = .ok (.iadd, 1) := by decide +kernel
theorem dX11_hadBy_62 : decode cX11_hadBy 62 = .ok (.ireturn, 1) := by decide +kernel
theorem dX11_hadBy_63 : decode cX11_hadBy 63 = .ok (.iinc 3 1, 3) := by decide +kernel
theorem dX11_hadBy_66 : decode cX11_hadBy 66 = .ok (.goto (-64), 3) := by decide +kernel
theorem dX11_hadBy_69 : decode cX11_hadBy 69 = .ok (.iconst (-1), 1) := by decide +kernel
theorem dX11_hadBy_70 : decode cX11_hadBy 70 = .ok (.ireturn, 1) := by decide +kernel
theorem dX11_choose_0 : decode cX11_choose 0 = .ok (.iconst 1, 1) := by decide +kernel
theorem dX11_choose_1 : decode cX11_choose 1 = .ok (.istore_n 2, 1) := by decide +kernel
theorem dX11_choose_2 : decode cX11_choose 2 = .ok (.iconst 1, 1) := by decide +kernel
theorem dX11_choose_3 : decode cX11_choose 3 = .ok (.istore_n 3, 1) := by decide +kernel
theorem dX11_choose_4 : decode cX11_choose 4 = .ok (.iload_n 3, 1) := by decide +kernel
theorem dX11_choose_5 : decode cX11_choose 5 = .ok (.iload_n 1, 1) := by decide +kernel
theorem dX11_choose_6 : decode cX11_choose 6 = .ok (.if_icmp .gt 19, 3) := by decide +kernel
theorem dX11_choose_9 : decode cX11_choose 9 = .ok (.iload_n 2, 1) := by decide +kernel
theorem dX11_choose_10 : decode cX11_choose 10 = .ok (.iload_n 0, 1) := by decide +kernel
theorem dX11_choose_11 : decode cX11_choose 11 = .ok (.iload_n 1, 1) := by decide +kernel
theorem dX11_choose_12 : decode cX11_choose 12 = .ok (.isub, 1) := by decide +kernel
theorem dX11_choose_13 : decode cX11_choose 13 = .ok (.iload_n 3, 1) := by decide +kernel
theorem dX11_choose_14 : decode cX11_choose 14 = .ok (.iadd, 1) := by decide +kernel
theorem dX11_choose_15 : decode cX11_choose 15 = .ok (.imul, 1) := by decide +kernel
theorem dX11_choose_16 : decode cX11_choose 16 = .ok (.iload_n 3, 1) := by decide +kernel
theorem dX11_choose_17 : decode cX11_choose 17 = .ok (.idiv, 1) := by decide +kernel
theorem dX11_choose_18 : decode cX11_choose 18 = .ok (.istore_n 2, 1) := by decide +kernel
theorem dX11_choose_19 : decode cX11_choose 19 = .ok (.iinc 3 1, 3) := by decide +kernel
theorem dX11_choose_22 : decode cX11_choose 22 = .ok (.goto (-18), 3) := by decide +kernel
theorem dX11_choose_25 : decode cX11_choose 25 = .ok (.iload_n 2, 1) := by decide +kernel
theorem dX11_choose_26 : decode cX11_choose 26 = .ok (.ireturn, 1) := by decide +kernel
theorem dX11_apart_0 : decode cX11_apart 0 = .ok (.aload_n 0, 1) := by decide +kernel
theorem dX11_apart_1 : decode cX11_apart 1 = .ok (.iconst 0, 1) := by decide +kernel
theorem dX11_apart_2 : decode cX11_apart 2 = .ok (.putfield 97, 3) := by decide +kernel
theorem dX11_apart_5 : decode cX11_apart 5 = .ok (.aload_n 0, 1) := by decide +kernel
theorem dX11_apart_6 : decode cX11_apart 6 = .ok (.aload_n 0, 1) := by decide +kernel
theorem dX11_apart_7 : decode cX11_apart 7 = .ok (.iload_n 1, 1) := by decide +kernel
theorem dX11_apart_8 : decode cX11_apart 8 = .ok (.invokevirtual 325, 3) := by decide +kernel
theorem dX11_apart_11 : decode cX11_apart 11 = .ok (.ifCond .eq 11, 3) := by decide +kernel
theorem dX11_apart_14 : decode cX11_apart 14 = .ok (.aload_n 0, 1) := by decide +kernel
theorem dX11_apart_15 : decode cX11_apart 15 = .ok (.iload_n 2, 1) := by decide +kernel
theorem dX11_apart_16 : decode cX11_apart 16 = .ok (.invokevirtual 325, 3) := by decide +kernel
theorem dX11_apart_19 : decode cX11_apart 19 = .ok (.ifCond .ne 7, 3) := by decide +kernel
theorem dX11_apart_22 : decode cX11_apart 22 = .ok (.iconst 1, 1) := by decide +kernel
theorem dX11_apart_23 : decode cX11_apart 23 = .ok (.goto 4, 3) := by decide +kernel
theorem dX11_apart_26 : decode cX11_apart 26 = .ok (.iconst 0, 1) := by decide +kernel
theorem dX11_apart_27 : decode cX11_apart 27 = .ok (.iconst 1, 1) := by decide +kernel
theorem dX11_apart_28 : decode cX11_apart 28 = .ok (.iconst 0, 1) := by decide +kernel
theorem dX11_apart_29 : decode cX11_apart 29 = .ok (.invokevirtual 173, 3) := by decide +kernel
theorem dX11_apart_32 : decode cX11_apart 32 = .ok (.ifCond .ne 32, 3) := by decide +kernel
theorem dX11_apart_35 : decode cX11_apart 35 = .ok (.aload_n 0, 1) := by decide +kernel
theorem dX11_apart_36 : decode cX11_apart 36 = .ok (.iload_n 1, 1) := by decide +kernel
theorem dX11_apart_37 : decode cX11_apart 37 = .ok (.iload_n 2, 1) := by decide +kernel
theorem dX11_apart_38 : decode cX11_apart 38 = .ok (.if_icmp .eq 13, 3) := by decide +kernel
theorem dX11_apart_41 : decode cX11_apart 41 = .ok (.iload_n 3, 1) := by decide +kernel
theorem dX11_apart_42 : decode cX11_apart 42 = .ok (.iconst 0, 1) := by decide +kernel
theorem dX11_apart_43 : decode cX11_apart 43 = .ok (.bipush 20, 2) := by decide +kernel
theorem dX11_apart_45 : decode cX11_apart 45 = .ok (.invokestatic 131, 3) := by decide +kernel
theorem dX11_apart_48 : decode cX11_apart 48 = .ok (.ifCond .ne 7, 3) := by decide +kernel
theorem dX11_apart_51 : decode cX11_apart 51 = .ok (.iconst 1, 1) := by decide +kernel
theorem dX11_apart_52 : decode cX11_apart 52 = .ok (.goto 4, 3) := by decide +kernel
theorem dX11_apart_55 : decode cX11_apart 55 = .ok (.iconst 0, 1) := by decide +kernel
theorem dX11_apart_56 : decode cX11_apart 56 = .ok (.iconst 2, 1) := by decide +kernel
theorem dX11_apart_57 : decode cX11_apart 57 = .ok (.iconst 1, 1) := by decide +kernel
theorem dX11_apart_58 : decode cX11_apart 58 = .ok (.invokevirtual 173, 3) := by decide +kernel
theorem dX11_apart_61 : decode cX11_apart 61 = .ok (.ifCond .eq 5, 3) := by decide +kernel
theorem dX11_apart_64 : decode cX11_apart 64 = .ok (.iconst 0, 1) := by decide +kernel
theorem dX11_apart_65 : decode cX11_apart 65 = .ok (.ireturn, 1) := by decide +kernel
theorem dX11_apart_66 : decode cX11_apart 66 = .ok (.aload_n 0, 1) := by decide +kernel
theorem dX11_apart_67 : decode cX11_apart 67 = .ok (.iload_n 1, 1) := by decide +kernel
theorem dX11_apart_68 : decode cX11_apart 68 = .ok (.iload_n 3, 1) := by decide +kernel
theorem dX11_apart_69 : decode cX11_apart 69 = .ok (.invokevirtual 341, 3) := by decide +kernel
theorem dX11_apart_72 : decode cX11_apart 72 = .ok (.istore 4, 2) := by decide +kernel
theorem dX11_apart_74 : decode cX11_apart 74 = .ok (.aload_n 0, 1) := by decide +kernel
theorem dX11_apart_75 : decode cX11_apart 75 = .ok (.iload_n 2, 1) := by decide +kernel
theorem dX11_apart_76 : decode cX11_apart 76 = .ok (.iload_n 3, 1) := by decide +kernel
theorem dX11_apart_77 : decode cX11_apart 77 = .ok (.invokevirtual 341, 3) := by decide +kernel
theorem dX11_apart_80 : decode cX11_apart 80 = .ok (.istore 5, 2) := by decide +kernel
theorem dX11_apart_82 : decode cX11_apart 82 = .ok (.iload 4, 2) := by decide +kernel
theorem dX11_apart_84 : decode cX11_apart 84 = .ok (.iconst (-1), 1) := by decide +kernel
theorem dX11_apart_85 : decode cX11_apart 85 = .ok (.if_icmp .eq 9, 3) := by decide +kernel
theorem dX11_apart_88 : decode cX11_apart 88 = .ok (.iload 5, 2) := by decide +kernel
theorem dX11_apart_90 : decode cX11_apart 90 = .ok (.iconst (-1), 1) := by decide +kernel
theorem dX11_apart_91 : decode cX11_apart 91 = .ok (.if_icmp .ne 5, 3) := by decide +kernel
theorem dX11_apart_94 : decode cX11_apart 94 = .ok (.iconst (-1), 1) := by decide +kernel
theorem dX11_apart_95 : decode cX11_apart 95 = .ok (.ireturn, 1) := by decide +kernel
theorem dX11_apart_96 : decode cX11_apart 96 = .ok (.iload 4, 2) := by decide +kernel
theorem dX11_apart_98 : decode cX11_apart 98 = .ok (.iload 5, 2) := by decide +kernel
theorem dX11_apart_100 : decode cX11_apart 100 = .ok (.iadd, 1) := by decide +kernel
theorem dX11_apart_101 : decode cX11_apart 101 = .ok (.iload_n 3, 1) := by decide +kernel
theorem dX11_apart_102 : decode cX11_apart 102 = .ok (.if_icmp .le 7, 3) := by decide +kernel
theorem dX11_apart_105 : decode cX11_apart 105 = .ok (.iconst 0, 1) := by decide +kernel
theorem dX11_apart_106 : decode cX11_apart 106 = .ok (.goto 19, 3) := by decide +kernel
theorem dX11_apart_109 : decode cX11_apart 109 = .ok (.iload_n 3, 1) := by decide +kernel
theorem dX11_apart_110 : decode cX11_apart 110 = .ok (.iload 4, 2) := by decide +kernel
theorem dX11_apart_112 : decode cX11_apart 112 = .ok (.invokestatic 344, 3) := by decide +kernel
theorem dX11_apart_115 : decode cX11_apart 115 = .ok (.iload_n 3, 1) := by decide +kernel
theorem dX11_apart_116 : decode cX11_apart 116 = .ok (.iload 4, 2) := by decide +kernel
theorem dX11_apart_118 : decode cX11_apart 118 = .ok (.isub, 1) := by decide +kernel
theorem dX11_apart_119 : decode cX11_apart 119 = .ok (.iload 5, 2) := by decide +kernel
theorem dX11_apart_121 : decode cX11_apart 121 = .ok (.invokestatic 344, 3) := by decide +kernel
theorem dX11_apart_124 : decode cX11_apart 124 = .ok (.imul, 1) := by decide +kernel
theorem dX11_apart_125 : decode cX11_apart 125 = .ok (.ireturn, 1) := by decide +kernel
theorem dX11_together_0 : decode cX11_together 0 = .ok (.aload_n 0, 1) := by decide +kernel
theorem dX11_together_1 : decode cX11_together 1 = .ok (.iconst 0, 1) := by decide +kernel
theorem dX11_together_2 : decode cX11_together 2 = .ok (.putfield 97, 3) := by decide +kernel
theorem dX11_together_5 : decode cX11_together 5 = .ok (.aload_n 0, 1) := by decide +kernel
theorem dX11_together_6 : decode cX11_together 6 = .ok (.aload_n 0, 1) := by decide +kernel
theorem dX11_together_7 : decode cX11_together 7 = .ok (.iload_n 1, 1) := by decide +kernel
theorem dX11_together_8 : decode cX11_together 8 = .ok (.invokevirtual 325, 3) := by decide +kernel
theorem dX11_together_11 : decode cX11_together 11 = .ok (.ifCond .eq 11, 3) := by decide +kernel
theorem dX11_together_14 : decode cX11_together 14 = .ok (.aload_n 0, 1) := by decide +kernel
theorem dX11_together_15 : decode cX11_together 15 = .ok (.iload_n 2, 1) := by decide +kernel
theorem dX11_together_16 : decode cX11_together 16 = .ok (.invokevirtual 325, 3) := by decide +kernel
theorem dX11_together_19 : decode cX11_together 19 = .ok (.ifCond .ne 7, 3) := by decide +kernel
theorem dX11_together_22 : decode cX11_together 22 = .ok (.iconst 1, 1) := by decide +kernel
theorem dX11_together_23 : decode cX11_together 23 = .ok (.goto 4, 3) := by decide +kernel
theorem dX11_together_26 : decode cX11_together 26 = .ok (.iconst 0, 1) := by decide +kernel
theorem dX11_together_27 : decode cX11_together 27 = .ok (.iconst 1, 1) := by decide +kernel
theorem dX11_together_28 : decode cX11_together 28 = .ok (.iconst 0, 1) := by decide +kernel
theorem dX11_together_29 : decode cX11_together 29 = .ok (.invokevirtual 173, 3) := by decide +kernel
theorem dX11_together_32 : decode cX11_together 32 = .ok (.ifCond .ne 32, 3) := by decide +kernel
theorem dX11_together_35 : decode cX11_together 35 = .ok (.aload_n 0, 1) := by decide +kernel
theorem dX11_together_36 : decode cX11_together 36 = .ok (.iload_n 1, 1) := by decide +kernel
theorem dX11_together_37 : decode cX11_together 37 = .ok (.iload_n 2, 1) := by decide +kernel
theorem dX11_together_38 : decode cX11_together 38 = .ok (.if_icmp .eq 13, 3) := by decide +kernel
theorem dX11_together_41 : decode cX11_together 41 = .ok (.iload_n 3, 1) := by decide +kernel
theorem dX11_together_42 : decode cX11_together 42 = .ok (.iconst 0, 1) := by decide +kernel
theorem dX11_together_43 : decode cX11_together 43 = .ok (.bipush 20, 2) := by decide +kernel
theorem dX11_together_45 : decode cX11_together 45 = .ok (.invokestatic 131, 3) := by decide +kernel
theorem dX11_together_48 : decode cX11_together 48 = .ok (.ifCond .ne 7, 3) := by decide +kernel
theorem dX11_together_51 : decode cX11_together 51 = .ok (.iconst 1, 1) := by decide +kernel
theorem dX11_together_52 : decode cX11_together 52 = .ok (.goto 4, 3) := by decide +kernel
theorem dX11_together_55 : decode cX11_together 55 = .ok (.iconst 0, 1) := by decide +kernel
theorem dX11_together_56 : decode cX11_together 56 = .ok (.iconst 2, 1) := by decide +kernel
theorem dX11_together_57 : decode cX11_together 57 = .ok (.iconst 1, 1) := by decide +kernel
theorem dX11_together_58 : decode cX11_together 58 = .ok (.invokevirtual 173, 3) := by decide +kernel
theorem dX11_together_61 : decode cX11_together 61 = .ok (.ifCond .eq 5, 3) := by decide +kernel
theorem dX11_together_64 : decode cX11_together 64 = .ok (.iconst 0, 1) := by decide +kernel
theorem dX11_together_65 : decode cX11_together 65 = .ok (.ireturn, 1) := by decide +kernel
theorem dX11_together_66 : decode cX11_together 66 = .ok (.aload_n 0, 1) := by decide +kernel
theorem dX11_together_67 : decode cX11_together 67 = .ok (.iload_n 1, 1) := by decide +kernel
theorem dX11_together_68 : decode cX11_together 68 = .ok (.iload_n 3, 1) := by decide +kernel
theorem dX11_together_69 : decode cX11_together 69 = .ok (.invokevirtual 341, 3) := by decide +kernel
theorem dX11_together_72 : decode cX11_together 72 = .ok (.istore 4, 2) := by decide +kernel
theorem dX11_together_74 : decode cX11_together 74 = .ok (.aload_n 0, 1) := by decide +kernel
theorem dX11_together_75 : decode cX11_together 75 = .ok (.iload_n 2, 1) := by decide +kernel
theorem dX11_together_76 : decode cX11_together 76 = .ok (.iload_n 3, 1) := by decide +kernel
theorem dX11_together_77 : decode cX11_together 77 = .ok (.invokevirtual 341, 3) := by decide +kernel
theorem dX11_together_80 : decode cX11_together 80 = .ok (.istore 5, 2) := by decide +kernel
theorem dX11_together_82 : decode cX11_together 82 = .ok (.iload 4, 2) := by decide +kernel
theorem dX11_together_84 : decode cX11_together 84 = .ok (.iconst (-1), 1) := by decide +kernel
theorem dX11_together_85 : decode cX11_together 85 = .ok (.if_icmp .eq 21, 3) := by decide +kernel
theorem dX11_together_88 : decode cX11_together 88 = .ok (.iload 5, 2) := by decide +kernel
theorem dX11_together_90 : decode cX11_together 90 = .ok (.iconst (-1), 1) := by decide +kernel
theorem dX11_together_91 : decode cX11_together 91 = .ok (.if_icmp .eq 15, 3) := by decide +kernel
theorem dX11_together_94 : decode cX11_together 94 = .ok (.iload 4, 2) := by decide +kernel
theorem dX11_together_96 : decode cX11_together 96 = .ok (.iload_n 3, 1) := by decide +kernel
theorem dX11_together_97 : decode cX11_together 97 = .ok (.if_icmp .gt 9, 3) := by decide +kernel
theorem dX11_together_100 : decode cX11_together 100 = .ok (.iload 5, 2) := by decide +kernel
theorem dX11_together_102 : decode cX11_together 102 = .ok (.iload_n 3, 1) := by decide +kernel
theorem dX11_together_103 : decode cX11_together 103 = .ok (.if_icmp .le 7, 3) := by decide +kernel
theorem dX11_together_106 : decode cX11_together 106 = .ok (.iconst (-1), 1) := by decide +kernel
theorem dX11_together_107 : decode cX11_together 107 = .ok (.goto 14, 3) := by decide +kernel
theorem dX11_together_110 : decode cX11_together 110 = .ok (.iconst 0, 1) := by decide +kernel
theorem dX11_together_111 : decode cX11_together 111 = .ok (.iload 4, 2) := by decide +kernel
theorem dX11_together_113 : decode cX11_together 113 = .ok (.iload 5, 2) := by decide +kernel
theorem dX11_together_115 : decode cX11_together 115 = .ok (.iadd, 1) := by decide +kernel
theorem dX11_together_116 : decode cX11_together 116 = .ok (.iload_n 3, 1) := by decide +kernel
theorem dX11_together_117 : decode cX11_together 117 = .ok (.isub, 1) := by decide +kernel
theorem dX11_together_118 : decode cX11_together 118 = .ok (.invokestatic 240, 3) := by decide +kernel
theorem dX11_together_121 : decode cX11_together 121 = .ok (.ireturn, 1) := by decide +kernel
theorem dX11_met_0 : decode cX11_met 0 = .ok (.aload_n 0, 1) := by decide +kernel
theorem dX11_met_1 : decode cX11_met 1 = .ok (.iconst 0, 1) := by decide +kernel
theorem dX11_met_2 : decode cX11_met 2 = .ok (.putfield 97, 3) := by decide +kernel
theorem dX11_met_5 : decode cX11_met 5 = .ok (.aload_n 0, 1) := by decide +kernel
theorem dX11_met_6 : decode cX11_met 6 = .ok (.iload_n 1, 1) := by decide +kernel
theorem dX11_met_7 : decode cX11_met 7 = .ok (.iconst 0, 1) := by decide +kernel
theorem dX11_met_8 : decode cX11_met 8 = .ok (.bipush 7, 2) := by decide +kernel
theorem dX11_met_10 : decode cX11_met 10 = .ok (.invokestatic 131, 3) := by decide +kernel
theorem dX11_met_13 : decode cX11_met 13 = .ok (.ifCond .eq 22, 3) := by decide +kernel
theorem dX11_met_16 : decode cX11_met 16 = .ok (.iload_n 2, 1) := by decide +kernel
theorem dX11_met_17 : decode cX11_met 17 = .ok (.iconst 0, 1) := by decide +kernel
theorem dX11_met_18 : decode cX11_met 18 = .ok (.bipush 16, 2) := by decide +kernel
theorem dX11_met_20 : decode cX11_met 20 = .ok (.invokestatic 131, 3) := by decide +kernel
theorem dX11_met_23 : decode cX11_met 23 = .ok (.ifCond .eq 12, 3) := by decide +kernel
theorem dX11_met_26 : decode cX11_met 26 = .ok (.iload_n 3, 1) := by decide +kernel
theorem dX11_met_27 : decode cX11_met 27 = .ok (.iconst 0, 1) := by decide +kernel
theorem dX11_met_28 : decode cX11_met 28 = .ok (.iconst 1, 1) := by decide +kernel
theorem dX11_met_29 : decode cX11_met 29 = .ok (.invokestatic 131, 3) := by decide +kernel
theorem dX11_met_32 : decode cX11_met 32 = .ok (.ifCond .ne 7, 3) := by decide +kernel
theorem dX11_met_35 : decode cX11_met 35 = .ok (.iconst 1, 1) := by decide +kernel
theorem dX11_met_36 : decode cX11_met 36 = .ok (.goto 4, 3) := by decide +kernel
theorem dX11_met_39 : decode cX11_met 39 = .ok (.iconst 0, 1) := by decide +kernel
theorem dX11_met_40 : decode cX11_met 40 = .ok (.iconst 1, 1) := by decide +kernel
theorem dX11_met_41 : decode cX11_met 41 = .ok (.iconst 1, 1) := by decide +kernel
theorem dX11_met_42 : decode cX11_met 42 = .ok (.invokevirtual 173, 3) := by decide +kernel
theorem dX11_met_45 : decode cX11_met 45 = .ok (.ifCond .eq 5, 3) := by decide +kernel
theorem dX11_met_48 : decode cX11_met 48 = .ok (.lconst 0, 1) := by decide +kernel
theorem dX11_met_49 : decode cX11_met 49 = .ok (.lreturn, 1) := by decide +kernel
theorem dX11_met_50 : decode cX11_met 50 = .ok (.lconst 1, 1) := by decide +kernel
theorem dX11_met_51 : decode cX11_met 51 = .ok (.lstore 4, 2) := by decide +kernel
theorem dX11_met_53 : decode cX11_met 53 = .ok (.lconst 1, 1) := by decide +kernel
theorem dX11_met_54 : decode cX11_met 54 = .ok (.bipush 8, 2) := by decide +kernel
theorem dX11_met_56 : decode cX11_met 56 = .ok (.iload_n 1, 1) := by decide +kernel
theorem dX11_met_57 : decode cX11_met 57 = .ok (.imul, 1) := by decide +kernel
theorem dX11_met_58 : decode cX11_met 58 = .ok (.lshl, 1) := by decide +kernel
theorem dX11_met_59 : decode cX11_met 59 = .ok (.lstore 6, 2) := by decide +kernel
theorem dX11_met_61 : decode cX11_met 61 = .ok (.iconst 0, 1) := by decide +kernel
theorem dX11_met_62 : decode cX11_met 62 = .ok (.istore 8, 2) := by decide +kernel
theorem dX11_met_64 : decode cX11_met 64 = .ok (.iload 8, 2) := by decide +kernel
theorem dX11_met_66 : decode cX11_met 66 = .ok (.iload_n 1, 1) := by decide +kernel
theorem dX11_met_67 : decode cX11_met 67 = .ok (.if_icmp .ge 22, 3) := by decide +kernel
theorem dX11_met_70 : decode cX11_met 70 = .ok (.lload 4, 2) := by decide +kernel
theorem dX11_met_72 : decode cX11_met 72 = .ok (.sipush 256, 3) := by decide +kernel
theorem dX11_met_75 : decode cX11_met 75 = .ok (.iload_n 2, 1) := by decide +kernel
theorem dX11_met_76 : decode cX11_met 76 = .ok (.iload_n 2, 1) := by decide +kernel
theorem dX11_met_77 : decode cX11_met 77 = .ok (.imul, 1) := by decide +kernel
theorem dX11_met_78 : decode cX11_met 78 = .ok (.isub, 1) := by decide +kernel
theorem dX11_met_79 : decode cX11_met 79 = .ok (.i2l, 1) := by decide +kernel
theorem dX11_met_80 : decode cX11_met 80 = .ok (.lmul, 1) := by decide +kernel
theorem dX11_met_81 : decode cX11_met 81 = .ok (.lstore 4, 2) := by decide +kernel
theorem dX11_met_83 : decode cX11_met 83 = .ok (.iinc 8 1, 3) := by decide +kernel
theorem dX11_met_86 : decode cX11_met 86 = .ok (.goto (-22), 3) := by decide +kernel
theorem dX11_met_89 : decode cX11_met 89 = .ok (.lload 6, 2) := by decide +kernel
theorem dX11_met_91 : decode cX11_met 91 = .ok (.lload 4, 2) := by decide +kernel
theorem dX11_met_93 : decode cX11_met 93 = .ok (.lsub, 1) := by decide +kernel
theorem dX11_met_94 : decode cX11_met 94 = .ok (.lstore 8, 2) := by decide +kernel
theorem dX11_met_96 : decode cX11_met 96 = .ok (.lload 6, 2) := by decide +kernel
theorem dX11_met_98 : decode cX11_met 98 = .ok (.lstore 10, 2) := by decide +kernel
theorem dX11_met_100 : decode cX11_met 100 = .ok (.lload 8, 2) := by decide +kernel
theorem dX11_met_102 : decode cX11_met 102 = .ok (.lstore 12, 2) := by decide +kernel
theorem dX11_met_104 : decode cX11_met 104 = .ok (.lload 12, 2) := by decide +kernel
theorem dX11_met_106 : decode cX11_met 106 = .ok (.lconst 0, 1) := by decide +kernel
theorem dX11_met_107 : decode cX11_met 107 = .ok (.lcmp, 1) := by decide +kernel
theorem dX11_met_108 : decode cX11_met 108 = .ok (.ifCond .eq 21, 3) := by decide +kernel
theorem dX11_met_111 : decode cX11_met 111 = .ok (.lload 10, 2) := by decide +kernel
theorem dX11_met_113 : decode cX11_met 113 = .ok (.lload 12, 2) := by decide +kernel
theorem dX11_met_115 : decode cX11_met 115 = .ok (.lrem, 1) := by decide +kernel
theorem dX11_met_116 : decode cX11_met 116 = .ok (.lstore 14, 2) := by decide +kernel
theorem dX11_met_118 : decode cX11_met 118 = .ok (.lload 12, 2) := by decide +kernel
theorem dX11_met_120 : decode cX11_met 120 = .ok (.lstore 10, 2) := by decide +kernel
theorem dX11_met_122 : decode cX11_met 122 = .ok (.lload 14, 2) := by decide +kernel
theorem dX11_met_124 : decode cX11_met 124 = .ok (.lstore 12, 2) := by decide +kernel
theorem dX11_met_126 : decode cX11_met 126 = .ok (.goto (-22), 3) := by decide +kernel
theorem dX11_met_129 : decode cX11_met 129 = .ok (.iload_n 3, 1) := by decide +kernel
theorem dX11_met_130 : decode cX11_met 130 = .ok (.ifCond .ne 11, 3) := by decide +kernel
theorem dX11_met_133 : decode cX11_met 133 = .ok (.lload 8, 2) := by decide +kernel
theorem dX11_met_135 : decode cX11_met 135 = .ok (.lload 10, 2) := by decide +kernel
theorem dX11_met_137 : decode cX11_met 137 = .ok (.ldiv, 1) := by decide +kernel
theorem dX11_met_138 : decode cX11_met 138 = .ok (.goto 8, 3) := by decide +kernel
theorem dX11_met_141 : decode cX11_met 141 = .ok (.lload 6, 2) := by decide +kernel
theorem dX11_met_143 : decode cX11_met 143 = .ok (.lload 10, 2) := by decide +kernel
theorem dX11_met_145 : decode cX11_met 145 = .ok (.ldiv, 1) := by decide +kernel
theorem dX11_met_146 : decode cX11_met 146 = .ok (.lreturn, 1) := by decide +kernel
theorem dX11_hasBy_0 : decode cX11_hasBy 0 = .ok (.iload_n 0, 1) := by decide +kernel
theorem dX11_hasBy_1 : decode cX11_hasBy 1 = .ok (.ifCond .ne 15, 3) := by decide +kernel
theorem dX11_hasBy_4 : decode cX11_hasBy 4 = .ok (.iload_n 1, 1) := by decide +kernel
theorem dX11_hasBy_5 : decode cX11_hasBy 5 = .ok (.ifCond .ne 7, 3) := by decide +kernel
theorem dX11_hasBy_8 : decode cX11_hasBy 8 = .ok (.iload_n 2, 1) := by decide +kernel
theorem dX11_hasBy_9 : decode cX11_hasBy 9 = .ok (.goto 16, 3) := by decide +kernel
theorem dX11_hasBy_12 : decode cX11_hasBy 12 = .ok (.iload_n 3, 1) := by decide +kernel
theorem dX11_hasBy_13 : decode cX11_hasBy 13 = .ok (.goto 12, 3) := by decide +kernel
theorem dX11_hasBy_16 : decode cX11_hasBy 16 = .ok (.iload_n 1, 1) := by decide +kernel
theorem dX11_hasBy_17 : decode cX11_hasBy 17 = .ok (.ifCond .ne 7, 3) := by decide +kernel
theorem dX11_hasBy_20 : decode cX11_hasBy 20 = .ok (.iconst (-1), 1) := by decide +kernel
theorem dX11_hasBy_21 : decode cX11_hasBy 21 = .ok (.goto 4, 3) := by decide +kernel
theorem dX11_hasBy_24 : decode cX11_hasBy 24 = .ok (.iconst 0, 1) := by decide +kernel
theorem dX11_hasBy_25 : decode cX11_hasBy 25 = .ok (.ireturn, 1) := by decide +kernel
theorem dX11_isBest_0 : decode cX11_isBest 0 = .ok (.iload_n 0, 1) := by decide +kernel
theorem dX11_isBest_1 : decode cX11_isBest 1 = .ok (.iload_n 1, 1) := by decide +kernel
theorem dX11_isBest_2 : decode cX11_isBest 2 = .ok (.iload_n 2, 1) := by decide +kernel
theorem dX11_isBest_3 : decode cX11_isBest 3 = .ok (.iload_n 3, 1) := by decide +kernel
theorem dX11_isBest_4 : decode cX11_isBest 4 = .ok (.invokestatic 347, 3) := by decide +kernel
theorem dX11_isBest_7 : decode cX11_isBest 7 = .ok (.iconst 1, 1) := by decide +kernel
theorem dX11_isBest_8 : decode cX11_isBest 8 = .ok (.iload_n 0, 1) := by decide +kernel
theorem dX11_isBest_9 : decode cX11_isBest 9 = .ok (.isub, 1) := by decide +kernel
theorem dX11_isBest_10 : decode cX11_isBest 10 = .ok (.iload_n 1, 1) := by decide +kernel
theorem dX11_isBest_11 : decode cX11_isBest 11 = .ok (.iload_n 2, 1) := by decide +kernel
theorem dX11_isBest_12 : decode cX11_isBest 12 = .ok (.iload_n 3, 1) := by decide +kernel
theorem dX11_isBest_13 : decode cX11_isBest 13 = .ok (.invokestatic 347, 3) := by decide +kernel
theorem dX11_isBest_16 : decode cX11_isBest 16 = .ok (.if_icmp .lt 7, 3) := by decide +kernel
theorem dX11_isBest_19 : decode cX11_isBest 19 = .ok (.iconst 1, 1) := by decide +kernel
theorem dX11_isBest_20 : decode cX11_isBest 20 = .ok (.goto 4, 3) := by decide +kernel
theorem dX11_isBest_23 : decode cX11_isBest 23 = .ok (.iconst 0, 1) := by decide +kernel
theorem dX11_isBest_24 : decode cX11_isBest 24 = .ok (.ireturn, 1) := by decide +kernel
theorem dX11_open_0 : decode cX11_open 0 = .ok (.aload_n 0, 1) := by decide +kernel
theorem dX11_open_1 : decode cX11_open 1 = .ok (.iconst 0, 1) := by decide +kernel
theorem dX11_open_2 : decode cX11_open 2 = .ok (.putfield 97, 3) := by decide +kernel
theorem dX11_open_5 : decode cX11_open 5 = .ok (.aload_n 0, 1) := by decide +kernel
theorem dX11_open_6 : decode cX11_open 6 = .ok (.iload_n 1, 1) := by decide +kernel
theorem dX11_open_7 : decode cX11_open 7 = .ok (.iconst 0, 1) := by decide +kernel
theorem dX11_open_8 : decode cX11_open 8 = .ok (.bipush 99, 2) := by decide +kernel
theorem dX11_open_10 : decode cX11_open 10 = .ok (.invokestatic 131, 3) := by decide +kernel
theorem dX11_open_13 : decode cX11_open 13 = .ok (.ifCond .eq 22, 3) := by decide +kernel
theorem dX11_open_16 : decode cX11_open 16 = .ok (.iload_n 2, 1) := by decide +kernel
theorem dX11_open_17 : decode cX11_open 17 = .ok (.iconst 0, 1) := by decide +kernel
theorem dX11_open_18 : decode cX11_open 18 = .ok (.bipush 99, 2) := by decide +kernel
theorem dX11_open_20 : decode cX11_open 20 = .ok (.invokestatic 131, 3) := by decide +kernel
theorem dX11_open_23 : decode cX11_open 23 = .ok (.ifCond .eq 12, 3) := by decide +kernel
theorem dX11_open_26 : decode cX11_open 26 = .ok (.iload_n 3, 1) := by decide +kernel
theorem dX11_open_27 : decode cX11_open 27 = .ok (.iconst 0, 1) := by decide +kernel
theorem dX11_open_28 : decode cX11_open 28 = .ok (.iconst 2, 1) := by decide +kernel
theorem dX11_open_29 : decode cX11_open 29 = .ok (.invokestatic 131, 3) := by decide +kernel
theorem dX11_open_32 : decode cX11_open 32 = .ok (.ifCond .ne 7, 3) := by decide +kernel
theorem dX11_open_35 : decode cX11_open 35 = .ok (.iconst 1, 1) := by decide +kernel
theorem dX11_open_36 : decode cX11_open 36 = .ok (.goto 4, 3) := by decide +kernel
theorem dX11_open_39 : decode cX11_open 39 = .ok (.iconst 0, 1) := by decide +kernel
theorem dX11_open_40 : decode cX11_open 40 = .ok (.iconst 1, 1) := by decide +kernel
theorem dX11_open_41 : decode cX11_open 41 = .ok (.iconst 1, 1) := by decide +kernel
theorem dX11_open_42 : decode cX11_open 42 = .ok (.invokevirtual 173, 3) := by decide +kernel
theorem dX11_open_45 : decode cX11_open 45 = .ok (.ifCond .eq 5, 3) := by decide +kernel
theorem dX11_open_48 : decode cX11_open 48 = .ok (.iconst 0, 1) := by decide +kernel
theorem dX11_open_49 : decode cX11_open 49 = .ok (.ireturn, 1) := by decide +kernel
theorem dX11_open_50 : decode cX11_open 50 = .ok (.iconst 0, 1) := by decide +kernel
theorem dX11_open_51 : decode cX11_open 51 = .ok (.istore 4, 2) := by decide +kernel
theorem dX11_open_53 : decode cX11_open 53 = .ok (.iconst (-1), 1) := by decide +kernel
theorem dX11_open_54 : decode cX11_open 54 = .ok (.istore 5, 2) := by decide +kernel
theorem dX11_open_56 : decode cX11_open 56 = .ok (.iconst 0, 1) := by decide +kernel
theorem dX11_open_57 : decode cX11_open 57 = .ok (.istore 6, 2) := by decide +kernel
theorem dX11_open_59 : decode cX11_open 59 = .ok (.iconst 0, 1) := by decide +kernel
theorem dX11_open_60 : decode cX11_open 60 = .ok (.istore 7, 2) := by decide +kernel
theorem dX11_open_62 : decode cX11_open 62 = .ok (.iload 7, 2) := by decide +kernel
theorem dX11_open_64 : decode cX11_open 64 = .ok (.iconst 2, 1) := by decide +kernel
theorem dX11_open_65 : decode cX11_open 65 = .ok (.if_icmp .ge 105, 3) := by decide +kernel
theorem dX11_open_68 : decode cX11_open 68 = .ok (.iconst 0, 1) := by decide +kernel
theorem dX11_open_69 : decode cX11_open 69 = .ok (.istore 8, 2) := by decide +kernel
theorem dX11_open_71 : decode cX11_open 71 = .ok (.iload 8, 2) := by decide +kernel
theorem dX11_open_73 : decode cX11_open 73 = .ok (.iconst 2, 1) := by decide +kernel
theorem dX11_open_74 : decode cX11_open 74 = .ok (.if_icmp .ge 90, 3) := by decide +kernel
theorem dX11_open_77 : decode cX11_open 77 = .ok (.iload 7, 2) := by decide +kernel
theorem dX11_open_79 : decode cX11_open 79 = .ok (.iload 8, 2) := by decide +kernel
theorem dX11_open_81 : decode cX11_open 81 = .ok (.iload_n 1, 1) := by decide +kernel
theorem dX11_open_82 : decode cX11_open 82 = .ok (.iload_n 2, 1) := by decide +kernel
theorem dX11_open_83 : decode cX11_open 83 = .ok (.invokestatic 351, 3) := by decide +kernel
theorem dX11_open_86 : decode cX11_open 86 = .ok (.ifCond .eq 72, 3) := by decide +kernel
theorem dX11_open_89 : decode cX11_open 89 = .ok (.iload 8, 2) := by decide +kernel
theorem dX11_open_91 : decode cX11_open 91 = .ok (.iload 7, 2) := by decide +kernel
theorem dX11_open_93 : decode cX11_open 93 = .ok (.iload_n 1, 1) := by decide +kernel
theorem dX11_open_94 : decode cX11_open 94 = .ok (.iload_n 2, 1) := by decide +kernel
theorem dX11_open_95 : decode cX11_open 95 = .ok (.invokestatic 351, 3) := by decide +kernel
theorem dX11_open_98 : decode cX11_open 98 = .ok (.ifCond .ne 6, 3) := by decide +kernel
theorem dX11_open_101 : decode cX11_open 101 = .ok (.goto 57, 3) := by decide +kernel
theorem dX11_open_104 : decode cX11_open 104 = .ok (.iload 4, 2) := by decide +kernel
theorem dX11_open_106 : decode cX11_open 106 = .ok (.ifCond .ne 25, 3) := by decide +kernel
theorem dX11_open_109 : decode cX11_open 109 = .ok (.iload 7, 2) := by decide +kernel
theorem dX11_open_111 : decode cX11_open 111 = .ok (.iload 8, 2) := by decide +kernel
theorem dX11_open_113 : decode cX11_open 113 = .ok (.iload_n 1, 1) := by decide +kernel
theorem dX11_open_114 : decode cX11_open 114 = .ok (.iload_n 2, 1) := by decide +kernel
theorem dX11_open_115 : decode cX11_open 115 = .ok (.invokestatic 347, 3) := by decide +kernel
theorem dX11_open_118 : decode cX11_open 118 = .ok (.iload 8, 2) := by decide +kernel
theorem dX11_open_120 : decode cX11_open 120 = .ok (.iload 7, 2) := by decide +kernel
theorem dX11_open_122 : decode cX11_open 122 = .ok (.iload_n 1, 1) := by decide +kernel
theorem dX11_open_123 : decode cX11_open 123 = .ok (.iload_n 2, 1) := by decide +kernel
theorem dX11_open_124 : decode cX11_open 124 = .ok (.invokestatic 347, 3) := by decide +kernel
theorem dX11_open_127 : decode cX11_open 127 = .ok (.iadd, 1) := by decide +kernel
theorem dX11_open_128 : decode cX11_open 128 = .ok (.goto 5, 3) := by decide +kernel
theorem dX11_open_131 : decode cX11_open 131 = .ok (.iload 6, 2) := by decide +kernel
theorem dX11_open_133 : decode cX11_open 133 = .ok (.istore 6, 2) := by decide +kernel
theorem dX11_open_135 : decode cX11_open 135 = .ok (.iload 4, 2) := by decide +kernel
theorem dX11_open_137 : decode cX11_open 137 = .ok (.ifCond .ne 14, 3) := by decide +kernel
theorem dX11_open_140 : decode cX11_open 140 = .ok (.bipush 10, 2) := by decide +kernel
theorem dX11_open_142 : decode cX11_open 142 = .ok (.iload 7, 2) := by decide +kernel
theorem dX11_open_144 : decode cX11_open 144 = .ok (.imul, 1) := by decide +kernel
theorem dX11_open_145 : decode cX11_open 145 = .ok (.iload 8, 2) := by decide +kernel
theorem dX11_open_147 : decode cX11_open 147 = .ok (.iadd, 1) := by decide +kernel
theorem dX11_open_148 : decode cX11_open 148 = .ok (.goto 5, 3) := by decide +kernel
theorem dX11_open_151 : decode cX11_open 151 = .ok (.iload 5, 2) := by decide +kernel
theorem dX11_open_153 : decode cX11_open 153 = .ok (.istore 5, 2) := by decide +kernel
theorem dX11_open_155 : decode cX11_open 155 = .ok (.iinc 4 1, 3) := by decide +kernel
theorem dX11_open_158 : decode cX11_open 158 = .ok (.iinc 8 1, 3) := by decide +kernel
theorem dX11_open_161 : decode cX11_open 161 = .ok (.goto (-90), 3) := by decide +kernel
theorem dX11_open_164 : decode cX11_open 164 = .ok (.iinc 7 1, 3) := by decide +kernel
theorem dX11_open_167 : decode cX11_open 167 = .ok (.goto (-105), 3) := by decide +kernel
theorem dX11_open_170 : decode cX11_open 170 = .ok (.iload_n 3, 1) := by decide +kernel
theorem dX11_open_171 : decode cX11_open 171 = .ok (.ifCond .ne 8, 3) := by decide +kernel
theorem dX11_open_174 : decode cX11_open 174 = .ok (.iload 4, 2) := by decide +kernel
theorem dX11_open_176 : decode cX11_open 176 = .ok (.goto 15, 3) := by decide +kernel
theorem dX11_open_179 : decode cX11_open 179 = .ok (.iload_n 3, 1) := by decide +kernel
theorem dX11_open_180 : decode cX11_open 180 = .ok (.iconst 1, 1) := by decide +kernel
theorem dX11_open_181 : decode cX11_open 181 = .ok (.if_icmp .ne 8, 3) := by decide +kernel
theorem dX11_open_184 : decode cX11_open 184 = .ok (.iload 5, 2) := by decide +kernel
theorem dX11_open_186 : decode cX11_open 186 = .ok (.goto 5, 3) := by decide +kernel
theorem dX11_open_189 : decode cX11_open 189 = .ok (.iload 6, 2) := by decide +kernel
theorem dX11_open_191 : decode cX11_open 191 = .ok (.ireturn, 1) := by decide +kernel
theorem dX11_givenBy_0 : decode cX11_givenBy 0 = .ok (.iconst 0, 1) := by decide +kernel
theorem dX11_givenBy_1 : decode cX11_givenBy 1 = .ok (.istore_n 3, 1) := by decide +kernel
theorem dX11_givenBy_2 : decode cX11_givenBy 2 = .ok (.iconst 0, 1) := by decide +kernel
theorem dX11_givenBy_3 : decode cX11_givenBy 3 = .ok (.istore 4, 2) := by decide +kernel
theorem dX11_givenBy_5 : decode cX11_givenBy 5 = .ok (.iload 4, 2) := by decide +kernel
theorem dX11_givenBy_7 : decode cX11_givenBy 7 = .ok (.aload_n 0, 1) := by decide +kernel
theorem dX11_givenBy_8 : decode cX11_givenBy 8 = .ok (.getfield 23, 3) := by decide +kernel
theorem dX11_givenBy_11 : decode cX11_givenBy 11 = .ok (.iconst 0, 1) := by decide +kernel
theorem dX11_givenBy_12 : decode cX11_givenBy 12 = .ok (.iaload, 1) := by decide +kernel
theorem dX11_givenBy_13 : decode cX11_givenBy 13 = .ok (.if_icmp .ge 39, 3) := by decide +kernel
theorem dX11_givenBy_16 : decode cX11_givenBy 16 = .ok (.iload_n 3, 1) := by decide +kernel
theorem dX11_givenBy_17 : decode cX11_givenBy 17 = .ok (.iload_n 1, 1) := by decide +kernel
theorem dX11_givenBy_18 : decode cX11_givenBy 18 = .ok (.iload 4, 2) := by decide +kernel
theorem dX11_givenBy_20 : decode cX11_givenBy 20 = .ok (.invokestatic 255, 3) := by decide +kernel
theorem dX11_givenBy_23 : decode cX11_givenBy 23 = .ok (.ifCond .eq 20, 3) := by decide +kernel
theorem dX11_givenBy_26 : decode cX11_givenBy 26 = .ok (.iload_n 2, 1) := by decide +kernel
theorem dX11_givenBy_27 : decode cX11_givenBy 27 = .ok (.aload_n 0, 1) := by decide +kernel
theorem dX11_givenBy_28 : decode cX11_givenBy 28 = .ok (.getfield 73, 3) := by decide +kernel
theorem dX11_givenBy_31 : decode cX11_givenBy 31 = .ok (.bipush 6, 2) := by decide +kernel
theorem dX11_givenBy_33 : decode cX11_givenBy 33 = .ok (.iload 4, 2) := by decide +kernel
theorem dX11_givenBy_35 : decode cX11_givenBy 35 = .ok (.iadd, 1) := by decide +kernel
theorem dX11_givenBy_36 : decode cX11_givenBy 36 = .ok (.iaload, 1) := by decide +kernel
theorem dX11_givenBy_37 : decode cX11_givenBy 37 = .ok (.invokestatic 237, 3) := by decide +kernel
theorem dX11_givenBy_40 : decode cX11_givenBy 40 = .ok (.goto 4, 3) := by decide +kernel
theorem dX11_givenBy_43 : decode cX11_givenBy 43 = .ok (.iconst 0, 1) := by decide +kernel
theorem dX11_givenBy_44 : decode cX11_givenBy 44 = .ok (.iadd, 1) := by decide +kernel
theorem dX11_givenBy_45 : decode cX11_givenBy 45 = .ok (.istore_n 3, 1) := by decide +kernel
theorem dX11_givenBy_46 : decode cX11_givenBy 46 = .ok (.iinc 4 1, 3) := by decide +kernel
theorem dX11_givenBy_49 : decode cX11_givenBy 49 = .ok (.goto (-44), 3) := by decide +kernel
theorem dX11_givenBy_52 : decode cX11_givenBy 52 = .ok (.iload_n 3, 1) := by decide +kernel
theorem dX11_givenBy_53 : decode cX11_givenBy 53 = .ok (.ireturn, 1) := by decide +kernel
theorem dX11_share_0 : decode cX11_share 0 = .ok (.aload_n 0, 1) := by decide +kernel
theorem dX11_share_1 : decode cX11_share 1 = .ok (.iconst 0, 1) := by decide +kernel
theorem dX11_share_2 : decode cX11_share 2 = .ok (.putfield 97, 3) := by decide +kernel
theorem dX11_share_5 : decode cX11_share 5 = .ok (.aload_n 0, 1) := by decide +kernel
theorem dX11_share_6 : decode cX11_share 6 = .ok (.aload_n 0, 1) := by decide +kernel
theorem dX11_share_7 : decode cX11_share 7 = .ok (.iload_n 1, 1) := by decide +kernel
theorem dX11_share_8 : decode cX11_share 8 = .ok (.invokevirtual 325, 3) := by decide +kernel
theorem dX11_share_11 : decode cX11_share 11 = .ok (.ifCond .ne 7, 3) := by decide +kernel
theorem dX11_share_14 : decode cX11_share 14 = .ok (.iconst 1, 1) := by decide +kernel
theorem dX11_share_15 : decode cX11_share 15 = .ok (.goto 4, 3) := by decide +kernel
theorem dX11_share_18 : decode cX11_share 18 = .ok (.iconst 0, 1) := by decide +kernel
theorem dX11_share_19 : decode cX11_share 19 = .ok (.iconst 1, 1) := by decide +kernel
theorem dX11_share_20 : decode cX11_share 20 = .ok (.iconst 0, 1) := by decide +kernel
theorem dX11_share_21 : decode cX11_share 21 = .ok (.invokevirtual 173, 3) := by decide +kernel
theorem dX11_share_24 : decode cX11_share 24 = .ok (.ifCond .ne 46, 3) := by decide +kernel
theorem dX11_share_27 : decode cX11_share 27 = .ok (.aload_n 0, 1) := by decide +kernel
theorem dX11_share_28 : decode cX11_share 28 = .ok (.iload_n 2, 1) := by decide +kernel
theorem dX11_share_29 : decode cX11_share 29 = .ok (.iconst 0, 1) := by decide +kernel
theorem dX11_share_30 : decode cX11_share 30 = .ok (.iconst 1, 1) := by decide +kernel
theorem dX11_share_31 : decode cX11_share 31 = .ok (.aload_n 0, 1) := by decide +kernel
theorem dX11_share_32 : decode cX11_share 32 = .ok (.getfield 23, 3) := by decide +kernel
theorem dX11_share_35 : decode cX11_share 35 = .ok (.iconst 0, 1) := by decide +kernel
theorem dX11_share_36 : decode cX11_share 36 = .ok (.iaload, 1) := by decide +kernel
theorem dX11_share_37 : decode cX11_share 37 = .ok (.ishl, 1) := by decide +kernel
theorem dX11_share_38 : decode cX11_share 38 = .ok (.iconst 1, 1) := by decide +kernel
theorem dX11_share_39 : decode cX11_share 39 = .ok (.isub, 1) := by decide +kernel
theorem dX11_share_40 : decode cX11_share 40 = .ok (.invokestatic 131, 3) := by decide +kernel
theorem dX11_share_43 : decode cX11_share 43 = .ok (.ifCond .eq 14, 3) := by decide +kernel
theorem dX11_share_46 : decode cX11_share 46 = .ok (.iload_n 3, 1) := by decide +kernel
theorem dX11_share_47 : decode cX11_share 47 = .ok (.iconst 0, 1) := by decide +kernel
theorem dX11_share_48 : decode cX11_share 48 = .ok (.sipush 9999, 3) := by decide +kernel
theorem dX11_share_51 : decode cX11_share 51 = .ok (.invokestatic 131, 3) := by decide +kernel
theorem dX11_share_54 : decode cX11_share 54 = .ok (.ifCond .ne 7, 3) := by decide +kernel
theorem dX11_share_57 : decode cX11_share 57 = .ok (.iconst 1, 1) := by decide +kernel
theorem dX11_share_58 : decode cX11_share 58 = .ok (.goto 4, 3) := by decide +kernel
theorem dX11_share_61 : decode cX11_share 61 = .ok (.iconst 0, 1) := by decide +kernel
theorem dX11_share_62 : decode cX11_share 62 = .ok (.iconst 2, 1) := by decide +kernel
theorem dX11_share_63 : decode cX11_share 63 = .ok (.iconst 1, 1) := by decide +kernel
theorem dX11_share_64 : decode cX11_share 64 = .ok (.invokevirtual 173, 3) := by decide +kernel
theorem dX11_share_67 : decode cX11_share 67 = .ok (.ifCond .eq 5, 3) := by decide +kernel
theorem dX11_share_70 : decode cX11_share 70 = .ok (.iconst 0, 1) := by decide +kernel
theorem dX11_share_71 : decode cX11_share 71 = .ok (.ireturn, 1) := by decide +kernel
theorem dX11_share_72 : decode cX11_share 72 = .ok (.iconst 0, 1) := by decide +kernel
theorem dX11_share_73 : decode cX11_share 73 = .ok (.istore 4, 2) := by decide +kernel
theorem dX11_share_75 : decode cX11_share 75 = .ok (.iload 4, 2) := by decide +kernel
theorem dX11_share_77 : decode cX11_share 77 = .ok (.aload_n 0, 1) := by decide +kernel
theorem dX11_share_78 : decode cX11_share 78 = .ok (.getfield 73, 3) := by decide +kernel
theorem dX11_share_81 : decode cX11_share 81 = .ok (.bipush 6, 2) := by decide +kernel
theorem dX11_share_83 : decode cX11_share 83 = .ok (.iload_n 1, 1) := by decide +kernel
theorem dX11_share_84 : decode cX11_share 84 = .ok (.iadd, 1) := by decide +kernel
theorem dX11_share_85 : decode cX11_share 85 = .ok (.iaload, 1) := by decide +kernel
theorem dX11_share_86 : decode cX11_share 86 = .ok (.if_icmp .ge 22, 3) := by decide +kernel
theorem dX11_share_89 : decode cX11_share 89 = .ok (.aload_n 0, 1) := by decide +kernel
theorem dX11_share_90 : decode cX11_share 90 = .ok (.iload_n 2, 1) := by decide +kernel
theorem dX11_share_91 : decode cX11_share 91 = .ok (.iload 4, 2) := by decide +kernel
theorem dX11_share_93 : decode cX11_share 93 = .ok (.iconst 1, 1) := by decide +kernel
theorem dX11_share_94 : decode cX11_share 94 = .ok (.iadd, 1) := by decide +kernel
theorem dX11_share_95 : decode cX11_share 95 = .ok (.invokevirtual 355, 3) := by decide +kernel
theorem dX11_share_98 : decode cX11_share 98 = .ok (.iload_n 3, 1) := by decide +kernel
theorem dX11_share_99 : decode cX11_share 99 = .ok (.if_icmp .gt 9, 3) := by decide +kernel
theorem dX11_share_102 : decode cX11_share 102 = .ok (.iinc 4 1, 3) := by decide +kernel
theorem dX11_share_105 : decode cX11_share 105 = .ok (.goto (-30), 3) := by decide +kernel
theorem dX11_share_108 : decode cX11_share 108 = .ok (.iload_n 2, 1) := by decide +kernel
theorem dX11_share_109 : decode cX11_share 109 = .ok (.iload_n 1, 1) := by decide +kernel
theorem dX11_share_110 : decode cX11_share 110 = .ok (.invokestatic 255, 3) := by decide +kernel
theorem dX11_share_113 : decode cX11_share 113 = .ok (.ifCond .eq 8, 3) := by decide +kernel
theorem dX11_share_116 : decode cX11_share 116 = .ok (.iload 4, 2) := by decide +kernel
theorem dX11_share_118 : decode cX11_share 118 = .ok (.goto 4, 3) := by decide +kernel
theorem dX11_share_121 : decode cX11_share 121 = .ok (.iconst 0, 1) := by decide +kernel
theorem dX11_share_122 : decode cX11_share 122 = .ok (.ireturn, 1) := by decide +kernel
theorem dX11_youngest_0 : decode cX11_youngest 0 = .ok (.aload_n 0, 1) := by decide +kernel
theorem dX11_youngest_1 : decode cX11_youngest 1 = .ok (.iconst 0, 1) := by decide +kernel
theorem dX11_youngest_2 : decode cX11_youngest 2 = .ok (.putfield 97, 3) := by decide +kernel
theorem dX11_youngest_5 : decode cX11_youngest 5 = .ok (.aload_n 0, 1) := by decide +kernel
theorem dX11_youngest_6 : decode cX11_youngest 6 = .ok (.iload_n 1, 1) := by decide +kernel
theorem dX11_youngest_7 : decode cX11_youngest 7 = .ok (.iconst 0, 1) := by decide +kernel
theorem dX11_youngest_8 : decode cX11_youngest 8 = .ok (.iconst 1, 1) := by decide +kernel
theorem dX11_youngest_9 : decode cX11_youngest 9 = .ok (.invokestatic 131, 3) := by decide +kernel
theorem dX11_youngest_12 : decode cX11_youngest 12 = .ok (.ifCond .ne 7, 3) := by decide +kernel
theorem dX11_youngest_15 : decode cX11_youngest 15 = .ok (.iconst 1, 1) := by decide +kernel
theorem dX11_youngest_16 : decode cX11_youngest 16 = .ok (.goto 4, 3) := by decide +kernel
theorem dX11_youngest_19 : decode cX11_youngest 19 = .ok (.iconst 0, 1) := by decide +kernel
theorem dX11_youngest_20 : decode cX11_youngest 20 = .ok (.iconst 1, 1) := by decide +kernel
theorem dX11_youngest_21 : decode cX11_youngest 21 = .ok (.iconst 1, 1) := by decide +kernel
theorem dX11_youngest_22 : decode cX11_youngest 22 = .ok (.invokevirtual 173, 3) := by decide +kernel
theorem dX11_youngest_25 : decode cX11_youngest 25 = .ok (.ifCond .eq 5, 3) := by decide +kernel
theorem dX11_youngest_28 : decode cX11_youngest 28 = .ok (.iconst 0, 1) := by decide +kernel
theorem dX11_youngest_29 : decode cX11_youngest 29 = .ok (.ireturn, 1) := by decide +kernel
theorem dX11_youngest_30 : decode cX11_youngest 30 = .ok (.iconst (-1), 1) := by decide +kernel
theorem dX11_youngest_31 : decode cX11_youngest 31 = .ok (.istore_n 2, 1) := by decide +kernel
theorem dX11_youngest_32 : decode cX11_youngest 32 = .ok (.iconst 0, 1) := by decide +kernel
theorem dX11_youngest_33 : decode cX11_youngest 33 = .ok (.istore_n 3, 1) := by decide +kernel
theorem dX11_youngest_34 : decode cX11_youngest 34 = .ok (.iload_n 3, 1) := by decide +kernel
theorem dX11_youngest_35 : decode cX11_youngest 35 = .ok (.aload_n 0, 1) := by decide +kernel
theorem dX11_youngest_36 : decode cX11_youngest 36 = .ok (.getfield 23, 3) := by decide +kernel
theorem dX11_youngest_39 : decode cX11_youngest 39 = .ok (.iconst 0, 1) := by decide +kernel
theorem dX11_youngest_40 : decode cX11_youngest 40 = .ok (.iaload, 1) := by decide +kernel
theorem dX11_youngest_41 : decode cX11_youngest 41 = .ok (.if_icmp .ge 41, 3) := by decide +kernel
theorem dX11_youngest_44 : decode cX11_youngest 44 = .ok (.iload_n 2, 1) := by decide +kernel
theorem dX11_youngest_45 : decode cX11_youngest 45 = .ok (.iconst (-1), 1) := by decide +kernel
theorem dX11_youngest_46 : decode cX11_youngest 46 = .ok (.if_icmp .eq 24, 3) := by decide +kernel
theorem dX11_youngest_49 : decode cX11_youngest 49 = .ok (.aload_n 0, 1) := by decide +kernel
theorem dX11_youngest_50 : decode cX11_youngest 50 = .ok (.getfield 73, 3) := by decide +kernel
theorem dX11_youngest_53 : decode cX11_youngest 53 = .ok (.bipush 6, 2) := by decide +kernel
theorem dX11_youngest_55 : decode cX11_youngest 55 = .ok (.iload_n 3, 1) := by decide +kernel
theorem dX11_youngest_56 : decode cX11_youngest 56 = .ok (.iadd, 1) := by decide +kernel
theorem dX11_youngest_57 : decode cX11_youngest 57 = .ok (.iaload, 1) := by decide +kernel
theorem dX11_youngest_58 : decode cX11_youngest 58 = .ok (.aload_n 0, 1) := by decide +kernel
theorem dX11_youngest_59 : decode cX11_youngest 59 = .ok (.getfield 73, 3) := by decide +kernel
theorem dX11_youngest_62 : decode cX11_youngest 62 = .ok (.bipush 6, 2) := by decide +kernel
theorem dX11_youngest_64 : decode cX11_youngest 64 = .ok (.iload_n 2, 1) := by decide +kernel
theorem dX11_youngest_65 : decode cX11_youngest 65 = .ok (.iadd, 1) := by decide +kernel
theorem dX11_youngest_66 : decode cX11_youngest 66 = .ok (.iaload, 1) := by decide +kernel
theorem dX11_youngest_67 : decode cX11_youngest 67 = .ok (.if_icmp .ge 7, 3) := by decide +kernel
theorem dX11_youngest_70 : decode cX11_youngest 70 = .ok (.iload_n 3, 1) := by decide +kernel
theorem dX11_youngest_71 : decode cX11_youngest 71 = .ok (.goto 4, 3) := by decide +kernel
theorem dX11_youngest_74 : decode cX11_youngest 74 = .ok (.iload_n 2, 1) := by decide +kernel
theorem dX11_youngest_75 : decode cX11_youngest 75 = .ok (.istore_n 2, 1) := by decide +kernel
theorem dX11_youngest_76 : decode cX11_youngest 76 = .ok (.iinc 3 1, 3) := by decide +kernel
theorem dX11_youngest_79 : decode cX11_youngest 79 = .ok (.goto (-45), 3) := by decide +kernel
theorem dX11_youngest_82 : decode cX11_youngest 82 = .ok (.iload_n 1, 1) := by decide +kernel
theorem dX11_youngest_83 : decode cX11_youngest 83 = .ok (.ifCond .eq 8, 3) := by decide +kernel
theorem dX11_youngest_86 : decode cX11_youngest 86 = .ok (.iload_n 2, 1) := by decide +kernel
theorem dX11_youngest_87 : decode cX11_youngest 87 = .ok (.iconst (-1), 1) := by decide +kernel
theorem dX11_youngest_88 : decode cX11_youngest 88 = .ok (.if_icmp .ne 7, 3) := by decide +kernel
theorem dX11_youngest_91 : decode cX11_youngest 91 = .ok (.iload_n 2, 1) := by decide +kernel
theorem dX11_youngest_92 : decode cX11_youngest 92 = .ok (.goto 12, 3) := by decide +kernel
theorem dX11_youngest_95 : decode cX11_youngest 95 = .ok (.aload_n 0, 1) := by decide +kernel
theorem dX11_youngest_96 : decode cX11_youngest 96 = .ok (.getfield 73, 3) := by decide +kernel
theorem dX11_youngest_99 : decode cX11_youngest 99 = .ok (.bipush 6, 2) := by decide +kernel
theorem dX11_youngest_101 : decode cX11_youngest 101 = .ok (.iload_n 2, 1) := by decide +kernel
theorem dX11_youngest_102 : decode cX11_youngest 102 = .ok (.iadd, 1) := by decide +kernel
theorem dX11_youngest_103 : decode cX11_youngest 103 = .ok (.iaload, 1) := by decide +kernel
theorem dX11_youngest_104 : decode cX11_youngest 104 = .ok (.ireturn, 1) := by decide +kernel
theorem dX11_next_0 : decode cX11_next 0 = .ok (.aload_n 0, 1) := by decide +kernel
theorem dX11_next_1 : decode cX11_next 1 = .ok (.iconst 0, 1) := by decide +kernel
theorem dX11_next_2 : decode cX11_next 2 = .ok (.putfield 97, 3) := by decide +kernel
theorem dX11_next_5 : decode cX11_next 5 = .ok (.aload_n 0, 1) := by decide +kernel
theorem dX11_next_6 : decode cX11_next 6 = .ok (.aload_n 0, 1) := by decide +kernel
theorem dX11_next_7 : decode cX11_next 7 = .ok (.iload_n 1, 1) := by decide +kernel
theorem dX11_next_8 : decode cX11_next 8 = .ok (.invokevirtual 325, 3) := by decide +kernel
theorem dX11_next_11 : decode cX11_next 11 = .ok (.ifCond .ne 7, 3) := by decide +kernel
theorem dX11_next_14 : decode cX11_next 14 = .ok (.iconst 1, 1) := by decide +kernel
theorem dX11_next_15 : decode cX11_next 15 = .ok (.goto 4, 3) := by decide +kernel
theorem dX11_next_18 : decode cX11_next 18 = .ok (.iconst 0, 1) := by decide +kernel
theorem dX11_next_19 : decode cX11_next 19 = .ok (.iconst 1, 1) := by decide +kernel
theorem dX11_next_20 : decode cX11_next 20 = .ok (.iconst 0, 1) := by decide +kernel
theorem dX11_next_21 : decode cX11_next 21 = .ok (.invokevirtual 173, 3) := by decide +kernel
theorem dX11_next_24 : decode cX11_next 24 = .ok (.ifCond .ne 26, 3) := by decide +kernel
theorem dX11_next_27 : decode cX11_next 27 = .ok (.aload_n 0, 1) := by decide +kernel
theorem dX11_next_28 : decode cX11_next 28 = .ok (.iload_n 2, 1) := by decide +kernel
theorem dX11_next_29 : decode cX11_next 29 = .ok (.iconst 0, 1) := by decide +kernel
theorem dX11_next_30 : decode cX11_next 30 = .ok (.iconst 1, 1) := by decide +kernel
theorem dX11_next_31 : decode cX11_next 31 = .ok (.invokestatic 131, 3) := by decide +kernel
theorem dX11_next_34 : decode cX11_next 34 = .ok (.ifCond .ne 7, 3) := by decide +kernel
theorem dX11_next_37 : decode cX11_next 37 = .ok (.iconst 1, 1) := by decide +kernel
theorem dX11_next_38 : decode cX11_next 38 = .ok (.goto 4, 3) := by decide +kernel
theorem dX11_next_41 : decode cX11_next 41 = .ok (.iconst 0, 1) := by decide +kernel
theorem dX11_next_42 : decode cX11_next 42 = .ok (.iconst 2, 1) := by decide +kernel
theorem dX11_next_43 : decode cX11_next 43 = .ok (.iconst 1, 1) := by decide +kernel
theorem dX11_next_44 : decode cX11_next 44 = .ok (.invokevirtual 173, 3) := by decide +kernel
theorem dX11_next_47 : decode cX11_next 47 = .ok (.ifCond .eq 5, 3) := by decide +kernel
theorem dX11_next_50 : decode cX11_next 50 = .ok (.iconst 0, 1) := by decide +kernel
theorem dX11_next_51 : decode cX11_next 51 = .ok (.ireturn, 1) := by decide +kernel
theorem dX11_next_52 : decode cX11_next 52 = .ok (.iconst (-1), 1) := by decide +kernel
theorem dX11_next_53 : decode cX11_next 53 = .ok (.istore_n 3, 1) := by decide +kernel
theorem dX11_next_54 : decode cX11_next 54 = .ok (.iconst 0, 1) := by decide +kernel
theorem dX11_next_55 : decode cX11_next 55 = .ok (.istore 4, 2) := by decide +kernel
theorem dX11_next_57 : decode cX11_next 57 = .ok (.iload 4, 2) := by decide +kernel
theorem dX11_next_59 : decode cX11_next 59 = .ok (.aload_n 0, 1) := by decide +kernel
theorem dX11_next_60 : decode cX11_next 60 = .ok (.getfield 23, 3) := by decide +kernel
theorem dX11_next_63 : decode cX11_next 63 = .ok (.iconst 2, 1) := by decide +kernel
theorem dX11_next_64 : decode cX11_next 64 = .ok (.iaload, 1) := by decide +kernel
theorem dX11_next_65 : decode cX11_next 65 = .ok (.if_icmp .ge 93, 3) := by decide +kernel
theorem dX11_next_68 : decode cX11_next 68 = .ok (.aload_n 0, 1) := by decide +kernel
theorem dX11_next_69 : decode cX11_next 69 = .ok (.getfield 49, 3) := by decide +kernel
theorem dX11_next_72 : decode cX11_next 72 = .ok (.iload 4, 2) := by decide +kernel
theorem dX11_next_74 : decode cX11_next 74 = .ok (.aaload, 1) := by decide +kernel
theorem dX11_next_75 : decode cX11_next 75 = .ok (.iconst 0, 1) := by decide +kernel
theorem dX11_next_76 : decode cX11_next 76 = .ok (.iaload, 1) := by decide +kernel
theorem dX11_next_77 : decode cX11_next 77 = .ok (.iload_n 1, 1) := by decide +kernel
theorem dX11_next_78 : decode cX11_next 78 = .ok (.if_icmp .ne 74, 3) := by decide +kernel
theorem dX11_next_81 : decode cX11_next 81 = .ok (.aload_n 0, 1) := by decide +kernel
theorem dX11_next_82 : decode cX11_next 82 = .ok (.getfield 73, 3) := by decide +kernel
theorem dX11_next_85 : decode cX11_next 85 = .ok (.bipush 42, 2) := by decide +kernel
theorem dX11_next_87 : decode cX11_next 87 = .ok (.iload 4, 2) := by decide +kernel
theorem dX11_next_89 : decode cX11_next 89 = .ok (.iadd, 1) := by decide +kernel
theorem dX11_next_90 : decode cX11_next 90 = .ok (.iaload, 1) := by decide +kernel
theorem dX11_next_91 : decode cX11_next 91 = .ok (.iconst 1, 1) := by decide +kernel
theorem dX11_next_92 : decode cX11_next 92 = .ok (.if_icmp .eq 60, 3) := by decide +kernel
theorem dX11_next_95 : decode cX11_next 95 = .ok (.aload_n 0, 1) := by decide +kernel
theorem dX11_next_96 : decode cX11_next 96 = .ok (.getfield 73, 3) := by decide +kernel
theorem dX11_next_99 : decode cX11_next 99 = .ok (.bipush 30, 2) := by decide +kernel
theorem dX11_next_101 : decode cX11_next 101 = .ok (.iload 4, 2) := by decide +kernel
theorem dX11_next_103 : decode cX11_next 103 = .ok (.iadd, 1) := by decide +kernel
theorem dX11_next_104 : decode cX11_next 104 = .ok (.iaload, 1) := by decide +kernel
theorem dX11_next_105 : decode cX11_next 105 = .ok (.aload_n 0, 1) := by decide +kernel
theorem dX11_next_106 : decode cX11_next 106 = .ok (.getfield 73, 3) := by decide +kernel
theorem dX11_next_109 : decode cX11_next 109 = .ok (.bipush 55, 2) := by decide +kernel
theorem dX11_next_111 : decode cX11_next 111 = .ok (.iaload, 1) := by decide +kernel
theorem dX11_next_112 : decode cX11_next 112 = .ok (.if_icmp .ge 6, 3) := by decide +kernel
theorem dX11_next_115 : decode cX11_next 115 = .ok (.goto 37, 3) := by decide +kernel
theorem dX11_next_118 : decode cX11_next 118 = .ok (.iload_n 3, 1) := by decide +kernel
theorem dX11_next_119 : decode cX11_next 119 = .ok (.iconst (-1), 1) := by decide +kernel
theorem dX11_next_120 : decode cX11_next 120 = .ok (.if_icmp .eq 25, 3) := by decide +kernel
theorem dX11_next_123 : decode cX11_next 123 = .ok (.aload_n 0, 1) := by decide +kernel
theorem dX11_next_124 : decode cX11_next 124 = .ok (.getfield 73, 3) := by decide +kernel
theorem dX11_next_127 : decode cX11_next 127 = .ok (.bipush 30, 2) := by decide +kernel
theorem dX11_next_129 : decode cX11_next 129 = .ok (.iload 4, 2) := by decide +kernel
theorem dX11_next_131 : decode cX11_next 131 = .ok (.iadd, 1) := by decide +kernel
theorem dX11_next_132 : decode cX11_next 132 = .ok (.iaload, 1) := by decide +kernel
theorem dX11_next_133 : decode cX11_next 133 = .ok (.aload_n 0, 1) := by decide +kernel
theorem dX11_next_134 : decode cX11_next 134 = .ok (.getfield 73, 3) := by decide +kernel
theorem dX11_next_137 : decode cX11_next 137 = .ok (.bipush 30, 2) := by decide +kernel
theorem dX11_next_139 : decode cX11_next 139 = .ok (.iload_n 3, 1) := by decide +kernel
theorem dX11_next_140 : decode cX11_next 140 = .ok (.iadd, 1) := by decide +kernel
theorem dX11_next_141 : decode cX11_next 141 = .ok (.iaload, 1) := by decide +kernel
theorem dX11_next_142 : decode cX11_next 142 = .ok (.if_icmp .ge 8, 3) := by decide +kernel
theorem dX11_next_145 : decode cX11_next 145 = .ok (.iload 4, 2) := by decide +kernel
theorem dX11_next_147 : decode cX11_next 147 = .ok (.goto 4, 3) := by decide +kernel
theorem dX11_next_150 : decode cX11_next 150 = .ok (.iload_n 3, 1) := by decide +kernel
theorem dX11_next_151 : decode cX11_next 151 = .ok (.istore_n 3, 1) := by decide +kernel
theorem dX11_next_152 : decode cX11_next 152 = .ok (.iinc 4 1, 3) := by decide +kernel
theorem dX11_next_155 : decode cX11_next 155 = .ok (.goto (-98), 3) := by decide +kernel
theorem dX11_next_158 : decode cX11_next 158 = .ok (.iload_n 2, 1) := by decide +kernel
theorem dX11_next_159 : decode cX11_next 159 = .ok (.ifCond .eq 8, 3) := by decide +kernel
theorem dX11_next_162 : decode cX11_next 162 = .ok (.iload_n 3, 1) := by decide +kernel
theorem dX11_next_163 : decode cX11_next 163 = .ok (.iconst (-1), 1) := by decide +kernel
theorem dX11_next_164 : decode cX11_next 164 = .ok (.if_icmp .ne 7, 3) := by decide +kernel
theorem dX11_next_167 : decode cX11_next 167 = .ok (.iload_n 3, 1) := by decide +kernel
theorem dX11_next_168 : decode cX11_next 168 = .ok (.goto 20, 3) := by decide +kernel
theorem dX11_next_171 : decode cX11_next 171 = .ok (.aload_n 0, 1) := by decide +kernel
theorem dX11_next_172 : decode cX11_next 172 = .ok (.getfield 73, 3) := by decide +kernel
theorem dX11_next_175 : decode cX11_next 175 = .ok (.bipush 30, 2) := by decide +kernel
theorem dX11_next_177 : decode cX11_next 177 = .ok (.iload_n 3, 1) := by decide +kernel
theorem dX11_next_178 : decode cX11_next 178 = .ok (.iadd, 1) := by decide +kernel
theorem dX11_next_179 : decode cX11_next 179 = .ok (.iaload, 1) := by decide +kernel
theorem dX11_next_180 : decode cX11_next 180 = .ok (.aload_n 0, 1) := by decide +kernel
theorem dX11_next_181 : decode cX11_next 181 = .ok (.getfield 73, 3) := by decide +kernel
theorem dX11_next_184 : decode cX11_next 184 = .ok (.bipush 55, 2) := by decide +kernel
theorem dX11_next_186 : decode cX11_next 186 = .ok (.iaload, 1) := by decide +kernel
theorem dX11_next_187 : decode cX11_next 187 = .ok (.isub, 1) := by decide +kernel
theorem dX11_next_188 : decode cX11_next 188 = .ok (.ireturn, 1) := by decide +kernel
theorem dX11_lone_0 : decode cX11_lone 0 = .ok (.aload_n 0, 1) := by decide +kernel
theorem dX11_lone_1 : decode cX11_lone 1 = .ok (.iconst 0, 1) := by decide +kernel
theorem dX11_lone_2 : decode cX11_lone 2 = .ok (.putfield 97, 3) := by decide +kernel
theorem dX11_lone_5 : decode cX11_lone 5 = .ok (.iconst 0, 1) := by decide +kernel
theorem dX11_lone_6 : decode cX11_lone 6 = .ok (.istore_n 1, 1) := by decide +kernel
theorem dX11_lone_7 : decode cX11_lone 7 = .ok (.iconst 0, 1) := by decide +kernel
theorem dX11_lone_8 : decode cX11_lone 8 = .ok (.istore_n 2, 1) := by decide +kernel
theorem dX11_lone_9 : decode cX11_lone 9 = .ok (.iload_n 2, 1) := by decide +kernel
theorem dX11_lone_10 : decode cX11_lone 10 = .ok (.aload_n 0, 1) := by decide +kernel
theorem dX11_lone_11 : decode cX11_lone 11 = .ok (.getfield 23, 3) := by decide +kernel
theorem dX11_lone_14 : decode cX11_lone 14 = .ok (.iconst 1, 1) := by decide +kernel
theorem dX11_lone_15 : decode cX11_lone 15 = .ok (.iaload, 1) := by decide +kernel
theorem dX11_lone_16 : decode cX11_lone 16 = .ok (.if_icmp .ge 68, 3) := by decide +kernel
theorem dX11_lone_19 : decode cX11_lone 19 = .ok (.iconst 0, 1) := by decide +kernel
theorem dX11_lone_20 : decode cX11_lone 20 = .ok (.istore_n 3, 1) := by decide +kernel
theorem dX11_lone_21 : decode cX11_lone 21 = .ok (.iconst 0, 1) := by decide +kernel
theorem dX11_lone_22 : decode cX11_lone 22 = .ok (.istore 4, 2) := by decide +kernel
theorem dX11_lone_24 : decode cX11_lone 24 = .ok (.iload 4, 2) := by decide +kernel
theorem dX11_lone_26 : decode cX11_lone 26 = .ok (.aload_n 0, 1) := by decide +kernel
theorem dX11_lone_27 : decode cX11_lone 27 = .ok (.getfield 23, 3) := by decide +kernel
theorem dX11_lone_30 : decode cX11_lone 30 = .ok (.iconst 0, 1) := by decide +kernel
theorem dX11_lone_31 : decode cX11_lone 31 = .ok (.iaload, 1) := by decide +kernel
theorem dX11_lone_32 : decode cX11_lone 32 = .ok (.if_icmp .ge 31, 3) := by decide +kernel
theorem dX11_lone_35 : decode cX11_lone 35 = .ok (.iload_n 3, 1) := by decide +kernel
theorem dX11_lone_36 : decode cX11_lone 36 = .ok (.aload_n 0, 1) := by decide +kernel
theorem dX11_lone_37 : decode cX11_lone 37 = .ok (.getfield 35, 3) := by decide +kernel
theorem dX11_lone_40 : decode cX11_lone 40 = .ok (.iload 4, 2) := by decide +kernel
theorem dX11_lone_42 : decode cX11_lone 42 = .ok (.iaload, 1) := by decide +kernel
theorem dX11_lone_43 : decode cX11_lone 43 = .ok (.iload_n 2, 1) := by decide +kernel
theorem dX11_lone_44 : decode cX11_lone 44 = .ok (.invokestatic 255, 3) := by decide +kernel
theorem dX11_lone_47 : decode cX11_lone 47 = .ok (.ifCond .eq 7, 3) := by decide +kernel
theorem dX11_lone_50 : decode cX11_lone 50 = .ok (.iconst 1, 1) := by decide +kernel
theorem dX11_lone_51 : decode cX11_lone 51 = .ok (.goto 4, 3) := by decide +kernel
theorem dX11_lone_54 : decode cX11_lone 54 = .ok (.iconst 0, 1) := by decide +kernel
theorem dX11_lone_55 : decode cX11_lone 55 = .ok (.iadd, 1) := by decide +kernel
theorem dX11_lone_56 : decode cX11_lone 56 = .ok (.istore_n 3, 1) := by decide +kernel
theorem dX11_lone_57 : decode cX11_lone 57 = .ok (.iinc 4 1, 3) := by decide +kernel
theorem dX11_lone_60 : decode cX11_lone 60 = .ok (.goto (-36), 3) := by decide +kernel
theorem dX11_lone_63 : decode cX11_lone 63 = .ok (.iload_n 1, 1) := by decide +kernel
theorem dX11_lone_64 : decode cX11_lone 64 = .ok (.iload_n 3, 1) := by decide +kernel
theorem dX11_lone_65 : decode cX11_lone 65 = .ok (.iconst 1, 1) := by decide +kernel
theorem dX11_lone_66 : decode cX11_lone 66 = .ok (.if_icmp .ne 9, 3) := by decide +kernel
theorem dX11_lone_69 : decode cX11_lone 69 = .ok (.iconst 1, 1) := by decide +kernel
theorem dX11_lone_70 : decode cX11_lone 70 = .ok (.iload_n 2, 1) := by decide +kernel
theorem dX11_lone_71 : decode cX11_lone 71 = .ok (.ishl, 1) := by decide +kernel
theorem dX11_lone_72 : decode cX11_lone 72 = .ok (.goto 4, 3) := by decide +kernel
theorem dX11_lone_75 : decode cX11_lone 75 = .ok (.iconst 0, 1) := by decide +kernel
theorem dX11_lone_76 : decode cX11_lone 76 = .ok (.ior, 1) := by decide +kernel
theorem dX11_lone_77 : decode cX11_lone 77 = .ok (.istore_n 1, 1) := by decide +kernel
theorem dX11_lone_78 : decode cX11_lone 78 = .ok (.iinc 2 1, 3) := by decide +kernel
theorem dX11_lone_81 : decode cX11_lone 81 = .ok (.goto (-72), 3) := by decide +kernel
theorem dX11_lone_84 : decode cX11_lone 84 = .ok (.iload_n 1, 1) := by decide +kernel
theorem dX11_lone_85 : decode cX11_lone 85 = .ok (.ireturn, 1) := by decide +kernel
theorem dX11_debt_0 : decode cX11_debt 0 = .ok (.aload_n 0, 1) := by decide +kernel
theorem dX11_debt_1 : decode cX11_debt 1 = .ok (.iconst 0, 1) := by decide +kernel
theorem dX11_debt_2 : decode cX11_debt 2 = .ok (.putfield 97, 3) := by decide +kernel
theorem dX11_debt_5 : decode cX11_debt 5 = .ok (.aload_n 0, 1) := by decide +kernel
theorem dX11_debt_6 : decode cX11_debt 6 = .ok (.aload_n 0, 1) := by decide +kernel
theorem dX11_debt_7 : decode cX11_debt 7 = .ok (.iload_n 1, 1) := by decide +kernel
theorem dX11_debt_8 : decode cX11_debt 8 = .ok (.invokevirtual 325, 3) := by decide +kernel
theorem dX11_debt_11 : decode cX11_debt 11 = .ok (.ifCond .ne 7, 3) := by decide +kernel
theorem dX11_debt_14 : decode cX11_debt 14 = .ok (.iconst 1, 1) := by decide +kernel
theorem dX11_debt_15 : decode cX11_debt 15 = .ok (.goto 4, 3) := by decide +kernel
theorem dX11_debt_18 : decode cX11_debt 18 = .ok (.iconst 0, 1) := by decide +kernel
theorem dX11_debt_19 : decode cX11_debt 19 = .ok (.iconst 1, 1) := by decide +kernel
theorem dX11_debt_20 : decode cX11_debt 20 = .ok (.iconst 0, 1) := by decide +kernel
theorem dX11_debt_21 : decode cX11_debt 21 = .ok (.invokevirtual 173, 3) := by decide +kernel
theorem dX11_debt_24 : decode cX11_debt 24 = .ok (.ifCond .eq 5, 3) := by decide +kernel
theorem dX11_debt_27 : decode cX11_debt 27 = .ok (.iconst 0, 1) := by decide +kernel
theorem dX11_debt_28 : decode cX11_debt 28 = .ok (.ireturn, 1) := by decide +kernel
theorem dX11_debt_29 : decode cX11_debt 29 = .ok (.iconst 0, 1) := by decide +kernel
theorem dX11_debt_30 : decode cX11_debt 30 = .ok (.istore_n 2, 1) := by decide +kernel
theorem dX11_debt_31 : decode cX11_debt 31 = .ok (.iconst 0, 1) := by decide +kernel
theorem dX11_debt_32 : decode cX11_debt 32 = .ok (.istore_n 3, 1) := by decide +kernel
theorem dX11_debt_33 : decode cX11_debt 33 = .ok (.iload_n 3, 1) := by decide +kernel
theorem dX11_debt_34 : decode cX11_debt 34 = .ok (.aload_n 0, 1) := by decide +kernel
theorem dX11_debt_35 : decode cX11_debt 35 = .ok (.getfield 23, 3) := by decide +kernel
theorem dX11_debt_38 : decode cX11_debt 38 = .ok (.iconst 2, 1) := by decide +kernel
theorem dX11_debt_39 : decode cX11_debt 39 = .ok (.iaload, 1) := by decide +kernel
theorem dX11_debt_40 : decode cX11_debt 40 = .ok (.if_icmp .ge 67, 3) := by decide +kernel
theorem dX11_debt_43 : decode cX11_debt 43 = .ok (.iload_n 2, 1) := by decide +kernel
theorem dX11_debt_44 : decode cX11_debt 44 = .ok (.aload_n 0, 1) := by decide +kernel
theorem dX11_debt_45 : decode cX11_debt 45 = .ok (.getfield 49, 3) := by decide +kernel
theorem dX11_debt_48 : decode cX11_debt 48 = .ok (.iload_n 3, 1) := by decide +kernel
theorem dX11_debt_49 : decode cX11_debt 49 = .ok (.aaload, 1) := by decide +kernel
theorem dX11_debt_50 : decode cX11_debt 50 = .ok (.iconst 0, 1) := by decide +kernel
theorem dX11_debt_51 : decode cX11_debt 51 = .ok (.iaload, 1) := by decide +kernel
theorem dX11_debt_52 : decode cX11_debt 52 = .ok (.iload_n 1, 1) := by decide +kernel
theorem dX11_debt_53 : decode cX11_debt 53 = .ok (.if_icmp .ne 45, 3) := by decide +kernel
theorem dX11_debt_56 : decode cX11_debt 56 = .ok (.aload_n 0, 1) := by decide +kernel
theorem dX11_debt_57 : decode cX11_debt 57 = .ok (.getfield 73, 3) := by decide +kernel
theorem dX11_debt_60 : decode cX11_debt 60 = .ok (.bipush 42, 2) := by decide +kernel
theorem dX11_debt_62 : decode cX11_debt 62 = .ok (.iload_n 3, 1) := by decide +kernel
theorem dX11_debt_63 : decode cX11_debt 63 = .ok (.iadd, 1) := by decide +kernel
theorem dX11_debt_64 : decode cX11_debt 64 = .ok (.iaload, 1) := by decide +kernel
theorem dX11_debt_65 : decode cX11_debt 65 = .ok (.ifCond .ne 33, 3) := by decide +kernel
theorem dX11_debt_68 : decode cX11_debt 68 = .ok (.aload_n 0, 1) := by decide +kernel
theorem dX11_debt_69 : decode cX11_debt 69 = .ok (.getfield 73, 3) := by decide +kernel
theorem dX11_debt_72 : decode cX11_debt 72 = .ok (.bipush 30, 2) := by decide +kernel
theorem dX11_debt_74 : decode cX11_debt 74 = .ok (.iload_n 3, 1) := by decide +kernel
theorem dX11_debt_75 : decode cX11_debt 75 = .ok (.iadd, 1) := by decide +kernel
theorem dX11_debt_76 : decode cX11_debt 76 = .ok (.iaload, 1) := by decide +kernel
theorem dX11_debt_77 : decode cX11_debt 77 = .ok (.aload_n 0, 1) := by decide +kernel
theorem dX11_debt_78 : decode cX11_debt 78 = .ok (.getfield 73, 3) := by decide +kernel
theorem dX11_debt_81 : decode cX11_debt 81 = .ok (.bipush 55, 2) := by decide +kernel
theorem dX11_debt_83 : decode cX11_debt 83 = .ok (.iaload, 1) := by decide +kernel
theorem dX11_debt_84 : decode cX11_debt 84 = .ok (.if_icmp .lt 14, 3) := by decide +kernel
theorem dX11_debt_87 : decode cX11_debt 87 = .ok (.aload_n 0, 1) := by decide +kernel
theorem dX11_debt_88 : decode cX11_debt 88 = .ok (.getfield 49, 3) := by decide +kernel
theorem dX11_debt_91 : decode cX11_debt 91 = .ok (.iload_n 3, 1) := by decide +kernel
theorem dX11_debt_92 : decode cX11_debt 92 = .ok (.aaload, 1) := by decide +kernel
theorem dX11_debt_93 : decode cX11_debt 93 = .ok (.iconst 2, 1) := by decide +kernel
theorem dX11_debt_94 : decode cX11_debt 94 = .ok (.iaload, 1) := by decide +kernel
theorem dX11_debt_95 : decode cX11_debt 95 = .ok (.goto 4, 3) := by decide +kernel
theorem dX11_debt_98 : decode cX11_debt 98 = .ok (.iconst 0, 1) := by decide +kernel
theorem dX11_debt_99 : decode cX11_debt 99 = .ok (.iadd, 1) := by decide +kernel
theorem dX11_debt_100 : decode cX11_debt 100 = .ok (.istore_n 2, 1) := by decide +kernel
theorem dX11_debt_101 : decode cX11_debt 101 = .ok (.iinc 3 1, 3) := by decide +kernel
theorem dX11_debt_104 : decode cX11_debt 104 = .ok (.goto (-71), 3) := by decide +kernel
theorem dX11_debt_107 : decode cX11_debt 107 = .ok (.iload_n 2, 1) := by decide +kernel
theorem dX11_debt_108 : decode cX11_debt 108 = .ok (.ireturn, 1) := by decide +kernel
theorem dX11_spare_0 : decode cX11_spare 0 = .ok (.aload_n 0, 1) := by decide +kernel
theorem dX11_spare_1 : decode cX11_spare 1 = .ok (.iconst 0, 1) := by decide +kernel
theorem dX11_spare_2 : decode cX11_spare 2 = .ok (.putfield 97, 3) := by decide +kernel
theorem dX11_spare_5 : decode cX11_spare 5 = .ok (.aload_n 0, 1) := by decide +kernel
theorem dX11_spare_6 : decode cX11_spare 6 = .ok (.aload_n 0, 1) := by decide +kernel
theorem dX11_spare_7 : decode cX11_spare 7 = .ok (.iload_n 1, 1) := by decide +kernel
theorem dX11_spare_8 : decode cX11_spare 8 = .ok (.invokevirtual 325, 3) := by decide +kernel
theorem dX11_spare_11 : decode cX11_spare 11 = .ok (.ifCond .ne 7, 3) := by decide +kernel
theorem dX11_spare_14 : decode cX11_spare 14 = .ok (.iconst 1, 1) := by decide +kernel
theorem dX11_spare_15 : decode cX11_spare 15 = .ok (.goto 4, 3) := by decide +kernel
theorem dX11_spare_18 : decode cX11_spare 18 = .ok (.iconst 0, 1) := by decide +kernel
theorem dX11_spare_19 : decode cX11_spare 19 = .ok (.iconst 1, 1) := by decide +kernel
theorem dX11_spare_20 : decode cX11_spare 20 = .ok (.iconst 0, 1) := by decide +kernel
theorem dX11_spare_21 : decode cX11_spare 21 = .ok (.invokevirtual 173, 3) := by decide +kernel
theorem dX11_spare_24 : decode cX11_spare 24 = .ok (.ifCond .ne 27, 3) := by decide +kernel
theorem dX11_spare_27 : decode cX11_spare 27 = .ok (.aload_n 0, 1) := by decide +kernel
theorem dX11_spare_28 : decode cX11_spare 28 = .ok (.iload_n 2, 1) := by decide +kernel
theorem dX11_spare_29 : decode cX11_spare 29 = .ok (.iconst 0, 1) := by decide +kernel
theorem dX11_spare_30 : decode cX11_spare 30 = .ok (.bipush 99, 2) := by decide +kernel
theorem dX11_spare_32 : decode cX11_spare 32 = .ok (.invokestatic 131, 3) := by decide +kernel
theorem dX11_spare_35 : decode cX11_spare 35 = .ok (.ifCond .ne 7, 3) := by decide +kernel
theorem dX11_spare_38 : decode cX11_spare 38 = .ok (.iconst 1, 1) := by decide +kernel
theorem dX11_spare_39 : decode cX11_spare 39 = .ok (.goto 4, 3) := by decide +kernel
theorem dX11_spare_42 : decode cX11_spare 42 = .ok (.iconst 0, 1) := by decide +kernel
theorem dX11_spare_43 : decode cX11_spare 43 = .ok (.iconst 2, 1) := by decide +kernel
theorem dX11_spare_44 : decode cX11_spare 44 = .ok (.iconst 1, 1) := by decide +kernel
theorem dX11_spare_45 : decode cX11_spare 45 = .ok (.invokevirtual 173, 3) := by decide +kernel
theorem dX11_spare_48 : decode cX11_spare 48 = .ok (.ifCond .eq 5, 3) := by decide +kernel
theorem dX11_spare_51 : decode cX11_spare 51 = .ok (.iconst 0, 1) := by decide +kernel
theorem dX11_spare_52 : decode cX11_spare 52 = .ok (.ireturn, 1) := by decide +kernel
theorem dX11_spare_53 : decode cX11_spare 53 = .ok (.aload_n 0, 1) := by decide +kernel
theorem dX11_spare_54 : decode cX11_spare 54 = .ok (.getfield 73, 3) := by decide +kernel
theorem dX11_spare_57 : decode cX11_spare 57 = .ok (.iconst 0, 1) := by decide +kernel
theorem dX11_spare_58 : decode cX11_spare 58 = .ok (.iload_n 1, 1) := by decide +kernel
theorem dX11_spare_59 : decode cX11_spare 59 = .ok (.iadd, 1) := by decide +kernel
theorem dX11_spare_60 : decode cX11_spare 60 = .ok (.iaload, 1) := by decide +kernel
theorem dX11_spare_61 : decode cX11_spare 61 = .ok (.istore_n 3, 1) := by decide +kernel
theorem dX11_spare_62 : decode cX11_spare 62 = .ok (.iconst 0, 1) := by decide +kernel
theorem dX11_spare_63 : decode cX11_spare 63 = .ok (.istore 4, 2) := by decide +kernel
theorem dX11_spare_65 : decode cX11_spare 65 = .ok (.iload 4, 2) := by decide +kernel
theorem dX11_spare_67 : decode cX11_spare 67 = .ok (.iload_n 2, 1) := by decide +kernel
theorem dX11_spare_68 : decode cX11_spare 68 = .ok (.if_icmp .ge 26, 3) := by decide +kernel
theorem dX11_spare_71 : decode cX11_spare 71 = .ok (.sipush 999, 3) := by decide +kernel
theorem dX11_spare_74 : decode cX11_spare 74 = .ok (.iload_n 3, 1) := by decide +kernel
theorem dX11_spare_75 : decode cX11_spare 75 = .ok (.aload_n 0, 1) := by decide +kernel
theorem dX11_spare_76 : decode cX11_spare 76 = .ok (.getfield 43, 3) := by decide +kernel
theorem dX11_spare_79 : decode cX11_spare 79 = .ok (.iload_n 1, 1) := by decide +kernel
theorem dX11_spare_80 : decode cX11_spare 80 = .ok (.aaload, 1) := by decide +kernel
theorem dX11_spare_81 : decode cX11_spare 81 = .ok (.iconst 1, 1) := by decide +kernel
theorem dX11_spare_82 : decode cX11_spare 82 = .ok (.iaload, 1) := by decide +kernel
theorem dX11_spare_83 : decode cX11_spare 83 = .ok (.iadd, 1) := by decide +kernel
theorem dX11_spare_84 : decode cX11_spare 84 = .ok (.invokestatic 237, 3) := by decide +kernel
theorem dX11_spare_87 : decode cX11_spare 87 = .ok (.istore_n 3, 1) := by decide +kernel
theorem dX11_spare_88 : decode cX11_spare 88 = .ok (.iinc 4 1, 3) := by decide +kernel
theorem dX11_spare_91 : decode cX11_spare 91 = .ok (.goto (-26), 3) := by decide +kernel
theorem dX11_spare_94 : decode cX11_spare 94 = .ok (.iload_n 3, 1) := by decide +kernel
theorem dX11_spare_95 : decode cX11_spare 95 = .ok (.ireturn, 1) := by decide +kernel
theorem dX11_cheapest_0 : decode cX11_cheapest 0 = .ok (.aload_n 0, 1) := by decide +kernel
theorem dX11_cheapest_1 : decode cX11_cheapest 1 = .ok (.iconst 0, 1) := by decide +kernel
theorem dX11_cheapest_2 : decode cX11_cheapest 2 = .ok (.putfield 97, 3) := by decide +kernel
theorem dX11_cheapest_5 : decode cX11_cheapest 5 = .ok (.aload_n 0, 1) := by decide +kernel
theorem dX11_cheapest_6 : decode cX11_cheapest 6 = .ok (.iload_n 1, 1) := by decide +kernel
theorem dX11_cheapest_7 : decode cX11_cheapest 7 = .ok (.iconst 0, 1) := by decide +kernel
theorem dX11_cheapest_8 : decode cX11_cheapest 8 = .ok (.iconst 1, 1) := by decide +kernel
theorem dX11_cheapest_9 : decode cX11_cheapest 9 = .ok (.invokestatic 131, 3) := by decide +kernel
theorem dX11_cheapest_12 : decode cX11_cheapest 12 = .ok (.ifCond .ne 7, 3) := by decide +kernel
theorem dX11_cheapest_15 : decode cX11_cheapest 15 = .ok (.iconst 1, 1) := by decide +kernel
theorem dX11_cheapest_16 : decode cX11_cheapest 16 = .ok (.goto 4, 3) := by decide +kernel
theorem dX11_cheapest_19 : decode cX11_cheapest 19 = .ok (.iconst 0, 1) := by decide +kernel
theorem dX11_cheapest_20 : decode cX11_cheapest 20 = .ok (.iconst 1, 1) := by decide +kernel
theorem dX11_cheapest_21 : decode cX11_cheapest 21 = .ok (.iconst 1, 1) := by decide +kernel
theorem dX11_cheapest_22 : decode cX11_cheapest 22 = .ok (.invokevirtual 173, 3) := by decide +kernel
theorem dX11_cheapest_25 : decode cX11_cheapest 25 = .ok (.ifCond .eq 5, 3) := by decide +kernel
theorem dX11_cheapest_28 : decode cX11_cheapest 28 = .ok (.iconst 0, 1) := by decide +kernel
theorem dX11_cheapest_29 : decode cX11_cheapest 29 = .ok (.ireturn, 1) := by decide +kernel
theorem dX11_cheapest_30 : decode cX11_cheapest 30 = .ok (.iconst (-1), 1) := by decide +kernel
theorem dX11_cheapest_31 : decode cX11_cheapest 31 = .ok (.istore_n 2, 1) := by decide +kernel
theorem dX11_cheapest_32 : decode cX11_cheapest 32 = .ok (.iconst (-1), 1) := by decide +kernel
theorem dX11_cheapest_33 : decode cX11_cheapest 33 = .ok (.istore_n 3, 1) := by decide +kernel
theorem dX11_cheapest_34 : decode cX11_cheapest 34 = .ok (.iconst 0, 1) := by decide +kernel
theorem dX11_cheapest_35 : decode cX11_cheapest 35 = .ok (.istore 4, 2) := by decide +kernel
theorem dX11_cheapest_37 : decode cX11_cheapest 37 = .ok (.iload 4, 2) := by decide +kernel
theorem dX11_cheapest_39 : decode cX11_cheapest 39 = .ok (.aload_n 0, 1) := by decide +kernel
theorem dX11_cheapest_40 : decode cX11_cheapest 40 = .ok (.getfield 23, 3) := by decide +kernel
theorem dX11_cheapest_43 : decode cX11_cheapest 43 = .ok (.iconst 0, 1) := by decide +kernel
theorem dX11_cheapest_44 : decode cX11_cheapest 44 = .ok (.iaload, 1) := by decide +kernel
theorem dX11_cheapest_45 : decode cX11_cheapest 45 = .ok (.if_icmp .ge 53, 3) := by decide +kernel
theorem dX11_cheapest_48 : decode cX11_cheapest 48 = .ok (.aload_n 0, 1) := by decide +kernel
theorem dX11_cheapest_49 : decode cX11_cheapest 49 = .ok (.aload_n 0, 1) := by decide +kernel
theorem dX11_cheapest_50 : decode cX11_cheapest 50 = .ok (.getfield 73, 3) := by decide +kernel
theorem dX11_cheapest_53 : decode cX11_cheapest 53 = .ok (.iload 4, 2) := by decide +kernel
theorem dX11_cheapest_55 : decode cX11_cheapest 55 = .ok (.invokevirtual 279, 3) := by decide +kernel
theorem dX11_cheapest_58 : decode cX11_cheapest 58 = .ok (.istore 5, 2) := by decide +kernel
theorem dX11_cheapest_60 : decode cX11_cheapest 60 = .ok (.aload_n 0, 1) := by decide +kernel
theorem dX11_cheapest_61 : decode cX11_cheapest 61 = .ok (.getfield 73, 3) := by decide +kernel
theorem dX11_cheapest_64 : decode cX11_cheapest 64 = .ok (.iload 4, 2) := by decide +kernel
theorem dX11_cheapest_66 : decode cX11_cheapest 66 = .ok (.invokestatic 261, 3) := by decide +kernel
theorem dX11_cheapest_69 : decode cX11_cheapest 69 = .ok (.ifCond .ne 23, 3) := by decide +kernel
theorem dX11_cheapest_72 : decode cX11_cheapest 72 = .ok (.iload_n 2, 1) := by decide +kernel
theorem dX11_cheapest_73 : decode cX11_cheapest 73 = .ok (.iconst (-1), 1) := by decide +kernel
theorem dX11_cheapest_74 : decode cX11_cheapest 74 = .ok (.if_icmp .eq 12, 3) := by decide +kernel
theorem dX11_cheapest_77 : decode cX11_cheapest 77 = .ok (.iload 5, 2) := by decide +kernel
theorem dX11_cheapest_79 : decode cX11_cheapest 79 = .ok (.iload_n 3, 1) := by decide +kernel
theorem dX11_cheapest_80 : decode cX11_cheapest 80 = .ok (.if_icmp .lt 6, 3) := by decide +kernel
theorem dX11_cheapest_83 : decode cX11_cheapest 83 = .ok (.goto 9, 3) := by decide +kernel
theorem dX11_cheapest_86 : decode cX11_cheapest 86 = .ok (.iload 4, 2) := by decide +kernel
theorem dX11_cheapest_88 : decode cX11_cheapest 88 = .ok (.istore_n 2, 1) := by decide +kernel
theorem dX11_cheapest_89 : decode cX11_cheapest 89 = .ok (.iload 5, 2) := by decide +kernel
theorem dX11_cheapest_91 : decode cX11_cheapest 91 = .ok (.istore_n 3, 1) := by decide +kernel
theorem dX11_cheapest_92 : decode cX11_cheapest 92 = .ok (.iinc 4 1, 3) := by decide +kernel
theorem dX11_cheapest_95 : decode cX11_cheapest 95 = .ok (.goto (-58), 3) := by decide +kernel
theorem dX11_cheapest_98 : decode cX11_cheapest 98 = .ok (.iload_n 1, 1) := by decide +kernel
theorem dX11_cheapest_99 : decode cX11_cheapest 99 = .ok (.ifCond .ne 7, 3) := by decide +kernel
theorem dX11_cheapest_102 : decode cX11_cheapest 102 = .ok (.iload_n 2, 1) := by decide +kernel
theorem dX11_cheapest_103 : decode cX11_cheapest 103 = .ok (.goto 4, 3) := by decide +kernel
theorem dX11_cheapest_106 : decode cX11_cheapest 106 = .ok (.iload_n 3, 1) := by decide +kernel
theorem dX11_cheapest_107 : decode cX11_cheapest 107 = .ok (.ireturn, 1) := by decide +kernel
theorem dX11_crowd_0 : decode cX11_crowd 0 = .ok (.aload_n 0, 1) := by decide +kernel
theorem dX11_crowd_1 : decode cX11_crowd 1 = .ok (.iconst 0, 1) := by decide +kernel
theorem dX11_crowd_2 : decode cX11_crowd 2 = .ok (.putfield 97, 3) := by decide +kernel
theorem dX11_crowd_5 : decode cX11_crowd 5 = .ok (.aload_n 0, 1) := by decide +kernel
theorem dX11_crowd_6 : decode cX11_crowd 6 = .ok (.iload_n 1, 1) := by decide +kernel
theorem dX11_crowd_7 : decode cX11_crowd 7 = .ok (.iconst 0, 1) := by decide +kernel
theorem dX11_crowd_8 : decode cX11_crowd 8 = .ok (.iconst 1, 1) := by decide +kernel
theorem dX11_crowd_9 : decode cX11_crowd 9 = .ok (.invokestatic 131, 3) := by decide +kernel
theorem dX11_crowd_12 : decode cX11_crowd 12 = .ok (.ifCond .ne 7, 3) := by decide +kernel
theorem dX11_crowd_15 : decode cX11_crowd 15 = .ok (.iconst 1, 1) := by decide +kernel
theorem dX11_crowd_16 : decode cX11_crowd 16 = .ok (.goto 4, 3) := by decide +kernel
theorem dX11_crowd_19 : decode cX11_crowd 19 = .ok (.iconst 0, 1) := by decide +kernel
theorem dX11_crowd_20 : decode cX11_crowd 20 = .ok (.iconst 1, 1) := by decide +kernel
theorem dX11_crowd_21 : decode cX11_crowd 21 = .ok (.iconst 1, 1) := by decide +kernel
theorem dX11_crowd_22 : decode cX11_crowd 22 = .ok (.invokevirtual 173, 3) := by decide +kernel
theorem dX11_crowd_25 : decode cX11_crowd 25 = .ok (.ifCond .eq 5, 3) := by decide +kernel
theorem dX11_crowd_28 : decode cX11_crowd 28 = .ok (.iconst 0, 1) := by decide +kernel
theorem dX11_crowd_29 : decode cX11_crowd 29 = .ok (.ireturn, 1) := by decide +kernel
theorem dX11_crowd_30 : decode cX11_crowd 30 = .ok (.iconst (-1), 1) := by decide +kernel
theorem dX11_crowd_31 : decode cX11_crowd 31 = .ok (.istore_n 2, 1) := by decide +kernel
theorem dX11_crowd_32 : decode cX11_crowd 32 = .ok (.iconst 0, 1) := by decide +kernel
theorem dX11_crowd_33 : decode cX11_crowd 33 = .ok (.istore_n 3, 1) := by decide +kernel
theorem dX11_crowd_34 : decode cX11_crowd 34 = .ok (.iconst 0, 1) := by decide +kernel
theorem dX11_crowd_35 : decode cX11_crowd 35 = .ok (.istore 4, 2) := by decide +kernel
theorem dX11_crowd_37 : decode cX11_crowd 37 = .ok (.iload 4, 2) := by decide +kernel
theorem dX11_crowd_39 : decode cX11_crowd 39 = .ok (.bipush 60, 2) := by decide +kernel
theorem dX11_crowd_41 : decode cX11_crowd 41 = .ok (.if_icmp .gt 85, 3) := by decide +kernel
theorem dX11_crowd_44 : decode cX11_crowd 44 = .ok (.iconst 0, 1) := by decide +kernel
theorem dX11_crowd_45 : decode cX11_crowd 45 = .ok (.istore 5, 2) := by decide +kernel
theorem dX11_crowd_47 : decode cX11_crowd 47 = .ok (.iconst 0, 1) := by decide +kernel
theorem dX11_crowd_48 : decode cX11_crowd 48 = .ok (.istore 6, 2) := by decide +kernel
theorem dX11_crowd_50 : decode cX11_crowd 50 = .ok (.iload 6, 2) := by decide +kernel
theorem dX11_crowd_52 : decode cX11_crowd 52 = .ok (.aload_n 0, 1) := by decide +kernel
theorem dX11_crowd_53 : decode cX11_crowd 53 = .ok (.getfield 23, 3) := by decide +kernel
theorem dX11_crowd_56 : decode cX11_crowd 56 = .ok (.iconst 2, 1) := by decide +kernel
theorem dX11_crowd_57 : decode cX11_crowd 57 = .ok (.iaload, 1) := by decide +kernel
theorem dX11_crowd_58 : decode cX11_crowd 58 = .ok (.if_icmp .ge 47, 3) := by decide +kernel
theorem dX11_crowd_61 : decode cX11_crowd 61 = .ok (.iload 5, 2) := by decide +kernel
theorem dX11_crowd_63 : decode cX11_crowd 63 = .ok (.aload_n 0, 1) := by decide +kernel
theorem dX11_crowd_64 : decode cX11_crowd 64 = .ok (.getfield 73, 3) := by decide +kernel
theorem dX11_crowd_67 : decode cX11_crowd 67 = .ok (.bipush 42, 2) := by decide +kernel
theorem dX11_crowd_69 : decode cX11_crowd 69 = .ok (.iload 6, 2) := by decide +kernel
theorem dX11_crowd_71 : decode cX11_crowd 71 = .ok (.iadd, 1) := by decide +kernel
theorem dX11_crowd_72 : decode cX11_crowd 72 = .ok (.iaload, 1) := by decide +kernel
theorem dX11_crowd_73 : decode cX11_crowd 73 = .ok (.ifCond .ne 22, 3) := by decide +kernel
theorem dX11_crowd_76 : decode cX11_crowd 76 = .ok (.aload_n 0, 1) := by decide +kernel
theorem dX11_crowd_77 : decode cX11_crowd 77 = .ok (.getfield 73, 3) := by decide +kernel
theorem dX11_crowd_80 : decode cX11_crowd 80 = .ok (.bipush 30, 2) := by decide +kernel
theorem dX11_crowd_82 : decode cX11_crowd 82 = .ok (.iload 6, 2) := by decide +kernel
theorem dX11_crowd_84 : decode cX11_crowd 84 = .ok (.iadd, 1) := by decide +kernel
theorem dX11_crowd_85 : decode cX11_crowd 85 = .ok (.iaload, 1) := by decide +kernel
theorem dX11_crowd_86 : decode cX11_crowd 86 = .ok (.iload 4, 2) := by decide +kernel
theorem dX11_crowd_88 : decode cX11_crowd 88 = .ok (.if_icmp .ne 7, 3) := by decide +kernel
theorem dX11_crowd_91 : decode cX11_crowd 91 = .ok (.iconst 1, 1) := by decide +kernel
theorem dX11_crowd_92 : decode cX11_crowd 92 = .ok (.goto 4, 3) := by decide +kernel
theorem dX11_crowd_95 : decode cX11_crowd 95 = .ok (.iconst 0, 1) := by decide +kernel
theorem dX11_crowd_96 : decode cX11_crowd 96 = .ok (.iadd, 1) := by decide +kernel
theorem dX11_crowd_97 : decode cX11_crowd 97 = .ok (.istore 5, 2) := by decide +kernel
theorem dX11_crowd_99 : decode cX11_crowd 99 = .ok (.iinc 6 1, 3) := by decide +kernel
theorem dX11_crowd_102 : decode cX11_crowd 102 = .ok (.goto (-52), 3) := by decide +kernel
theorem dX11_crowd_105 : decode cX11_crowd 105 = .ok (.iload 5, 2) := by decide +kernel
theorem dX11_crowd_107 : decode cX11_crowd 107 = .ok (.iload_n 3, 1) := by decide +kernel
theorem dX11_crowd_108 : decode cX11_crowd 108 = .ok (.if_icmp .gt 6, 3) := by decide +kernel
theorem dX11_crowd_111 : decode cX11_crowd 111 = .ok (.goto 9, 3) := by decide +kernel
theorem dX11_crowd_114 : decode cX11_crowd 114 = .ok (.iload 4, 2) := by decide +kernel
theorem dX11_crowd_116 : decode cX11_crowd 116 = .ok (.istore_n 2, 1) := by decide +kernel
theorem dX11_crowd_117 : decode cX11_crowd 117 = .ok (.iload 5, 2) := by decide +kernel
theorem dX11_crowd_119 : decode cX11_crowd 119 = .ok (.istore_n 3, 1) := by decide +kernel
theorem dX11_crowd_120 : decode cX11_crowd 120 = .ok (.iinc 4 1, 3) := by decide +kernel
theorem dX11_crowd_123 : decode cX11_crowd 123 = .ok (.goto (-86), 3) := by decide +kernel
theorem dX11_crowd_126 : decode cX11_crowd 126 = .ok (.iload_n 1, 1) := by decide +kernel
theorem dX11_crowd_127 : decode cX11_crowd 127 = .ok (.ifCond .eq 8, 3) := by decide +kernel
theorem dX11_crowd_130 : decode cX11_crowd 130 = .ok (.iload_n 2, 1) := by decide +kernel
theorem dX11_crowd_131 : decode cX11_crowd 131 = .ok (.iconst (-1), 1) := by decide +kernel
theorem dX11_crowd_132 : decode cX11_crowd 132 = .ok (.if_icmp .ne 7, 3) := by decide +kernel
theorem dX11_crowd_135 : decode cX11_crowd 135 = .ok (.iload_n 2, 1) := by decide +kernel
theorem dX11_crowd_136 : decode cX11_crowd 136 = .ok (.goto 4, 3) := by decide +kernel
theorem dX11_crowd_139 : decode cX11_crowd 139 = .ok (.iload_n 3, 1) := by decide +kernel
theorem dX11_crowd_140 : decode cX11_crowd 140 = .ok (.ireturn, 1) := by decide +kernel
theorem dX11_rush_0 : decode cX11_rush 0 = .ok (.aload_n 0, 1) := by decide +kernel
theorem dX11_rush_1 : decode cX11_rush 1 = .ok (.iconst 0, 1) := by decide +kernel
theorem dX11_rush_2 : decode cX11_rush 2 = .ok (.putfield 97, 3) := by decide +kernel
theorem dX11_rush_5 : decode cX11_rush 5 = .ok (.iconst 0, 1) := by decide +kernel
theorem dX11_rush_6 : decode cX11_rush 6 = .ok (.istore_n 1, 1) := by decide +kernel
theorem dX11_rush_7 : decode cX11_rush 7 = .ok (.aload_n 0, 1) := by decide +kernel
theorem dX11_rush_8 : decode cX11_rush 8 = .ok (.getfield 73, 3) := by decide +kernel
theorem dX11_rush_11 : decode cX11_rush 11 = .ok (.aload_n 0, 1) := by decide +kernel
theorem dX11_rush_12 : decode cX11_rush 12 = .ok (.getfield 76, 3) := by decide +kernel
theorem dX11_rush_15 : decode cX11_rush 15 = .ok (.invokestatic 315, 3) := by decide +kernel
theorem dX11_rush_18 : decode cX11_rush 18 = .ok (.iconst 0, 1) := by decide +kernel
theorem dX11_rush_19 : decode cX11_rush 19 = .ok (.istore_n 2, 1) := by decide +kernel
theorem dX11_rush_20 : decode cX11_rush 20 = .ok (.iload_n 2, 1) := by decide +kernel
theorem dX11_rush_21 : decode cX11_rush 21 = .ok (.aload_n 0, 1) := by decide +kernel
theorem dX11_rush_22 : decode cX11_rush 22 = .ok (.getfield 23, 3) := by decide +kernel
theorem dX11_rush_25 : decode cX11_rush 25 = .ok (.iconst 0, 1) := by decide +kernel
theorem dX11_rush_26 : decode cX11_rush 26 = .ok (.iaload, 1) := by decide +kernel
theorem dX11_rush_27 : decode cX11_rush 27 = .ok (.if_icmp .ge 40, 3) := by decide +kernel
theorem dX11_rush_30 : decode cX11_rush 30 = .ok (.aload_n 0, 1) := by decide +kernel
theorem dX11_rush_31 : decode cX11_rush 31 = .ok (.aload_n 0, 1) := by decide +kernel
theorem dX11_rush_32 : decode cX11_rush 32 = .ok (.getfield 76, 3) := by decide +kernel
theorem dX11_rush_35 : decode cX11_rush 35 = .ok (.iload_n 2, 1) := by decide +kernel
theorem dX11_rush_36 : decode cX11_rush 36 = .ok (.invokevirtual 292, 3) := by decide +kernel
theorem dX11_rush_39 : decode cX11_rush 39 = .ok (.pop, 1) := by decide +kernel
theorem dX11_rush_40 : decode cX11_rush 40 = .ok (.iload_n 1, 1) := by decide +kernel
theorem dX11_rush_41 : decode cX11_rush 41 = .ok (.aload_n 0, 1) := by decide +kernel
theorem dX11_rush_42 : decode cX11_rush 42 = .ok (.getfield 76, 3) := by decide +kernel
theorem dX11_rush_45 : decode cX11_rush 45 = .ok (.iload_n 2, 1) := by decide +kernel
theorem dX11_rush_46 : decode cX11_rush 46 = .ok (.invokestatic 261, 3) := by decide +kernel
theorem dX11_rush_49 : decode cX11_rush 49 = .ok (.ifCond .eq 9, 3) := by decide +kernel
theorem dX11_rush_52 : decode cX11_rush 52 = .ok (.iconst 1, 1) := by decide +kernel
theorem dX11_rush_53 : decode cX11_rush 53 = .ok (.iload_n 2, 1) := by decide +kernel
theorem dX11_rush_54 : decode cX11_rush 54 = .ok (.ishl, 1) := by decide +kernel
theorem dX11_rush_55 : decode cX11_rush 55 = .ok (.goto 4, 3) := by decide +kernel
theorem dX11_rush_58 : decode cX11_rush 58 = .ok (.iconst 0, 1) := by decide +kernel
theorem dX11_rush_59 : decode cX11_rush 59 = .ok (.ior, 1) := by decide +kernel
theorem dX11_rush_60 : decode cX11_rush 60 = .ok (.istore_n 1, 1) := by decide +kernel
theorem dX11_rush_61 : decode cX11_rush 61 = .ok (.iinc 2 1, 3) := by decide +kernel
theorem dX11_rush_64 : decode cX11_rush 64 = .ok (.goto (-44), 3) := by decide +kernel
theorem dX11_rush_67 : decode cX11_rush 67 = .ok (.iload_n 1, 1) := by decide +kernel
theorem dX11_rush_68 : decode cX11_rush 68 = .ok (.ireturn, 1) := by decide +kernel
theorem dX11_clear_0 : decode cX11_clear 0 = .ok (.aload_n 0, 1) := by decide +kernel
theorem dX11_clear_1 : decode cX11_clear 1 = .ok (.iconst 0, 1) := by decide +kernel
theorem dX11_clear_2 : decode cX11_clear 2 = .ok (.putfield 97, 3) := by decide +kernel
theorem dX11_clear_5 : decode cX11_clear 5 = .ok (.aload_n 0, 1) := by decide +kernel
theorem dX11_clear_6 : decode cX11_clear 6 = .ok (.aload_n 0, 1) := by decide +kernel
theorem dX11_clear_7 : decode cX11_clear 7 = .ok (.iload_n 1, 1) := by decide +kernel
theorem dX11_clear_8 : decode cX11_clear 8 = .ok (.invokevirtual 325, 3) := by decide +kernel
theorem dX11_clear_11 : decode cX11_clear 11 = .ok (.ifCond .ne 7, 3) := by decide +kernel
theorem dX11_clear_14 : decode cX11_clear 14 = .ok (.iconst 1, 1) := by decide +kernel
theorem dX11_clear_15 : decode cX11_clear 15 = .ok (.goto 4, 3) := by decide +kernel
theorem dX11_clear_18 : decode cX11_clear 18 = .ok (.iconst 0, 1) := by decide +kernel
theorem dX11_clear_19 : decode cX11_clear 19 = .ok (.iconst 1, 1) := by decide +kernel
theorem dX11_clear_20 : decode cX11_clear 20 = .ok (.iconst 0, 1) := by decide +kernel
theorem dX11_clear_21 : decode cX11_clear 21 = .ok (.invokevirtual 173, 3) := by decide +kernel
theorem dX11_clear_24 : decode cX11_clear 24 = .ok (.ifCond .ne 27, 3) := by decide +kernel
theorem dX11_clear_27 : decode cX11_clear 27 = .ok (.aload_n 0, 1) := by decide +kernel
theorem dX11_clear_28 : decode cX11_clear 28 = .ok (.iload_n 2, 1) := by decide +kernel
theorem dX11_clear_29 : decode cX11_clear 29 = .ok (.iconst 0, 1) := by decide +kernel
theorem dX11_clear_30 : decode cX11_clear 30 = .ok (.bipush 20, 2) := by decide +kernel
theorem dX11_clear_32 : decode cX11_clear 32 = .ok (.invokestatic 131, 3) := by decide +kernel
theorem dX11_clear_35 : decode cX11_clear 35 = .ok (.ifCond .ne 7, 3) := by decide +kernel
theorem dX11_clear_38 : decode cX11_clear 38 = .ok (.iconst 1, 1) := by decide +kernel
theorem dX11_clear_39 : decode cX11_clear 39 = .ok (.goto 4, 3) := by decide +kernel
theorem dX11_clear_42 : decode cX11_clear 42 = .ok (.iconst 0, 1) := by decide +kernel
theorem dX11_clear_43 : decode cX11_clear 43 = .ok (.iconst 2, 1) := by decide +kernel
theorem dX11_clear_44 : decode cX11_clear 44 = .ok (.iconst 1, 1) := by decide +kernel
theorem dX11_clear_45 : decode cX11_clear 45 = .ok (.invokevirtual 173, 3) := by decide +kernel
theorem dX11_clear_48 : decode cX11_clear 48 = .ok (.ifCond .eq 5, 3) := by decide +kernel
theorem dX11_clear_51 : decode cX11_clear 51 = .ok (.iconst 0, 1) := by decide +kernel
theorem dX11_clear_52 : decode cX11_clear 52 = .ok (.ireturn, 1) := by decide +kernel
theorem dX11_clear_53 : decode cX11_clear 53 = .ok (.iconst 0, 1) := by decide +kernel
theorem dX11_clear_54 : decode cX11_clear 54 = .ok (.istore_n 3, 1) := by decide +kernel
theorem dX11_clear_55 : decode cX11_clear 55 = .ok (.iconst 0, 1) := by decide +kernel
theorem dX11_clear_56 : decode cX11_clear 56 = .ok (.istore 4, 2) := by decide +kernel
theorem dX11_clear_58 : decode cX11_clear 58 = .ok (.iload 4, 2) := by decide +kernel
theorem dX11_clear_60 : decode cX11_clear 60 = .ok (.iload_n 2, 1) := by decide +kernel
theorem dX11_clear_61 : decode cX11_clear 61 = .ok (.if_icmp .ge 38, 3) := by decide +kernel
theorem dX11_clear_64 : decode cX11_clear 64 = .ok (.iload_n 3, 1) := by decide +kernel
theorem dX11_clear_65 : decode cX11_clear 65 = .ok (.aload_n 0, 1) := by decide +kernel
theorem dX11_clear_66 : decode cX11_clear 66 = .ok (.iload_n 1, 1) := by decide +kernel
