theorem dX10_feed_30 : decode cX10_feed 30 = .ok (.aload_n 0, 1) := by decide +kernel
theorem dX10_feed_31 : decode cX10_feed 31 = .ok (.getfield 10, 3) := by decide +kernel
theorem dX10_feed_34 : decode cX10_feed 34 = .ok (.iload_n 3, 1) := by decide +kernel
theorem dX10_feed_35 : decode cX10_feed 35 = .ok (.invokevirtual 118, 3) := by decide +kernel
theorem dX10_feed_38 : decode cX10_feed 38 = .ok (.aload_n 0, 1) := by decide +kernel
theorem dX10_feed_39 : decode cX10_feed 39 = .ok (.getfield 10, 3) := by decide +kernel
theorem dX10_feed_42 : decode cX10_feed 42 = .ok (.iload 4, 2) := by decide +kernel
theorem dX10_feed_44 : decode cX10_feed 44 = .ok (.invokevirtual 118, 3) := by decide +kernel
theorem dX10_feed_47 : decode cX10_feed 47 = .ok (.aload_n 0, 1) := by decide +kernel
theorem dX10_feed_48 : decode cX10_feed 48 = .ok (.getfield 10, 3) := by decide +kernel
theorem dX10_feed_51 : decode cX10_feed 51 = .ok (.iload 5, 2) := by decide +kernel
theorem dX10_feed_53 : decode cX10_feed 53 = .ok (.invokevirtual 118, 3) := by decide +kernel
theorem dX10_feed_56 : decode cX10_feed 56 = .ok (.aload_n 0, 1) := by decide +kernel
theorem dX10_feed_57 : decode cX10_feed 57 = .ok (.getfield 10, 3) := by decide +kernel
theorem dX10_feed_60 : decode cX10_feed 60 = .ok (.getfield 122, 3) := by decide +kernel
theorem dX10_feed_63 : decode cX10_feed 63 = .ok (.ireturn, 1) := by decide +kernel
theorem dX10_town_0 : decode cX10_town 0 = .ok (.aload_n 0, 1) := by decide +kernel
theorem dX10_town_1 : decode cX10_town 1 = .ok (.iload_n 1, 1) := by decide +kernel
theorem dX10_town_2 : decode cX10_town 2 = .ok (.sipush 600, 3) := by decide +kernel
theorem dX10_town_5 : decode cX10_town 5 = .ok (.invokevirtual 125, 3) := by decide +kernel
theorem dX10_town_8 : decode cX10_town 8 = .ok (.aload_n 0, 1) := by decide +kernel
theorem dX10_town_9 : decode cX10_town 9 = .ok (.getfield 10, 3) := by decide +kernel
theorem dX10_town_12 : decode cX10_town 12 = .ok (.iload_n 1, 1) := by decide +kernel
theorem dX10_town_13 : decode cX10_town 13 = .ok (.invokevirtual 129, 3) := by decide +kernel
theorem dX10_town_16 : decode cX10_town 16 = .ok (.aload_n 0, 1) := by decide +kernel
theorem dX10_town_17 : decode cX10_town 17 = .ok (.getfield 23, 3) := by decide +kernel
theorem dX10_town_20 : decode cX10_town 20 = .ok (.aload_n 0, 1) := by decide +kernel
theorem dX10_town_21 : decode cX10_town 21 = .ok (.getfield 10, 3) := by decide +kernel
theorem dX10_town_24 : decode cX10_town 24 = .ok (.invokevirtual 132, 3) := by decide +kernel
theorem dX10_town_27 : decode cX10_town 27 = .ok (.aload_n 0, 1) := by decide +kernel
theorem dX10_town_28 : decode cX10_town 28 = .ok (.getfield 10, 3) := by decide +kernel
theorem dX10_town_31 : decode cX10_town 31 = .ok (.invokevirtual 136, 3) := by decide +kernel
theorem dX10_town_34 : decode cX10_town 34 = .ok (.ifCond .eq 11, 3) := by decide +kernel
theorem dX10_town_37 : decode cX10_town 37 = .ok (.aload_n 0, 1) := by decide +kernel
theorem dX10_town_38 : decode cX10_town 38 = .ok (.getfield 10, 3) := by decide +kernel
theorem dX10_town_41 : decode cX10_town 41 = .ok (.invokevirtual 140, 3) := by decide +kernel
theorem dX10_town_44 : decode cX10_town 44 = .ok (.ireturn, 1) := by decide +kernel
theorem dX10_town_45 : decode cX10_town 45 = .ok (.aload_n 0, 1) := by decide +kernel
theorem dX10_town_46 : decode cX10_town 46 = .ok (.getfield 19, 3) := by decide +kernel
theorem dX10_town_49 : decode cX10_town 49 = .ok (.aload_n 0, 1) := by decide +kernel
theorem dX10_town_50 : decode cX10_town 50 = .ok (.getfield 23, 3) := by decide +kernel
theorem dX10_town_53 : decode cX10_town 53 = .ok (.invokevirtual 144, 3) := by decide +kernel
theorem dX10_town_56 : decode cX10_town 56 = .ok (.aload_n 0, 1) := by decide +kernel
theorem dX10_town_57 : decode cX10_town 57 = .ok (.getfield 29, 3) := by decide +kernel
theorem dX10_town_60 : decode cX10_town 60 = .ok (.invokevirtual 147, 3) := by decide +kernel
theorem dX10_town_63 : decode cX10_town 63 = .ok (.aload_n 0, 1) := by decide +kernel
theorem dX10_town_64 : decode cX10_town 64 = .ok (.getfield 39, 3) := by decide +kernel
theorem dX10_town_67 : decode cX10_town 67 = .ok (.invokevirtual 150, 3) := by decide +kernel
theorem dX10_town_70 : decode cX10_town 70 = .ok (.aload_n 0, 1) := by decide +kernel
theorem dX10_town_71 : decode cX10_town 71 = .ok (.getfield 49, 3) := by decide +kernel
theorem dX10_town_74 : decode cX10_town 74 = .ok (.invokevirtual 151, 3) := by decide +kernel
theorem dX10_town_77 : decode cX10_town 77 = .ok (.aload_n 0, 1) := by decide +kernel
theorem dX10_town_78 : decode cX10_town 78 = .ok (.getfield 93, 3) := by decide +kernel
theorem dX10_town_81 : decode cX10_town 81 = .ok (.invokevirtual 154, 3) := by decide +kernel
theorem dX10_town_84 : decode cX10_town 84 = .ok (.aload_n 0, 1) := by decide +kernel
theorem dX10_town_85 : decode cX10_town 85 = .ok (.iconst 0, 1) := by decide +kernel
theorem dX10_town_86 : decode cX10_town 86 = .ok (.putfield 101, 3) := by decide +kernel
theorem dX10_town_89 : decode cX10_town 89 = .ok (.aload_n 0, 1) := by decide +kernel
theorem dX10_town_90 : decode cX10_town 90 = .ok (.getfield 58, 3) := by decide +kernel
theorem dX10_town_93 : decode cX10_town 93 = .ok (.invokevirtual 111, 3) := by decide +kernel
theorem dX10_town_96 : decode cX10_town 96 = .ok (.aload_n 0, 1) := by decide +kernel
theorem dX10_town_97 : decode cX10_town 97 = .ok (.getfield 19, 3) := by decide +kernel
theorem dX10_town_100 : decode cX10_town 100 = .ok (.getfield 155, 3) := by decide +kernel
theorem dX10_town_103 : decode cX10_town 103 = .ok (.ireturn, 1) := by decide +kernel
theorem dX10_law_0 : decode cX10_law 0 = .ok (.aload_n 0, 1) := by decide +kernel
theorem dX10_law_1 : decode cX10_law 1 = .ok (.iload_n 1, 1) := by decide +kernel
theorem dX10_law_2 : decode cX10_law 2 = .ok (.sipush 150, 3) := by decide +kernel
theorem dX10_law_5 : decode cX10_law 5 = .ok (.invokevirtual 125, 3) := by decide +kernel
theorem dX10_law_8 : decode cX10_law 8 = .ok (.aload_n 0, 1) := by decide +kernel
theorem dX10_law_9 : decode cX10_law 9 = .ok (.getfield 10, 3) := by decide +kernel
theorem dX10_law_12 : decode cX10_law 12 = .ok (.iload_n 1, 1) := by decide +kernel
theorem dX10_law_13 : decode cX10_law 13 = .ok (.invokevirtual 129, 3) := by decide +kernel
theorem dX10_law_16 : decode cX10_law 16 = .ok (.aload_n 0, 1) := by decide +kernel
theorem dX10_law_17 : decode cX10_law 17 = .ok (.getfield 33, 3) := by decide +kernel
theorem dX10_law_20 : decode cX10_law 20 = .ok (.aload_n 0, 1) := by decide +kernel
theorem dX10_law_21 : decode cX10_law 21 = .ok (.getfield 10, 3) := by decide +kernel
theorem dX10_law_24 : decode cX10_law 24 = .ok (.invokevirtual 158, 3) := by decide +kernel
theorem dX10_law_27 : decode cX10_law 27 = .ok (.aload_n 0, 1) := by decide +kernel
theorem dX10_law_28 : decode cX10_law 28 = .ok (.getfield 10, 3) := by decide +kernel
theorem dX10_law_31 : decode cX10_law 31 = .ok (.invokevirtual 136, 3) := by decide +kernel
theorem dX10_law_34 : decode cX10_law 34 = .ok (.ifCond .eq 11, 3) := by decide +kernel
theorem dX10_law_37 : decode cX10_law 37 = .ok (.aload_n 0, 1) := by decide +kernel
theorem dX10_law_38 : decode cX10_law 38 = .ok (.getfield 10, 3) := by decide +kernel
theorem dX10_law_41 : decode cX10_law 41 = .ok (.invokevirtual 140, 3) := by decide +kernel
theorem dX10_law_44 : decode cX10_law 44 = .ok (.ireturn, 1) := by decide +kernel
theorem dX10_law_45 : decode cX10_law 45 = .ok (.aload_n 0, 1) := by decide +kernel
theorem dX10_law_46 : decode cX10_law 46 = .ok (.getfield 29, 3) := by decide +kernel
theorem dX10_law_49 : decode cX10_law 49 = .ok (.aload_n 0, 1) := by decide +kernel
theorem dX10_law_50 : decode cX10_law 50 = .ok (.getfield 33, 3) := by decide +kernel
theorem dX10_law_53 : decode cX10_law 53 = .ok (.invokevirtual 159, 3) := by decide +kernel
theorem dX10_law_56 : decode cX10_law 56 = .ok (.iconst 1, 1) := by decide +kernel
theorem dX10_law_57 : decode cX10_law 57 = .ok (.ireturn, 1) := by decide +kernel
theorem dX10_work_0 : decode cX10_work 0 = .ok (.aload_n 0, 1) := by decide +kernel
theorem dX10_work_1 : decode cX10_work 1 = .ok (.iload_n 1, 1) := by decide +kernel
theorem dX10_work_2 : decode cX10_work 2 = .ok (.sipush 150, 3) := by decide +kernel
theorem dX10_work_5 : decode cX10_work 5 = .ok (.invokevirtual 125, 3) := by decide +kernel
theorem dX10_work_8 : decode cX10_work 8 = .ok (.aload_n 0, 1) := by decide +kernel
theorem dX10_work_9 : decode cX10_work 9 = .ok (.getfield 10, 3) := by decide +kernel
theorem dX10_work_12 : decode cX10_work 12 = .ok (.iload_n 1, 1) := by decide +kernel
theorem dX10_work_13 : decode cX10_work 13 = .ok (.invokevirtual 129, 3) := by decide +kernel
theorem dX10_work_16 : decode cX10_work 16 = .ok (.aload_n 0, 1) := by decide +kernel
theorem dX10_work_17 : decode cX10_work 17 = .ok (.getfield 93, 3) := by decide +kernel
theorem dX10_work_20 : decode cX10_work 20 = .ok (.getfield 162, 3) := by decide +kernel
theorem dX10_work_23 : decode cX10_work 23 = .ok (.bipush 16, 2) := by decide +kernel
theorem dX10_work_25 : decode cX10_work 25 = .ok (.if_icmp .lt 6, 3) := by decide +kernel
theorem dX10_work_28 : decode cX10_work 28 = .ok (.bipush (-20), 2) := by decide +kernel
theorem dX10_work_30 : decode cX10_work 30 = .ok (.ireturn, 1) := by decide +kernel
theorem dX10_work_31 : decode cX10_work 31 = .ok (.aload_n 0, 1) := by decide +kernel
theorem dX10_work_32 : decode cX10_work 32 = .ok (.getfield 49, 3) := by decide +kernel
theorem dX10_work_35 : decode cX10_work 35 = .ok (.aload_n 0, 1) := by decide +kernel
theorem dX10_work_36 : decode cX10_work 36 = .ok (.getfield 10, 3) := by decide +kernel
theorem dX10_work_39 : decode cX10_work 39 = .ok (.aload_n 0, 1) := by decide +kernel
theorem dX10_work_40 : decode cX10_work 40 = .ok (.getfield 19, 3) := by decide +kernel
theorem dX10_work_43 : decode cX10_work 43 = .ok (.invokevirtual 165, 3) := by decide +kernel
theorem dX10_work_46 : decode cX10_work 46 = .ok (.aload_n 0, 1) := by decide +kernel
theorem dX10_work_47 : decode cX10_work 47 = .ok (.getfield 10, 3) := by decide +kernel
theorem dX10_work_50 : decode cX10_work 50 = .ok (.invokevirtual 136, 3) := by decide +kernel
theorem dX10_work_53 : decode cX10_work 53 = .ok (.ifCond .eq 11, 3) := by decide +kernel
theorem dX10_work_56 : decode cX10_work 56 = .ok (.aload_n 0, 1) := by decide +kernel
theorem dX10_work_57 : decode cX10_work 57 = .ok (.getfield 10, 3) := by decide +kernel
theorem dX10_work_60 : decode cX10_work 60 = .ok (.invokevirtual 140, 3) := by decide +kernel
theorem dX10_work_63 : decode cX10_work 63 = .ok (.ireturn, 1) := by decide +kernel
theorem dX10_work_64 : decode cX10_work 64 = .ok (.aload_n 0, 1) := by decide +kernel
theorem dX10_work_65 : decode cX10_work 65 = .ok (.getfield 93, 3) := by decide +kernel
theorem dX10_work_68 : decode cX10_work 68 = .ok (.aload_n 0, 1) := by decide +kernel
theorem dX10_work_69 : decode cX10_work 69 = .ok (.getfield 58, 3) := by decide +kernel
theorem dX10_work_72 : decode cX10_work 72 = .ok (.invokevirtual 168, 3) := by decide +kernel
theorem dX10_work_75 : decode cX10_work 75 = .ok (.aload_n 0, 1) := by decide +kernel
theorem dX10_work_76 : decode cX10_work 76 = .ok (.getfield 49, 3) := by decide +kernel
theorem dX10_work_79 : decode cX10_work 79 = .ok (.aload_n 0, 1) := by decide +kernel
theorem dX10_work_80 : decode cX10_work 80 = .ok (.getfield 58, 3) := by decide +kernel
theorem dX10_work_83 : decode cX10_work 83 = .ok (.invokevirtual 171, 3) := by decide +kernel
theorem dX10_work_86 : decode cX10_work 86 = .ok (.ireturn, 1) := by decide +kernel
theorem dX10_book_0 : decode cX10_book 0 = .ok (.aload_n 0, 1) := by decide +kernel
theorem dX10_book_1 : decode cX10_book 1 = .ok (.iload_n 1, 1) := by decide +kernel
theorem dX10_book_2 : decode cX10_book 2 = .ok (.bipush 60, 2) := by decide +kernel
theorem dX10_book_4 : decode cX10_book 4 = .ok (.invokevirtual 125, 3) := by decide +kernel
theorem dX10_book_7 : decode cX10_book 7 = .ok (.aload_n 0, 1) := by decide +kernel
theorem dX10_book_8 : decode cX10_book 8 = .ok (.getfield 10, 3) := by decide +kernel
theorem dX10_book_11 : decode cX10_book 11 = .ok (.iload_n 1, 1) := by decide +kernel
theorem dX10_book_12 : decode cX10_book 12 = .ok (.invokevirtual 129, 3) := by decide +kernel
theorem dX10_book_15 : decode cX10_book 15 = .ok (.aload_n 0, 1) := by decide +kernel
theorem dX10_book_16 : decode cX10_book 16 = .ok (.getfield 43, 3) := by decide +kernel
theorem dX10_book_19 : decode cX10_book 19 = .ok (.aload_n 0, 1) := by decide +kernel
theorem dX10_book_20 : decode cX10_book 20 = .ok (.getfield 10, 3) := by decide +kernel
theorem dX10_book_23 : decode cX10_book 23 = .ok (.aload_n 0, 1) := by decide +kernel
theorem dX10_book_24 : decode cX10_book 24 = .ok (.getfield 19, 3) := by decide +kernel
theorem dX10_book_27 : decode cX10_book 27 = .ok (.getfield 155, 3) := by decide +kernel
theorem dX10_book_30 : decode cX10_book 30 = .ok (.invokevirtual 175, 3) := by decide +kernel
theorem dX10_book_33 : decode cX10_book 33 = .ok (.aload_n 0, 1) := by decide +kernel
theorem dX10_book_34 : decode cX10_book 34 = .ok (.getfield 10, 3) := by decide +kernel
theorem dX10_book_37 : decode cX10_book 37 = .ok (.invokevirtual 136, 3) := by decide +kernel
theorem dX10_book_40 : decode cX10_book 40 = .ok (.ifCond .eq 11, 3) := by decide +kernel
theorem dX10_book_43 : decode cX10_book 43 = .ok (.aload_n 0, 1) := by decide +kernel
theorem dX10_book_44 : decode cX10_book 44 = .ok (.getfield 10, 3) := by decide +kernel
theorem dX10_book_47 : decode cX10_book 47 = .ok (.invokevirtual 140, 3) := by decide +kernel
theorem dX10_book_50 : decode cX10_book 50 = .ok (.ireturn, 1) := by decide +kernel
theorem dX10_book_51 : decode cX10_book 51 = .ok (.aload_n 0, 1) := by decide +kernel
theorem dX10_book_52 : decode cX10_book 52 = .ok (.getfield 39, 3) := by decide +kernel
theorem dX10_book_55 : decode cX10_book 55 = .ok (.aload_n 0, 1) := by decide +kernel
theorem dX10_book_56 : decode cX10_book 56 = .ok (.getfield 43, 3) := by decide +kernel
theorem dX10_book_59 : decode cX10_book 59 = .ok (.invokevirtual 178, 3) := by decide +kernel
theorem dX10_book_62 : decode cX10_book 62 = .ok (.aload_n 0, 1) := by decide +kernel
theorem dX10_book_63 : decode cX10_book 63 = .ok (.getfield 39, 3) := by decide +kernel
theorem dX10_book_66 : decode cX10_book 66 = .ok (.getfield 181, 3) := by decide +kernel
theorem dX10_book_69 : decode cX10_book 69 = .ok (.ireturn, 1) := by decide +kernel
theorem dX10_fault_0 : decode cX10_fault 0 = .ok (.aload_n 0, 1) := by decide +kernel
theorem dX10_fault_1 : decode cX10_fault 1 = .ok (.getfield 10, 3) := by decide +kernel
theorem dX10_fault_4 : decode cX10_fault 4 = .ok (.getfield 184, 3) := by decide +kernel
theorem dX10_fault_7 : decode cX10_fault 7 = .ok (.ireturn, 1) := by decide +kernel
theorem dX10_undo_0 : decode cX10_undo 0 = .ok (.aload_n 0, 1) := by decide +kernel
theorem dX10_undo_1 : decode cX10_undo 1 = .ok (.getfield 93, 3) := by decide +kernel
theorem dX10_undo_4 : decode cX10_undo 4 = .ok (.aload_n 0, 1) := by decide +kernel
theorem dX10_undo_5 : decode cX10_undo 5 = .ok (.getfield 58, 3) := by decide +kernel
theorem dX10_undo_8 : decode cX10_undo 8 = .ok (.invokevirtual 187, 3) := by decide +kernel
theorem dX10_undo_11 : decode cX10_undo 11 = .ok (.ifCond .ne 5, 3) := by decide +kernel
theorem dX10_undo_14 : decode cX10_undo 14 = .ok (.iconst (-1), 1) := by decide +kernel
theorem dX10_undo_15 : decode cX10_undo 15 = .ok (.ireturn, 1) := by decide +kernel
theorem dX10_undo_16 : decode cX10_undo 16 = .ok (.aload_n 0, 1) := by decide +kernel
theorem dX10_undo_17 : decode cX10_undo 17 = .ok (.getfield 49, 3) := by decide +kernel
theorem dX10_undo_20 : decode cX10_undo 20 = .ok (.invokevirtual 151, 3) := by decide +kernel
theorem dX10_undo_23 : decode cX10_undo 23 = .ok (.aload_n 0, 1) := by decide +kernel
theorem dX10_undo_24 : decode cX10_undo 24 = .ok (.getfield 93, 3) := by decide +kernel
theorem dX10_undo_27 : decode cX10_undo 27 = .ok (.getfield 162, 3) := by decide +kernel
theorem dX10_undo_30 : decode cX10_undo 30 = .ok (.ireturn, 1) := by decide +kernel
theorem dX10_told_0 : decode cX10_told 0 = .ok (.aload_n 0, 1) := by decide +kernel
theorem dX10_told_1 : decode cX10_told 1 = .ok (.iload_n 1, 1) := by decide +kernel
theorem dX10_told_2 : decode cX10_told 2 = .ok (.iconst 0, 1) := by decide +kernel
theorem dX10_told_3 : decode cX10_told 3 = .ok (.bipush 10, 2) := by decide +kernel
theorem dX10_told_5 : decode cX10_told 5 = .ok (.invokevirtual 191, 3) := by decide +kernel
theorem dX10_told_8 : decode cX10_told 8 = .ok (.iload_n 1, 1) := by decide +kernel
theorem dX10_told_9 : decode cX10_told 9 = .ok (.tableswitch 135 0 9 #[55, 63, 71, 79, 87, 95, 103, 111, 119, 127], 55) := by decide +kernel
theorem dX10_told_64 : decode cX10_told 64 = .ok (.aload_n 0, 1) := by decide +kernel
theorem dX10_told_65 : decode cX10_told 65 = .ok (.getfield 19, 3) := by decide +kernel
theorem dX10_told_68 : decode cX10_told 68 = .ok (.getfield 155, 3) := by decide +kernel
theorem dX10_told_71 : decode cX10_told 71 = .ok (.ireturn, 1) := by decide +kernel
theorem dX10_told_72 : decode cX10_told 72 = .ok (.aload_n 0, 1) := by decide +kernel
theorem dX10_told_73 : decode cX10_told 73 = .ok (.getfield 19, 3) := by decide +kernel
theorem dX10_told_76 : decode cX10_told 76 = .ok (.getfield 195, 3) := by decide +kernel
theorem dX10_told_79 : decode cX10_told 79 = .ok (.ireturn, 1) := by decide +kernel
theorem dX10_told_80 : decode cX10_told 80 = .ok (.aload_n 0, 1) := by decide +kernel
theorem dX10_told_81 : decode cX10_told 81 = .ok (.getfield 19, 3) := by decide +kernel
theorem dX10_told_84 : decode cX10_told 84 = .ok (.getfield 198, 3) := by decide +kernel
theorem dX10_told_87 : decode cX10_told 87 = .ok (.ireturn, 1) := by decide +kernel
theorem dX10_told_88 : decode cX10_told 88 = .ok (.aload_n 0, 1) := by decide +kernel
theorem dX10_told_89 : decode cX10_told 89 = .ok (.getfield 58, 3) := by decide +kernel
theorem dX10_told_92 : decode cX10_told 92 = .ok (.getfield 201, 3) := by decide +kernel
theorem dX10_told_95 : decode cX10_told 95 = .ok (.ireturn, 1) := by decide +kernel
theorem dX10_told_96 : decode cX10_told 96 = .ok (.aload_n 0, 1) := by decide +kernel
theorem dX10_told_97 : decode cX10_told 97 = .ok (.getfield 58, 3) := by decide +kernel
theorem dX10_told_100 : decode cX10_told 100 = .ok (.invokevirtual 204, 3) := by decide +kernel
theorem dX10_told_103 : decode cX10_told 103 = .ok (.ireturn, 1) := by decide +kernel
theorem dX10_told_104 : decode cX10_told 104 = .ok (.aload_n 0, 1) := by decide +kernel
theorem dX10_told_105 : decode cX10_told 105 = .ok (.getfield 58, 3) := by decide +kernel
theorem dX10_told_108 : decode cX10_told 108 = .ok (.getfield 207, 3) := by decide +kernel
theorem dX10_told_111 : decode cX10_told 111 = .ok (.ireturn, 1) := by decide +kernel
theorem dX10_told_112 : decode cX10_told 112 = .ok (.aload_n 0, 1) := by decide +kernel
theorem dX10_told_113 : decode cX10_told 113 = .ok (.getfield 58, 3) := by decide +kernel
theorem dX10_told_116 : decode cX10_told 116 = .ok (.getfield 210, 3) := by decide +kernel
theorem dX10_told_119 : decode cX10_told 119 = .ok (.ireturn, 1) := by decide +kernel
theorem dX10_told_120 : decode cX10_told 120 = .ok (.aload_n 0, 1) := by decide +kernel
theorem dX10_told_121 : decode cX10_told 121 = .ok (.getfield 58, 3) := by decide +kernel
theorem dX10_told_124 : decode cX10_told 124 = .ok (.invokevirtual 213, 3) := by decide +kernel
theorem dX10_told_127 : decode cX10_told 127 = .ok (.ireturn, 1) := by decide +kernel
theorem dX10_told_128 : decode cX10_told 128 = .ok (.aload_n 0, 1) := by decide +kernel
theorem dX10_told_129 : decode cX10_told 129 = .ok (.getfield 58, 3) := by decide +kernel
theorem dX10_told_132 : decode cX10_told 132 = .ok (.invokevirtual 216, 3) := by decide +kernel
theorem dX10_told_135 : decode cX10_told 135 = .ok (.ireturn, 1) := by decide +kernel
theorem dX10_told_136 : decode cX10_told 136 = .ok (.aload_n 0, 1) := by decide +kernel
theorem dX10_told_137 : decode cX10_told 137 = .ok (.getfield 39, 3) := by decide +kernel
theorem dX10_told_140 : decode cX10_told 140 = .ok (.getfield 181, 3) := by decide +kernel
theorem dX10_told_143 : decode cX10_told 143 = .ok (.ireturn, 1) := by decide +kernel
theorem dX10_told_144 : decode cX10_told 144 = .ok (.aload_n 0, 1) := by decide +kernel
theorem dX10_told_145 : decode cX10_told 145 = .ok (.getfield 49, 3) := by decide +kernel
theorem dX10_told_148 : decode cX10_told 148 = .ok (.getfield 219, 3) := by decide +kernel
theorem dX10_told_151 : decode cX10_told 151 = .ok (.ireturn, 1) := by decide +kernel
theorem dX10_person_0 : decode cX10_person 0 = .ok (.aload_n 0, 1) := by decide +kernel
theorem dX10_person_1 : decode cX10_person 1 = .ok (.iload_n 1, 1) := by decide +kernel
theorem dX10_person_2 : decode cX10_person 2 = .ok (.invokevirtual 222, 3) := by decide +kernel
theorem dX10_person_5 : decode cX10_person 5 = .ok (.aload_n 0, 1) := by decide +kernel
theorem dX10_person_6 : decode cX10_person 6 = .ok (.iload_n 2, 1) := by decide +kernel
theorem dX10_person_7 : decode cX10_person 7 = .ok (.iconst 0, 1) := by decide +kernel
theorem dX10_person_8 : decode cX10_person 8 = .ok (.bipush 6, 2) := by decide +kernel
theorem dX10_person_10 : decode cX10_person 10 = .ok (.invokevirtual 191, 3) := by decide +kernel
theorem dX10_person_13 : decode cX10_person 13 = .ok (.iload_n 2, 1) := by decide +kernel
theorem dX10_person_14 : decode cX10_person 14 = .ok (.tableswitch 98 0 5 #[38, 48, 58, 68, 78, 88], 38) := by decide +kernel
theorem dX10_person_52 : decode cX10_person 52 = .ok (.aload_n 0, 1) := by decide +kernel
theorem dX10_person_53 : decode cX10_person 53 = .ok (.getfield 58, 3) := by decide +kernel
theorem dX10_person_56 : decode cX10_person 56 = .ok (.getfield 225, 3) := by decide +kernel
theorem dX10_person_59 : decode cX10_person 59 = .ok (.iload_n 1, 1) := by decide +kernel
theorem dX10_person_60 : decode cX10_person 60 = .ok (.iaload, 1) := by decide +kernel
theorem dX10_person_61 : decode cX10_person 61 = .ok (.ireturn, 1) := by decide +kernel
theorem dX10_person_62 : decode cX10_person 62 = .ok (.aload_n 0, 1) := by decide +kernel
theorem dX10_person_63 : decode cX10_person 63 = .ok (.getfield 19, 3) := by decide +kernel
theorem dX10_person_66 : decode cX10_person 66 = .ok (.getfield 229, 3) := by decide +kernel
theorem dX10_person_69 : decode cX10_person 69 = .ok (.iload_n 1, 1) := by decide +kernel
theorem dX10_person_70 : decode cX10_person 70 = .ok (.iaload, 1) := by decide +kernel
theorem dX10_person_71 : decode cX10_person 71 = .ok (.ireturn, 1) := by decide +kernel
theorem dX10_person_72 : decode cX10_person 72 = .ok (.aload_n 0, 1) := by decide +kernel
theorem dX10_person_73 : decode cX10_person 73 = .ok (.getfield 58, 3) := by decide +kernel
theorem dX10_person_76 : decode cX10_person 76 = .ok (.getfield 232, 3) := by decide +kernel
theorem dX10_person_79 : decode cX10_person 79 = .ok (.iload_n 1, 1) := by decide +kernel
theorem dX10_person_80 : decode cX10_person 80 = .ok (.iaload, 1) := by decide +kernel
theorem dX10_person_81 : decode cX10_person 81 = .ok (.ireturn, 1) := by decide +kernel
theorem dX10_person_82 : decode cX10_person 82 = .ok (.aload_n 0, 1) := by decide +kernel
theorem dX10_person_83 : decode cX10_person 83 = .ok (.getfield 58, 3) := by decide +kernel
theorem dX10_person_86 : decode cX10_person 86 = .ok (.getfield 235, 3) := by decide +kernel
theorem dX10_person_89 : decode cX10_person 89 = .ok (.iload_n 1, 1) := by decide +kernel
theorem dX10_person_90 : decode cX10_person 90 = .ok (.iaload, 1) := by decide +kernel
theorem dX10_person_91 : decode cX10_person 91 = .ok (.ireturn, 1) := by decide +kernel
theorem dX10_person_92 : decode cX10_person 92 = .ok (.aload_n 0, 1) := by decide +kernel
theorem dX10_person_93 : decode cX10_person 93 = .ok (.getfield 19, 3) := by decide +kernel
theorem dX10_person_96 : decode cX10_person 96 = .ok (.getfield 238, 3) := by decide +kernel
theorem dX10_person_99 : decode cX10_person 99 = .ok (.iload_n 1, 1) := by decide +kernel
theorem dX10_person_100 : decode cX10_person 100 = .ok (.iaload, 1) := by decide +kernel
theorem dX10_person_101 : decode cX10_person 101 = .ok (.ireturn, 1) := by decide +kernel
theorem dX10_person_102 : decode cX10_person 102 = .ok (.aload_n 0, 1) := by decide +kernel
theorem dX10_person_103 : decode cX10_person 103 = .ok (.getfield 58, 3) := by decide +kernel
theorem dX10_person_106 : decode cX10_person 106 = .ok (.getfield 241, 3) := by decide +kernel
theorem dX10_person_109 : decode cX10_person 109 = .ok (.iload_n 1, 1) := by decide +kernel
theorem dX10_person_110 : decode cX10_person 110 = .ok (.iaload, 1) := by decide +kernel
theorem dX10_person_111 : decode cX10_person 111 = .ok (.ireturn, 1) := by decide +kernel
theorem dX10_person_112 : decode cX10_person 112 = .ok (.aload_n 0, 1) := by decide +kernel
theorem dX10_person_113 : decode cX10_person 113 = .ok (.getfield 58, 3) := by decide +kernel
theorem dX10_person_116 : decode cX10_person 116 = .ok (.getfield 244, 3) := by decide +kernel
theorem dX10_person_119 : decode cX10_person 119 = .ok (.iload_n 1, 1) := by decide +kernel
theorem dX10_person_120 : decode cX10_person 120 = .ok (.iaload, 1) := by decide +kernel
theorem dX10_person_121 : decode cX10_person 121 = .ok (.ireturn, 1) := by decide +kernel
theorem dX10_duty_0 : decode cX10_duty 0 = .ok (.aload_n 0, 1) := by decide +kernel
theorem dX10_duty_1 : decode cX10_duty 1 = .ok (.iload_n 1, 1) := by decide +kernel
theorem dX10_duty_2 : decode cX10_duty 2 = .ok (.invokevirtual 247, 3) := by decide +kernel
theorem dX10_duty_5 : decode cX10_duty 5 = .ok (.aload_n 0, 1) := by decide +kernel
theorem dX10_duty_6 : decode cX10_duty 6 = .ok (.iload_n 2, 1) := by decide +kernel
theorem dX10_duty_7 : decode cX10_duty 7 = .ok (.iconst 0, 1) := by decide +kernel
theorem dX10_duty_8 : decode cX10_duty 8 = .ok (.iconst 1, 1) := by decide +kernel
theorem dX10_duty_9 : decode cX10_duty 9 = .ok (.invokevirtual 191, 3) := by decide +kernel
theorem dX10_duty_12 : decode cX10_duty 12 = .ok (.iload_n 2, 1) := by decide +kernel
theorem dX10_duty_13 : decode cX10_duty 13 = .ok (.ifCond .ne 15, 3) := by decide +kernel
theorem dX10_duty_16 : decode cX10_duty 16 = .ok (.aload_n 0, 1) := by decide +kernel
theorem dX10_duty_17 : decode cX10_duty 17 = .ok (.getfield 19, 3) := by decide +kernel
theorem dX10_duty_20 : decode cX10_duty 20 = .ok (.getfield 250, 3) := by decide +kernel
theorem dX10_duty_23 : decode cX10_duty 23 = .ok (.iload_n 1, 1) := by decide +kernel
theorem dX10_duty_24 : decode cX10_duty 24 = .ok (.iaload, 1) := by decide +kernel
theorem dX10_duty_25 : decode cX10_duty 25 = .ok (.goto 11, 3) := by decide +kernel
theorem dX10_duty_28 : decode cX10_duty 28 = .ok (.aload_n 0, 1) := by decide +kernel
theorem dX10_duty_29 : decode cX10_duty 29 = .ok (.getfield 19, 3) := by decide +kernel
theorem dX10_duty_32 : decode cX10_duty 32 = .ok (.iload_n 1, 1) := by decide +kernel
theorem dX10_duty_33 : decode cX10_duty 33 = .ok (.invokevirtual 253, 3) := by decide +kernel
theorem dX10_duty_36 : decode cX10_duty 36 = .ok (.ireturn, 1) := by decide +kernel
theorem dX10_task_0 : decode cX10_task 0 = .ok (.aload_n 0, 1) := by decide +kernel
theorem dX10_task_1 : decode cX10_task 1 = .ok (.iload_n 1, 1) := by decide +kernel
theorem dX10_task_2 : decode cX10_task 2 = .ok (.invokevirtual 257, 3) := by decide +kernel
theorem dX10_task_5 : decode cX10_task 5 = .ok (.aload_n 0, 1) := by decide +kernel
theorem dX10_task_6 : decode cX10_task 6 = .ok (.iload_n 2, 1) := by decide +kernel
theorem dX10_task_7 : decode cX10_task 7 = .ok (.iconst 0, 1) := by decide +kernel
theorem dX10_task_8 : decode cX10_task 8 = .ok (.iconst 3, 1) := by decide +kernel
theorem dX10_task_9 : decode cX10_task 9 = .ok (.invokevirtual 191, 3) := by decide +kernel
theorem dX10_task_12 : decode cX10_task 12 = .ok (.iload_n 2, 1) := by decide +kernel
theorem dX10_task_13 : decode cX10_task 13 = .ok (.tableswitch 57 0 2 #[27, 37, 47], 27) := by decide +kernel
theorem dX10_task_40 : decode cX10_task 40 = .ok (.aload_n 0, 1) := by decide +kernel
theorem dX10_task_41 : decode cX10_task 41 = .ok (.getfield 19, 3) := by decide +kernel
theorem dX10_task_44 : decode cX10_task 44 = .ok (.getfield 260, 3) := by decide +kernel
theorem dX10_task_47 : decode cX10_task 47 = .ok (.iload_n 1, 1) := by decide +kernel
theorem dX10_task_48 : decode cX10_task 48 = .ok (.iaload, 1) := by decide +kernel
theorem dX10_task_49 : decode cX10_task 49 = .ok (.ireturn, 1) := by decide +kernel
theorem dX10_task_50 : decode cX10_task 50 = .ok (.aload_n 0, 1) := by decide +kernel
theorem dX10_task_51 : decode cX10_task 51 = .ok (.getfield 58, 3) := by decide +kernel
theorem dX10_task_54 : decode cX10_task 54 = .ok (.getfield 263, 3) := by decide +kernel
theorem dX10_task_57 : decode cX10_task 57 = .ok (.iload_n 1, 1) := by decide +kernel
theorem dX10_task_58 : decode cX10_task 58 = .ok (.iaload, 1) := by decide +kernel
theorem dX10_task_59 : decode cX10_task 59 = .ok (.ireturn, 1) := by decide +kernel
theorem dX10_task_60 : decode cX10_task 60 = .ok (.aload_n 0, 1) := by decide +kernel
theorem dX10_task_61 : decode cX10_task 61 = .ok (.getfield 19, 3) := by decide +kernel
theorem dX10_task_64 : decode cX10_task 64 = .ok (.getfield 266, 3) := by decide +kernel
theorem dX10_task_67 : decode cX10_task 67 = .ok (.iload_n 1, 1) := by decide +kernel
theorem dX10_task_68 : decode cX10_task 68 = .ok (.iaload, 1) := by decide +kernel
theorem dX10_task_69 : decode cX10_task 69 = .ok (.ireturn, 1) := by decide +kernel
theorem dX10_task_70 : decode cX10_task 70 = .ok (.aload_n 0, 1) := by decide +kernel
theorem dX10_task_71 : decode cX10_task 71 = .ok (.getfield 58, 3) := by decide +kernel
theorem dX10_task_74 : decode cX10_task 74 = .ok (.iload_n 1, 1) := by decide +kernel
theorem dX10_task_75 : decode cX10_task 75 = .ok (.invokevirtual 269, 3) := by decide +kernel
theorem dX10_task_78 : decode cX10_task 78 = .ok (.ifCond .eq 7, 3) := by decide +kernel
theorem dX10_task_81 : decode cX10_task 81 = .ok (.iconst 1, 1) := by decide +kernel
theorem dX10_task_82 : decode cX10_task 82 = .ok (.goto 4, 3) := by decide +kernel
theorem dX10_task_85 : decode cX10_task 85 = .ok (.iconst 0, 1) := by decide +kernel
theorem dX10_task_86 : decode cX10_task 86 = .ok (.ireturn, 1) := by decide +kernel
theorem dX10_price_0 : decode cX10_price 0 = .ok (.aload_n 0, 1) := by decide +kernel
theorem dX10_price_1 : decode cX10_price 1 = .ok (.iload_n 1, 1) := by decide +kernel
theorem dX10_price_2 : decode cX10_price 2 = .ok (.invokevirtual 222, 3) := by decide +kernel
theorem dX10_price_5 : decode cX10_price 5 = .ok (.aload_n 0, 1) := by decide +kernel
theorem dX10_price_6 : decode cX10_price 6 = .ok (.getfield 58, 3) := by decide +kernel
theorem dX10_price_9 : decode cX10_price 9 = .ok (.iload_n 1, 1) := by decide +kernel
theorem dX10_price_10 : decode cX10_price 10 = .ok (.invokevirtual 272, 3) := by decide +kernel
theorem dX10_price_13 : decode cX10_price 13 = .ok (.ireturn, 1) := by decide +kernel
theorem dX10_would_0 : decode cX10_would 0 = .ok (.aload_n 0, 1) := by decide +kernel
theorem dX10_would_1 : decode cX10_would 1 = .ok (.iload_n 1, 1) := by decide +kernel
theorem dX10_would_2 : decode cX10_would 2 = .ok (.iconst 0, 1) := by decide +kernel
theorem dX10_would_3 : decode cX10_would 3 = .ok (.sipush 300, 3) := by decide +kernel
theorem dX10_would_6 : decode cX10_would 6 = .ok (.invokevirtual 191, 3) := by decide +kernel
theorem dX10_would_9 : decode cX10_would 9 = .ok (.aload_n 0, 1) := by decide +kernel
theorem dX10_would_10 : decode cX10_would 10 = .ok (.iload_n 2, 1) := by decide +kernel
theorem dX10_would_11 : decode cX10_would 11 = .ok (.iconst 0, 1) := by decide +kernel
theorem dX10_would_12 : decode cX10_would 12 = .ok (.iconst 5, 1) := by decide +kernel
theorem dX10_would_13 : decode cX10_would 13 = .ok (.invokevirtual 191, 3) := by decide +kernel
theorem dX10_would_16 : decode cX10_would 16 = .ok (.aload_n 0, 1) := by decide +kernel
theorem dX10_would_17 : decode cX10_would 17 = .ok (.iload_n 3, 1) := by decide +kernel
theorem dX10_would_18 : decode cX10_would 18 = .ok (.iconst 0, 1) := by decide +kernel
theorem dX10_would_19 : decode cX10_would 19 = .ok (.sipush 999, 3) := by decide +kernel
theorem dX10_would_22 : decode cX10_would 22 = .ok (.invokevirtual 191, 3) := by decide +kernel
theorem dX10_would_25 : decode cX10_would 25 = .ok (.aload_n 0, 1) := by decide +kernel
theorem dX10_would_26 : decode cX10_would 26 = .ok (.iload 4, 2) := by decide +kernel
theorem dX10_would_28 : decode cX10_would 28 = .ok (.iconst 0, 1) := by decide +kernel
theorem dX10_would_29 : decode cX10_would 29 = .ok (.sipush 999, 3) := by decide +kernel
theorem dX10_would_32 : decode cX10_would 32 = .ok (.invokevirtual 191, 3) := by decide +kernel
theorem dX10_would_35 : decode cX10_would 35 = .ok (.aload_n 0, 1) := by decide +kernel
theorem dX10_would_36 : decode cX10_would 36 = .ok (.iload 5, 2) := by decide +kernel
theorem dX10_would_38 : decode cX10_would 38 = .ok (.iconst 0, 1) := by decide +kernel
theorem dX10_would_39 : decode cX10_would 39 = .ok (.bipush 30, 2) := by decide +kernel
theorem dX10_would_41 : decode cX10_would 41 = .ok (.invokevirtual 191, 3) := by decide +kernel
theorem dX10_would_44 : decode cX10_would 44 = .ok (.aload_n 0, 1) := by decide +kernel
theorem dX10_would_45 : decode cX10_would 45 = .ok (.iload 6, 2) := by decide +kernel
theorem dX10_would_47 : decode cX10_would 47 = .ok (.iconst 0, 1) := by decide +kernel
theorem dX10_would_48 : decode cX10_would 48 = .ok (.bipush 6, 2) := by decide +kernel
theorem dX10_would_50 : decode cX10_would 50 = .ok (.invokevirtual 191, 3) := by decide +kernel
theorem dX10_would_53 : decode cX10_would 53 = .ok (.aload_n 0, 1) := by decide +kernel
theorem dX10_would_54 : decode cX10_would 54 = .ok (.iload 7, 2) := by decide +kernel
theorem dX10_would_56 : decode cX10_would 56 = .ok (.iconst 0, 1) := by decide +kernel
theorem dX10_would_57 : decode cX10_would 57 = .ok (.bipush 12, 2) := by decide +kernel
theorem dX10_would_59 : decode cX10_would 59 = .ok (.invokevirtual 191, 3) := by decide +kernel
theorem dX10_would_62 : decode cX10_would 62 = .ok (.aload_n 0, 1) := by decide +kernel
theorem dX10_would_63 : decode cX10_would 63 = .ok (.iload 8, 2) := by decide +kernel
theorem dX10_would_65 : decode cX10_would 65 = .ok (.iconst 0, 1) := by decide +kernel
theorem dX10_would_66 : decode cX10_would 66 = .ok (.iconst 5, 1) := by decide +kernel
theorem dX10_would_67 : decode cX10_would 67 = .ok (.invokevirtual 191, 3) := by decide +kernel
theorem dX10_would_70 : decode cX10_would 70 = .ok (.aload_n 0, 1) := by decide +kernel
theorem dX10_would_71 : decode cX10_would 71 = .ok (.getfield 29, 3) := by decide +kernel
theorem dX10_would_74 : decode cX10_would 74 = .ok (.getfield 275, 3) := by decide +kernel
theorem dX10_would_77 : decode cX10_would 77 = .ok (.astore 9, 2) := by decide +kernel
theorem dX10_would_79 : decode cX10_would 79 = .ok (.aload 9, 2) := by decide +kernel
theorem dX10_would_81 : decode cX10_would 81 = .ok (.iconst 0, 1) := by decide +kernel
theorem dX10_would_82 : decode cX10_would 82 = .ok (.iload_n 1, 1) := by decide +kernel
theorem dX10_would_83 : decode cX10_would 83 = .ok (.iastore, 1) := by decide +kernel
theorem dX10_would_84 : decode cX10_would 84 = .ok (.aload 9, 2) := by decide +kernel
theorem dX10_would_86 : decode cX10_would 86 = .ok (.iconst 1, 1) := by decide +kernel
theorem dX10_would_87 : decode cX10_would 87 = .ok (.iload_n 2, 1) := by decide +kernel
theorem dX10_would_88 : decode cX10_would 88 = .ok (.iastore, 1) := by decide +kernel
theorem dX10_would_89 : decode cX10_would 89 = .ok (.aload 9, 2) := by decide +kernel
theorem dX10_would_91 : decode cX10_would 91 = .ok (.iconst 2, 1) := by decide +kernel
theorem dX10_would_92 : decode cX10_would 92 = .ok (.iload_n 3, 1) := by decide +kernel
theorem dX10_would_93 : decode cX10_would 93 = .ok (.iastore, 1) := by decide +kernel
theorem dX10_would_94 : decode cX10_would 94 = .ok (.aload 9, 2) := by decide +kernel
theorem dX10_would_96 : decode cX10_would 96 = .ok (.iconst 3, 1) := by decide +kernel
theorem dX10_would_97 : decode cX10_would 97 = .ok (.iload 4, 2) := by decide +kernel
theorem dX10_would_99 : decode cX10_would 99 = .ok (.iastore, 1) := by decide +kernel
theorem dX10_would_100 : decode cX10_would 100 = .ok (.aload 9, 2) := by decide +kernel
theorem dX10_would_102 : decode cX10_would 102 = .ok (.iconst 4, 1) := by decide +kernel
theorem dX10_would_103 : decode cX10_would 103 = .ok (.iload 5, 2) := by decide +kernel
theorem dX10_would_105 : decode cX10_would 105 = .ok (.iastore, 1) := by decide +kernel
theorem dX10_would_106 : decode cX10_would 106 = .ok (.aload 9, 2) := by decide +kernel
theorem dX10_would_108 : decode cX10_would 108 = .ok (.iconst 5, 1) := by decide +kernel
theorem dX10_would_109 : decode cX10_would 109 = .ok (.iload 6, 2) := by decide +kernel
theorem dX10_would_111 : decode cX10_would 111 = .ok (.iastore, 1) := by decide +kernel
theorem dX10_would_112 : decode cX10_would 112 = .ok (.aload 9, 2) := by decide +kernel
theorem dX10_would_114 : decode cX10_would 114 = .ok (.bipush 6, 2) := by decide +kernel
theorem dX10_would_116 : decode cX10_would 116 = .ok (.iload 7, 2) := by decide +kernel
theorem dX10_would_118 : decode cX10_would 118 = .ok (.iastore, 1) := by decide +kernel
theorem dX10_would_119 : decode cX10_would 119 = .ok (.aload 9, 2) := by decide +kernel
theorem dX10_would_121 : decode cX10_would 121 = .ok (.bipush 7, 2) := by decide +kernel
theorem dX10_would_123 : decode cX10_would 123 = .ok (.iload 8, 2) := by decide +kernel
theorem dX10_would_125 : decode cX10_would 125 = .ok (.iastore, 1) := by decide +kernel
theorem dX10_would_126 : decode cX10_would 126 = .ok (.aload_n 0, 1) := by decide +kernel
theorem dX10_would_127 : decode cX10_would 127 = .ok (.getfield 29, 3) := by decide +kernel
theorem dX10_would_130 : decode cX10_would 130 = .ok (.invokevirtual 278, 3) := by decide +kernel
theorem dX10_would_133 : decode cX10_would 133 = .ok (.ireturn, 1) := by decide +kernel
theorem dX10_can_0 : decode cX10_can 0 = .ok (.aload_n 0, 1) := by decide +kernel
theorem dX10_can_1 : decode cX10_can 1 = .ok (.iload_n 1, 1) := by decide +kernel
theorem dX10_can_2 : decode cX10_can 2 = .ok (.invokevirtual 222, 3) := by decide +kernel
theorem dX10_can_5 : decode cX10_can 5 = .ok (.aload_n 0, 1) := by decide +kernel
theorem dX10_can_6 : decode cX10_can 6 = .ok (.getfield 58, 3) := by decide +kernel
theorem dX10_can_9 : decode cX10_can 9 = .ok (.iload_n 1, 1) := by decide +kernel
theorem dX10_can_10 : decode cX10_can 10 = .ok (.invokevirtual 281, 3) := by decide +kernel
theorem dX10_can_13 : decode cX10_can 13 = .ok (.ireturn, 1) := by decide +kernel
theorem dX10_cheapest_0 : decode cX10_cheapest 0 = .ok (.aload_n 0, 1) := by decide +kernel
theorem dX10_cheapest_1 : decode cX10_cheapest 1 = .ok (.iload_n 1, 1) := by decide +kernel
theorem dX10_cheapest_2 : decode cX10_cheapest 2 = .ok (.iconst 0, 1) := by decide +kernel
theorem dX10_cheapest_3 : decode cX10_cheapest 3 = .ok (.iconst 1, 1) := by decide +kernel
theorem dX10_cheapest_4 : decode cX10_cheapest 4 = .ok (.invokevirtual 191, 3) := by decide +kernel
theorem dX10_cheapest_7 : decode cX10_cheapest 7 = .ok (.iconst (-1), 1) := by decide +kernel
theorem dX10_cheapest_8 : decode cX10_cheapest 8 = .ok (.istore_n 2, 1) := by decide +kernel
theorem dX10_cheapest_9 : decode cX10_cheapest 9 = .ok (.iconst (-1), 1) := by decide +kernel
theorem dX10_cheapest_10 : decode cX10_cheapest 10 = .ok (.istore_n 3, 1) := by decide +kernel
theorem dX10_cheapest_11 : decode cX10_cheapest 11 = .ok (.iconst 0, 1) := by decide +kernel
theorem dX10_cheapest_12 : decode cX10_cheapest 12 = .ok (.istore 4, 2) := by decide +kernel
theorem dX10_cheapest_14 : decode cX10_cheapest 14 = .ok (.iload 4, 2) := by decide +kernel
theorem dX10_cheapest_16 : decode cX10_cheapest 16 = .ok (.aload_n 0, 1) := by decide +kernel
theorem dX10_cheapest_17 : decode cX10_cheapest 17 = .ok (.getfield 19, 3) := by decide +kernel
theorem dX10_cheapest_20 : decode cX10_cheapest 20 = .ok (.getfield 155, 3) := by decide +kernel
theorem dX10_cheapest_23 : decode cX10_cheapest 23 = .ok (.if_icmp .ge 49, 3) := by decide +kernel
theorem dX10_cheapest_26 : decode cX10_cheapest 26 = .ok (.aload_n 0, 1) := by decide +kernel
theorem dX10_cheapest_27 : decode cX10_cheapest 27 = .ok (.getfield 58, 3) := by decide +kernel
theorem dX10_cheapest_30 : decode cX10_cheapest 30 = .ok (.iload 4, 2) := by decide +kernel
theorem dX10_cheapest_32 : decode cX10_cheapest 32 = .ok (.invokevirtual 284, 3) := by decide +kernel
theorem dX10_cheapest_35 : decode cX10_cheapest 35 = .ok (.ifCond .ne 31, 3) := by decide +kernel
theorem dX10_cheapest_38 : decode cX10_cheapest 38 = .ok (.aload_n 0, 1) := by decide +kernel
theorem dX10_cheapest_39 : decode cX10_cheapest 39 = .ok (.getfield 58, 3) := by decide +kernel
theorem dX10_cheapest_42 : decode cX10_cheapest 42 = .ok (.iload 4, 2) := by decide +kernel
theorem dX10_cheapest_44 : decode cX10_cheapest 44 = .ok (.invokevirtual 272, 3) := by decide +kernel
theorem dX10_cheapest_47 : decode cX10_cheapest 47 = .ok (.istore 5, 2) := by decide +kernel
theorem dX10_cheapest_49 : decode cX10_cheapest 49 = .ok (.iload_n 2, 1) := by decide +kernel
theorem dX10_cheapest_50 : decode cX10_cheapest 50 = .ok (.iconst (-1), 1) := by decide +kernel
theorem dX10_cheapest_51 : decode cX10_cheapest 51 = .ok (.if_icmp .eq 9, 3) := by decide +kernel
theorem dX10_cheapest_54 : decode cX10_cheapest 54 = .ok (.iload 5, 2) := by decide +kernel
theorem dX10_cheapest_56 : decode cX10_cheapest 56 = .ok (.iload_n 3, 1) := by decide +kernel
theorem dX10_cheapest_57 : decode cX10_cheapest 57 = .ok (.if_icmp .ge 9, 3) := by decide +kernel
theorem dX10_cheapest_60 : decode cX10_cheapest 60 = .ok (.iload 4, 2) := by decide +kernel
theorem dX10_cheapest_62 : decode cX10_cheapest 62 = .ok (.istore_n 2, 1) := by decide +kernel
theorem dX10_cheapest_63 : decode cX10_cheapest 63 = .ok (.iload 5, 2) := by decide +kernel
theorem dX10_cheapest_65 : decode cX10_cheapest 65 = .ok (.istore_n 3, 1) := by decide +kernel
theorem dX10_cheapest_66 : decode cX10_cheapest 66 = .ok (.iinc 4 1, 3) := by decide +kernel
theorem dX10_cheapest_69 : decode cX10_cheapest 69 = .ok (.goto (-55), 3) := by decide +kernel
theorem dX10_cheapest_72 : decode cX10_cheapest 72 = .ok (.iload_n 1, 1) := by decide +kernel
theorem dX10_cheapest_73 : decode cX10_cheapest 73 = .ok (.ifCond .ne 7, 3) := by decide +kernel
theorem dX10_cheapest_76 : decode cX10_cheapest 76 = .ok (.iload_n 2, 1) := by decide +kernel
theorem dX10_cheapest_77 : decode cX10_cheapest 77 = .ok (.goto 4, 3) := by decide +kernel
theorem dX10_cheapest_80 : decode cX10_cheapest 80 = .ok (.iload_n 3, 1) := by decide +kernel
theorem dX10_cheapest_81 : decode cX10_cheapest 81 = .ok (.ireturn, 1) := by decide +kernel
theorem dX10_rush_0 : decode cX10_rush 0 = .ok (.aload_n 0, 1) := by decide +kernel
theorem dX10_rush_1 : decode cX10_rush 1 = .ok (.getfield 62, 3) := by decide +kernel
theorem dX10_rush_4 : decode cX10_rush 4 = .ok (.aload_n 0, 1) := by decide +kernel
theorem dX10_rush_5 : decode cX10_rush 5 = .ok (.getfield 58, 3) := by decide +kernel
theorem dX10_rush_8 : decode cX10_rush 8 = .ok (.invokevirtual 287, 3) := by decide +kernel
theorem dX10_rush_11 : decode cX10_rush 11 = .ok (.iconst 0, 1) := by decide +kernel
theorem dX10_rush_12 : decode cX10_rush 12 = .ok (.istore_n 1, 1) := by decide +kernel
theorem dX10_rush_13 : decode cX10_rush 13 = .ok (.iload_n 1, 1) := by decide +kernel
theorem dX10_rush_14 : decode cX10_rush 14 = .ok (.aload_n 0, 1) := by decide +kernel
theorem dX10_rush_15 : decode cX10_rush 15 = .ok (.getfield 19, 3) := by decide +kernel
theorem dX10_rush_18 : decode cX10_rush 18 = .ok (.getfield 155, 3) := by decide +kernel
theorem dX10_rush_21 : decode cX10_rush 21 = .ok (.if_icmp .ge 18, 3) := by decide +kernel
theorem dX10_rush_24 : decode cX10_rush 24 = .ok (.aload_n 0, 1) := by decide +kernel
theorem dX10_rush_25 : decode cX10_rush 25 = .ok (.getfield 62, 3) := by decide +kernel
theorem dX10_rush_28 : decode cX10_rush 28 = .ok (.iload_n 1, 1) := by decide +kernel
theorem dX10_rush_29 : decode cX10_rush 29 = .ok (.invokevirtual 289, 3) := by decide +kernel
theorem dX10_rush_32 : decode cX10_rush 32 = .ok (.pop, 1) := by decide +kernel
theorem dX10_rush_33 : decode cX10_rush 33 = .ok (.iinc 1 1, 3) := by decide +kernel
theorem dX10_rush_36 : decode cX10_rush 36 = .ok (.goto (-23), 3) := by decide +kernel
theorem dX10_rush_39 : decode cX10_rush 39 = .ok (.aload_n 0, 1) := by decide +kernel
theorem dX10_rush_40 : decode cX10_rush 40 = .ok (.getfield 62, 3) := by decide +kernel
theorem dX10_rush_43 : decode cX10_rush 43 = .ok (.invokevirtual 204, 3) := by decide +kernel
theorem dX10_rush_46 : decode cX10_rush 46 = .ok (.ireturn, 1) := by decide +kernel
theorem dX10_back_0 : decode cX10_back 0 = .ok (.aload_n 0, 1) := by decide +kernel
theorem dX10_back_1 : decode cX10_back 1 = .ok (.iload_n 1, 1) := by decide +kernel
theorem dX10_back_2 : decode cX10_back 2 = .ok (.invokevirtual 222, 3) := by decide +kernel
theorem dX10_back_5 : decode cX10_back 5 = .ok (.aload_n 0, 1) := by decide +kernel
theorem dX10_back_6 : decode cX10_back 6 = .ok (.getfield 58, 3) := by decide +kernel
theorem dX10_back_9 : decode cX10_back 9 = .ok (.iload_n 1, 1) := by decide +kernel
theorem dX10_back_10 : decode cX10_back 10 = .ok (.invokevirtual 284, 3) := by decide +kernel
theorem dX10_back_13 : decode cX10_back 13 = .ok (.ifCond .eq 17, 3) := by decide +kernel
theorem dX10_back_16 : decode cX10_back 16 = .ok (.aload_n 0, 1) := by decide +kernel
theorem dX10_back_17 : decode cX10_back 17 = .ok (.getfield 58, 3) := by decide +kernel
theorem dX10_back_20 : decode cX10_back 20 = .ok (.getfield 241, 3) := by decide +kernel
theorem dX10_back_23 : decode cX10_back 23 = .ok (.iload_n 1, 1) := by decide +kernel
theorem dX10_back_24 : decode cX10_back 24 = .ok (.iaload, 1) := by decide +kernel
theorem dX10_back_25 : decode cX10_back 25 = .ok (.iconst 2, 1) := by decide +kernel
theorem dX10_back_26 : decode cX10_back 26 = .ok (.idiv, 1) := by decide +kernel
theorem dX10_back_27 : decode cX10_back 27 = .ok (.goto 4, 3) := by decide +kernel
theorem dX10_back_30 : decode cX10_back 30 = .ok (.iconst (-1), 1) := by decide +kernel
theorem dX10_back_31 : decode cX10_back 31 = .ok (.ireturn, 1) := by decide +kernel
theorem dX10_ahead_0 : decode cX10_ahead 0 = .ok (.aload_n 0, 1) := by decide +kernel
theorem dX10_ahead_1 : decode cX10_ahead 1 = .ok (.iload_n 1, 1) := by decide +kernel
theorem dX10_ahead_2 : decode cX10_ahead 2 = .ok (.iconst 0, 1) := by decide +kernel
theorem dX10_ahead_3 : decode cX10_ahead 3 = .ok (.bipush 99, 2) := by decide +kernel
theorem dX10_ahead_5 : decode cX10_ahead 5 = .ok (.invokevirtual 191, 3) := by decide +kernel
theorem dX10_ahead_8 : decode cX10_ahead 8 = .ok (.aload_n 0, 1) := by decide +kernel
theorem dX10_ahead_9 : decode cX10_ahead 9 = .ok (.iload_n 2, 1) := by decide +kernel
theorem dX10_ahead_10 : decode cX10_ahead 10 = .ok (.iconst 0, 1) := by decide +kernel
theorem dX10_ahead_11 : decode cX10_ahead 11 = .ok (.iconst 2, 1) := by decide +kernel
theorem dX10_ahead_12 : decode cX10_ahead 12 = .ok (.invokevirtual 191, 3) := by decide +kernel
theorem dX10_ahead_15 : decode cX10_ahead 15 = .ok (.aload_n 0, 1) := by decide +kernel
theorem dX10_ahead_16 : decode cX10_ahead 16 = .ok (.iload_n 1, 1) := by decide +kernel
theorem dX10_ahead_17 : decode cX10_ahead 17 = .ok (.invokevirtual 292, 3) := by decide +kernel
theorem dX10_ahead_20 : decode cX10_ahead 20 = .ok (.iload_n 2, 1) := by decide +kernel
theorem dX10_ahead_21 : decode cX10_ahead 21 = .ok (.lookupswitch 43 #[(0, 27), (1, 35)], 27) := by decide +kernel
theorem dX10_ahead_48 : decode cX10_ahead 48 = .ok (.aload_n 0, 1) := by decide +kernel
theorem dX10_ahead_49 : decode cX10_ahead 49 = .ok (.getfield 62, 3) := by decide +kernel
theorem dX10_ahead_52 : decode cX10_ahead 52 = .ok (.invokevirtual 213, 3) := by decide +kernel
theorem dX10_ahead_55 : decode cX10_ahead 55 = .ok (.ireturn, 1) := by decide +kernel
theorem dX10_ahead_56 : decode cX10_ahead 56 = .ok (.aload_n 0, 1) := by decide +kernel
theorem dX10_ahead_57 : decode cX10_ahead 57 = .ok (.getfield 62, 3) := by decide +kernel
theorem dX10_ahead_60 : decode cX10_ahead 60 = .ok (.invokevirtual 216, 3) := by decide +kernel
theorem dX10_ahead_63 : decode cX10_ahead 63 = .ok (.ireturn, 1) := by decide +kernel
theorem dX10_ahead_64 : decode cX10_ahead 64 = .ok (.aload_n 0, 1) := by decide +kernel
theorem dX10_ahead_65 : decode cX10_ahead 65 = .ok (.getfield 62, 3) := by decide +kernel
theorem dX10_ahead_68 : decode cX10_ahead 68 = .ok (.getfield 207, 3) := by decide +kernel
theorem dX10_ahead_71 : decode cX10_ahead 71 = .ok (.ireturn, 1) := by decide +kernel
theorem dX10_loses_0 : decode cX10_loses 0 = .ok (.aload_n 0, 1) := by decide +kernel
theorem dX10_loses_1 : decode cX10_loses 1 = .ok (.iload_n 1, 1) := by decide +kernel
theorem dX10_loses_2 : decode cX10_loses 2 = .ok (.iconst 0, 1) := by decide +kernel
theorem dX10_loses_3 : decode cX10_loses 3 = .ok (.bipush 99, 2) := by decide +kernel
theorem dX10_loses_5 : decode cX10_loses 5 = .ok (.invokevirtual 191, 3) := by decide +kernel
theorem dX10_loses_8 : decode cX10_loses 8 = .ok (.aload_n 0, 1) := by decide +kernel
theorem dX10_loses_9 : decode cX10_loses 9 = .ok (.iload_n 1, 1) := by decide +kernel
theorem dX10_loses_10 : decode cX10_loses 10 = .ok (.invokevirtual 292, 3) := by decide +kernel
theorem dX10_loses_13 : decode cX10_loses 13 = .ok (.aload_n 0, 1) := by decide +kernel
theorem dX10_loses_14 : decode cX10_loses 14 = .ok (.getfield 62, 3) := by decide +kernel
theorem dX10_loses_17 : decode cX10_loses 17 = .ok (.getfield 210, 3) := by decide +kernel
theorem dX10_loses_20 : decode cX10_loses 20 = .ok (.aload_n 0, 1) := by decide +kernel
theorem dX10_loses_21 : decode cX10_loses 21 = .ok (.getfield 58, 3) := by decide +kernel
theorem dX10_loses_24 : decode cX10_loses 24 = .ok (.getfield 210, 3) := by decide +kernel
theorem dX10_loses_27 : decode cX10_loses 27 = .ok (.isub, 1) := by decide +kernel
theorem dX10_loses_28 : decode cX10_loses 28 = .ok (.ireturn, 1) := by decide +kernel
theorem dX10_spare_0 : decode cX10_spare 0 = .ok (.aload_n 0, 1) := by decide +kernel
theorem dX10_spare_1 : decode cX10_spare 1 = .ok (.iload_n 1, 1) := by decide +kernel
theorem dX10_spare_2 : decode cX10_spare 2 = .ok (.invokevirtual 222, 3) := by decide +kernel
theorem dX10_spare_5 : decode cX10_spare 5 = .ok (.aload_n 0, 1) := by decide +kernel
theorem dX10_spare_6 : decode cX10_spare 6 = .ok (.iload_n 2, 1) := by decide +kernel
theorem dX10_spare_7 : decode cX10_spare 7 = .ok (.iconst 0, 1) := by decide +kernel
theorem dX10_spare_8 : decode cX10_spare 8 = .ok (.bipush 99, 2) := by decide +kernel
theorem dX10_spare_10 : decode cX10_spare 10 = .ok (.invokevirtual 191, 3) := by decide +kernel
theorem dX10_spare_13 : decode cX10_spare 13 = .ok (.sipush 999, 3) := by decide +kernel
theorem dX10_spare_16 : decode cX10_spare 16 = .ok (.aload_n 0, 1) := by decide +kernel
theorem dX10_spare_17 : decode cX10_spare 17 = .ok (.getfield 58, 3) := by decide +kernel
theorem dX10_spare_20 : decode cX10_spare 20 = .ok (.getfield 225, 3) := by decide +kernel
theorem dX10_spare_23 : decode cX10_spare 23 = .ok (.iload_n 1, 1) := by decide +kernel
theorem dX10_spare_24 : decode cX10_spare 24 = .ok (.iaload, 1) := by decide +kernel
theorem dX10_spare_25 : decode cX10_spare 25 = .ok (.iload_n 2, 1) := by decide +kernel
theorem dX10_spare_26 : decode cX10_spare 26 = .ok (.aload_n 0, 1) := by decide +kernel
theorem dX10_spare_27 : decode cX10_spare 27 = .ok (.getfield 19, 3) := by decide +kernel
theorem dX10_spare_30 : decode cX10_spare 30 = .ok (.getfield 229, 3) := by decide +kernel
theorem dX10_spare_33 : decode cX10_spare 33 = .ok (.iload_n 1, 1) := by decide +kernel
theorem dX10_spare_34 : decode cX10_spare 34 = .ok (.iaload, 1) := by decide +kernel
theorem dX10_spare_35 : decode cX10_spare 35 = .ok (.imul, 1) := by decide +kernel
theorem dX10_spare_36 : decode cX10_spare 36 = .ok (.iadd, 1) := by decide +kernel
theorem dX10_spare_37 : decode cX10_spare 37 = .ok (.invokestatic 295, 3) := by decide +kernel
theorem dX10_spare_40 : decode cX10_spare 40 = .ok (.ireturn, 1) := by decide +kernel
theorem dX10_skips_0 : decode cX10_skips 0 = .ok (.aload_n 0, 1) := by decide +kernel
theorem dX10_skips_1 : decode cX10_skips 1 = .ok (.iload_n 1, 1) := by decide +kernel
theorem dX10_skips_2 : decode cX10_skips 2 = .ok (.invokevirtual 222, 3) := by decide +kernel
theorem dX10_skips_5 : decode cX10_skips 5 = .ok (.aload_n 0, 1) := by decide +kernel
theorem dX10_skips_6 : decode cX10_skips 6 = .ok (.iload_n 2, 1) := by decide +kernel
theorem dX10_skips_7 : decode cX10_skips 7 = .ok (.iconst 0, 1) := by decide +kernel
theorem dX10_skips_8 : decode cX10_skips 8 = .ok (.bipush 10, 2) := by decide +kernel
theorem dX10_skips_10 : decode cX10_skips 10 = .ok (.invokevirtual 191, 3) := by decide +kernel
theorem dX10_skips_13 : decode cX10_skips 13 = .ok (.aload_n 0, 1) := by decide +kernel
theorem dX10_skips_14 : decode cX10_skips 14 = .ok (.iload_n 3, 1) := by decide +kernel
theorem dX10_skips_15 : decode cX10_skips 15 = .ok (.iconst 0, 1) := by decide +kernel
theorem dX10_skips_16 : decode cX10_skips 16 = .ok (.iconst 1, 1) := by decide +kernel
theorem dX10_skips_17 : decode cX10_skips 17 = .ok (.invokevirtual 191, 3) := by decide +kernel
theorem dX10_skips_20 : decode cX10_skips 20 = .ok (.aload_n 0, 1) := by decide +kernel
theorem dX10_skips_21 : decode cX10_skips 21 = .ok (.getfield 77, 3) := by decide +kernel
theorem dX10_skips_24 : decode cX10_skips 24 = .ok (.aload_n 0, 1) := by decide +kernel
theorem dX10_skips_25 : decode cX10_skips 25 = .ok (.getfield 58, 3) := by decide +kernel
theorem dX10_skips_28 : decode cX10_skips 28 = .ok (.iload_n 1, 1) := by decide +kernel
theorem dX10_skips_29 : decode cX10_skips 29 = .ok (.iload_n 2, 1) := by decide +kernel
theorem dX10_skips_30 : decode cX10_skips 30 = .ok (.invokevirtual 301, 3) := by decide +kernel
theorem dX10_skips_33 : decode cX10_skips 33 = .ok (.iload_n 3, 1) := by decide +kernel
theorem dX10_skips_34 : decode cX10_skips 34 = .ok (.ifCond .ne 13, 3) := by decide +kernel
theorem dX10_skips_37 : decode cX10_skips 37 = .ok (.aload_n 0, 1) := by decide +kernel
theorem dX10_skips_38 : decode cX10_skips 38 = .ok (.getfield 77, 3) := by decide +kernel
theorem dX10_skips_41 : decode cX10_skips 41 = .ok (.getfield 305, 3) := by decide +kernel
theorem dX10_skips_44 : decode cX10_skips 44 = .ok (.goto 10, 3) := by decide +kernel
theorem dX10_skips_47 : decode cX10_skips 47 = .ok (.aload_n 0, 1) := by decide +kernel
theorem dX10_skips_48 : decode cX10_skips 48 = .ok (.getfield 77, 3) := by decide +kernel
theorem dX10_skips_51 : decode cX10_skips 51 = .ok (.getfield 308, 3) := by decide +kernel
theorem dX10_skips_54 : decode cX10_skips 54 = .ok (.ireturn, 1) := by decide +kernel
theorem dX10_year_0 : decode cX10_year 0 = .ok (.aload_n 0, 1) := by decide +kernel
theorem dX10_year_1 : decode cX10_year 1 = .ok (.iload_n 2, 1) := by decide +kernel
theorem dX10_year_2 : decode cX10_year 2 = .ok (.iload_n 3, 1) := by decide +kernel
theorem dX10_year_3 : decode cX10_year 3 = .ok (.iload 4, 2) := by decide +kernel
theorem dX10_year_5 : decode cX10_year 5 = .ok (.invokevirtual 311, 3) := by decide +kernel
theorem dX10_year_8 : decode cX10_year 8 = .ok (.aload_n 0, 1) := by decide +kernel
theorem dX10_year_9 : decode cX10_year 9 = .ok (.iload 5, 2) := by decide +kernel
theorem dX10_year_11 : decode cX10_year 11 = .ok (.iconst 0, 1) := by decide +kernel
theorem dX10_year_12 : decode cX10_year 12 = .ok (.iconst 4, 1) := by decide +kernel
theorem dX10_year_13 : decode cX10_year 13 = .ok (.invokevirtual 191, 3) := by decide +kernel
theorem dX10_year_16 : decode cX10_year 16 = .ok (.aload_n 0, 1) := by decide +kernel
theorem dX10_year_17 : decode cX10_year 17 = .ok (.getfield 86, 3) := by decide +kernel
theorem dX10_year_20 : decode cX10_year 20 = .ok (.aload_n 0, 1) := by decide +kernel
theorem dX10_year_21 : decode cX10_year 21 = .ok (.getfield 58, 3) := by decide +kernel
theorem dX10_year_24 : decode cX10_year 24 = .ok (.iload_n 1, 1) := by decide +kernel
theorem dX10_year_25 : decode cX10_year 25 = .ok (.iload_n 2, 1) := by decide +kernel
theorem dX10_year_26 : decode cX10_year 26 = .ok (.iload_n 3, 1) := by decide +kernel
theorem dX10_year_27 : decode cX10_year 27 = .ok (.iload 4, 2) := by decide +kernel
theorem dX10_year_29 : decode cX10_year 29 = .ok (.invokevirtual 314, 3) := by decide +kernel
theorem dX10_year_32 : decode cX10_year 32 = .ok (.iload 5, 2) := by decide +kernel
theorem dX10_year_34 : decode cX10_year 34 = .ok (.tableswitch 70 0 3 #[30, 38, 46, 62], 30) := by decide +kernel
theorem dX10_year_64 : decode cX10_year 64 = .ok (.aload_n 0, 1) := by decide +kernel
theorem dX10_year_65 : decode cX10_year 65 = .ok (.getfield 62, 3) := by decide +kernel
theorem dX10_year_68 : decode cX10_year 68 = .ok (.invokevirtual 213, 3) := by decide +kernel
theorem dX10_year_71 : decode cX10_year 71 = .ok (.ireturn, 1) := by decide +kernel
theorem dX10_year_72 : decode cX10_year 72 = .ok (.aload_n 0, 1) := by decide +kernel
theorem dX10_year_73 : decode cX10_year 73 = .ok (.getfield 62, 3) := by decide +kernel
theorem dX10_year_76 : decode cX10_year 76 = .ok (.invokevirtual 216, 3) := by decide +kernel
theorem dX10_year_79 : decode cX10_year 79 = .ok (.ireturn, 1) := by decide +kernel
theorem dX10_year_80 : decode cX10_year 80 = .ok (.aload_n 0, 1) := by decide +kernel
theorem dX10_year_81 : decode cX10_year 81 = .ok (.getfield 62, 3) := by decide +kernel
theorem dX10_year_84 : decode cX10_year 84 = .ok (.getfield 210, 3) := by decide +kernel
theorem dX10_year_87 : decode cX10_year 87 = .ok (.aload_n 0, 1) := by decide +kernel
theorem dX10_year_88 : decode cX10_year 88 = .ok (.getfield 58, 3) := by decide +kernel
theorem dX10_year_91 : decode cX10_year 91 = .ok (.getfield 210, 3) := by decide +kernel
theorem dX10_year_94 : decode cX10_year 94 = .ok (.isub, 1) := by decide +kernel
theorem dX10_year_95 : decode cX10_year 95 = .ok (.ireturn, 1) := by decide +kernel
theorem dX10_year_96 : decode cX10_year 96 = .ok (.aload_n 0, 1) := by decide +kernel
theorem dX10_year_97 : decode cX10_year 97 = .ok (.getfield 86, 3) := by decide +kernel
theorem dX10_year_100 : decode cX10_year 100 = .ok (.getfield 318, 3) := by decide +kernel
theorem dX10_year_103 : decode cX10_year 103 = .ok (.ireturn, 1) := by decide +kernel
theorem dX10_year_104 : decode cX10_year 104 = .ok (.aload_n 0, 1) := by decide +kernel
theorem dX10_year_105 : decode cX10_year 105 = .ok (.getfield 62, 3) := by decide +kernel
theorem dX10_year_108 : decode cX10_year 108 = .ok (.getfield 207, 3) := by decide +kernel
theorem dX10_year_111 : decode cX10_year 111 = .ok (.ireturn, 1) := by decide +kernel
theorem dX10_span_0 : decode cX10_span 0 = .ok (.aload_n 0, 1) := by decide +kernel
theorem dX10_span_1 : decode cX10_span 1 = .ok (.iload_n 2, 1) := by decide +kernel
theorem dX10_span_2 : decode cX10_span 2 = .ok (.iconst 1, 1) := by decide +kernel
theorem dX10_span_3 : decode cX10_span 3 = .ok (.bipush 20, 2) := by decide +kernel
theorem dX10_span_5 : decode cX10_span 5 = .ok (.invokevirtual 191, 3) := by decide +kernel
theorem dX10_span_8 : decode cX10_span 8 = .ok (.aload_n 0, 1) := by decide +kernel
theorem dX10_span_9 : decode cX10_span 9 = .ok (.iload_n 3, 1) := by decide +kernel
theorem dX10_span_10 : decode cX10_span 10 = .ok (.iload 4, 2) := by decide +kernel
theorem dX10_span_12 : decode cX10_span 12 = .ok (.iload 5, 2) := by decide +kernel
theorem dX10_span_14 : decode cX10_span 14 = .ok (.invokevirtual 311, 3) := by decide +kernel
theorem dX10_span_17 : decode cX10_span 17 = .ok (.aload_n 0, 1) := by decide +kernel
theorem dX10_span_18 : decode cX10_span 18 = .ok (.iload 6, 2) := by decide +kernel
theorem dX10_span_20 : decode cX10_span 20 = .ok (.iconst 0, 1) := by decide +kernel
theorem dX10_span_21 : decode cX10_span 21 = .ok (.iconst 2, 1) := by decide +kernel
theorem dX10_span_22 : decode cX10_span 22 = .ok (.invokevirtual 191, 3) := by decide +kernel
theorem dX10_span_25 : decode cX10_span 25 = .ok (.aload_n 0, 1) := by decide +kernel
theorem dX10_span_26 : decode cX10_span 26 = .ok (.iload 7, 2) := by decide +kernel
theorem dX10_span_28 : decode cX10_span 28 = .ok (.iconst 0, 1) := by decide +kernel
theorem dX10_span_29 : decode cX10_span 29 = .ok (.aload_n 0, 1) := by decide +kernel
theorem dX10_span_30 : decode cX10_span 30 = .ok (.getfield 19, 3) := by decide +kernel
theorem dX10_span_33 : decode cX10_span 33 = .ok (.getfield 198, 3) := by decide +kernel
theorem dX10_span_36 : decode cX10_span 36 = .ok (.iconst 1, 1) := by decide +kernel
theorem dX10_span_37 : decode cX10_span 37 = .ok (.isub, 1) := by decide +kernel
theorem dX10_span_38 : decode cX10_span 38 = .ok (.invokevirtual 191, 3) := by decide +kernel
theorem dX10_span_41 : decode cX10_span 41 = .ok (.iconst 0, 1) := by decide +kernel
theorem dX10_span_42 : decode cX10_span 42 = .ok (.istore 8, 2) := by decide +kernel
theorem dX10_span_44 : decode cX10_span 44 = .ok (.iconst 0, 1) := by decide +kernel
theorem dX10_span_45 : decode cX10_span 45 = .ok (.istore 9, 2) := by decide +kernel
theorem dX10_span_47 : decode cX10_span 47 = .ok (.iconst 0, 1) := by decide +kernel
theorem dX10_span_48 : decode cX10_span 48 = .ok (.istore 10, 2) := by decide +kernel
theorem dX10_span_50 : decode cX10_span 50 = .ok (.iconst 0, 1) := by decide +kernel
theorem dX10_span_51 : decode cX10_span 51 = .ok (.istore 11, 2) := by decide +kernel
theorem dX10_span_53 : decode cX10_span 53 = .ok (.iload 11, 2) := by decide +kernel
theorem dX10_span_55 : decode cX10_span 55 = .ok (.iload_n 2, 1) := by decide +kernel
theorem dX10_span_56 : decode cX10_span 56 = .ok (.if_icmp .ge 96, 3) := by decide +kernel
theorem dX10_span_59 : decode cX10_span 59 = .ok (.aload_n 0, 1) := by decide +kernel
theorem dX10_span_60 : decode cX10_span 60 = .ok (.getfield 86, 3) := by decide +kernel
theorem dX10_span_63 : decode cX10_span 63 = .ok (.aload_n 0, 1) := by decide +kernel
theorem dX10_span_64 : decode cX10_span 64 = .ok (.getfield 58, 3) := by decide +kernel
theorem dX10_span_67 : decode cX10_span 67 = .ok (.iload_n 1, 1) := by decide +kernel
theorem dX10_span_68 : decode cX10_span 68 = .ok (.iload 11, 2) := by decide +kernel
theorem dX10_span_70 : decode cX10_span 70 = .ok (.iadd, 1) := by decide +kernel
theorem dX10_span_71 : decode cX10_span 71 = .ok (.iload_n 3, 1) := by decide +kernel
theorem dX10_span_72 : decode cX10_span 72 = .ok (.iload 4, 2) := by decide +kernel
theorem dX10_span_74 : decode cX10_span 74 = .ok (.iload 5, 2) := by decide +kernel
theorem dX10_span_76 : decode cX10_span 76 = .ok (.invokevirtual 314, 3) := by decide +kernel
theorem dX10_span_79 : decode cX10_span 79 = .ok (.aload_n 0, 1) := by decide +kernel
theorem dX10_span_80 : decode cX10_span 80 = .ok (.getfield 62, 3) := by decide +kernel
theorem dX10_span_83 : decode cX10_span 83 = .ok (.getfield 210, 3) := by decide +kernel
theorem dX10_span_86 : decode cX10_span 86 = .ok (.aload_n 0, 1) := by decide +kernel
theorem dX10_span_87 : decode cX10_span 87 = .ok (.getfield 58, 3) := by decide +kernel
theorem dX10_span_90 : decode cX10_span 90 = .ok (.getfield 210, 3) := by decide +kernel
theorem dX10_span_93 : decode cX10_span 93 = .ok (.isub, 1) := by decide +kernel
theorem dX10_span_94 : decode cX10_span 94 = .ok (.istore 12, 2) := by decide +kernel
theorem dX10_span_96 : decode cX10_span 96 = .ok (.iload 11, 2) := by decide +kernel
theorem dX10_span_98 : decode cX10_span 98 = .ok (.ifCond .ne 8, 3) := by decide +kernel
theorem dX10_span_101 : decode cX10_span 101 = .ok (.iload 12, 2) := by decide +kernel
theorem dX10_span_103 : decode cX10_span 103 = .ok (.goto 10, 3) := by decide +kernel
theorem dX10_span_106 : decode cX10_span 106 = .ok (.iload 8, 2) := by decide +kernel
theorem dX10_span_108 : decode cX10_span 108 = .ok (.iload 12, 2) := by decide +kernel
theorem dX10_span_110 : decode cX10_span 110 = .ok (.invokestatic 295, 3) := by decide +kernel
theorem dX10_span_113 : decode cX10_span 113 = .ok (.istore 8, 2) := by decide +kernel
theorem dX10_span_115 : decode cX10_span 115 = .ok (.iload 9, 2) := by decide +kernel
theorem dX10_span_117 : decode cX10_span 117 = .ok (.iload 12, 2) := by decide +kernel
theorem dX10_span_119 : decode cX10_span 119 = .ok (.invokestatic 321, 3) := by decide +kernel
theorem dX10_span_122 : decode cX10_span 122 = .ok (.istore 9, 2) := by decide +kernel
theorem dX10_span_124 : decode cX10_span 124 = .ok (.iload 10, 2) := by decide +kernel
theorem dX10_span_126 : decode cX10_span 126 = .ok (.aload_n 0, 1) := by decide +kernel
theorem dX10_span_127 : decode cX10_span 127 = .ok (.getfield 62, 3) := by decide +kernel
theorem dX10_span_130 : decode cX10_span 130 = .ok (.iload 7, 2) := by decide +kernel
theorem dX10_span_132 : decode cX10_span 132 = .ok (.invokevirtual 269, 3) := by decide +kernel
theorem dX10_span_135 : decode cX10_span 135 = .ok (.ifCond .eq 7, 3) := by decide +kernel
theorem dX10_span_138 : decode cX10_span 138 = .ok (.iconst 1, 1) := by decide +kernel
theorem dX10_span_139 : decode cX10_span 139 = .ok (.goto 4, 3) := by decide +kernel
theorem dX10_span_142 : decode cX10_span 142 = .ok (.iconst 0, 1) := by decide +kernel
theorem dX10_span_143 : decode cX10_span 143 = .ok (.iadd, 1) := by decide +kernel
theorem dX10_span_144 : decode cX10_span 144 = .ok (.istore 10, 2) := by decide +kernel
theorem dX10_span_146 : decode cX10_span 146 = .ok (.iinc 11 1, 3) := by decide +kernel
theorem dX10_span_149 : decode cX10_span 149 = .ok (.goto (-96), 3) := by decide +kernel
theorem dX10_span_152 : decode cX10_span 152 = .ok (.iload 6, 2) := by decide +kernel
theorem dX10_span_154 : decode cX10_span 154 = .ok (.lookupswitch 32 #[(0, 26), (1, 29)], 26) := by decide +kernel
theorem dX10_span_180 : decode cX10_span 180 = .ok (.iload 8, 2) := by decide +kernel
theorem dX10_span_182 : decode cX10_span 182 = .ok (.ireturn, 1) := by decide +kernel
theorem dX10_span_183 : decode cX10_span 183 = .ok (.iload 9, 2) := by decide +kernel
theorem dX10_span_185 : decode cX10_span 185 = .ok (.ireturn, 1) := by decide +kernel
theorem dX10_span_186 : decode cX10_span 186 = .ok (.iload 10, 2) := by decide +kernel
theorem dX10_span_188 : decode cX10_span 188 = .ok (.ireturn, 1) := by decide +kernel
theorem dX10_left_0 : decode cX10_left 0 = .ok (.aload_n 0, 1) := by decide +kernel
theorem dX10_left_1 : decode cX10_left 1 = .ok (.getfield 58, 3) := by decide +kernel
theorem dX10_left_4 : decode cX10_left 4 = .ok (.aload_n 0, 1) := by decide +kernel
theorem dX10_left_5 : decode cX10_left 5 = .ok (.getfield 58, 3) := by decide +kernel
theorem dX10_left_8 : decode cX10_left 8 = .ok (.invokevirtual 324, 3) := by decide +kernel
theorem dX10_left_11 : decode cX10_left 11 = .ok (.invokevirtual 327, 3) := by decide +kernel
theorem dX10_left_14 : decode cX10_left 14 = .ok (.ireturn, 1) := by decide +kernel
theorem dX10_stay_0 : decode cX10_stay 0 = .ok (.aload_n 0, 1) := by decide +kernel
theorem dX10_stay_1 : decode cX10_stay 1 = .ok (.iload_n 1, 1) := by decide +kernel
theorem dX10_stay_2 : decode cX10_stay 2 = .ok (.iconst 0, 1) := by decide +kernel
theorem dX10_stay_3 : decode cX10_stay 3 = .ok (.aload_n 0, 1) := by decide +kernel
theorem dX10_stay_4 : decode cX10_stay 4 = .ok (.getfield 19, 3) := by decide +kernel
theorem dX10_stay_7 : decode cX10_stay 7 = .ok (.getfield 195, 3) := by decide +kernel
theorem dX10_stay_10 : decode cX10_stay 10 = .ok (.invokestatic 330, 3) := by decide +kernel
theorem dX10_stay_13 : decode cX10_stay 13 = .ok (.invokevirtual 191, 3) := by decide +kernel
theorem dX10_stay_16 : decode cX10_stay 16 = .ok (.iconst (-1), 1) := by decide +kernel
theorem dX10_stay_17 : decode cX10_stay 17 = .ok (.istore_n 2, 1) := by decide +kernel
theorem dX10_stay_18 : decode cX10_stay 18 = .ok (.bipush 7, 2) := by decide +kernel
theorem dX10_stay_20 : decode cX10_stay 20 = .ok (.istore_n 3, 1) := by decide +kernel
theorem dX10_stay_21 : decode cX10_stay 21 = .ok (.aload_n 0, 1) := by decide +kernel
theorem dX10_stay_22 : decode cX10_stay 22 = .ok (.getfield 19, 3) := by decide +kernel
theorem dX10_stay_25 : decode cX10_stay 25 = .ok (.getfield 155, 3) := by decide +kernel
theorem dX10_stay_28 : decode cX10_stay 28 = .ok (.invokestatic 330, 3) := by decide +kernel
theorem dX10_stay_31 : decode cX10_stay 31 = .ok (.istore 4, 2) := by decide +kernel
theorem dX10_stay_33 : decode cX10_stay 33 = .ok (.iconst 0, 1) := by decide +kernel
theorem dX10_stay_34 : decode cX10_stay 34 = .ok (.istore 5, 2) := by decide +kernel
theorem dX10_stay_36 : decode cX10_stay 36 = .ok (.iload 5, 2) := by decide +kernel
theorem dX10_stay_38 : decode cX10_stay 38 = .ok (.iload 4, 2) := by decide +kernel
theorem dX10_stay_40 : decode cX10_stay 40 = .ok (.if_icmp .gt 44, 3) := by decide +kernel
theorem dX10_stay_43 : decode cX10_stay 43 = .ok (.iload 5, 2) := by decide +kernel
theorem dX10_stay_45 : decode cX10_stay 45 = .ok (.invokestatic 333, 3) := by decide +kernel
theorem dX10_stay_48 : decode cX10_stay 48 = .ok (.istore 6, 2) := by decide +kernel
theorem dX10_stay_50 : decode cX10_stay 50 = .ok (.iload 6, 2) := by decide +kernel
theorem dX10_stay_52 : decode cX10_stay 52 = .ok (.iload_n 3, 1) := by decide +kernel
theorem dX10_stay_53 : decode cX10_stay 53 = .ok (.if_icmp .ge 25, 3) := by decide +kernel
theorem dX10_stay_56 : decode cX10_stay 56 = .ok (.iload_n 1, 1) := by decide +kernel
theorem dX10_stay_57 : decode cX10_stay 57 = .ok (.aload_n 0, 1) := by decide +kernel
theorem dX10_stay_58 : decode cX10_stay 58 = .ok (.getfield 19, 3) := by decide +kernel
theorem dX10_stay_61 : decode cX10_stay 61 = .ok (.iload 5, 2) := by decide +kernel
theorem dX10_stay_63 : decode cX10_stay 63 = .ok (.invokevirtual 338, 3) := by decide +kernel
theorem dX10_stay_66 : decode cX10_stay 66 = .ok (.iconst (-1), 1) := by decide +kernel
theorem dX10_stay_67 : decode cX10_stay 67 = .ok (.ixor, 1) := by decide +kernel
theorem dX10_stay_68 : decode cX10_stay 68 = .ok (.iand, 1) := by decide +kernel
theorem dX10_stay_69 : decode cX10_stay 69 = .ok (.ifCond .ne 9, 3) := by decide +kernel
theorem dX10_stay_72 : decode cX10_stay 72 = .ok (.iload 5, 2) := by decide +kernel
theorem dX10_stay_74 : decode cX10_stay 74 = .ok (.istore_n 2, 1) := by decide +kernel
theorem dX10_stay_75 : decode cX10_stay 75 = .ok (.iload 6, 2) := by decide +kernel
theorem dX10_stay_77 : decode cX10_stay 77 = .ok (.istore_n 3, 1) := by decide +kernel
theorem dX10_stay_78 : decode cX10_stay 78 = .ok (.iinc 5 1, 3) := by decide +kernel
theorem dX10_stay_81 : decode cX10_stay 81 = .ok (.goto (-45), 3) := by decide +kernel
theorem dX10_stay_84 : decode cX10_stay 84 = .ok (.iload_n 2, 1) := by decide +kernel
theorem dX10_stay_85 : decode cX10_stay 85 = .ok (.ireturn, 1) := by decide +kernel
theorem dX10_given_0 : decode cX10_given 0 = .ok (.aload_n 0, 1) := by decide +kernel
theorem dX10_given_1 : decode cX10_given 1 = .ok (.getfield 70, 3) := by decide +kernel
theorem dX10_given_4 : decode cX10_given 4 = .ok (.aload_n 0, 1) := by decide +kernel
theorem dX10_given_5 : decode cX10_given 5 = .ok (.getfield 58, 3) := by decide +kernel
theorem dX10_given_8 : decode cX10_given 8 = .ok (.invokevirtual 324, 3) := by decide +kernel
theorem dX10_given_11 : decode cX10_given 11 = .ok (.invokevirtual 341, 3) := by decide +kernel
theorem dX10_given_14 : decode cX10_given 14 = .ok (.ireturn, 1) := by decide +kernel
theorem dX10_giver_0 : decode cX10_giver 0 = .ok (.aload_n 0, 1) := by decide +kernel
theorem dX10_giver_1 : decode cX10_giver 1 = .ok (.iload_n 1, 1) := by decide +kernel
theorem dX10_giver_2 : decode cX10_giver 2 = .ok (.invokevirtual 247, 3) := by decide +kernel
theorem dX10_giver_5 : decode cX10_giver 5 = .ok (.aload_n 0, 1) := by decide +kernel
theorem dX10_giver_6 : decode cX10_giver 6 = .ok (.getfield 70, 3) := by decide +kernel
theorem dX10_giver_9 : decode cX10_giver 9 = .ok (.aload_n 0, 1) := by decide +kernel
theorem dX10_giver_10 : decode cX10_giver 10 = .ok (.getfield 58, 3) := by decide +kernel
theorem dX10_giver_13 : decode cX10_giver 13 = .ok (.invokevirtual 324, 3) := by decide +kernel
theorem dX10_giver_16 : decode cX10_giver 16 = .ok (.invokevirtual 341, 3) := by decide +kernel
theorem dX10_giver_19 : decode cX10_giver 19 = .ok (.pop, 1) := by decide +kernel
theorem dX10_giver_20 : decode cX10_giver 20 = .ok (.aload_n 0, 1) := by decide +kernel
theorem dX10_giver_21 : decode cX10_giver 21 = .ok (.getfield 70, 3) := by decide +kernel
theorem dX10_giver_24 : decode cX10_giver 24 = .ok (.getfield 344, 3) := by decide +kernel
theorem dX10_giver_27 : decode cX10_giver 27 = .ok (.iload_n 1, 1) := by decide +kernel
theorem dX10_giver_28 : decode cX10_giver 28 = .ok (.iaload, 1) := by decide +kernel
theorem dX10_giver_29 : decode cX10_giver 29 = .ok (.ireturn, 1) := by decide +kernel
theorem dX10_lone_0 : decode cX10_lone 0 = .ok (.iconst 0, 1) := by decide +kernel
theorem dX10_lone_1 : decode cX10_lone 1 = .ok (.istore_n 1, 1) := by decide +kernel
theorem dX10_lone_2 : decode cX10_lone 2 = .ok (.iconst 0, 1) := by decide +kernel
theorem dX10_lone_3 : decode cX10_lone 3 = .ok (.istore_n 2, 1) := by decide +kernel
theorem dX10_lone_4 : decode cX10_lone 4 = .ok (.iload_n 2, 1) := by decide +kernel
theorem dX10_lone_5 : decode cX10_lone 5 = .ok (.aload_n 0, 1) := by decide +kernel
theorem dX10_lone_6 : decode cX10_lone 6 = .ok (.getfield 19, 3) := by decide +kernel
theorem dX10_lone_9 : decode cX10_lone 9 = .ok (.getfield 195, 3) := by decide +kernel
theorem dX10_lone_12 : decode cX10_lone 12 = .ok (.if_icmp .ge 30, 3) := by decide +kernel
theorem dX10_lone_15 : decode cX10_lone 15 = .ok (.aload_n 0, 1) := by decide +kernel
theorem dX10_lone_16 : decode cX10_lone 16 = .ok (.getfield 19, 3) := by decide +kernel
theorem dX10_lone_19 : decode cX10_lone 19 = .ok (.iload_n 2, 1) := by decide +kernel
theorem dX10_lone_20 : decode cX10_lone 20 = .ok (.invokevirtual 253, 3) := by decide +kernel
theorem dX10_lone_23 : decode cX10_lone 23 = .ok (.invokestatic 333, 3) := by decide +kernel
theorem dX10_lone_26 : decode cX10_lone 26 = .ok (.iconst 1, 1) := by decide +kernel
theorem dX10_lone_27 : decode cX10_lone 27 = .ok (.if_icmp .ne 9, 3) := by decide +kernel
theorem dX10_lone_30 : decode cX10_lone 30 = .ok (.iload_n 1, 1) := by decide +kernel
theorem dX10_lone_31 : decode cX10_lone 31 = .ok (.iconst 1, 1) := by decide +kernel
theorem dX10_lone_32 : decode cX10_lone 32 = .ok (.iload_n 2, 1) := by decide +kernel
theorem dX10_lone_33 : decode cX10_lone 33 = .ok (.ishl, 1) := by decide +kernel
theorem dX10_lone_34 : decode cX10_lone 34 = .ok (.ior, 1) := by decide +kernel
theorem dX10_lone_35 : decode cX10_lone 35 = .ok (.istore_n 1, 1) := by decide +kernel
theorem dX10_lone_36 : decode cX10_lone 36 = .ok (.iinc 2 1, 3) := by decide +kernel
theorem dX10_lone_39 : decode cX10_lone 39 = .ok (.goto (-35), 3) := by decide +kernel
theorem dX10_lone_42 : decode cX10_lone 42 = .ok (.iload_n 1, 1) := by decide +kernel
theorem dX10_lone_43 : decode cX10_lone 43 = .ok (.ireturn, 1) := by decide +kernel
theorem dX10_next_0 : decode cX10_next 0 = .ok (.aload_n 0, 1) := by decide +kernel
theorem dX10_next_1 : decode cX10_next 1 = .ok (.iload_n 1, 1) := by decide +kernel
theorem dX10_next_2 : decode cX10_next 2 = .ok (.invokevirtual 222, 3) := by decide +kernel
theorem dX10_next_5 : decode cX10_next 5 = .ok (.aload_n 0, 1) := by decide +kernel
theorem dX10_next_6 : decode cX10_next 6 = .ok (.iload_n 2, 1) := by decide +kernel
theorem dX10_next_7 : decode cX10_next 7 = .ok (.iconst 0, 1) := by decide +kernel
theorem dX10_next_8 : decode cX10_next 8 = .ok (.iconst 1, 1) := by decide +kernel
theorem dX10_next_9 : decode cX10_next 9 = .ok (.invokevirtual 191, 3) := by decide +kernel
theorem dX10_next_12 : decode cX10_next 12 = .ok (.iconst (-1), 1) := by decide +kernel
theorem dX10_next_13 : decode cX10_next 13 = .ok (.istore_n 3, 1) := by decide +kernel
theorem dX10_next_14 : decode cX10_next 14 = .ok (.iconst 0, 1) := by decide +kernel
theorem dX10_next_15 : decode cX10_next 15 = .ok (.istore 4, 2) := by decide +kernel
theorem dX10_next_17 : decode cX10_next 17 = .ok (.iload 4, 2) := by decide +kernel
theorem dX10_next_19 : decode cX10_next 19 = .ok (.aload_n 0, 1) := by decide +kernel
theorem dX10_next_20 : decode cX10_next 20 = .ok (.getfield 19, 3) := by decide +kernel
theorem dX10_next_23 : decode cX10_next 23 = .ok (.getfield 198, 3) := by decide +kernel
theorem dX10_next_26 : decode cX10_next 26 = .ok (.if_icmp .ge 65, 3) := by decide +kernel
theorem dX10_next_29 : decode cX10_next 29 = .ok (.aload_n 0, 1) := by decide +kernel
theorem dX10_next_30 : decode cX10_next 30 = .ok (.getfield 19, 3) := by decide +kernel
theorem dX10_next_33 : decode cX10_next 33 = .ok (.getfield 260, 3) := by decide +kernel
theorem dX10_next_36 : decode cX10_next 36 = .ok (.iload 4, 2) := by decide +kernel
theorem dX10_next_38 : decode cX10_next 38 = .ok (.iaload, 1) := by decide +kernel
theorem dX10_next_39 : decode cX10_next 39 = .ok (.iload_n 1, 1) := by decide +kernel
theorem dX10_next_40 : decode cX10_next 40 = .ok (.if_icmp .ne 45, 3) := by decide +kernel
theorem dX10_next_43 : decode cX10_next 43 = .ok (.aload_n 0, 1) := by decide +kernel
theorem dX10_next_44 : decode cX10_next 44 = .ok (.getfield 58, 3) := by decide +kernel
theorem dX10_next_47 : decode cX10_next 47 = .ok (.iload 4, 2) := by decide +kernel
theorem dX10_next_49 : decode cX10_next 49 = .ok (.invokevirtual 347, 3) := by decide +kernel
theorem dX10_next_52 : decode cX10_next 52 = .ok (.ifCond .eq 33, 3) := by decide +kernel
theorem dX10_next_55 : decode cX10_next 55 = .ok (.iload_n 3, 1) := by decide +kernel
theorem dX10_next_56 : decode cX10_next 56 = .ok (.iconst (-1), 1) := by decide +kernel
theorem dX10_next_57 : decode cX10_next 57 = .ok (.if_icmp .eq 25, 3) := by decide +kernel
theorem dX10_next_60 : decode cX10_next 60 = .ok (.aload_n 0, 1) := by decide +kernel
theorem dX10_next_61 : decode cX10_next 61 = .ok (.getfield 58, 3) := by decide +kernel
theorem dX10_next_64 : decode cX10_next 64 = .ok (.getfield 263, 3) := by decide +kernel
theorem dX10_next_67 : decode cX10_next 67 = .ok (.iload 4, 2) := by decide +kernel
theorem dX10_next_69 : decode cX10_next 69 = .ok (.iaload, 1) := by decide +kernel
theorem dX10_next_70 : decode cX10_next 70 = .ok (.aload_n 0, 1) := by decide +kernel
theorem dX10_next_71 : decode cX10_next 71 = .ok (.getfield 58, 3) := by decide +kernel
theorem dX10_next_74 : decode cX10_next 74 = .ok (.getfield 263, 3) := by decide +kernel
theorem dX10_next_77 : decode cX10_next 77 = .ok (.iload_n 3, 1) := by decide +kernel
theorem dX10_next_78 : decode cX10_next 78 = .ok (.iaload, 1) := by decide +kernel
theorem dX10_next_79 : decode cX10_next 79 = .ok (.if_icmp .ge 6, 3) := by decide +kernel
theorem dX10_next_82 : decode cX10_next 82 = .ok (.iload 4, 2) := by decide +kernel
theorem dX10_next_84 : decode cX10_next 84 = .ok (.istore_n 3, 1) := by decide +kernel
theorem dX10_next_85 : decode cX10_next 85 = .ok (.iinc 4 1, 3) := by decide +kernel
theorem dX10_next_88 : decode cX10_next 88 = .ok (.goto (-71), 3) := by decide +kernel
theorem dX10_next_91 : decode cX10_next 91 = .ok (.iload_n 3, 1) := by decide +kernel
theorem dX10_next_92 : decode cX10_next 92 = .ok (.iconst (-1), 1) := by decide +kernel
theorem dX10_next_93 : decode cX10_next 93 = .ok (.if_icmp .ne 5, 3) := by decide +kernel
theorem dX10_next_96 : decode cX10_next 96 = .ok (.iconst (-1), 1) := by decide +kernel
theorem dX10_next_97 : decode cX10_next 97 = .ok (.ireturn, 1) := by decide +kernel
theorem dX10_next_98 : decode cX10_next 98 = .ok (.iload_n 2, 1) := by decide +kernel
theorem dX10_next_99 : decode cX10_next 99 = .ok (.ifCond .ne 7, 3) := by decide +kernel
theorem dX10_next_102 : decode cX10_next 102 = .ok (.iload_n 3, 1) := by decide +kernel
theorem dX10_next_103 : decode cX10_next 103 = .ok (.goto 20, 3) := by decide +kernel
theorem dX10_next_106 : decode cX10_next 106 = .ok (.aload_n 0, 1) := by decide +kernel
theorem dX10_next_107 : decode cX10_next 107 = .ok (.getfield 58, 3) := by decide +kernel
theorem dX10_next_110 : decode cX10_next 110 = .ok (.getfield 263, 3) := by decide +kernel
theorem dX10_next_113 : decode cX10_next 113 = .ok (.iload_n 3, 1) := by decide +kernel
theorem dX10_next_114 : decode cX10_next 114 = .ok (.iaload, 1) := by decide +kernel
theorem dX10_next_115 : decode cX10_next 115 = .ok (.aload_n 0, 1) := by decide +kernel
theorem dX10_next_116 : decode cX10_next 116 = .ok (.getfield 58, 3) := by decide +kernel
theorem dX10_next_119 : decode cX10_next 119 = .ok (.getfield 201, 3) := by decide +kernel
theorem dX10_next_122 : decode cX10_next 122 = .ok (.isub, 1) := by decide +kernel
theorem dX10_next_123 : decode cX10_next 123 = .ok (.ireturn, 1) := by decide +kernel
theorem dX10_missed_0 : decode cX10_missed 0 = .ok (.iconst 0, 1) := by decide +kernel
theorem dX10_missed_1 : decode cX10_missed 1 = .ok (.istore_n 1, 1) := by decide +kernel
theorem dX10_missed_2 : decode cX10_missed 2 = .ok (.iconst 0, 1) := by decide +kernel
theorem dX10_missed_3 : decode cX10_missed 3 = .ok (.istore_n 2, 1) := by decide +kernel
theorem dX10_missed_4 : decode cX10_missed 4 = .ok (.iload_n 2, 1) := by decide +kernel
theorem dX10_missed_5 : decode cX10_missed 5 = .ok (.aload_n 0, 1) := by decide +kernel
theorem dX10_missed_6 : decode cX10_missed 6 = .ok (.getfield 19, 3) := by decide +kernel
theorem dX10_missed_9 : decode cX10_missed 9 = .ok (.getfield 198, 3) := by decide +kernel
theorem dX10_missed_12 : decode cX10_missed 12 = .ok (.if_icmp .ge 45, 3) := by decide +kernel
theorem dX10_missed_15 : decode cX10_missed 15 = .ok (.aload_n 0, 1) := by decide +kernel
theorem dX10_missed_16 : decode cX10_missed 16 = .ok (.getfield 58, 3) := by decide +kernel
theorem dX10_missed_19 : decode cX10_missed 19 = .ok (.iload_n 2, 1) := by decide +kernel
theorem dX10_missed_20 : decode cX10_missed 20 = .ok (.invokevirtual 269, 3) := by decide +kernel
theorem dX10_missed_23 : decode cX10_missed 23 = .ok (.ifCond .ne 28, 3) := by decide +kernel
theorem dX10_missed_26 : decode cX10_missed 26 = .ok (.aload_n 0, 1) := by decide +kernel
theorem dX10_missed_27 : decode cX10_missed 27 = .ok (.getfield 58, 3) := by decide +kernel
theorem dX10_missed_30 : decode cX10_missed 30 = .ok (.getfield 263, 3) := by decide +kernel
theorem dX10_missed_33 : decode cX10_missed 33 = .ok (.iload_n 2, 1) := by decide +kernel
theorem dX10_missed_34 : decode cX10_missed 34 = .ok (.iaload, 1) := by decide +kernel
theorem dX10_missed_35 : decode cX10_missed 35 = .ok (.aload_n 0, 1) := by decide +kernel
theorem dX10_missed_36 : decode cX10_missed 36 = .ok (.getfield 58, 3) := by decide +kernel
theorem dX10_missed_39 : decode cX10_missed 39 = .ok (.getfield 201, 3) := by decide +kernel
theorem dX10_missed_42 : decode cX10_missed 42 = .ok (.if_icmp .ge 9, 3) := by decide +kernel
theorem dX10_missed_45 : decode cX10_missed 45 = .ok (.iload_n 1, 1) := by decide +kernel
theorem dX10_missed_46 : decode cX10_missed 46 = .ok (.iconst 1, 1) := by decide +kernel
theorem dX10_missed_47 : decode cX10_missed 47 = .ok (.iload_n 2, 1) := by decide +kernel
theorem dX10_missed_48 : decode cX10_missed 48 = .ok (.ishl, 1) := by decide +kernel
theorem dX10_missed_49 : decode cX10_missed 49 = .ok (.ior, 1) := by decide +kernel
theorem dX10_missed_50 : decode cX10_missed 50 = .ok (.istore_n 1, 1) := by decide +kernel
theorem dX10_missed_51 : decode cX10_missed 51 = .ok (.iinc 2 1, 3) := by decide +kernel
theorem dX10_missed_54 : decode cX10_missed 54 = .ok (.goto (-50), 3) := by decide +kernel
theorem dX10_missed_57 : decode cX10_missed 57 = .ok (.iload_n 1, 1) := by decide +kernel
theorem dX10_missed_58 : decode cX10_missed 58 = .ok (.ireturn, 1) := by decide +kernel
theorem dX10_due_0 : decode cX10_due 0 = .ok (.aload_n 0, 1) := by decide +kernel
theorem dX10_due_1 : decode cX10_due 1 = .ok (.getfield 62, 3) := by decide +kernel
theorem dX10_due_4 : decode cX10_due 4 = .ok (.aload_n 0, 1) := by decide +kernel
theorem dX10_due_5 : decode cX10_due 5 = .ok (.getfield 58, 3) := by decide +kernel
theorem dX10_due_8 : decode cX10_due 8 = .ok (.invokevirtual 287, 3) := by decide +kernel
theorem dX10_due_11 : decode cX10_due 11 = .ok (.iconst 0, 1) := by decide +kernel
theorem dX10_due_12 : decode cX10_due 12 = .ok (.istore_n 1, 1) := by decide +kernel
theorem dX10_due_13 : decode cX10_due 13 = .ok (.iconst 0, 1) := by decide +kernel
theorem dX10_due_14 : decode cX10_due 14 = .ok (.istore_n 2, 1) := by decide +kernel
theorem dX10_due_15 : decode cX10_due 15 = .ok (.iload_n 2, 1) := by decide +kernel
theorem dX10_due_16 : decode cX10_due 16 = .ok (.aload_n 0, 1) := by decide +kernel
theorem dX10_due_17 : decode cX10_due 17 = .ok (.getfield 19, 3) := by decide +kernel
theorem dX10_due_20 : decode cX10_due 20 = .ok (.getfield 198, 3) := by decide +kernel
theorem dX10_due_23 : decode cX10_due 23 = .ok (.if_icmp .ge 50, 3) := by decide +kernel
theorem dX10_due_26 : decode cX10_due 26 = .ok (.aload_n 0, 1) := by decide +kernel
theorem dX10_due_27 : decode cX10_due 27 = .ok (.getfield 62, 3) := by decide +kernel
theorem dX10_due_30 : decode cX10_due 30 = .ok (.iload_n 2, 1) := by decide +kernel
theorem dX10_due_31 : decode cX10_due 31 = .ok (.invokevirtual 350, 3) := by decide +kernel
theorem dX10_due_34 : decode cX10_due 34 = .ok (.ifCond .eq 33, 3) := by decide +kernel
theorem dX10_due_37 : decode cX10_due 37 = .ok (.aload_n 0, 1) := by decide +kernel
theorem dX10_due_38 : decode cX10_due 38 = .ok (.getfield 62, 3) := by decide +kernel
theorem dX10_due_41 : decode cX10_due 41 = .ok (.aload_n 0, 1) := by decide +kernel
theorem dX10_due_42 : decode cX10_due 42 = .ok (.getfield 19, 3) := by decide +kernel
theorem dX10_due_45 : decode cX10_due 45 = .ok (.getfield 260, 3) := by decide +kernel
theorem dX10_due_48 : decode cX10_due 48 = .ok (.iload_n 2, 1) := by decide +kernel
theorem dX10_due_49 : decode cX10_due 49 = .ok (.iaload, 1) := by decide +kernel
theorem dX10_due_50 : decode cX10_due 50 = .ok (.invokevirtual 284, 3) := by decide +kernel
theorem dX10_due_53 : decode cX10_due 53 = .ok (.ifCond .eq 14, 3) := by decide +kernel
theorem dX10_due_56 : decode cX10_due 56 = .ok (.iload_n 1, 1) := by decide +kernel
theorem dX10_due_57 : decode cX10_due 57 = .ok (.aload_n 0, 1) := by decide +kernel
theorem dX10_due_58 : decode cX10_due 58 = .ok (.getfield 62, 3) := by decide +kernel
theorem dX10_due_61 : decode cX10_due 61 = .ok (.iload_n 2, 1) := by decide +kernel
theorem dX10_due_62 : decode cX10_due 62 = .ok (.invokevirtual 353, 3) := by decide +kernel
theorem dX10_due_65 : decode cX10_due 65 = .ok (.iadd, 1) := by decide +kernel
theorem dX10_due_66 : decode cX10_due 66 = .ok (.istore_n 1, 1) := by decide +kernel
theorem dX10_due_67 : decode cX10_due 67 = .ok (.iinc 2 1, 3) := by decide +kernel
theorem dX10_due_70 : decode cX10_due 70 = .ok (.goto (-55), 3) := by decide +kernel
theorem dX10_due_73 : decode cX10_due 73 = .ok (.iload_n 1, 1) := by decide +kernel
theorem dX10_due_74 : decode cX10_due 74 = .ok (.ireturn, 1) := by decide +kernel
theorem dX10_debt_0 : decode cX10_debt 0 = .ok (.aload_n 0, 1) := by decide +kernel
theorem dX10_debt_1 : decode cX10_debt 1 = .ok (.iload_n 1, 1) := by decide +kernel
theorem dX10_debt_2 : decode cX10_debt 2 = .ok (.invokevirtual 222, 3) := by decide +kernel
theorem dX10_debt_5 : decode cX10_debt 5 = .ok (.iconst 0, 1) := by decide +kernel
theorem dX10_debt_6 : decode cX10_debt 6 = .ok (.istore_n 2, 1) := by decide +kernel
theorem dX10_debt_7 : decode cX10_debt 7 = .ok (.iconst 0, 1) := by decide +kernel
theorem dX10_debt_8 : decode cX10_debt 8 = .ok (.istore_n 3, 1) := by decide +kernel
theorem dX10_debt_9 : decode cX10_debt 9 = .ok (.iload_n 3, 1) := by decide +kernel
theorem dX10_debt_10 : decode cX10_debt 10 = .ok (.aload_n 0, 1) := by decide +kernel
theorem dX10_debt_11 : decode cX10_debt 11 = .ok (.getfield 19, 3) := by decide +kernel
theorem dX10_debt_14 : decode cX10_debt 14 = .ok (.getfield 198, 3) := by decide +kernel
theorem dX10_debt_17 : decode cX10_debt 17 = .ok (.if_icmp .ge 45, 3) := by decide +kernel
theorem dX10_debt_20 : decode cX10_debt 20 = .ok (.aload_n 0, 1) := by decide +kernel
theorem dX10_debt_21 : decode cX10_debt 21 = .ok (.getfield 19, 3) := by decide +kernel
theorem dX10_debt_24 : decode cX10_debt 24 = .ok (.getfield 260, 3) := by decide +kernel
theorem dX10_debt_27 : decode cX10_debt 27 = .ok (.iload_n 3, 1) := by decide +kernel
theorem dX10_debt_28 : decode cX10_debt 28 = .ok (.iaload, 1) := by decide +kernel
theorem dX10_debt_29 : decode cX10_debt 29 = .ok (.iload_n 1, 1) := by decide +kernel
theorem dX10_debt_30 : decode cX10_debt 30 = .ok (.if_icmp .ne 26, 3) := by decide +kernel
theorem dX10_debt_33 : decode cX10_debt 33 = .ok (.aload_n 0, 1) := by decide +kernel
theorem dX10_debt_34 : decode cX10_debt 34 = .ok (.getfield 58, 3) := by decide +kernel
theorem dX10_debt_37 : decode cX10_debt 37 = .ok (.iload_n 3, 1) := by decide +kernel
theorem dX10_debt_38 : decode cX10_debt 38 = .ok (.invokevirtual 347, 3) := by decide +kernel
theorem dX10_debt_41 : decode cX10_debt 41 = .ok (.ifCond .eq 15, 3) := by decide +kernel
theorem dX10_debt_44 : decode cX10_debt 44 = .ok (.iload_n 2, 1) := by decide +kernel
theorem dX10_debt_45 : decode cX10_debt 45 = .ok (.aload_n 0, 1) := by decide +kernel
theorem dX10_debt_46 : decode cX10_debt 46 = .ok (.getfield 19, 3) := by decide +kernel
theorem dX10_debt_49 : decode cX10_debt 49 = .ok (.getfield 266, 3) := by decide +kernel
theorem dX10_debt_52 : decode cX10_debt 52 = .ok (.iload_n 3, 1) := by decide +kernel
theorem dX10_debt_53 : decode cX10_debt 53 = .ok (.iaload, 1) := by decide +kernel
theorem dX10_debt_54 : decode cX10_debt 54 = .ok (.iadd, 1) := by decide +kernel
theorem dX10_debt_55 : decode cX10_debt 55 = .ok (.istore_n 2, 1) := by decide +kernel
theorem dX10_debt_56 : decode cX10_debt 56 = .ok (.iinc 3 1, 3) := by decide +kernel
theorem dX10_debt_59 : decode cX10_debt 59 = .ok (.goto (-50), 3) := by decide +kernel
theorem dX10_debt_62 : decode cX10_debt 62 = .ok (.iload_n 2, 1) := by decide +kernel
theorem dX10_debt_63 : decode cX10_debt 63 = .ok (.ireturn, 1) := by decide +kernel
theorem dX10_crowd_0 : decode cX10_crowd 0 = .ok (.aload_n 0, 1) := by decide +kernel
theorem dX10_crowd_1 : decode cX10_crowd 1 = .ok (.iload_n 1, 1) := by decide +kernel
theorem dX10_crowd_2 : decode cX10_crowd 2 = .ok (.iconst 0, 1) := by decide +kernel
theorem dX10_crowd_3 : decode cX10_crowd 3 = .ok (.iconst 1, 1) := by decide +kernel
theorem dX10_crowd_4 : decode cX10_crowd 4 = .ok (.invokevirtual 191, 3) := by decide +kernel
theorem dX10_crowd_7 : decode cX10_crowd 7 = .ok (.iconst (-1), 1) := by decide +kernel
theorem dX10_crowd_8 : decode cX10_crowd 8 = .ok (.istore_n 2, 1) := by decide +kernel
theorem dX10_crowd_9 : decode cX10_crowd 9 = .ok (.iconst 0, 1) := by decide +kernel
theorem dX10_crowd_10 : decode cX10_crowd 10 = .ok (.istore_n 3, 1) := by decide +kernel
theorem dX10_crowd_11 : decode cX10_crowd 11 = .ok (.iconst 0, 1) := by decide +kernel
theorem dX10_crowd_12 : decode cX10_crowd 12 = .ok (.istore 4, 2) := by decide +kernel
theorem dX10_crowd_14 : decode cX10_crowd 14 = .ok (.iload 4, 2) := by decide +kernel
theorem dX10_crowd_16 : decode cX10_crowd 16 = .ok (.bipush 60, 2) := by decide +kernel
theorem dX10_crowd_18 : decode cX10_crowd 18 = .ok (.if_icmp .gt 32, 3) := by decide +kernel
theorem dX10_crowd_21 : decode cX10_crowd 21 = .ok (.aload_n 0, 1) := by decide +kernel
theorem dX10_crowd_22 : decode cX10_crowd 22 = .ok (.getfield 58, 3) := by decide +kernel
theorem dX10_crowd_25 : decode cX10_crowd 25 = .ok (.iload 4, 2) := by decide +kernel
theorem dX10_crowd_27 : decode cX10_crowd 27 = .ok (.invokevirtual 356, 3) := by decide +kernel
theorem dX10_crowd_30 : decode cX10_crowd 30 = .ok (.istore 5, 2) := by decide +kernel
theorem dX10_crowd_32 : decode cX10_crowd 32 = .ok (.iload 5, 2) := by decide +kernel
theorem dX10_crowd_34 : decode cX10_crowd 34 = .ok (.iload_n 3, 1) := by decide +kernel
theorem dX10_crowd_35 : decode cX10_crowd 35 = .ok (.if_icmp .le 9, 3) := by decide +kernel
theorem dX10_crowd_38 : decode cX10_crowd 38 = .ok (.iload 4, 2) := by decide +kernel
theorem dX10_crowd_40 : decode cX10_crowd 40 = .ok (.istore_n 2, 1) := by decide +kernel
theorem dX10_crowd_41 : decode cX10_crowd 41 = .ok (.iload 5, 2) := by decide +kernel
theorem dX10_crowd_43 : decode cX10_crowd 43 = .ok (.istore_n 3, 1) := by decide +kernel
theorem dX10_crowd_44 : decode cX10_crowd 44 = .ok (.iinc 4 1, 3) := by decide +kernel
theorem dX10_crowd_47 : decode cX10_crowd 47 = .ok (.goto (-33), 3) := by decide +kernel
theorem dX10_crowd_50 : decode cX10_crowd 50 = .ok (.iload_n 2, 1) := by decide +kernel
theorem dX10_crowd_51 : decode cX10_crowd 51 = .ok (.iconst (-1), 1) := by decide +kernel
theorem dX10_crowd_52 : decode cX10_crowd 52 = .ok (.if_icmp .ne 5, 3) := by decide +kernel
theorem dX10_crowd_55 : decode cX10_crowd 55 = .ok (.iconst (-1), 1) := by decide +kernel
theorem dX10_crowd_56 : decode cX10_crowd 56 = .ok (.ireturn, 1) := by decide +kernel
theorem dX10_crowd_57 : decode cX10_crowd 57 = .ok (.iload_n 1, 1) := by decide +kernel
theorem dX10_crowd_58 : decode cX10_crowd 58 = .ok (.ifCond .ne 7, 3) := by decide +kernel
theorem dX10_crowd_61 : decode cX10_crowd 61 = .ok (.iload_n 2, 1) := by decide +kernel
theorem dX10_crowd_62 : decode cX10_crowd 62 = .ok (.goto 4, 3) := by decide +kernel
theorem dX10_crowd_65 : decode cX10_crowd 65 = .ok (.iload_n 3, 1) := by decide +kernel
theorem dX10_crowd_66 : decode cX10_crowd 66 = .ok (.ireturn, 1) := by decide +kernel
theorem dX10_clear_0 : decode cX10_clear 0 = .ok (.aload_n 0, 1) := by decide +kernel
theorem dX10_clear_1 : decode cX10_clear 1 = .ok (.iload_n 1, 1) := by decide +kernel
theorem dX10_clear_2 : decode cX10_clear 2 = .ok (.invokevirtual 222, 3) := by decide +kernel
theorem dX10_clear_5 : decode cX10_clear 5 = .ok (.aload_n 0, 1) := by decide +kernel
theorem dX10_clear_6 : decode cX10_clear 6 = .ok (.iload_n 2, 1) := by decide +kernel
theorem dX10_clear_7 : decode cX10_clear 7 = .ok (.iconst 0, 1) := by decide +kernel
theorem dX10_clear_8 : decode cX10_clear 8 = .ok (.bipush 20, 2) := by decide +kernel
theorem dX10_clear_10 : decode cX10_clear 10 = .ok (.invokevirtual 191, 3) := by decide +kernel
theorem dX10_clear_13 : decode cX10_clear 13 = .ok (.iload_n 2, 1) := by decide +kernel
theorem dX10_clear_14 : decode cX10_clear 14 = .ok (.invokestatic 330, 3) := by decide +kernel
theorem dX10_clear_17 : decode cX10_clear 17 = .ok (.aload_n 0, 1) := by decide +kernel
theorem dX10_clear_18 : decode cX10_clear 18 = .ok (.getfield 58, 3) := by decide +kernel
theorem dX10_clear_21 : decode cX10_clear 21 = .ok (.iload_n 1, 1) := by decide +kernel
theorem dX10_clear_22 : decode cX10_clear 22 = .ok (.iload_n 2, 1) := by decide +kernel
theorem dX10_clear_23 : decode cX10_clear 23 = .ok (.invokevirtual 359, 3) := by decide +kernel
theorem dX10_clear_26 : decode cX10_clear 26 = .ok (.iconst (-1), 1) := by decide +kernel
theorem dX10_clear_27 : decode cX10_clear 27 = .ok (.ixor, 1) := by decide +kernel
theorem dX10_clear_28 : decode cX10_clear 28 = .ok (.iand, 1) := by decide +kernel
theorem dX10_clear_29 : decode cX10_clear 29 = .ok (.ireturn, 1) := by decide +kernel
theorem dX10_apart_0 : decode cX10_apart 0 = .ok (.aload_n 0, 1) := by decide +kernel
theorem dX10_apart_1 : decode cX10_apart 1 = .ok (.iload_n 1, 1) := by decide +kernel
theorem dX10_apart_2 : decode cX10_apart 2 = .ok (.iload_n 2, 1) := by decide +kernel
theorem dX10_apart_3 : decode cX10_apart 3 = .ok (.iload_n 3, 1) := by decide +kernel
theorem dX10_apart_4 : decode cX10_apart 4 = .ok (.invokevirtual 362, 3) := by decide +kernel
theorem dX10_apart_7 : decode cX10_apart 7 = .ok (.aload_n 0, 1) := by decide +kernel
theorem dX10_apart_8 : decode cX10_apart 8 = .ok (.getfield 39, 3) := by decide +kernel
theorem dX10_apart_11 : decode cX10_apart 11 = .ok (.iload_n 1, 1) := by decide +kernel
theorem dX10_apart_12 : decode cX10_apart 12 = .ok (.iload_n 2, 1) := by decide +kernel
theorem dX10_apart_13 : decode cX10_apart 13 = .ok (.invokevirtual 365, 3) := by decide +kernel
theorem dX10_apart_16 : decode cX10_apart 16 = .ok (.ifCond .ne 5, 3) := by decide +kernel
theorem dX10_apart_19 : decode cX10_apart 19 = .ok (.iconst (-1), 1) := by decide +kernel
theorem dX10_apart_20 : decode cX10_apart 20 = .ok (.ireturn, 1) := by decide +kernel
theorem dX10_apart_21 : decode cX10_apart 21 = .ok (.aload_n 0, 1) := by decide +kernel
theorem dX10_apart_22 : decode cX10_apart 22 = .ok (.getfield 39, 3) := by decide +kernel
theorem dX10_apart_25 : decode cX10_apart 25 = .ok (.iload_n 1, 1) := by decide +kernel
theorem dX10_apart_26 : decode cX10_apart 26 = .ok (.iload_n 3, 1) := by decide +kernel
theorem dX10_apart_27 : decode cX10_apart 27 = .ok (.invokevirtual 369, 3) := by decide +kernel
theorem dX10_apart_30 : decode cX10_apart 30 = .ok (.istore 4, 2) := by decide +kernel
theorem dX10_apart_32 : decode cX10_apart 32 = .ok (.aload_n 0, 1) := by decide +kernel
theorem dX10_apart_33 : decode cX10_apart 33 = .ok (.getfield 39, 3) := by decide +kernel
theorem dX10_apart_36 : decode cX10_apart 36 = .ok (.iload_n 2, 1) := by decide +kernel
theorem dX10_apart_37 : decode cX10_apart 37 = .ok (.iload_n 3, 1) := by decide +kernel
theorem dX10_apart_38 : decode cX10_apart 38 = .ok (.invokevirtual 369, 3) := by decide +kernel
theorem dX10_apart_41 : decode cX10_apart 41 = .ok (.istore 5, 2) := by decide +kernel
theorem dX10_apart_43 : decode cX10_apart 43 = .ok (.iload 4, 2) := by decide +kernel
theorem dX10_apart_45 : decode cX10_apart 45 = .ok (.iconst (-1), 1) := by decide +kernel
theorem dX10_apart_46 : decode cX10_apart 46 = .ok (.if_icmp .eq 9, 3) := by decide +kernel
theorem dX10_apart_49 : decode cX10_apart 49 = .ok (.iload 5, 2) := by decide +kernel
theorem dX10_apart_51 : decode cX10_apart 51 = .ok (.iconst (-1), 1) := by decide +kernel
theorem dX10_apart_52 : decode cX10_apart 52 = .ok (.if_icmp .ne 5, 3) := by decide +kernel
theorem dX10_apart_55 : decode cX10_apart 55 = .ok (.iconst 0, 1) := by decide +kernel
theorem dX10_apart_56 : decode cX10_apart 56 = .ok (.ireturn, 1) := by decide +kernel
theorem dX10_apart_57 : decode cX10_apart 57 = .ok (.iload_n 3, 1) := by decide +kernel
theorem dX10_apart_58 : decode cX10_apart 58 = .ok (.iload 4, 2) := by decide +kernel
theorem dX10_apart_60 : decode cX10_apart 60 = .ok (.invokestatic 372, 3) := by decide +kernel
theorem dX10_apart_63 : decode cX10_apart 63 = .ok (.iload_n 3, 1) := by decide +kernel
theorem dX10_apart_64 : decode cX10_apart 64 = .ok (.iload 4, 2) := by decide +kernel
theorem dX10_apart_66 : decode cX10_apart 66 = .ok (.isub, 1) := by decide +kernel
theorem dX10_apart_67 : decode cX10_apart 67 = .ok (.iload 5, 2) := by decide +kernel
theorem dX10_apart_69 : decode cX10_apart 69 = .ok (.invokestatic 372, 3) := by decide +kernel
theorem dX10_apart_72 : decode cX10_apart 72 = .ok (.lmul, 1) := by decide +kernel
theorem dX10_apart_73 : decode cX10_apart 73 = .ok (.l2i, 1) := by decide +kernel
theorem dX10_apart_74 : decode cX10_apart 74 = .ok (.ireturn, 1) := by decide +kernel
theorem dX10_together_0 : decode cX10_together 0 = .ok (.aload_n 0, 1) := by decide +kernel
theorem dX10_together_1 : decode cX10_together 1 = .ok (.iload_n 1, 1) := by decide +kernel
theorem dX10_together_2 : decode cX10_together 2 = .ok (.iload_n 2, 1) := by decide +kernel
theorem dX10_together_3 : decode cX10_together 3 = .ok (.iload_n 3, 1) := by decide +kernel
theorem dX10_together_4 : decode cX10_together 4 = .ok (.invokevirtual 362, 3) := by decide +kernel
theorem dX10_together_7 : decode cX10_together 7 = .ok (.aload_n 0, 1) := by decide +kernel
theorem dX10_together_8 : decode cX10_together 8 = .ok (.getfield 39, 3) := by decide +kernel
theorem dX10_together_11 : decode cX10_together 11 = .ok (.iload_n 1, 1) := by decide +kernel
theorem dX10_together_12 : decode cX10_together 12 = .ok (.iload_n 2, 1) := by decide +kernel
theorem dX10_together_13 : decode cX10_together 13 = .ok (.invokevirtual 365, 3) := by decide +kernel
theorem dX10_together_16 : decode cX10_together 16 = .ok (.ifCond .ne 5, 3) := by decide +kernel
theorem dX10_together_19 : decode cX10_together 19 = .ok (.iconst (-1), 1) := by decide +kernel
theorem dX10_together_20 : decode cX10_together 20 = .ok (.ireturn, 1) := by decide +kernel
theorem dX10_together_21 : decode cX10_together 21 = .ok (.aload_n 0, 1) := by decide +kernel
theorem dX10_together_22 : decode cX10_together 22 = .ok (.getfield 39, 3) := by decide +kernel
theorem dX10_together_25 : decode cX10_together 25 = .ok (.iload_n 1, 1) := by decide +kernel
theorem dX10_together_26 : decode cX10_together 26 = .ok (.iload_n 3, 1) := by decide +kernel
theorem dX10_together_27 : decode cX10_together 27 = .ok (.invokevirtual 369, 3) := by decide +kernel
theorem dX10_together_30 : decode cX10_together 30 = .ok (.istore 4, 2) := by decide +kernel
theorem dX10_together_32 : decode cX10_together 32 = .ok (.aload_n 0, 1) := by decide +kernel
theorem dX10_together_33 : decode cX10_together 33 = .ok (.getfield 39, 3) := by decide +kernel
theorem dX10_together_36 : decode cX10_together 36 = .ok (.iload_n 2, 1) := by decide +kernel
theorem dX10_together_37 : decode cX10_together 37 = .ok (.iload_n 3, 1) := by decide +kernel
theorem dX10_together_38 : decode cX10_together 38 = .ok (.invokevirtual 369, 3) := by decide +kernel
theorem dX10_together_41 : decode cX10_together 41 = .ok (.istore 5, 2) := by decide +kernel
theorem dX10_together_43 : decode cX10_together 43 = .ok (.iload 4, 2) := by decide +kernel
theorem dX10_together_45 : decode cX10_together 45 = .ok (.iconst (-1), 1) := by decide +kernel
theorem dX10_together_46 : decode cX10_together 46 = .ok (.if_icmp .eq 9, 3) := by decide +kernel
theorem dX10_together_49 : decode cX10_together 49 = .ok (.iload 5, 2) := by decide +kernel
theorem dX10_together_51 : decode cX10_together 51 = .ok (.iconst (-1), 1) := by decide +kernel
theorem dX10_together_52 : decode cX10_together 52 = .ok (.if_icmp .ne 5, 3) := by decide +kernel
theorem dX10_together_55 : decode cX10_together 55 = .ok (.iconst (-1), 1) := by decide +kernel
theorem dX10_together_56 : decode cX10_together 56 = .ok (.ireturn, 1) := by decide +kernel
theorem dX10_together_57 : decode cX10_together 57 = .ok (.iconst 0, 1) := by decide +kernel
theorem dX10_together_58 : decode cX10_together 58 = .ok (.iload 4, 2) := by decide +kernel
theorem dX10_together_60 : decode cX10_together 60 = .ok (.iload 5, 2) := by decide +kernel
theorem dX10_together_62 : decode cX10_together 62 = .ok (.iadd, 1) := by decide +kernel
theorem dX10_together_63 : decode cX10_together 63 = .ok (.iload_n 3, 1) := by decide +kernel
theorem dX10_together_64 : decode cX10_together 64 = .ok (.isub, 1) := by decide +kernel
theorem dX10_together_65 : decode cX10_together 65 = .ok (.invokestatic 321, 3) := by decide +kernel
theorem dX10_together_68 : decode cX10_together 68 = .ok (.ireturn, 1) := by decide +kernel
theorem dX10_met_0 : decode cX10_met 0 = .ok (.aload_n 0, 1) := by decide +kernel
theorem dX10_met_1 : decode cX10_met 1 = .ok (.iload_n 1, 1) := by decide +kernel
theorem dX10_met_2 : decode cX10_met 2 = .ok (.iconst 0, 1) := by decide +kernel
theorem dX10_met_3 : decode cX10_met 3 = .ok (.bipush 7, 2) := by decide +kernel
theorem dX10_met_5 : decode cX10_met 5 = .ok (.invokevirtual 191, 3) := by decide +kernel
theorem dX10_met_8 : decode cX10_met 8 = .ok (.aload_n 0, 1) := by decide +kernel
theorem dX10_met_9 : decode cX10_met 9 = .ok (.iload_n 2, 1) := by decide +kernel
theorem dX10_met_10 : decode cX10_met 10 = .ok (.iconst 0, 1) := by decide +kernel
theorem dX10_met_11 : decode cX10_met 11 = .ok (.bipush 16, 2) := by decide +kernel
theorem dX10_met_13 : decode cX10_met 13 = .ok (.invokevirtual 191, 3) := by decide +kernel
theorem dX10_met_16 : decode cX10_met 16 = .ok (.aload_n 0, 1) := by decide +kernel
theorem dX10_met_17 : decode cX10_met 17 = .ok (.iload_n 3, 1) := by decide +kernel
theorem dX10_met_18 : decode cX10_met 18 = .ok (.iconst 0, 1) := by decide +kernel
theorem dX10_met_19 : decode cX10_met 19 = .ok (.iconst 1, 1) := by decide +kernel
theorem dX10_met_20 : decode cX10_met 20 = .ok (.invokevirtual 191, 3) := by decide +kernel
theorem dX10_met_23 : decode cX10_met 23 = .ok (.lconst 1, 1) := by decide +kernel
theorem dX10_met_24 : decode cX10_met 24 = .ok (.lstore 4, 2) := by decide +kernel
theorem dX10_met_26 : decode cX10_met 26 = .ok (.lconst 1, 1) := by decide +kernel
theorem dX10_met_27 : decode cX10_met 27 = .ok (.lstore 6, 2) := by decide +kernel
theorem dX10_met_29 : decode cX10_met 29 = .ok (.iconst 0, 1) := by decide +kernel
theorem dX10_met_30 : decode cX10_met 30 = .ok (.istore 8, 2) := by decide +kernel
theorem dX10_met_32 : decode cX10_met 32 = .ok (.iload 8, 2) := by decide +kernel
theorem dX10_met_34 : decode cX10_met 34 = .ok (.iload_n 1, 1) := by decide +kernel
theorem dX10_met_35 : decode cX10_met 35 = .ok (.if_icmp .ge 30, 3) := by decide +kernel
theorem dX10_met_38 : decode cX10_met 38 = .ok (.lload 4, 2) := by decide +kernel
theorem dX10_met_40 : decode cX10_met 40 = .ok (.ldc2_w 376, 3) := by decide +kernel
theorem dX10_met_43 : decode cX10_met 43 = .ok (.lmul, 1) := by decide +kernel
theorem dX10_met_44 : decode cX10_met 44 = .ok (.lstore 4, 2) := by decide +kernel
theorem dX10_met_46 : decode cX10_met 46 = .ok (.lload 6, 2) := by decide +kernel
theorem dX10_met_48 : decode cX10_met 48 = .ok (.sipush 256, 3) := by decide +kernel
theorem dX10_met_51 : decode cX10_met 51 = .ok (.iload_n 2, 1) := by decide +kernel
theorem dX10_met_52 : decode cX10_met 52 = .ok (.iload_n 2, 1) := by decide +kernel
theorem dX10_met_53 : decode cX10_met 53 = .ok (.imul, 1) := by decide +kernel
theorem dX10_met_54 : decode cX10_met 54 = .ok (.isub, 1) := by decide +kernel
theorem dX10_met_55 : decode cX10_met 55 = .ok (.i2l, 1) := by decide +kernel
theorem dX10_met_56 : decode cX10_met 56 = .ok (.lmul, 1) := by decide +kernel
theorem dX10_met_57 : decode cX10_met 57 = .ok (.lstore 6, 2) := by decide +kernel
theorem dX10_met_59 : decode cX10_met 59 = .ok (.iinc 8 1, 3) := by decide +kernel
theorem dX10_met_62 : decode cX10_met 62 = .ok (.goto (-30), 3) := by decide +kernel
theorem dX10_met_65 : decode cX10_met 65 = .ok (.lload 4, 2) := by decide +kernel
theorem dX10_met_67 : decode cX10_met 67 = .ok (.lload 6, 2) := by decide +kernel
theorem dX10_met_69 : decode cX10_met 69 = .ok (.lsub, 1) := by decide +kernel
theorem dX10_met_70 : decode cX10_met 70 = .ok (.lstore 8, 2) := by decide +kernel
theorem dX10_met_72 : decode cX10_met 72 = .ok (.lload 4, 2) := by decide +kernel
theorem dX10_met_74 : decode cX10_met 74 = .ok (.lstore 10, 2) := by decide +kernel
theorem dX10_met_76 : decode cX10_met 76 = .ok (.iconst 0, 1) := by decide +kernel
theorem dX10_met_77 : decode cX10_met 77 = .ok (.istore 12, 2) := by decide +kernel
theorem dX10_met_79 : decode cX10_met 79 = .ok (.iload 12, 2) := by decide +kernel
theorem dX10_met_81 : decode cX10_met 81 = .ok (.bipush 56, 2) := by decide +kernel
theorem dX10_met_83 : decode cX10_met 83 = .ok (.if_icmp .ge 47, 3) := by decide +kernel
theorem dX10_met_86 : decode cX10_met 86 = .ok (.lload 10, 2) := by decide +kernel
theorem dX10_met_88 : decode cX10_met 88 = .ok (.ldc2_w 378, 3) := by decide +kernel
theorem dX10_met_91 : decode cX10_met 91 = .ok (.lrem, 1) := by decide +kernel
theorem dX10_met_92 : decode cX10_met 92 = .ok (.lconst 0, 1) := by decide +kernel
theorem dX10_met_93 : decode cX10_met 93 = .ok (.lcmp, 1) := by decide +kernel
theorem dX10_met_94 : decode cX10_met 94 = .ok (.ifCond .ne 36, 3) := by decide +kernel
theorem dX10_met_97 : decode cX10_met 97 = .ok (.lload 8, 2) := by decide +kernel
theorem dX10_met_99 : decode cX10_met 99 = .ok (.ldc2_w 378, 3) := by decide +kernel
theorem dX10_met_102 : decode cX10_met 102 = .ok (.lrem, 1) := by decide +kernel
theorem dX10_met_103 : decode cX10_met 103 = .ok (.lconst 0, 1) := by decide +kernel
theorem dX10_met_104 : decode cX10_met 104 = .ok (.lcmp, 1) := by decide +kernel
theorem dX10_met_105 : decode cX10_met 105 = .ok (.ifCond .ne 25, 3) := by decide +kernel
theorem dX10_met_108 : decode cX10_met 108 = .ok (.lload 8, 2) := by decide +kernel
theorem dX10_met_110 : decode cX10_met 110 = .ok (.ldc2_w 378, 3) := by decide +kernel
theorem dX10_met_113 : decode cX10_met 113 = .ok (.ldiv, 1) := by decide +kernel
theorem dX10_met_114 : decode cX10_met 114 = .ok (.lstore 8, 2) := by decide +kernel
theorem dX10_met_116 : decode cX10_met 116 = .ok (.lload 10, 2) := by decide +kernel
theorem dX10_met_118 : decode cX10_met 118 = .ok (.ldc2_w 378, 3) := by decide +kernel
theorem dX10_met_121 : decode cX10_met 121 = .ok (.ldiv, 1) := by decide +kernel
theorem dX10_met_122 : decode cX10_met 122 = .ok (.lstore 10, 2) := by decide +kernel
theorem dX10_met_124 : decode cX10_met 124 = .ok (.iinc 12 1, 3) := by decide +kernel
theorem dX10_met_127 : decode cX10_met 127 = .ok (.goto (-48), 3) := by decide +kernel
theorem dX10_met_130 : decode cX10_met 130 = .ok (.iload_n 3, 1) := by decide +kernel
theorem dX10_met_131 : decode cX10_met 131 = .ok (.ifCond .ne 8, 3) := by decide +kernel
theorem dX10_met_134 : decode cX10_met 134 = .ok (.lload 8, 2) := by decide +kernel
theorem dX10_met_136 : decode cX10_met 136 = .ok (.goto 5, 3) := by decide +kernel
theorem dX10_met_139 : decode cX10_met 139 = .ok (.lload 10, 2) := by decide +kernel
theorem dX10_met_141 : decode cX10_met 141 = .ok (.lreturn, 1) := by decide +kernel
theorem dX10_open_0 : decode cX10_open 0 = .ok (.aload_n 0, 1) := by decide +kernel
theorem dX10_open_1 : decode cX10_open 1 = .ok (.iload_n 1, 1) := by decide +kernel
theorem dX10_open_2 : decode cX10_open 2 = .ok (.iconst 0, 1) := by decide +kernel
theorem dX10_open_3 : decode cX10_open 3 = .ok (.bipush 99, 2) := by decide +kernel
theorem dX10_open_5 : decode cX10_open 5 = .ok (.invokevirtual 191, 3) := by decide +kernel
theorem dX10_open_8 : decode cX10_open 8 = .ok (.aload_n 0, 1) := by decide +kernel
theorem dX10_open_9 : decode cX10_open 9 = .ok (.iload_n 2, 1) := by decide +kernel
theorem dX10_open_10 : decode cX10_open 10 = .ok (.iconst 0, 1) := by decide +kernel
theorem dX10_open_11 : decode cX10_open 11 = .ok (.bipush 99, 2) := by decide +kernel
theorem dX10_open_13 : decode cX10_open 13 = .ok (.invokevirtual 191, 3) := by decide +kernel
theorem dX10_open_16 : decode cX10_open 16 = .ok (.aload_n 0, 1) := by decide +kernel
theorem dX10_open_17 : decode cX10_open 17 = .ok (.iload_n 3, 1) := by decide +kernel
theorem dX10_open_18 : decode cX10_open 18 = .ok (.iconst 0, 1) := by decide +kernel
theorem dX10_open_19 : decode cX10_open 19 = .ok (.iconst 2, 1) := by decide +kernel
theorem dX10_open_20 : decode cX10_open 20 = .ok (.invokevirtual 191, 3) := by decide +kernel
theorem dX10_open_23 : decode cX10_open 23 = .ok (.iconst 0, 1) := by decide +kernel
theorem dX10_open_24 : decode cX10_open 24 = .ok (.istore 4, 2) := by decide +kernel
theorem dX10_open_26 : decode cX10_open 26 = .ok (.iconst (-1), 1) := by decide +kernel
theorem dX10_open_27 : decode cX10_open 27 = .ok (.istore 5, 2) := by decide +kernel
theorem dX10_open_29 : decode cX10_open 29 = .ok (.iconst 0, 1) := by decide +kernel
theorem dX10_open_30 : decode cX10_open 30 = .ok (.istore 6, 2) := by decide +kernel
theorem dX10_open_32 : decode cX10_open 32 = .ok (.iconst 0, 1) := by decide +kernel
theorem dX10_open_33 : decode cX10_open 33 = .ok (.istore 7, 2) := by decide +kernel
theorem dX10_open_35 : decode cX10_open 35 = .ok (.iload 7, 2) := by decide +kernel
theorem dX10_open_37 : decode cX10_open 37 = .ok (.iconst 1, 1) := by decide +kernel
theorem dX10_open_38 : decode cX10_open 38 = .ok (.if_icmp .gt 103, 3) := by decide +kernel
theorem dX10_open_41 : decode cX10_open 41 = .ok (.iconst 0, 1) := by decide +kernel
theorem dX10_open_42 : decode cX10_open 42 = .ok (.istore 8, 2) := by decide +kernel
theorem dX10_open_44 : decode cX10_open 44 = .ok (.iload 8, 2) := by decide +kernel
theorem dX10_open_46 : decode cX10_open 46 = .ok (.iconst 1, 1) := by decide +kernel
theorem dX10_open_47 : decode cX10_open 47 = .ok (.if_icmp .gt 88, 3) := by decide +kernel
theorem dX10_open_50 : decode cX10_open 50 = .ok (.iload 7, 2) := by decide +kernel
theorem dX10_open_52 : decode cX10_open 52 = .ok (.iload 8, 2) := by decide +kernel
theorem dX10_open_54 : decode cX10_open 54 = .ok (.iload_n 1, 1) := by decide +kernel
theorem dX10_open_55 : decode cX10_open 55 = .ok (.iload_n 2, 1) := by decide +kernel
theorem dX10_open_56 : decode cX10_open 56 = .ok (.invokestatic 380, 3) := by decide +kernel
theorem dX10_open_59 : decode cX10_open 59 = .ok (.istore 9, 2) := by decide +kernel
theorem dX10_open_61 : decode cX10_open 61 = .ok (.iload 8, 2) := by decide +kernel
theorem dX10_open_63 : decode cX10_open 63 = .ok (.iload 7, 2) := by decide +kernel
theorem dX10_open_65 : decode cX10_open 65 = .ok (.iload_n 1, 1) := by decide +kernel
theorem dX10_open_66 : decode cX10_open 66 = .ok (.iload_n 2, 1) := by decide +kernel
theorem dX10_open_67 : decode cX10_open 67 = .ok (.invokestatic 380, 3) := by decide +kernel
theorem dX10_open_70 : decode cX10_open 70 = .ok (.istore 10, 2) := by decide +kernel
theorem dX10_open_72 : decode cX10_open 72 = .ok (.iconst 1, 1) := by decide +kernel
theorem dX10_open_73 : decode cX10_open 73 = .ok (.iload 7, 2) := by decide +kernel
theorem dX10_open_75 : decode cX10_open 75 = .ok (.isub, 1) := by decide +kernel
theorem dX10_open_76 : decode cX10_open 76 = .ok (.iload 8, 2) := by decide +kernel
theorem dX10_open_78 : decode cX10_open 78 = .ok (.iload_n 1, 1) := by decide +kernel
theorem dX10_open_79 : decode cX10_open 79 = .ok (.iload_n 2, 1) := by decide +kernel
theorem dX10_open_80 : decode cX10_open 80 = .ok (.invokestatic 380, 3) := by decide +kernel
theorem dX10_open_83 : decode cX10_open 83 = .ok (.iload 9, 2) := by decide +kernel
theorem dX10_open_85 : decode cX10_open 85 = .ok (.if_icmp .gt 44, 3) := by decide +kernel
theorem dX10_open_88 : decode cX10_open 88 = .ok (.iconst 1, 1) := by decide +kernel
theorem dX10_open_89 : decode cX10_open 89 = .ok (.iload 8, 2) := by decide +kernel
theorem dX10_open_91 : decode cX10_open 91 = .ok (.isub, 1) := by decide +kernel
theorem dX10_open_92 : decode cX10_open 92 = .ok (.iload 7, 2) := by decide +kernel
theorem dX10_open_94 : decode cX10_open 94 = .ok (.iload_n 1, 1) := by decide +kernel
theorem dX10_open_95 : decode cX10_open 95 = .ok (.iload_n 2, 1) := by decide +kernel
theorem dX10_open_96 : decode cX10_open 96 = .ok (.invokestatic 380, 3) := by decide +kernel
theorem dX10_open_99 : decode cX10_open 99 = .ok (.iload 10, 2) := by decide +kernel
theorem dX10_open_101 : decode cX10_open 101 = .ok (.if_icmp .gt 28, 3) := by decide +kernel
theorem dX10_open_104 : decode cX10_open 104 = .ok (.iload 4, 2) := by decide +kernel
theorem dX10_open_106 : decode cX10_open 106 = .ok (.ifCond .ne 20, 3) := by decide +kernel
theorem dX10_open_109 : decode cX10_open 109 = .ok (.bipush 10, 2) := by decide +kernel
theorem dX10_open_111 : decode cX10_open 111 = .ok (.iload 7, 2) := by decide +kernel
theorem dX10_open_113 : decode cX10_open 113 = .ok (.imul, 1) := by decide +kernel
theorem dX10_open_114 : decode cX10_open 114 = .ok (.iload 8, 2) := by decide +kernel
theorem dX10_open_116 : decode cX10_open 116 = .ok (.iadd, 1) := by decide +kernel
theorem dX10_open_117 : decode cX10_open 117 = .ok (.istore 5, 2) := by decide +kernel
theorem dX10_open_119 : decode cX10_open 119 = .ok (.iload 9, 2) := by decide +kernel
theorem dX10_open_121 : decode cX10_open 121 = .ok (.iload 10, 2) := by decide +kernel
theorem dX10_open_123 : decode cX10_open 123 = .ok (.iadd, 1) := by decide +kernel
theorem dX10_open_124 : decode cX10_open 124 = .ok (.istore 6, 2) := by decide +kernel
theorem dX10_open_126 : decode cX10_open 126 = .ok (.iinc 4 1, 3) := by decide +kernel
theorem dX10_open_129 : decode cX10_open 129 = .ok (.iinc 8 1, 3) := by decide +kernel
theorem dX10_open_132 : decode cX10_open 132 = .ok (.goto (-88), 3) := by decide +kernel
theorem dX10_open_135 : decode cX10_open 135 = .ok (.iinc 7 1, 3) := by decide +kernel
theorem dX10_open_138 : decode cX10_open 138 = .ok (.goto (-103), 3) := by decide +kernel
theorem dX10_open_141 : decode cX10_open 141 = .ok (.iload_n 3, 1) := by decide +kernel
theorem dX10_open_142 : decode cX10_open 142 = .ok (.lookupswitch 32 #[(0, 26), (1, 29)], 26) := by decide +kernel
theorem dX10_open_168 : decode cX10_open 168 = .ok (.iload 4, 2) := by decide +kernel
theorem dX10_open_170 : decode cX10_open 170 = .ok (.ireturn, 1) := by decide +kernel
theorem dX10_open_171 : decode cX10_open 171 = .ok (.iload 5, 2) := by decide +kernel
theorem dX10_open_173 : decode cX10_open 173 = .ok (.ireturn, 1) := by decide +kernel
theorem dX10_open_174 : decode cX10_open 174 = .ok (.iload 6, 2) := by decide +kernel
theorem dX10_open_176 : decode cX10_open 176 = .ok (.ireturn, 1) := by decide +kernel
theorem dX10_share_0 : decode cX10_share 0 = .ok (.aload_n 0, 1) := by decide +kernel
theorem dX10_share_1 : decode cX10_share 1 = .ok (.iload_n 1, 1) := by decide +kernel
theorem dX10_share_2 : decode cX10_share 2 = .ok (.invokevirtual 222, 3) := by decide +kernel
theorem dX10_share_5 : decode cX10_share 5 = .ok (.aload_n 0, 1) := by decide +kernel
theorem dX10_share_6 : decode cX10_share 6 = .ok (.iload_n 2, 1) := by decide +kernel
theorem dX10_share_7 : decode cX10_share 7 = .ok (.iconst 0, 1) := by decide +kernel
theorem dX10_share_8 : decode cX10_share 8 = .ok (.aload_n 0, 1) := by decide +kernel
theorem dX10_share_9 : decode cX10_share 9 = .ok (.getfield 19, 3) := by decide +kernel
theorem dX10_share_12 : decode cX10_share 12 = .ok (.getfield 155, 3) := by decide +kernel
theorem dX10_share_15 : decode cX10_share 15 = .ok (.invokestatic 330, 3) := by decide +kernel
theorem dX10_share_18 : decode cX10_share 18 = .ok (.invokevirtual 191, 3) := by decide +kernel
theorem dX10_share_21 : decode cX10_share 21 = .ok (.aload_n 0, 1) := by decide +kernel
theorem dX10_share_22 : decode cX10_share 22 = .ok (.iload_n 3, 1) := by decide +kernel
theorem dX10_share_23 : decode cX10_share 23 = .ok (.iconst 0, 1) := by decide +kernel
theorem dX10_share_24 : decode cX10_share 24 = .ok (.sipush 9999, 3) := by decide +kernel
theorem dX10_share_27 : decode cX10_share 27 = .ok (.invokevirtual 191, 3) := by decide +kernel
theorem dX10_share_30 : decode cX10_share 30 = .ok (.iload_n 2, 1) := by decide +kernel
theorem dX10_share_31 : decode cX10_share 31 = .ok (.iload_n 1, 1) := by decide +kernel
theorem dX10_share_32 : decode cX10_share 32 = .ok (.ishr, 1) := by decide +kernel
theorem dX10_share_33 : decode cX10_share 33 = .ok (.iconst 1, 1) := by decide +kernel
theorem dX10_share_34 : decode cX10_share 34 = .ok (.iand, 1) := by decide +kernel
theorem dX10_share_35 : decode cX10_share 35 = .ok (.ifCond .ne 5, 3) := by decide +kernel
theorem dX10_share_38 : decode cX10_share 38 = .ok (.iconst 0, 1) := by decide +kernel
theorem dX10_share_39 : decode cX10_share 39 = .ok (.ireturn, 1) := by decide +kernel
theorem dX10_share_40 : decode cX10_share 40 = .ok (.iconst 0, 1) := by decide +kernel
theorem dX10_share_41 : decode cX10_share 41 = .ok (.istore 4, 2) := by decide +kernel
theorem dX10_share_43 : decode cX10_share 43 = .ok (.aload_n 0, 1) := by decide +kernel
theorem dX10_share_44 : decode cX10_share 44 = .ok (.getfield 58, 3) := by decide +kernel
theorem dX10_share_47 : decode cX10_share 47 = .ok (.invokevirtual 384, 3) := by decide +kernel
theorem dX10_share_50 : decode cX10_share 50 = .ok (.istore 5, 2) := by decide +kernel
theorem dX10_share_52 : decode cX10_share 52 = .ok (.iconst 0, 1) := by decide +kernel
theorem dX10_share_53 : decode cX10_share 53 = .ok (.istore 6, 2) := by decide +kernel
theorem dX10_share_55 : decode cX10_share 55 = .ok (.iload 6, 2) := by decide +kernel
theorem dX10_share_57 : decode cX10_share 57 = .ok (.bipush 32, 2) := by decide +kernel
theorem dX10_share_59 : decode cX10_share 59 = .ok (.if_icmp .ge 54, 3) := by decide +kernel
theorem dX10_share_62 : decode cX10_share 62 = .ok (.iload 4, 2) := by decide +kernel
theorem dX10_share_64 : decode cX10_share 64 = .ok (.iload 5, 2) := by decide +kernel
theorem dX10_share_66 : decode cX10_share 66 = .ok (.if_icmp .ge 47, 3) := by decide +kernel
theorem dX10_share_69 : decode cX10_share 69 = .ok (.iload 4, 2) := by decide +kernel
theorem dX10_share_71 : decode cX10_share 71 = .ok (.iload 5, 2) := by decide +kernel
theorem dX10_share_73 : decode cX10_share 73 = .ok (.iadd, 1) := by decide +kernel
theorem dX10_share_74 : decode cX10_share 74 = .ok (.iconst 1, 1) := by decide +kernel
theorem dX10_share_75 : decode cX10_share 75 = .ok (.iadd, 1) := by decide +kernel
theorem dX10_share_76 : decode cX10_share 76 = .ok (.iconst 2, 1) := by decide +kernel
theorem dX10_share_77 : decode cX10_share 77 = .ok (.idiv, 1) := by decide +kernel
theorem dX10_share_78 : decode cX10_share 78 = .ok (.istore 7, 2) := by decide +kernel
theorem dX10_share_80 : decode cX10_share 80 = .ok (.aload_n 0, 1) := by decide +kernel
theorem dX10_share_81 : decode cX10_share 81 = .ok (.getfield 58, 3) := by decide +kernel
theorem dX10_share_84 : decode cX10_share 84 = .ok (.iload 7, 2) := by decide +kernel
theorem dX10_share_86 : decode cX10_share 86 = .ok (.iload_n 2, 1) := by decide +kernel
theorem dX10_share_87 : decode cX10_share 87 = .ok (.invokevirtual 387, 3) := by decide +kernel
theorem dX10_share_90 : decode cX10_share 90 = .ok (.iload_n 3, 1) := by decide +kernel
theorem dX10_share_91 : decode cX10_share 91 = .ok (.if_icmp .gt 10, 3) := by decide +kernel
theorem dX10_share_94 : decode cX10_share 94 = .ok (.iload 7, 2) := by decide +kernel
theorem dX10_share_96 : decode cX10_share 96 = .ok (.istore 4, 2) := by decide +kernel
theorem dX10_share_98 : decode cX10_share 98 = .ok (.goto 9, 3) := by decide +kernel
theorem dX10_share_101 : decode cX10_share 101 = .ok (.iload 7, 2) := by decide +kernel
theorem dX10_share_103 : decode cX10_share 103 = .ok (.iconst 1, 1) := by decide +kernel
theorem dX10_share_104 : decode cX10_share 104 = .ok (.isub, 1) := by decide +kernel
theorem dX10_share_105 : decode cX10_share 105 = .ok (.istore 5, 2) := by decide +kernel
theorem dX10_share_107 : decode cX10_share 107 = .ok (.iinc 6 1, 3) := by decide +kernel
theorem dX10_share_110 : decode cX10_share 110 = .ok (.goto (-55), 3) := by decide +kernel
theorem dX10_share_113 : decode cX10_share 113 = .ok (.aload_n 0, 1) := by decide +kernel
theorem dX10_share_114 : decode cX10_share 114 = .ok (.getfield 58, 3) := by decide +kernel
theorem dX10_share_117 : decode cX10_share 117 = .ok (.getfield 232, 3) := by decide +kernel
theorem dX10_share_120 : decode cX10_share 120 = .ok (.iload_n 1, 1) := by decide +kernel
theorem dX10_share_121 : decode cX10_share 121 = .ok (.iaload, 1) := by decide +kernel
theorem dX10_share_122 : decode cX10_share 122 = .ok (.iload 4, 2) := by decide +kernel
theorem dX10_share_124 : decode cX10_share 124 = .ok (.invokestatic 295, 3) := by decide +kernel
theorem dX10_share_127 : decode cX10_share 127 = .ok (.ireturn, 1) := by decide +kernel
theorem dX10_youngest_0 : decode cX10_youngest 0 = .ok (.aload_n 0, 1) := by decide +kernel
theorem dX10_youngest_1 : decode cX10_youngest 1 = .ok (.iload_n 1, 1) := by decide +kernel
theorem dX10_youngest_2 : decode cX10_youngest 2 = .ok (.iconst 0, 1) := by decide +kernel
theorem dX10_youngest_3 : decode cX10_youngest 3 = .ok (.iconst 1, 1) := by decide +kernel
theorem dX10_youngest_4 : decode cX10_youngest 4 = .ok (.invokevirtual 191, 3) := by decide +kernel
theorem dX10_youngest_7 : decode cX10_youngest 7 = .ok (.iconst (-1), 1) := by decide +kernel
theorem dX10_youngest_8 : decode cX10_youngest 8 = .ok (.istore_n 2, 1) := by decide +kernel
theorem dX10_youngest_9 : decode cX10_youngest 9 = .ok (.iconst 0, 1) := by decide +kernel
theorem dX10_youngest_10 : decode cX10_youngest 10 = .ok (.istore_n 3, 1) := by decide +kernel
theorem dX10_youngest_11 : decode cX10_youngest 11 = .ok (.iload_n 3, 1) := by decide +kernel
theorem dX10_youngest_12 : decode cX10_youngest 12 = .ok (.aload_n 0, 1) := by decide +kernel
theorem dX10_youngest_13 : decode cX10_youngest 13 = .ok (.getfield 19, 3) := by decide +kernel
theorem dX10_youngest_16 : decode cX10_youngest 16 = .ok (.getfield 155, 3) := by decide +kernel
theorem dX10_youngest_19 : decode cX10_youngest 19 = .ok (.if_icmp .ge 37, 3) := by decide +kernel
theorem dX10_youngest_22 : decode cX10_youngest 22 = .ok (.iload_n 2, 1) := by decide +kernel
theorem dX10_youngest_23 : decode cX10_youngest 23 = .ok (.iconst (-1), 1) := by decide +kernel
theorem dX10_youngest_24 : decode cX10_youngest 24 = .ok (.if_icmp .eq 24, 3) := by decide +kernel
theorem dX10_youngest_27 : decode cX10_youngest 27 = .ok (.aload_n 0, 1) := by decide +kernel
theorem dX10_youngest_28 : decode cX10_youngest 28 = .ok (.getfield 58, 3) := by decide +kernel
theorem dX10_youngest_31 : decode cX10_youngest 31 = .ok (.getfield 232, 3) := by decide +kernel
theorem dX10_youngest_34 : decode cX10_youngest 34 = .ok (.iload_n 3, 1) := by decide +kernel
theorem dX10_youngest_35 : decode cX10_youngest 35 = .ok (.iaload, 1) := by decide +kernel
theorem dX10_youngest_36 : decode cX10_youngest 36 = .ok (.aload_n 0, 1) := by decide +kernel
theorem dX10_youngest_37 : decode cX10_youngest 37 = .ok (.getfield 58, 3) := by decide +kernel
theorem dX10_youngest_40 : decode cX10_youngest 40 = .ok (.getfield 232, 3) := by decide +kernel
theorem dX10_youngest_43 : decode cX10_youngest 43 = .ok (.iload_n 2, 1) := by decide +kernel
theorem dX10_youngest_44 : decode cX10_youngest 44 = .ok (.iaload, 1) := by decide +kernel
theorem dX10_youngest_45 : decode cX10_youngest 45 = .ok (.if_icmp .ge 5, 3) := by decide +kernel
theorem dX10_youngest_48 : decode cX10_youngest 48 = .ok (.iload_n 3, 1) := by decide +kernel
theorem dX10_youngest_49 : decode cX10_youngest 49 = .ok (.istore_n 2, 1) := by decide +kernel
theorem dX10_youngest_50 : decode cX10_youngest 50 = .ok (.iinc 3 1, 3) := by decide +kernel
theorem dX10_youngest_53 : decode cX10_youngest 53 = .ok (.goto (-42), 3) := by decide +kernel
theorem dX10_youngest_56 : decode cX10_youngest 56 = .ok (.iload_n 1, 1) := by decide +kernel
theorem dX10_youngest_57 : decode cX10_youngest 57 = .ok (.ifCond .eq 8, 3) := by decide +kernel
theorem dX10_youngest_60 : decode cX10_youngest 60 = .ok (.iload_n 2, 1) := by decide +kernel
theorem dX10_youngest_61 : decode cX10_youngest 61 = .ok (.iconst (-1), 1) := by decide +kernel
theorem dX10_youngest_62 : decode cX10_youngest 62 = .ok (.if_icmp .ne 7, 3) := by decide +kernel
theorem dX10_youngest_65 : decode cX10_youngest 65 = .ok (.iload_n 2, 1) := by decide +kernel
theorem dX10_youngest_66 : decode cX10_youngest 66 = .ok (.goto 12, 3) := by decide +kernel
theorem dX10_youngest_69 : decode cX10_youngest 69 = .ok (.aload_n 0, 1) := by decide +kernel
theorem dX10_youngest_70 : decode cX10_youngest 70 = .ok (.getfield 58, 3) := by decide +kernel
theorem dX10_youngest_73 : decode cX10_youngest 73 = .ok (.getfield 232, 3) := by decide +kernel
theorem dX10_youngest_76 : decode cX10_youngest 76 = .ok (.iload_n 2, 1) := by decide +kernel
theorem dX10_youngest_77 : decode cX10_youngest 77 = .ok (.iaload, 1) := by decide +kernel
theorem dX10_youngest_78 : decode cX10_youngest 78 = .ok (.ireturn, 1) := by decide +kernel
theorem dX10_richest_0 : decode cX10_richest 0 = .ok (.aload_n 0, 1) := by decide +kernel
theorem dX10_richest_1 : decode cX10_richest 1 = .ok (.iload_n 1, 1) := by decide +kernel
theorem dX10_richest_2 : decode cX10_richest 2 = .ok (.iconst 0, 1) := by decide +kernel
theorem dX10_richest_3 : decode cX10_richest 3 = .ok (.iconst 1, 1) := by decide +kernel
theorem dX10_richest_4 : decode cX10_richest 4 = .ok (.invokevirtual 191, 3) := by decide +kernel
theorem dX10_richest_7 : decode cX10_richest 7 = .ok (.iconst (-1), 1) := by decide +kernel
theorem dX10_richest_8 : decode cX10_richest 8 = .ok (.istore_n 2, 1) := by decide +kernel
theorem dX10_richest_9 : decode cX10_richest 9 = .ok (.iconst 0, 1) := by decide +kernel
theorem dX10_richest_10 : decode cX10_richest 10 = .ok (.istore_n 3, 1) := by decide +kernel
theorem dX10_richest_11 : decode cX10_richest 11 = .ok (.iload_n 3, 1) := by decide +kernel
theorem dX10_richest_12 : decode cX10_richest 12 = .ok (.aload_n 0, 1) := by decide +kernel
theorem dX10_richest_13 : decode cX10_richest 13 = .ok (.getfield 19, 3) := by decide +kernel
theorem dX10_richest_16 : decode cX10_richest 16 = .ok (.getfield 155, 3) := by decide +kernel
theorem dX10_richest_19 : decode cX10_richest 19 = .ok (.if_icmp .ge 37, 3) := by decide +kernel
theorem dX10_richest_22 : decode cX10_richest 22 = .ok (.iload_n 2, 1) := by decide +kernel
theorem dX10_richest_23 : decode cX10_richest 23 = .ok (.iconst (-1), 1) := by decide +kernel
theorem dX10_richest_24 : decode cX10_richest 24 = .ok (.if_icmp .eq 24, 3) := by decide +kernel
theorem dX10_richest_27 : decode cX10_richest 27 = .ok (.aload_n 0, 1) := by decide +kernel
theorem dX10_richest_28 : decode cX10_richest 28 = .ok (.getfield 58, 3) := by decide +kernel
theorem dX10_richest_31 : decode cX10_richest 31 = .ok (.getfield 225, 3) := by decide +kernel
theorem dX10_richest_34 : decode cX10_richest 34 = .ok (.iload_n 3, 1) := by decide +kernel
theorem dX10_richest_35 : decode cX10_richest 35 = .ok (.iaload, 1) := by decide +kernel
theorem dX10_richest_36 : decode cX10_richest 36 = .ok (.aload_n 0, 1) := by decide +kernel
theorem dX10_richest_37 : decode cX10_richest 37 = .ok (.getfield 58, 3) := by decide +kernel
theorem dX10_richest_40 : decode cX10_richest 40 = .ok (.getfield 225, 3) := by decide +kernel
theorem dX10_richest_43 : decode cX10_richest 43 = .ok (.iload_n 2, 1) := by decide +kernel
theorem dX10_richest_44 : decode cX10_richest 44 = .ok (.iaload, 1) := by decide +kernel
theorem dX10_richest_45 : decode cX10_richest 45 = .ok (.if_icmp .le 5, 3) := by decide +kernel
theorem dX10_richest_48 : decode cX10_richest 48 = .ok (.iload_n 3, 1) := by decide +kernel
theorem dX10_richest_49 : decode cX10_richest 49 = .ok (.istore_n 2, 1) := by decide +kernel
theorem dX10_richest_50 : decode cX10_richest 50 = .ok (.iinc 3 1, 3) := by decide +kernel
theorem dX10_richest_53 : decode cX10_richest 53 = .ok (.goto (-42), 3) := by decide +kernel
theorem dX10_richest_56 : decode cX10_richest 56 = .ok (.iload_n 1, 1) := by decide +kernel
theorem dX10_richest_57 : decode cX10_richest 57 = .ok (.ifCond .eq 8, 3) := by decide +kernel
theorem dX10_richest_60 : decode cX10_richest 60 = .ok (.iload_n 2, 1) := by decide +kernel
theorem dX10_richest_61 : decode cX10_richest 61 = .ok (.iconst (-1), 1) := by decide +kernel
theorem dX10_richest_62 : decode cX10_richest 62 = .ok (.if_icmp .ne 7, 3) := by decide +kernel
theorem dX10_richest_65 : decode cX10_richest 65 = .ok (.iload_n 2, 1) := by decide +kernel
theorem dX10_richest_66 : decode cX10_richest 66 = .ok (.goto 12, 3) := by decide +kernel
theorem dX10_richest_69 : decode cX10_richest 69 = .ok (.aload_n 0, 1) := by decide +kernel
theorem dX10_richest_70 : decode cX10_richest 70 = .ok (.getfield 58, 3) := by decide +kernel
theorem dX10_richest_73 : decode cX10_richest 73 = .ok (.getfield 225, 3) := by decide +kernel
theorem dX10_richest_76 : decode cX10_richest 76 = .ok (.iload_n 2, 1) := by decide +kernel
theorem dX10_richest_77 : decode cX10_richest 77 = .ok (.iaload, 1) := by decide +kernel
theorem dX10_richest_78 : decode cX10_richest 78 = .ok (.ireturn, 1) := by decide +kernel
theorem dX10_image_0 : decode cX10_image 0 = .ok (.aload_n 0, 1) := by decide +kernel
theorem dX10_image_1 : decode cX10_image 1 = .ok (.getfield 101, 3) := by decide +kernel
theorem dX10_image_4 : decode cX10_image 4 = .ok (.iconst 3, 1) := by decide +kernel
theorem dX10_image_5 : decode cX10_image 5 = .ok (.if_icmp .lt 5, 3) := by decide +kernel
theorem dX10_image_8 : decode cX10_image 8 = .ok (.iconst (-1), 1) := by decide +kernel
theorem dX10_image_9 : decode cX10_image 9 = .ok (.ireturn, 1) := by decide +kernel
theorem dX10_image_10 : decode cX10_image 10 = .ok (.aload_n 0, 1) := by decide +kernel
theorem dX10_image_11 : decode cX10_image 11 = .ok (.getfield 97, 3) := by decide +kernel
theorem dX10_image_14 : decode cX10_image 14 = .ok (.aload_n 0, 1) := by decide +kernel
theorem dX10_image_15 : decode cX10_image 15 = .ok (.getfield 101, 3) := by decide +kernel
theorem dX10_image_18 : decode cX10_image 18 = .ok (.aaload, 1) := by decide +kernel
theorem dX10_image_19 : decode cX10_image 19 = .ok (.aload_n 0, 1) := by decide +kernel
theorem dX10_image_20 : decode cX10_image 20 = .ok (.getfield 93, 3) := by decide +kernel
theorem dX10_image_23 : decode cX10_image 23 = .ok (.invokevirtual 390, 3) := by decide +kernel
theorem dX10_image_26 : decode cX10_image 26 = .ok (.aload_n 0, 1) := by decide +kernel
theorem dX10_image_27 : decode cX10_image 27 = .ok (.getfield 97, 3) := by decide +kernel
theorem dX10_image_30 : decode cX10_image 30 = .ok (.aload_n 0, 1) := by decide +kernel
theorem dX10_image_31 : decode cX10_image 31 = .ok (.getfield 101, 3) := by decide +kernel
theorem dX10_image_34 : decode cX10_image 34 = .ok (.aaload, 1) := by decide +kernel
theorem dX10_image_35 : decode cX10_image 35 = .ok (.aload_n 0, 1) := by decide +kernel
theorem dX10_image_36 : decode cX10_image 36 = .ok (.getfield 58, 3) := by decide +kernel
theorem dX10_image_39 : decode cX10_image 39 = .ok (.invokevirtual 168, 3) := by decide +kernel
theorem dX10_image_42 : decode cX10_image 42 = .ok (.aload_n 0, 1) := by decide +kernel
theorem dX10_image_43 : decode cX10_image 43 = .ok (.dup, 1) := by decide +kernel
theorem dX10_image_44 : decode cX10_image 44 = .ok (.getfield 101, 3) := by decide +kernel
theorem dX10_image_47 : decode cX10_image 47 = .ok (.iconst 1, 1) := by decide +kernel
theorem dX10_image_48 : decode cX10_image 48 = .ok (.iadd, 1) := by decide +kernel
theorem dX10_image_49 : decode cX10_image 49 = .ok (.putfield 101, 3) := by decide +kernel
theorem dX10_image_52 : decode cX10_image 52 = .ok (.aload_n 0, 1) := by decide +kernel
theorem dX10_image_53 : decode cX10_image 53 = .ok (.getfield 101, 3) := by decide +kernel
theorem dX10_image_56 : decode cX10_image 56 = .ok (.ireturn, 1) := by decide +kernel
theorem dX10_restore_0 : decode cX10_restore 0 = .ok (.aload_n 0, 1) := by decide +kernel
theorem dX10_restore_1 : decode cX10_restore 1 = .ok (.getfield 101, 3) := by decide +kernel
theorem dX10_restore_4 : decode cX10_restore 4 = .ok (.ifCond .gt 5, 3) := by decide +kernel
theorem dX10_restore_7 : decode cX10_restore 7 = .ok (.iconst (-1), 1) := by decide +kernel
theorem dX10_restore_8 : decode cX10_restore 8 = .ok (.ireturn, 1) := by decide +kernel
theorem dX10_restore_9 : decode cX10_restore 9 = .ok (.aload_n 0, 1) := by decide +kernel
theorem dX10_restore_10 : decode cX10_restore 10 = .ok (.dup, 1) := by decide +kernel
theorem dX10_restore_11 : decode cX10_restore 11 = .ok (.getfield 101, 3) := by decide +kernel
theorem dX10_restore_14 : decode cX10_restore 14 = .ok (.iconst 1, 1) := by decide +kernel
theorem dX10_restore_15 : decode cX10_restore 15 = .ok (.isub, 1) := by decide +kernel
theorem dX10_restore_16 : decode cX10_restore 16 = .ok (.putfield 101, 3) := by decide +kernel
theorem dX10_restore_19 : decode cX10_restore 19 = .ok (.aload_n 0, 1) := by decide +kernel
theorem dX10_restore_20 : decode cX10_restore 20 = .ok (.getfield 97, 3) := by decide +kernel
theorem dX10_restore_23 : decode cX10_restore 23 = .ok (.aload_n 0, 1) := by decide +kernel
theorem dX10_restore_24 : decode cX10_restore 24 = .ok (.getfield 101, 3) := by decide +kernel
theorem dX10_restore_27 : decode cX10_restore 27 = .ok (.aaload, 1) := by decide +kernel
theorem dX10_restore_28 : decode cX10_restore 28 = .ok (.aload_n 0, 1) := by decide +kernel
theorem dX10_restore_29 : decode cX10_restore 29 = .ok (.getfield 58, 3) := by decide +kernel
theorem dX10_restore_32 : decode cX10_restore 32 = .ok (.invokevirtual 187, 3) := by decide +kernel
theorem dX10_restore_35 : decode cX10_restore 35 = .ok (.pop, 1) := by decide +kernel
theorem dX10_restore_36 : decode cX10_restore 36 = .ok (.aload_n 0, 1) := by decide +kernel
theorem dX10_restore_37 : decode cX10_restore 37 = .ok (.getfield 93, 3) := by decide +kernel
theorem dX10_restore_40 : decode cX10_restore 40 = .ok (.aload_n 0, 1) := by decide +kernel
theorem dX10_restore_41 : decode cX10_restore 41 = .ok (.getfield 97, 3) := by decide +kernel
theorem dX10_restore_44 : decode cX10_restore 44 = .ok (.aload_n 0, 1) := by decide +kernel
theorem dX10_restore_45 : decode cX10_restore 45 = .ok (.getfield 101, 3) := by decide +kernel
theorem dX10_restore_48 : decode cX10_restore 48 = .ok (.aaload, 1) := by decide +kernel
theorem dX10_restore_49 : decode cX10_restore 49 = .ok (.invokevirtual 390, 3) := by decide +kernel
theorem dX10_restore_52 : decode cX10_restore 52 = .ok (.aload_n 0, 1) := by decide +kernel
theorem dX10_restore_53 : decode cX10_restore 53 = .ok (.getfield 49, 3) := by decide +kernel
theorem dX10_restore_56 : decode cX10_restore 56 = .ok (.invokevirtual 151, 3) := by decide +kernel
theorem dX10_restore_59 : decode cX10_restore 59 = .ok (.aload_n 0, 1) := by decide +kernel
theorem dX10_restore_60 : decode cX10_restore 60 = .ok (.getfield 101, 3) := by decide +kernel
theorem dX10_restore_63 : decode cX10_restore 63 = .ok (.ireturn, 1) := by decide +kernel
theorem dX10_status_0 : decode cX10_status 0 = .ok (.iload_n 1, 1) := by decide +kernel
theorem dX10_status_1 : decode cX10_status 1 = .ok (.lookupswitch 37 #[(0, 27), (1, 32)], 27) := by decide +kernel
theorem dX10_status_28 : decode cX10_status 28 = .ok (.aload_n 0, 1) := by decide +kernel
theorem dX10_status_29 : decode cX10_status 29 = .ok (.getfield 105, 3) := by decide +kernel
theorem dX10_status_32 : decode cX10_status 32 = .ok (.ireturn, 1) := by decide +kernel
theorem dX10_status_33 : decode cX10_status 33 = .ok (.aload_n 0, 1) := by decide +kernel
theorem dX10_status_34 : decode cX10_status 34 = .ok (.getfield 108, 3) := by decide +kernel
theorem dX10_status_37 : decode cX10_status 37 = .ok (.ireturn, 1) := by decide +kernel
theorem dX10_status_38 : decode cX10_status 38 = .ok (.iconst (-1), 1) := by decide +kernel
theorem dX10_status_39 : decode cX10_status 39 = .ok (.ireturn, 1) := by decide +kernel
theorem dX10_count_0 : decode cX10_count 0 = .ok (.iload_n 1, 1) := by decide +kernel
theorem dX10_count_1 : decode cX10_count 1 = .ok (.tableswitch 48 0 2 #[27, 32, 40], 27) := by decide +kernel
theorem dX10_count_28 : decode cX10_count 28 = .ok (.aload_n 0, 1) := by decide +kernel
theorem dX10_count_29 : decode cX10_count 29 = .ok (.getfield 101, 3) := by decide +kernel
theorem dX10_count_32 : decode cX10_count 32 = .ok (.ireturn, 1) := by decide +kernel
theorem dX10_count_33 : decode cX10_count 33 = .ok (.aload_n 0, 1) := by decide +kernel
theorem dX10_count_34 : decode cX10_count 34 = .ok (.getfield 10, 3) := by decide +kernel
theorem dX10_count_37 : decode cX10_count 37 = .ok (.getfield 122, 3) := by decide +kernel
theorem dX10_count_40 : decode cX10_count 40 = .ok (.ireturn, 1) := by decide +kernel
theorem dX10_count_41 : decode cX10_count 41 = .ok (.aload_n 0, 1) := by decide +kernel
theorem dX10_count_42 : decode cX10_count 42 = .ok (.getfield 93, 3) := by decide +kernel
theorem dX10_count_45 : decode cX10_count 45 = .ok (.getfield 162, 3) := by decide +kernel
theorem dX10_count_48 : decode cX10_count 48 = .ok (.ireturn, 1) := by decide +kernel
theorem dX10_count_49 : decode cX10_count 49 = .ok (.iconst (-1), 1) := by decide +kernel
theorem dX10_count_50 : decode cX10_count 50 = .ok (.ireturn, 1) := by decide +kernel
theorem dX10_refuseMissing_0 : decode cX10_refuseMissing 0 = .ok (.aload_n 0, 1) := by decide +kernel
theorem dX10_refuseMissing_1 : decode cX10_refuseMissing 1 = .ok (.dup, 1) := by decide +kernel
theorem dX10_refuseMissing_2 : decode cX10_refuseMissing 2 = .ok (.getfield 105, 3) := by decide +kernel
theorem dX10_refuseMissing_5 : decode cX10_refuseMissing 5 = .ok (.iconst 1, 1) := by decide +kernel
theorem dX10_refuseMissing_6 : decode cX10_refuseMissing 6 = .ok (.iadd, 1) := by decide +kernel
theorem dX10_refuseMissing_7 : decode cX10_refuseMissing 7 = .ok (.putfield 105, 3) := by decide +kernel
theorem dX10_refuseMissing_10 : decode cX10_refuseMissing 10 = .ok (.new 393, 3) := by decide +kernel
theorem dX10_refuseMissing_13 : decode cX10_refuseMissing 13 = .ok (.dup, 1) := by decide +kernel
theorem dX10_refuseMissing_14 : decode cX10_refuseMissing 14 = .ok (.ldc_w 395, 3) := by decide +kernel
theorem dX10_refuseMissing_17 : decode cX10_refuseMissing 17 = .ok (.invokespecial 397, 3) := by decide +kernel
theorem dX10_refuseMissing_20 : decode cX10_refuseMissing 20 = .ok (.athrow, 1) := by decide +kernel
theorem dX10_refuseArgument_0 : decode cX10_refuseArgument 0 = .ok (.aload_n 0, 1) := by decide +kernel
theorem dX10_refuseArgument_1 : decode cX10_refuseArgument 1 = .ok (.dup, 1) := by decide +kernel
theorem dX10_refuseArgument_2 : decode cX10_refuseArgument 2 = .ok (.getfield 108, 3) := by decide +kernel
theorem dX10_refuseArgument_5 : decode cX10_refuseArgument 5 = .ok (.iconst 1, 1) := by decide +kernel
theorem dX10_refuseArgument_6 : decode cX10_refuseArgument 6 = .ok (.iadd, 1) := by decide +kernel
theorem dX10_refuseArgument_7 : decode cX10_refuseArgument 7 = .ok (.putfield 108, 3) := by decide +kernel
theorem dX10_refuseArgument_10 : decode cX10_refuseArgument 10 = .ok (.new 400, 3) := by decide +kernel
theorem dX10_refuseArgument_13 : decode cX10_refuseArgument 13 = .ok (.dup, 1) := by decide +kernel
theorem dX10_refuseArgument_14 : decode cX10_refuseArgument 14 = .ok (.ldc_w 402, 3) := by decide +kernel
theorem dX10_refuseArgument_17 : decode cX10_refuseArgument 17 = .ok (.invokespecial 404, 3) := by decide +kernel
theorem dX10_refuseArgument_20 : decode cX10_refuseArgument 20 = .ok (.athrow, 1) := by decide +kernel
theorem dX10_needWithin_0 : decode cX10_needWithin 0 = .ok (.iload_n 1, 1) := by decide +kernel
theorem dX10_needWithin_1 : decode cX10_needWithin 1 = .ok (.iload_n 2, 1) := by decide +kernel
theorem dX10_needWithin_2 : decode cX10_needWithin 2 = .ok (.if_icmp .lt 8, 3) := by decide +kernel
theorem dX10_needWithin_5 : decode cX10_needWithin 5 = .ok (.iload_n 1, 1) := by decide +kernel
theorem dX10_needWithin_6 : decode cX10_needWithin 6 = .ok (.iload_n 3, 1) := by decide +kernel
theorem dX10_needWithin_7 : decode cX10_needWithin 7 = .ok (.if_icmp .le 7, 3) := by decide +kernel
theorem dX10_needWithin_10 : decode cX10_needWithin 10 = .ok (.aload_n 0, 1) := by decide +kernel
theorem dX10_needWithin_11 : decode cX10_needWithin 11 = .ok (.invokevirtual 405, 3) := by decide +kernel
theorem dX10_needWithin_14 : decode cX10_needWithin 14 = .ok (.return_, 1) := by decide +kernel
theorem dX10_needText_0 : decode cX10_needText 0 = .ok (.aload_n 0, 1) := by decide +kernel
theorem dX10_needText_1 : decode cX10_needText 1 = .ok (.iload_n 1, 1) := by decide +kernel
theorem dX10_needText_2 : decode cX10_needText 2 = .ok (.iconst 0, 1) := by decide +kernel
theorem dX10_needText_3 : decode cX10_needText 3 = .ok (.aload_n 0, 1) := by decide +kernel
theorem dX10_needText_4 : decode cX10_needText 4 = .ok (.getfield 10, 3) := by decide +kernel
theorem dX10_needText_7 : decode cX10_needText 7 = .ok (.getfield 122, 3) := by decide +kernel
theorem dX10_needText_10 : decode cX10_needText 10 = .ok (.iload_n 2, 1) := by decide +kernel
theorem dX10_needText_11 : decode cX10_needText 11 = .ok (.invokestatic 295, 3) := by decide +kernel
theorem dX10_needText_14 : decode cX10_needText 14 = .ok (.invokevirtual 191, 3) := by decide +kernel
theorem dX10_needText_17 : decode cX10_needText 17 = .ok (.return_, 1) := by decide +kernel
theorem dX10_needPerson_0 : decode cX10_needPerson 0 = .ok (.iload_n 1, 1) := by decide +kernel
theorem dX10_needPerson_1 : decode cX10_needPerson 1 = .ok (.ifCond .lt 14, 3) := by decide +kernel
theorem dX10_needPerson_4 : decode cX10_needPerson 4 = .ok (.iload_n 1, 1) := by decide +kernel
theorem dX10_needPerson_5 : decode cX10_needPerson 5 = .ok (.aload_n 0, 1) := by decide +kernel
theorem dX10_needPerson_6 : decode cX10_needPerson 6 = .ok (.getfield 19, 3) := by decide +kernel
theorem dX10_needPerson_9 : decode cX10_needPerson 9 = .ok (.getfield 155, 3) := by decide +kernel
theorem dX10_needPerson_12 : decode cX10_needPerson 12 = .ok (.if_icmp .lt 7, 3) := by decide +kernel
theorem dX10_needPerson_15 : decode cX10_needPerson 15 = .ok (.aload_n 0, 1) := by decide +kernel
theorem dX10_needPerson_16 : decode cX10_needPerson 16 = .ok (.invokevirtual 408, 3) := by decide +kernel
theorem dX10_needPerson_19 : decode cX10_needPerson 19 = .ok (.return_, 1) := by decide +kernel
theorem dX10_needDuty_0 : decode cX10_needDuty 0 = .ok (.iload_n 1, 1) := by decide +kernel
theorem dX10_needDuty_1 : decode cX10_needDuty 1 = .ok (.ifCond .lt 14, 3) := by decide +kernel
theorem dX10_needDuty_4 : decode cX10_needDuty 4 = .ok (.iload_n 1, 1) := by decide +kernel
theorem dX10_needDuty_5 : decode cX10_needDuty 5 = .ok (.aload_n 0, 1) := by decide +kernel
theorem dX10_needDuty_6 : decode cX10_needDuty 6 = .ok (.getfield 19, 3) := by decide +kernel
theorem dX10_needDuty_9 : decode cX10_needDuty 9 = .ok (.getfield 195, 3) := by decide +kernel
theorem dX10_needDuty_12 : decode cX10_needDuty 12 = .ok (.if_icmp .lt 7, 3) := by decide +kernel
theorem dX10_needDuty_15 : decode cX10_needDuty 15 = .ok (.aload_n 0, 1) := by decide +kernel
theorem dX10_needDuty_16 : decode cX10_needDuty 16 = .ok (.invokevirtual 408, 3) := by decide +kernel
theorem dX10_needDuty_19 : decode cX10_needDuty 19 = .ok (.return_, 1) := by decide +kernel
theorem dX10_needTask_0 : decode cX10_needTask 0 = .ok (.iload_n 1, 1) := by decide +kernel
theorem dX10_needTask_1 : decode cX10_needTask 1 = .ok (.ifCond .lt 14, 3) := by decide +kernel
theorem dX10_needTask_4 : decode cX10_needTask 4 = .ok (.iload_n 1, 1) := by decide +kernel
theorem dX10_needTask_5 : decode cX10_needTask 5 = .ok (.aload_n 0, 1) := by decide +kernel
theorem dX10_needTask_6 : decode cX10_needTask 6 = .ok (.getfield 19, 3) := by decide +kernel
theorem dX10_needTask_9 : decode cX10_needTask 9 = .ok (.getfield 198, 3) := by decide +kernel
theorem dX10_needTask_12 : decode cX10_needTask 12 = .ok (.if_icmp .lt 7, 3) := by decide +kernel
theorem dX10_needTask_15 : decode cX10_needTask 15 = .ok (.aload_n 0, 1) := by decide +kernel
theorem dX10_needTask_16 : decode cX10_needTask 16 = .ok (.invokevirtual 408, 3) := by decide +kernel
theorem dX10_needTask_19 : decode cX10_needTask 19 = .ok (.return_, 1) := by decide +kernel
theorem dX10_needTwo_0 : decode cX10_needTwo 0 = .ok (.aload_n 0, 1) := by decide +kernel
theorem dX10_needTwo_1 : decode cX10_needTwo 1 = .ok (.iload_n 1, 1) := by decide +kernel
theorem dX10_needTwo_2 : decode cX10_needTwo 2 = .ok (.invokevirtual 222, 3) := by decide +kernel
theorem dX10_needTwo_5 : decode cX10_needTwo 5 = .ok (.aload_n 0, 1) := by decide +kernel
theorem dX10_needTwo_6 : decode cX10_needTwo 6 = .ok (.iload_n 2, 1) := by decide +kernel
theorem dX10_needTwo_7 : decode cX10_needTwo 7 = .ok (.invokevirtual 222, 3) := by decide +kernel
theorem dX10_needTwo_10 : decode cX10_needTwo 10 = .ok (.iload_n 1, 1) := by decide +kernel
theorem dX10_needTwo_11 : decode cX10_needTwo 11 = .ok (.iload_n 2, 1) := by decide +kernel
theorem dX10_needTwo_12 : decode cX10_needTwo 12 = .ok (.if_icmp .ne 7, 3) := by decide +kernel
theorem dX10_needTwo_15 : decode cX10_needTwo 15 = .ok (.aload_n 0, 1) := by decide +kernel
theorem dX10_needTwo_16 : decode cX10_needTwo 16 = .ok (.invokevirtual 405, 3) := by decide +kernel
theorem dX10_needTwo_19 : decode cX10_needTwo 19 = .ok (.aload_n 0, 1) := by decide +kernel
theorem dX10_needTwo_20 : decode cX10_needTwo 20 = .ok (.iload_n 3, 1) := by decide +kernel
theorem dX10_needTwo_21 : decode cX10_needTwo 21 = .ok (.iconst 0, 1) := by decide +kernel
theorem dX10_needTwo_22 : decode cX10_needTwo 22 = .ok (.bipush 20, 2) := by decide +kernel
theorem dX10_needTwo_24 : decode cX10_needTwo 24 = .ok (.invokevirtual 191, 3) := by decide +kernel
theorem dX10_needTwo_27 : decode cX10_needTwo 27 = .ok (.return_, 1) := by decide +kernel
theorem dX10_needYear_0 : decode cX10_needYear 0 = .ok (.aload_n 0, 1) := by decide +kernel
theorem dX10_needYear_1 : decode cX10_needYear 1 = .ok (.iload_n 1, 1) := by decide +kernel
theorem dX10_needYear_2 : decode cX10_needYear 2 = .ok (.iconst 1, 1) := by decide +kernel
theorem dX10_needYear_3 : decode cX10_needYear 3 = .ok (.bipush 96, 2) := by decide +kernel
theorem dX10_needYear_5 : decode cX10_needYear 5 = .ok (.invokevirtual 191, 3) := by decide +kernel
theorem dX10_needYear_8 : decode cX10_needYear 8 = .ok (.aload_n 0, 1) := by decide +kernel
theorem dX10_needYear_9 : decode cX10_needYear 9 = .ok (.iload_n 2, 1) := by decide +kernel
theorem dX10_needYear_10 : decode cX10_needYear 10 = .ok (.iconst 0, 1) := by decide +kernel
theorem dX10_needYear_11 : decode cX10_needYear 11 = .ok (.bipush 16, 2) := by decide +kernel
theorem dX10_needYear_13 : decode cX10_needYear 13 = .ok (.invokevirtual 191, 3) := by decide +kernel
theorem dX10_needYear_16 : decode cX10_needYear 16 = .ok (.aload_n 0, 1) := by decide +kernel
theorem dX10_needYear_17 : decode cX10_needYear 17 = .ok (.iload_n 3, 1) := by decide +kernel
theorem dX10_needYear_18 : decode cX10_needYear 18 = .ok (.iconst 0, 1) := by decide +kernel
theorem dX10_needYear_19 : decode cX10_needYear 19 = .ok (.bipush 16, 2) := by decide +kernel
theorem dX10_needYear_21 : decode cX10_needYear 21 = .ok (.invokevirtual 191, 3) := by decide +kernel
theorem dX10_needYear_24 : decode cX10_needYear 24 = .ok (.return_, 1) := by decide +kernel
theorem dX10_tryWeeks_0 : decode cX10_tryWeeks 0 = .ok (.aload_n 0, 1) := by decide +kernel
theorem dX10_tryWeeks_1 : decode cX10_tryWeeks 1 = .ok (.getfield 62, 3) := by decide +kernel
theorem dX10_tryWeeks_4 : decode cX10_tryWeeks 4 = .ok (.aload_n 0, 1) := by decide +kernel
theorem dX10_tryWeeks_5 : decode cX10_tryWeeks 5 = .ok (.getfield 58, 3) := by decide +kernel
theorem dX10_tryWeeks_8 : decode cX10_tryWeeks 8 = .ok (.invokevirtual 287, 3) := by decide +kernel
theorem dX10_tryWeeks_11 : decode cX10_tryWeeks 11 = .ok (.iconst 0, 1) := by decide +kernel
theorem dX10_tryWeeks_12 : decode cX10_tryWeeks 12 = .ok (.istore_n 2, 1) := by decide +kernel
theorem dX10_tryWeeks_13 : decode cX10_tryWeeks 13 = .ok (.iload_n 2, 1) := by decide +kernel
theorem dX10_tryWeeks_14 : decode cX10_tryWeeks 14 = .ok (.iload_n 1, 1) := by decide +kernel
theorem dX10_tryWeeks_15 : decode cX10_tryWeeks 15 = .ok (.if_icmp .ge 16, 3) := by decide +kernel
theorem dX10_tryWeeks_18 : decode cX10_tryWeeks 18 = .ok (.aload_n 0, 1) := by decide +kernel
theorem dX10_tryWeeks_19 : decode cX10_tryWeeks 19 = .ok (.getfield 62, 3) := by decide +kernel
theorem dX10_tryWeeks_22 : decode cX10_tryWeeks 22 = .ok (.invokevirtual 411, 3) := by decide +kernel
theorem dX10_tryWeeks_25 : decode cX10_tryWeeks 25 = .ok (.iinc 2 1, 3) := by decide +kernel
theorem dX10_tryWeeks_28 : decode cX10_tryWeeks 28 = .ok (.goto (-15), 3) := by decide +kernel
theorem dX10_tryWeeks_31 : decode cX10_tryWeeks 31 = .ok (.return_, 1) := by decide +kernel
theorem dX10_bitsBelow_0 : decode cX10_bitsBelow 0 = .ok (.iconst 1, 1) := by decide +kernel
theorem dX10_bitsBelow_1 : decode cX10_bitsBelow 1 = .ok (.iload_n 0, 1) := by decide +kernel
theorem dX10_bitsBelow_2 : decode cX10_bitsBelow 2 = .ok (.ishl, 1) := by decide +kernel
theorem dX10_bitsBelow_3 : decode cX10_bitsBelow 3 = .ok (.iconst 1, 1) := by decide +kernel
theorem dX10_bitsBelow_4 : decode cX10_bitsBelow 4 = .ok (.isub, 1) := by decide +kernel
theorem dX10_bitsBelow_5 : decode cX10_bitsBelow 5 = .ok (.ireturn, 1) := by decide +kernel
theorem dX10_choose_0 : decode cX10_choose 0 = .ok (.iload_n 1, 1) := by decide +kernel
theorem dX10_choose_1 : decode cX10_choose 1 = .ok (.ifCond .lt 8, 3) := by decide +kernel
theorem dX10_choose_4 : decode cX10_choose 4 = .ok (.iload_n 1, 1) := by decide +kernel
theorem dX10_choose_5 : decode cX10_choose 5 = .ok (.iload_n 0, 1) := by decide +kernel
theorem dX10_choose_6 : decode cX10_choose 6 = .ok (.if_icmp .le 5, 3) := by decide +kernel
theorem dX10_choose_9 : decode cX10_choose 9 = .ok (.lconst 0, 1) := by decide +kernel
theorem dX10_choose_10 : decode cX10_choose 10 = .ok (.lreturn, 1) := by decide +kernel
theorem dX10_choose_11 : decode cX10_choose 11 = .ok (.lconst 1, 1) := by decide +kernel
theorem dX10_choose_12 : decode cX10_choose 12 = .ok (.lstore_n 2, 1) := by decide +kernel
theorem dX10_choose_13 : decode cX10_choose 13 = .ok (.iconst 1, 1) := by decide +kernel
theorem dX10_choose_14 : decode cX10_choose 14 = .ok (.istore 4, 2) := by decide +kernel
theorem dX10_choose_16 : decode cX10_choose 16 = .ok (.iload 4, 2) := by decide +kernel
theorem dX10_choose_18 : decode cX10_choose 18 = .ok (.iload_n 1, 1) := by decide +kernel
theorem dX10_choose_19 : decode cX10_choose 19 = .ok (.if_icmp .gt 23, 3) := by decide +kernel
theorem dX10_choose_22 : decode cX10_choose 22 = .ok (.lload_n 2, 1) := by decide +kernel
theorem dX10_choose_23 : decode cX10_choose 23 = .ok (.iload_n 0, 1) := by decide +kernel
theorem dX10_choose_24 : decode cX10_choose 24 = .ok (.iload_n 1, 1) := by decide +kernel
theorem dX10_choose_25 : decode cX10_choose 25 = .ok (.isub, 1) := by decide +kernel
theorem dX10_choose_26 : decode cX10_choose 26 = .ok (.iload 4, 2) := by decide +kernel
theorem dX10_choose_28 : decode cX10_choose 28 = .ok (.iadd, 1) := by decide +kernel
theorem dX10_choose_29 : decode cX10_choose 29 = .ok (.i2l, 1) := by decide +kernel
theorem dX10_choose_30 : decode cX10_choose 30 = .ok (.lmul, 1) := by decide +kernel
theorem dX10_choose_31 : decode cX10_choose 31 = .ok (.iload 4, 2) := by decide +kernel
theorem dX10_choose_33 : decode cX10_choose 33 = .ok (.i2l, 1) := by decide +kernel
theorem dX10_choose_34 : decode cX10_choose 34 = .ok (.ldiv, 1) := by decide +kernel
theorem dX10_choose_35 : decode cX10_choose 35 = .ok (.lstore_n 2, 1) := by decide +kernel
theorem dX10_choose_36 : decode cX10_choose 36 = .ok (.iinc 4 1, 3) := by decide +kernel
theorem dX10_choose_39 : decode cX10_choose 39 = .ok (.goto (-23), 3) := by decide +kernel
theorem dX10_choose_42 : decode cX10_choose 42 = .ok (.lload_n 2, 1) := by decide +kernel
theorem dX10_choose_43 : decode cX10_choose 43 = .ok (.lreturn, 1) := by decide +kernel
theorem dX10_shopHas_0 : decode cX10_shopHas 0 = .ok (.iload_n 0, 1) := by decide +kernel
theorem dX10_shopHas_1 : decode cX10_shopHas 1 = .ok (.ifCond .ne 13, 3) := by decide +kernel
theorem dX10_shopHas_4 : decode cX10_shopHas 4 = .ok (.iload_n 1, 1) := by decide +kernel
theorem dX10_shopHas_5 : decode cX10_shopHas 5 = .ok (.ifCond .ne 7, 3) := by decide +kernel
theorem dX10_shopHas_8 : decode cX10_shopHas 8 = .ok (.iload_n 2, 1) := by decide +kernel
theorem dX10_shopHas_9 : decode cX10_shopHas 9 = .ok (.goto 4, 3) := by decide +kernel
theorem dX10_shopHas_12 : decode cX10_shopHas 12 = .ok (.iload_n 3, 1) := by decide +kernel
theorem dX10_shopHas_13 : decode cX10_shopHas 13 = .ok (.ireturn, 1) := by decide +kernel
theorem dX10_shopHas_14 : decode cX10_shopHas 14 = .ok (.iload_n 1, 1) := by decide +kernel
theorem dX10_shopHas_15 : decode cX10_shopHas 15 = .ok (.ifCond .ne 7, 3) := by decide +kernel
theorem dX10_shopHas_18 : decode cX10_shopHas 18 = .ok (.iconst (-1), 1) := by decide +kernel
theorem dX10_shopHas_19 : decode cX10_shopHas 19 = .ok (.goto 4, 3) := by decide +kernel
theorem dX10_shopHas_22 : decode cX10_shopHas 22 = .ok (.iconst 0, 1) := by decide +kernel
theorem dX10_shopHas_23 : decode cX10_shopHas 23 = .ok (.ireturn, 1) := by decide +kernel
theorem dX11_init_0 : decode cX11_init 0 = .ok (.aload_n 0, 1) := by decide +kernel
theorem dX11_init_1 : decode cX11_init 1 = .ok (.invokespecial 1, 3) := by decide +kernel
theorem dX11_init_4 : decode cX11_init 4 = .ok (.aload_n 0, 1) := by decide +kernel
theorem dX11_init_5 : decode cX11_init 5 = .ok (.iconst (-1), 1) := by decide +kernel
theorem dX11_init_6 : decode cX11_init 6 = .ok (.putfield 9, 3) := by decide +kernel
theorem dX11_init_9 : decode cX11_init 9 = .ok (.aload_n 0, 1) := by decide +kernel
theorem dX11_init_10 : decode cX11_init 10 = .ok (.sipush 600, 3) := by decide +kernel
theorem dX11_init_13 : decode cX11_init 13 = .ok (.newarray .int, 2) := by decide +kernel
theorem dX11_init_15 : decode cX11_init 15 = .ok (.putfield 13, 3) := by decide +kernel
theorem dX11_init_18 : decode cX11_init 18 = .ok (.aload_n 0, 1) := by decide +kernel
theorem dX11_init_19 : decode cX11_init 19 = .ok (.iconst 2, 1) := by decide +kernel
theorem dX11_init_20 : decode cX11_init 20 = .ok (.newarray .int, 2) := by decide +kernel
theorem dX11_init_22 : decode cX11_init 22 = .ok (.putfield 17, 3) := by decide +kernel
theorem dX11_init_25 : decode cX11_init 25 = .ok (.aload_n 0, 1) := by decide +kernel
theorem dX11_init_26 : decode cX11_init 26 = .ok (.iconst 3, 1) := by decide +kernel
theorem dX11_init_27 : decode cX11_init 27 = .ok (.newarray .int, 2) := by decide +kernel
theorem dX11_init_29 : decode cX11_init 29 = .ok (.putfield 20, 3) := by decide +kernel
theorem dX11_init_32 : decode cX11_init 32 = .ok (.aload_n 0, 1) := by decide +kernel
theorem dX11_init_33 : decode cX11_init 33 = .ok (.iconst 3, 1) := by decide +kernel
theorem dX11_init_34 : decode cX11_init 34 = .ok (.newarray .int, 2) := by decide +kernel
theorem dX11_init_36 : decode cX11_init 36 = .ok (.putfield 23, 3) := by decide +kernel
theorem dX11_init_39 : decode cX11_init 39 = .ok (.aload_n 0, 1) := by decide +kernel
theorem dX11_init_40 : decode cX11_init 40 = .ok (.bipush 6, 2) := by decide +kernel
theorem dX11_init_42 : decode cX11_init 42 = .ok (.newarray .int, 2) := by decide +kernel
theorem dX11_init_44 : decode cX11_init 44 = .ok (.putfield 26, 3) := by decide +kernel
theorem dX11_init_47 : decode cX11_init 47 = .ok (.aload_n 0, 1) := by decide +kernel
theorem dX11_init_48 : decode cX11_init 48 = .ok (.bipush 6, 2) := by decide +kernel
theorem dX11_init_50 : decode cX11_init 50 = .ok (.newarray .int, 2) := by decide +kernel
theorem dX11_init_52 : decode cX11_init 52 = .ok (.putfield 29, 3) := by decide +kernel
theorem dX11_init_55 : decode cX11_init 55 = .ok (.aload_n 0, 1) := by decide +kernel
theorem dX11_init_56 : decode cX11_init 56 = .ok (.bipush 6, 2) := by decide +kernel
theorem dX11_init_58 : decode cX11_init 58 = .ok (.newarray .int, 2) := by decide +kernel
theorem dX11_init_60 : decode cX11_init 60 = .ok (.putfield 32, 3) := by decide +kernel
theorem dX11_init_63 : decode cX11_init 63 = .ok (.aload_n 0, 1) := by decide +kernel
theorem dX11_init_64 : decode cX11_init 64 = .ok (.bipush 6, 2) := by decide +kernel
theorem dX11_init_66 : decode cX11_init 66 = .ok (.newarray .int, 2) := by decide +kernel
theorem dX11_init_68 : decode cX11_init 68 = .ok (.putfield 35, 3) := by decide +kernel
theorem dX11_init_71 : decode cX11_init 71 = .ok (.aload_n 0, 1) := by decide +kernel
theorem dX11_init_72 : decode cX11_init 72 = .ok (.bipush 6, 2) := by decide +kernel
theorem dX11_init_74 : decode cX11_init 74 = .ok (.iconst 2, 1) := by decide +kernel
theorem dX11_init_75 : decode cX11_init 75 = .ok (.multianewarray 38 2, 4) := by decide +kernel
theorem dX11_init_79 : decode cX11_init 79 = .ok (.putfield 40, 3) := by decide +kernel
theorem dX11_init_82 : decode cX11_init 82 = .ok (.aload_n 0, 1) := by decide +kernel
theorem dX11_init_83 : decode cX11_init 83 = .ok (.bipush 6, 2) := by decide +kernel
theorem dX11_init_85 : decode cX11_init 85 = .ok (.iconst 2, 1) := by decide +kernel
theorem dX11_init_86 : decode cX11_init 86 = .ok (.multianewarray 38 2, 4) := by decide +kernel
theorem dX11_init_90 : decode cX11_init 90 = .ok (.putfield 43, 3) := by decide +kernel
theorem dX11_init_93 : decode cX11_init 93 = .ok (.aload_n 0, 1) := by decide +kernel
theorem dX11_init_94 : decode cX11_init 94 = .ok (.bipush 12, 2) := by decide +kernel
theorem dX11_init_96 : decode cX11_init 96 = .ok (.iconst 3, 1) := by decide +kernel
theorem dX11_init_97 : decode cX11_init 97 = .ok (.multianewarray 38 2, 4) := by decide +kernel
theorem dX11_init_101 : decode cX11_init 101 = .ok (.putfield 46, 3) := by decide +kernel
theorem dX11_init_104 : decode cX11_init 104 = .ok (.aload_n 0, 1) := by decide +kernel
theorem dX11_init_105 : decode cX11_init 105 = .ok (.bipush 12, 2) := by decide +kernel
theorem dX11_init_107 : decode cX11_init 107 = .ok (.iconst 3, 1) := by decide +kernel
theorem dX11_init_108 : decode cX11_init 108 = .ok (.multianewarray 38 2, 4) := by decide +kernel
theorem dX11_init_112 : decode cX11_init 112 = .ok (.putfield 49, 3) := by decide +kernel
theorem dX11_init_115 : decode cX11_init 115 = .ok (.aload_n 0, 1) := by decide +kernel
theorem dX11_init_116 : decode cX11_init 116 = .ok (.sipush 160, 3) := by decide +kernel
theorem dX11_init_119 : decode cX11_init 119 = .ok (.iconst 2, 1) := by decide +kernel
theorem dX11_init_120 : decode cX11_init 120 = .ok (.multianewarray 38 2, 4) := by decide +kernel
theorem dX11_init_124 : decode cX11_init 124 = .ok (.putfield 52, 3) := by decide +kernel
theorem dX11_init_127 : decode cX11_init 127 = .ok (.aload_n 0, 1) := by decide +kernel
theorem dX11_init_128 : decode cX11_init 128 = .ok (.sipush 160, 3) := by decide +kernel
theorem dX11_init_131 : decode cX11_init 131 = .ok (.iconst 2, 1) := by decide +kernel
theorem dX11_init_132 : decode cX11_init 132 = .ok (.multianewarray 38 2, 4) := by decide +kernel
theorem dX11_init_136 : decode cX11_init 136 = .ok (.putfield 55, 3) := by decide +kernel
theorem dX11_init_139 : decode cX11_init 139 = .ok (.aload_n 0, 1) := by decide +kernel
theorem dX11_init_140 : decode cX11_init 140 = .ok (.bipush 6, 2) := by decide +kernel
theorem dX11_init_142 : decode cX11_init 142 = .ok (.iconst 2, 1) := by decide +kernel
theorem dX11_init_143 : decode cX11_init 143 = .ok (.multianewarray 38 2, 4) := by decide +kernel
theorem dX11_init_147 : decode cX11_init 147 = .ok (.putfield 58, 3) := by decide +kernel
theorem dX11_init_150 : decode cX11_init 150 = .ok (.aload_n 0, 1) := by decide +kernel
theorem dX11_init_151 : decode cX11_init 151 = .ok (.bipush 6, 2) := by decide +kernel
theorem dX11_init_153 : decode cX11_init 153 = .ok (.iconst 2, 1) := by decide +kernel
theorem dX11_init_154 : decode cX11_init 154 = .ok (.multianewarray 38 2, 4) := by decide +kernel
theorem dX11_init_158 : decode cX11_init 158 = .ok (.putfield 61, 3) := by decide +kernel
theorem dX11_init_161 : decode cX11_init 161 = .ok (.aload_n 0, 1) := by decide +kernel
theorem dX11_init_162 : decode cX11_init 162 = .ok (.sipush 160, 3) := by decide +kernel
theorem dX11_init_165 : decode cX11_init 165 = .ok (.newarray .int, 2) := by decide +kernel
theorem dX11_init_167 : decode cX11_init 167 = .ok (.putfield 64, 3) := by decide +kernel
theorem dX11_init_170 : decode cX11_init 170 = .ok (.aload_n 0, 1) := by decide +kernel
theorem dX11_init_171 : decode cX11_init 171 = .ok (.bipush 8, 2) := by decide +kernel
theorem dX11_init_173 : decode cX11_init 173 = .ok (.newarray .int, 2) := by decide +kernel
theorem dX11_init_175 : decode cX11_init 175 = .ok (.putfield 67, 3) := by decide +kernel
theorem dX11_init_178 : decode cX11_init 178 = .ok (.aload_n 0, 1) := by decide +kernel
theorem dX11_init_179 : decode cX11_init 179 = .ok (.bipush 80, 2) := by decide +kernel
theorem dX11_init_181 : decode cX11_init 181 = .ok (.iconst 4, 1) := by decide +kernel
theorem dX11_init_182 : decode cX11_init 182 = .ok (.multianewarray 38 2, 4) := by decide +kernel
theorem dX11_init_186 : decode cX11_init 186 = .ok (.putfield 70, 3) := by decide +kernel
theorem dX11_init_189 : decode cX11_init 189 = .ok (.aload_n 0, 1) := by decide +kernel
theorem dX11_init_190 : decode cX11_init 190 = .ok (.bipush 56, 2) := by decide +kernel
theorem dX11_init_192 : decode cX11_init 192 = .ok (.newarray .int, 2) := by decide +kernel
theorem dX11_init_194 : decode cX11_init 194 = .ok (.putfield 73, 3) := by decide +kernel
theorem dX11_init_197 : decode cX11_init 197 = .ok (.aload_n 0, 1) := by decide +kernel
theorem dX11_init_198 : decode cX11_init 198 = .ok (.bipush 56, 2) := by decide +kernel
theorem dX11_init_200 : decode cX11_init 200 = .ok (.newarray .int, 2) := by decide +kernel
theorem dX11_init_202 : decode cX11_init 202 = .ok (.putfield 76, 3) := by decide +kernel
theorem dX11_init_205 : decode cX11_init 205 = .ok (.aload_n 0, 1) := by decide +kernel
theorem dX11_init_206 : decode cX11_init 206 = .ok (.bipush 16, 2) := by decide +kernel
theorem dX11_init_208 : decode cX11_init 208 = .ok (.bipush 56, 2) := by decide +kernel
theorem dX11_init_210 : decode cX11_init 210 = .ok (.multianewarray 38 2, 4) := by decide +kernel
theorem dX11_init_214 : decode cX11_init 214 = .ok (.putfield 79, 3) := by decide +kernel
theorem dX11_init_217 : decode cX11_init 217 = .ok (.aload_n 0, 1) := by decide +kernel
theorem dX11_init_218 : decode cX11_init 218 = .ok (.iconst 3, 1) := by decide +kernel
theorem dX11_init_219 : decode cX11_init 219 = .ok (.sipush 953, 3) := by decide +kernel
theorem dX11_init_222 : decode cX11_init 222 = .ok (.multianewarray 38 2, 4) := by decide +kernel
theorem dX11_init_226 : decode cX11_init 226 = .ok (.putfield 82, 3) := by decide +kernel
theorem dX11_init_229 : decode cX11_init 229 = .ok (.aload_n 0, 1) := by decide +kernel
theorem dX11_init_230 : decode cX11_init 230 = .ok (.bipush 6, 2) := by decide +kernel
theorem dX11_init_232 : decode cX11_init 232 = .ok (.newarray .int, 2) := by decide +kernel
theorem dX11_init_234 : decode cX11_init 234 = .ok (.putfield 85, 3) := by decide +kernel
theorem dX11_init_237 : decode cX11_init 237 = .ok (.aload_n 0, 1) := by decide +kernel
theorem dX11_init_238 : decode cX11_init 238 = .ok (.bipush 6, 2) := by decide +kernel
theorem dX11_init_240 : decode cX11_init 240 = .ok (.newarray .int, 2) := by decide +kernel
theorem dX11_init_242 : decode cX11_init 242 = .ok (.putfield 88, 3) := by decide +kernel
theorem dX11_init_245 : decode cX11_init 245 = .ok (.aload_n 0, 1) := by decide +kernel
theorem dX11_init_246 : decode cX11_init 246 = .ok (.invokevirtual 91, 3) := by decide +kernel
theorem dX11_init_249 : decode cX11_init 249 = .ok (.aload_n 0, 1) := by decide +kernel
theorem dX11_init_250 : decode cX11_init 250 = .ok (.invokevirtual 94, 3) := by decide +kernel
theorem dX11_init_253 : decode cX11_init 253 = .ok (.return_, 1) := by decide +kernel
theorem dX11_tellsNothing_0 : decode cX11_tellsNothing 0 = .ok (.iconst 0, 1) := by decide +kernel
theorem dX11_tellsNothing_1 : decode cX11_tellsNothing 1 = .ok (.istore_n 1, 1) := by decide +kernel
theorem dX11_tellsNothing_2 : decode cX11_tellsNothing 2 = .ok (.iload_n 1, 1) := by decide +kernel
theorem dX11_tellsNothing_3 : decode cX11_tellsNothing 3 = .ok (.iconst 3, 1) := by decide +kernel
theorem dX11_tellsNothing_4 : decode cX11_tellsNothing 4 = .ok (.if_icmp .ge 16, 3) := by decide +kernel
theorem dX11_tellsNothing_7 : decode cX11_tellsNothing 7 = .ok (.aload_n 0, 1) := by decide +kernel
theorem dX11_tellsNothing_8 : decode cX11_tellsNothing 8 = .ok (.getfield 20, 3) := by decide +kernel
theorem dX11_tellsNothing_11 : decode cX11_tellsNothing 11 = .ok (.iload_n 1, 1) := by decide +kernel
theorem dX11_tellsNothing_12 : decode cX11_tellsNothing 12 = .ok (.iconst 0, 1) := by decide +kernel
theorem dX11_tellsNothing_13 : decode cX11_tellsNothing 13 = .ok (.iastore, 1) := by decide +kernel
theorem dX11_tellsNothing_14 : decode cX11_tellsNothing 14 = .ok (.iinc 1 1, 3) := by decide +kernel
theorem dX11_tellsNothing_17 : decode cX11_tellsNothing 17 = .ok (.goto (-15), 3) := by decide +kernel
theorem dX11_tellsNothing_20 : decode cX11_tellsNothing 20 = .ok (.iconst 0, 1) := by decide +kernel
theorem dX11_tellsNothing_21 : decode cX11_tellsNothing 21 = .ok (.istore_n 1, 1) := by decide +kernel
theorem dX11_tellsNothing_22 : decode cX11_tellsNothing 22 = .ok (.iload_n 1, 1) := by decide +kernel
theorem dX11_tellsNothing_23 : decode cX11_tellsNothing 23 = .ok (.bipush 6, 2) := by decide +kernel
theorem dX11_tellsNothing_25 : decode cX11_tellsNothing 25 = .ok (.if_icmp .ge 16, 3) := by decide +kernel
theorem dX11_tellsNothing_28 : decode cX11_tellsNothing 28 = .ok (.aload_n 0, 1) := by decide +kernel
theorem dX11_tellsNothing_29 : decode cX11_tellsNothing 29 = .ok (.getfield 32, 3) := by decide +kernel
theorem dX11_tellsNothing_32 : decode cX11_tellsNothing 32 = .ok (.iload_n 1, 1) := by decide +kernel
theorem dX11_tellsNothing_33 : decode cX11_tellsNothing 33 = .ok (.iconst 0, 1) := by decide +kernel
theorem dX11_tellsNothing_34 : decode cX11_tellsNothing 34 = .ok (.iastore, 1) := by decide +kernel
theorem dX11_tellsNothing_35 : decode cX11_tellsNothing 35 = .ok (.iinc 1 1, 3) := by decide +kernel
theorem dX11_tellsNothing_38 : decode cX11_tellsNothing 38 = .ok (.goto (-16), 3) := by decide +kernel
theorem dX11_tellsNothing_41 : decode cX11_tellsNothing 41 = .ok (.return_, 1) := by decide +kernel
theorem dX11_thrown_0 : decode cX11_thrown 0 = .ok (.aload_n 0, 1) := by decide +kernel
theorem dX11_thrown_1 : decode cX11_thrown 1 = .ok (.getfield 97, 3) := by decide +kernel
theorem dX11_thrown_4 : decode cX11_thrown 4 = .ok (.ireturn, 1) := by decide +kernel
theorem dX11_bad_0 : decode cX11_bad 0 = .ok (.iload_n 1, 1) := by decide +kernel
theorem dX11_bad_1 : decode cX11_bad 1 = .ok (.ifCond .eq 25, 3) := by decide +kernel
theorem dX11_bad_4 : decode cX11_bad 4 = .ok (.aload_n 0, 1) := by decide +kernel
theorem dX11_bad_5 : decode cX11_bad 5 = .ok (.getfield 97, 3) := by decide +kernel
theorem dX11_bad_8 : decode cX11_bad 8 = .ok (.ifCond .ne 18, 3) := by decide +kernel
theorem dX11_bad_11 : decode cX11_bad 11 = .ok (.aload_n 0, 1) := by decide +kernel
theorem dX11_bad_12 : decode cX11_bad 12 = .ok (.iload_n 2, 1) := by decide +kernel
theorem dX11_bad_13 : decode cX11_bad 13 = .ok (.putfield 97, 3) := by decide +kernel
theorem dX11_bad_16 : decode cX11_bad 16 = .ok (.aload_n 0, 1) := by decide +kernel
theorem dX11_bad_17 : decode cX11_bad 17 = .ok (.getfield 17, 3) := by decide +kernel
theorem dX11_bad_20 : decode cX11_bad 20 = .ok (.iload_n 3, 1) := by decide +kernel
theorem dX11_bad_21 : decode cX11_bad 21 = .ok (.dup2, 1) := by decide +kernel
theorem dX11_bad_22 : decode cX11_bad 22 = .ok (.iaload, 1) := by decide +kernel
theorem dX11_bad_23 : decode cX11_bad 23 = .ok (.iconst 1, 1) := by decide +kernel
theorem dX11_bad_24 : decode cX11_bad 24 = .ok (.iadd, 1) := by decide +kernel
theorem dX11_bad_25 : decode cX11_bad 25 = .ok (.iastore, 1) := by decide +kernel
theorem dX11_bad_26 : decode cX11_bad 26 = .ok (.aload_n 0, 1) := by decide +kernel
theorem dX11_bad_27 : decode cX11_bad 27 = .ok (.getfield 97, 3) := by decide +kernel
theorem dX11_bad_30 : decode cX11_bad 30 = .ok (.ifCond .eq 7, 3) := by decide +kernel
theorem dX11_bad_33 : decode cX11_bad 33 = .ok (.iconst 1, 1) := by decide +kernel
theorem dX11_bad_34 : decode cX11_bad 34 = .ok (.goto 4, 3) := by decide +kernel
theorem dX11_bad_37 : decode cX11_bad 37 = .ok (.iconst 0, 1) := by decide +kernel
theorem dX11_bad_38 : decode cX11_bad 38 = .ok (.ireturn, 1) := by decide +kernel
theorem dX11_in_0 : decode cX11_in 0 = .ok (.iload_n 0, 1) := by decide +kernel
theorem dX11_in_1 : decode cX11_in 1 = .ok (.iload_n 1, 1) := by decide +kernel
theorem dX11_in_2 : decode cX11_in 2 = .ok (.if_icmp .lt 12, 3) := by decide +kernel
theorem dX11_in_5 : decode cX11_in 5 = .ok (.iload_n 0, 1) := by decide +kernel
theorem dX11_in_6 : decode cX11_in 6 = .ok (.iload_n 2, 1) := by decide +kernel
theorem dX11_in_7 : decode cX11_in 7 = .ok (.if_icmp .gt 7, 3) := by decide +kernel
theorem dX11_in_10 : decode cX11_in 10 = .ok (.iconst 1, 1) := by decide +kernel
theorem dX11_in_11 : decode cX11_in 11 = .ok (.goto 4, 3) := by decide +kernel
theorem dX11_in_14 : decode cX11_in 14 = .ok (.iconst 0, 1) := by decide +kernel
theorem dX11_in_15 : decode cX11_in 15 = .ok (.ireturn, 1) := by decide +kernel
theorem dX11_less_0 : decode cX11_less 0 = .ok (.iload_n 0, 1) := by decide +kernel
theorem dX11_less_1 : decode cX11_less 1 = .ok (.iload_n 1, 1) := by decide +kernel
theorem dX11_less_2 : decode cX11_less 2 = .ok (.if_icmp .ge 7, 3) := by decide +kernel
theorem dX11_less_5 : decode cX11_less 5 = .ok (.iload_n 0, 1) := by decide +kernel
theorem dX11_less_6 : decode cX11_less 6 = .ok (.goto 4, 3) := by decide +kernel
theorem dX11_less_9 : decode cX11_less 9 = .ok (.iload_n 1, 1) := by decide +kernel
theorem dX11_less_10 : decode cX11_less 10 = .ok (.ireturn, 1) := by decide +kernel
theorem dX11_more_0 : decode cX11_more 0 = .ok (.iload_n 0, 1) := by decide +kernel
theorem dX11_more_1 : decode cX11_more 1 = .ok (.iload_n 1, 1) := by decide +kernel
theorem dX11_more_2 : decode cX11_more 2 = .ok (.if_icmp .le 7, 3) := by decide +kernel
theorem dX11_more_5 : decode cX11_more 5 = .ok (.iload_n 0, 1) := by decide +kernel
theorem dX11_more_6 : decode cX11_more 6 = .ok (.goto 4, 3) := by decide +kernel
theorem dX11_more_9 : decode cX11_more 9 = .ok (.iload_n 1, 1) := by decide +kernel
theorem dX11_more_10 : decode cX11_more 10 = .ok (.ireturn, 1) := by decide +kernel
theorem dX11_has_0 : decode cX11_has 0 = .ok (.iload_n 0, 1) := by decide +kernel
theorem dX11_has_1 : decode cX11_has 1 = .ok (.iload_n 1, 1) := by decide +kernel
theorem dX11_has_2 : decode cX11_has 2 = .ok (.ishr, 1) := by decide +kernel
theorem dX11_has_3 : decode cX11_has 3 = .ok (.iconst 1, 1) := by decide +kernel
theorem dX11_has_4 : decode cX11_has 4 = .ok (.iand, 1) := by decide +kernel
theorem dX11_has_5 : decode cX11_has 5 = .ok (.iconst 1, 1) := by decide +kernel
theorem dX11_has_6 : decode cX11_has 6 = .ok (.if_icmp .ne 7, 3) := by decide +kernel
theorem dX11_has_9 : decode cX11_has 9 = .ok (.iconst 1, 1) := by decide +kernel
theorem dX11_has_10 : decode cX11_has 10 = .ok (.goto 4, 3) := by decide +kernel
theorem dX11_has_13 : decode cX11_has 13 = .ok (.iconst 0, 1) := by decide +kernel
theorem dX11_has_14 : decode cX11_has 14 = .ok (.ireturn, 1) := by decide +kernel
theorem dX11_feed_0 : decode cX11_feed 0 = .ok (.aload_n 0, 1) := by decide +kernel
theorem dX11_feed_1 : decode cX11_feed 1 = .ok (.iconst 0, 1) := by decide +kernel
theorem dX11_feed_2 : decode cX11_feed 2 = .ok (.putfield 97, 3) := by decide +kernel
theorem dX11_feed_5 : decode cX11_feed 5 = .ok (.aload_n 0, 1) := by decide +kernel
theorem dX11_feed_6 : decode cX11_feed 6 = .ok (.getfield 100, 3) := by decide +kernel
theorem dX11_feed_9 : decode cX11_feed 9 = .ok (.bipush 20, 2) := by decide +kernel
theorem dX11_feed_11 : decode cX11_feed 11 = .ok (.iadd, 1) := by decide +kernel
theorem dX11_feed_12 : decode cX11_feed 12 = .ok (.sipush 600, 3) := by decide +kernel
theorem dX11_feed_15 : decode cX11_feed 15 = .ok (.if_icmp .le 5, 3) := by decide +kernel
theorem dX11_feed_18 : decode cX11_feed 18 = .ok (.iconst (-1), 1) := by decide +kernel
theorem dX11_feed_19 : decode cX11_feed 19 = .ok (.ireturn, 1) := by decide +kernel
theorem dX11_feed_20 : decode cX11_feed 20 = .ok (.iconst 0, 1) := by decide +kernel
theorem dX11_feed_21 : decode cX11_feed 21 = .ok (.istore 6, 2) := by decide +kernel
theorem dX11_feed_23 : decode cX11_feed 23 = .ok (.iload 6, 2) := by decide +kernel
theorem dX11_feed_25 : decode cX11_feed 25 = .ok (.bipush 20, 2) := by decide +kernel
theorem dX11_feed_27 : decode cX11_feed 27 = .ok (.if_icmp .ge 93, 3) := by decide +kernel
theorem dX11_feed_30 : decode cX11_feed 30 = .ok (.iload 6, 2) := by decide +kernel
theorem dX11_feed_32 : decode cX11_feed 32 = .ok (.iconst 4, 1) := by decide +kernel
theorem dX11_feed_33 : decode cX11_feed 33 = .ok (.if_icmp .ge 7, 3) := by decide +kernel
theorem dX11_feed_36 : decode cX11_feed 36 = .ok (.iload_n 1, 1) := by decide +kernel
theorem dX11_feed_37 : decode cX11_feed 37 = .ok (.goto 39, 3) := by decide +kernel
theorem dX11_feed_40 : decode cX11_feed 40 = .ok (.iload 6, 2) := by decide +kernel
theorem dX11_feed_42 : decode cX11_feed 42 = .ok (.bipush 8, 2) := by decide +kernel
theorem dX11_feed_44 : decode cX11_feed 44 = .ok (.if_icmp .ge 7, 3) := by decide +kernel
theorem dX11_feed_47 : decode cX11_feed 47 = .ok (.iload_n 2, 1) := by decide +kernel
theorem dX11_feed_48 : decode cX11_feed 48 = .ok (.goto 28, 3) := by decide +kernel
theorem dX11_feed_51 : decode cX11_feed 51 = .ok (.iload 6, 2) := by decide +kernel
theorem dX11_feed_53 : decode cX11_feed 53 = .ok (.bipush 12, 2) := by decide +kernel
theorem dX11_feed_55 : decode cX11_feed 55 = .ok (.if_icmp .ge 7, 3) := by decide +kernel
theorem dX11_feed_58 : decode cX11_feed 58 = .ok (.iload_n 3, 1) := by decide +kernel
theorem dX11_feed_59 : decode cX11_feed 59 = .ok (.goto 17, 3) := by decide +kernel
theorem dX11_feed_62 : decode cX11_feed 62 = .ok (.iload 6, 2) := by decide +kernel
theorem dX11_feed_64 : decode cX11_feed 64 = .ok (.bipush 16, 2) := by decide +kernel
theorem dX11_feed_66 : decode cX11_feed 66 = .ok (.if_icmp .ge 8, 3) := by decide +kernel
theorem dX11_feed_69 : decode cX11_feed 69 = .ok (.iload 4, 2) := by decide +kernel
theorem dX11_feed_71 : decode cX11_feed 71 = .ok (.goto 5, 3) := by decide +kernel
theorem dX11_feed_74 : decode cX11_feed 74 = .ok (.iload 5, 2) := by decide +kernel
theorem dX11_feed_76 : decode cX11_feed 76 = .ok (.istore 7, 2) := by decide +kernel
theorem dX11_feed_78 : decode cX11_feed 78 = .ok (.aload_n 0, 1) := by decide +kernel
theorem dX11_feed_79 : decode cX11_feed 79 = .ok (.getfield 13, 3) := by decide +kernel
theorem dX11_feed_82 : decode cX11_feed 82 = .ok (.aload_n 0, 1) := by decide +kernel
theorem dX11_feed_83 : decode cX11_feed 83 = .ok (.getfield 100, 3) := by decide +kernel
theorem dX11_feed_86 : decode cX11_feed 86 = .ok (.iload 7, 2) := by decide +kernel
theorem dX11_feed_88 : decode cX11_feed 88 = .ok (.bipush 24, 2) := by decide +kernel
theorem dX11_feed_90 : decode cX11_feed 90 = .ok (.bipush 8, 2) := by decide +kernel
theorem dX11_feed_92 : decode cX11_feed 92 = .ok (.iload 6, 2) := by decide +kernel
theorem dX11_feed_94 : decode cX11_feed 94 = .ok (.iconst 4, 1) := by decide +kernel
theorem dX11_feed_95 : decode cX11_feed 95 = .ok (.irem, 1) := by decide +kernel
theorem dX11_feed_96 : decode cX11_feed 96 = .ok (.imul, 1) := by decide +kernel
theorem dX11_feed_97 : decode cX11_feed 97 = .ok (.isub, 1) := by decide +kernel
theorem dX11_feed_98 : decode cX11_feed 98 = .ok (.ishr, 1) := by decide +kernel
theorem dX11_feed_99 : decode cX11_feed 99 = .ok (.sipush 255, 3) := by decide +kernel
theorem dX11_feed_102 : decode cX11_feed 102 = .ok (.iand, 1) := by decide +kernel
theorem dX11_feed_103 : decode cX11_feed 103 = .ok (.iastore, 1) := by decide +kernel
theorem dX11_feed_104 : decode cX11_feed 104 = .ok (.aload_n 0, 1) := by decide +kernel
theorem dX11_feed_105 : decode cX11_feed 105 = .ok (.dup, 1) := by decide +kernel
theorem dX11_feed_106 : decode cX11_feed 106 = .ok (.getfield 100, 3) := by decide +kernel
theorem dX11_feed_109 : decode cX11_feed 109 = .ok (.iconst 1, 1) := by decide +kernel
theorem dX11_feed_110 : decode cX11_feed 110 = .ok (.iadd, 1) := by decide +kernel
theorem dX11_feed_111 : decode cX11_feed 111 = .ok (.putfield 100, 3) := by decide +kernel
theorem dX11_feed_114 : decode cX11_feed 114 = .ok (.iinc 6 1, 3) := by decide +kernel
theorem dX11_feed_117 : decode cX11_feed 117 = .ok (.goto (-94), 3) := by decide +kernel
theorem dX11_feed_120 : decode cX11_feed 120 = .ok (.aload_n 0, 1) := by decide +kernel
theorem dX11_feed_121 : decode cX11_feed 121 = .ok (.getfield 100, 3) := by decide +kernel
theorem dX11_feed_124 : decode cX11_feed 124 = .ok (.ireturn, 1) := by decide +kernel
theorem dX11_byteAt_0 : decode cX11_byteAt 0 = .ok (.iload_n 1, 1) := by decide +kernel
theorem dX11_byteAt_1 : decode cX11_byteAt 1 = .ok (.aload_n 0, 1) := by decide +kernel
theorem dX11_byteAt_2 : decode cX11_byteAt 2 = .ok (.getfield 103, 3) := by decide +kernel
theorem dX11_byteAt_5 : decode cX11_byteAt 5 = .ok (.if_icmp .lt 7, 3) := by decide +kernel
theorem dX11_byteAt_8 : decode cX11_byteAt 8 = .ok (.iconst (-1), 1) := by decide +kernel
theorem dX11_byteAt_9 : decode cX11_byteAt 9 = .ok (.goto 9, 3) := by decide +kernel
theorem dX11_byteAt_12 : decode cX11_byteAt 12 = .ok (.aload_n 0, 1) := by decide +kernel
theorem dX11_byteAt_13 : decode cX11_byteAt 13 = .ok (.getfield 13, 3) := by decide +kernel
theorem dX11_byteAt_16 : decode cX11_byteAt 16 = .ok (.iload_n 1, 1) := by decide +kernel
theorem dX11_byteAt_17 : decode cX11_byteAt 17 = .ok (.iaload, 1) := by decide +kernel
theorem dX11_byteAt_18 : decode cX11_byteAt 18 = .ok (.ireturn, 1) := by decide +kernel
theorem dX11_blanks_0 : decode cX11_blanks 0 = .ok (.aload_n 0, 1) := by decide +kernel
theorem dX11_blanks_1 : decode cX11_blanks 1 = .ok (.aload_n 0, 1) := by decide +kernel
theorem dX11_blanks_2 : decode cX11_blanks 2 = .ok (.getfield 106, 3) := by decide +kernel
theorem dX11_blanks_5 : decode cX11_blanks 5 = .ok (.invokevirtual 109, 3) := by decide +kernel
theorem dX11_blanks_8 : decode cX11_blanks 8 = .ok (.bipush 32, 2) := by decide +kernel
theorem dX11_blanks_10 : decode cX11_blanks 10 = .ok (.if_icmp .ne 16, 3) := by decide +kernel
theorem dX11_blanks_13 : decode cX11_blanks 13 = .ok (.aload_n 0, 1) := by decide +kernel
theorem dX11_blanks_14 : decode cX11_blanks 14 = .ok (.dup, 1) := by decide +kernel
theorem dX11_blanks_15 : decode cX11_blanks 15 = .ok (.getfield 106, 3) := by decide +kernel
theorem dX11_blanks_18 : decode cX11_blanks 18 = .ok (.iconst 1, 1) := by decide +kernel
theorem dX11_blanks_19 : decode cX11_blanks 19 = .ok (.iadd, 1) := by decide +kernel
theorem dX11_blanks_20 : decode cX11_blanks 20 = .ok (.putfield 106, 3) := by decide +kernel
theorem dX11_blanks_23 : decode cX11_blanks 23 = .ok (.goto (-23), 3) := by decide +kernel
theorem dX11_blanks_26 : decode cX11_blanks 26 = .ok (.return_, 1) := by decide +kernel
theorem dX11_wrong_0 : decode cX11_wrong 0 = .ok (.aload_n 0, 1) := by decide +kernel
theorem dX11_wrong_1 : decode cX11_wrong 1 = .ok (.getfield 113, 3) := by decide +kernel
theorem dX11_wrong_4 : decode cX11_wrong 4 = .ok (.ifCond .ne 13, 3) := by decide +kernel
theorem dX11_wrong_7 : decode cX11_wrong 7 = .ok (.aload_n 0, 1) := by decide +kernel
theorem dX11_wrong_8 : decode cX11_wrong 8 = .ok (.iload_n 1, 1) := by decide +kernel
theorem dX11_wrong_9 : decode cX11_wrong 9 = .ok (.putfield 113, 3) := by decide +kernel
theorem dX11_wrong_12 : decode cX11_wrong 12 = .ok (.aload_n 0, 1) := by decide +kernel
theorem dX11_wrong_13 : decode cX11_wrong 13 = .ok (.iload_n 2, 1) := by decide +kernel
theorem dX11_wrong_14 : decode cX11_wrong 14 = .ok (.putfield 116, 3) := by decide +kernel
theorem dX11_wrong_17 : decode cX11_wrong 17 = .ok (.return_, 1) := by decide +kernel
theorem dX11_isDigit_0 : decode cX11_isDigit 0 = .ok (.iload_n 0, 1) := by decide +kernel
theorem dX11_isDigit_1 : decode cX11_isDigit 1 = .ok (.bipush 48, 2) := by decide +kernel
theorem dX11_isDigit_3 : decode cX11_isDigit 3 = .ok (.if_icmp .lt 13, 3) := by decide +kernel
theorem dX11_isDigit_6 : decode cX11_isDigit 6 = .ok (.iload_n 0, 1) := by decide +kernel
theorem dX11_isDigit_7 : decode cX11_isDigit 7 = .ok (.bipush 57, 2) := by decide +kernel
theorem dX11_isDigit_9 : decode cX11_isDigit 9 = .ok (.if_icmp .gt 7, 3) := by decide +kernel
theorem dX11_isDigit_12 : decode cX11_isDigit 12 = .ok (.iconst 1, 1) := by decide +kernel
theorem dX11_isDigit_13 : decode cX11_isDigit 13 = .ok (.goto 4, 3) := by decide +kernel
theorem dX11_isDigit_16 : decode cX11_isDigit 16 = .ok (.iconst 0, 1) := by decide +kernel
theorem dX11_isDigit_17 : decode cX11_isDigit 17 = .ok (.ireturn, 1) := by decide +kernel
theorem dX11_isSmall_0 : decode cX11_isSmall 0 = .ok (.iload_n 0, 1) := by decide +kernel
theorem dX11_isSmall_1 : decode cX11_isSmall 1 = .ok (.bipush 97, 2) := by decide +kernel
theorem dX11_isSmall_3 : decode cX11_isSmall 3 = .ok (.if_icmp .lt 13, 3) := by decide +kernel
theorem dX11_isSmall_6 : decode cX11_isSmall 6 = .ok (.iload_n 0, 1) := by decide +kernel
theorem dX11_isSmall_7 : decode cX11_isSmall 7 = .ok (.bipush 122, 2) := by decide +kernel
theorem dX11_isSmall_9 : decode cX11_isSmall 9 = .ok (.if_icmp .gt 7, 3) := by decide +kernel
theorem dX11_isSmall_12 : decode cX11_isSmall 12 = .ok (.iconst 1, 1) := by decide +kernel
theorem dX11_isSmall_13 : decode cX11_isSmall 13 = .ok (.goto 4, 3) := by decide +kernel
theorem dX11_isSmall_16 : decode cX11_isSmall 16 = .ok (.iconst 0, 1) := by decide +kernel
theorem dX11_isSmall_17 : decode cX11_isSmall 17 = .ok (.ireturn, 1) := by decide +kernel
theorem dX11_number_0 : decode cX11_number 0 = .ok (.aload_n 0, 1) := by decide +kernel
theorem dX11_number_1 : decode cX11_number 1 = .ok (.getfield 113, 3) := by decide +kernel
theorem dX11_number_4 : decode cX11_number 4 = .ok (.ifCond .eq 5, 3) := by decide +kernel
theorem dX11_number_7 : decode cX11_number 7 = .ok (.iconst 0, 1) := by decide +kernel
theorem dX11_number_8 : decode cX11_number 8 = .ok (.ireturn, 1) := by decide +kernel
theorem dX11_number_9 : decode cX11_number 9 = .ok (.aload_n 0, 1) := by decide +kernel
theorem dX11_number_10 : decode cX11_number 10 = .ok (.invokevirtual 119, 3) := by decide +kernel
theorem dX11_number_13 : decode cX11_number 13 = .ok (.aload_n 0, 1) := by decide +kernel
theorem dX11_number_14 : decode cX11_number 14 = .ok (.getfield 106, 3) := by decide +kernel
theorem dX11_number_17 : decode cX11_number 17 = .ok (.istore_n 3, 1) := by decide +kernel
theorem dX11_number_18 : decode cX11_number 18 = .ok (.iconst 0, 1) := by decide +kernel
theorem dX11_number_19 : decode cX11_number 19 = .ok (.istore 4, 2) := by decide +kernel
theorem dX11_number_21 : decode cX11_number 21 = .ok (.aload_n 0, 1) := by decide +kernel
theorem dX11_number_22 : decode cX11_number 22 = .ok (.aload_n 0, 1) := by decide +kernel
theorem dX11_number_23 : decode cX11_number 23 = .ok (.getfield 106, 3) := by decide +kernel
theorem dX11_number_26 : decode cX11_number 26 = .ok (.invokevirtual 109, 3) := by decide +kernel
theorem dX11_number_29 : decode cX11_number 29 = .ok (.invokestatic 122, 3) := by decide +kernel
theorem dX11_number_32 : decode cX11_number 32 = .ok (.ifCond .ne 12, 3) := by decide +kernel
theorem dX11_number_35 : decode cX11_number 35 = .ok (.aload_n 0, 1) := by decide +kernel
theorem dX11_number_36 : decode cX11_number 36 = .ok (.iconst 1, 1) := by decide +kernel
theorem dX11_number_37 : decode cX11_number 37 = .ok (.aload_n 0, 1) := by decide +kernel
theorem dX11_number_38 : decode cX11_number 38 = .ok (.getfield 106, 3) := by decide +kernel
theorem dX11_number_41 : decode cX11_number 41 = .ok (.invokevirtual 126, 3) := by decide +kernel
theorem dX11_number_44 : decode cX11_number 44 = .ok (.aload_n 0, 1) := by decide +kernel
theorem dX11_number_45 : decode cX11_number 45 = .ok (.aload_n 0, 1) := by decide +kernel
theorem dX11_number_46 : decode cX11_number 46 = .ok (.getfield 106, 3) := by decide +kernel
theorem dX11_number_49 : decode cX11_number 49 = .ok (.invokevirtual 109, 3) := by decide +kernel
theorem dX11_number_52 : decode cX11_number 52 = .ok (.invokestatic 122, 3) := by decide +kernel
theorem dX11_number_55 : decode cX11_number 55 = .ok (.ifCond .eq 51, 3) := by decide +kernel
theorem dX11_number_58 : decode cX11_number 58 = .ok (.bipush 10, 2) := by decide +kernel
theorem dX11_number_60 : decode cX11_number 60 = .ok (.iload 4, 2) := by decide +kernel
theorem dX11_number_62 : decode cX11_number 62 = .ok (.imul, 1) := by decide +kernel
theorem dX11_number_63 : decode cX11_number 63 = .ok (.aload_n 0, 1) := by decide +kernel
theorem dX11_number_64 : decode cX11_number 64 = .ok (.aload_n 0, 1) := by decide +kernel
theorem dX11_number_65 : decode cX11_number 65 = .ok (.getfield 106, 3) := by decide +kernel
theorem dX11_number_68 : decode cX11_number 68 = .ok (.invokevirtual 109, 3) := by decide +kernel
theorem dX11_number_71 : decode cX11_number 71 = .ok (.iadd, 1) := by decide +kernel
theorem dX11_number_72 : decode cX11_number 72 = .ok (.bipush 48, 2) := by decide +kernel
theorem dX11_number_74 : decode cX11_number 74 = .ok (.isub, 1) := by decide +kernel
theorem dX11_number_75 : decode cX11_number 75 = .ok (.istore 4, 2) := by decide +kernel
theorem dX11_number_77 : decode cX11_number 77 = .ok (.iload 4, 2) := by decide +kernel
theorem dX11_number_79 : decode cX11_number 79 = .ok (.ldc 130, 2) := by decide +kernel
theorem dX11_number_81 : decode cX11_number 81 = .ok (.if_icmp .le 8, 3) := by decide +kernel
theorem dX11_number_84 : decode cX11_number 84 = .ok (.ldc 130, 2) := by decide +kernel
theorem dX11_number_86 : decode cX11_number 86 = .ok (.goto 5, 3) := by decide +kernel
theorem dX11_number_89 : decode cX11_number 89 = .ok (.iload 4, 2) := by decide +kernel
theorem dX11_number_91 : decode cX11_number 91 = .ok (.istore 4, 2) := by decide +kernel
theorem dX11_number_93 : decode cX11_number 93 = .ok (.aload_n 0, 1) := by decide +kernel
theorem dX11_number_94 : decode cX11_number 94 = .ok (.dup, 1) := by decide +kernel
theorem dX11_number_95 : decode cX11_number 95 = .ok (.getfield 106, 3) := by decide +kernel
theorem dX11_number_98 : decode cX11_number 98 = .ok (.iconst 1, 1) := by decide +kernel
theorem dX11_number_99 : decode cX11_number 99 = .ok (.iadd, 1) := by decide +kernel
theorem dX11_number_100 : decode cX11_number 100 = .ok (.putfield 106, 3) := by decide +kernel
theorem dX11_number_103 : decode cX11_number 103 = .ok (.goto (-59), 3) := by decide +kernel
theorem dX11_number_106 : decode cX11_number 106 = .ok (.iload 4, 2) := by decide +kernel
theorem dX11_number_108 : decode cX11_number 108 = .ok (.iload_n 1, 1) := by decide +kernel
theorem dX11_number_109 : decode cX11_number 109 = .ok (.iload_n 2, 1) := by decide +kernel
theorem dX11_number_110 : decode cX11_number 110 = .ok (.invokestatic 131, 3) := by decide +kernel
theorem dX11_number_113 : decode cX11_number 113 = .ok (.ifCond .ne 9, 3) := by decide +kernel
theorem dX11_number_116 : decode cX11_number 116 = .ok (.aload_n 0, 1) := by decide +kernel
theorem dX11_number_117 : decode cX11_number 117 = .ok (.iconst 2, 1) := by decide +kernel
theorem dX11_number_118 : decode cX11_number 118 = .ok (.iload_n 3, 1) := by decide +kernel
theorem dX11_number_119 : decode cX11_number 119 = .ok (.invokevirtual 126, 3) := by decide +kernel
theorem dX11_number_122 : decode cX11_number 122 = .ok (.aload_n 0, 1) := by decide +kernel
theorem dX11_number_123 : decode cX11_number 123 = .ok (.getfield 113, 3) := by decide +kernel
theorem dX11_number_126 : decode cX11_number 126 = .ok (.ifCond .ne 8, 3) := by decide +kernel
theorem dX11_number_129 : decode cX11_number 129 = .ok (.iload 4, 2) := by decide +kernel
theorem dX11_number_131 : decode cX11_number 131 = .ok (.goto 4, 3) := by decide +kernel
theorem dX11_number_134 : decode cX11_number 134 = .ok (.iconst 0, 1) := by decide +kernel
theorem dX11_number_135 : decode cX11_number 135 = .ok (.ireturn, 1) := by decide +kernel
theorem dX11_wordHere_0 : decode cX11_wordHere 0 = .ok (.aload_n 0, 1) := by decide +kernel
theorem dX11_wordHere_1 : decode cX11_wordHere 1 = .ok (.invokevirtual 119, 3) := by decide +kernel
theorem dX11_wordHere_4 : decode cX11_wordHere 4 = .ok (.iconst 0, 1) := by decide +kernel
theorem dX11_wordHere_5 : decode cX11_wordHere 5 = .ok (.istore_n 1, 1) := by decide +kernel
theorem dX11_wordHere_6 : decode cX11_wordHere 6 = .ok (.iconst 0, 1) := by decide +kernel
theorem dX11_wordHere_7 : decode cX11_wordHere 7 = .ok (.istore_n 2, 1) := by decide +kernel
theorem dX11_wordHere_8 : decode cX11_wordHere 8 = .ok (.aload_n 0, 1) := by decide +kernel
theorem dX11_wordHere_9 : decode cX11_wordHere 9 = .ok (.aload_n 0, 1) := by decide +kernel
theorem dX11_wordHere_10 : decode cX11_wordHere 10 = .ok (.getfield 106, 3) := by decide +kernel
theorem dX11_wordHere_13 : decode cX11_wordHere 13 = .ok (.iload_n 2, 1) := by decide +kernel
theorem dX11_wordHere_14 : decode cX11_wordHere 14 = .ok (.iadd, 1) := by decide +kernel
theorem dX11_wordHere_15 : decode cX11_wordHere 15 = .ok (.invokevirtual 109, 3) := by decide +kernel
theorem dX11_wordHere_18 : decode cX11_wordHere 18 = .ok (.invokestatic 135, 3) := by decide +kernel
theorem dX11_wordHere_21 : decode cX11_wordHere 21 = .ok (.ifCond .eq 40, 3) := by decide +kernel
theorem dX11_wordHere_24 : decode cX11_wordHere 24 = .ok (.iload_n 2, 1) := by decide +kernel
theorem dX11_wordHere_25 : decode cX11_wordHere 25 = .ok (.bipush 6, 2) := by decide +kernel
theorem dX11_wordHere_27 : decode cX11_wordHere 27 = .ok (.if_icmp .ge 26, 3) := by decide +kernel
theorem dX11_wordHere_30 : decode cX11_wordHere 30 = .ok (.bipush 27, 2) := by decide +kernel
theorem dX11_wordHere_32 : decode cX11_wordHere 32 = .ok (.iload_n 1, 1) := by decide +kernel
theorem dX11_wordHere_33 : decode cX11_wordHere 33 = .ok (.imul, 1) := by decide +kernel
theorem dX11_wordHere_34 : decode cX11_wordHere 34 = .ok (.aload_n 0, 1) := by decide +kernel
theorem dX11_wordHere_35 : decode cX11_wordHere 35 = .ok (.aload_n 0, 1) := by decide +kernel
theorem dX11_wordHere_36 : decode cX11_wordHere 36 = .ok (.getfield 106, 3) := by decide +kernel
theorem dX11_wordHere_39 : decode cX11_wordHere 39 = .ok (.iload_n 2, 1) := by decide +kernel
theorem dX11_wordHere_40 : decode cX11_wordHere 40 = .ok (.iadd, 1) := by decide +kernel
theorem dX11_wordHere_41 : decode cX11_wordHere 41 = .ok (.invokevirtual 109, 3) := by decide +kernel
theorem dX11_wordHere_44 : decode cX11_wordHere 44 = .ok (.iadd, 1) := by decide +kernel
theorem dX11_wordHere_45 : decode cX11_wordHere 45 = .ok (.bipush 97, 2) := by decide +kernel
theorem dX11_wordHere_47 : decode cX11_wordHere 47 = .ok (.isub, 1) := by decide +kernel
theorem dX11_wordHere_48 : decode cX11_wordHere 48 = .ok (.iconst 1, 1) := by decide +kernel
theorem dX11_wordHere_49 : decode cX11_wordHere 49 = .ok (.iadd, 1) := by decide +kernel
theorem dX11_wordHere_50 : decode cX11_wordHere 50 = .ok (.goto 4, 3) := by decide +kernel
theorem dX11_wordHere_53 : decode cX11_wordHere 53 = .ok (.iload_n 1, 1) := by decide +kernel
theorem dX11_wordHere_54 : decode cX11_wordHere 54 = .ok (.istore_n 1, 1) := by decide +kernel
theorem dX11_wordHere_55 : decode cX11_wordHere 55 = .ok (.iinc 2 1, 3) := by decide +kernel
theorem dX11_wordHere_58 : decode cX11_wordHere 58 = .ok (.goto (-50), 3) := by decide +kernel
theorem dX11_wordHere_61 : decode cX11_wordHere 61 = .ok (.iload_n 2, 1) := by decide +kernel
theorem dX11_wordHere_62 : decode cX11_wordHere 62 = .ok (.bipush 6, 2) := by decide +kernel
theorem dX11_wordHere_64 : decode cX11_wordHere 64 = .ok (.if_icmp .le 7, 3) := by decide +kernel
theorem dX11_wordHere_67 : decode cX11_wordHere 67 = .ok (.iconst (-1), 1) := by decide +kernel
theorem dX11_wordHere_68 : decode cX11_wordHere 68 = .ok (.goto 4, 3) := by decide +kernel
theorem dX11_wordHere_71 : decode cX11_wordHere 71 = .ok (.iload_n 1, 1) := by decide +kernel
theorem dX11_wordHere_72 : decode cX11_wordHere 72 = .ok (.ireturn, 1) := by decide +kernel
theorem dX11_six_0 : decode cX11_six 0 = .ok (.bipush 27, 2) := by decide +kernel
theorem dX11_six_2 : decode cX11_six 2 = .ok (.bipush 27, 2) := by decide +kernel
theorem dX11_six_4 : decode cX11_six 4 = .ok (.iload_n 0, 1) := by decide +kernel
theorem dX11_six_5 : decode cX11_six 5 = .ok (.imul, 1) := by decide +kernel
theorem dX11_six_6 : decode cX11_six 6 = .ok (.iload_n 1, 1) := by decide +kernel
theorem dX11_six_7 : decode cX11_six 7 = .ok (.iadd, 1) := by decide +kernel
theorem dX11_six_8 : decode cX11_six 8 = .ok (.imul, 1) := by decide +kernel
theorem dX11_six_9 : decode cX11_six 9 = .ok (.iload_n 2, 1) := by decide +kernel
theorem dX11_six_10 : decode cX11_six 10 = .ok (.iadd, 1) := by decide +kernel
theorem dX11_six_11 : decode cX11_six 11 = .ok (.istore 6, 2) := by decide +kernel
theorem dX11_six_13 : decode cX11_six 13 = .ok (.iload_n 3, 1) := by decide +kernel
theorem dX11_six_14 : decode cX11_six 14 = .ok (.ifCond .ne 8, 3) := by decide +kernel
theorem dX11_six_17 : decode cX11_six 17 = .ok (.iload 6, 2) := by decide +kernel
theorem dX11_six_19 : decode cX11_six 19 = .ok (.goto 10, 3) := by decide +kernel
theorem dX11_six_22 : decode cX11_six 22 = .ok (.bipush 27, 2) := by decide +kernel
theorem dX11_six_24 : decode cX11_six 24 = .ok (.iload 6, 2) := by decide +kernel
theorem dX11_six_26 : decode cX11_six 26 = .ok (.imul, 1) := by decide +kernel
theorem dX11_six_27 : decode cX11_six 27 = .ok (.iload_n 3, 1) := by decide +kernel
theorem dX11_six_28 : decode cX11_six 28 = .ok (.iadd, 1) := by decide +kernel
theorem dX11_six_29 : decode cX11_six 29 = .ok (.istore 6, 2) := by decide +kernel
theorem dX11_six_31 : decode cX11_six 31 = .ok (.iload 4, 2) := by decide +kernel
theorem dX11_six_33 : decode cX11_six 33 = .ok (.ifCond .ne 8, 3) := by decide +kernel
theorem dX11_six_36 : decode cX11_six 36 = .ok (.iload 6, 2) := by decide +kernel
theorem dX11_six_38 : decode cX11_six 38 = .ok (.goto 11, 3) := by decide +kernel
theorem dX11_six_41 : decode cX11_six 41 = .ok (.bipush 27, 2) := by decide +kernel
theorem dX11_six_43 : decode cX11_six 43 = .ok (.iload 6, 2) := by decide +kernel
theorem dX11_six_45 : decode cX11_six 45 = .ok (.imul, 1) := by decide +kernel
theorem dX11_six_46 : decode cX11_six 46 = .ok (.iload 4, 2) := by decide +kernel
theorem dX11_six_48 : decode cX11_six 48 = .ok (.iadd, 1) := by decide +kernel
theorem dX11_six_49 : decode cX11_six 49 = .ok (.istore 6, 2) := by decide +kernel
theorem dX11_six_51 : decode cX11_six 51 = .ok (.iload 5, 2) := by decide +kernel
theorem dX11_six_53 : decode cX11_six 53 = .ok (.ifCond .ne 8, 3) := by decide +kernel
theorem dX11_six_56 : decode cX11_six 56 = .ok (.iload 6, 2) := by decide +kernel
theorem dX11_six_58 : decode cX11_six 58 = .ok (.goto 11, 3) := by decide +kernel
theorem dX11_six_61 : decode cX11_six 61 = .ok (.bipush 27, 2) := by decide +kernel
theorem dX11_six_63 : decode cX11_six 63 = .ok (.iload 6, 2) := by decide +kernel
theorem dX11_six_65 : decode cX11_six 65 = .ok (.imul, 1) := by decide +kernel
theorem dX11_six_66 : decode cX11_six 66 = .ok (.iload 5, 2) := by decide +kernel
theorem dX11_six_68 : decode cX11_six 68 = .ok (.iadd, 1) := by decide +kernel
theorem dX11_six_69 : decode cX11_six 69 = .ok (.ireturn, 1) := by decide +kernel
theorem dX11_isWord_0 : decode cX11_isWord 0 = .ok (.aload_n 0, 1) := by decide +kernel
theorem dX11_isWord_1 : decode cX11_isWord 1 = .ok (.getfield 113, 3) := by decide +kernel
theorem dX11_isWord_4 : decode cX11_isWord 4 = .ok (.ifCond .ne 26, 3) := by decide +kernel
theorem dX11_isWord_7 : decode cX11_isWord 7 = .ok (.aload_n 0, 1) := by decide +kernel
theorem dX11_isWord_8 : decode cX11_isWord 8 = .ok (.invokevirtual 138, 3) := by decide +kernel
theorem dX11_isWord_11 : decode cX11_isWord 11 = .ok (.iload_n 1, 1) := by decide +kernel
theorem dX11_isWord_12 : decode cX11_isWord 12 = .ok (.iload_n 2, 1) := by decide +kernel
theorem dX11_isWord_13 : decode cX11_isWord 13 = .ok (.iload_n 3, 1) := by decide +kernel
theorem dX11_isWord_14 : decode cX11_isWord 14 = .ok (.iload 4, 2) := by decide +kernel
theorem dX11_isWord_16 : decode cX11_isWord 16 = .ok (.iload 5, 2) := by decide +kernel
theorem dX11_isWord_18 : decode cX11_isWord 18 = .ok (.iload 6, 2) := by decide +kernel
theorem dX11_isWord_20 : decode cX11_isWord 20 = .ok (.invokestatic 142, 3) := by decide +kernel
theorem dX11_isWord_23 : decode cX11_isWord 23 = .ok (.if_icmp .ne 7, 3) := by decide +kernel
theorem dX11_isWord_26 : decode cX11_isWord 26 = .ok (.iconst 1, 1) := by decide +kernel
theorem dX11_isWord_27 : decode cX11_isWord 27 = .ok (.goto 4, 3) := by decide +kernel
theorem dX11_isWord_30 : decode cX11_isWord 30 = .ok (.iconst 0, 1) := by decide +kernel
theorem dX11_isWord_31 : decode cX11_isWord 31 = .ok (.ireturn, 1) := by decide +kernel
theorem dX11_skipWord_0 : decode cX11_skipWord 0 = .ok (.aload_n 0, 1) := by decide +kernel
theorem dX11_skipWord_1 : decode cX11_skipWord 1 = .ok (.aload_n 0, 1) := by decide +kernel
theorem dX11_skipWord_2 : decode cX11_skipWord 2 = .ok (.getfield 106, 3) := by decide +kernel
theorem dX11_skipWord_5 : decode cX11_skipWord 5 = .ok (.invokevirtual 109, 3) := by decide +kernel
theorem dX11_skipWord_8 : decode cX11_skipWord 8 = .ok (.invokestatic 135, 3) := by decide +kernel
theorem dX11_skipWord_11 : decode cX11_skipWord 11 = .ok (.ifCond .eq 16, 3) := by decide +kernel
theorem dX11_skipWord_14 : decode cX11_skipWord 14 = .ok (.aload_n 0, 1) := by decide +kernel
theorem dX11_skipWord_15 : decode cX11_skipWord 15 = .ok (.dup, 1) := by decide +kernel
theorem dX11_skipWord_16 : decode cX11_skipWord 16 = .ok (.getfield 106, 3) := by decide +kernel
theorem dX11_skipWord_19 : decode cX11_skipWord 19 = .ok (.iconst 1, 1) := by decide +kernel
theorem dX11_skipWord_20 : decode cX11_skipWord 20 = .ok (.iadd, 1) := by decide +kernel
theorem dX11_skipWord_21 : decode cX11_skipWord 21 = .ok (.putfield 106, 3) := by decide +kernel
theorem dX11_skipWord_24 : decode cX11_skipWord 24 = .ok (.goto (-24), 3) := by decide +kernel
theorem dX11_skipWord_27 : decode cX11_skipWord 27 = .ok (.return_, 1) := by decide +kernel
theorem dX11_takes_0 : decode cX11_takes 0 = .ok (.aload_n 0, 1) := by decide +kernel
theorem dX11_takes_1 : decode cX11_takes 1 = .ok (.iload_n 1, 1) := by decide +kernel
theorem dX11_takes_2 : decode cX11_takes 2 = .ok (.iload_n 2, 1) := by decide +kernel
theorem dX11_takes_3 : decode cX11_takes 3 = .ok (.iload_n 3, 1) := by decide +kernel
theorem dX11_takes_4 : decode cX11_takes 4 = .ok (.iload 4, 2) := by decide +kernel
theorem dX11_takes_6 : decode cX11_takes 6 = .ok (.iload 5, 2) := by decide +kernel
theorem dX11_takes_8 : decode cX11_takes 8 = .ok (.iload 6, 2) := by decide +kernel
theorem dX11_takes_10 : decode cX11_takes 10 = .ok (.invokevirtual 146, 3) := by decide +kernel
theorem dX11_takes_13 : decode cX11_takes 13 = .ok (.istore 7, 2) := by decide +kernel
theorem dX11_takes_15 : decode cX11_takes 15 = .ok (.iload 7, 2) := by decide +kernel
theorem dX11_takes_17 : decode cX11_takes 17 = .ok (.ifCond .eq 7, 3) := by decide +kernel
theorem dX11_takes_20 : decode cX11_takes 20 = .ok (.aload_n 0, 1) := by decide +kernel
theorem dX11_takes_21 : decode cX11_takes 21 = .ok (.invokevirtual 150, 3) := by decide +kernel
theorem dX11_takes_24 : decode cX11_takes 24 = .ok (.iload 7, 2) := by decide +kernel
theorem dX11_takes_26 : decode cX11_takes 26 = .ok (.ireturn, 1) := by decide +kernel
theorem dX11_sign_0 : decode cX11_sign 0 = .ok (.aload_n 0, 1) := by decide +kernel
theorem dX11_sign_1 : decode cX11_sign 1 = .ok (.getfield 113, 3) := by decide +kernel
theorem dX11_sign_4 : decode cX11_sign 4 = .ok (.ifCond .eq 4, 3) := by decide +kernel
theorem dX11_sign_7 : decode cX11_sign 7 = .ok (.return_, 1) := by decide +kernel
theorem dX11_sign_8 : decode cX11_sign 8 = .ok (.aload_n 0, 1) := by decide +kernel
theorem dX11_sign_9 : decode cX11_sign 9 = .ok (.invokevirtual 119, 3) := by decide +kernel
theorem dX11_sign_12 : decode cX11_sign 12 = .ok (.aload_n 0, 1) := by decide +kernel
theorem dX11_sign_13 : decode cX11_sign 13 = .ok (.aload_n 0, 1) := by decide +kernel
theorem dX11_sign_14 : decode cX11_sign 14 = .ok (.getfield 106, 3) := by decide +kernel
theorem dX11_sign_17 : decode cX11_sign 17 = .ok (.invokevirtual 109, 3) := by decide +kernel
theorem dX11_sign_20 : decode cX11_sign 20 = .ok (.iload_n 1, 1) := by decide +kernel
theorem dX11_sign_21 : decode cX11_sign 21 = .ok (.if_icmp .ne 16, 3) := by decide +kernel
theorem dX11_sign_24 : decode cX11_sign 24 = .ok (.aload_n 0, 1) := by decide +kernel
theorem dX11_sign_25 : decode cX11_sign 25 = .ok (.dup, 1) := by decide +kernel
theorem dX11_sign_26 : decode cX11_sign 26 = .ok (.getfield 106, 3) := by decide +kernel
theorem dX11_sign_29 : decode cX11_sign 29 = .ok (.iconst 1, 1) := by decide +kernel
theorem dX11_sign_30 : decode cX11_sign 30 = .ok (.iadd, 1) := by decide +kernel
theorem dX11_sign_31 : decode cX11_sign 31 = .ok (.putfield 106, 3) := by decide +kernel
theorem dX11_sign_34 : decode cX11_sign 34 = .ok (.goto 12, 3) := by decide +kernel
theorem dX11_sign_37 : decode cX11_sign 37 = .ok (.aload_n 0, 1) := by decide +kernel
theorem dX11_sign_38 : decode cX11_sign 38 = .ok (.iconst 1, 1) := by decide +kernel
theorem dX11_sign_39 : decode cX11_sign 39 = .ok (.aload_n 0, 1) := by decide +kernel
theorem dX11_sign_40 : decode cX11_sign 40 = .ok (.getfield 106, 3) := by decide +kernel
theorem dX11_sign_43 : decode cX11_sign 43 = .ok (.invokevirtual 126, 3) := by decide +kernel
theorem dX11_sign_46 : decode cX11_sign 46 = .ok (.return_, 1) := by decide +kernel
theorem dX11_takesSign_0 : decode cX11_takesSign 0 = .ok (.aload_n 0, 1) := by decide +kernel
theorem dX11_takesSign_1 : decode cX11_takesSign 1 = .ok (.getfield 113, 3) := by decide +kernel
theorem dX11_takesSign_4 : decode cX11_takesSign 4 = .ok (.ifCond .eq 5, 3) := by decide +kernel
theorem dX11_takesSign_7 : decode cX11_takesSign 7 = .ok (.iconst 0, 1) := by decide +kernel
theorem dX11_takesSign_8 : decode cX11_takesSign 8 = .ok (.ireturn, 1) := by decide +kernel
theorem dX11_takesSign_9 : decode cX11_takesSign 9 = .ok (.aload_n 0, 1) := by decide +kernel
theorem dX11_takesSign_10 : decode cX11_takesSign 10 = .ok (.invokevirtual 119, 3) := by decide +kernel
theorem dX11_takesSign_13 : decode cX11_takesSign 13 = .ok (.aload_n 0, 1) := by decide +kernel
theorem dX11_takesSign_14 : decode cX11_takesSign 14 = .ok (.aload_n 0, 1) := by decide +kernel
theorem dX11_takesSign_15 : decode cX11_takesSign 15 = .ok (.getfield 106, 3) := by decide +kernel
theorem dX11_takesSign_18 : decode cX11_takesSign 18 = .ok (.invokevirtual 109, 3) := by decide +kernel
theorem dX11_takesSign_21 : decode cX11_takesSign 21 = .ok (.iload_n 1, 1) := by decide +kernel
theorem dX11_takesSign_22 : decode cX11_takesSign 22 = .ok (.if_icmp .ne 7, 3) := by decide +kernel
theorem dX11_takesSign_25 : decode cX11_takesSign 25 = .ok (.iconst 1, 1) := by decide +kernel
theorem dX11_takesSign_26 : decode cX11_takesSign 26 = .ok (.goto 4, 3) := by decide +kernel
theorem dX11_takesSign_29 : decode cX11_takesSign 29 = .ok (.iconst 0, 1) := by decide +kernel
theorem dX11_takesSign_30 : decode cX11_takesSign 30 = .ok (.istore_n 2, 1) := by decide +kernel
theorem dX11_takesSign_31 : decode cX11_takesSign 31 = .ok (.iload_n 2, 1) := by decide +kernel
theorem dX11_takesSign_32 : decode cX11_takesSign 32 = .ok (.ifCond .eq 13, 3) := by decide +kernel
theorem dX11_takesSign_35 : decode cX11_takesSign 35 = .ok (.aload_n 0, 1) := by decide +kernel
theorem dX11_takesSign_36 : decode cX11_takesSign 36 = .ok (.dup, 1) := by decide +kernel
theorem dX11_takesSign_37 : decode cX11_takesSign 37 = .ok (.getfield 106, 3) := by decide +kernel
theorem dX11_takesSign_40 : decode cX11_takesSign 40 = .ok (.iconst 1, 1) := by decide +kernel
theorem dX11_takesSign_41 : decode cX11_takesSign 41 = .ok (.iadd, 1) := by decide +kernel
theorem dX11_takesSign_42 : decode cX11_takesSign 42 = .ok (.putfield 106, 3) := by decide +kernel
theorem dX11_takesSign_45 : decode cX11_takesSign 45 = .ok (.iload_n 2, 1) := by decide +kernel
theorem dX11_takesSign_46 : decode cX11_takesSign 46 = .ok (.ireturn, 1) := by decide +kernel
theorem dX11_starts_0 : decode cX11_starts 0 = .ok (.aload_n 0, 1) := by decide +kernel
theorem dX11_starts_1 : decode cX11_starts 1 = .ok (.iconst 0, 1) := by decide +kernel
theorem dX11_starts_2 : decode cX11_starts 2 = .ok (.putfield 100, 3) := by decide +kernel
theorem dX11_starts_5 : decode cX11_starts 5 = .ok (.aload_n 0, 1) := by decide +kernel
theorem dX11_starts_6 : decode cX11_starts 6 = .ok (.iload_n 1, 1) := by decide +kernel
theorem dX11_starts_7 : decode cX11_starts 7 = .ok (.putfield 103, 3) := by decide +kernel
theorem dX11_starts_10 : decode cX11_starts 10 = .ok (.aload_n 0, 1) := by decide +kernel
theorem dX11_starts_11 : decode cX11_starts 11 = .ok (.iconst 0, 1) := by decide +kernel
theorem dX11_starts_12 : decode cX11_starts 12 = .ok (.putfield 106, 3) := by decide +kernel
theorem dX11_starts_15 : decode cX11_starts 15 = .ok (.aload_n 0, 1) := by decide +kernel
theorem dX11_starts_16 : decode cX11_starts 16 = .ok (.iconst 0, 1) := by decide +kernel
theorem dX11_starts_17 : decode cX11_starts 17 = .ok (.putfield 113, 3) := by decide +kernel
theorem dX11_starts_20 : decode cX11_starts 20 = .ok (.aload_n 0, 1) := by decide +kernel
theorem dX11_starts_21 : decode cX11_starts 21 = .ok (.iconst (-1), 1) := by decide +kernel
theorem dX11_starts_22 : decode cX11_starts 22 = .ok (.putfield 116, 3) := by decide +kernel
theorem dX11_starts_25 : decode cX11_starts 25 = .ok (.aload_n 0, 1) := by decide +kernel
theorem dX11_starts_26 : decode cX11_starts 26 = .ok (.iconst 0, 1) := by decide +kernel
theorem dX11_starts_27 : decode cX11_starts 27 = .ok (.putfield 153, 3) := by decide +kernel
theorem dX11_starts_30 : decode cX11_starts 30 = .ok (.aload_n 0, 1) := by decide +kernel
theorem dX11_starts_31 : decode cX11_starts 31 = .ok (.iconst 0, 1) := by decide +kernel
theorem dX11_starts_32 : decode cX11_starts 32 = .ok (.putfield 156, 3) := by decide +kernel
theorem dX11_starts_35 : decode cX11_starts 35 = .ok (.aload_n 0, 1) := by decide +kernel
theorem dX11_starts_36 : decode cX11_starts 36 = .ok (.invokevirtual 119, 3) := by decide +kernel
theorem dX11_starts_39 : decode cX11_starts 39 = .ok (.return_, 1) := by decide +kernel
theorem dX11_ends_0 : decode cX11_ends 0 = .ok (.aload_n 0, 1) := by decide +kernel
theorem dX11_ends_1 : decode cX11_ends 1 = .ok (.aload_n 0, 1) := by decide +kernel
theorem dX11_ends_2 : decode cX11_ends 2 = .ok (.getfield 116, 3) := by decide +kernel
theorem dX11_ends_5 : decode cX11_ends 5 = .ok (.putfield 9, 3) := by decide +kernel
theorem dX11_ends_8 : decode cX11_ends 8 = .ok (.aload_n 0, 1) := by decide +kernel
theorem dX11_ends_9 : decode cX11_ends 9 = .ok (.getfield 113, 3) := by decide +kernel
theorem dX11_ends_12 : decode cX11_ends 12 = .ok (.bipush 10, 2) := by decide +kernel
theorem dX11_ends_14 : decode cX11_ends 14 = .ok (.isub, 1) := by decide +kernel
theorem dX11_ends_15 : decode cX11_ends 15 = .ok (.ireturn, 1) := by decide +kernel
theorem dX11_isSeven_0 : decode cX11_isSeven 0 = .ok (.aload_n 0, 1) := by decide +kernel
theorem dX11_isSeven_1 : decode cX11_isSeven 1 = .ok (.getfield 113, 3) := by decide +kernel
theorem dX11_isSeven_4 : decode cX11_isSeven 4 = .ok (.ifCond .eq 5, 3) := by decide +kernel
theorem dX11_isSeven_7 : decode cX11_isSeven 7 = .ok (.iconst 0, 1) := by decide +kernel
theorem dX11_isSeven_8 : decode cX11_isSeven 8 = .ok (.ireturn, 1) := by decide +kernel
theorem dX11_isSeven_9 : decode cX11_isSeven 9 = .ok (.aload_n 0, 1) := by decide +kernel
theorem dX11_isSeven_10 : decode cX11_isSeven 10 = .ok (.invokevirtual 119, 3) := by decide +kernel
theorem dX11_isSeven_13 : decode cX11_isSeven 13 = .ok (.iconst 0, 1) := by decide +kernel
theorem dX11_isSeven_14 : decode cX11_isSeven 14 = .ok (.istore_n 3, 1) := by decide +kernel
theorem dX11_isSeven_15 : decode cX11_isSeven 15 = .ok (.iconst 0, 1) := by decide +kernel
theorem dX11_isSeven_16 : decode cX11_isSeven 16 = .ok (.istore 4, 2) := by decide +kernel
theorem dX11_isSeven_18 : decode cX11_isSeven 18 = .ok (.aload_n 0, 1) := by decide +kernel
theorem dX11_isSeven_19 : decode cX11_isSeven 19 = .ok (.aload_n 0, 1) := by decide +kernel
theorem dX11_isSeven_20 : decode cX11_isSeven 20 = .ok (.getfield 106, 3) := by decide +kernel
theorem dX11_isSeven_23 : decode cX11_isSeven 23 = .ok (.iload 4, 2) := by decide +kernel
theorem dX11_isSeven_25 : decode cX11_isSeven 25 = .ok (.iadd, 1) := by decide +kernel
theorem dX11_isSeven_26 : decode cX11_isSeven 26 = .ok (.invokevirtual 109, 3) := by decide +kernel
theorem dX11_isSeven_29 : decode cX11_isSeven 29 = .ok (.invokestatic 135, 3) := by decide +kernel
theorem dX11_isSeven_32 : decode cX11_isSeven 32 = .ok (.ifCond .eq 42, 3) := by decide +kernel
theorem dX11_isSeven_35 : decode cX11_isSeven 35 = .ok (.iload 4, 2) := by decide +kernel
theorem dX11_isSeven_37 : decode cX11_isSeven 37 = .ok (.bipush 6, 2) := by decide +kernel
theorem dX11_isSeven_39 : decode cX11_isSeven 39 = .ok (.if_icmp .ge 27, 3) := by decide +kernel
theorem dX11_isSeven_42 : decode cX11_isSeven 42 = .ok (.bipush 27, 2) := by decide +kernel
theorem dX11_isSeven_44 : decode cX11_isSeven 44 = .ok (.iload_n 3, 1) := by decide +kernel
theorem dX11_isSeven_45 : decode cX11_isSeven 45 = .ok (.imul, 1) := by decide +kernel
theorem dX11_isSeven_46 : decode cX11_isSeven 46 = .ok (.aload_n 0, 1) := by decide +kernel
theorem dX11_isSeven_47 : decode cX11_isSeven 47 = .ok (.aload_n 0, 1) := by decide +kernel
theorem dX11_isSeven_48 : decode cX11_isSeven 48 = .ok (.getfield 106, 3) := by decide +kernel
theorem dX11_isSeven_51 : decode cX11_isSeven 51 = .ok (.iload 4, 2) := by decide +kernel
theorem dX11_isSeven_53 : decode cX11_isSeven 53 = .ok (.iadd, 1) := by decide +kernel
theorem dX11_isSeven_54 : decode cX11_isSeven 54 = .ok (.invokevirtual 109, 3) := by decide +kernel
theorem dX11_isSeven_57 : decode cX11_isSeven 57 = .ok (.iadd, 1) := by decide +kernel
theorem dX11_isSeven_58 : decode cX11_isSeven 58 = .ok (.bipush 97, 2) := by decide +kernel
theorem dX11_isSeven_60 : decode cX11_isSeven 60 = .ok (.isub, 1) := by decide +kernel
theorem dX11_isSeven_61 : decode cX11_isSeven 61 = .ok (.iconst 1, 1) := by decide +kernel
theorem dX11_isSeven_62 : decode cX11_isSeven 62 = .ok (.iadd, 1) := by decide +kernel
theorem dX11_isSeven_63 : decode cX11_isSeven 63 = .ok (.goto 4, 3) := by decide +kernel
theorem dX11_isSeven_66 : decode cX11_isSeven 66 = .ok (.iload_n 3, 1) := by decide +kernel
theorem dX11_isSeven_67 : decode cX11_isSeven 67 = .ok (.istore_n 3, 1) := by decide +kernel
theorem dX11_isSeven_68 : decode cX11_isSeven 68 = .ok (.iinc 4 1, 3) := by decide +kernel
theorem dX11_isSeven_71 : decode cX11_isSeven 71 = .ok (.goto (-53), 3) := by decide +kernel
theorem dX11_isSeven_74 : decode cX11_isSeven 74 = .ok (.iload 4, 2) := by decide +kernel
theorem dX11_isSeven_76 : decode cX11_isSeven 76 = .ok (.bipush 7, 2) := by decide +kernel
theorem dX11_isSeven_78 : decode cX11_isSeven 78 = .ok (.if_icmp .ne 27, 3) := by decide +kernel
theorem dX11_isSeven_81 : decode cX11_isSeven 81 = .ok (.iload_n 3, 1) := by decide +kernel
theorem dX11_isSeven_82 : decode cX11_isSeven 82 = .ok (.iload_n 1, 1) := by decide +kernel
theorem dX11_isSeven_83 : decode cX11_isSeven 83 = .ok (.if_icmp .ne 22, 3) := by decide +kernel
theorem dX11_isSeven_86 : decode cX11_isSeven 86 = .ok (.aload_n 0, 1) := by decide +kernel
theorem dX11_isSeven_87 : decode cX11_isSeven 87 = .ok (.aload_n 0, 1) := by decide +kernel
theorem dX11_isSeven_88 : decode cX11_isSeven 88 = .ok (.getfield 106, 3) := by decide +kernel
theorem dX11_isSeven_91 : decode cX11_isSeven 91 = .ok (.bipush 6, 2) := by decide +kernel
theorem dX11_isSeven_93 : decode cX11_isSeven 93 = .ok (.iadd, 1) := by decide +kernel
theorem dX11_isSeven_94 : decode cX11_isSeven 94 = .ok (.invokevirtual 109, 3) := by decide +kernel
theorem dX11_isSeven_97 : decode cX11_isSeven 97 = .ok (.iload_n 2, 1) := by decide +kernel
theorem dX11_isSeven_98 : decode cX11_isSeven 98 = .ok (.if_icmp .ne 7, 3) := by decide +kernel
theorem dX11_isSeven_101 : decode cX11_isSeven 101 = .ok (.iconst 1, 1) := by decide +kernel
theorem dX11_isSeven_102 : decode cX11_isSeven 102 = .ok (.goto 4, 3) := by decide +kernel
theorem dX11_isSeven_105 : decode cX11_isSeven 105 = .ok (.iconst 0, 1) := by decide +kernel
theorem dX11_isSeven_106 : decode cX11_isSeven 106 = .ok (.istore 5, 2) := by decide +kernel
theorem dX11_isSeven_108 : decode cX11_isSeven 108 = .ok (.iload 5, 2) := by decide +kernel
theorem dX11_isSeven_110 : decode cX11_isSeven 110 = .ok (.ifCond .eq 7, 3) := by decide +kernel
theorem dX11_isSeven_113 : decode cX11_isSeven 113 = .ok (.aload_n 0, 1) := by decide +kernel
theorem dX11_isSeven_114 : decode cX11_isSeven 114 = .ok (.invokevirtual 150, 3) := by decide +kernel
theorem dX11_isSeven_117 : decode cX11_isSeven 117 = .ok (.iload 5, 2) := by decide +kernel
theorem dX11_isSeven_119 : decode cX11_isSeven 119 = .ok (.ireturn, 1) := by decide +kernel
theorem dX11_kindHere_0 : decode cX11_kindHere 0 = .ok (.aload_n 0, 1) := by decide +kernel
theorem dX11_kindHere_1 : decode cX11_kindHere 1 = .ok (.bipush 16, 2) := by decide +kernel
theorem dX11_kindHere_3 : decode cX11_kindHere 3 = .ok (.iconst 5, 1) := by decide +kernel
theorem dX11_kindHere_4 : decode cX11_kindHere 4 = .ok (.bipush 18, 2) := by decide +kernel
theorem dX11_kindHere_6 : decode cX11_kindHere 6 = .ok (.bipush 19, 2) := by decide +kernel
theorem dX11_kindHere_8 : decode cX11_kindHere 8 = .ok (.bipush 15, 2) := by decide +kernel
theorem dX11_kindHere_10 : decode cX11_kindHere 10 = .ok (.bipush 14, 2) := by decide +kernel
theorem dX11_kindHere_12 : decode cX11_kindHere 12 = .ok (.invokevirtual 146, 3) := by decide +kernel
theorem dX11_kindHere_15 : decode cX11_kindHere 15 = .ok (.ifCond .eq 5, 3) := by decide +kernel
theorem dX11_kindHere_18 : decode cX11_kindHere 18 = .ok (.iconst 0, 1) := by decide +kernel
theorem dX11_kindHere_19 : decode cX11_kindHere 19 = .ok (.ireturn, 1) := by decide +kernel
theorem dX11_kindHere_20 : decode cX11_kindHere 20 = .ok (.aload_n 0, 1) := by decide +kernel
theorem dX11_kindHere_21 : decode cX11_kindHere 21 = .ok (.iconst 4, 1) := by decide +kernel
theorem dX11_kindHere_22 : decode cX11_kindHere 22 = .ok (.bipush 21, 2) := by decide +kernel
theorem dX11_kindHere_24 : decode cX11_kindHere 24 = .ok (.bipush 20, 2) := by decide +kernel
theorem dX11_kindHere_26 : decode cX11_kindHere 26 = .ok (.bipush 25, 2) := by decide +kernel
theorem dX11_kindHere_28 : decode cX11_kindHere 28 = .ok (.iconst 0, 1) := by decide +kernel
theorem dX11_kindHere_29 : decode cX11_kindHere 29 = .ok (.iconst 0, 1) := by decide +kernel
theorem dX11_kindHere_30 : decode cX11_kindHere 30 = .ok (.invokevirtual 146, 3) := by decide +kernel
theorem dX11_kindHere_33 : decode cX11_kindHere 33 = .ok (.ifCond .eq 5, 3) := by decide +kernel
theorem dX11_kindHere_36 : decode cX11_kindHere 36 = .ok (.iconst 1, 1) := by decide +kernel
theorem dX11_kindHere_37 : decode cX11_kindHere 37 = .ok (.ireturn, 1) := by decide +kernel
theorem dX11_kindHere_38 : decode cX11_kindHere 38 = .ok (.aload_n 0, 1) := by decide +kernel
theorem dX11_kindHere_39 : decode cX11_kindHere 39 = .ok (.bipush 20, 2) := by decide +kernel
theorem dX11_kindHere_41 : decode cX11_kindHere 41 = .ok (.iconst 1, 1) := by decide +kernel
theorem dX11_kindHere_42 : decode cX11_kindHere 42 = .ok (.bipush 19, 2) := by decide +kernel
theorem dX11_kindHere_44 : decode cX11_kindHere 44 = .ok (.bipush 11, 2) := by decide +kernel
theorem dX11_kindHere_46 : decode cX11_kindHere 46 = .ok (.iconst 0, 1) := by decide +kernel
theorem dX11_kindHere_47 : decode cX11_kindHere 47 = .ok (.iconst 0, 1) := by decide +kernel
theorem dX11_kindHere_48 : decode cX11_kindHere 48 = .ok (.invokevirtual 146, 3) := by decide +kernel
theorem dX11_kindHere_51 : decode cX11_kindHere 51 = .ok (.ifCond .eq 5, 3) := by decide +kernel
theorem dX11_kindHere_54 : decode cX11_kindHere 54 = .ok (.iconst 2, 1) := by decide +kernel
theorem dX11_kindHere_55 : decode cX11_kindHere 55 = .ok (.ireturn, 1) := by decide +kernel
theorem dX11_kindHere_56 : decode cX11_kindHere 56 = .ok (.aload_n 0, 1) := by decide +kernel
theorem dX11_kindHere_57 : decode cX11_kindHere 57 = .ok (.iconst 3, 1) := by decide +kernel
theorem dX11_kindHere_58 : decode cX11_kindHere 58 = .ok (.iconst 1, 1) := by decide +kernel
theorem dX11_kindHere_59 : decode cX11_kindHere 59 = .ok (.bipush 14, 2) := by decide +kernel
theorem dX11_kindHere_61 : decode cX11_kindHere 61 = .ok (.iconst 0, 1) := by decide +kernel
theorem dX11_kindHere_62 : decode cX11_kindHere 62 = .ok (.iconst 0, 1) := by decide +kernel
theorem dX11_kindHere_63 : decode cX11_kindHere 63 = .ok (.iconst 0, 1) := by decide +kernel
theorem dX11_kindHere_64 : decode cX11_kindHere 64 = .ok (.invokevirtual 146, 3) := by decide +kernel
theorem dX11_kindHere_67 : decode cX11_kindHere 67 = .ok (.ifCond .eq 7, 3) := by decide +kernel
theorem dX11_kindHere_70 : decode cX11_kindHere 70 = .ok (.iconst 3, 1) := by decide +kernel
theorem dX11_kindHere_71 : decode cX11_kindHere 71 = .ok (.goto 4, 3) := by decide +kernel
theorem dX11_kindHere_74 : decode cX11_kindHere 74 = .ok (.iconst (-1), 1) := by decide +kernel
theorem dX11_kindHere_75 : decode cX11_kindHere 75 = .ok (.ireturn, 1) := by decide +kernel
theorem dX11_mostOf_0 : decode cX11_mostOf 0 = .ok (.iload_n 0, 1) := by decide +kernel
theorem dX11_mostOf_1 : decode cX11_mostOf 1 = .ok (.iconst 2, 1) := by decide +kernel
theorem dX11_mostOf_2 : decode cX11_mostOf 2 = .ok (.if_icmp .ne 8, 3) := by decide +kernel
theorem dX11_mostOf_5 : decode cX11_mostOf 5 = .ok (.bipush 12, 2) := by decide +kernel
theorem dX11_mostOf_7 : decode cX11_mostOf 7 = .ok (.goto 5, 3) := by decide +kernel
theorem dX11_mostOf_10 : decode cX11_mostOf 10 = .ok (.bipush 6, 2) := by decide +kernel
theorem dX11_mostOf_12 : decode cX11_mostOf 12 = .ok (.ireturn, 1) := by decide +kernel
theorem dX11_clause_0 : decode cX11_clause 0 = .ok (.aload_n 0, 1) := by decide +kernel
theorem dX11_clause_1 : decode cX11_clause 1 = .ok (.invokevirtual 159, 3) := by decide +kernel
theorem dX11_clause_4 : decode cX11_clause 4 = .ok (.istore_n 1, 1) := by decide +kernel
theorem dX11_clause_5 : decode cX11_clause 5 = .ok (.iload_n 1, 1) := by decide +kernel
theorem dX11_clause_6 : decode cX11_clause 6 = .ok (.iconst (-1), 1) := by decide +kernel
theorem dX11_clause_7 : decode cX11_clause 7 = .ok (.if_icmp .ne 15, 3) := by decide +kernel
theorem dX11_clause_10 : decode cX11_clause 10 = .ok (.aload_n 0, 1) := by decide +kernel
theorem dX11_clause_11 : decode cX11_clause 11 = .ok (.iconst 1, 1) := by decide +kernel
theorem dX11_clause_12 : decode cX11_clause 12 = .ok (.aload_n 0, 1) := by decide +kernel
theorem dX11_clause_13 : decode cX11_clause 13 = .ok (.getfield 106, 3) := by decide +kernel
theorem dX11_clause_16 : decode cX11_clause 16 = .ok (.invokevirtual 126, 3) := by decide +kernel
theorem dX11_clause_19 : decode cX11_clause 19 = .ok (.goto 39, 3) := by decide +kernel
theorem dX11_clause_22 : decode cX11_clause 22 = .ok (.aload_n 0, 1) := by decide +kernel
theorem dX11_clause_23 : decode cX11_clause 23 = .ok (.getfield 153, 3) := by decide +kernel
theorem dX11_clause_26 : decode cX11_clause 26 = .ok (.bipush 60, 2) := by decide +kernel
theorem dX11_clause_28 : decode cX11_clause 28 = .ok (.if_icmp .eq 21, 3) := by decide +kernel
theorem dX11_clause_31 : decode cX11_clause 31 = .ok (.iload_n 1, 1) := by decide +kernel
theorem dX11_clause_32 : decode cX11_clause 32 = .ok (.iconst 3, 1) := by decide +kernel
theorem dX11_clause_33 : decode cX11_clause 33 = .ok (.if_icmp .ge 25, 3) := by decide +kernel
theorem dX11_clause_36 : decode cX11_clause 36 = .ok (.aload_n 0, 1) := by decide +kernel
theorem dX11_clause_37 : decode cX11_clause 37 = .ok (.getfield 20, 3) := by decide +kernel
theorem dX11_clause_40 : decode cX11_clause 40 = .ok (.iload_n 1, 1) := by decide +kernel
theorem dX11_clause_41 : decode cX11_clause 41 = .ok (.iaload, 1) := by decide +kernel
theorem dX11_clause_42 : decode cX11_clause 42 = .ok (.iload_n 1, 1) := by decide +kernel
theorem dX11_clause_43 : decode cX11_clause 43 = .ok (.invokestatic 162, 3) := by decide +kernel
theorem dX11_clause_46 : decode cX11_clause 46 = .ok (.if_icmp .ne 12, 3) := by decide +kernel
theorem dX11_clause_49 : decode cX11_clause 49 = .ok (.aload_n 0, 1) := by decide +kernel
theorem dX11_clause_50 : decode cX11_clause 50 = .ok (.iconst 3, 1) := by decide +kernel
theorem dX11_clause_51 : decode cX11_clause 51 = .ok (.aload_n 0, 1) := by decide +kernel
theorem dX11_clause_52 : decode cX11_clause 52 = .ok (.getfield 106, 3) := by decide +kernel
theorem dX11_clause_55 : decode cX11_clause 55 = .ok (.invokevirtual 126, 3) := by decide +kernel
theorem dX11_clause_58 : decode cX11_clause 58 = .ok (.aload_n 0, 1) := by decide +kernel
theorem dX11_clause_59 : decode cX11_clause 59 = .ok (.getfield 113, 3) := by decide +kernel
theorem dX11_clause_62 : decode cX11_clause 62 = .ok (.ifCond .eq 4, 3) := by decide +kernel
theorem dX11_clause_65 : decode cX11_clause 65 = .ok (.return_, 1) := by decide +kernel
theorem dX11_clause_66 : decode cX11_clause 66 = .ok (.aload_n 0, 1) := by decide +kernel
theorem dX11_clause_67 : decode cX11_clause 67 = .ok (.invokevirtual 150, 3) := by decide +kernel
theorem dX11_clause_70 : decode cX11_clause 70 = .ok (.aload_n 0, 1) := by decide +kernel
theorem dX11_clause_71 : decode cX11_clause 71 = .ok (.dup, 1) := by decide +kernel
theorem dX11_clause_72 : decode cX11_clause 72 = .ok (.getfield 153, 3) := by decide +kernel
theorem dX11_clause_75 : decode cX11_clause 75 = .ok (.iconst 1, 1) := by decide +kernel
theorem dX11_clause_76 : decode cX11_clause 76 = .ok (.iadd, 1) := by decide +kernel
theorem dX11_clause_77 : decode cX11_clause 77 = .ok (.putfield 153, 3) := by decide +kernel
theorem dX11_clause_80 : decode cX11_clause 80 = .ok (.iload_n 1, 1) := by decide +kernel
theorem dX11_clause_81 : decode cX11_clause 81 = .ok (.iconst 3, 1) := by decide +kernel
theorem dX11_clause_82 : decode cX11_clause 82 = .ok (.if_icmp .ge 12, 3) := by decide +kernel
theorem dX11_clause_85 : decode cX11_clause 85 = .ok (.aload_n 0, 1) := by decide +kernel
theorem dX11_clause_86 : decode cX11_clause 86 = .ok (.getfield 20, 3) := by decide +kernel
theorem dX11_clause_89 : decode cX11_clause 89 = .ok (.iload_n 1, 1) := by decide +kernel
theorem dX11_clause_90 : decode cX11_clause 90 = .ok (.iaload, 1) := by decide +kernel
theorem dX11_clause_91 : decode cX11_clause 91 = .ok (.goto 4, 3) := by decide +kernel
theorem dX11_clause_94 : decode cX11_clause 94 = .ok (.iconst 0, 1) := by decide +kernel
theorem dX11_clause_95 : decode cX11_clause 95 = .ok (.istore_n 2, 1) := by decide +kernel
theorem dX11_clause_96 : decode cX11_clause 96 = .ok (.iload_n 1, 1) := by decide +kernel
theorem dX11_clause_97 : decode cX11_clause 97 = .ok (.tableswitch 131 0 2 #[27, 61, 77], 27) := by decide +kernel
theorem dX11_clause_124 : decode cX11_clause 124 = .ok (.aload_n 0, 1) := by decide +kernel
theorem dX11_clause_125 : decode cX11_clause 125 = .ok (.getfield 40, 3) := by decide +kernel
theorem dX11_clause_128 : decode cX11_clause 128 = .ok (.iload_n 2, 1) := by decide +kernel
theorem dX11_clause_129 : decode cX11_clause 129 = .ok (.aaload, 1) := by decide +kernel
theorem dX11_clause_130 : decode cX11_clause 130 = .ok (.iconst 0, 1) := by decide +kernel
theorem dX11_clause_131 : decode cX11_clause 131 = .ok (.aload_n 0, 1) := by decide +kernel
theorem dX11_clause_132 : decode cX11_clause 132 = .ok (.iconst 0, 1) := by decide +kernel
theorem dX11_clause_133 : decode cX11_clause 133 = .ok (.sipush 500, 3) := by decide +kernel
theorem dX11_clause_136 : decode cX11_clause 136 = .ok (.invokevirtual 165, 3) := by decide +kernel
theorem dX11_clause_139 : decode cX11_clause 139 = .ok (.iastore, 1) := by decide +kernel
theorem dX11_clause_140 : decode cX11_clause 140 = .ok (.aload_n 0, 1) := by decide +kernel
theorem dX11_clause_141 : decode cX11_clause 141 = .ok (.getfield 40, 3) := by decide +kernel
theorem dX11_clause_144 : decode cX11_clause 144 = .ok (.iload_n 2, 1) := by decide +kernel
theorem dX11_clause_145 : decode cX11_clause 145 = .ok (.aaload, 1) := by decide +kernel
theorem dX11_clause_146 : decode cX11_clause 146 = .ok (.iconst 1, 1) := by decide +kernel
theorem dX11_clause_147 : decode cX11_clause 147 = .ok (.aload_n 0, 1) := by decide +kernel
theorem dX11_clause_148 : decode cX11_clause 148 = .ok (.iconst 0, 1) := by decide +kernel
theorem dX11_clause_149 : decode cX11_clause 149 = .ok (.bipush 30, 2) := by decide +kernel
theorem dX11_clause_151 : decode cX11_clause 151 = .ok (.invokevirtual 165, 3) := by decide +kernel
theorem dX11_clause_154 : decode cX11_clause 154 = .ok (.iastore, 1) := by decide +kernel
theorem dX11_clause_155 : decode cX11_clause 155 = .ok (.goto 125, 3) := by decide +kernel
theorem dX11_clause_158 : decode cX11_clause 158 = .ok (.aload_n 0, 1) := by decide +kernel
theorem dX11_clause_159 : decode cX11_clause 159 = .ok (.getfield 26, 3) := by decide +kernel
theorem dX11_clause_162 : decode cX11_clause 162 = .ok (.iload_n 2, 1) := by decide +kernel
theorem dX11_clause_163 : decode cX11_clause 163 = .ok (.aload_n 0, 1) := by decide +kernel
theorem dX11_clause_164 : decode cX11_clause 164 = .ok (.iconst 1, 1) := by decide +kernel
theorem dX11_clause_165 : decode cX11_clause 165 = .ok (.bipush 30, 2) := by decide +kernel
theorem dX11_clause_167 : decode cX11_clause 167 = .ok (.invokevirtual 165, 3) := by decide +kernel
theorem dX11_clause_170 : decode cX11_clause 170 = .ok (.iastore, 1) := by decide +kernel
theorem dX11_clause_171 : decode cX11_clause 171 = .ok (.goto 109, 3) := by decide +kernel
theorem dX11_clause_174 : decode cX11_clause 174 = .ok (.aload_n 0, 1) := by decide +kernel
theorem dX11_clause_175 : decode cX11_clause 175 = .ok (.getfield 46, 3) := by decide +kernel
theorem dX11_clause_178 : decode cX11_clause 178 = .ok (.iload_n 2, 1) := by decide +kernel
theorem dX11_clause_179 : decode cX11_clause 179 = .ok (.aaload, 1) := by decide +kernel
theorem dX11_clause_180 : decode cX11_clause 180 = .ok (.iconst 0, 1) := by decide +kernel
theorem dX11_clause_181 : decode cX11_clause 181 = .ok (.aload_n 0, 1) := by decide +kernel
theorem dX11_clause_182 : decode cX11_clause 182 = .ok (.iconst 0, 1) := by decide +kernel
theorem dX11_clause_183 : decode cX11_clause 183 = .ok (.aload_n 0, 1) := by decide +kernel
theorem dX11_clause_184 : decode cX11_clause 184 = .ok (.getfield 20, 3) := by decide +kernel
theorem dX11_clause_187 : decode cX11_clause 187 = .ok (.iconst 0, 1) := by decide +kernel
theorem dX11_clause_188 : decode cX11_clause 188 = .ok (.iaload, 1) := by decide +kernel
theorem dX11_clause_189 : decode cX11_clause 189 = .ok (.iconst 1, 1) := by decide +kernel
theorem dX11_clause_190 : decode cX11_clause 190 = .ok (.isub, 1) := by decide +kernel
theorem dX11_clause_191 : decode cX11_clause 191 = .ok (.invokevirtual 165, 3) := by decide +kernel
theorem dX11_clause_194 : decode cX11_clause 194 = .ok (.iastore, 1) := by decide +kernel
theorem dX11_clause_195 : decode cX11_clause 195 = .ok (.aload_n 0, 1) := by decide +kernel
theorem dX11_clause_196 : decode cX11_clause 196 = .ok (.getfield 46, 3) := by decide +kernel
theorem dX11_clause_199 : decode cX11_clause 199 = .ok (.iload_n 2, 1) := by decide +kernel
theorem dX11_clause_200 : decode cX11_clause 200 = .ok (.aaload, 1) := by decide +kernel
theorem dX11_clause_201 : decode cX11_clause 201 = .ok (.iconst 1, 1) := by decide +kernel
theorem dX11_clause_202 : decode cX11_clause 202 = .ok (.aload_n 0, 1) := by decide +kernel
theorem dX11_clause_203 : decode cX11_clause 203 = .ok (.iconst 0, 1) := by decide +kernel
theorem dX11_clause_204 : decode cX11_clause 204 = .ok (.bipush 60, 2) := by decide +kernel
theorem dX11_clause_206 : decode cX11_clause 206 = .ok (.invokevirtual 165, 3) := by decide +kernel
theorem dX11_clause_209 : decode cX11_clause 209 = .ok (.iastore, 1) := by decide +kernel
theorem dX11_clause_210 : decode cX11_clause 210 = .ok (.aload_n 0, 1) := by decide +kernel
theorem dX11_clause_211 : decode cX11_clause 211 = .ok (.getfield 46, 3) := by decide +kernel
theorem dX11_clause_214 : decode cX11_clause 214 = .ok (.iload_n 2, 1) := by decide +kernel
theorem dX11_clause_215 : decode cX11_clause 215 = .ok (.aaload, 1) := by decide +kernel
theorem dX11_clause_216 : decode cX11_clause 216 = .ok (.iconst 2, 1) := by decide +kernel
theorem dX11_clause_217 : decode cX11_clause 217 = .ok (.aload_n 0, 1) := by decide +kernel
theorem dX11_clause_218 : decode cX11_clause 218 = .ok (.iconst 0, 1) := by decide +kernel
theorem dX11_clause_219 : decode cX11_clause 219 = .ok (.bipush 60, 2) := by decide +kernel
theorem dX11_clause_221 : decode cX11_clause 221 = .ok (.invokevirtual 165, 3) := by decide +kernel
theorem dX11_clause_224 : decode cX11_clause 224 = .ok (.iastore, 1) := by decide +kernel
theorem dX11_clause_225 : decode cX11_clause 225 = .ok (.goto 55, 3) := by decide +kernel
theorem dX11_clause_228 : decode cX11_clause 228 = .ok (.aload_n 0, 1) := by decide +kernel
theorem dX11_clause_229 : decode cX11_clause 229 = .ok (.iconst 0, 1) := by decide +kernel
theorem dX11_clause_230 : decode cX11_clause 230 = .ok (.aload_n 0, 1) := by decide +kernel
theorem dX11_clause_231 : decode cX11_clause 231 = .ok (.getfield 20, 3) := by decide +kernel
theorem dX11_clause_234 : decode cX11_clause 234 = .ok (.iconst 0, 1) := by decide +kernel
theorem dX11_clause_235 : decode cX11_clause 235 = .ok (.iaload, 1) := by decide +kernel
theorem dX11_clause_236 : decode cX11_clause 236 = .ok (.iconst 1, 1) := by decide +kernel
theorem dX11_clause_237 : decode cX11_clause 237 = .ok (.isub, 1) := by decide +kernel
theorem dX11_clause_238 : decode cX11_clause 238 = .ok (.invokevirtual 165, 3) := by decide +kernel
theorem dX11_clause_241 : decode cX11_clause 241 = .ok (.istore_n 3, 1) := by decide +kernel
theorem dX11_clause_242 : decode cX11_clause 242 = .ok (.aload_n 0, 1) := by decide +kernel
theorem dX11_clause_243 : decode cX11_clause 243 = .ok (.iconst 0, 1) := by decide +kernel
theorem dX11_clause_244 : decode cX11_clause 244 = .ok (.aload_n 0, 1) := by decide +kernel
theorem dX11_clause_245 : decode cX11_clause 245 = .ok (.getfield 20, 3) := by decide +kernel
theorem dX11_clause_248 : decode cX11_clause 248 = .ok (.iconst 1, 1) := by decide +kernel
theorem dX11_clause_249 : decode cX11_clause 249 = .ok (.iaload, 1) := by decide +kernel
theorem dX11_clause_250 : decode cX11_clause 250 = .ok (.iconst 1, 1) := by decide +kernel
theorem dX11_clause_251 : decode cX11_clause 251 = .ok (.isub, 1) := by decide +kernel
theorem dX11_clause_252 : decode cX11_clause 252 = .ok (.invokevirtual 165, 3) := by decide +kernel
theorem dX11_clause_255 : decode cX11_clause 255 = .ok (.istore 4, 2) := by decide +kernel
theorem dX11_clause_257 : decode cX11_clause 257 = .ok (.aload_n 0, 1) := by decide +kernel
theorem dX11_clause_258 : decode cX11_clause 258 = .ok (.getfield 113, 3) := by decide +kernel
theorem dX11_clause_261 : decode cX11_clause 261 = .ok (.ifCond .ne 19, 3) := by decide +kernel
theorem dX11_clause_264 : decode cX11_clause 264 = .ok (.aload_n 0, 1) := by decide +kernel
theorem dX11_clause_265 : decode cX11_clause 265 = .ok (.getfield 32, 3) := by decide +kernel
theorem dX11_clause_268 : decode cX11_clause 268 = .ok (.iload_n 3, 1) := by decide +kernel
theorem dX11_clause_269 : decode cX11_clause 269 = .ok (.dup2, 1) := by decide +kernel
theorem dX11_clause_270 : decode cX11_clause 270 = .ok (.iaload, 1) := by decide +kernel
theorem dX11_clause_271 : decode cX11_clause 271 = .ok (.iconst 1, 1) := by decide +kernel
theorem dX11_clause_272 : decode cX11_clause 272 = .ok (.iload 4, 2) := by decide +kernel
theorem dX11_clause_274 : decode cX11_clause 274 = .ok (.ishl, 1) := by decide +kernel
theorem dX11_clause_275 : decode cX11_clause 275 = .ok (.ior, 1) := by decide +kernel
theorem dX11_clause_276 : decode cX11_clause 276 = .ok (.iastore, 1) := by decide +kernel
theorem dX11_clause_277 : decode cX11_clause 277 = .ok (.goto 3, 3) := by decide +kernel
theorem dX11_clause_280 : decode cX11_clause 280 = .ok (.aload_n 0, 1) := by decide +kernel
theorem dX11_clause_281 : decode cX11_clause 281 = .ok (.bipush 59, 2) := by decide +kernel
theorem dX11_clause_283 : decode cX11_clause 283 = .ok (.invokevirtual 169, 3) := by decide +kernel
theorem dX11_clause_286 : decode cX11_clause 286 = .ok (.iload_n 1, 1) := by decide +kernel
theorem dX11_clause_287 : decode cX11_clause 287 = .ok (.iconst 3, 1) := by decide +kernel
theorem dX11_clause_288 : decode cX11_clause 288 = .ok (.if_icmp .ge 24, 3) := by decide +kernel
theorem dX11_clause_291 : decode cX11_clause 291 = .ok (.aload_n 0, 1) := by decide +kernel
theorem dX11_clause_292 : decode cX11_clause 292 = .ok (.getfield 20, 3) := by decide +kernel
theorem dX11_clause_295 : decode cX11_clause 295 = .ok (.iload_n 1, 1) := by decide +kernel
theorem dX11_clause_296 : decode cX11_clause 296 = .ok (.dup2, 1) := by decide +kernel
theorem dX11_clause_297 : decode cX11_clause 297 = .ok (.iaload, 1) := by decide +kernel
theorem dX11_clause_298 : decode cX11_clause 298 = .ok (.aload_n 0, 1) := by decide +kernel
theorem dX11_clause_299 : decode cX11_clause 299 = .ok (.getfield 113, 3) := by decide +kernel
theorem dX11_clause_302 : decode cX11_clause 302 = .ok (.ifCond .ne 7, 3) := by decide +kernel
theorem dX11_clause_305 : decode cX11_clause 305 = .ok (.iconst 1, 1) := by decide +kernel
theorem dX11_clause_306 : decode cX11_clause 306 = .ok (.goto 4, 3) := by decide +kernel
theorem dX11_clause_309 : decode cX11_clause 309 = .ok (.iconst 0, 1) := by decide +kernel
theorem dX11_clause_310 : decode cX11_clause 310 = .ok (.iadd, 1) := by decide +kernel
theorem dX11_clause_311 : decode cX11_clause 311 = .ok (.iastore, 1) := by decide +kernel
theorem dX11_clause_312 : decode cX11_clause 312 = .ok (.return_, 1) := by decide +kernel
theorem dX11_town_0 : decode cX11_town 0 = .ok (.aload_n 0, 1) := by decide +kernel
theorem dX11_town_1 : decode cX11_town 1 = .ok (.iconst 0, 1) := by decide +kernel
theorem dX11_town_2 : decode cX11_town 2 = .ok (.putfield 97, 3) := by decide +kernel
theorem dX11_town_5 : decode cX11_town 5 = .ok (.aload_n 0, 1) := by decide +kernel
theorem dX11_town_6 : decode cX11_town 6 = .ok (.iload_n 1, 1) := by decide +kernel
theorem dX11_town_7 : decode cX11_town 7 = .ok (.iconst 0, 1) := by decide +kernel
theorem dX11_town_8 : decode cX11_town 8 = .ok (.aload_n 0, 1) := by decide +kernel
theorem dX11_town_9 : decode cX11_town 9 = .ok (.getfield 100, 3) := by decide +kernel
theorem dX11_town_12 : decode cX11_town 12 = .ok (.invokestatic 131, 3) := by decide +kernel
theorem dX11_town_15 : decode cX11_town 15 = .ok (.ifCond .ne 7, 3) := by decide +kernel
theorem dX11_town_18 : decode cX11_town 18 = .ok (.iconst 1, 1) := by decide +kernel
theorem dX11_town_19 : decode cX11_town 19 = .ok (.goto 4, 3) := by decide +kernel
theorem dX11_town_22 : decode cX11_town 22 = .ok (.iconst 0, 1) := by decide +kernel
theorem dX11_town_23 : decode cX11_town 23 = .ok (.iconst 1, 1) := by decide +kernel
theorem dX11_town_24 : decode cX11_town 24 = .ok (.iconst 1, 1) := by decide +kernel
theorem dX11_town_25 : decode cX11_town 25 = .ok (.invokevirtual 173, 3) := by decide +kernel
theorem dX11_town_28 : decode cX11_town 28 = .ok (.ifCond .eq 5, 3) := by decide +kernel
theorem dX11_town_31 : decode cX11_town 31 = .ok (.iconst 0, 1) := by decide +kernel
theorem dX11_town_32 : decode cX11_town 32 = .ok (.ireturn, 1) := by decide +kernel
theorem dX11_town_33 : decode cX11_town 33 = .ok (.aload_n 0, 1) := by decide +kernel
theorem dX11_town_34 : decode cX11_town 34 = .ok (.iload_n 1, 1) := by decide +kernel
theorem dX11_town_35 : decode cX11_town 35 = .ok (.invokevirtual 177, 3) := by decide +kernel
theorem dX11_town_38 : decode cX11_town 38 = .ok (.aload_n 0, 1) := by decide +kernel
theorem dX11_town_39 : decode cX11_town 39 = .ok (.invokevirtual 91, 3) := by decide +kernel
theorem dX11_town_42 : decode cX11_town 42 = .ok (.aload_n 0, 1) := by decide +kernel
theorem dX11_town_43 : decode cX11_town 43 = .ok (.getfield 113, 3) := by decide +kernel
theorem dX11_town_46 : decode cX11_town 46 = .ok (.ifCond .ne 25, 3) := by decide +kernel
theorem dX11_town_49 : decode cX11_town 49 = .ok (.aload_n 0, 1) := by decide +kernel
theorem dX11_town_50 : decode cX11_town 50 = .ok (.getfield 106, 3) := by decide +kernel
theorem dX11_town_53 : decode cX11_town 53 = .ok (.aload_n 0, 1) := by decide +kernel
theorem dX11_town_54 : decode cX11_town 54 = .ok (.getfield 103, 3) := by decide +kernel
theorem dX11_town_57 : decode cX11_town 57 = .ok (.if_icmp .ge 14, 3) := by decide +kernel
theorem dX11_town_60 : decode cX11_town 60 = .ok (.aload_n 0, 1) := by decide +kernel
theorem dX11_town_61 : decode cX11_town 61 = .ok (.invokevirtual 180, 3) := by decide +kernel
theorem dX11_town_64 : decode cX11_town 64 = .ok (.aload_n 0, 1) := by decide +kernel
theorem dX11_town_65 : decode cX11_town 65 = .ok (.invokevirtual 119, 3) := by decide +kernel
theorem dX11_town_68 : decode cX11_town 68 = .ok (.goto (-26), 3) := by decide +kernel
theorem dX11_town_71 : decode cX11_town 71 = .ok (.aload_n 0, 1) := by decide +kernel
theorem dX11_town_72 : decode cX11_town 72 = .ok (.getfield 113, 3) := by decide +kernel
theorem dX11_town_75 : decode cX11_town 75 = .ok (.ifCond .eq 8, 3) := by decide +kernel
theorem dX11_town_78 : decode cX11_town 78 = .ok (.aload_n 0, 1) := by decide +kernel
theorem dX11_town_79 : decode cX11_town 79 = .ok (.invokevirtual 183, 3) := by decide +kernel
theorem dX11_town_82 : decode cX11_town 82 = .ok (.ireturn, 1) := by decide +kernel
theorem dX11_town_83 : decode cX11_town 83 = .ok (.aload_n 0, 1) := by decide +kernel
theorem dX11_town_84 : decode cX11_town 84 = .ok (.iconst (-1), 1) := by decide +kernel
theorem dX11_town_85 : decode cX11_town 85 = .ok (.putfield 9, 3) := by decide +kernel
theorem dX11_town_88 : decode cX11_town 88 = .ok (.aload_n 0, 1) := by decide +kernel
theorem dX11_town_89 : decode cX11_town 89 = .ok (.invokevirtual 94, 3) := by decide +kernel
theorem dX11_town_92 : decode cX11_town 92 = .ok (.aload_n 0, 1) := by decide +kernel
theorem dX11_town_93 : decode cX11_town 93 = .ok (.getfield 23, 3) := by decide +kernel
theorem dX11_town_96 : decode cX11_town 96 = .ok (.iconst 0, 1) := by decide +kernel
theorem dX11_town_97 : decode cX11_town 97 = .ok (.iaload, 1) := by decide +kernel
theorem dX11_town_98 : decode cX11_town 98 = .ok (.ireturn, 1) := by decide +kernel
theorem dX11_lays_0 : decode cX11_lays 0 = .ok (.iconst 0, 1) := by decide +kernel
theorem dX11_lays_1 : decode cX11_lays 1 = .ok (.istore_n 3, 1) := by decide +kernel
theorem dX11_lays_2 : decode cX11_lays 2 = .ok (.iload_n 3, 1) := by decide +kernel
theorem dX11_lays_3 : decode cX11_lays 3 = .ok (.iload_n 2, 1) := by decide +kernel
theorem dX11_lays_4 : decode cX11_lays 4 = .ok (.if_icmp .ge 39, 3) := by decide +kernel
theorem dX11_lays_7 : decode cX11_lays 7 = .ok (.iconst 0, 1) := by decide +kernel
theorem dX11_lays_8 : decode cX11_lays 8 = .ok (.istore 4, 2) := by decide +kernel
theorem dX11_lays_10 : decode cX11_lays 10 = .ok (.iload 4, 2) := by decide +kernel
theorem dX11_lays_12 : decode cX11_lays 12 = .ok (.aload_n 1, 1) := by decide +kernel
theorem dX11_lays_13 : decode cX11_lays 13 = .ok (.iload_n 3, 1) := by decide +kernel
theorem dX11_lays_14 : decode cX11_lays 14 = .ok (.aaload, 1) := by decide +kernel
theorem dX11_lays_15 : decode cX11_lays 15 = .ok (.arraylength, 1) := by decide +kernel
theorem dX11_lays_16 : decode cX11_lays 16 = .ok (.if_icmp .ge 21, 3) := by decide +kernel
theorem dX11_lays_19 : decode cX11_lays 19 = .ok (.aload_n 1, 1) := by decide +kernel
theorem dX11_lays_20 : decode cX11_lays 20 = .ok (.iload_n 3, 1) := by decide +kernel
theorem dX11_lays_21 : decode cX11_lays 21 = .ok (.aaload, 1) := by decide +kernel
theorem dX11_lays_22 : decode cX11_lays 22 = .ok (.iload 4, 2) := by decide +kernel
theorem dX11_lays_24 : decode cX11_lays 24 = .ok (.aload_n 0, 1) := by decide +kernel
theorem dX11_lays_25 : decode cX11_lays 25 = .ok (.iload_n 3, 1) := by decide +kernel
theorem dX11_lays_26 : decode cX11_lays 26 = .ok (.aaload, 1) := by decide +kernel
theorem dX11_lays_27 : decode cX11_lays 27 = .ok (.iload 4, 2) := by decide +kernel
theorem dX11_lays_29 : decode cX11_lays 29 = .ok (.iaload, 1) := by decide +kernel
theorem dX11_lays_30 : decode cX11_lays 30 = .ok (.iastore, 1) := by decide +kernel
theorem dX11_lays_31 : decode cX11_lays 31 = .ok (.iinc 4 1, 3) := by decide +kernel
theorem dX11_lays_34 : decode cX11_lays 34 = .ok (.goto (-24), 3) := by decide +kernel
theorem dX11_lays_37 : decode cX11_lays 37 = .ok (.iinc 3 1, 3) := by decide +kernel
theorem dX11_lays_40 : decode cX11_lays 40 = .ok (.goto (-38), 3) := by decide +kernel
theorem dX11_lays_43 : decode cX11_lays 43 = .ok (.return_, 1) := by decide +kernel
theorem dX11_copies_0 : decode cX11_copies 0 = .ok (.iconst 0, 1) := by decide +kernel
theorem dX11_copies_1 : decode cX11_copies 1 = .ok (.istore_n 2, 1) := by decide +kernel
theorem dX11_copies_2 : decode cX11_copies 2 = .ok (.iload_n 2, 1) := by decide +kernel
theorem dX11_copies_3 : decode cX11_copies 3 = .ok (.bipush 56, 2) := by decide +kernel
theorem dX11_copies_5 : decode cX11_copies 5 = .ok (.if_icmp .ge 15, 3) := by decide +kernel
theorem dX11_copies_8 : decode cX11_copies 8 = .ok (.aload_n 1, 1) := by decide +kernel
theorem dX11_copies_9 : decode cX11_copies 9 = .ok (.iload_n 2, 1) := by decide +kernel
theorem dX11_copies_10 : decode cX11_copies 10 = .ok (.aload_n 0, 1) := by decide +kernel
theorem dX11_copies_11 : decode cX11_copies 11 = .ok (.iload_n 2, 1) := by decide +kernel
theorem dX11_copies_12 : decode cX11_copies 12 = .ok (.iaload, 1) := by decide +kernel
theorem dX11_copies_13 : decode cX11_copies 13 = .ok (.iastore, 1) := by decide +kernel
theorem dX11_copies_14 : decode cX11_copies 14 = .ok (.iinc 2 1, 3) := by decide +kernel
theorem dX11_copies_17 : decode cX11_copies 17 = .ok (.goto (-15), 3) := by decide +kernel
theorem dX11_copies_20 : decode cX11_copies 20 = .ok (.return_, 1) := by decide +kernel
theorem dX11_beginsAnew_0 : decode cX11_beginsAnew 0 = .ok (.iconst 0, 1) := by decide +kernel
theorem dX11_beginsAnew_1 : decode cX11_beginsAnew 1 = .ok (.istore_n 1, 1) := by decide +kernel
theorem dX11_beginsAnew_2 : decode cX11_beginsAnew 2 = .ok (.iload_n 1, 1) := by decide +kernel
theorem dX11_beginsAnew_3 : decode cX11_beginsAnew 3 = .ok (.iconst 3, 1) := by decide +kernel
theorem dX11_beginsAnew_4 : decode cX11_beginsAnew 4 = .ok (.if_icmp .ge 21, 3) := by decide +kernel
theorem dX11_beginsAnew_7 : decode cX11_beginsAnew 7 = .ok (.aload_n 0, 1) := by decide +kernel
theorem dX11_beginsAnew_8 : decode cX11_beginsAnew 8 = .ok (.getfield 23, 3) := by decide +kernel
theorem dX11_beginsAnew_11 : decode cX11_beginsAnew 11 = .ok (.iload_n 1, 1) := by decide +kernel
theorem dX11_beginsAnew_12 : decode cX11_beginsAnew 12 = .ok (.aload_n 0, 1) := by decide +kernel
theorem dX11_beginsAnew_13 : decode cX11_beginsAnew 13 = .ok (.getfield 20, 3) := by decide +kernel
theorem dX11_beginsAnew_16 : decode cX11_beginsAnew 16 = .ok (.iload_n 1, 1) := by decide +kernel
theorem dX11_beginsAnew_17 : decode cX11_beginsAnew 17 = .ok (.iaload, 1) := by decide +kernel
theorem dX11_beginsAnew_18 : decode cX11_beginsAnew 18 = .ok (.iastore, 1) := by decide +kernel
theorem dX11_beginsAnew_19 : decode cX11_beginsAnew 19 = .ok (.iinc 1 1, 3) := by decide +kernel
theorem dX11_beginsAnew_22 : decode cX11_beginsAnew 22 = .ok (.goto (-20), 3) := by decide +kernel
theorem dX11_beginsAnew_25 : decode cX11_beginsAnew 25 = .ok (.aload_n 0, 1) := by decide +kernel
theorem dX11_beginsAnew_26 : decode cX11_beginsAnew 26 = .ok (.getfield 40, 3) := by decide +kernel
theorem dX11_beginsAnew_29 : decode cX11_beginsAnew 29 = .ok (.aload_n 0, 1) := by decide +kernel
theorem dX11_beginsAnew_30 : decode cX11_beginsAnew 30 = .ok (.getfield 43, 3) := by decide +kernel
theorem dX11_beginsAnew_33 : decode cX11_beginsAnew 33 = .ok (.aload_n 0, 1) := by decide +kernel
theorem dX11_beginsAnew_34 : decode cX11_beginsAnew 34 = .ok (.getfield 23, 3) := by decide +kernel
theorem dX11_beginsAnew_37 : decode cX11_beginsAnew 37 = .ok (.iconst 0, 1) := by decide +kernel
theorem dX11_beginsAnew_38 : decode cX11_beginsAnew 38 = .ok (.iaload, 1) := by decide +kernel
theorem dX11_beginsAnew_39 : decode cX11_beginsAnew 39 = .ok (.invokestatic 186, 3) := by decide +kernel
theorem dX11_beginsAnew_42 : decode cX11_beginsAnew 42 = .ok (.aload_n 0, 1) := by decide +kernel
theorem dX11_beginsAnew_43 : decode cX11_beginsAnew 43 = .ok (.getfield 46, 3) := by decide +kernel
theorem dX11_beginsAnew_46 : decode cX11_beginsAnew 46 = .ok (.aload_n 0, 1) := by decide +kernel
theorem dX11_beginsAnew_47 : decode cX11_beginsAnew 47 = .ok (.getfield 49, 3) := by decide +kernel
theorem dX11_beginsAnew_50 : decode cX11_beginsAnew 50 = .ok (.aload_n 0, 1) := by decide +kernel
theorem dX11_beginsAnew_51 : decode cX11_beginsAnew 51 = .ok (.getfield 23, 3) := by decide +kernel
theorem dX11_beginsAnew_54 : decode cX11_beginsAnew 54 = .ok (.iconst 2, 1) := by decide +kernel
theorem dX11_beginsAnew_55 : decode cX11_beginsAnew 55 = .ok (.iaload, 1) := by decide +kernel
theorem dX11_beginsAnew_56 : decode cX11_beginsAnew 56 = .ok (.invokestatic 186, 3) := by decide +kernel
theorem dX11_beginsAnew_59 : decode cX11_beginsAnew 59 = .ok (.iconst 0, 1) := by decide +kernel
theorem dX11_beginsAnew_60 : decode cX11_beginsAnew 60 = .ok (.istore_n 1, 1) := by decide +kernel
theorem dX11_beginsAnew_61 : decode cX11_beginsAnew 61 = .ok (.iload_n 1, 1) := by decide +kernel
theorem dX11_beginsAnew_62 : decode cX11_beginsAnew 62 = .ok (.bipush 6, 2) := by decide +kernel
theorem dX11_beginsAnew_64 : decode cX11_beginsAnew 64 = .ok (.if_icmp .ge 21, 3) := by decide +kernel
theorem dX11_beginsAnew_67 : decode cX11_beginsAnew 67 = .ok (.aload_n 0, 1) := by decide +kernel
theorem dX11_beginsAnew_68 : decode cX11_beginsAnew 68 = .ok (.getfield 29, 3) := by decide +kernel
theorem dX11_beginsAnew_71 : decode cX11_beginsAnew 71 = .ok (.iload_n 1, 1) := by decide +kernel
theorem dX11_beginsAnew_72 : decode cX11_beginsAnew 72 = .ok (.aload_n 0, 1) := by decide +kernel
theorem dX11_beginsAnew_73 : decode cX11_beginsAnew 73 = .ok (.getfield 26, 3) := by decide +kernel
theorem dX11_beginsAnew_76 : decode cX11_beginsAnew 76 = .ok (.iload_n 1, 1) := by decide +kernel
theorem dX11_beginsAnew_77 : decode cX11_beginsAnew 77 = .ok (.iaload, 1) := by decide +kernel
theorem dX11_beginsAnew_78 : decode cX11_beginsAnew 78 = .ok (.iastore, 1) := by decide +kernel
theorem dX11_beginsAnew_79 : decode cX11_beginsAnew 79 = .ok (.iinc 1 1, 3) := by decide +kernel
theorem dX11_beginsAnew_82 : decode cX11_beginsAnew 82 = .ok (.goto (-21), 3) := by decide +kernel
theorem dX11_beginsAnew_85 : decode cX11_beginsAnew 85 = .ok (.iconst 0, 1) := by decide +kernel
theorem dX11_beginsAnew_86 : decode cX11_beginsAnew 86 = .ok (.istore_n 1, 1) := by decide +kernel
theorem dX11_beginsAnew_87 : decode cX11_beginsAnew 87 = .ok (.iload_n 1, 1) := by decide +kernel
theorem dX11_beginsAnew_88 : decode cX11_beginsAnew 88 = .ok (.bipush 56, 2) := by decide +kernel
theorem dX11_beginsAnew_90 : decode cX11_beginsAnew 90 = .ok (.if_icmp .ge 16, 3) := by decide +kernel
theorem dX11_beginsAnew_93 : decode cX11_beginsAnew 93 = .ok (.aload_n 0, 1) := by decide +kernel
theorem dX11_beginsAnew_94 : decode cX11_beginsAnew 94 = .ok (.getfield 73, 3) := by decide +kernel
theorem dX11_beginsAnew_97 : decode cX11_beginsAnew 97 = .ok (.iload_n 1, 1) := by decide +kernel
theorem dX11_beginsAnew_98 : decode cX11_beginsAnew 98 = .ok (.iconst 0, 1) := by decide +kernel
theorem dX11_beginsAnew_99 : decode cX11_beginsAnew 99 = .ok (.iastore, 1) := by decide +kernel
theorem dX11_beginsAnew_100 : decode cX11_beginsAnew 100 = .ok (.iinc 1 1, 3) := by decide +kernel
theorem dX11_beginsAnew_103 : decode cX11_beginsAnew 103 = .ok (.goto (-16), 3) := by decide +kernel
theorem dX11_beginsAnew_106 : decode cX11_beginsAnew 106 = .ok (.iconst 0, 1) := by decide +kernel
theorem dX11_beginsAnew_107 : decode cX11_beginsAnew 107 = .ok (.istore_n 1, 1) := by decide +kernel
theorem dX11_beginsAnew_108 : decode cX11_beginsAnew 108 = .ok (.iload_n 1, 1) := by decide +kernel
theorem dX11_beginsAnew_109 : decode cX11_beginsAnew 109 = .ok (.bipush 6, 2) := by decide +kernel
theorem dX11_beginsAnew_111 : decode cX11_beginsAnew 111 = .ok (.if_icmp .ge 75, 3) := by decide +kernel
theorem dX11_beginsAnew_114 : decode cX11_beginsAnew 114 = .ok (.aload_n 0, 1) := by decide +kernel
theorem dX11_beginsAnew_115 : decode cX11_beginsAnew 115 = .ok (.getfield 35, 3) := by decide +kernel
theorem dX11_beginsAnew_118 : decode cX11_beginsAnew 118 = .ok (.iload_n 1, 1) := by decide +kernel
theorem dX11_beginsAnew_119 : decode cX11_beginsAnew 119 = .ok (.iload_n 1, 1) := by decide +kernel
theorem dX11_beginsAnew_120 : decode cX11_beginsAnew 120 = .ok (.aload_n 0, 1) := by decide +kernel
theorem dX11_beginsAnew_121 : decode cX11_beginsAnew 121 = .ok (.getfield 23, 3) := by decide +kernel
theorem dX11_beginsAnew_124 : decode cX11_beginsAnew 124 = .ok (.iconst 0, 1) := by decide +kernel
theorem dX11_beginsAnew_125 : decode cX11_beginsAnew 125 = .ok (.iaload, 1) := by decide +kernel
theorem dX11_beginsAnew_126 : decode cX11_beginsAnew 126 = .ok (.if_icmp .ge 12, 3) := by decide +kernel
theorem dX11_beginsAnew_129 : decode cX11_beginsAnew 129 = .ok (.aload_n 0, 1) := by decide +kernel
theorem dX11_beginsAnew_130 : decode cX11_beginsAnew 130 = .ok (.getfield 32, 3) := by decide +kernel
theorem dX11_beginsAnew_133 : decode cX11_beginsAnew 133 = .ok (.iload_n 1, 1) := by decide +kernel
theorem dX11_beginsAnew_134 : decode cX11_beginsAnew 134 = .ok (.iaload, 1) := by decide +kernel
theorem dX11_beginsAnew_135 : decode cX11_beginsAnew 135 = .ok (.goto 4, 3) := by decide +kernel
theorem dX11_beginsAnew_138 : decode cX11_beginsAnew 138 = .ok (.iconst 0, 1) := by decide +kernel
theorem dX11_beginsAnew_139 : decode cX11_beginsAnew 139 = .ok (.iastore, 1) := by decide +kernel
theorem dX11_beginsAnew_140 : decode cX11_beginsAnew 140 = .ok (.aload_n 0, 1) := by decide +kernel
theorem dX11_beginsAnew_141 : decode cX11_beginsAnew 141 = .ok (.getfield 73, 3) := by decide +kernel
theorem dX11_beginsAnew_144 : decode cX11_beginsAnew 144 = .ok (.iconst 0, 1) := by decide +kernel
theorem dX11_beginsAnew_145 : decode cX11_beginsAnew 145 = .ok (.iload_n 1, 1) := by decide +kernel
theorem dX11_beginsAnew_146 : decode cX11_beginsAnew 146 = .ok (.iadd, 1) := by decide +kernel
theorem dX11_beginsAnew_147 : decode cX11_beginsAnew 147 = .ok (.iload_n 1, 1) := by decide +kernel
theorem dX11_beginsAnew_148 : decode cX11_beginsAnew 148 = .ok (.aload_n 0, 1) := by decide +kernel
theorem dX11_beginsAnew_149 : decode cX11_beginsAnew 149 = .ok (.getfield 23, 3) := by decide +kernel
theorem dX11_beginsAnew_152 : decode cX11_beginsAnew 152 = .ok (.iconst 0, 1) := by decide +kernel
theorem dX11_beginsAnew_153 : decode cX11_beginsAnew 153 = .ok (.iaload, 1) := by decide +kernel
theorem dX11_beginsAnew_154 : decode cX11_beginsAnew 154 = .ok (.if_icmp .ge 14, 3) := by decide +kernel
theorem dX11_beginsAnew_157 : decode cX11_beginsAnew 157 = .ok (.aload_n 0, 1) := by decide +kernel
theorem dX11_beginsAnew_158 : decode cX11_beginsAnew 158 = .ok (.getfield 43, 3) := by decide +kernel
theorem dX11_beginsAnew_161 : decode cX11_beginsAnew 161 = .ok (.iload_n 1, 1) := by decide +kernel
theorem dX11_beginsAnew_162 : decode cX11_beginsAnew 162 = .ok (.aaload, 1) := by decide +kernel
theorem dX11_beginsAnew_163 : decode cX11_beginsAnew 163 = .ok (.iconst 0, 1) := by decide +kernel
theorem dX11_beginsAnew_164 : decode cX11_beginsAnew 164 = .ok (.iaload, 1) := by decide +kernel
theorem dX11_beginsAnew_165 : decode cX11_beginsAnew 165 = .ok (.goto 4, 3) := by decide +kernel
theorem dX11_beginsAnew_168 : decode cX11_beginsAnew 168 = .ok (.iconst 0, 1) := by decide +kernel
theorem dX11_beginsAnew_169 : decode cX11_beginsAnew 169 = .ok (.iastore, 1) := by decide +kernel
theorem dX11_beginsAnew_170 : decode cX11_beginsAnew 170 = .ok (.aload_n 0, 1) := by decide +kernel
theorem dX11_beginsAnew_171 : decode cX11_beginsAnew 171 = .ok (.getfield 73, 3) := by decide +kernel
theorem dX11_beginsAnew_174 : decode cX11_beginsAnew 174 = .ok (.bipush 18, 2) := by decide +kernel
theorem dX11_beginsAnew_176 : decode cX11_beginsAnew 176 = .ok (.iload_n 1, 1) := by decide +kernel
theorem dX11_beginsAnew_177 : decode cX11_beginsAnew 177 = .ok (.iadd, 1) := by decide +kernel
theorem dX11_beginsAnew_178 : decode cX11_beginsAnew 178 = .ok (.iconst (-1), 1) := by decide +kernel
theorem dX11_beginsAnew_179 : decode cX11_beginsAnew 179 = .ok (.iastore, 1) := by decide +kernel
theorem dX11_beginsAnew_180 : decode cX11_beginsAnew 180 = .ok (.iinc 1 1, 3) := by decide +kernel
theorem dX11_beginsAnew_183 : decode cX11_beginsAnew 183 = .ok (.goto (-75), 3) := by decide +kernel
theorem dX11_beginsAnew_186 : decode cX11_beginsAnew 186 = .ok (.iconst 0, 1) := by decide +kernel
theorem dX11_beginsAnew_187 : decode cX11_beginsAnew 187 = .ok (.istore_n 1, 1) := by decide +kernel
theorem dX11_beginsAnew_188 : decode cX11_beginsAnew 188 = .ok (.iload_n 1, 1) := by decide +kernel
theorem dX11_beginsAnew_189 : decode cX11_beginsAnew 189 = .ok (.aload_n 0, 1) := by decide +kernel
theorem dX11_beginsAnew_190 : decode cX11_beginsAnew 190 = .ok (.getfield 23, 3) := by decide +kernel
theorem dX11_beginsAnew_193 : decode cX11_beginsAnew 193 = .ok (.iconst 2, 1) := by decide +kernel
theorem dX11_beginsAnew_194 : decode cX11_beginsAnew 194 = .ok (.iaload, 1) := by decide +kernel
theorem dX11_beginsAnew_195 : decode cX11_beginsAnew 195 = .ok (.if_icmp .ge 26, 3) := by decide +kernel
theorem dX11_beginsAnew_198 : decode cX11_beginsAnew 198 = .ok (.aload_n 0, 1) := by decide +kernel
theorem dX11_beginsAnew_199 : decode cX11_beginsAnew 199 = .ok (.getfield 73, 3) := by decide +kernel
theorem dX11_beginsAnew_202 : decode cX11_beginsAnew 202 = .ok (.bipush 30, 2) := by decide +kernel
theorem dX11_beginsAnew_204 : decode cX11_beginsAnew 204 = .ok (.iload_n 1, 1) := by decide +kernel
theorem dX11_beginsAnew_205 : decode cX11_beginsAnew 205 = .ok (.iadd, 1) := by decide +kernel
theorem dX11_beginsAnew_206 : decode cX11_beginsAnew 206 = .ok (.aload_n 0, 1) := by decide +kernel
theorem dX11_beginsAnew_207 : decode cX11_beginsAnew 207 = .ok (.getfield 49, 3) := by decide +kernel
theorem dX11_beginsAnew_210 : decode cX11_beginsAnew 210 = .ok (.iload_n 1, 1) := by decide +kernel
theorem dX11_beginsAnew_211 : decode cX11_beginsAnew 211 = .ok (.aaload, 1) := by decide +kernel
theorem dX11_beginsAnew_212 : decode cX11_beginsAnew 212 = .ok (.iconst 1, 1) := by decide +kernel
theorem dX11_beginsAnew_213 : decode cX11_beginsAnew 213 = .ok (.iaload, 1) := by decide +kernel
theorem dX11_beginsAnew_214 : decode cX11_beginsAnew 214 = .ok (.iastore, 1) := by decide +kernel
theorem dX11_beginsAnew_215 : decode cX11_beginsAnew 215 = .ok (.iinc 1 1, 3) := by decide +kernel
theorem dX11_beginsAnew_218 : decode cX11_beginsAnew 218 = .ok (.goto (-30), 3) := by decide +kernel
theorem dX11_beginsAnew_221 : decode cX11_beginsAnew 221 = .ok (.aload_n 0, 1) := by decide +kernel
theorem dX11_beginsAnew_222 : decode cX11_beginsAnew 222 = .ok (.iconst 0, 1) := by decide +kernel
theorem dX11_beginsAnew_223 : decode cX11_beginsAnew 223 = .ok (.putfield 190, 3) := by decide +kernel
theorem dX11_beginsAnew_226 : decode cX11_beginsAnew 226 = .ok (.aload_n 0, 1) := by decide +kernel
theorem dX11_beginsAnew_227 : decode cX11_beginsAnew 227 = .ok (.iconst 0, 1) := by decide +kernel
theorem dX11_beginsAnew_228 : decode cX11_beginsAnew 228 = .ok (.putfield 193, 3) := by decide +kernel
theorem dX11_beginsAnew_231 : decode cX11_beginsAnew 231 = .ok (.aload_n 0, 1) := by decide +kernel
theorem dX11_beginsAnew_232 : decode cX11_beginsAnew 232 = .ok (.iconst 0, 1) := by decide +kernel
theorem dX11_beginsAnew_233 : decode cX11_beginsAnew 233 = .ok (.putfield 196, 3) := by decide +kernel
theorem dX11_beginsAnew_236 : decode cX11_beginsAnew 236 = .ok (.aload_n 0, 1) := by decide +kernel
theorem dX11_beginsAnew_237 : decode cX11_beginsAnew 237 = .ok (.iconst 0, 1) := by decide +kernel
theorem dX11_beginsAnew_238 : decode cX11_beginsAnew 238 = .ok (.putfield 199, 3) := by decide +kernel
theorem dX11_beginsAnew_241 : decode cX11_beginsAnew 241 = .ok (.aload_n 0, 1) := by decide +kernel
theorem dX11_beginsAnew_242 : decode cX11_beginsAnew 242 = .ok (.iconst 0, 1) := by decide +kernel
theorem dX11_beginsAnew_243 : decode cX11_beginsAnew 243 = .ok (.putfield 202, 3) := by decide +kernel
theorem dX11_beginsAnew_246 : decode cX11_beginsAnew 246 = .ok (.return_, 1) := by decide +kernel
theorem dX11_notes_0 : decode cX11_notes 0 = .ok (.aload_n 0, 1) := by decide +kernel
theorem dX11_notes_1 : decode cX11_notes 1 = .ok (.getfield 113, 3) := by decide +kernel
theorem dX11_notes_4 : decode cX11_notes 4 = .ok (.ifCond .eq 4, 3) := by decide +kernel
theorem dX11_notes_7 : decode cX11_notes 7 = .ok (.return_, 1) := by decide +kernel
theorem dX11_notes_8 : decode cX11_notes 8 = .ok (.aload_n 0, 1) := by decide +kernel
theorem dX11_notes_9 : decode cX11_notes 9 = .ok (.getfield 55, 3) := by decide +kernel
theorem dX11_notes_12 : decode cX11_notes 12 = .ok (.aload_n 0, 1) := by decide +kernel
theorem dX11_notes_13 : decode cX11_notes 13 = .ok (.getfield 205, 3) := by decide +kernel
theorem dX11_notes_16 : decode cX11_notes 16 = .ok (.aaload, 1) := by decide +kernel
theorem dX11_notes_17 : decode cX11_notes 17 = .ok (.iconst 0, 1) := by decide +kernel
theorem dX11_notes_18 : decode cX11_notes 18 = .ok (.iload_n 1, 1) := by decide +kernel
theorem dX11_notes_19 : decode cX11_notes 19 = .ok (.iastore, 1) := by decide +kernel
theorem dX11_notes_20 : decode cX11_notes 20 = .ok (.aload_n 0, 1) := by decide +kernel
theorem dX11_notes_21 : decode cX11_notes 21 = .ok (.getfield 55, 3) := by decide +kernel
theorem dX11_notes_24 : decode cX11_notes 24 = .ok (.aload_n 0, 1) := by decide +kernel
theorem dX11_notes_25 : decode cX11_notes 25 = .ok (.getfield 205, 3) := by decide +kernel
theorem dX11_notes_28 : decode cX11_notes 28 = .ok (.aaload, 1) := by decide +kernel
theorem dX11_notes_29 : decode cX11_notes 29 = .ok (.iconst 1, 1) := by decide +kernel
theorem dX11_notes_30 : decode cX11_notes 30 = .ok (.iload_n 2, 1) := by decide +kernel
theorem dX11_notes_31 : decode cX11_notes 31 = .ok (.iastore, 1) := by decide +kernel
theorem dX11_notes_32 : decode cX11_notes 32 = .ok (.aload_n 0, 1) := by decide +kernel
theorem dX11_notes_33 : decode cX11_notes 33 = .ok (.dup, 1) := by decide +kernel
theorem dX11_notes_34 : decode cX11_notes 34 = .ok (.getfield 205, 3) := by decide +kernel
theorem dX11_notes_37 : decode cX11_notes 37 = .ok (.iconst 1, 1) := by decide +kernel
theorem dX11_notes_38 : decode cX11_notes 38 = .ok (.iadd, 1) := by decide +kernel
theorem dX11_notes_39 : decode cX11_notes 39 = .ok (.putfield 205, 3) := by decide +kernel
theorem dX11_notes_42 : decode cX11_notes 42 = .ok (.return_, 1) := by decide +kernel
theorem dX11_opensOne_0 : decode cX11_opensOne 0 = .ok (.aload_n 0, 1) := by decide +kernel
theorem dX11_opensOne_1 : decode cX11_opensOne 1 = .ok (.getfield 113, 3) := by decide +kernel
theorem dX11_opensOne_4 : decode cX11_opensOne 4 = .ok (.ifCond .ne 24, 3) := by decide +kernel
theorem dX11_opensOne_7 : decode cX11_opensOne 7 = .ok (.aload_n 0, 1) := by decide +kernel
theorem dX11_opensOne_8 : decode cX11_opensOne 8 = .ok (.getfield 156, 3) := by decide +kernel
theorem dX11_opensOne_11 : decode cX11_opensOne 11 = .ok (.bipush 6, 2) := by decide +kernel
theorem dX11_opensOne_13 : decode cX11_opensOne 13 = .ok (.if_icmp .ne 15, 3) := by decide +kernel
theorem dX11_opensOne_16 : decode cX11_opensOne 16 = .ok (.aload_n 0, 1) := by decide +kernel
theorem dX11_opensOne_17 : decode cX11_opensOne 17 = .ok (.iconst 3, 1) := by decide +kernel
theorem dX11_opensOne_18 : decode cX11_opensOne 18 = .ok (.aload_n 0, 1) := by decide +kernel
theorem dX11_opensOne_19 : decode cX11_opensOne 19 = .ok (.getfield 106, 3) := by decide +kernel
theorem dX11_opensOne_22 : decode cX11_opensOne 22 = .ok (.invokevirtual 126, 3) := by decide +kernel
theorem dX11_opensOne_25 : decode cX11_opensOne 25 = .ok (.goto 20, 3) := by decide +kernel
theorem dX11_opensOne_28 : decode cX11_opensOne 28 = .ok (.aload_n 0, 1) := by decide +kernel
theorem dX11_opensOne_29 : decode cX11_opensOne 29 = .ok (.getfield 113, 3) := by decide +kernel
theorem dX11_opensOne_32 : decode cX11_opensOne 32 = .ok (.ifCond .ne 13, 3) := by decide +kernel
theorem dX11_opensOne_35 : decode cX11_opensOne 35 = .ok (.aload_n 0, 1) := by decide +kernel
theorem dX11_opensOne_36 : decode cX11_opensOne 36 = .ok (.dup, 1) := by decide +kernel
theorem dX11_opensOne_37 : decode cX11_opensOne 37 = .ok (.getfield 156, 3) := by decide +kernel
theorem dX11_opensOne_40 : decode cX11_opensOne 40 = .ok (.iconst 1, 1) := by decide +kernel
theorem dX11_opensOne_41 : decode cX11_opensOne 41 = .ok (.iadd, 1) := by decide +kernel
theorem dX11_opensOne_42 : decode cX11_opensOne 42 = .ok (.putfield 156, 3) := by decide +kernel
theorem dX11_opensOne_45 : decode cX11_opensOne 45 = .ok (.aload_n 0, 1) := by decide +kernel
theorem dX11_opensOne_46 : decode cX11_opensOne 46 = .ok (.getfield 113, 3) := by decide +kernel
theorem dX11_opensOne_49 : decode cX11_opensOne 49 = .ok (.ifCond .ne 7, 3) := by decide +kernel
theorem dX11_opensOne_52 : decode cX11_opensOne 52 = .ok (.iconst 1, 1) := by decide +kernel
theorem dX11_opensOne_53 : decode cX11_opensOne 53 = .ok (.goto 4, 3) := by decide +kernel
theorem dX11_opensOne_56 : decode cX11_opensOne 56 = .ok (.iconst 0, 1) := by decide +kernel
theorem dX11_opensOne_57 : decode cX11_opensOne 57 = .ok (.ireturn, 1) := by decide +kernel
theorem dX11_sum_0 : decode cX11_sum 0 = .ok (.aload_n 0, 1) := by decide +kernel
theorem dX11_sum_1 : decode cX11_sum 1 = .ok (.invokevirtual 208, 3) := by decide +kernel
theorem dX11_sum_4 : decode cX11_sum 4 = .ok (.aload_n 0, 1) := by decide +kernel
theorem dX11_sum_5 : decode cX11_sum 5 = .ok (.getfield 113, 3) := by decide +kernel
theorem dX11_sum_8 : decode cX11_sum 8 = .ok (.ifCond .ne 50, 3) := by decide +kernel
theorem dX11_sum_11 : decode cX11_sum 11 = .ok (.aload_n 0, 1) := by decide +kernel
theorem dX11_sum_12 : decode cX11_sum 12 = .ok (.bipush 43, 2) := by decide +kernel
theorem dX11_sum_14 : decode cX11_sum 14 = .ok (.invokevirtual 211, 3) := by decide +kernel
theorem dX11_sum_17 : decode cX11_sum 17 = .ok (.ifCond .eq 7, 3) := by decide +kernel
theorem dX11_sum_20 : decode cX11_sum 20 = .ok (.iconst 2, 1) := by decide +kernel
theorem dX11_sum_21 : decode cX11_sum 21 = .ok (.goto 17, 3) := by decide +kernel
theorem dX11_sum_24 : decode cX11_sum 24 = .ok (.aload_n 0, 1) := by decide +kernel
theorem dX11_sum_25 : decode cX11_sum 25 = .ok (.bipush 45, 2) := by decide +kernel
theorem dX11_sum_27 : decode cX11_sum 27 = .ok (.invokevirtual 211, 3) := by decide +kernel
theorem dX11_sum_30 : decode cX11_sum 30 = .ok (.ifCond .eq 7, 3) := by decide +kernel
theorem dX11_sum_33 : decode cX11_sum 33 = .ok (.iconst 3, 1) := by decide +kernel
theorem dX11_sum_34 : decode cX11_sum 34 = .ok (.goto 4, 3) := by decide +kernel
theorem dX11_sum_37 : decode cX11_sum 37 = .ok (.iconst (-1), 1) := by decide +kernel
theorem dX11_sum_38 : decode cX11_sum 38 = .ok (.istore_n 1, 1) := by decide +kernel
theorem dX11_sum_39 : decode cX11_sum 39 = .ok (.iload_n 1, 1) := by decide +kernel
theorem dX11_sum_40 : decode cX11_sum 40 = .ok (.iconst (-1), 1) := by decide +kernel
theorem dX11_sum_41 : decode cX11_sum 41 = .ok (.if_icmp .ne 4, 3) := by decide +kernel
theorem dX11_sum_44 : decode cX11_sum 44 = .ok (.return_, 1) := by decide +kernel
theorem dX11_sum_45 : decode cX11_sum 45 = .ok (.aload_n 0, 1) := by decide +kernel
theorem dX11_sum_46 : decode cX11_sum 46 = .ok (.invokevirtual 208, 3) := by decide +kernel
theorem dX11_sum_49 : decode cX11_sum 49 = .ok (.aload_n 0, 1) := by decide +kernel
theorem dX11_sum_50 : decode cX11_sum 50 = .ok (.iload_n 1, 1) := by decide +kernel
theorem dX11_sum_51 : decode cX11_sum 51 = .ok (.iconst 0, 1) := by decide +kernel
theorem dX11_sum_52 : decode cX11_sum 52 = .ok (.invokevirtual 214, 3) := by decide +kernel
theorem dX11_sum_55 : decode cX11_sum 55 = .ok (.goto (-51), 3) := by decide +kernel
theorem dX11_sum_58 : decode cX11_sum 58 = .ok (.return_, 1) := by decide +kernel
theorem dX11_product_0 : decode cX11_product 0 = .ok (.aload_n 0, 1) := by decide +kernel
theorem dX11_product_1 : decode cX11_product 1 = .ok (.invokevirtual 217, 3) := by decide +kernel
theorem dX11_product_4 : decode cX11_product 4 = .ok (.aload_n 0, 1) := by decide +kernel
theorem dX11_product_5 : decode cX11_product 5 = .ok (.getfield 113, 3) := by decide +kernel
theorem dX11_product_8 : decode cX11_product 8 = .ok (.ifCond .ne 64, 3) := by decide +kernel
theorem dX11_product_11 : decode cX11_product 11 = .ok (.aload_n 0, 1) := by decide +kernel
theorem dX11_product_12 : decode cX11_product 12 = .ok (.bipush 42, 2) := by decide +kernel
theorem dX11_product_14 : decode cX11_product 14 = .ok (.invokevirtual 211, 3) := by decide +kernel
theorem dX11_product_17 : decode cX11_product 17 = .ok (.ifCond .eq 7, 3) := by decide +kernel
theorem dX11_product_20 : decode cX11_product 20 = .ok (.iconst 4, 1) := by decide +kernel
theorem dX11_product_21 : decode cX11_product 21 = .ok (.goto 31, 3) := by decide +kernel
theorem dX11_product_24 : decode cX11_product 24 = .ok (.aload_n 0, 1) := by decide +kernel
theorem dX11_product_25 : decode cX11_product 25 = .ok (.bipush 47, 2) := by decide +kernel
theorem dX11_product_27 : decode cX11_product 27 = .ok (.invokevirtual 211, 3) := by decide +kernel
theorem dX11_product_30 : decode cX11_product 30 = .ok (.ifCond .eq 7, 3) := by decide +kernel
theorem dX11_product_33 : decode cX11_product 33 = .ok (.iconst 5, 1) := by decide +kernel
theorem dX11_product_34 : decode cX11_product 34 = .ok (.goto 18, 3) := by decide +kernel
theorem dX11_product_37 : decode cX11_product 37 = .ok (.aload_n 0, 1) := by decide +kernel
theorem dX11_product_38 : decode cX11_product 38 = .ok (.bipush 37, 2) := by decide +kernel
theorem dX11_product_40 : decode cX11_product 40 = .ok (.invokevirtual 211, 3) := by decide +kernel
theorem dX11_product_43 : decode cX11_product 43 = .ok (.ifCond .eq 8, 3) := by decide +kernel
theorem dX11_product_46 : decode cX11_product 46 = .ok (.bipush 6, 2) := by decide +kernel
theorem dX11_product_48 : decode cX11_product 48 = .ok (.goto 4, 3) := by decide +kernel
theorem dX11_product_51 : decode cX11_product 51 = .ok (.iconst (-1), 1) := by decide +kernel
theorem dX11_product_52 : decode cX11_product 52 = .ok (.istore_n 1, 1) := by decide +kernel
theorem dX11_product_53 : decode cX11_product 53 = .ok (.iload_n 1, 1) := by decide +kernel
theorem dX11_product_54 : decode cX11_product 54 = .ok (.iconst (-1), 1) := by decide +kernel
theorem dX11_product_55 : decode cX11_product 55 = .ok (.if_icmp .ne 4, 3) := by decide +kernel
theorem dX11_product_58 : decode cX11_product 58 = .ok (.return_, 1) := by decide +kernel
theorem dX11_product_59 : decode cX11_product 59 = .ok (.aload_n 0, 1) := by decide +kernel
theorem dX11_product_60 : decode cX11_product 60 = .ok (.invokevirtual 217, 3) := by decide +kernel
theorem dX11_product_63 : decode cX11_product 63 = .ok (.aload_n 0, 1) := by decide +kernel
theorem dX11_product_64 : decode cX11_product 64 = .ok (.iload_n 1, 1) := by decide +kernel
theorem dX11_product_65 : decode cX11_product 65 = .ok (.iconst 0, 1) := by decide +kernel
theorem dX11_product_66 : decode cX11_product 66 = .ok (.invokevirtual 214, 3) := by decide +kernel
theorem dX11_product_69 : decode cX11_product 69 = .ok (.goto (-65), 3) := by decide +kernel
theorem dX11_product_72 : decode cX11_product 72 = .ok (.return_, 1) := by decide +kernel
theorem dX11_knownHere_0 : decode cX11_knownHere 0 = .ok (.aload_n 0, 1) := by decide +kernel
theorem dX11_knownHere_1 : decode cX11_knownHere 1 = .ok (.bipush 23, 2) := by decide +kernel
theorem dX11_knownHere_3 : decode cX11_knownHere 3 = .ok (.iconst 5, 1) := by decide +kernel
theorem dX11_knownHere_4 : decode cX11_knownHere 4 = .ok (.iconst 5, 1) := by decide +kernel
theorem dX11_knownHere_5 : decode cX11_knownHere 5 = .ok (.bipush 11, 2) := by decide +kernel
theorem dX11_knownHere_7 : decode cX11_knownHere 7 = .ok (.iconst 0, 1) := by decide +kernel
theorem dX11_knownHere_8 : decode cX11_knownHere 8 = .ok (.iconst 0, 1) := by decide +kernel
theorem dX11_knownHere_9 : decode cX11_knownHere 9 = .ok (.invokevirtual 220, 3) := by decide +kernel
theorem dX11_knownHere_12 : decode cX11_knownHere 12 = .ok (.ifCond .eq 5, 3) := by decide +kernel
theorem dX11_knownHere_15 : decode cX11_knownHere 15 = .ok (.iconst 0, 1) := by decide +kernel
theorem dX11_knownHere_16 : decode cX11_knownHere 16 = .ok (.ireturn, 1) := by decide +kernel
theorem dX11_knownHere_17 : decode cX11_knownHere 17 = .ok (.aload_n 0, 1) := by decide +kernel
theorem dX11_knownHere_18 : decode cX11_knownHere 18 = .ok (.bipush 19, 2) := by decide +kernel
theorem dX11_knownHere_20 : decode cX11_knownHere 20 = .ok (.bipush 15, 2) := by decide +kernel
theorem dX11_knownHere_22 : decode cX11_knownHere 22 = .ok (.bipush 12, 2) := by decide +kernel
theorem dX11_knownHere_24 : decode cX11_knownHere 24 = .ok (.iconst 4, 1) := by decide +kernel
theorem dX11_knownHere_25 : decode cX11_knownHere 25 = .ok (.iconst 0, 1) := by decide +kernel
theorem dX11_knownHere_26 : decode cX11_knownHere 26 = .ok (.iconst 0, 1) := by decide +kernel
theorem dX11_knownHere_27 : decode cX11_knownHere 27 = .ok (.invokevirtual 220, 3) := by decide +kernel
theorem dX11_knownHere_30 : decode cX11_knownHere 30 = .ok (.ifCond .eq 5, 3) := by decide +kernel
theorem dX11_knownHere_33 : decode cX11_knownHere 33 = .ok (.iconst 1, 1) := by decide +kernel
theorem dX11_knownHere_34 : decode cX11_knownHere 34 = .ok (.ireturn, 1) := by decide +kernel
theorem dX11_knownHere_35 : decode cX11_knownHere 35 = .ok (.aload_n 0, 1) := by decide +kernel
theorem dX11_knownHere_36 : decode cX11_knownHere 36 = .ok (.bipush 19, 2) := by decide +kernel
theorem dX11_knownHere_38 : decode cX11_knownHere 38 = .ok (.bipush 11, 2) := by decide +kernel
theorem dX11_knownHere_40 : decode cX11_knownHere 40 = .ok (.bipush 9, 2) := by decide +kernel
theorem dX11_knownHere_42 : decode cX11_knownHere 42 = .ok (.bipush 16, 2) := by decide +kernel
theorem dX11_knownHere_44 : decode cX11_knownHere 44 = .ok (.bipush 16, 2) := by decide +kernel
theorem dX11_knownHere_46 : decode cX11_knownHere 46 = .ok (.iconst 5, 1) := by decide +kernel
theorem dX11_knownHere_47 : decode cX11_knownHere 47 = .ok (.invokestatic 142, 3) := by decide +kernel
theorem dX11_knownHere_50 : decode cX11_knownHere 50 = .ok (.bipush 100, 2) := by decide +kernel
theorem dX11_knownHere_52 : decode cX11_knownHere 52 = .ok (.invokevirtual 223, 3) := by decide +kernel
theorem dX11_knownHere_55 : decode cX11_knownHere 55 = .ok (.ifCond .eq 5, 3) := by decide +kernel
theorem dX11_knownHere_58 : decode cX11_knownHere 58 = .ok (.iconst 2, 1) := by decide +kernel
theorem dX11_knownHere_59 : decode cX11_knownHere 59 = .ok (.ireturn, 1) := by decide +kernel
theorem dX11_knownHere_60 : decode cX11_knownHere 60 = .ok (.aload_n 0, 1) := by decide +kernel
theorem dX11_knownHere_61 : decode cX11_knownHere 61 = .ok (.iconst 3, 1) := by decide +kernel
theorem dX11_knownHere_62 : decode cX11_knownHere 62 = .ok (.bipush 15, 2) := by decide +kernel
theorem dX11_knownHere_64 : decode cX11_knownHere 64 = .ok (.bipush 9, 2) := by decide +kernel
theorem dX11_knownHere_66 : decode cX11_knownHere 66 = .ok (.bipush 14, 2) := by decide +kernel
theorem dX11_knownHere_68 : decode cX11_knownHere 68 = .ok (.bipush 19, 2) := by decide +kernel
theorem dX11_knownHere_70 : decode cX11_knownHere 70 = .ok (.iconst 0, 1) := by decide +kernel
theorem dX11_knownHere_71 : decode cX11_knownHere 71 = .ok (.invokevirtual 220, 3) := by decide +kernel
theorem dX11_knownHere_74 : decode cX11_knownHere 74 = .ok (.ifCond .eq 5, 3) := by decide +kernel
theorem dX11_knownHere_77 : decode cX11_knownHere 77 = .ok (.iconst 3, 1) := by decide +kernel
theorem dX11_knownHere_78 : decode cX11_knownHere 78 = .ok (.ireturn, 1) := by decide +kernel
theorem dX11_knownHere_79 : decode cX11_knownHere 79 = .ok (.aload_n 0, 1) := by decide +kernel
theorem dX11_knownHere_80 : decode cX11_knownHere 80 = .ok (.bipush 23, 2) := by decide +kernel
theorem dX11_knownHere_82 : decode cX11_knownHere 82 = .ok (.iconst 1, 1) := by decide +kernel
theorem dX11_knownHere_83 : decode cX11_knownHere 83 = .ok (.bipush 7, 2) := by decide +kernel
theorem dX11_knownHere_85 : decode cX11_knownHere 85 = .ok (.iconst 5, 1) := by decide +kernel
theorem dX11_knownHere_86 : decode cX11_knownHere 86 = .ok (.iconst 0, 1) := by decide +kernel
theorem dX11_knownHere_87 : decode cX11_knownHere 87 = .ok (.iconst 0, 1) := by decide +kernel
theorem dX11_knownHere_88 : decode cX11_knownHere 88 = .ok (.invokevirtual 220, 3) := by decide +kernel
theorem dX11_knownHere_91 : decode cX11_knownHere 91 = .ok (.ifCond .eq 5, 3) := by decide +kernel
theorem dX11_knownHere_94 : decode cX11_knownHere 94 = .ok (.iconst 4, 1) := by decide +kernel
theorem dX11_knownHere_95 : decode cX11_knownHere 95 = .ok (.ireturn, 1) := by decide +kernel
theorem dX11_knownHere_96 : decode cX11_knownHere 96 = .ok (.aload_n 0, 1) := by decide +kernel
theorem dX11_knownHere_97 : decode cX11_knownHere 97 = .ok (.bipush 14, 2) := by decide +kernel
theorem dX11_knownHere_99 : decode cX11_knownHere 99 = .ok (.iconst 5, 1) := by decide +kernel
theorem dX11_knownHere_100 : decode cX11_knownHere 100 = .ok (.iconst 5, 1) := by decide +kernel
theorem dX11_knownHere_101 : decode cX11_knownHere 101 = .ok (.iconst 4, 1) := by decide +kernel
theorem dX11_knownHere_102 : decode cX11_knownHere 102 = .ok (.iconst 5, 1) := by decide +kernel
theorem dX11_knownHere_103 : decode cX11_knownHere 103 = .ok (.iconst 4, 1) := by decide +kernel
theorem dX11_knownHere_104 : decode cX11_knownHere 104 = .ok (.invokevirtual 220, 3) := by decide +kernel
theorem dX11_knownHere_107 : decode cX11_knownHere 107 = .ok (.ifCond .eq 5, 3) := by decide +kernel
theorem dX11_knownHere_110 : decode cX11_knownHere 110 = .ok (.iconst 5, 1) := by decide +kernel
theorem dX11_knownHere_111 : decode cX11_knownHere 111 = .ok (.ireturn, 1) := by decide +kernel
theorem dX11_knownHere_112 : decode cX11_knownHere 112 = .ok (.aload_n 0, 1) := by decide +kernel
theorem dX11_knownHere_113 : decode cX11_knownHere 113 = .ok (.bipush 20, 2) := by decide +kernel
theorem dX11_knownHere_115 : decode cX11_knownHere 115 = .ok (.iconst 1, 1) := by decide +kernel
theorem dX11_knownHere_116 : decode cX11_knownHere 116 = .ok (.bipush 19, 2) := by decide +kernel
theorem dX11_knownHere_118 : decode cX11_knownHere 118 = .ok (.bipush 11, 2) := by decide +kernel
theorem dX11_knownHere_120 : decode cX11_knownHere 120 = .ok (.bipush 19, 2) := by decide +kernel
theorem dX11_knownHere_122 : decode cX11_knownHere 122 = .ok (.iconst 0, 1) := by decide +kernel
theorem dX11_knownHere_123 : decode cX11_knownHere 123 = .ok (.invokevirtual 220, 3) := by decide +kernel
theorem dX11_knownHere_126 : decode cX11_knownHere 126 = .ok (.ifCond .eq 6, 3) := by decide +kernel
theorem dX11_knownHere_129 : decode cX11_knownHere 129 = .ok (.bipush 6, 2) := by decide +kernel
theorem dX11_knownHere_131 : decode cX11_knownHere 131 = .ok (.ireturn, 1) := by decide +kernel
theorem dX11_knownHere_132 : decode cX11_knownHere 132 = .ok (.aload_n 0, 1) := by decide +kernel
theorem dX11_knownHere_133 : decode cX11_knownHere 133 = .ok (.bipush 16, 2) := by decide +kernel
theorem dX11_knownHere_135 : decode cX11_knownHere 135 = .ok (.iconst 5, 1) := by decide +kernel
theorem dX11_knownHere_136 : decode cX11_knownHere 136 = .ok (.bipush 18, 2) := by decide +kernel
theorem dX11_knownHere_138 : decode cX11_knownHere 138 = .ok (.bipush 19, 2) := by decide +kernel
theorem dX11_knownHere_140 : decode cX11_knownHere 140 = .ok (.bipush 15, 2) := by decide +kernel
theorem dX11_knownHere_142 : decode cX11_knownHere 142 = .ok (.bipush 14, 2) := by decide +kernel
theorem dX11_knownHere_144 : decode cX11_knownHere 144 = .ok (.invokevirtual 220, 3) := by decide +kernel
theorem dX11_knownHere_147 : decode cX11_knownHere 147 = .ok (.ifCond .eq 8, 3) := by decide +kernel
theorem dX11_knownHere_150 : decode cX11_knownHere 150 = .ok (.bipush 7, 2) := by decide +kernel
theorem dX11_knownHere_152 : decode cX11_knownHere 152 = .ok (.goto 4, 3) := by decide +kernel
theorem dX11_knownHere_155 : decode cX11_knownHere 155 = .ok (.iconst (-1), 1) := by decide +kernel
theorem dX11_knownHere_156 : decode cX11_knownHere 156 = .ok (.ireturn, 1) := by decide +kernel
theorem dX11_one_0 : decode cX11_one 0 = .ok (.aload_n 0, 1) := by decide +kernel
theorem dX11_one_1 : decode cX11_one 1 = .ok (.getfield 113, 3) := by decide +kernel
theorem dX11_one_4 : decode cX11_one 4 = .ok (.ifCond .eq 4, 3) := by decide +kernel
theorem dX11_one_7 : decode cX11_one 7 = .ok (.return_, 1) := by decide +kernel
theorem dX11_one_8 : decode cX11_one 8 = .ok (.aload_n 0, 1) := by decide +kernel
theorem dX11_one_9 : decode cX11_one 9 = .ok (.invokevirtual 119, 3) := by decide +kernel
theorem dX11_one_12 : decode cX11_one 12 = .ok (.aload_n 0, 1) := by decide +kernel
theorem dX11_one_13 : decode cX11_one 13 = .ok (.bipush 12, 2) := by decide +kernel
theorem dX11_one_15 : decode cX11_one 15 = .ok (.iconst 5, 1) := by decide +kernel
theorem dX11_one_16 : decode cX11_one 16 = .ok (.iconst 1, 1) := by decide +kernel
theorem dX11_one_17 : decode cX11_one 17 = .ok (.bipush 19, 2) := by decide +kernel
theorem dX11_one_19 : decode cX11_one 19 = .ok (.bipush 20, 2) := by decide +kernel
theorem dX11_one_21 : decode cX11_one 21 = .ok (.iconst 0, 1) := by decide +kernel
theorem dX11_one_22 : decode cX11_one 22 = .ok (.invokevirtual 146, 3) := by decide +kernel
theorem dX11_one_25 : decode cX11_one 25 = .ok (.ifCond .eq 8, 3) := by decide +kernel
theorem dX11_one_28 : decode cX11_one 28 = .ok (.bipush 7, 2) := by decide +kernel
theorem dX11_one_30 : decode cX11_one 30 = .ok (.goto 26, 3) := by decide +kernel
theorem dX11_one_33 : decode cX11_one 33 = .ok (.aload_n 0, 1) := by decide +kernel
theorem dX11_one_34 : decode cX11_one 34 = .ok (.bipush 13, 2) := by decide +kernel
theorem dX11_one_36 : decode cX11_one 36 = .ok (.bipush 15, 2) := by decide +kernel
theorem dX11_one_38 : decode cX11_one 38 = .ok (.bipush 19, 2) := by decide +kernel
theorem dX11_one_40 : decode cX11_one 40 = .ok (.bipush 20, 2) := by decide +kernel
theorem dX11_one_42 : decode cX11_one 42 = .ok (.iconst 0, 1) := by decide +kernel
theorem dX11_one_43 : decode cX11_one 43 = .ok (.iconst 0, 1) := by decide +kernel
theorem dX11_one_44 : decode cX11_one 44 = .ok (.invokevirtual 146, 3) := by decide +kernel
theorem dX11_one_47 : decode cX11_one 47 = .ok (.ifCond .eq 8, 3) := by decide +kernel
theorem dX11_one_50 : decode cX11_one 50 = .ok (.bipush 8, 2) := by decide +kernel
theorem dX11_one_52 : decode cX11_one 52 = .ok (.goto 4, 3) := by decide +kernel
theorem dX11_one_55 : decode cX11_one 55 = .ok (.iconst (-1), 1) := by decide +kernel
theorem dX11_one_56 : decode cX11_one 56 = .ok (.istore_n 1, 1) := by decide +kernel
theorem dX11_one_57 : decode cX11_one 57 = .ok (.iload_n 1, 1) := by decide +kernel
theorem dX11_one_58 : decode cX11_one 58 = .ok (.iconst (-1), 1) := by decide +kernel
theorem dX11_one_59 : decode cX11_one 59 = .ok (.if_icmp .eq 58, 3) := by decide +kernel
theorem dX11_one_62 : decode cX11_one 62 = .ok (.aload_n 0, 1) := by decide +kernel
theorem dX11_one_63 : decode cX11_one 63 = .ok (.invokevirtual 227, 3) := by decide +kernel
theorem dX11_one_66 : decode cX11_one 66 = .ok (.ifCond .ne 4, 3) := by decide +kernel
theorem dX11_one_69 : decode cX11_one 69 = .ok (.return_, 1) := by decide +kernel
theorem dX11_one_70 : decode cX11_one 70 = .ok (.aload_n 0, 1) := by decide +kernel
theorem dX11_one_71 : decode cX11_one 71 = .ok (.invokevirtual 150, 3) := by decide +kernel
theorem dX11_one_74 : decode cX11_one 74 = .ok (.aload_n 0, 1) := by decide +kernel
theorem dX11_one_75 : decode cX11_one 75 = .ok (.bipush 91, 2) := by decide +kernel
theorem dX11_one_77 : decode cX11_one 77 = .ok (.invokevirtual 169, 3) := by decide +kernel
theorem dX11_one_80 : decode cX11_one 80 = .ok (.aload_n 0, 1) := by decide +kernel
theorem dX11_one_81 : decode cX11_one 81 = .ok (.invokevirtual 231, 3) := by decide +kernel
theorem dX11_one_84 : decode cX11_one 84 = .ok (.aload_n 0, 1) := by decide +kernel
theorem dX11_one_85 : decode cX11_one 85 = .ok (.bipush 44, 2) := by decide +kernel
theorem dX11_one_87 : decode cX11_one 87 = .ok (.invokevirtual 169, 3) := by decide +kernel
theorem dX11_one_90 : decode cX11_one 90 = .ok (.aload_n 0, 1) := by decide +kernel
theorem dX11_one_91 : decode cX11_one 91 = .ok (.invokevirtual 231, 3) := by decide +kernel
theorem dX11_one_94 : decode cX11_one 94 = .ok (.aload_n 0, 1) := by decide +kernel
theorem dX11_one_95 : decode cX11_one 95 = .ok (.bipush 93, 2) := by decide +kernel
theorem dX11_one_97 : decode cX11_one 97 = .ok (.invokevirtual 169, 3) := by decide +kernel
theorem dX11_one_100 : decode cX11_one 100 = .ok (.aload_n 0, 1) := by decide +kernel
theorem dX11_one_101 : decode cX11_one 101 = .ok (.iload_n 1, 1) := by decide +kernel
theorem dX11_one_102 : decode cX11_one 102 = .ok (.iconst 0, 1) := by decide +kernel
theorem dX11_one_103 : decode cX11_one 103 = .ok (.invokevirtual 214, 3) := by decide +kernel
theorem dX11_one_106 : decode cX11_one 106 = .ok (.aload_n 0, 1) := by decide +kernel
theorem dX11_one_107 : decode cX11_one 107 = .ok (.dup, 1) := by decide +kernel
theorem dX11_one_108 : decode cX11_one 108 = .ok (.getfield 156, 3) := by decide +kernel
theorem dX11_one_111 : decode cX11_one 111 = .ok (.iconst 1, 1) := by decide +kernel
theorem dX11_one_112 : decode cX11_one 112 = .ok (.isub, 1) := by decide +kernel
theorem dX11_one_113 : decode cX11_one 113 = .ok (.putfield 156, 3) := by decide +kernel
theorem dX11_one_116 : decode cX11_one 116 = .ok (.return_, 1) := by decide +kernel
theorem dX11_one_117 : decode cX11_one 117 = .ok (.aload_n 0, 1) := by decide +kernel
theorem dX11_one_118 : decode cX11_one 118 = .ok (.aload_n 0, 1) := by decide +kernel
theorem dX11_one_119 : decode cX11_one 119 = .ok (.getfield 106, 3) := by decide +kernel
theorem dX11_one_122 : decode cX11_one 122 = .ok (.invokevirtual 109, 3) := by decide +kernel
theorem dX11_one_125 : decode cX11_one 125 = .ok (.bipush 40, 2) := by decide +kernel
theorem dX11_one_127 : decode cX11_one 127 = .ok (.if_icmp .ne 42, 3) := by decide +kernel
theorem dX11_one_130 : decode cX11_one 130 = .ok (.aload_n 0, 1) := by decide +kernel
theorem dX11_one_131 : decode cX11_one 131 = .ok (.invokevirtual 227, 3) := by decide +kernel
theorem dX11_one_134 : decode cX11_one 134 = .ok (.ifCond .ne 4, 3) := by decide +kernel
theorem dX11_one_137 : decode cX11_one 137 = .ok (.return_, 1) := by decide +kernel
theorem dX11_one_138 : decode cX11_one 138 = .ok (.aload_n 0, 1) := by decide +kernel
theorem dX11_one_139 : decode cX11_one 139 = .ok (.dup, 1) := by decide +kernel
theorem dX11_one_140 : decode cX11_one 140 = .ok (.getfield 106, 3) := by decide +kernel
theorem dX11_one_143 : decode cX11_one 143 = .ok (.iconst 1, 1) := by decide +kernel
theorem dX11_one_144 : decode cX11_one 144 = .ok (.iadd, 1) := by decide +kernel
theorem dX11_one_145 : decode cX11_one 145 = .ok (.putfield 106, 3) := by decide +kernel
theorem dX11_one_148 : decode cX11_one 148 = .ok (.aload_n 0, 1) := by decide +kernel
theorem dX11_one_149 : decode cX11_one 149 = .ok (.invokevirtual 231, 3) := by decide +kernel
theorem dX11_one_152 : decode cX11_one 152 = .ok (.aload_n 0, 1) := by decide +kernel
theorem dX11_one_153 : decode cX11_one 153 = .ok (.bipush 41, 2) := by decide +kernel
theorem dX11_one_155 : decode cX11_one 155 = .ok (.invokevirtual 169, 3) := by decide +kernel
theorem dX11_one_158 : decode cX11_one 158 = .ok (.aload_n 0, 1) := by decide +kernel
theorem dX11_one_159 : decode cX11_one 159 = .ok (.dup, 1) := by decide +kernel
theorem dX11_one_160 : decode cX11_one 160 = .ok (.getfield 156, 3) := by decide +kernel
theorem dX11_one_163 : decode cX11_one 163 = .ok (.iconst 1, 1) := by decide +kernel
theorem dX11_one_164 : decode cX11_one 164 = .ok (.isub, 1) := by decide +kernel
theorem dX11_one_165 : decode cX11_one 165 = .ok (.putfield 156, 3) := by decide +kernel
theorem dX11_one_168 : decode cX11_one 168 = .ok (.return_, 1) := by decide +kernel
theorem dX11_one_169 : decode cX11_one 169 = .ok (.aload_n 0, 1) := by decide +kernel
theorem dX11_one_170 : decode cX11_one 170 = .ok (.invokevirtual 234, 3) := by decide +kernel
theorem dX11_one_173 : decode cX11_one 173 = .ok (.istore_n 2, 1) := by decide +kernel
theorem dX11_one_174 : decode cX11_one 174 = .ok (.iload_n 2, 1) := by decide +kernel
theorem dX11_one_175 : decode cX11_one 175 = .ok (.iconst (-1), 1) := by decide +kernel
theorem dX11_one_176 : decode cX11_one 176 = .ok (.if_icmp .eq 12, 3) := by decide +kernel
theorem dX11_one_179 : decode cX11_one 179 = .ok (.aload_n 0, 1) := by decide +kernel
theorem dX11_one_180 : decode cX11_one 180 = .ok (.iconst 1, 1) := by decide +kernel
theorem dX11_one_181 : decode cX11_one 181 = .ok (.iload_n 2, 1) := by decide +kernel
theorem dX11_one_182 : decode cX11_one 182 = .ok (.invokevirtual 214, 3) := by decide +kernel
theorem dX11_one_185 : decode cX11_one 185 = .ok (.goto 16, 3) := by decide +kernel
theorem dX11_one_188 : decode cX11_one 188 = .ok (.aload_n 0, 1) := by decide +kernel
theorem dX11_one_189 : decode cX11_one 189 = .ok (.iconst 0, 1) := by decide +kernel
theorem dX11_one_190 : decode cX11_one 190 = .ok (.aload_n 0, 1) := by decide +kernel
theorem dX11_one_191 : decode cX11_one 191 = .ok (.iconst 0, 1) := by decide +kernel
theorem dX11_one_192 : decode cX11_one 192 = .ok (.sipush 999, 3) := by decide +kernel
theorem dX11_one_195 : decode cX11_one 195 = .ok (.invokevirtual 165, 3) := by decide +kernel
theorem dX11_one_198 : decode cX11_one 198 = .ok (.invokevirtual 214, 3) := by decide +kernel
theorem dX11_one_201 : decode cX11_one 201 = .ok (.return_, 1) := by decide +kernel
theorem dX11_law_0 : decode cX11_law 0 = .ok (.aload_n 0, 1) := by decide +kernel
theorem dX11_law_1 : decode cX11_law 1 = .ok (.iconst 0, 1) := by decide +kernel
theorem dX11_law_2 : decode cX11_law 2 = .ok (.putfield 97, 3) := by decide +kernel
theorem dX11_law_5 : decode cX11_law 5 = .ok (.aload_n 0, 1) := by decide +kernel
theorem dX11_law_6 : decode cX11_law 6 = .ok (.iload_n 1, 1) := by decide +kernel
theorem dX11_law_7 : decode cX11_law 7 = .ok (.iconst 0, 1) := by decide +kernel
theorem dX11_law_8 : decode cX11_law 8 = .ok (.aload_n 0, 1) := by decide +kernel
theorem dX11_law_9 : decode cX11_law 9 = .ok (.getfield 100, 3) := by decide +kernel
theorem dX11_law_12 : decode cX11_law 12 = .ok (.invokestatic 131, 3) := by decide +kernel
theorem dX11_law_15 : decode cX11_law 15 = .ok (.ifCond .eq 10, 3) := by decide +kernel
theorem dX11_law_18 : decode cX11_law 18 = .ok (.iload_n 1, 1) := by decide +kernel
theorem dX11_law_19 : decode cX11_law 19 = .ok (.sipush 150, 3) := by decide +kernel
theorem dX11_law_22 : decode cX11_law 22 = .ok (.if_icmp .le 7, 3) := by decide +kernel
theorem dX11_law_25 : decode cX11_law 25 = .ok (.iconst 1, 1) := by decide +kernel
theorem dX11_law_26 : decode cX11_law 26 = .ok (.goto 4, 3) := by decide +kernel
theorem dX11_law_29 : decode cX11_law 29 = .ok (.iconst 0, 1) := by decide +kernel
theorem dX11_law_30 : decode cX11_law 30 = .ok (.iconst 1, 1) := by decide +kernel
theorem dX11_law_31 : decode cX11_law 31 = .ok (.iconst 1, 1) := by decide +kernel
theorem dX11_law_32 : decode cX11_law 32 = .ok (.invokevirtual 173, 3) := by decide +kernel
theorem dX11_law_35 : decode cX11_law 35 = .ok (.ifCond .eq 5, 3) := by decide +kernel
theorem dX11_law_38 : decode cX11_law 38 = .ok (.iconst 0, 1) := by decide +kernel
theorem dX11_law_39 : decode cX11_law 39 = .ok (.ireturn, 1) := by decide +kernel
theorem dX11_law_40 : decode cX11_law 40 = .ok (.aload_n 0, 1) := by decide +kernel
theorem dX11_law_41 : decode cX11_law 41 = .ok (.iload_n 1, 1) := by decide +kernel
theorem dX11_law_42 : decode cX11_law 42 = .ok (.invokevirtual 177, 3) := by decide +kernel
theorem dX11_law_45 : decode cX11_law 45 = .ok (.aload_n 0, 1) := by decide +kernel
theorem dX11_law_46 : decode cX11_law 46 = .ok (.iconst 0, 1) := by decide +kernel
theorem dX11_law_47 : decode cX11_law 47 = .ok (.putfield 205, 3) := by decide +kernel
theorem dX11_law_50 : decode cX11_law 50 = .ok (.aload_n 0, 1) := by decide +kernel
theorem dX11_law_51 : decode cX11_law 51 = .ok (.invokevirtual 231, 3) := by decide +kernel
theorem dX11_law_54 : decode cX11_law 54 = .ok (.aload_n 0, 1) := by decide +kernel
theorem dX11_law_55 : decode cX11_law 55 = .ok (.invokevirtual 119, 3) := by decide +kernel
theorem dX11_law_58 : decode cX11_law 58 = .ok (.aload_n 0, 1) := by decide +kernel
theorem dX11_law_59 : decode cX11_law 59 = .ok (.getfield 113, 3) := by decide +kernel
theorem dX11_law_62 : decode cX11_law 62 = .ok (.ifCond .ne 23, 3) := by decide +kernel
theorem dX11_law_65 : decode cX11_law 65 = .ok (.aload_n 0, 1) := by decide +kernel
theorem dX11_law_66 : decode cX11_law 66 = .ok (.getfield 106, 3) := by decide +kernel
theorem dX11_law_69 : decode cX11_law 69 = .ok (.aload_n 0, 1) := by decide +kernel
theorem dX11_law_70 : decode cX11_law 70 = .ok (.getfield 103, 3) := by decide +kernel
theorem dX11_law_73 : decode cX11_law 73 = .ok (.if_icmp .ge 12, 3) := by decide +kernel
theorem dX11_law_76 : decode cX11_law 76 = .ok (.aload_n 0, 1) := by decide +kernel
theorem dX11_law_77 : decode cX11_law 77 = .ok (.iconst 1, 1) := by decide +kernel
theorem dX11_law_78 : decode cX11_law 78 = .ok (.aload_n 0, 1) := by decide +kernel
theorem dX11_law_79 : decode cX11_law 79 = .ok (.getfield 106, 3) := by decide +kernel
theorem dX11_law_82 : decode cX11_law 82 = .ok (.invokevirtual 126, 3) := by decide +kernel
theorem dX11_law_85 : decode cX11_law 85 = .ok (.aload_n 0, 1) := by decide +kernel
theorem dX11_law_86 : decode cX11_law 86 = .ok (.getfield 113, 3) := by decide +kernel
theorem dX11_law_89 : decode cX11_law 89 = .ok (.ifCond .eq 8, 3) := by decide +kernel
theorem dX11_law_92 : decode cX11_law 92 = .ok (.aload_n 0, 1) := by decide +kernel
theorem dX11_law_93 : decode cX11_law 93 = .ok (.invokevirtual 183, 3) := by decide +kernel
theorem dX11_law_96 : decode cX11_law 96 = .ok (.ireturn, 1) := by decide +kernel
theorem dX11_law_97 : decode cX11_law 97 = .ok (.aload_n 0, 1) := by decide +kernel
theorem dX11_law_98 : decode cX11_law 98 = .ok (.iconst (-1), 1) := by decide +kernel
theorem dX11_law_99 : decode cX11_law 99 = .ok (.putfield 9, 3) := by decide +kernel
theorem dX11_law_102 : decode cX11_law 102 = .ok (.aload_n 0, 1) := by decide +kernel
theorem dX11_law_103 : decode cX11_law 103 = .ok (.aload_n 0, 1) := by decide +kernel
theorem dX11_law_104 : decode cX11_law 104 = .ok (.getfield 205, 3) := by decide +kernel
theorem dX11_law_107 : decode cX11_law 107 = .ok (.putfield 190, 3) := by decide +kernel
theorem dX11_law_110 : decode cX11_law 110 = .ok (.aload_n 0, 1) := by decide +kernel
theorem dX11_law_111 : decode cX11_law 111 = .ok (.getfield 55, 3) := by decide +kernel
theorem dX11_law_114 : decode cX11_law 114 = .ok (.aload_n 0, 1) := by decide +kernel
theorem dX11_law_115 : decode cX11_law 115 = .ok (.getfield 52, 3) := by decide +kernel
theorem dX11_law_118 : decode cX11_law 118 = .ok (.aload_n 0, 1) := by decide +kernel
theorem dX11_law_119 : decode cX11_law 119 = .ok (.getfield 190, 3) := by decide +kernel
theorem dX11_law_122 : decode cX11_law 122 = .ok (.invokestatic 186, 3) := by decide +kernel
theorem dX11_law_125 : decode cX11_law 125 = .ok (.iconst 1, 1) := by decide +kernel
theorem dX11_law_126 : decode cX11_law 126 = .ok (.ireturn, 1) := by decide +kernel
theorem dX11_by_0 : decode cX11_by 0 = .ok (.iload_n 0, 1) := by decide +kernel
theorem dX11_by_1 : decode cX11_by 1 = .ok (.tableswitch 96 2 7 #[39, 43, 47, 51, 73, 90], 39) := by decide +kernel
