theorem dX5_arrive_92 : decode cX5_arrive 92 = .ok (.iload 4, 2) := by decide +kernel
theorem dX5_arrive_94 : decode cX5_arrive 94 = .ok (.iadd, 1) := by decide +kernel
theorem dX5_arrive_95 : decode cX5_arrive 95 = .ok (.iaload, 1) := by decide +kernel
theorem dX5_arrive_96 : decode cX5_arrive 96 = .ok (.putfield 147, 3) := by decide +kernel
theorem dX5_arrive_99 : decode cX5_arrive 99 = .ok (.aload_n 0, 1) := by decide +kernel
theorem dX5_arrive_100 : decode cX5_arrive 100 = .ok (.aload_n 0, 1) := by decide +kernel
theorem dX5_arrive_101 : decode cX5_arrive 101 = .ok (.getfield 19, 3) := by decide +kernel
theorem dX5_arrive_104 : decode cX5_arrive 104 = .ok (.iconst 5, 1) := by decide +kernel
theorem dX5_arrive_105 : decode cX5_arrive 105 = .ok (.iload_n 3, 1) := by decide +kernel
theorem dX5_arrive_106 : decode cX5_arrive 106 = .ok (.imul, 1) := by decide +kernel
theorem dX5_arrive_107 : decode cX5_arrive 107 = .ok (.iload 4, 2) := by decide +kernel
theorem dX5_arrive_109 : decode cX5_arrive 109 = .ok (.iadd, 1) := by decide +kernel
theorem dX5_arrive_110 : decode cX5_arrive 110 = .ok (.iaload, 1) := by decide +kernel
theorem dX5_arrive_111 : decode cX5_arrive 111 = .ok (.putfield 150, 3) := by decide +kernel
theorem dX5_arrive_114 : decode cX5_arrive 114 = .ok (.aload_n 0, 1) := by decide +kernel
theorem dX5_arrive_115 : decode cX5_arrive 115 = .ok (.getfield 108, 3) := by decide +kernel
theorem dX5_arrive_118 : decode cX5_arrive 118 = .ok (.ireturn, 1) := by decide +kernel
theorem dX5_seek_0 : decode cX5_seek 0 = .ok (.aload_n 0, 1) := by decide +kernel
theorem dX5_seek_1 : decode cX5_seek 1 = .ok (.iconst 0, 1) := by decide +kernel
theorem dX5_seek_2 : decode cX5_seek 2 = .ok (.putfield 44, 3) := by decide +kernel
theorem dX5_seek_5 : decode cX5_seek 5 = .ok (.aload_n 0, 1) := by decide +kernel
theorem dX5_seek_6 : decode cX5_seek 6 = .ok (.iload_n 1, 1) := by decide +kernel
theorem dX5_seek_7 : decode cX5_seek 7 = .ok (.invokevirtual 92, 3) := by decide +kernel
theorem dX5_seek_10 : decode cX5_seek 10 = .ok (.aload_n 0, 1) := by decide +kernel
theorem dX5_seek_11 : decode cX5_seek 11 = .ok (.invokevirtual 112, 3) := by decide +kernel
theorem dX5_seek_14 : decode cX5_seek 14 = .ok (.aload_n 0, 1) := by decide +kernel
theorem dX5_seek_15 : decode cX5_seek 15 = .ok (.aload_n 0, 1) := by decide +kernel
theorem dX5_seek_16 : decode cX5_seek 16 = .ok (.getfield 25, 3) := by decide +kernel
theorem dX5_seek_19 : decode cX5_seek 19 = .ok (.aload_n 0, 1) := by decide +kernel
theorem dX5_seek_20 : decode cX5_seek 20 = .ok (.getfield 74, 3) := by decide +kernel
theorem dX5_seek_23 : decode cX5_seek 23 = .ok (.iaload, 1) := by decide +kernel
theorem dX5_seek_24 : decode cX5_seek 24 = .ok (.aload_n 0, 1) := by decide +kernel
theorem dX5_seek_25 : decode cX5_seek 25 = .ok (.iload_n 1, 1) := by decide +kernel
theorem dX5_seek_26 : decode cX5_seek 26 = .ok (.invokevirtual 95, 3) := by decide +kernel
theorem dX5_seek_29 : decode cX5_seek 29 = .ok (.invokevirtual 153, 3) := by decide +kernel
theorem dX5_seek_32 : decode cX5_seek 32 = .ok (.ireturn, 1) := by decide +kernel
theorem dX5_next_0 : decode cX5_next 0 = .ok (.aload_n 0, 1) := by decide +kernel
theorem dX5_next_1 : decode cX5_next 1 = .ok (.aload_n 0, 1) := by decide +kernel
theorem dX5_next_2 : decode cX5_next 2 = .ok (.getfield 108, 3) := by decide +kernel
theorem dX5_next_5 : decode cX5_next 5 = .ok (.ifCond .eq 7, 3) := by decide +kernel
theorem dX5_next_8 : decode cX5_next 8 = .ok (.iconst 0, 1) := by decide +kernel
theorem dX5_next_9 : decode cX5_next 9 = .ok (.goto 4, 3) := by decide +kernel
theorem dX5_next_12 : decode cX5_next 12 = .ok (.iconst 1, 1) := by decide +kernel
theorem dX5_next_13 : decode cX5_next 13 = .ok (.putfield 44, 3) := by decide +kernel
theorem dX5_next_16 : decode cX5_next 16 = .ok (.aload_n 0, 1) := by decide +kernel
theorem dX5_next_17 : decode cX5_next 17 = .ok (.getfield 44, 3) := by decide +kernel
theorem dX5_next_20 : decode cX5_next 20 = .ok (.ifCond .le 5, 3) := by decide +kernel
theorem dX5_next_23 : decode cX5_next 23 = .ok (.iconst 0, 1) := by decide +kernel
theorem dX5_next_24 : decode cX5_next 24 = .ok (.ireturn, 1) := by decide +kernel
theorem dX5_next_25 : decode cX5_next 25 = .ok (.aload_n 0, 1) := by decide +kernel
theorem dX5_next_26 : decode cX5_next 26 = .ok (.aload_n 0, 1) := by decide +kernel
theorem dX5_next_27 : decode cX5_next 27 = .ok (.getfield 141, 3) := by decide +kernel
theorem dX5_next_30 : decode cX5_next 30 = .ok (.iconst 0, 1) := by decide +kernel
theorem dX5_next_31 : decode cX5_next 31 = .ok (.invokevirtual 77, 3) := by decide +kernel
theorem dX5_next_34 : decode cX5_next 34 = .ok (.aload_n 0, 1) := by decide +kernel
theorem dX5_next_35 : decode cX5_next 35 = .ok (.aload_n 0, 1) := by decide +kernel
theorem dX5_next_36 : decode cX5_next 36 = .ok (.getfield 141, 3) := by decide +kernel
theorem dX5_next_39 : decode cX5_next 39 = .ok (.aload_n 0, 1) := by decide +kernel
theorem dX5_next_40 : decode cX5_next 40 = .ok (.getfield 144, 3) := by decide +kernel
theorem dX5_next_43 : decode cX5_next 43 = .ok (.iconst 1, 1) := by decide +kernel
theorem dX5_next_44 : decode cX5_next 44 = .ok (.iadd, 1) := by decide +kernel
theorem dX5_next_45 : decode cX5_next 45 = .ok (.invokevirtual 153, 3) := by decide +kernel
theorem dX5_next_48 : decode cX5_next 48 = .ok (.ireturn, 1) := by decide +kernel
theorem dX5_cursor_0 : decode cX5_cursor 0 = .ok (.aload_n 0, 1) := by decide +kernel
theorem dX5_cursor_1 : decode cX5_cursor 1 = .ok (.aload_n 0, 1) := by decide +kernel
theorem dX5_cursor_2 : decode cX5_cursor 2 = .ok (.getfield 108, 3) := by decide +kernel
theorem dX5_cursor_5 : decode cX5_cursor 5 = .ok (.ifCond .eq 7, 3) := by decide +kernel
theorem dX5_cursor_8 : decode cX5_cursor 8 = .ok (.iconst 0, 1) := by decide +kernel
theorem dX5_cursor_9 : decode cX5_cursor 9 = .ok (.goto 4, 3) := by decide +kernel
theorem dX5_cursor_12 : decode cX5_cursor 12 = .ok (.iconst 1, 1) := by decide +kernel
theorem dX5_cursor_13 : decode cX5_cursor 13 = .ok (.putfield 44, 3) := by decide +kernel
theorem dX5_cursor_16 : decode cX5_cursor 16 = .ok (.aload_n 0, 1) := by decide +kernel
theorem dX5_cursor_17 : decode cX5_cursor 17 = .ok (.getfield 44, 3) := by decide +kernel
theorem dX5_cursor_20 : decode cX5_cursor 20 = .ok (.ifCond .le 7, 3) := by decide +kernel
theorem dX5_cursor_23 : decode cX5_cursor 23 = .ok (.iconst 0, 1) := by decide +kernel
theorem dX5_cursor_24 : decode cX5_cursor 24 = .ok (.goto 18, 3) := by decide +kernel
theorem dX5_cursor_27 : decode cX5_cursor 27 = .ok (.iload_n 1, 1) := by decide +kernel
theorem dX5_cursor_28 : decode cX5_cursor 28 = .ok (.ifCond .eq 10, 3) := by decide +kernel
theorem dX5_cursor_31 : decode cX5_cursor 31 = .ok (.aload_n 0, 1) := by decide +kernel
theorem dX5_cursor_32 : decode cX5_cursor 32 = .ok (.getfield 150, 3) := by decide +kernel
theorem dX5_cursor_35 : decode cX5_cursor 35 = .ok (.goto 7, 3) := by decide +kernel
theorem dX5_cursor_38 : decode cX5_cursor 38 = .ok (.aload_n 0, 1) := by decide +kernel
theorem dX5_cursor_39 : decode cX5_cursor 39 = .ok (.getfield 147, 3) := by decide +kernel
theorem dX5_cursor_42 : decode cX5_cursor 42 = .ok (.ireturn, 1) := by decide +kernel
theorem dX5_flush_0 : decode cX5_flush 0 = .ok (.aload_n 0, 1) := by decide +kernel
theorem dX5_flush_1 : decode cX5_flush 1 = .ok (.iconst 0, 1) := by decide +kernel
theorem dX5_flush_2 : decode cX5_flush 2 = .ok (.putfield 44, 3) := by decide +kernel
theorem dX5_flush_5 : decode cX5_flush 5 = .ok (.iconst 0, 1) := by decide +kernel
theorem dX5_flush_6 : decode cX5_flush 6 = .ok (.istore_n 1, 1) := by decide +kernel
theorem dX5_flush_7 : decode cX5_flush 7 = .ok (.iconst 0, 1) := by decide +kernel
theorem dX5_flush_8 : decode cX5_flush 8 = .ok (.istore_n 2, 1) := by decide +kernel
theorem dX5_flush_9 : decode cX5_flush 9 = .ok (.iload_n 2, 1) := by decide +kernel
theorem dX5_flush_10 : decode cX5_flush 10 = .ok (.bipush 12, 2) := by decide +kernel
theorem dX5_flush_12 : decode cX5_flush 12 = .ok (.if_icmp .ge 33, 3) := by decide +kernel
theorem dX5_flush_15 : decode cX5_flush 15 = .ok (.aload_n 0, 1) := by decide +kernel
theorem dX5_flush_16 : decode cX5_flush 16 = .ok (.getfield 38, 3) := by decide +kernel
theorem dX5_flush_19 : decode cX5_flush 19 = .ok (.iload_n 2, 1) := by decide +kernel
theorem dX5_flush_20 : decode cX5_flush 20 = .ok (.baload, 1) := by decide +kernel
theorem dX5_flush_21 : decode cX5_flush 21 = .ok (.ifCond .eq 9, 3) := by decide +kernel
theorem dX5_flush_24 : decode cX5_flush 24 = .ok (.iload_n 1, 1) := by decide +kernel
theorem dX5_flush_25 : decode cX5_flush 25 = .ok (.iconst 1, 1) := by decide +kernel
theorem dX5_flush_26 : decode cX5_flush 26 = .ok (.iadd, 1) := by decide +kernel
theorem dX5_flush_27 : decode cX5_flush 27 = .ok (.goto 4, 3) := by decide +kernel
theorem dX5_flush_30 : decode cX5_flush 30 = .ok (.iload_n 1, 1) := by decide +kernel
theorem dX5_flush_31 : decode cX5_flush 31 = .ok (.istore_n 1, 1) := by decide +kernel
theorem dX5_flush_32 : decode cX5_flush 32 = .ok (.aload_n 0, 1) := by decide +kernel
theorem dX5_flush_33 : decode cX5_flush 33 = .ok (.getfield 38, 3) := by decide +kernel
theorem dX5_flush_36 : decode cX5_flush 36 = .ok (.iload_n 2, 1) := by decide +kernel
theorem dX5_flush_37 : decode cX5_flush 37 = .ok (.iconst 0, 1) := by decide +kernel
theorem dX5_flush_38 : decode cX5_flush 38 = .ok (.bastore, 1) := by decide +kernel
theorem dX5_flush_39 : decode cX5_flush 39 = .ok (.iinc 2 1, 3) := by decide +kernel
theorem dX5_flush_42 : decode cX5_flush 42 = .ok (.goto (-33), 3) := by decide +kernel
theorem dX5_flush_45 : decode cX5_flush 45 = .ok (.aload_n 0, 1) := by decide +kernel
theorem dX5_flush_46 : decode cX5_flush 46 = .ok (.dup, 1) := by decide +kernel
theorem dX5_flush_47 : decode cX5_flush 47 = .ok (.getfield 54, 3) := by decide +kernel
theorem dX5_flush_50 : decode cX5_flush 50 = .ok (.iload_n 1, 1) := by decide +kernel
theorem dX5_flush_51 : decode cX5_flush 51 = .ok (.iadd, 1) := by decide +kernel
theorem dX5_flush_52 : decode cX5_flush 52 = .ok (.putfield 54, 3) := by decide +kernel
theorem dX5_flush_55 : decode cX5_flush 55 = .ok (.iload_n 1, 1) := by decide +kernel
theorem dX5_flush_56 : decode cX5_flush 56 = .ok (.ireturn, 1) := by decide +kernel
theorem dX5_drop_0 : decode cX5_drop 0 = .ok (.aload_n 0, 1) := by decide +kernel
theorem dX5_drop_1 : decode cX5_drop 1 = .ok (.iconst 0, 1) := by decide +kernel
theorem dX5_drop_2 : decode cX5_drop 2 = .ok (.putfield 44, 3) := by decide +kernel
theorem dX5_drop_5 : decode cX5_drop 5 = .ok (.iconst 0, 1) := by decide +kernel
theorem dX5_drop_6 : decode cX5_drop 6 = .ok (.istore_n 1, 1) := by decide +kernel
theorem dX5_drop_7 : decode cX5_drop 7 = .ok (.iconst 0, 1) := by decide +kernel
theorem dX5_drop_8 : decode cX5_drop 8 = .ok (.istore_n 2, 1) := by decide +kernel
theorem dX5_drop_9 : decode cX5_drop 9 = .ok (.iload_n 2, 1) := by decide +kernel
theorem dX5_drop_10 : decode cX5_drop 10 = .ok (.bipush 12, 2) := by decide +kernel
theorem dX5_drop_12 : decode cX5_drop 12 = .ok (.if_icmp .ge 48, 3) := by decide +kernel
theorem dX5_drop_15 : decode cX5_drop 15 = .ok (.aload_n 0, 1) := by decide +kernel
theorem dX5_drop_16 : decode cX5_drop 16 = .ok (.aload_n 0, 1) := by decide +kernel
theorem dX5_drop_17 : decode cX5_drop 17 = .ok (.getfield 38, 3) := by decide +kernel
theorem dX5_drop_20 : decode cX5_drop 20 = .ok (.iload_n 2, 1) := by decide +kernel
theorem dX5_drop_21 : decode cX5_drop 21 = .ok (.baload, 1) := by decide +kernel
theorem dX5_drop_22 : decode cX5_drop 22 = .ok (.ifCond .eq 7, 3) := by decide +kernel
theorem dX5_drop_25 : decode cX5_drop 25 = .ok (.iconst 1, 1) := by decide +kernel
theorem dX5_drop_26 : decode cX5_drop 26 = .ok (.goto 7, 3) := by decide +kernel
theorem dX5_drop_29 : decode cX5_drop 29 = .ok (.aload_n 0, 1) := by decide +kernel
theorem dX5_drop_30 : decode cX5_drop 30 = .ok (.getfield 44, 3) := by decide +kernel
theorem dX5_drop_33 : decode cX5_drop 33 = .ok (.putfield 44, 3) := by decide +kernel
theorem dX5_drop_36 : decode cX5_drop 36 = .ok (.aload_n 0, 1) := by decide +kernel
theorem dX5_drop_37 : decode cX5_drop 37 = .ok (.getfield 31, 3) := by decide +kernel
theorem dX5_drop_40 : decode cX5_drop 40 = .ok (.iload_n 2, 1) := by decide +kernel
theorem dX5_drop_41 : decode cX5_drop 41 = .ok (.iaload, 1) := by decide +kernel
theorem dX5_drop_42 : decode cX5_drop 42 = .ok (.iconst (-1), 1) := by decide +kernel
theorem dX5_drop_43 : decode cX5_drop 43 = .ok (.if_icmp .eq 9, 3) := by decide +kernel
theorem dX5_drop_46 : decode cX5_drop 46 = .ok (.iload_n 1, 1) := by decide +kernel
theorem dX5_drop_47 : decode cX5_drop 47 = .ok (.iconst 1, 1) := by decide +kernel
theorem dX5_drop_48 : decode cX5_drop 48 = .ok (.iadd, 1) := by decide +kernel
theorem dX5_drop_49 : decode cX5_drop 49 = .ok (.goto 4, 3) := by decide +kernel
theorem dX5_drop_52 : decode cX5_drop 52 = .ok (.iload_n 1, 1) := by decide +kernel
theorem dX5_drop_53 : decode cX5_drop 53 = .ok (.istore_n 1, 1) := by decide +kernel
theorem dX5_drop_54 : decode cX5_drop 54 = .ok (.iinc 2 1, 3) := by decide +kernel
theorem dX5_drop_57 : decode cX5_drop 57 = .ok (.goto (-48), 3) := by decide +kernel
theorem dX5_drop_60 : decode cX5_drop 60 = .ok (.aload_n 0, 1) := by decide +kernel
theorem dX5_drop_61 : decode cX5_drop 61 = .ok (.getfield 44, 3) := by decide +kernel
theorem dX5_drop_64 : decode cX5_drop 64 = .ok (.ifCond .le 5, 3) := by decide +kernel
theorem dX5_drop_67 : decode cX5_drop 67 = .ok (.iconst 0, 1) := by decide +kernel
theorem dX5_drop_68 : decode cX5_drop 68 = .ok (.ireturn, 1) := by decide +kernel
theorem dX5_drop_69 : decode cX5_drop 69 = .ok (.iconst 0, 1) := by decide +kernel
theorem dX5_drop_70 : decode cX5_drop 70 = .ok (.istore_n 2, 1) := by decide +kernel
theorem dX5_drop_71 : decode cX5_drop 71 = .ok (.iload_n 2, 1) := by decide +kernel
theorem dX5_drop_72 : decode cX5_drop 72 = .ok (.bipush 12, 2) := by decide +kernel
theorem dX5_drop_74 : decode cX5_drop 74 = .ok (.if_icmp .ge 23, 3) := by decide +kernel
theorem dX5_drop_77 : decode cX5_drop 77 = .ok (.aload_n 0, 1) := by decide +kernel
theorem dX5_drop_78 : decode cX5_drop 78 = .ok (.getfield 31, 3) := by decide +kernel
theorem dX5_drop_81 : decode cX5_drop 81 = .ok (.iload_n 2, 1) := by decide +kernel
theorem dX5_drop_82 : decode cX5_drop 82 = .ok (.iconst (-1), 1) := by decide +kernel
theorem dX5_drop_83 : decode cX5_drop 83 = .ok (.iastore, 1) := by decide +kernel
theorem dX5_drop_84 : decode cX5_drop 84 = .ok (.aload_n 0, 1) := by decide +kernel
theorem dX5_drop_85 : decode cX5_drop 85 = .ok (.getfield 34, 3) := by decide +kernel
theorem dX5_drop_88 : decode cX5_drop 88 = .ok (.iload_n 2, 1) := by decide +kernel
theorem dX5_drop_89 : decode cX5_drop 89 = .ok (.iconst 0, 1) := by decide +kernel
theorem dX5_drop_90 : decode cX5_drop 90 = .ok (.bastore, 1) := by decide +kernel
theorem dX5_drop_91 : decode cX5_drop 91 = .ok (.iinc 2 1, 3) := by decide +kernel
theorem dX5_drop_94 : decode cX5_drop 94 = .ok (.goto (-23), 3) := by decide +kernel
theorem dX5_drop_97 : decode cX5_drop 97 = .ok (.aload_n 0, 1) := by decide +kernel
theorem dX5_drop_98 : decode cX5_drop 98 = .ok (.iconst 0, 1) := by decide +kernel
theorem dX5_drop_99 : decode cX5_drop 99 = .ok (.putfield 48, 3) := by decide +kernel
theorem dX5_drop_102 : decode cX5_drop 102 = .ok (.aload_n 0, 1) := by decide +kernel
theorem dX5_drop_103 : decode cX5_drop 103 = .ok (.iconst 0, 1) := by decide +kernel
theorem dX5_drop_104 : decode cX5_drop 104 = .ok (.putfield 108, 3) := by decide +kernel
theorem dX5_drop_107 : decode cX5_drop 107 = .ok (.iload_n 1, 1) := by decide +kernel
theorem dX5_drop_108 : decode cX5_drop 108 = .ok (.ireturn, 1) := by decide +kernel
theorem dX5_page_0 : decode cX5_page 0 = .ok (.aload_n 0, 1) := by decide +kernel
theorem dX5_page_1 : decode cX5_page 1 = .ok (.iload_n 1, 1) := by decide +kernel
theorem dX5_page_2 : decode cX5_page 2 = .ok (.ifCond .lt 9, 3) := by decide +kernel
theorem dX5_page_5 : decode cX5_page 5 = .ok (.iload_n 1, 1) := by decide +kernel
theorem dX5_page_6 : decode cX5_page 6 = .ok (.bipush 40, 2) := by decide +kernel
theorem dX5_page_8 : decode cX5_page 8 = .ok (.if_icmp .lt 7, 3) := by decide +kernel
theorem dX5_page_11 : decode cX5_page 11 = .ok (.iconst 1, 1) := by decide +kernel
theorem dX5_page_12 : decode cX5_page 12 = .ok (.goto 17, 3) := by decide +kernel
theorem dX5_page_15 : decode cX5_page 15 = .ok (.iload_n 2, 1) := by decide +kernel
theorem dX5_page_16 : decode cX5_page 16 = .ok (.ifCond .lt 8, 3) := by decide +kernel
theorem dX5_page_19 : decode cX5_page 19 = .ok (.iload_n 2, 1) := by decide +kernel
theorem dX5_page_20 : decode cX5_page 20 = .ok (.iconst 2, 1) := by decide +kernel
theorem dX5_page_21 : decode cX5_page 21 = .ok (.if_icmp .le 7, 3) := by decide +kernel
theorem dX5_page_24 : decode cX5_page 24 = .ok (.iconst 2, 1) := by decide +kernel
theorem dX5_page_25 : decode cX5_page 25 = .ok (.goto 4, 3) := by decide +kernel
theorem dX5_page_28 : decode cX5_page 28 = .ok (.iconst 0, 1) := by decide +kernel
theorem dX5_page_29 : decode cX5_page 29 = .ok (.putfield 44, 3) := by decide +kernel
theorem dX5_page_32 : decode cX5_page 32 = .ok (.aload_n 0, 1) := by decide +kernel
theorem dX5_page_33 : decode cX5_page 33 = .ok (.getfield 44, 3) := by decide +kernel
theorem dX5_page_36 : decode cX5_page 36 = .ok (.ifCond .le 7, 3) := by decide +kernel
theorem dX5_page_39 : decode cX5_page 39 = .ok (.iconst 0, 1) := by decide +kernel
theorem dX5_page_40 : decode cX5_page 40 = .ok (.goto 36, 3) := by decide +kernel
theorem dX5_page_43 : decode cX5_page 43 = .ok (.iload_n 2, 1) := by decide +kernel
theorem dX5_page_44 : decode cX5_page 44 = .ok (.ifCond .ne 12, 3) := by decide +kernel
theorem dX5_page_47 : decode cX5_page 47 = .ok (.aload_n 0, 1) := by decide +kernel
theorem dX5_page_48 : decode cX5_page 48 = .ok (.getfield 7, 3) := by decide +kernel
theorem dX5_page_51 : decode cX5_page 51 = .ok (.iload_n 1, 1) := by decide +kernel
theorem dX5_page_52 : decode cX5_page 52 = .ok (.iaload, 1) := by decide +kernel
theorem dX5_page_53 : decode cX5_page 53 = .ok (.goto 23, 3) := by decide +kernel
theorem dX5_page_56 : decode cX5_page 56 = .ok (.iload_n 2, 1) := by decide +kernel
theorem dX5_page_57 : decode cX5_page 57 = .ok (.iconst 1, 1) := by decide +kernel
theorem dX5_page_58 : decode cX5_page 58 = .ok (.if_icmp .ne 12, 3) := by decide +kernel
theorem dX5_page_61 : decode cX5_page 61 = .ok (.aload_n 0, 1) := by decide +kernel
theorem dX5_page_62 : decode cX5_page 62 = .ok (.getfield 13, 3) := by decide +kernel
theorem dX5_page_65 : decode cX5_page 65 = .ok (.iload_n 1, 1) := by decide +kernel
theorem dX5_page_66 : decode cX5_page 66 = .ok (.iaload, 1) := by decide +kernel
theorem dX5_page_67 : decode cX5_page 67 = .ok (.goto 9, 3) := by decide +kernel
theorem dX5_page_70 : decode cX5_page 70 = .ok (.aload_n 0, 1) := by decide +kernel
theorem dX5_page_71 : decode cX5_page 71 = .ok (.getfield 22, 3) := by decide +kernel
theorem dX5_page_74 : decode cX5_page 74 = .ok (.iload_n 1, 1) := by decide +kernel
theorem dX5_page_75 : decode cX5_page 75 = .ok (.iaload, 1) := by decide +kernel
theorem dX5_page_76 : decode cX5_page 76 = .ok (.ireturn, 1) := by decide +kernel
theorem dX5_item_0 : decode cX5_item 0 = .ok (.aload_n 0, 1) := by decide +kernel
theorem dX5_item_1 : decode cX5_item 1 = .ok (.iload_n 1, 1) := by decide +kernel
theorem dX5_item_2 : decode cX5_item 2 = .ok (.ifCond .lt 23, 3) := by decide +kernel
theorem dX5_item_5 : decode cX5_item 5 = .ok (.iload_n 1, 1) := by decide +kernel
theorem dX5_item_6 : decode cX5_item 6 = .ok (.bipush 40, 2) := by decide +kernel
theorem dX5_item_8 : decode cX5_item 8 = .ok (.if_icmp .ge 17, 3) := by decide +kernel
theorem dX5_item_11 : decode cX5_item 11 = .ok (.iload_n 2, 1) := by decide +kernel
theorem dX5_item_12 : decode cX5_item 12 = .ok (.ifCond .lt 13, 3) := by decide +kernel
theorem dX5_item_15 : decode cX5_item 15 = .ok (.iload_n 2, 1) := by decide +kernel
theorem dX5_item_16 : decode cX5_item 16 = .ok (.aload_n 0, 1) := by decide +kernel
theorem dX5_item_17 : decode cX5_item 17 = .ok (.getfield 13, 3) := by decide +kernel
theorem dX5_item_20 : decode cX5_item 20 = .ok (.iload_n 1, 1) := by decide +kernel
theorem dX5_item_21 : decode cX5_item 21 = .ok (.iaload, 1) := by decide +kernel
theorem dX5_item_22 : decode cX5_item 22 = .ok (.if_icmp .lt 7, 3) := by decide +kernel
theorem dX5_item_25 : decode cX5_item 25 = .ok (.iconst 1, 1) := by decide +kernel
theorem dX5_item_26 : decode cX5_item 26 = .ok (.goto 4, 3) := by decide +kernel
theorem dX5_item_29 : decode cX5_item 29 = .ok (.iconst 0, 1) := by decide +kernel
theorem dX5_item_30 : decode cX5_item 30 = .ok (.putfield 44, 3) := by decide +kernel
theorem dX5_item_33 : decode cX5_item 33 = .ok (.aload_n 0, 1) := by decide +kernel
theorem dX5_item_34 : decode cX5_item 34 = .ok (.getfield 44, 3) := by decide +kernel
theorem dX5_item_37 : decode cX5_item 37 = .ok (.ifCond .le 7, 3) := by decide +kernel
theorem dX5_item_40 : decode cX5_item 40 = .ok (.iconst 0, 1) := by decide +kernel
theorem dX5_item_41 : decode cX5_item 41 = .ok (.goto 30, 3) := by decide +kernel
theorem dX5_item_44 : decode cX5_item 44 = .ok (.iload_n 3, 1) := by decide +kernel
theorem dX5_item_45 : decode cX5_item 45 = .ok (.ifCond .eq 16, 3) := by decide +kernel
theorem dX5_item_48 : decode cX5_item 48 = .ok (.aload_n 0, 1) := by decide +kernel
theorem dX5_item_49 : decode cX5_item 49 = .ok (.getfield 19, 3) := by decide +kernel
theorem dX5_item_52 : decode cX5_item 52 = .ok (.iconst 5, 1) := by decide +kernel
theorem dX5_item_53 : decode cX5_item 53 = .ok (.iload_n 1, 1) := by decide +kernel
theorem dX5_item_54 : decode cX5_item 54 = .ok (.imul, 1) := by decide +kernel
theorem dX5_item_55 : decode cX5_item 55 = .ok (.iload_n 2, 1) := by decide +kernel
theorem dX5_item_56 : decode cX5_item 56 = .ok (.iadd, 1) := by decide +kernel
theorem dX5_item_57 : decode cX5_item 57 = .ok (.iaload, 1) := by decide +kernel
theorem dX5_item_58 : decode cX5_item 58 = .ok (.goto 13, 3) := by decide +kernel
theorem dX5_item_61 : decode cX5_item 61 = .ok (.aload_n 0, 1) := by decide +kernel
theorem dX5_item_62 : decode cX5_item 62 = .ok (.getfield 16, 3) := by decide +kernel
theorem dX5_item_65 : decode cX5_item 65 = .ok (.iconst 5, 1) := by decide +kernel
theorem dX5_item_66 : decode cX5_item 66 = .ok (.iload_n 1, 1) := by decide +kernel
theorem dX5_item_67 : decode cX5_item 67 = .ok (.imul, 1) := by decide +kernel
theorem dX5_item_68 : decode cX5_item 68 = .ok (.iload_n 2, 1) := by decide +kernel
theorem dX5_item_69 : decode cX5_item 69 = .ok (.iadd, 1) := by decide +kernel
theorem dX5_item_70 : decode cX5_item 70 = .ok (.iaload, 1) := by decide +kernel
theorem dX5_item_71 : decode cX5_item 71 = .ok (.ireturn, 1) := by decide +kernel
theorem dX5_frame_0 : decode cX5_frame 0 = .ok (.aload_n 0, 1) := by decide +kernel
theorem dX5_frame_1 : decode cX5_frame 1 = .ok (.iload_n 1, 1) := by decide +kernel
theorem dX5_frame_2 : decode cX5_frame 2 = .ok (.ifCond .lt 9, 3) := by decide +kernel
theorem dX5_frame_5 : decode cX5_frame 5 = .ok (.iload_n 1, 1) := by decide +kernel
theorem dX5_frame_6 : decode cX5_frame 6 = .ok (.bipush 12, 2) := by decide +kernel
theorem dX5_frame_8 : decode cX5_frame 8 = .ok (.if_icmp .lt 7, 3) := by decide +kernel
theorem dX5_frame_11 : decode cX5_frame 11 = .ok (.iconst 1, 1) := by decide +kernel
theorem dX5_frame_12 : decode cX5_frame 12 = .ok (.goto 17, 3) := by decide +kernel
theorem dX5_frame_15 : decode cX5_frame 15 = .ok (.iload_n 2, 1) := by decide +kernel
theorem dX5_frame_16 : decode cX5_frame 16 = .ok (.ifCond .lt 8, 3) := by decide +kernel
theorem dX5_frame_19 : decode cX5_frame 19 = .ok (.iload_n 2, 1) := by decide +kernel
theorem dX5_frame_20 : decode cX5_frame 20 = .ok (.iconst 2, 1) := by decide +kernel
theorem dX5_frame_21 : decode cX5_frame 21 = .ok (.if_icmp .le 7, 3) := by decide +kernel
theorem dX5_frame_24 : decode cX5_frame 24 = .ok (.iconst 2, 1) := by decide +kernel
theorem dX5_frame_25 : decode cX5_frame 25 = .ok (.goto 4, 3) := by decide +kernel
theorem dX5_frame_28 : decode cX5_frame 28 = .ok (.iconst 0, 1) := by decide +kernel
theorem dX5_frame_29 : decode cX5_frame 29 = .ok (.putfield 44, 3) := by decide +kernel
theorem dX5_frame_32 : decode cX5_frame 32 = .ok (.aload_n 0, 1) := by decide +kernel
theorem dX5_frame_33 : decode cX5_frame 33 = .ok (.getfield 44, 3) := by decide +kernel
theorem dX5_frame_36 : decode cX5_frame 36 = .ok (.ifCond .le 7, 3) := by decide +kernel
theorem dX5_frame_39 : decode cX5_frame 39 = .ok (.iconst 0, 1) := by decide +kernel
theorem dX5_frame_40 : decode cX5_frame 40 = .ok (.goto 52, 3) := by decide +kernel
theorem dX5_frame_43 : decode cX5_frame 43 = .ok (.iload_n 2, 1) := by decide +kernel
theorem dX5_frame_44 : decode cX5_frame 44 = .ok (.ifCond .ne 12, 3) := by decide +kernel
theorem dX5_frame_47 : decode cX5_frame 47 = .ok (.aload_n 0, 1) := by decide +kernel
theorem dX5_frame_48 : decode cX5_frame 48 = .ok (.getfield 31, 3) := by decide +kernel
theorem dX5_frame_51 : decode cX5_frame 51 = .ok (.iload_n 1, 1) := by decide +kernel
theorem dX5_frame_52 : decode cX5_frame 52 = .ok (.iaload, 1) := by decide +kernel
theorem dX5_frame_53 : decode cX5_frame 53 = .ok (.goto 39, 3) := by decide +kernel
theorem dX5_frame_56 : decode cX5_frame 56 = .ok (.iload_n 2, 1) := by decide +kernel
theorem dX5_frame_57 : decode cX5_frame 57 = .ok (.iconst 1, 1) := by decide +kernel
theorem dX5_frame_58 : decode cX5_frame 58 = .ok (.if_icmp .ne 20, 3) := by decide +kernel
theorem dX5_frame_61 : decode cX5_frame 61 = .ok (.aload_n 0, 1) := by decide +kernel
theorem dX5_frame_62 : decode cX5_frame 62 = .ok (.getfield 34, 3) := by decide +kernel
theorem dX5_frame_65 : decode cX5_frame 65 = .ok (.iload_n 1, 1) := by decide +kernel
theorem dX5_frame_66 : decode cX5_frame 66 = .ok (.baload, 1) := by decide +kernel
theorem dX5_frame_67 : decode cX5_frame 67 = .ok (.ifCond .eq 7, 3) := by decide +kernel
theorem dX5_frame_70 : decode cX5_frame 70 = .ok (.iconst 1, 1) := by decide +kernel
theorem dX5_frame_71 : decode cX5_frame 71 = .ok (.goto 21, 3) := by decide +kernel
theorem dX5_frame_74 : decode cX5_frame 74 = .ok (.iconst 0, 1) := by decide +kernel
theorem dX5_frame_75 : decode cX5_frame 75 = .ok (.goto 17, 3) := by decide +kernel
theorem dX5_frame_78 : decode cX5_frame 78 = .ok (.aload_n 0, 1) := by decide +kernel
theorem dX5_frame_79 : decode cX5_frame 79 = .ok (.getfield 38, 3) := by decide +kernel
theorem dX5_frame_82 : decode cX5_frame 82 = .ok (.iload_n 1, 1) := by decide +kernel
theorem dX5_frame_83 : decode cX5_frame 83 = .ok (.baload, 1) := by decide +kernel
theorem dX5_frame_84 : decode cX5_frame 84 = .ok (.ifCond .eq 7, 3) := by decide +kernel
theorem dX5_frame_87 : decode cX5_frame 87 = .ok (.iconst 1, 1) := by decide +kernel
theorem dX5_frame_88 : decode cX5_frame 88 = .ok (.goto 4, 3) := by decide +kernel
theorem dX5_frame_91 : decode cX5_frame 91 = .ok (.iconst 0, 1) := by decide +kernel
theorem dX5_frame_92 : decode cX5_frame 92 = .ok (.ireturn, 1) := by decide +kernel
theorem dX5_levels_0 : decode cX5_levels 0 = .ok (.iconst 1, 1) := by decide +kernel
theorem dX5_levels_1 : decode cX5_levels 1 = .ok (.istore_n 1, 1) := by decide +kernel
theorem dX5_levels_2 : decode cX5_levels 2 = .ok (.aload_n 0, 1) := by decide +kernel
theorem dX5_levels_3 : decode cX5_levels 3 = .ok (.getfield 71, 3) := by decide +kernel
theorem dX5_levels_6 : decode cX5_levels 6 = .ok (.istore_n 2, 1) := by decide +kernel
theorem dX5_levels_7 : decode cX5_levels 7 = .ok (.aload_n 0, 1) := by decide +kernel
theorem dX5_levels_8 : decode cX5_levels 8 = .ok (.getfield 7, 3) := by decide +kernel
theorem dX5_levels_11 : decode cX5_levels 11 = .ok (.iload_n 2, 1) := by decide +kernel
theorem dX5_levels_12 : decode cX5_levels 12 = .ok (.iaload, 1) := by decide +kernel
theorem dX5_levels_13 : decode cX5_levels 13 = .ok (.iconst 2, 1) := by decide +kernel
theorem dX5_levels_14 : decode cX5_levels 14 = .ok (.if_icmp .ne 18, 3) := by decide +kernel
theorem dX5_levels_17 : decode cX5_levels 17 = .ok (.aload_n 0, 1) := by decide +kernel
theorem dX5_levels_18 : decode cX5_levels 18 = .ok (.getfield 19, 3) := by decide +kernel
theorem dX5_levels_21 : decode cX5_levels 21 = .ok (.iconst 5, 1) := by decide +kernel
theorem dX5_levels_22 : decode cX5_levels 22 = .ok (.iload_n 2, 1) := by decide +kernel
theorem dX5_levels_23 : decode cX5_levels 23 = .ok (.imul, 1) := by decide +kernel
theorem dX5_levels_24 : decode cX5_levels 24 = .ok (.iaload, 1) := by decide +kernel
theorem dX5_levels_25 : decode cX5_levels 25 = .ok (.istore_n 2, 1) := by decide +kernel
theorem dX5_levels_26 : decode cX5_levels 26 = .ok (.iinc 1 1, 3) := by decide +kernel
theorem dX5_levels_29 : decode cX5_levels 29 = .ok (.goto (-22), 3) := by decide +kernel
theorem dX5_levels_32 : decode cX5_levels 32 = .ok (.iload_n 1, 1) := by decide +kernel
theorem dX5_levels_33 : decode cX5_levels 33 = .ok (.ireturn, 1) := by decide +kernel
theorem dX5_told_0 : decode cX5_told 0 = .ok (.aload_n 0, 1) := by decide +kernel
theorem dX5_told_1 : decode cX5_told 1 = .ok (.iconst 0, 1) := by decide +kernel
theorem dX5_told_2 : decode cX5_told 2 = .ok (.putfield 44, 3) := by decide +kernel
theorem dX5_told_5 : decode cX5_told 5 = .ok (.iload_n 1, 1) := by decide +kernel
theorem dX5_told_6 : decode cX5_told 6 = .ok (.tableswitch 86 0 7 #[46, 51, 56, 61, 66, 71, 76, 81], 46) := by decide +kernel
theorem dX5_told_52 : decode cX5_told 52 = .ok (.aload_n 0, 1) := by decide +kernel
theorem dX5_told_53 : decode cX5_told 53 = .ok (.getfield 115, 3) := by decide +kernel
theorem dX5_told_56 : decode cX5_told 56 = .ok (.ireturn, 1) := by decide +kernel
theorem dX5_told_57 : decode cX5_told 57 = .ok (.aload_n 0, 1) := by decide +kernel
theorem dX5_told_58 : decode cX5_told 58 = .ok (.getfield 71, 3) := by decide +kernel
theorem dX5_told_61 : decode cX5_told 61 = .ok (.ireturn, 1) := by decide +kernel
theorem dX5_told_62 : decode cX5_told 62 = .ok (.aload_n 0, 1) := by decide +kernel
theorem dX5_told_63 : decode cX5_told 63 = .ok (.invokevirtual 156, 3) := by decide +kernel
theorem dX5_told_66 : decode cX5_told 66 = .ok (.ireturn, 1) := by decide +kernel
theorem dX5_told_67 : decode cX5_told 67 = .ok (.aload_n 0, 1) := by decide +kernel
theorem dX5_told_68 : decode cX5_told 68 = .ok (.invokevirtual 102, 3) := by decide +kernel
theorem dX5_told_71 : decode cX5_told 71 = .ok (.ireturn, 1) := by decide +kernel
theorem dX5_told_72 : decode cX5_told 72 = .ok (.aload_n 0, 1) := by decide +kernel
theorem dX5_told_73 : decode cX5_told 73 = .ok (.getfield 61, 3) := by decide +kernel
theorem dX5_told_76 : decode cX5_told 76 = .ok (.ireturn, 1) := by decide +kernel
theorem dX5_told_77 : decode cX5_told 77 = .ok (.aload_n 0, 1) := by decide +kernel
theorem dX5_told_78 : decode cX5_told 78 = .ok (.getfield 68, 3) := by decide +kernel
theorem dX5_told_81 : decode cX5_told 81 = .ok (.ireturn, 1) := by decide +kernel
theorem dX5_told_82 : decode cX5_told 82 = .ok (.aload_n 0, 1) := by decide +kernel
theorem dX5_told_83 : decode cX5_told 83 = .ok (.getfield 54, 3) := by decide +kernel
theorem dX5_told_86 : decode cX5_told 86 = .ok (.ireturn, 1) := by decide +kernel
theorem dX5_told_87 : decode cX5_told 87 = .ok (.aload_n 0, 1) := by decide +kernel
theorem dX5_told_88 : decode cX5_told 88 = .ok (.getfield 48, 3) := by decide +kernel
theorem dX5_told_91 : decode cX5_told 91 = .ok (.ireturn, 1) := by decide +kernel
theorem dX5_told_92 : decode cX5_told 92 = .ok (.iconst (-1), 1) := by decide +kernel
theorem dX5_told_93 : decode cX5_told 93 = .ok (.ireturn, 1) := by decide +kernel
theorem dX5_astray_0 : decode cX5_astray 0 = .ok (.aload_n 0, 1) := by decide +kernel
theorem dX5_astray_1 : decode cX5_astray 1 = .ok (.iconst 0, 1) := by decide +kernel
theorem dX5_astray_2 : decode cX5_astray 2 = .ok (.putfield 44, 3) := by decide +kernel
theorem dX5_astray_5 : decode cX5_astray 5 = .ok (.iconst 0, 1) := by decide +kernel
theorem dX5_astray_6 : decode cX5_astray 6 = .ok (.istore_n 1, 1) := by decide +kernel
theorem dX5_astray_7 : decode cX5_astray 7 = .ok (.iconst 0, 1) := by decide +kernel
theorem dX5_astray_8 : decode cX5_astray 8 = .ok (.istore_n 2, 1) := by decide +kernel
theorem dX5_astray_9 : decode cX5_astray 9 = .ok (.iload_n 2, 1) := by decide +kernel
theorem dX5_astray_10 : decode cX5_astray 10 = .ok (.bipush 40, 2) := by decide +kernel
theorem dX5_astray_12 : decode cX5_astray 12 = .ok (.if_icmp .ge 200, 3) := by decide +kernel
theorem dX5_astray_15 : decode cX5_astray 15 = .ok (.iconst 1, 1) := by decide +kernel
theorem dX5_astray_16 : decode cX5_astray 16 = .ok (.istore_n 3, 1) := by decide +kernel
theorem dX5_astray_17 : decode cX5_astray 17 = .ok (.aload_n 0, 1) := by decide +kernel
theorem dX5_astray_18 : decode cX5_astray 18 = .ok (.getfield 7, 3) := by decide +kernel
theorem dX5_astray_21 : decode cX5_astray 21 = .ok (.iload_n 2, 1) := by decide +kernel
theorem dX5_astray_22 : decode cX5_astray 22 = .ok (.iaload, 1) := by decide +kernel
theorem dX5_astray_23 : decode cX5_astray 23 = .ok (.iconst 1, 1) := by decide +kernel
theorem dX5_astray_24 : decode cX5_astray 24 = .ok (.if_icmp .ne 7, 3) := by decide +kernel
theorem dX5_astray_27 : decode cX5_astray 27 = .ok (.iconst 1, 1) := by decide +kernel
theorem dX5_astray_28 : decode cX5_astray 28 = .ok (.goto 4, 3) := by decide +kernel
theorem dX5_astray_31 : decode cX5_astray 31 = .ok (.iconst 2, 1) := by decide +kernel
theorem dX5_astray_32 : decode cX5_astray 32 = .ok (.istore 4, 2) := by decide +kernel
theorem dX5_astray_34 : decode cX5_astray 34 = .ok (.iload 4, 2) := by decide +kernel
theorem dX5_astray_36 : decode cX5_astray 36 = .ok (.aload_n 0, 1) := by decide +kernel
theorem dX5_astray_37 : decode cX5_astray 37 = .ok (.getfield 13, 3) := by decide +kernel
theorem dX5_astray_40 : decode cX5_astray 40 = .ok (.iload_n 2, 1) := by decide +kernel
theorem dX5_astray_41 : decode cX5_astray 41 = .ok (.iaload, 1) := by decide +kernel
theorem dX5_astray_42 : decode cX5_astray 42 = .ok (.if_icmp .ge 46, 3) := by decide +kernel
theorem dX5_astray_45 : decode cX5_astray 45 = .ok (.iload_n 3, 1) := by decide +kernel
theorem dX5_astray_46 : decode cX5_astray 46 = .ok (.ifCond .eq 34, 3) := by decide +kernel
theorem dX5_astray_49 : decode cX5_astray 49 = .ok (.aload_n 0, 1) := by decide +kernel
theorem dX5_astray_50 : decode cX5_astray 50 = .ok (.getfield 16, 3) := by decide +kernel
theorem dX5_astray_53 : decode cX5_astray 53 = .ok (.iconst 5, 1) := by decide +kernel
theorem dX5_astray_54 : decode cX5_astray 54 = .ok (.iload_n 2, 1) := by decide +kernel
theorem dX5_astray_55 : decode cX5_astray 55 = .ok (.imul, 1) := by decide +kernel
theorem dX5_astray_56 : decode cX5_astray 56 = .ok (.iload 4, 2) := by decide +kernel
theorem dX5_astray_58 : decode cX5_astray 58 = .ok (.iadd, 1) := by decide +kernel
theorem dX5_astray_59 : decode cX5_astray 59 = .ok (.iconst 1, 1) := by decide +kernel
theorem dX5_astray_60 : decode cX5_astray 60 = .ok (.isub, 1) := by decide +kernel
theorem dX5_astray_61 : decode cX5_astray 61 = .ok (.iaload, 1) := by decide +kernel
theorem dX5_astray_62 : decode cX5_astray 62 = .ok (.aload_n 0, 1) := by decide +kernel
theorem dX5_astray_63 : decode cX5_astray 63 = .ok (.getfield 16, 3) := by decide +kernel
theorem dX5_astray_66 : decode cX5_astray 66 = .ok (.iconst 5, 1) := by decide +kernel
theorem dX5_astray_67 : decode cX5_astray 67 = .ok (.iload_n 2, 1) := by decide +kernel
theorem dX5_astray_68 : decode cX5_astray 68 = .ok (.imul, 1) := by decide +kernel
theorem dX5_astray_69 : decode cX5_astray 69 = .ok (.iload 4, 2) := by decide +kernel
theorem dX5_astray_71 : decode cX5_astray 71 = .ok (.iadd, 1) := by decide +kernel
theorem dX5_astray_72 : decode cX5_astray 72 = .ok (.iaload, 1) := by decide +kernel
theorem dX5_astray_73 : decode cX5_astray 73 = .ok (.if_icmp .ge 7, 3) := by decide +kernel
theorem dX5_astray_76 : decode cX5_astray 76 = .ok (.iconst 1, 1) := by decide +kernel
theorem dX5_astray_77 : decode cX5_astray 77 = .ok (.goto 4, 3) := by decide +kernel
theorem dX5_astray_80 : decode cX5_astray 80 = .ok (.iconst 0, 1) := by decide +kernel
theorem dX5_astray_81 : decode cX5_astray 81 = .ok (.istore_n 3, 1) := by decide +kernel
theorem dX5_astray_82 : decode cX5_astray 82 = .ok (.iinc 4 1, 3) := by decide +kernel
theorem dX5_astray_85 : decode cX5_astray 85 = .ok (.goto (-51), 3) := by decide +kernel
theorem dX5_astray_88 : decode cX5_astray 88 = .ok (.iconst 0, 1) := by decide +kernel
theorem dX5_astray_89 : decode cX5_astray 89 = .ok (.istore 4, 2) := by decide +kernel
theorem dX5_astray_91 : decode cX5_astray 91 = .ok (.iload 4, 2) := by decide +kernel
theorem dX5_astray_93 : decode cX5_astray 93 = .ok (.aload_n 0, 1) := by decide +kernel
theorem dX5_astray_94 : decode cX5_astray 94 = .ok (.getfield 13, 3) := by decide +kernel
theorem dX5_astray_97 : decode cX5_astray 97 = .ok (.iload_n 2, 1) := by decide +kernel
theorem dX5_astray_98 : decode cX5_astray 98 = .ok (.iaload, 1) := by decide +kernel
theorem dX5_astray_99 : decode cX5_astray 99 = .ok (.if_icmp .ge 48, 3) := by decide +kernel
theorem dX5_astray_102 : decode cX5_astray 102 = .ok (.aload_n 0, 1) := by decide +kernel
theorem dX5_astray_103 : decode cX5_astray 103 = .ok (.getfield 7, 3) := by decide +kernel
theorem dX5_astray_106 : decode cX5_astray 106 = .ok (.iload_n 2, 1) := by decide +kernel
theorem dX5_astray_107 : decode cX5_astray 107 = .ok (.iaload, 1) := by decide +kernel
theorem dX5_astray_108 : decode cX5_astray 108 = .ok (.iconst 2, 1) := by decide +kernel
theorem dX5_astray_109 : decode cX5_astray 109 = .ok (.if_icmp .ne 38, 3) := by decide +kernel
theorem dX5_astray_112 : decode cX5_astray 112 = .ok (.iload_n 3, 1) := by decide +kernel
theorem dX5_astray_113 : decode cX5_astray 113 = .ok (.ifCond .eq 26, 3) := by decide +kernel
theorem dX5_astray_116 : decode cX5_astray 116 = .ok (.aload_n 0, 1) := by decide +kernel
theorem dX5_astray_117 : decode cX5_astray 117 = .ok (.getfield 7, 3) := by decide +kernel
theorem dX5_astray_120 : decode cX5_astray 120 = .ok (.aload_n 0, 1) := by decide +kernel
theorem dX5_astray_121 : decode cX5_astray 121 = .ok (.getfield 19, 3) := by decide +kernel
theorem dX5_astray_124 : decode cX5_astray 124 = .ok (.iconst 5, 1) := by decide +kernel
theorem dX5_astray_125 : decode cX5_astray 125 = .ok (.iload_n 2, 1) := by decide +kernel
theorem dX5_astray_126 : decode cX5_astray 126 = .ok (.imul, 1) := by decide +kernel
theorem dX5_astray_127 : decode cX5_astray 127 = .ok (.iload 4, 2) := by decide +kernel
theorem dX5_astray_129 : decode cX5_astray 129 = .ok (.iadd, 1) := by decide +kernel
theorem dX5_astray_130 : decode cX5_astray 130 = .ok (.iaload, 1) := by decide +kernel
theorem dX5_astray_131 : decode cX5_astray 131 = .ok (.iaload, 1) := by decide +kernel
theorem dX5_astray_132 : decode cX5_astray 132 = .ok (.ifCond .eq 7, 3) := by decide +kernel
theorem dX5_astray_135 : decode cX5_astray 135 = .ok (.iconst 1, 1) := by decide +kernel
theorem dX5_astray_136 : decode cX5_astray 136 = .ok (.goto 4, 3) := by decide +kernel
theorem dX5_astray_139 : decode cX5_astray 139 = .ok (.iconst 0, 1) := by decide +kernel
theorem dX5_astray_140 : decode cX5_astray 140 = .ok (.istore_n 3, 1) := by decide +kernel
theorem dX5_astray_141 : decode cX5_astray 141 = .ok (.iinc 4 1, 3) := by decide +kernel
theorem dX5_astray_144 : decode cX5_astray 144 = .ok (.goto (-53), 3) := by decide +kernel
theorem dX5_astray_147 : decode cX5_astray 147 = .ok (.iconst 0, 1) := by decide +kernel
theorem dX5_astray_148 : decode cX5_astray 148 = .ok (.istore 4, 2) := by decide +kernel
theorem dX5_astray_150 : decode cX5_astray 150 = .ok (.iconst 0, 1) := by decide +kernel
theorem dX5_astray_151 : decode cX5_astray 151 = .ok (.istore 5, 2) := by decide +kernel
theorem dX5_astray_153 : decode cX5_astray 153 = .ok (.iload 5, 2) := by decide +kernel
theorem dX5_astray_155 : decode cX5_astray 155 = .ok (.bipush 12, 2) := by decide +kernel
theorem dX5_astray_157 : decode cX5_astray 157 = .ok (.if_icmp .ge 31, 3) := by decide +kernel
theorem dX5_astray_160 : decode cX5_astray 160 = .ok (.aload_n 0, 1) := by decide +kernel
theorem dX5_astray_161 : decode cX5_astray 161 = .ok (.getfield 31, 3) := by decide +kernel
theorem dX5_astray_164 : decode cX5_astray 164 = .ok (.iload 5, 2) := by decide +kernel
theorem dX5_astray_166 : decode cX5_astray 166 = .ok (.iaload, 1) := by decide +kernel
theorem dX5_astray_167 : decode cX5_astray 167 = .ok (.iload_n 2, 1) := by decide +kernel
theorem dX5_astray_168 : decode cX5_astray 168 = .ok (.if_icmp .ne 10, 3) := by decide +kernel
theorem dX5_astray_171 : decode cX5_astray 171 = .ok (.iload 4, 2) := by decide +kernel
theorem dX5_astray_173 : decode cX5_astray 173 = .ok (.iconst 1, 1) := by decide +kernel
theorem dX5_astray_174 : decode cX5_astray 174 = .ok (.iadd, 1) := by decide +kernel
theorem dX5_astray_175 : decode cX5_astray 175 = .ok (.goto 5, 3) := by decide +kernel
theorem dX5_astray_178 : decode cX5_astray 178 = .ok (.iload 4, 2) := by decide +kernel
theorem dX5_astray_180 : decode cX5_astray 180 = .ok (.istore 4, 2) := by decide +kernel
theorem dX5_astray_182 : decode cX5_astray 182 = .ok (.iinc 5 1, 3) := by decide +kernel
theorem dX5_astray_185 : decode cX5_astray 185 = .ok (.goto (-32), 3) := by decide +kernel
theorem dX5_astray_188 : decode cX5_astray 188 = .ok (.iload_n 3, 1) := by decide +kernel
theorem dX5_astray_189 : decode cX5_astray 189 = .ok (.ifCond .eq 13, 3) := by decide +kernel
theorem dX5_astray_192 : decode cX5_astray 192 = .ok (.iload 4, 2) := by decide +kernel
theorem dX5_astray_194 : decode cX5_astray 194 = .ok (.iconst 2, 1) := by decide +kernel
theorem dX5_astray_195 : decode cX5_astray 195 = .ok (.if_icmp .ge 7, 3) := by decide +kernel
theorem dX5_astray_198 : decode cX5_astray 198 = .ok (.iload_n 1, 1) := by decide +kernel
theorem dX5_astray_199 : decode cX5_astray 199 = .ok (.goto 6, 3) := by decide +kernel
theorem dX5_astray_202 : decode cX5_astray 202 = .ok (.iload_n 1, 1) := by decide +kernel
theorem dX5_astray_203 : decode cX5_astray 203 = .ok (.iconst 1, 1) := by decide +kernel
theorem dX5_astray_204 : decode cX5_astray 204 = .ok (.iadd, 1) := by decide +kernel
theorem dX5_astray_205 : decode cX5_astray 205 = .ok (.istore_n 1, 1) := by decide +kernel
theorem dX5_astray_206 : decode cX5_astray 206 = .ok (.iinc 2 1, 3) := by decide +kernel
theorem dX5_astray_209 : decode cX5_astray 209 = .ok (.goto (-200), 3) := by decide +kernel
theorem dX5_astray_212 : decode cX5_astray 212 = .ok (.iload_n 1, 1) := by decide +kernel
theorem dX5_astray_213 : decode cX5_astray 213 = .ok (.ireturn, 1) := by decide +kernel
theorem dJ9_floorMod_7cf53_0 : decode cJ9_floorMod_7cf53 0 = .ok (.iload_n 0, 1) := by decide +kernel
theorem dJ9_floorMod_7cf53_1 : decode cJ9_floorMod_7cf53 1 = .ok (.iload_n 1, 1) := by decide +kernel
theorem dJ9_floorMod_7cf53_2 : decode cJ9_floorMod_7cf53 2 = .ok (.irem, 1) := by decide +kernel
theorem dJ9_floorMod_7cf53_3 : decode cJ9_floorMod_7cf53 3 = .ok (.istore_n 2, 1) := by decide +kernel
theorem dJ9_floorMod_7cf53_4 : decode cJ9_floorMod_7cf53 4 = .ok (.iload_n 0, 1) := by decide +kernel
theorem dJ9_floorMod_7cf53_5 : decode cJ9_floorMod_7cf53 5 = .ok (.iload_n 1, 1) := by decide +kernel
theorem dJ9_floorMod_7cf53_6 : decode cJ9_floorMod_7cf53 6 = .ok (.ixor, 1) := by decide +kernel
theorem dJ9_floorMod_7cf53_7 : decode cJ9_floorMod_7cf53 7 = .ok (.ifCond .ge 11, 3) := by decide +kernel
theorem dJ9_floorMod_7cf53_10 : decode cJ9_floorMod_7cf53 10 = .ok (.iload_n 2, 1) := by decide +kernel
theorem dJ9_floorMod_7cf53_11 : decode cJ9_floorMod_7cf53 11 = .ok (.ifCond .eq 7, 3) := by decide +kernel
theorem dJ9_floorMod_7cf53_14 : decode cJ9_floorMod_7cf53 14 = .ok (.iload_n 2, 1) := by decide +kernel
theorem dJ9_floorMod_7cf53_15 : decode cJ9_floorMod_7cf53 15 = .ok (.iload_n 1, 1) := by decide +kernel
theorem dJ9_floorMod_7cf53_16 : decode cJ9_floorMod_7cf53 16 = .ok (.iadd, 1) := by decide +kernel
theorem dJ9_floorMod_7cf53_17 : decode cJ9_floorMod_7cf53 17 = .ok (.ireturn, 1) := by decide +kernel
theorem dJ9_floorMod_7cf53_18 : decode cJ9_floorMod_7cf53 18 = .ok (.iload_n 2, 1) := by decide +kernel
theorem dJ9_floorMod_7cf53_19 : decode cJ9_floorMod_7cf53 19 = .ok (.ireturn, 1) := by decide +kernel
theorem dJ7_fill_53178_0 : decode cJ7_fill_53178 0 = .ok (.iconst 0, 1) := by decide +kernel
theorem dJ7_fill_53178_1 : decode cJ7_fill_53178 1 = .ok (.istore_n 2, 1) := by decide +kernel
theorem dJ7_fill_53178_2 : decode cJ7_fill_53178 2 = .ok (.aload_n 0, 1) := by decide +kernel
theorem dJ7_fill_53178_3 : decode cJ7_fill_53178 3 = .ok (.arraylength, 1) := by decide +kernel
theorem dJ7_fill_53178_4 : decode cJ7_fill_53178 4 = .ok (.istore_n 3, 1) := by decide +kernel
theorem dJ7_fill_53178_5 : decode cJ7_fill_53178 5 = .ok (.iload_n 2, 1) := by decide +kernel
theorem dJ7_fill_53178_6 : decode cJ7_fill_53178 6 = .ok (.iload_n 3, 1) := by decide +kernel
theorem dJ7_fill_53178_7 : decode cJ7_fill_53178 7 = .ok (.if_icmp .ge 13, 3) := by decide +kernel
theorem dJ7_fill_53178_10 : decode cJ7_fill_53178 10 = .ok (.aload_n 0, 1) := by decide +kernel
theorem dJ7_fill_53178_11 : decode cJ7_fill_53178 11 = .ok (.iload_n 2, 1) := by decide +kernel
theorem dJ7_fill_53178_12 : decode cJ7_fill_53178 12 = .ok (.iload_n 1, 1) := by decide +kernel
theorem dJ7_fill_53178_13 : decode cJ7_fill_53178 13 = .ok (.iastore, 1) := by decide +kernel
theorem dJ7_fill_53178_14 : decode cJ7_fill_53178 14 = .ok (.iinc 2 1, 3) := by decide +kernel
theorem dJ7_fill_53178_17 : decode cJ7_fill_53178 17 = .ok (.goto (-12), 3) := by decide +kernel
theorem dJ7_fill_53178_20 : decode cJ7_fill_53178 20 = .ok (.return_, 1) := by decide +kernel
theorem dL_put_0 : decode cL_put 0 = .ok (.aload_n 3, 1) := by decide +kernel
theorem dL_put_1 : decode cL_put 1 = .ok (.iconst 0, 1) := by decide +kernel
theorem dL_put_2 : decode cL_put 2 = .ok (.aload_n 0, 1) := by decide +kernel
theorem dL_put_3 : decode cL_put 3 = .ok (.iload_n 1, 1) := by decide +kernel
theorem dL_put_4 : decode cL_put 4 = .ok (.iload_n 2, 1) := by decide +kernel
theorem dL_put_5 : decode cL_put 5 = .ok (.invokevirtual 7, 3) := by decide +kernel
theorem dL_put_8 : decode cL_put 8 = .ok (.ifCond .eq 7, 3) := by decide +kernel
theorem dL_put_11 : decode cL_put 11 = .ok (.lconst 1, 1) := by decide +kernel
theorem dL_put_12 : decode cL_put 12 = .ok (.goto 4, 3) := by decide +kernel
theorem dL_put_15 : decode cL_put 15 = .ok (.lconst 0, 1) := by decide +kernel
theorem dL_put_16 : decode cL_put 16 = .ok (.lastore, 1) := by decide +kernel
theorem dL_put_17 : decode cL_put 17 = .ok (.goto 7, 3) := by decide +kernel
theorem dL_put_20 : decode cL_put 20 = .ok (.astore 4, 2) := by decide +kernel
theorem dL_put_22 : decode cL_put 22 = .ok (.iconst 1, 1) := by decide +kernel
theorem dL_put_23 : decode cL_put 23 = .ok (.ireturn, 1) := by decide +kernel
theorem dL_put_24 : decode cL_put 24 = .ok (.iconst 0, 1) := by decide +kernel
theorem dL_put_25 : decode cL_put 25 = .ok (.ireturn, 1) := by decide +kernel
theorem dL_get_0 : decode cL_get 0 = .ok (.aload_n 2, 1) := by decide +kernel
theorem dL_get_1 : decode cL_get 1 = .ok (.iconst 0, 1) := by decide +kernel
theorem dL_get_2 : decode cL_get 2 = .ok (.aload_n 0, 1) := by decide +kernel
theorem dL_get_3 : decode cL_get 3 = .ok (.iload_n 1, 1) := by decide +kernel
theorem dL_get_4 : decode cL_get 4 = .ok (.invokevirtual 15, 3) := by decide +kernel
theorem dL_get_7 : decode cL_get 7 = .ok (.i2l, 1) := by decide +kernel
theorem dL_get_8 : decode cL_get 8 = .ok (.lastore, 1) := by decide +kernel
theorem dL_get_9 : decode cL_get 9 = .ok (.goto 6, 3) := by decide +kernel
theorem dL_get_12 : decode cL_get 12 = .ok (.astore_n 3, 1) := by decide +kernel
theorem dL_get_13 : decode cL_get 13 = .ok (.iconst 1, 1) := by decide +kernel
theorem dL_get_14 : decode cL_get 14 = .ok (.ireturn, 1) := by decide +kernel
theorem dL_get_15 : decode cL_get 15 = .ok (.iconst 0, 1) := by decide +kernel
theorem dL_get_16 : decode cL_get 16 = .ok (.ireturn, 1) := by decide +kernel
theorem dL_next_0 : decode cL_next 0 = .ok (.aload_n 1, 1) := by decide +kernel
theorem dL_next_1 : decode cL_next 1 = .ok (.iconst 0, 1) := by decide +kernel
theorem dL_next_2 : decode cL_next 2 = .ok (.aload_n 0, 1) := by decide +kernel
theorem dL_next_3 : decode cL_next 3 = .ok (.invokevirtual 21, 3) := by decide +kernel
theorem dL_next_6 : decode cL_next 6 = .ok (.ifCond .eq 7, 3) := by decide +kernel
theorem dL_next_9 : decode cL_next 9 = .ok (.lconst 1, 1) := by decide +kernel
theorem dL_next_10 : decode cL_next 10 = .ok (.goto 4, 3) := by decide +kernel
theorem dL_next_13 : decode cL_next 13 = .ok (.lconst 0, 1) := by decide +kernel
theorem dL_next_14 : decode cL_next 14 = .ok (.lastore, 1) := by decide +kernel
theorem dL_next_15 : decode cL_next 15 = .ok (.goto 6, 3) := by decide +kernel
theorem dL_next_18 : decode cL_next 18 = .ok (.astore_n 2, 1) := by decide +kernel
theorem dL_next_19 : decode cL_next 19 = .ok (.iconst 1, 1) := by decide +kernel
theorem dL_next_20 : decode cL_next 20 = .ok (.ireturn, 1) := by decide +kernel
theorem dL_next_21 : decode cL_next 21 = .ok (.iconst 0, 1) := by decide +kernel
theorem dL_next_22 : decode cL_next 22 = .ok (.ireturn, 1) := by decide +kernel
theorem dL_cursor_0 : decode cL_cursor 0 = .ok (.aload_n 2, 1) := by decide +kernel
theorem dL_cursor_1 : decode cL_cursor 1 = .ok (.iconst 0, 1) := by decide +kernel
theorem dL_cursor_2 : decode cL_cursor 2 = .ok (.aload_n 0, 1) := by decide +kernel
theorem dL_cursor_3 : decode cL_cursor 3 = .ok (.iload_n 1, 1) := by decide +kernel
theorem dL_cursor_4 : decode cL_cursor 4 = .ok (.invokevirtual 25, 3) := by decide +kernel
theorem dL_cursor_7 : decode cL_cursor 7 = .ok (.i2l, 1) := by decide +kernel
theorem dL_cursor_8 : decode cL_cursor 8 = .ok (.lastore, 1) := by decide +kernel
theorem dL_cursor_9 : decode cL_cursor 9 = .ok (.goto 6, 3) := by decide +kernel
theorem dL_cursor_12 : decode cL_cursor 12 = .ok (.astore_n 3, 1) := by decide +kernel
theorem dL_cursor_13 : decode cL_cursor 13 = .ok (.iconst 1, 1) := by decide +kernel
theorem dL_cursor_14 : decode cL_cursor 14 = .ok (.ireturn, 1) := by decide +kernel
theorem dL_cursor_15 : decode cL_cursor 15 = .ok (.iconst 0, 1) := by decide +kernel
theorem dL_cursor_16 : decode cL_cursor 16 = .ok (.ireturn, 1) := by decide +kernel
theorem dL_drop_0 : decode cL_drop 0 = .ok (.aload_n 1, 1) := by decide +kernel
theorem dL_drop_1 : decode cL_drop 1 = .ok (.iconst 0, 1) := by decide +kernel
theorem dL_drop_2 : decode cL_drop 2 = .ok (.aload_n 0, 1) := by decide +kernel
theorem dL_drop_3 : decode cL_drop 3 = .ok (.invokevirtual 29, 3) := by decide +kernel
theorem dL_drop_6 : decode cL_drop 6 = .ok (.i2l, 1) := by decide +kernel
theorem dL_drop_7 : decode cL_drop 7 = .ok (.lastore, 1) := by decide +kernel
theorem dL_drop_8 : decode cL_drop 8 = .ok (.goto 6, 3) := by decide +kernel
theorem dL_drop_11 : decode cL_drop 11 = .ok (.astore_n 2, 1) := by decide +kernel
theorem dL_drop_12 : decode cL_drop 12 = .ok (.iconst 1, 1) := by decide +kernel
theorem dL_drop_13 : decode cL_drop 13 = .ok (.ireturn, 1) := by decide +kernel
theorem dL_drop_14 : decode cL_drop 14 = .ok (.iconst 0, 1) := by decide +kernel
theorem dL_drop_15 : decode cL_drop 15 = .ok (.ireturn, 1) := by decide +kernel
theorem dL_page_0 : decode cL_page 0 = .ok (.aload_n 3, 1) := by decide +kernel
theorem dL_page_1 : decode cL_page 1 = .ok (.iconst 0, 1) := by decide +kernel
theorem dL_page_2 : decode cL_page 2 = .ok (.aload_n 0, 1) := by decide +kernel
theorem dL_page_3 : decode cL_page 3 = .ok (.iload_n 1, 1) := by decide +kernel
theorem dL_page_4 : decode cL_page 4 = .ok (.iload_n 2, 1) := by decide +kernel
theorem dL_page_5 : decode cL_page 5 = .ok (.invokevirtual 35, 3) := by decide +kernel
theorem dL_page_8 : decode cL_page 8 = .ok (.i2l, 1) := by decide +kernel
theorem dL_page_9 : decode cL_page 9 = .ok (.lastore, 1) := by decide +kernel
theorem dL_page_10 : decode cL_page 10 = .ok (.goto 11, 3) := by decide +kernel
theorem dL_page_13 : decode cL_page 13 = .ok (.astore 4, 2) := by decide +kernel
theorem dL_page_15 : decode cL_page 15 = .ok (.iconst 1, 1) := by decide +kernel
theorem dL_page_16 : decode cL_page 16 = .ok (.ireturn, 1) := by decide +kernel
theorem dL_page_17 : decode cL_page 17 = .ok (.astore 4, 2) := by decide +kernel
theorem dL_page_19 : decode cL_page 19 = .ok (.iconst 2, 1) := by decide +kernel
theorem dL_page_20 : decode cL_page 20 = .ok (.ireturn, 1) := by decide +kernel
theorem dL_page_21 : decode cL_page 21 = .ok (.iconst 0, 1) := by decide +kernel
theorem dL_page_22 : decode cL_page 22 = .ok (.ireturn, 1) := by decide +kernel
theorem dL_item_0 : decode cL_item 0 = .ok (.aload 4, 2) := by decide +kernel
theorem dL_item_2 : decode cL_item 2 = .ok (.iconst 0, 1) := by decide +kernel
theorem dL_item_3 : decode cL_item 3 = .ok (.aload_n 0, 1) := by decide +kernel
theorem dL_item_4 : decode cL_item 4 = .ok (.iload_n 1, 1) := by decide +kernel
theorem dL_item_5 : decode cL_item 5 = .ok (.iload_n 2, 1) := by decide +kernel
theorem dL_item_6 : decode cL_item 6 = .ok (.iload_n 3, 1) := by decide +kernel
theorem dL_item_7 : decode cL_item 7 = .ok (.invokevirtual 43, 3) := by decide +kernel
theorem dL_item_10 : decode cL_item 10 = .ok (.i2l, 1) := by decide +kernel
theorem dL_item_11 : decode cL_item 11 = .ok (.lastore, 1) := by decide +kernel
theorem dL_item_12 : decode cL_item 12 = .ok (.goto 7, 3) := by decide +kernel
theorem dL_item_15 : decode cL_item 15 = .ok (.astore 5, 2) := by decide +kernel
theorem dL_item_17 : decode cL_item 17 = .ok (.iconst 1, 1) := by decide +kernel
theorem dL_item_18 : decode cL_item 18 = .ok (.ireturn, 1) := by decide +kernel
theorem dL_item_19 : decode cL_item 19 = .ok (.iconst 0, 1) := by decide +kernel
theorem dL_item_20 : decode cL_item 20 = .ok (.ireturn, 1) := by decide +kernel
theorem dL_frame_0 : decode cL_frame 0 = .ok (.aload_n 3, 1) := by decide +kernel
theorem dL_frame_1 : decode cL_frame 1 = .ok (.iconst 0, 1) := by decide +kernel
theorem dL_frame_2 : decode cL_frame 2 = .ok (.aload_n 0, 1) := by decide +kernel
theorem dL_frame_3 : decode cL_frame 3 = .ok (.iload_n 1, 1) := by decide +kernel
theorem dL_frame_4 : decode cL_frame 4 = .ok (.iload_n 2, 1) := by decide +kernel
theorem dL_frame_5 : decode cL_frame 5 = .ok (.invokevirtual 47, 3) := by decide +kernel
theorem dL_frame_8 : decode cL_frame 8 = .ok (.i2l, 1) := by decide +kernel
theorem dL_frame_9 : decode cL_frame 9 = .ok (.lastore, 1) := by decide +kernel
theorem dL_frame_10 : decode cL_frame 10 = .ok (.goto 11, 3) := by decide +kernel
theorem dL_frame_13 : decode cL_frame 13 = .ok (.astore 4, 2) := by decide +kernel
theorem dL_frame_15 : decode cL_frame 15 = .ok (.iconst 1, 1) := by decide +kernel
theorem dL_frame_16 : decode cL_frame 16 = .ok (.ireturn, 1) := by decide +kernel
theorem dL_frame_17 : decode cL_frame 17 = .ok (.astore 4, 2) := by decide +kernel
theorem dL_frame_19 : decode cL_frame 19 = .ok (.iconst 2, 1) := by decide +kernel
theorem dL_frame_20 : decode cL_frame 20 = .ok (.ireturn, 1) := by decide +kernel
theorem dL_frame_21 : decode cL_frame 21 = .ok (.iconst 0, 1) := by decide +kernel
theorem dL_frame_22 : decode cL_frame 22 = .ok (.ireturn, 1) := by decide +kernel
theorem dL_law_0 : decode cL_law 0 = .ok (.new 8, 3) := by decide +kernel
theorem dL_law_3 : decode cL_law 3 = .ok (.dup, 1) := by decide +kernel
theorem dL_law_4 : decode cL_law 4 = .ok (.invokespecial 50, 3) := by decide +kernel
theorem dL_law_7 : decode cL_law 7 = .ok (.astore_n 1, 1) := by decide +kernel
theorem dL_law_8 : decode cL_law 8 = .ok (.new 51, 3) := by decide +kernel
theorem dL_law_11 : decode cL_law 11 = .ok (.dup, 1) := by decide +kernel
theorem dL_law_12 : decode cL_law 12 = .ok (.invokespecial 53, 3) := by decide +kernel
theorem dL_law_15 : decode cL_law 15 = .ok (.astore_n 2, 1) := by decide +kernel
theorem dL_law_16 : decode cL_law 16 = .ok (.iconst 1, 1) := by decide +kernel
theorem dL_law_17 : decode cL_law 17 = .ok (.newarray .long, 2) := by decide +kernel
theorem dL_law_19 : decode cL_law 19 = .ok (.astore_n 3, 1) := by decide +kernel
theorem dL_law_20 : decode cL_law 20 = .ok (.iconst 0, 1) := by decide +kernel
theorem dL_law_21 : decode cL_law 21 = .ok (.istore 4, 2) := by decide +kernel
theorem dL_law_23 : decode cL_law 23 = .ok (.iload 4, 2) := by decide +kernel
theorem dL_law_25 : decode cL_law 25 = .ok (.aload_n 0, 1) := by decide +kernel
theorem dL_law_26 : decode cL_law 26 = .ok (.arraylength, 1) := by decide +kernel
theorem dL_law_27 : decode cL_law 27 = .ok (.iconst 4, 1) := by decide +kernel
theorem dL_law_28 : decode cL_law 28 = .ok (.isub, 1) := by decide +kernel
theorem dL_law_29 : decode cL_law 29 = .ok (.if_icmp .gt 712, 3) := by decide +kernel
theorem dL_law_32 : decode cL_law 32 = .ok (.aload_n 0, 1) := by decide +kernel
theorem dL_law_33 : decode cL_law 33 = .ok (.iload 4, 2) := by decide +kernel
theorem dL_law_35 : decode cL_law 35 = .ok (.iaload, 1) := by decide +kernel
theorem dL_law_36 : decode cL_law 36 = .ok (.bipush 15, 2) := by decide +kernel
theorem dL_law_38 : decode cL_law 38 = .ok (.iand, 1) := by decide +kernel
theorem dL_law_39 : decode cL_law 39 = .ok (.tableswitch 696 0 12 #[65, 140, 196, 221, 246, 297, 369, 382, 426, 494, 590, 658, 683], 65) := by decide +kernel
theorem dL_law_104 : decode cL_law 104 = .ok (.aload_n 1, 1) := by decide +kernel
theorem dL_law_105 : decode cL_law 105 = .ok (.aload_n 0, 1) := by decide +kernel
theorem dL_law_106 : decode cL_law 106 = .ok (.iload 4, 2) := by decide +kernel
theorem dL_law_108 : decode cL_law 108 = .ok (.iconst 1, 1) := by decide +kernel
theorem dL_law_109 : decode cL_law 109 = .ok (.iadd, 1) := by decide +kernel
theorem dL_law_110 : decode cL_law 110 = .ok (.iaload, 1) := by decide +kernel
theorem dL_law_111 : decode cL_law 111 = .ok (.aload_n 0, 1) := by decide +kernel
theorem dL_law_112 : decode cL_law 112 = .ok (.iload 4, 2) := by decide +kernel
theorem dL_law_114 : decode cL_law 114 = .ok (.iconst 2, 1) := by decide +kernel
theorem dL_law_115 : decode cL_law 115 = .ok (.iadd, 1) := by decide +kernel
theorem dL_law_116 : decode cL_law 116 = .ok (.iaload, 1) := by decide +kernel
theorem dL_law_117 : decode cL_law 117 = .ok (.aload_n 3, 1) := by decide +kernel
theorem dL_law_118 : decode cL_law 118 = .ok (.invokestatic 54, 3) := by decide +kernel
theorem dL_law_121 : decode cL_law 121 = .ok (.istore 5, 2) := by decide +kernel
theorem dL_law_123 : decode cL_law 123 = .ok (.aload_n 2, 1) := by decide +kernel
theorem dL_law_124 : decode cL_law 124 = .ok (.aload_n 0, 1) := by decide +kernel
theorem dL_law_125 : decode cL_law 125 = .ok (.iload 4, 2) := by decide +kernel
theorem dL_law_127 : decode cL_law 127 = .ok (.iconst 1, 1) := by decide +kernel
theorem dL_law_128 : decode cL_law 128 = .ok (.iadd, 1) := by decide +kernel
theorem dL_law_129 : decode cL_law 129 = .ok (.iaload, 1) := by decide +kernel
theorem dL_law_130 : decode cL_law 130 = .ok (.aload_n 0, 1) := by decide +kernel
theorem dL_law_131 : decode cL_law 131 = .ok (.iload 4, 2) := by decide +kernel
theorem dL_law_133 : decode cL_law 133 = .ok (.iconst 2, 1) := by decide +kernel
theorem dL_law_134 : decode cL_law 134 = .ok (.iadd, 1) := by decide +kernel
theorem dL_law_135 : decode cL_law 135 = .ok (.iaload, 1) := by decide +kernel
theorem dL_law_136 : decode cL_law 136 = .ok (.invokevirtual 59, 3) := by decide +kernel
theorem dL_law_139 : decode cL_law 139 = .ok (.istore 6, 2) := by decide +kernel
theorem dL_law_141 : decode cL_law 141 = .ok (.aload_n 2, 1) := by decide +kernel
theorem dL_law_142 : decode cL_law 142 = .ok (.invokevirtual 60, 3) := by decide +kernel
theorem dL_law_145 : decode cL_law 145 = .ok (.iload 5, 2) := by decide +kernel
theorem dL_law_147 : decode cL_law 147 = .ok (.if_icmp .eq 5, 3) := by decide +kernel
theorem dL_law_150 : decode cL_law 150 = .ok (.iconst 0, 1) := by decide +kernel
theorem dL_law_151 : decode cL_law 151 = .ok (.ireturn, 1) := by decide +kernel
theorem dL_law_152 : decode cL_law 152 = .ok (.iload 5, 2) := by decide +kernel
theorem dL_law_154 : decode cL_law 154 = .ok (.ifCond .ne 22, 3) := by decide +kernel
theorem dL_law_157 : decode cL_law 157 = .ok (.aload_n 3, 1) := by decide +kernel
theorem dL_law_158 : decode cL_law 158 = .ok (.iconst 0, 1) := by decide +kernel
theorem dL_law_159 : decode cL_law 159 = .ok (.laload, 1) := by decide +kernel
theorem dL_law_160 : decode cL_law 160 = .ok (.iload 6, 2) := by decide +kernel
theorem dL_law_162 : decode cL_law 162 = .ok (.ifCond .eq 7, 3) := by decide +kernel
theorem dL_law_165 : decode cL_law 165 = .ok (.lconst 1, 1) := by decide +kernel
theorem dL_law_166 : decode cL_law 166 = .ok (.goto 4, 3) := by decide +kernel
theorem dL_law_169 : decode cL_law 169 = .ok (.lconst 0, 1) := by decide +kernel
theorem dL_law_170 : decode cL_law 170 = .ok (.lcmp, 1) := by decide +kernel
theorem dL_law_171 : decode cL_law 171 = .ok (.ifCond .eq 5, 3) := by decide +kernel
theorem dL_law_174 : decode cL_law 174 = .ok (.iconst 0, 1) := by decide +kernel
theorem dL_law_175 : decode cL_law 175 = .ok (.ireturn, 1) := by decide +kernel
theorem dL_law_176 : decode cL_law 176 = .ok (.goto 559, 3) := by decide +kernel
theorem dL_law_179 : decode cL_law 179 = .ok (.aload_n 1, 1) := by decide +kernel
theorem dL_law_180 : decode cL_law 180 = .ok (.aload_n 0, 1) := by decide +kernel
theorem dL_law_181 : decode cL_law 181 = .ok (.iload 4, 2) := by decide +kernel
theorem dL_law_183 : decode cL_law 183 = .ok (.iconst 1, 1) := by decide +kernel
theorem dL_law_184 : decode cL_law 184 = .ok (.iadd, 1) := by decide +kernel
theorem dL_law_185 : decode cL_law 185 = .ok (.iaload, 1) := by decide +kernel
theorem dL_law_186 : decode cL_law 186 = .ok (.aload_n 3, 1) := by decide +kernel
theorem dL_law_187 : decode cL_law 187 = .ok (.invokestatic 63, 3) := by decide +kernel
theorem dL_law_190 : decode cL_law 190 = .ok (.istore 5, 2) := by decide +kernel
theorem dL_law_192 : decode cL_law 192 = .ok (.aload_n 2, 1) := by decide +kernel
theorem dL_law_193 : decode cL_law 193 = .ok (.aload_n 0, 1) := by decide +kernel
theorem dL_law_194 : decode cL_law 194 = .ok (.iload 4, 2) := by decide +kernel
theorem dL_law_196 : decode cL_law 196 = .ok (.iconst 1, 1) := by decide +kernel
theorem dL_law_197 : decode cL_law 197 = .ok (.iadd, 1) := by decide +kernel
theorem dL_law_198 : decode cL_law 198 = .ok (.iaload, 1) := by decide +kernel
theorem dL_law_199 : decode cL_law 199 = .ok (.invokevirtual 66, 3) := by decide +kernel
theorem dL_law_202 : decode cL_law 202 = .ok (.istore 6, 2) := by decide +kernel
theorem dL_law_204 : decode cL_law 204 = .ok (.aload_n 2, 1) := by decide +kernel
theorem dL_law_205 : decode cL_law 205 = .ok (.invokevirtual 60, 3) := by decide +kernel
theorem dL_law_208 : decode cL_law 208 = .ok (.iload 5, 2) := by decide +kernel
theorem dL_law_210 : decode cL_law 210 = .ok (.if_icmp .eq 5, 3) := by decide +kernel
theorem dL_law_213 : decode cL_law 213 = .ok (.iconst 0, 1) := by decide +kernel
theorem dL_law_214 : decode cL_law 214 = .ok (.ireturn, 1) := by decide +kernel
theorem dL_law_215 : decode cL_law 215 = .ok (.iload 5, 2) := by decide +kernel
theorem dL_law_217 : decode cL_law 217 = .ok (.ifCond .ne 15, 3) := by decide +kernel
theorem dL_law_220 : decode cL_law 220 = .ok (.aload_n 3, 1) := by decide +kernel
theorem dL_law_221 : decode cL_law 221 = .ok (.iconst 0, 1) := by decide +kernel
theorem dL_law_222 : decode cL_law 222 = .ok (.laload, 1) := by decide +kernel
theorem dL_law_223 : decode cL_law 223 = .ok (.iload 6, 2) := by decide +kernel
theorem dL_law_225 : decode cL_law 225 = .ok (.i2l, 1) := by decide +kernel
theorem dL_law_226 : decode cL_law 226 = .ok (.lcmp, 1) := by decide +kernel
theorem dL_law_227 : decode cL_law 227 = .ok (.ifCond .eq 5, 3) := by decide +kernel
theorem dL_law_230 : decode cL_law 230 = .ok (.iconst 0, 1) := by decide +kernel
theorem dL_law_231 : decode cL_law 231 = .ok (.ireturn, 1) := by decide +kernel
theorem dL_law_232 : decode cL_law 232 = .ok (.goto 503, 3) := by decide +kernel
theorem dL_law_235 : decode cL_law 235 = .ok (.aload_n 1, 1) := by decide +kernel
theorem dL_law_236 : decode cL_law 236 = .ok (.aload_n 0, 1) := by decide +kernel
theorem dL_law_237 : decode cL_law 237 = .ok (.iload 4, 2) := by decide +kernel
theorem dL_law_239 : decode cL_law 239 = .ok (.iconst 1, 1) := by decide +kernel
theorem dL_law_240 : decode cL_law 240 = .ok (.iadd, 1) := by decide +kernel
theorem dL_law_241 : decode cL_law 241 = .ok (.iaload, 1) := by decide +kernel
theorem dL_law_242 : decode cL_law 242 = .ok (.invokevirtual 67, 3) := by decide +kernel
theorem dL_law_245 : decode cL_law 245 = .ok (.aload_n 2, 1) := by decide +kernel
theorem dL_law_246 : decode cL_law 246 = .ok (.aload_n 0, 1) := by decide +kernel
theorem dL_law_247 : decode cL_law 247 = .ok (.iload 4, 2) := by decide +kernel
theorem dL_law_249 : decode cL_law 249 = .ok (.iconst 1, 1) := by decide +kernel
theorem dL_law_250 : decode cL_law 250 = .ok (.iadd, 1) := by decide +kernel
theorem dL_law_251 : decode cL_law 251 = .ok (.iaload, 1) := by decide +kernel
theorem dL_law_252 : decode cL_law 252 = .ok (.invokevirtual 71, 3) := by decide +kernel
theorem dL_law_255 : decode cL_law 255 = .ok (.if_icmp .eq 480, 3) := by decide +kernel
theorem dL_law_258 : decode cL_law 258 = .ok (.iconst 0, 1) := by decide +kernel
theorem dL_law_259 : decode cL_law 259 = .ok (.ireturn, 1) := by decide +kernel
theorem dL_law_260 : decode cL_law 260 = .ok (.aload_n 1, 1) := by decide +kernel
theorem dL_law_261 : decode cL_law 261 = .ok (.aload_n 0, 1) := by decide +kernel
theorem dL_law_262 : decode cL_law 262 = .ok (.iload 4, 2) := by decide +kernel
theorem dL_law_264 : decode cL_law 264 = .ok (.iconst 1, 1) := by decide +kernel
theorem dL_law_265 : decode cL_law 265 = .ok (.iadd, 1) := by decide +kernel
theorem dL_law_266 : decode cL_law 266 = .ok (.iaload, 1) := by decide +kernel
theorem dL_law_267 : decode cL_law 267 = .ok (.invokevirtual 72, 3) := by decide +kernel
theorem dL_law_270 : decode cL_law 270 = .ok (.aload_n 2, 1) := by decide +kernel
theorem dL_law_271 : decode cL_law 271 = .ok (.aload_n 0, 1) := by decide +kernel
theorem dL_law_272 : decode cL_law 272 = .ok (.iload 4, 2) := by decide +kernel
theorem dL_law_274 : decode cL_law 274 = .ok (.iconst 1, 1) := by decide +kernel
theorem dL_law_275 : decode cL_law 275 = .ok (.iadd, 1) := by decide +kernel
theorem dL_law_276 : decode cL_law 276 = .ok (.iaload, 1) := by decide +kernel
theorem dL_law_277 : decode cL_law 277 = .ok (.invokevirtual 75, 3) := by decide +kernel
theorem dL_law_280 : decode cL_law 280 = .ok (.if_icmp .eq 455, 3) := by decide +kernel
theorem dL_law_283 : decode cL_law 283 = .ok (.iconst 0, 1) := by decide +kernel
theorem dL_law_284 : decode cL_law 284 = .ok (.ireturn, 1) := by decide +kernel
theorem dL_law_285 : decode cL_law 285 = .ok (.aload_n 1, 1) := by decide +kernel
theorem dL_law_286 : decode cL_law 286 = .ok (.aload_n 3, 1) := by decide +kernel
theorem dL_law_287 : decode cL_law 287 = .ok (.invokestatic 76, 3) := by decide +kernel
theorem dL_law_290 : decode cL_law 290 = .ok (.istore 5, 2) := by decide +kernel
theorem dL_law_292 : decode cL_law 292 = .ok (.aload_n 2, 1) := by decide +kernel
theorem dL_law_293 : decode cL_law 293 = .ok (.invokevirtual 79, 3) := by decide +kernel
theorem dL_law_296 : decode cL_law 296 = .ok (.istore 6, 2) := by decide +kernel
theorem dL_law_298 : decode cL_law 298 = .ok (.aload_n 2, 1) := by decide +kernel
theorem dL_law_299 : decode cL_law 299 = .ok (.invokevirtual 60, 3) := by decide +kernel
theorem dL_law_302 : decode cL_law 302 = .ok (.iload 5, 2) := by decide +kernel
theorem dL_law_304 : decode cL_law 304 = .ok (.if_icmp .eq 5, 3) := by decide +kernel
theorem dL_law_307 : decode cL_law 307 = .ok (.iconst 0, 1) := by decide +kernel
theorem dL_law_308 : decode cL_law 308 = .ok (.ireturn, 1) := by decide +kernel
theorem dL_law_309 : decode cL_law 309 = .ok (.iload 5, 2) := by decide +kernel
theorem dL_law_311 : decode cL_law 311 = .ok (.ifCond .ne 22, 3) := by decide +kernel
theorem dL_law_314 : decode cL_law 314 = .ok (.aload_n 3, 1) := by decide +kernel
theorem dL_law_315 : decode cL_law 315 = .ok (.iconst 0, 1) := by decide +kernel
theorem dL_law_316 : decode cL_law 316 = .ok (.laload, 1) := by decide +kernel
theorem dL_law_317 : decode cL_law 317 = .ok (.iload 6, 2) := by decide +kernel
theorem dL_law_319 : decode cL_law 319 = .ok (.ifCond .eq 7, 3) := by decide +kernel
theorem dL_law_322 : decode cL_law 322 = .ok (.lconst 1, 1) := by decide +kernel
theorem dL_law_323 : decode cL_law 323 = .ok (.goto 4, 3) := by decide +kernel
theorem dL_law_326 : decode cL_law 326 = .ok (.lconst 0, 1) := by decide +kernel
theorem dL_law_327 : decode cL_law 327 = .ok (.lcmp, 1) := by decide +kernel
theorem dL_law_328 : decode cL_law 328 = .ok (.ifCond .eq 5, 3) := by decide +kernel
theorem dL_law_331 : decode cL_law 331 = .ok (.iconst 0, 1) := by decide +kernel
theorem dL_law_332 : decode cL_law 332 = .ok (.ireturn, 1) := by decide +kernel
theorem dL_law_333 : decode cL_law 333 = .ok (.goto 402, 3) := by decide +kernel
theorem dL_law_336 : decode cL_law 336 = .ok (.aload_n 1, 1) := by decide +kernel
theorem dL_law_337 : decode cL_law 337 = .ok (.aload_n 0, 1) := by decide +kernel
theorem dL_law_338 : decode cL_law 338 = .ok (.iload 4, 2) := by decide +kernel
theorem dL_law_340 : decode cL_law 340 = .ok (.iconst 1, 1) := by decide +kernel
theorem dL_law_341 : decode cL_law 341 = .ok (.iadd, 1) := by decide +kernel
theorem dL_law_342 : decode cL_law 342 = .ok (.iaload, 1) := by decide +kernel
theorem dL_law_343 : decode cL_law 343 = .ok (.ifCond .eq 7, 3) := by decide +kernel
theorem dL_law_346 : decode cL_law 346 = .ok (.iconst 1, 1) := by decide +kernel
theorem dL_law_347 : decode cL_law 347 = .ok (.goto 4, 3) := by decide +kernel
theorem dL_law_350 : decode cL_law 350 = .ok (.iconst 0, 1) := by decide +kernel
theorem dL_law_351 : decode cL_law 351 = .ok (.aload_n 3, 1) := by decide +kernel
theorem dL_law_352 : decode cL_law 352 = .ok (.invokestatic 80, 3) := by decide +kernel
theorem dL_law_355 : decode cL_law 355 = .ok (.istore 5, 2) := by decide +kernel
theorem dL_law_357 : decode cL_law 357 = .ok (.aload_n 2, 1) := by decide +kernel
theorem dL_law_358 : decode cL_law 358 = .ok (.aload_n 0, 1) := by decide +kernel
theorem dL_law_359 : decode cL_law 359 = .ok (.iload 4, 2) := by decide +kernel
theorem dL_law_361 : decode cL_law 361 = .ok (.iconst 1, 1) := by decide +kernel
theorem dL_law_362 : decode cL_law 362 = .ok (.iadd, 1) := by decide +kernel
theorem dL_law_363 : decode cL_law 363 = .ok (.iaload, 1) := by decide +kernel
theorem dL_law_364 : decode cL_law 364 = .ok (.ifCond .eq 7, 3) := by decide +kernel
theorem dL_law_367 : decode cL_law 367 = .ok (.iconst 1, 1) := by decide +kernel
theorem dL_law_368 : decode cL_law 368 = .ok (.goto 4, 3) := by decide +kernel
theorem dL_law_371 : decode cL_law 371 = .ok (.iconst 0, 1) := by decide +kernel
theorem dL_law_372 : decode cL_law 372 = .ok (.invokevirtual 83, 3) := by decide +kernel
theorem dL_law_375 : decode cL_law 375 = .ok (.istore 6, 2) := by decide +kernel
theorem dL_law_377 : decode cL_law 377 = .ok (.aload_n 2, 1) := by decide +kernel
theorem dL_law_378 : decode cL_law 378 = .ok (.invokevirtual 60, 3) := by decide +kernel
theorem dL_law_381 : decode cL_law 381 = .ok (.iload 5, 2) := by decide +kernel
theorem dL_law_383 : decode cL_law 383 = .ok (.if_icmp .eq 5, 3) := by decide +kernel
theorem dL_law_386 : decode cL_law 386 = .ok (.iconst 0, 1) := by decide +kernel
theorem dL_law_387 : decode cL_law 387 = .ok (.ireturn, 1) := by decide +kernel
theorem dL_law_388 : decode cL_law 388 = .ok (.iload 5, 2) := by decide +kernel
theorem dL_law_390 : decode cL_law 390 = .ok (.ifCond .ne 15, 3) := by decide +kernel
theorem dL_law_393 : decode cL_law 393 = .ok (.aload_n 3, 1) := by decide +kernel
theorem dL_law_394 : decode cL_law 394 = .ok (.iconst 0, 1) := by decide +kernel
theorem dL_law_395 : decode cL_law 395 = .ok (.laload, 1) := by decide +kernel
theorem dL_law_396 : decode cL_law 396 = .ok (.iload 6, 2) := by decide +kernel
theorem dL_law_398 : decode cL_law 398 = .ok (.i2l, 1) := by decide +kernel
theorem dL_law_399 : decode cL_law 399 = .ok (.lcmp, 1) := by decide +kernel
theorem dL_law_400 : decode cL_law 400 = .ok (.ifCond .eq 5, 3) := by decide +kernel
theorem dL_law_403 : decode cL_law 403 = .ok (.iconst 0, 1) := by decide +kernel
theorem dL_law_404 : decode cL_law 404 = .ok (.ireturn, 1) := by decide +kernel
theorem dL_law_405 : decode cL_law 405 = .ok (.goto 330, 3) := by decide +kernel
theorem dL_law_408 : decode cL_law 408 = .ok (.aload_n 1, 1) := by decide +kernel
theorem dL_law_409 : decode cL_law 409 = .ok (.invokevirtual 84, 3) := by decide +kernel
theorem dL_law_412 : decode cL_law 412 = .ok (.aload_n 2, 1) := by decide +kernel
theorem dL_law_413 : decode cL_law 413 = .ok (.invokevirtual 87, 3) := by decide +kernel
theorem dL_law_416 : decode cL_law 416 = .ok (.if_icmp .eq 319, 3) := by decide +kernel
theorem dL_law_419 : decode cL_law 419 = .ok (.iconst 0, 1) := by decide +kernel
theorem dL_law_420 : decode cL_law 420 = .ok (.ireturn, 1) := by decide +kernel
theorem dL_law_421 : decode cL_law 421 = .ok (.aload_n 1, 1) := by decide +kernel
theorem dL_law_422 : decode cL_law 422 = .ok (.aload_n 3, 1) := by decide +kernel
theorem dL_law_423 : decode cL_law 423 = .ok (.invokestatic 88, 3) := by decide +kernel
theorem dL_law_426 : decode cL_law 426 = .ok (.istore 5, 2) := by decide +kernel
theorem dL_law_428 : decode cL_law 428 = .ok (.aload_n 2, 1) := by decide +kernel
theorem dL_law_429 : decode cL_law 429 = .ok (.invokevirtual 90, 3) := by decide +kernel
theorem dL_law_432 : decode cL_law 432 = .ok (.istore 6, 2) := by decide +kernel
theorem dL_law_434 : decode cL_law 434 = .ok (.aload_n 2, 1) := by decide +kernel
theorem dL_law_435 : decode cL_law 435 = .ok (.invokevirtual 60, 3) := by decide +kernel
theorem dL_law_438 : decode cL_law 438 = .ok (.iload 5, 2) := by decide +kernel
theorem dL_law_440 : decode cL_law 440 = .ok (.if_icmp .eq 5, 3) := by decide +kernel
theorem dL_law_443 : decode cL_law 443 = .ok (.iconst 0, 1) := by decide +kernel
theorem dL_law_444 : decode cL_law 444 = .ok (.ireturn, 1) := by decide +kernel
theorem dL_law_445 : decode cL_law 445 = .ok (.iload 5, 2) := by decide +kernel
theorem dL_law_447 : decode cL_law 447 = .ok (.ifCond .ne 15, 3) := by decide +kernel
theorem dL_law_450 : decode cL_law 450 = .ok (.aload_n 3, 1) := by decide +kernel
theorem dL_law_451 : decode cL_law 451 = .ok (.iconst 0, 1) := by decide +kernel
theorem dL_law_452 : decode cL_law 452 = .ok (.laload, 1) := by decide +kernel
theorem dL_law_453 : decode cL_law 453 = .ok (.iload 6, 2) := by decide +kernel
theorem dL_law_455 : decode cL_law 455 = .ok (.i2l, 1) := by decide +kernel
theorem dL_law_456 : decode cL_law 456 = .ok (.lcmp, 1) := by decide +kernel
theorem dL_law_457 : decode cL_law 457 = .ok (.ifCond .eq 5, 3) := by decide +kernel
theorem dL_law_460 : decode cL_law 460 = .ok (.iconst 0, 1) := by decide +kernel
theorem dL_law_461 : decode cL_law 461 = .ok (.ireturn, 1) := by decide +kernel
theorem dL_law_462 : decode cL_law 462 = .ok (.goto 273, 3) := by decide +kernel
theorem dL_law_465 : decode cL_law 465 = .ok (.aload_n 1, 1) := by decide +kernel
theorem dL_law_466 : decode cL_law 466 = .ok (.aload_n 0, 1) := by decide +kernel
theorem dL_law_467 : decode cL_law 467 = .ok (.iload 4, 2) := by decide +kernel
theorem dL_law_469 : decode cL_law 469 = .ok (.iconst 1, 1) := by decide +kernel
theorem dL_law_470 : decode cL_law 470 = .ok (.iadd, 1) := by decide +kernel
theorem dL_law_471 : decode cL_law 471 = .ok (.iaload, 1) := by decide +kernel
theorem dL_law_472 : decode cL_law 472 = .ok (.aload_n 0, 1) := by decide +kernel
theorem dL_law_473 : decode cL_law 473 = .ok (.iload 4, 2) := by decide +kernel
theorem dL_law_475 : decode cL_law 475 = .ok (.iconst 2, 1) := by decide +kernel
theorem dL_law_476 : decode cL_law 476 = .ok (.iadd, 1) := by decide +kernel
theorem dL_law_477 : decode cL_law 477 = .ok (.iaload, 1) := by decide +kernel
theorem dL_law_478 : decode cL_law 478 = .ok (.aload_n 3, 1) := by decide +kernel
theorem dL_law_479 : decode cL_law 479 = .ok (.invokestatic 91, 3) := by decide +kernel
theorem dL_law_482 : decode cL_law 482 = .ok (.istore 5, 2) := by decide +kernel
theorem dL_law_484 : decode cL_law 484 = .ok (.aload_n 2, 1) := by decide +kernel
theorem dL_law_485 : decode cL_law 485 = .ok (.aload_n 0, 1) := by decide +kernel
theorem dL_law_486 : decode cL_law 486 = .ok (.iload 4, 2) := by decide +kernel
theorem dL_law_488 : decode cL_law 488 = .ok (.iconst 1, 1) := by decide +kernel
theorem dL_law_489 : decode cL_law 489 = .ok (.iadd, 1) := by decide +kernel
theorem dL_law_490 : decode cL_law 490 = .ok (.iaload, 1) := by decide +kernel
theorem dL_law_491 : decode cL_law 491 = .ok (.aload_n 0, 1) := by decide +kernel
theorem dL_law_492 : decode cL_law 492 = .ok (.iload 4, 2) := by decide +kernel
theorem dL_law_494 : decode cL_law 494 = .ok (.iconst 2, 1) := by decide +kernel
theorem dL_law_495 : decode cL_law 495 = .ok (.iadd, 1) := by decide +kernel
theorem dL_law_496 : decode cL_law 496 = .ok (.iaload, 1) := by decide +kernel
theorem dL_law_497 : decode cL_law 497 = .ok (.invokevirtual 93, 3) := by decide +kernel
theorem dL_law_500 : decode cL_law 500 = .ok (.istore 6, 2) := by decide +kernel
theorem dL_law_502 : decode cL_law 502 = .ok (.aload_n 2, 1) := by decide +kernel
theorem dL_law_503 : decode cL_law 503 = .ok (.invokevirtual 60, 3) := by decide +kernel
theorem dL_law_506 : decode cL_law 506 = .ok (.iload 5, 2) := by decide +kernel
theorem dL_law_508 : decode cL_law 508 = .ok (.if_icmp .eq 5, 3) := by decide +kernel
theorem dL_law_511 : decode cL_law 511 = .ok (.iconst 0, 1) := by decide +kernel
theorem dL_law_512 : decode cL_law 512 = .ok (.ireturn, 1) := by decide +kernel
theorem dL_law_513 : decode cL_law 513 = .ok (.iload 5, 2) := by decide +kernel
theorem dL_law_515 : decode cL_law 515 = .ok (.ifCond .ne 15, 3) := by decide +kernel
theorem dL_law_518 : decode cL_law 518 = .ok (.aload_n 3, 1) := by decide +kernel
theorem dL_law_519 : decode cL_law 519 = .ok (.iconst 0, 1) := by decide +kernel
theorem dL_law_520 : decode cL_law 520 = .ok (.laload, 1) := by decide +kernel
theorem dL_law_521 : decode cL_law 521 = .ok (.iload 6, 2) := by decide +kernel
theorem dL_law_523 : decode cL_law 523 = .ok (.i2l, 1) := by decide +kernel
theorem dL_law_524 : decode cL_law 524 = .ok (.lcmp, 1) := by decide +kernel
theorem dL_law_525 : decode cL_law 525 = .ok (.ifCond .eq 5, 3) := by decide +kernel
theorem dL_law_528 : decode cL_law 528 = .ok (.iconst 0, 1) := by decide +kernel
theorem dL_law_529 : decode cL_law 529 = .ok (.ireturn, 1) := by decide +kernel
theorem dL_law_530 : decode cL_law 530 = .ok (.goto 205, 3) := by decide +kernel
theorem dL_law_533 : decode cL_law 533 = .ok (.aload_n 1, 1) := by decide +kernel
theorem dL_law_534 : decode cL_law 534 = .ok (.aload_n 0, 1) := by decide +kernel
theorem dL_law_535 : decode cL_law 535 = .ok (.iload 4, 2) := by decide +kernel
theorem dL_law_537 : decode cL_law 537 = .ok (.iconst 1, 1) := by decide +kernel
theorem dL_law_538 : decode cL_law 538 = .ok (.iadd, 1) := by decide +kernel
theorem dL_law_539 : decode cL_law 539 = .ok (.iaload, 1) := by decide +kernel
theorem dL_law_540 : decode cL_law 540 = .ok (.aload_n 0, 1) := by decide +kernel
theorem dL_law_541 : decode cL_law 541 = .ok (.iload 4, 2) := by decide +kernel
theorem dL_law_543 : decode cL_law 543 = .ok (.iconst 2, 1) := by decide +kernel
theorem dL_law_544 : decode cL_law 544 = .ok (.iadd, 1) := by decide +kernel
theorem dL_law_545 : decode cL_law 545 = .ok (.iaload, 1) := by decide +kernel
theorem dL_law_546 : decode cL_law 546 = .ok (.aload_n 0, 1) := by decide +kernel
theorem dL_law_547 : decode cL_law 547 = .ok (.iload 4, 2) := by decide +kernel
theorem dL_law_549 : decode cL_law 549 = .ok (.iconst 3, 1) := by decide +kernel
theorem dL_law_550 : decode cL_law 550 = .ok (.iadd, 1) := by decide +kernel
theorem dL_law_551 : decode cL_law 551 = .ok (.iaload, 1) := by decide +kernel
theorem dL_law_552 : decode cL_law 552 = .ok (.ifCond .eq 7, 3) := by decide +kernel
theorem dL_law_555 : decode cL_law 555 = .ok (.iconst 1, 1) := by decide +kernel
theorem dL_law_556 : decode cL_law 556 = .ok (.goto 4, 3) := by decide +kernel
theorem dL_law_559 : decode cL_law 559 = .ok (.iconst 0, 1) := by decide +kernel
theorem dL_law_560 : decode cL_law 560 = .ok (.aload_n 3, 1) := by decide +kernel
theorem dL_law_561 : decode cL_law 561 = .ok (.invokestatic 94, 3) := by decide +kernel
theorem dL_law_564 : decode cL_law 564 = .ok (.istore 5, 2) := by decide +kernel
theorem dL_law_566 : decode cL_law 566 = .ok (.aload_n 2, 1) := by decide +kernel
theorem dL_law_567 : decode cL_law 567 = .ok (.aload_n 0, 1) := by decide +kernel
theorem dL_law_568 : decode cL_law 568 = .ok (.iload 4, 2) := by decide +kernel
theorem dL_law_570 : decode cL_law 570 = .ok (.iconst 1, 1) := by decide +kernel
theorem dL_law_571 : decode cL_law 571 = .ok (.iadd, 1) := by decide +kernel
theorem dL_law_572 : decode cL_law 572 = .ok (.iaload, 1) := by decide +kernel
theorem dL_law_573 : decode cL_law 573 = .ok (.aload_n 0, 1) := by decide +kernel
theorem dL_law_574 : decode cL_law 574 = .ok (.iload 4, 2) := by decide +kernel
theorem dL_law_576 : decode cL_law 576 = .ok (.iconst 2, 1) := by decide +kernel
theorem dL_law_577 : decode cL_law 577 = .ok (.iadd, 1) := by decide +kernel
theorem dL_law_578 : decode cL_law 578 = .ok (.iaload, 1) := by decide +kernel
theorem dL_law_579 : decode cL_law 579 = .ok (.aload_n 0, 1) := by decide +kernel
theorem dL_law_580 : decode cL_law 580 = .ok (.iload 4, 2) := by decide +kernel
theorem dL_law_582 : decode cL_law 582 = .ok (.iconst 3, 1) := by decide +kernel
theorem dL_law_583 : decode cL_law 583 = .ok (.iadd, 1) := by decide +kernel
theorem dL_law_584 : decode cL_law 584 = .ok (.iaload, 1) := by decide +kernel
theorem dL_law_585 : decode cL_law 585 = .ok (.ifCond .eq 7, 3) := by decide +kernel
theorem dL_law_588 : decode cL_law 588 = .ok (.iconst 1, 1) := by decide +kernel
theorem dL_law_589 : decode cL_law 589 = .ok (.goto 4, 3) := by decide +kernel
theorem dL_law_592 : decode cL_law 592 = .ok (.iconst 0, 1) := by decide +kernel
theorem dL_law_593 : decode cL_law 593 = .ok (.invokevirtual 97, 3) := by decide +kernel
theorem dL_law_596 : decode cL_law 596 = .ok (.istore 6, 2) := by decide +kernel
theorem dL_law_598 : decode cL_law 598 = .ok (.aload_n 2, 1) := by decide +kernel
theorem dL_law_599 : decode cL_law 599 = .ok (.invokevirtual 60, 3) := by decide +kernel
theorem dL_law_602 : decode cL_law 602 = .ok (.iload 5, 2) := by decide +kernel
theorem dL_law_604 : decode cL_law 604 = .ok (.if_icmp .eq 5, 3) := by decide +kernel
theorem dL_law_607 : decode cL_law 607 = .ok (.iconst 0, 1) := by decide +kernel
theorem dL_law_608 : decode cL_law 608 = .ok (.ireturn, 1) := by decide +kernel
theorem dL_law_609 : decode cL_law 609 = .ok (.iload 5, 2) := by decide +kernel
theorem dL_law_611 : decode cL_law 611 = .ok (.ifCond .ne 15, 3) := by decide +kernel
theorem dL_law_614 : decode cL_law 614 = .ok (.aload_n 3, 1) := by decide +kernel
theorem dL_law_615 : decode cL_law 615 = .ok (.iconst 0, 1) := by decide +kernel
theorem dL_law_616 : decode cL_law 616 = .ok (.laload, 1) := by decide +kernel
theorem dL_law_617 : decode cL_law 617 = .ok (.iload 6, 2) := by decide +kernel
theorem dL_law_619 : decode cL_law 619 = .ok (.i2l, 1) := by decide +kernel
theorem dL_law_620 : decode cL_law 620 = .ok (.lcmp, 1) := by decide +kernel
theorem dL_law_621 : decode cL_law 621 = .ok (.ifCond .eq 5, 3) := by decide +kernel
theorem dL_law_624 : decode cL_law 624 = .ok (.iconst 0, 1) := by decide +kernel
theorem dL_law_625 : decode cL_law 625 = .ok (.ireturn, 1) := by decide +kernel
theorem dL_law_626 : decode cL_law 626 = .ok (.goto 109, 3) := by decide +kernel
theorem dL_law_629 : decode cL_law 629 = .ok (.aload_n 1, 1) := by decide +kernel
theorem dL_law_630 : decode cL_law 630 = .ok (.aload_n 0, 1) := by decide +kernel
theorem dL_law_631 : decode cL_law 631 = .ok (.iload 4, 2) := by decide +kernel
theorem dL_law_633 : decode cL_law 633 = .ok (.iconst 1, 1) := by decide +kernel
theorem dL_law_634 : decode cL_law 634 = .ok (.iadd, 1) := by decide +kernel
theorem dL_law_635 : decode cL_law 635 = .ok (.iaload, 1) := by decide +kernel
theorem dL_law_636 : decode cL_law 636 = .ok (.aload_n 0, 1) := by decide +kernel
theorem dL_law_637 : decode cL_law 637 = .ok (.iload 4, 2) := by decide +kernel
theorem dL_law_639 : decode cL_law 639 = .ok (.iconst 2, 1) := by decide +kernel
theorem dL_law_640 : decode cL_law 640 = .ok (.iadd, 1) := by decide +kernel
theorem dL_law_641 : decode cL_law 641 = .ok (.iaload, 1) := by decide +kernel
theorem dL_law_642 : decode cL_law 642 = .ok (.aload_n 3, 1) := by decide +kernel
theorem dL_law_643 : decode cL_law 643 = .ok (.invokestatic 98, 3) := by decide +kernel
theorem dL_law_646 : decode cL_law 646 = .ok (.istore 5, 2) := by decide +kernel
theorem dL_law_648 : decode cL_law 648 = .ok (.aload_n 2, 1) := by decide +kernel
theorem dL_law_649 : decode cL_law 649 = .ok (.aload_n 0, 1) := by decide +kernel
theorem dL_law_650 : decode cL_law 650 = .ok (.iload 4, 2) := by decide +kernel
theorem dL_law_652 : decode cL_law 652 = .ok (.iconst 1, 1) := by decide +kernel
theorem dL_law_653 : decode cL_law 653 = .ok (.iadd, 1) := by decide +kernel
theorem dL_law_654 : decode cL_law 654 = .ok (.iaload, 1) := by decide +kernel
theorem dL_law_655 : decode cL_law 655 = .ok (.aload_n 0, 1) := by decide +kernel
theorem dL_law_656 : decode cL_law 656 = .ok (.iload 4, 2) := by decide +kernel
theorem dL_law_658 : decode cL_law 658 = .ok (.iconst 2, 1) := by decide +kernel
theorem dL_law_659 : decode cL_law 659 = .ok (.iadd, 1) := by decide +kernel
theorem dL_law_660 : decode cL_law 660 = .ok (.iaload, 1) := by decide +kernel
theorem dL_law_661 : decode cL_law 661 = .ok (.invokevirtual 100, 3) := by decide +kernel
theorem dL_law_664 : decode cL_law 664 = .ok (.istore 6, 2) := by decide +kernel
theorem dL_law_666 : decode cL_law 666 = .ok (.aload_n 2, 1) := by decide +kernel
theorem dL_law_667 : decode cL_law 667 = .ok (.invokevirtual 60, 3) := by decide +kernel
theorem dL_law_670 : decode cL_law 670 = .ok (.iload 5, 2) := by decide +kernel
theorem dL_law_672 : decode cL_law 672 = .ok (.if_icmp .eq 5, 3) := by decide +kernel
theorem dL_law_675 : decode cL_law 675 = .ok (.iconst 0, 1) := by decide +kernel
theorem dL_law_676 : decode cL_law 676 = .ok (.ireturn, 1) := by decide +kernel
theorem dL_law_677 : decode cL_law 677 = .ok (.iload 5, 2) := by decide +kernel
theorem dL_law_679 : decode cL_law 679 = .ok (.ifCond .ne 15, 3) := by decide +kernel
theorem dL_law_682 : decode cL_law 682 = .ok (.aload_n 3, 1) := by decide +kernel
theorem dL_law_683 : decode cL_law 683 = .ok (.iconst 0, 1) := by decide +kernel
theorem dL_law_684 : decode cL_law 684 = .ok (.laload, 1) := by decide +kernel
theorem dL_law_685 : decode cL_law 685 = .ok (.iload 6, 2) := by decide +kernel
theorem dL_law_687 : decode cL_law 687 = .ok (.i2l, 1) := by decide +kernel
theorem dL_law_688 : decode cL_law 688 = .ok (.lcmp, 1) := by decide +kernel
theorem dL_law_689 : decode cL_law 689 = .ok (.ifCond .eq 5, 3) := by decide +kernel
theorem dL_law_692 : decode cL_law 692 = .ok (.iconst 0, 1) := by decide +kernel
theorem dL_law_693 : decode cL_law 693 = .ok (.ireturn, 1) := by decide +kernel
theorem dL_law_694 : decode cL_law 694 = .ok (.goto 41, 3) := by decide +kernel
theorem dL_law_697 : decode cL_law 697 = .ok (.aload_n 1, 1) := by decide +kernel
theorem dL_law_698 : decode cL_law 698 = .ok (.aload_n 0, 1) := by decide +kernel
theorem dL_law_699 : decode cL_law 699 = .ok (.iload 4, 2) := by decide +kernel
theorem dL_law_701 : decode cL_law 701 = .ok (.iconst 1, 1) := by decide +kernel
theorem dL_law_702 : decode cL_law 702 = .ok (.iadd, 1) := by decide +kernel
theorem dL_law_703 : decode cL_law 703 = .ok (.iaload, 1) := by decide +kernel
theorem dL_law_704 : decode cL_law 704 = .ok (.invokevirtual 101, 3) := by decide +kernel
theorem dL_law_707 : decode cL_law 707 = .ok (.aload_n 2, 1) := by decide +kernel
theorem dL_law_708 : decode cL_law 708 = .ok (.aload_n 0, 1) := by decide +kernel
theorem dL_law_709 : decode cL_law 709 = .ok (.iload 4, 2) := by decide +kernel
theorem dL_law_711 : decode cL_law 711 = .ok (.iconst 1, 1) := by decide +kernel
theorem dL_law_712 : decode cL_law 712 = .ok (.iadd, 1) := by decide +kernel
theorem dL_law_713 : decode cL_law 713 = .ok (.iaload, 1) := by decide +kernel
theorem dL_law_714 : decode cL_law 714 = .ok (.invokevirtual 104, 3) := by decide +kernel
theorem dL_law_717 : decode cL_law 717 = .ok (.if_icmp .eq 18, 3) := by decide +kernel
theorem dL_law_720 : decode cL_law 720 = .ok (.iconst 0, 1) := by decide +kernel
theorem dL_law_721 : decode cL_law 721 = .ok (.ireturn, 1) := by decide +kernel
theorem dL_law_722 : decode cL_law 722 = .ok (.aload_n 1, 1) := by decide +kernel
theorem dL_law_723 : decode cL_law 723 = .ok (.invokevirtual 105, 3) := by decide +kernel
theorem dL_law_726 : decode cL_law 726 = .ok (.aload_n 2, 1) := by decide +kernel
theorem dL_law_727 : decode cL_law 727 = .ok (.invokevirtual 108, 3) := by decide +kernel
theorem dL_law_730 : decode cL_law 730 = .ok (.if_icmp .eq 5, 3) := by decide +kernel
theorem dL_law_733 : decode cL_law 733 = .ok (.iconst 0, 1) := by decide +kernel
theorem dL_law_734 : decode cL_law 734 = .ok (.ireturn, 1) := by decide +kernel
theorem dL_law_735 : decode cL_law 735 = .ok (.iinc 4 4, 3) := by decide +kernel
theorem dL_law_738 : decode cL_law 738 = .ok (.goto (-715), 3) := by decide +kernel
theorem dL_law_741 : decode cL_law 741 = .ok (.iconst 1, 1) := by decide +kernel
theorem dL_law_742 : decode cL_law 742 = .ok (.ireturn, 1) := by decide +kernel
