theorem dX5_freeFrame_18 : decode cX5_freeFrame 18 = .ok (.getfield 48, 3) := by decide +kernel
theorem dX5_freeFrame_21 : decode cX5_freeFrame 21 = .ok (.baload, 1) := by decide +kernel
theorem dX5_freeFrame_22 : decode cX5_freeFrame 22 = .ok (.ifCond .ne 15, 3) := by decide +kernel
theorem dX5_freeFrame_25 : decode cX5_freeFrame 25 = .ok (.aload_n 0, 1) := by decide +kernel
theorem dX5_freeFrame_26 : decode cX5_freeFrame 26 = .ok (.getfield 34, 3) := by decide +kernel
theorem dX5_freeFrame_29 : decode cX5_freeFrame 29 = .ok (.aload_n 0, 1) := by decide +kernel
theorem dX5_freeFrame_30 : decode cX5_freeFrame 30 = .ok (.getfield 48, 3) := by decide +kernel
theorem dX5_freeFrame_33 : decode cX5_freeFrame 33 = .ok (.baload, 1) := by decide +kernel
theorem dX5_freeFrame_34 : decode cX5_freeFrame 34 = .ok (.ifCond .eq 32, 3) := by decide +kernel
theorem dX5_freeFrame_37 : decode cX5_freeFrame 37 = .ok (.aload_n 0, 1) := by decide +kernel
theorem dX5_freeFrame_38 : decode cX5_freeFrame 38 = .ok (.getfield 41, 3) := by decide +kernel
theorem dX5_freeFrame_41 : decode cX5_freeFrame 41 = .ok (.aload_n 0, 1) := by decide +kernel
theorem dX5_freeFrame_42 : decode cX5_freeFrame 42 = .ok (.getfield 48, 3) := by decide +kernel
theorem dX5_freeFrame_45 : decode cX5_freeFrame 45 = .ok (.baload, 1) := by decide +kernel
theorem dX5_freeFrame_46 : decode cX5_freeFrame 46 = .ok (.ifCond .ne 13, 3) := by decide +kernel
theorem dX5_freeFrame_49 : decode cX5_freeFrame 49 = .ok (.aload_n 0, 1) := by decide +kernel
theorem dX5_freeFrame_50 : decode cX5_freeFrame 50 = .ok (.getfield 34, 3) := by decide +kernel
theorem dX5_freeFrame_53 : decode cX5_freeFrame 53 = .ok (.aload_n 0, 1) := by decide +kernel
theorem dX5_freeFrame_54 : decode cX5_freeFrame 54 = .ok (.getfield 48, 3) := by decide +kernel
theorem dX5_freeFrame_57 : decode cX5_freeFrame 57 = .ok (.iconst 0, 1) := by decide +kernel
theorem dX5_freeFrame_58 : decode cX5_freeFrame 58 = .ok (.bastore, 1) := by decide +kernel
theorem dX5_freeFrame_59 : decode cX5_freeFrame 59 = .ok (.aload_n 0, 1) := by decide +kernel
theorem dX5_freeFrame_60 : decode cX5_freeFrame 60 = .ok (.invokevirtual 51, 3) := by decide +kernel
theorem dX5_freeFrame_63 : decode cX5_freeFrame 63 = .ok (.goto (-63), 3) := by decide +kernel
theorem dX5_freeFrame_66 : decode cX5_freeFrame 66 = .ok (.aload_n 0, 1) := by decide +kernel
theorem dX5_freeFrame_67 : decode cX5_freeFrame 67 = .ok (.getfield 48, 3) := by decide +kernel
theorem dX5_freeFrame_70 : decode cX5_freeFrame 70 = .ok (.istore_n 1, 1) := by decide +kernel
theorem dX5_freeFrame_71 : decode cX5_freeFrame 71 = .ok (.aload_n 0, 1) := by decide +kernel
theorem dX5_freeFrame_72 : decode cX5_freeFrame 72 = .ok (.aload_n 0, 1) := by decide +kernel
theorem dX5_freeFrame_73 : decode cX5_freeFrame 73 = .ok (.getfield 31, 3) := by decide +kernel
theorem dX5_freeFrame_76 : decode cX5_freeFrame 76 = .ok (.iload_n 1, 1) := by decide +kernel
theorem dX5_freeFrame_77 : decode cX5_freeFrame 77 = .ok (.iaload, 1) := by decide +kernel
theorem dX5_freeFrame_78 : decode cX5_freeFrame 78 = .ok (.iconst (-1), 1) := by decide +kernel
theorem dX5_freeFrame_79 : decode cX5_freeFrame 79 = .ok (.if_icmp .eq 21, 3) := by decide +kernel
theorem dX5_freeFrame_82 : decode cX5_freeFrame 82 = .ok (.aload_n 0, 1) := by decide +kernel
theorem dX5_freeFrame_83 : decode cX5_freeFrame 83 = .ok (.getfield 38, 3) := by decide +kernel
theorem dX5_freeFrame_86 : decode cX5_freeFrame 86 = .ok (.iload_n 1, 1) := by decide +kernel
theorem dX5_freeFrame_87 : decode cX5_freeFrame 87 = .ok (.baload, 1) := by decide +kernel
theorem dX5_freeFrame_88 : decode cX5_freeFrame 88 = .ok (.ifCond .eq 12, 3) := by decide +kernel
theorem dX5_freeFrame_91 : decode cX5_freeFrame 91 = .ok (.aload_n 0, 1) := by decide +kernel
theorem dX5_freeFrame_92 : decode cX5_freeFrame 92 = .ok (.getfield 54, 3) := by decide +kernel
theorem dX5_freeFrame_95 : decode cX5_freeFrame 95 = .ok (.iconst 1, 1) := by decide +kernel
theorem dX5_freeFrame_96 : decode cX5_freeFrame 96 = .ok (.iadd, 1) := by decide +kernel
theorem dX5_freeFrame_97 : decode cX5_freeFrame 97 = .ok (.goto 7, 3) := by decide +kernel
theorem dX5_freeFrame_100 : decode cX5_freeFrame 100 = .ok (.aload_n 0, 1) := by decide +kernel
theorem dX5_freeFrame_101 : decode cX5_freeFrame 101 = .ok (.getfield 54, 3) := by decide +kernel
theorem dX5_freeFrame_104 : decode cX5_freeFrame 104 = .ok (.putfield 54, 3) := by decide +kernel
theorem dX5_freeFrame_107 : decode cX5_freeFrame 107 = .ok (.aload_n 0, 1) := by decide +kernel
theorem dX5_freeFrame_108 : decode cX5_freeFrame 108 = .ok (.invokevirtual 51, 3) := by decide +kernel
theorem dX5_freeFrame_111 : decode cX5_freeFrame 111 = .ok (.iload_n 1, 1) := by decide +kernel
theorem dX5_freeFrame_112 : decode cX5_freeFrame 112 = .ok (.ireturn, 1) := by decide +kernel
theorem dX5_touch_0 : decode cX5_touch 0 = .ok (.aload_n 0, 1) := by decide +kernel
theorem dX5_touch_1 : decode cX5_touch 1 = .ok (.iload_n 1, 1) := by decide +kernel
theorem dX5_touch_2 : decode cX5_touch 2 = .ok (.invokevirtual 57, 3) := by decide +kernel
theorem dX5_touch_5 : decode cX5_touch 5 = .ok (.istore_n 3, 1) := by decide +kernel
theorem dX5_touch_6 : decode cX5_touch 6 = .ok (.iload_n 3, 1) := by decide +kernel
theorem dX5_touch_7 : decode cX5_touch 7 = .ok (.ifCond .lt 13, 3) := by decide +kernel
theorem dX5_touch_10 : decode cX5_touch 10 = .ok (.aload_n 0, 1) := by decide +kernel
theorem dX5_touch_11 : decode cX5_touch 11 = .ok (.getfield 41, 3) := by decide +kernel
theorem dX5_touch_14 : decode cX5_touch 14 = .ok (.iload_n 3, 1) := by decide +kernel
theorem dX5_touch_15 : decode cX5_touch 15 = .ok (.baload, 1) := by decide +kernel
theorem dX5_touch_16 : decode cX5_touch 16 = .ok (.ifCond .eq 4, 3) := by decide +kernel
theorem dX5_touch_19 : decode cX5_touch 19 = .ok (.return_, 1) := by decide +kernel
theorem dX5_touch_20 : decode cX5_touch 20 = .ok (.iload_n 3, 1) := by decide +kernel
theorem dX5_touch_21 : decode cX5_touch 21 = .ok (.ifCond .lt 16, 3) := by decide +kernel
theorem dX5_touch_24 : decode cX5_touch 24 = .ok (.aload_n 0, 1) := by decide +kernel
theorem dX5_touch_25 : decode cX5_touch 25 = .ok (.dup, 1) := by decide +kernel
theorem dX5_touch_26 : decode cX5_touch 26 = .ok (.getfield 61, 3) := by decide +kernel
theorem dX5_touch_29 : decode cX5_touch 29 = .ok (.iconst 1, 1) := by decide +kernel
theorem dX5_touch_30 : decode cX5_touch 30 = .ok (.iadd, 1) := by decide +kernel
theorem dX5_touch_31 : decode cX5_touch 31 = .ok (.putfield 61, 3) := by decide +kernel
theorem dX5_touch_34 : decode cX5_touch 34 = .ok (.goto 43, 3) := by decide +kernel
theorem dX5_touch_37 : decode cX5_touch 37 = .ok (.aload_n 0, 1) := by decide +kernel
theorem dX5_touch_38 : decode cX5_touch 38 = .ok (.invokevirtual 64, 3) := by decide +kernel
theorem dX5_touch_41 : decode cX5_touch 41 = .ok (.istore_n 3, 1) := by decide +kernel
theorem dX5_touch_42 : decode cX5_touch 42 = .ok (.aload_n 0, 1) := by decide +kernel
theorem dX5_touch_43 : decode cX5_touch 43 = .ok (.getfield 31, 3) := by decide +kernel
theorem dX5_touch_46 : decode cX5_touch 46 = .ok (.iload_n 3, 1) := by decide +kernel
theorem dX5_touch_47 : decode cX5_touch 47 = .ok (.iload_n 1, 1) := by decide +kernel
theorem dX5_touch_48 : decode cX5_touch 48 = .ok (.iastore, 1) := by decide +kernel
theorem dX5_touch_49 : decode cX5_touch 49 = .ok (.aload_n 0, 1) := by decide +kernel
theorem dX5_touch_50 : decode cX5_touch 50 = .ok (.getfield 38, 3) := by decide +kernel
theorem dX5_touch_53 : decode cX5_touch 53 = .ok (.iload_n 3, 1) := by decide +kernel
theorem dX5_touch_54 : decode cX5_touch 54 = .ok (.iconst 0, 1) := by decide +kernel
theorem dX5_touch_55 : decode cX5_touch 55 = .ok (.bastore, 1) := by decide +kernel
theorem dX5_touch_56 : decode cX5_touch 56 = .ok (.aload_n 0, 1) := by decide +kernel
theorem dX5_touch_57 : decode cX5_touch 57 = .ok (.iload_n 2, 1) := by decide +kernel
theorem dX5_touch_58 : decode cX5_touch 58 = .ok (.ifCond .eq 10, 3) := by decide +kernel
theorem dX5_touch_61 : decode cX5_touch 61 = .ok (.aload_n 0, 1) := by decide +kernel
theorem dX5_touch_62 : decode cX5_touch 62 = .ok (.getfield 68, 3) := by decide +kernel
theorem dX5_touch_65 : decode cX5_touch 65 = .ok (.goto 9, 3) := by decide +kernel
theorem dX5_touch_68 : decode cX5_touch 68 = .ok (.aload_n 0, 1) := by decide +kernel
theorem dX5_touch_69 : decode cX5_touch 69 = .ok (.getfield 68, 3) := by decide +kernel
theorem dX5_touch_72 : decode cX5_touch 72 = .ok (.iconst 1, 1) := by decide +kernel
theorem dX5_touch_73 : decode cX5_touch 73 = .ok (.iadd, 1) := by decide +kernel
theorem dX5_touch_74 : decode cX5_touch 74 = .ok (.putfield 68, 3) := by decide +kernel
theorem dX5_touch_77 : decode cX5_touch 77 = .ok (.aload_n 0, 1) := by decide +kernel
theorem dX5_touch_78 : decode cX5_touch 78 = .ok (.getfield 34, 3) := by decide +kernel
theorem dX5_touch_81 : decode cX5_touch 81 = .ok (.iload_n 3, 1) := by decide +kernel
theorem dX5_touch_82 : decode cX5_touch 82 = .ok (.iconst 1, 1) := by decide +kernel
theorem dX5_touch_83 : decode cX5_touch 83 = .ok (.bastore, 1) := by decide +kernel
theorem dX5_touch_84 : decode cX5_touch 84 = .ok (.aload_n 0, 1) := by decide +kernel
theorem dX5_touch_85 : decode cX5_touch 85 = .ok (.getfield 41, 3) := by decide +kernel
theorem dX5_touch_88 : decode cX5_touch 88 = .ok (.iload_n 3, 1) := by decide +kernel
theorem dX5_touch_89 : decode cX5_touch 89 = .ok (.iconst 1, 1) := by decide +kernel
theorem dX5_touch_90 : decode cX5_touch 90 = .ok (.bastore, 1) := by decide +kernel
theorem dX5_touch_91 : decode cX5_touch 91 = .ok (.return_, 1) := by decide +kernel
theorem dX5_change_0 : decode cX5_change 0 = .ok (.aload_n 0, 1) := by decide +kernel
theorem dX5_change_1 : decode cX5_change 1 = .ok (.getfield 38, 3) := by decide +kernel
theorem dX5_change_4 : decode cX5_change 4 = .ok (.aload_n 0, 1) := by decide +kernel
theorem dX5_change_5 : decode cX5_change 5 = .ok (.iload_n 1, 1) := by decide +kernel
theorem dX5_change_6 : decode cX5_change 6 = .ok (.invokevirtual 57, 3) := by decide +kernel
theorem dX5_change_9 : decode cX5_change 9 = .ok (.iconst 1, 1) := by decide +kernel
theorem dX5_change_10 : decode cX5_change 10 = .ok (.bastore, 1) := by decide +kernel
theorem dX5_change_11 : decode cX5_change 11 = .ok (.return_, 1) := by decide +kernel
theorem dX5_release_0 : decode cX5_release 0 = .ok (.aload_n 0, 1) := by decide +kernel
theorem dX5_release_1 : decode cX5_release 1 = .ok (.iload_n 1, 1) := by decide +kernel
theorem dX5_release_2 : decode cX5_release 2 = .ok (.invokevirtual 57, 3) := by decide +kernel
theorem dX5_release_5 : decode cX5_release 5 = .ok (.istore_n 2, 1) := by decide +kernel
theorem dX5_release_6 : decode cX5_release 6 = .ok (.iload_n 2, 1) := by decide +kernel
theorem dX5_release_7 : decode cX5_release 7 = .ok (.ifCond .lt 31, 3) := by decide +kernel
theorem dX5_release_10 : decode cX5_release 10 = .ok (.aload_n 0, 1) := by decide +kernel
theorem dX5_release_11 : decode cX5_release 11 = .ok (.getfield 31, 3) := by decide +kernel
theorem dX5_release_14 : decode cX5_release 14 = .ok (.iload_n 2, 1) := by decide +kernel
theorem dX5_release_15 : decode cX5_release 15 = .ok (.iconst (-1), 1) := by decide +kernel
theorem dX5_release_16 : decode cX5_release 16 = .ok (.iastore, 1) := by decide +kernel
theorem dX5_release_17 : decode cX5_release 17 = .ok (.aload_n 0, 1) := by decide +kernel
theorem dX5_release_18 : decode cX5_release 18 = .ok (.getfield 34, 3) := by decide +kernel
theorem dX5_release_21 : decode cX5_release 21 = .ok (.iload_n 2, 1) := by decide +kernel
theorem dX5_release_22 : decode cX5_release 22 = .ok (.iconst 0, 1) := by decide +kernel
theorem dX5_release_23 : decode cX5_release 23 = .ok (.bastore, 1) := by decide +kernel
theorem dX5_release_24 : decode cX5_release 24 = .ok (.aload_n 0, 1) := by decide +kernel
theorem dX5_release_25 : decode cX5_release 25 = .ok (.getfield 38, 3) := by decide +kernel
theorem dX5_release_28 : decode cX5_release 28 = .ok (.iload_n 2, 1) := by decide +kernel
theorem dX5_release_29 : decode cX5_release 29 = .ok (.iconst 0, 1) := by decide +kernel
theorem dX5_release_30 : decode cX5_release 30 = .ok (.bastore, 1) := by decide +kernel
theorem dX5_release_31 : decode cX5_release 31 = .ok (.aload_n 0, 1) := by decide +kernel
theorem dX5_release_32 : decode cX5_release 32 = .ok (.getfield 41, 3) := by decide +kernel
theorem dX5_release_35 : decode cX5_release 35 = .ok (.iload_n 2, 1) := by decide +kernel
theorem dX5_release_36 : decode cX5_release 36 = .ok (.iconst 0, 1) := by decide +kernel
theorem dX5_release_37 : decode cX5_release 37 = .ok (.bastore, 1) := by decide +kernel
theorem dX5_release_38 : decode cX5_release 38 = .ok (.aload_n 0, 1) := by decide +kernel
theorem dX5_release_39 : decode cX5_release 39 = .ok (.getfield 7, 3) := by decide +kernel
theorem dX5_release_42 : decode cX5_release 42 = .ok (.iload_n 1, 1) := by decide +kernel
theorem dX5_release_43 : decode cX5_release 43 = .ok (.iconst 0, 1) := by decide +kernel
theorem dX5_release_44 : decode cX5_release 44 = .ok (.iastore, 1) := by decide +kernel
theorem dX5_release_45 : decode cX5_release 45 = .ok (.aload_n 0, 1) := by decide +kernel
theorem dX5_release_46 : decode cX5_release 46 = .ok (.getfield 13, 3) := by decide +kernel
theorem dX5_release_49 : decode cX5_release 49 = .ok (.iload_n 1, 1) := by decide +kernel
theorem dX5_release_50 : decode cX5_release 50 = .ok (.iconst 0, 1) := by decide +kernel
theorem dX5_release_51 : decode cX5_release 51 = .ok (.iastore, 1) := by decide +kernel
theorem dX5_release_52 : decode cX5_release 52 = .ok (.aload_n 0, 1) := by decide +kernel
theorem dX5_release_53 : decode cX5_release 53 = .ok (.getfield 22, 3) := by decide +kernel
theorem dX5_release_56 : decode cX5_release 56 = .ok (.iload_n 1, 1) := by decide +kernel
theorem dX5_release_57 : decode cX5_release 57 = .ok (.iconst (-1), 1) := by decide +kernel
theorem dX5_release_58 : decode cX5_release 58 = .ok (.iastore, 1) := by decide +kernel
theorem dX5_release_59 : decode cX5_release 59 = .ok (.return_, 1) := by decide +kernel
theorem dX5_find_0 : decode cX5_find 0 = .ok (.aload_n 0, 1) := by decide +kernel
theorem dX5_find_1 : decode cX5_find 1 = .ok (.getfield 71, 3) := by decide +kernel
theorem dX5_find_4 : decode cX5_find 4 = .ok (.istore_n 2, 1) := by decide +kernel
theorem dX5_find_5 : decode cX5_find 5 = .ok (.aload_n 0, 1) := by decide +kernel
theorem dX5_find_6 : decode cX5_find 6 = .ok (.iconst 0, 1) := by decide +kernel
theorem dX5_find_7 : decode cX5_find 7 = .ok (.putfield 74, 3) := by decide +kernel
theorem dX5_find_10 : decode cX5_find 10 = .ok (.aload_n 0, 1) := by decide +kernel
theorem dX5_find_11 : decode cX5_find 11 = .ok (.getfield 25, 3) := by decide +kernel
theorem dX5_find_14 : decode cX5_find 14 = .ok (.iconst 0, 1) := by decide +kernel
theorem dX5_find_15 : decode cX5_find 15 = .ok (.iload_n 2, 1) := by decide +kernel
theorem dX5_find_16 : decode cX5_find 16 = .ok (.iastore, 1) := by decide +kernel
theorem dX5_find_17 : decode cX5_find 17 = .ok (.aload_n 0, 1) := by decide +kernel
theorem dX5_find_18 : decode cX5_find 18 = .ok (.getfield 28, 3) := by decide +kernel
theorem dX5_find_21 : decode cX5_find 21 = .ok (.iconst 0, 1) := by decide +kernel
theorem dX5_find_22 : decode cX5_find 22 = .ok (.iconst 0, 1) := by decide +kernel
theorem dX5_find_23 : decode cX5_find 23 = .ok (.iastore, 1) := by decide +kernel
theorem dX5_find_24 : decode cX5_find 24 = .ok (.aload_n 0, 1) := by decide +kernel
theorem dX5_find_25 : decode cX5_find 25 = .ok (.getfield 7, 3) := by decide +kernel
theorem dX5_find_28 : decode cX5_find 28 = .ok (.iload_n 2, 1) := by decide +kernel
theorem dX5_find_29 : decode cX5_find 29 = .ok (.iaload, 1) := by decide +kernel
theorem dX5_find_30 : decode cX5_find 30 = .ok (.iconst 2, 1) := by decide +kernel
theorem dX5_find_31 : decode cX5_find 31 = .ok (.if_icmp .ne 91, 3) := by decide +kernel
theorem dX5_find_34 : decode cX5_find 34 = .ok (.iconst 0, 1) := by decide +kernel
theorem dX5_find_35 : decode cX5_find 35 = .ok (.istore_n 3, 1) := by decide +kernel
theorem dX5_find_36 : decode cX5_find 36 = .ok (.iconst 1, 1) := by decide +kernel
theorem dX5_find_37 : decode cX5_find 37 = .ok (.istore 4, 2) := by decide +kernel
theorem dX5_find_39 : decode cX5_find 39 = .ok (.iload 4, 2) := by decide +kernel
theorem dX5_find_41 : decode cX5_find 41 = .ok (.aload_n 0, 1) := by decide +kernel
theorem dX5_find_42 : decode cX5_find 42 = .ok (.getfield 13, 3) := by decide +kernel
theorem dX5_find_45 : decode cX5_find 45 = .ok (.iload_n 2, 1) := by decide +kernel
theorem dX5_find_46 : decode cX5_find 46 = .ok (.iaload, 1) := by decide +kernel
theorem dX5_find_47 : decode cX5_find 47 = .ok (.if_icmp .ge 31, 3) := by decide +kernel
theorem dX5_find_50 : decode cX5_find 50 = .ok (.aload_n 0, 1) := by decide +kernel
theorem dX5_find_51 : decode cX5_find 51 = .ok (.getfield 16, 3) := by decide +kernel
theorem dX5_find_54 : decode cX5_find 54 = .ok (.iconst 5, 1) := by decide +kernel
theorem dX5_find_55 : decode cX5_find 55 = .ok (.iload_n 2, 1) := by decide +kernel
theorem dX5_find_56 : decode cX5_find 56 = .ok (.imul, 1) := by decide +kernel
theorem dX5_find_57 : decode cX5_find 57 = .ok (.iload 4, 2) := by decide +kernel
theorem dX5_find_59 : decode cX5_find 59 = .ok (.iadd, 1) := by decide +kernel
theorem dX5_find_60 : decode cX5_find 60 = .ok (.iaload, 1) := by decide +kernel
theorem dX5_find_61 : decode cX5_find 61 = .ok (.iload_n 1, 1) := by decide +kernel
theorem dX5_find_62 : decode cX5_find 62 = .ok (.if_icmp .gt 8, 3) := by decide +kernel
theorem dX5_find_65 : decode cX5_find 65 = .ok (.iload 4, 2) := by decide +kernel
theorem dX5_find_67 : decode cX5_find 67 = .ok (.goto 4, 3) := by decide +kernel
theorem dX5_find_70 : decode cX5_find 70 = .ok (.iload_n 3, 1) := by decide +kernel
theorem dX5_find_71 : decode cX5_find 71 = .ok (.istore_n 3, 1) := by decide +kernel
theorem dX5_find_72 : decode cX5_find 72 = .ok (.iinc 4 1, 3) := by decide +kernel
theorem dX5_find_75 : decode cX5_find 75 = .ok (.goto (-36), 3) := by decide +kernel
theorem dX5_find_78 : decode cX5_find 78 = .ok (.aload_n 0, 1) := by decide +kernel
theorem dX5_find_79 : decode cX5_find 79 = .ok (.getfield 19, 3) := by decide +kernel
theorem dX5_find_82 : decode cX5_find 82 = .ok (.iconst 5, 1) := by decide +kernel
theorem dX5_find_83 : decode cX5_find 83 = .ok (.iload_n 2, 1) := by decide +kernel
theorem dX5_find_84 : decode cX5_find 84 = .ok (.imul, 1) := by decide +kernel
theorem dX5_find_85 : decode cX5_find 85 = .ok (.iload_n 3, 1) := by decide +kernel
theorem dX5_find_86 : decode cX5_find 86 = .ok (.iadd, 1) := by decide +kernel
theorem dX5_find_87 : decode cX5_find 87 = .ok (.iaload, 1) := by decide +kernel
theorem dX5_find_88 : decode cX5_find 88 = .ok (.istore_n 2, 1) := by decide +kernel
theorem dX5_find_89 : decode cX5_find 89 = .ok (.aload_n 0, 1) := by decide +kernel
theorem dX5_find_90 : decode cX5_find 90 = .ok (.dup, 1) := by decide +kernel
theorem dX5_find_91 : decode cX5_find 91 = .ok (.getfield 74, 3) := by decide +kernel
theorem dX5_find_94 : decode cX5_find 94 = .ok (.iconst 1, 1) := by decide +kernel
theorem dX5_find_95 : decode cX5_find 95 = .ok (.iadd, 1) := by decide +kernel
theorem dX5_find_96 : decode cX5_find 96 = .ok (.putfield 74, 3) := by decide +kernel
theorem dX5_find_99 : decode cX5_find 99 = .ok (.aload_n 0, 1) := by decide +kernel
theorem dX5_find_100 : decode cX5_find 100 = .ok (.getfield 25, 3) := by decide +kernel
theorem dX5_find_103 : decode cX5_find 103 = .ok (.aload_n 0, 1) := by decide +kernel
theorem dX5_find_104 : decode cX5_find 104 = .ok (.getfield 74, 3) := by decide +kernel
theorem dX5_find_107 : decode cX5_find 107 = .ok (.iload_n 2, 1) := by decide +kernel
theorem dX5_find_108 : decode cX5_find 108 = .ok (.iastore, 1) := by decide +kernel
theorem dX5_find_109 : decode cX5_find 109 = .ok (.aload_n 0, 1) := by decide +kernel
theorem dX5_find_110 : decode cX5_find 110 = .ok (.getfield 28, 3) := by decide +kernel
theorem dX5_find_113 : decode cX5_find 113 = .ok (.aload_n 0, 1) := by decide +kernel
theorem dX5_find_114 : decode cX5_find 114 = .ok (.getfield 74, 3) := by decide +kernel
theorem dX5_find_117 : decode cX5_find 117 = .ok (.iload_n 3, 1) := by decide +kernel
theorem dX5_find_118 : decode cX5_find 118 = .ok (.iastore, 1) := by decide +kernel
theorem dX5_find_119 : decode cX5_find 119 = .ok (.goto (-95), 3) := by decide +kernel
theorem dX5_find_122 : decode cX5_find 122 = .ok (.return_, 1) := by decide +kernel
theorem dX5_touchWay_0 : decode cX5_touchWay 0 = .ok (.iconst 0, 1) := by decide +kernel
theorem dX5_touchWay_1 : decode cX5_touchWay 1 = .ok (.istore_n 1, 1) := by decide +kernel
theorem dX5_touchWay_2 : decode cX5_touchWay 2 = .ok (.iload_n 1, 1) := by decide +kernel
theorem dX5_touchWay_3 : decode cX5_touchWay 3 = .ok (.aload_n 0, 1) := by decide +kernel
theorem dX5_touchWay_4 : decode cX5_touchWay 4 = .ok (.getfield 74, 3) := by decide +kernel
theorem dX5_touchWay_7 : decode cX5_touchWay 7 = .ok (.if_icmp .gt 20, 3) := by decide +kernel
theorem dX5_touchWay_10 : decode cX5_touchWay 10 = .ok (.aload_n 0, 1) := by decide +kernel
theorem dX5_touchWay_11 : decode cX5_touchWay 11 = .ok (.aload_n 0, 1) := by decide +kernel
theorem dX5_touchWay_12 : decode cX5_touchWay 12 = .ok (.getfield 25, 3) := by decide +kernel
theorem dX5_touchWay_15 : decode cX5_touchWay 15 = .ok (.iload_n 1, 1) := by decide +kernel
theorem dX5_touchWay_16 : decode cX5_touchWay 16 = .ok (.iaload, 1) := by decide +kernel
theorem dX5_touchWay_17 : decode cX5_touchWay 17 = .ok (.iconst 0, 1) := by decide +kernel
theorem dX5_touchWay_18 : decode cX5_touchWay 18 = .ok (.invokevirtual 77, 3) := by decide +kernel
theorem dX5_touchWay_21 : decode cX5_touchWay 21 = .ok (.iinc 1 1, 3) := by decide +kernel
theorem dX5_touchWay_24 : decode cX5_touchWay 24 = .ok (.goto (-22), 3) := by decide +kernel
theorem dX5_touchWay_27 : decode cX5_touchWay 27 = .ok (.return_, 1) := by decide +kernel
theorem dX5_placeOf_0 : decode cX5_placeOf 0 = .ok (.aload_n 0, 1) := by decide +kernel
theorem dX5_placeOf_1 : decode cX5_placeOf 1 = .ok (.getfield 25, 3) := by decide +kernel
theorem dX5_placeOf_4 : decode cX5_placeOf 4 = .ok (.aload_n 0, 1) := by decide +kernel
theorem dX5_placeOf_5 : decode cX5_placeOf 5 = .ok (.getfield 74, 3) := by decide +kernel
theorem dX5_placeOf_8 : decode cX5_placeOf 8 = .ok (.iaload, 1) := by decide +kernel
theorem dX5_placeOf_9 : decode cX5_placeOf 9 = .ok (.istore_n 2, 1) := by decide +kernel
theorem dX5_placeOf_10 : decode cX5_placeOf 10 = .ok (.iconst 0, 1) := by decide +kernel
theorem dX5_placeOf_11 : decode cX5_placeOf 11 = .ok (.istore_n 3, 1) := by decide +kernel
theorem dX5_placeOf_12 : decode cX5_placeOf 12 = .ok (.iload_n 3, 1) := by decide +kernel
theorem dX5_placeOf_13 : decode cX5_placeOf 13 = .ok (.aload_n 0, 1) := by decide +kernel
theorem dX5_placeOf_14 : decode cX5_placeOf 14 = .ok (.getfield 13, 3) := by decide +kernel
theorem dX5_placeOf_17 : decode cX5_placeOf 17 = .ok (.iload_n 2, 1) := by decide +kernel
theorem dX5_placeOf_18 : decode cX5_placeOf 18 = .ok (.iaload, 1) := by decide +kernel
theorem dX5_placeOf_19 : decode cX5_placeOf 19 = .ok (.if_icmp .ge 23, 3) := by decide +kernel
theorem dX5_placeOf_22 : decode cX5_placeOf 22 = .ok (.aload_n 0, 1) := by decide +kernel
theorem dX5_placeOf_23 : decode cX5_placeOf 23 = .ok (.getfield 16, 3) := by decide +kernel
theorem dX5_placeOf_26 : decode cX5_placeOf 26 = .ok (.iconst 5, 1) := by decide +kernel
theorem dX5_placeOf_27 : decode cX5_placeOf 27 = .ok (.iload_n 2, 1) := by decide +kernel
theorem dX5_placeOf_28 : decode cX5_placeOf 28 = .ok (.imul, 1) := by decide +kernel
theorem dX5_placeOf_29 : decode cX5_placeOf 29 = .ok (.iload_n 3, 1) := by decide +kernel
theorem dX5_placeOf_30 : decode cX5_placeOf 30 = .ok (.iadd, 1) := by decide +kernel
theorem dX5_placeOf_31 : decode cX5_placeOf 31 = .ok (.iaload, 1) := by decide +kernel
theorem dX5_placeOf_32 : decode cX5_placeOf 32 = .ok (.iload_n 1, 1) := by decide +kernel
theorem dX5_placeOf_33 : decode cX5_placeOf 33 = .ok (.if_icmp .ge 9, 3) := by decide +kernel
theorem dX5_placeOf_36 : decode cX5_placeOf 36 = .ok (.iinc 3 1, 3) := by decide +kernel
theorem dX5_placeOf_39 : decode cX5_placeOf 39 = .ok (.goto (-27), 3) := by decide +kernel
theorem dX5_placeOf_42 : decode cX5_placeOf 42 = .ok (.iload_n 3, 1) := by decide +kernel
theorem dX5_placeOf_43 : decode cX5_placeOf 43 = .ok (.ireturn, 1) := by decide +kernel
theorem dX5_isAt_0 : decode cX5_isAt 0 = .ok (.aload_n 0, 1) := by decide +kernel
theorem dX5_isAt_1 : decode cX5_isAt 1 = .ok (.getfield 25, 3) := by decide +kernel
theorem dX5_isAt_4 : decode cX5_isAt 4 = .ok (.aload_n 0, 1) := by decide +kernel
theorem dX5_isAt_5 : decode cX5_isAt 5 = .ok (.getfield 74, 3) := by decide +kernel
theorem dX5_isAt_8 : decode cX5_isAt 8 = .ok (.iaload, 1) := by decide +kernel
theorem dX5_isAt_9 : decode cX5_isAt 9 = .ok (.istore_n 3, 1) := by decide +kernel
theorem dX5_isAt_10 : decode cX5_isAt 10 = .ok (.iload_n 1, 1) := by decide +kernel
theorem dX5_isAt_11 : decode cX5_isAt 11 = .ok (.aload_n 0, 1) := by decide +kernel
theorem dX5_isAt_12 : decode cX5_isAt 12 = .ok (.getfield 13, 3) := by decide +kernel
theorem dX5_isAt_15 : decode cX5_isAt 15 = .ok (.iload_n 3, 1) := by decide +kernel
theorem dX5_isAt_16 : decode cX5_isAt 16 = .ok (.iaload, 1) := by decide +kernel
theorem dX5_isAt_17 : decode cX5_isAt 17 = .ok (.if_icmp .ge 21, 3) := by decide +kernel
theorem dX5_isAt_20 : decode cX5_isAt 20 = .ok (.aload_n 0, 1) := by decide +kernel
theorem dX5_isAt_21 : decode cX5_isAt 21 = .ok (.getfield 16, 3) := by decide +kernel
theorem dX5_isAt_24 : decode cX5_isAt 24 = .ok (.iconst 5, 1) := by decide +kernel
theorem dX5_isAt_25 : decode cX5_isAt 25 = .ok (.iload_n 3, 1) := by decide +kernel
theorem dX5_isAt_26 : decode cX5_isAt 26 = .ok (.imul, 1) := by decide +kernel
theorem dX5_isAt_27 : decode cX5_isAt 27 = .ok (.iload_n 1, 1) := by decide +kernel
theorem dX5_isAt_28 : decode cX5_isAt 28 = .ok (.iadd, 1) := by decide +kernel
theorem dX5_isAt_29 : decode cX5_isAt 29 = .ok (.iaload, 1) := by decide +kernel
theorem dX5_isAt_30 : decode cX5_isAt 30 = .ok (.iload_n 2, 1) := by decide +kernel
theorem dX5_isAt_31 : decode cX5_isAt 31 = .ok (.if_icmp .ne 7, 3) := by decide +kernel
theorem dX5_isAt_34 : decode cX5_isAt 34 = .ok (.iconst 1, 1) := by decide +kernel
theorem dX5_isAt_35 : decode cX5_isAt 35 = .ok (.goto 4, 3) := by decide +kernel
theorem dX5_isAt_38 : decode cX5_isAt 38 = .ok (.iconst 0, 1) := by decide +kernel
theorem dX5_isAt_39 : decode cX5_isAt 39 = .ok (.ireturn, 1) := by decide +kernel
theorem dX5_leastFree_0 : decode cX5_leastFree 0 = .ok (.iconst 0, 1) := by decide +kernel
theorem dX5_leastFree_1 : decode cX5_leastFree 1 = .ok (.istore_n 1, 1) := by decide +kernel
theorem dX5_leastFree_2 : decode cX5_leastFree 2 = .ok (.iload_n 1, 1) := by decide +kernel
theorem dX5_leastFree_3 : decode cX5_leastFree 3 = .ok (.bipush 40, 2) := by decide +kernel
theorem dX5_leastFree_5 : decode cX5_leastFree 5 = .ok (.if_icmp .ge 18, 3) := by decide +kernel
theorem dX5_leastFree_8 : decode cX5_leastFree 8 = .ok (.aload_n 0, 1) := by decide +kernel
theorem dX5_leastFree_9 : decode cX5_leastFree 9 = .ok (.getfield 7, 3) := by decide +kernel
theorem dX5_leastFree_12 : decode cX5_leastFree 12 = .ok (.iload_n 1, 1) := by decide +kernel
theorem dX5_leastFree_13 : decode cX5_leastFree 13 = .ok (.iaload, 1) := by decide +kernel
theorem dX5_leastFree_14 : decode cX5_leastFree 14 = .ok (.ifCond .eq 9, 3) := by decide +kernel
theorem dX5_leastFree_17 : decode cX5_leastFree 17 = .ok (.iinc 1 1, 3) := by decide +kernel
theorem dX5_leastFree_20 : decode cX5_leastFree 20 = .ok (.goto (-18), 3) := by decide +kernel
theorem dX5_leastFree_23 : decode cX5_leastFree 23 = .ok (.iload_n 1, 1) := by decide +kernel
theorem dX5_leastFree_24 : decode cX5_leastFree 24 = .ok (.ireturn, 1) := by decide +kernel
theorem dX5_pagesInUse_0 : decode cX5_pagesInUse 0 = .ok (.iconst 0, 1) := by decide +kernel
theorem dX5_pagesInUse_1 : decode cX5_pagesInUse 1 = .ok (.istore_n 1, 1) := by decide +kernel
theorem dX5_pagesInUse_2 : decode cX5_pagesInUse 2 = .ok (.iconst 0, 1) := by decide +kernel
theorem dX5_pagesInUse_3 : decode cX5_pagesInUse 3 = .ok (.istore_n 2, 1) := by decide +kernel
theorem dX5_pagesInUse_4 : decode cX5_pagesInUse 4 = .ok (.iload_n 2, 1) := by decide +kernel
theorem dX5_pagesInUse_5 : decode cX5_pagesInUse 5 = .ok (.bipush 40, 2) := by decide +kernel
theorem dX5_pagesInUse_7 : decode cX5_pagesInUse 7 = .ok (.if_icmp .ge 26, 3) := by decide +kernel
theorem dX5_pagesInUse_10 : decode cX5_pagesInUse 10 = .ok (.aload_n 0, 1) := by decide +kernel
theorem dX5_pagesInUse_11 : decode cX5_pagesInUse 11 = .ok (.getfield 7, 3) := by decide +kernel
theorem dX5_pagesInUse_14 : decode cX5_pagesInUse 14 = .ok (.iload_n 2, 1) := by decide +kernel
theorem dX5_pagesInUse_15 : decode cX5_pagesInUse 15 = .ok (.iaload, 1) := by decide +kernel
theorem dX5_pagesInUse_16 : decode cX5_pagesInUse 16 = .ok (.ifCond .eq 9, 3) := by decide +kernel
theorem dX5_pagesInUse_19 : decode cX5_pagesInUse 19 = .ok (.iload_n 1, 1) := by decide +kernel
theorem dX5_pagesInUse_20 : decode cX5_pagesInUse 20 = .ok (.iconst 1, 1) := by decide +kernel
theorem dX5_pagesInUse_21 : decode cX5_pagesInUse 21 = .ok (.iadd, 1) := by decide +kernel
theorem dX5_pagesInUse_22 : decode cX5_pagesInUse 22 = .ok (.goto 4, 3) := by decide +kernel
theorem dX5_pagesInUse_25 : decode cX5_pagesInUse 25 = .ok (.iload_n 1, 1) := by decide +kernel
theorem dX5_pagesInUse_26 : decode cX5_pagesInUse 26 = .ok (.istore_n 1, 1) := by decide +kernel
theorem dX5_pagesInUse_27 : decode cX5_pagesInUse 27 = .ok (.iinc 2 1, 3) := by decide +kernel
theorem dX5_pagesInUse_30 : decode cX5_pagesInUse 30 = .ok (.goto (-26), 3) := by decide +kernel
theorem dX5_pagesInUse_33 : decode cX5_pagesInUse 33 = .ok (.iload_n 1, 1) := by decide +kernel
theorem dX5_pagesInUse_34 : decode cX5_pagesInUse 34 = .ok (.ireturn, 1) := by decide +kernel
theorem dX5_insert_0 : decode cX5_insert 0 = .ok (.aload_n 0, 1) := by decide +kernel
theorem dX5_insert_1 : decode cX5_insert 1 = .ok (.getfield 13, 3) := by decide +kernel
theorem dX5_insert_4 : decode cX5_insert 4 = .ok (.iload_n 1, 1) := by decide +kernel
theorem dX5_insert_5 : decode cX5_insert 5 = .ok (.iaload, 1) := by decide +kernel
theorem dX5_insert_6 : decode cX5_insert 6 = .ok (.istore 5, 2) := by decide +kernel
theorem dX5_insert_8 : decode cX5_insert 8 = .ok (.iload 5, 2) := by decide +kernel
theorem dX5_insert_10 : decode cX5_insert 10 = .ok (.iload_n 2, 1) := by decide +kernel
theorem dX5_insert_11 : decode cX5_insert 11 = .ok (.if_icmp .le 57, 3) := by decide +kernel
theorem dX5_insert_14 : decode cX5_insert 14 = .ok (.aload_n 0, 1) := by decide +kernel
theorem dX5_insert_15 : decode cX5_insert 15 = .ok (.getfield 16, 3) := by decide +kernel
theorem dX5_insert_18 : decode cX5_insert 18 = .ok (.iconst 5, 1) := by decide +kernel
theorem dX5_insert_19 : decode cX5_insert 19 = .ok (.iload_n 1, 1) := by decide +kernel
theorem dX5_insert_20 : decode cX5_insert 20 = .ok (.imul, 1) := by decide +kernel
theorem dX5_insert_21 : decode cX5_insert 21 = .ok (.iload 5, 2) := by decide +kernel
theorem dX5_insert_23 : decode cX5_insert 23 = .ok (.iadd, 1) := by decide +kernel
theorem dX5_insert_24 : decode cX5_insert 24 = .ok (.aload_n 0, 1) := by decide +kernel
theorem dX5_insert_25 : decode cX5_insert 25 = .ok (.getfield 16, 3) := by decide +kernel
theorem dX5_insert_28 : decode cX5_insert 28 = .ok (.iconst 5, 1) := by decide +kernel
theorem dX5_insert_29 : decode cX5_insert 29 = .ok (.iload_n 1, 1) := by decide +kernel
theorem dX5_insert_30 : decode cX5_insert 30 = .ok (.imul, 1) := by decide +kernel
theorem dX5_insert_31 : decode cX5_insert 31 = .ok (.iload 5, 2) := by decide +kernel
theorem dX5_insert_33 : decode cX5_insert 33 = .ok (.iadd, 1) := by decide +kernel
theorem dX5_insert_34 : decode cX5_insert 34 = .ok (.iconst 1, 1) := by decide +kernel
theorem dX5_insert_35 : decode cX5_insert 35 = .ok (.isub, 1) := by decide +kernel
theorem dX5_insert_36 : decode cX5_insert 36 = .ok (.iaload, 1) := by decide +kernel
theorem dX5_insert_37 : decode cX5_insert 37 = .ok (.iastore, 1) := by decide +kernel
theorem dX5_insert_38 : decode cX5_insert 38 = .ok (.aload_n 0, 1) := by decide +kernel
theorem dX5_insert_39 : decode cX5_insert 39 = .ok (.getfield 19, 3) := by decide +kernel
theorem dX5_insert_42 : decode cX5_insert 42 = .ok (.iconst 5, 1) := by decide +kernel
theorem dX5_insert_43 : decode cX5_insert 43 = .ok (.iload_n 1, 1) := by decide +kernel
theorem dX5_insert_44 : decode cX5_insert 44 = .ok (.imul, 1) := by decide +kernel
theorem dX5_insert_45 : decode cX5_insert 45 = .ok (.iload 5, 2) := by decide +kernel
theorem dX5_insert_47 : decode cX5_insert 47 = .ok (.iadd, 1) := by decide +kernel
theorem dX5_insert_48 : decode cX5_insert 48 = .ok (.aload_n 0, 1) := by decide +kernel
theorem dX5_insert_49 : decode cX5_insert 49 = .ok (.getfield 19, 3) := by decide +kernel
theorem dX5_insert_52 : decode cX5_insert 52 = .ok (.iconst 5, 1) := by decide +kernel
theorem dX5_insert_53 : decode cX5_insert 53 = .ok (.iload_n 1, 1) := by decide +kernel
theorem dX5_insert_54 : decode cX5_insert 54 = .ok (.imul, 1) := by decide +kernel
theorem dX5_insert_55 : decode cX5_insert 55 = .ok (.iload 5, 2) := by decide +kernel
theorem dX5_insert_57 : decode cX5_insert 57 = .ok (.iadd, 1) := by decide +kernel
theorem dX5_insert_58 : decode cX5_insert 58 = .ok (.iconst 1, 1) := by decide +kernel
theorem dX5_insert_59 : decode cX5_insert 59 = .ok (.isub, 1) := by decide +kernel
theorem dX5_insert_60 : decode cX5_insert 60 = .ok (.iaload, 1) := by decide +kernel
theorem dX5_insert_61 : decode cX5_insert 61 = .ok (.iastore, 1) := by decide +kernel
theorem dX5_insert_62 : decode cX5_insert 62 = .ok (.iinc 5 (-1), 3) := by decide +kernel
theorem dX5_insert_65 : decode cX5_insert 65 = .ok (.goto (-57), 3) := by decide +kernel
theorem dX5_insert_68 : decode cX5_insert 68 = .ok (.aload_n 0, 1) := by decide +kernel
theorem dX5_insert_69 : decode cX5_insert 69 = .ok (.getfield 16, 3) := by decide +kernel
theorem dX5_insert_72 : decode cX5_insert 72 = .ok (.iconst 5, 1) := by decide +kernel
theorem dX5_insert_73 : decode cX5_insert 73 = .ok (.iload_n 1, 1) := by decide +kernel
theorem dX5_insert_74 : decode cX5_insert 74 = .ok (.imul, 1) := by decide +kernel
theorem dX5_insert_75 : decode cX5_insert 75 = .ok (.iload_n 2, 1) := by decide +kernel
theorem dX5_insert_76 : decode cX5_insert 76 = .ok (.iadd, 1) := by decide +kernel
theorem dX5_insert_77 : decode cX5_insert 77 = .ok (.iload_n 3, 1) := by decide +kernel
theorem dX5_insert_78 : decode cX5_insert 78 = .ok (.iastore, 1) := by decide +kernel
theorem dX5_insert_79 : decode cX5_insert 79 = .ok (.aload_n 0, 1) := by decide +kernel
theorem dX5_insert_80 : decode cX5_insert 80 = .ok (.getfield 19, 3) := by decide +kernel
theorem dX5_insert_83 : decode cX5_insert 83 = .ok (.iconst 5, 1) := by decide +kernel
theorem dX5_insert_84 : decode cX5_insert 84 = .ok (.iload_n 1, 1) := by decide +kernel
theorem dX5_insert_85 : decode cX5_insert 85 = .ok (.imul, 1) := by decide +kernel
theorem dX5_insert_86 : decode cX5_insert 86 = .ok (.iload_n 2, 1) := by decide +kernel
theorem dX5_insert_87 : decode cX5_insert 87 = .ok (.iadd, 1) := by decide +kernel
theorem dX5_insert_88 : decode cX5_insert 88 = .ok (.iload 4, 2) := by decide +kernel
theorem dX5_insert_90 : decode cX5_insert 90 = .ok (.iastore, 1) := by decide +kernel
theorem dX5_insert_91 : decode cX5_insert 91 = .ok (.aload_n 0, 1) := by decide +kernel
theorem dX5_insert_92 : decode cX5_insert 92 = .ok (.getfield 13, 3) := by decide +kernel
theorem dX5_insert_95 : decode cX5_insert 95 = .ok (.iload_n 1, 1) := by decide +kernel
theorem dX5_insert_96 : decode cX5_insert 96 = .ok (.dup2, 1) := by decide +kernel
theorem dX5_insert_97 : decode cX5_insert 97 = .ok (.iaload, 1) := by decide +kernel
theorem dX5_insert_98 : decode cX5_insert 98 = .ok (.iconst 1, 1) := by decide +kernel
theorem dX5_insert_99 : decode cX5_insert 99 = .ok (.iadd, 1) := by decide +kernel
theorem dX5_insert_100 : decode cX5_insert 100 = .ok (.iastore, 1) := by decide +kernel
theorem dX5_insert_101 : decode cX5_insert 101 = .ok (.return_, 1) := by decide +kernel
theorem dX5_removeAt_0 : decode cX5_removeAt 0 = .ok (.aload_n 0, 1) := by decide +kernel
theorem dX5_removeAt_1 : decode cX5_removeAt 1 = .ok (.getfield 13, 3) := by decide +kernel
theorem dX5_removeAt_4 : decode cX5_removeAt 4 = .ok (.iload_n 1, 1) := by decide +kernel
theorem dX5_removeAt_5 : decode cX5_removeAt 5 = .ok (.dup2, 1) := by decide +kernel
theorem dX5_removeAt_6 : decode cX5_removeAt 6 = .ok (.iaload, 1) := by decide +kernel
theorem dX5_removeAt_7 : decode cX5_removeAt 7 = .ok (.iconst 1, 1) := by decide +kernel
theorem dX5_removeAt_8 : decode cX5_removeAt 8 = .ok (.isub, 1) := by decide +kernel
theorem dX5_removeAt_9 : decode cX5_removeAt 9 = .ok (.iastore, 1) := by decide +kernel
theorem dX5_removeAt_10 : decode cX5_removeAt 10 = .ok (.iload_n 2, 1) := by decide +kernel
theorem dX5_removeAt_11 : decode cX5_removeAt 11 = .ok (.istore_n 3, 1) := by decide +kernel
theorem dX5_removeAt_12 : decode cX5_removeAt 12 = .ok (.iload_n 3, 1) := by decide +kernel
theorem dX5_removeAt_13 : decode cX5_removeAt 13 = .ok (.aload_n 0, 1) := by decide +kernel
theorem dX5_removeAt_14 : decode cX5_removeAt 14 = .ok (.getfield 13, 3) := by decide +kernel
theorem dX5_removeAt_17 : decode cX5_removeAt 17 = .ok (.iload_n 1, 1) := by decide +kernel
theorem dX5_removeAt_18 : decode cX5_removeAt 18 = .ok (.iaload, 1) := by decide +kernel
theorem dX5_removeAt_19 : decode cX5_removeAt 19 = .ok (.if_icmp .ge 53, 3) := by decide +kernel
theorem dX5_removeAt_22 : decode cX5_removeAt 22 = .ok (.aload_n 0, 1) := by decide +kernel
theorem dX5_removeAt_23 : decode cX5_removeAt 23 = .ok (.getfield 16, 3) := by decide +kernel
theorem dX5_removeAt_26 : decode cX5_removeAt 26 = .ok (.iconst 5, 1) := by decide +kernel
theorem dX5_removeAt_27 : decode cX5_removeAt 27 = .ok (.iload_n 1, 1) := by decide +kernel
theorem dX5_removeAt_28 : decode cX5_removeAt 28 = .ok (.imul, 1) := by decide +kernel
theorem dX5_removeAt_29 : decode cX5_removeAt 29 = .ok (.iload_n 3, 1) := by decide +kernel
theorem dX5_removeAt_30 : decode cX5_removeAt 30 = .ok (.iadd, 1) := by decide +kernel
theorem dX5_removeAt_31 : decode cX5_removeAt 31 = .ok (.aload_n 0, 1) := by decide +kernel
theorem dX5_removeAt_32 : decode cX5_removeAt 32 = .ok (.getfield 16, 3) := by decide +kernel
theorem dX5_removeAt_35 : decode cX5_removeAt 35 = .ok (.iconst 5, 1) := by decide +kernel
theorem dX5_removeAt_36 : decode cX5_removeAt 36 = .ok (.iload_n 1, 1) := by decide +kernel
theorem dX5_removeAt_37 : decode cX5_removeAt 37 = .ok (.imul, 1) := by decide +kernel
theorem dX5_removeAt_38 : decode cX5_removeAt 38 = .ok (.iload_n 3, 1) := by decide +kernel
theorem dX5_removeAt_39 : decode cX5_removeAt 39 = .ok (.iadd, 1) := by decide +kernel
theorem dX5_removeAt_40 : decode cX5_removeAt 40 = .ok (.iconst 1, 1) := by decide +kernel
theorem dX5_removeAt_41 : decode cX5_removeAt 41 = .ok (.iadd, 1) := by decide +kernel
theorem dX5_removeAt_42 : decode cX5_removeAt 42 = .ok (.iaload, 1) := by decide +kernel
theorem dX5_removeAt_43 : decode cX5_removeAt 43 = .ok (.iastore, 1) := by decide +kernel
theorem dX5_removeAt_44 : decode cX5_removeAt 44 = .ok (.aload_n 0, 1) := by decide +kernel
theorem dX5_removeAt_45 : decode cX5_removeAt 45 = .ok (.getfield 19, 3) := by decide +kernel
theorem dX5_removeAt_48 : decode cX5_removeAt 48 = .ok (.iconst 5, 1) := by decide +kernel
theorem dX5_removeAt_49 : decode cX5_removeAt 49 = .ok (.iload_n 1, 1) := by decide +kernel
theorem dX5_removeAt_50 : decode cX5_removeAt 50 = .ok (.imul, 1) := by decide +kernel
theorem dX5_removeAt_51 : decode cX5_removeAt 51 = .ok (.iload_n 3, 1) := by decide +kernel
theorem dX5_removeAt_52 : decode cX5_removeAt 52 = .ok (.iadd, 1) := by decide +kernel
theorem dX5_removeAt_53 : decode cX5_removeAt 53 = .ok (.aload_n 0, 1) := by decide +kernel
theorem dX5_removeAt_54 : decode cX5_removeAt 54 = .ok (.getfield 19, 3) := by decide +kernel
theorem dX5_removeAt_57 : decode cX5_removeAt 57 = .ok (.iconst 5, 1) := by decide +kernel
theorem dX5_removeAt_58 : decode cX5_removeAt 58 = .ok (.iload_n 1, 1) := by decide +kernel
theorem dX5_removeAt_59 : decode cX5_removeAt 59 = .ok (.imul, 1) := by decide +kernel
theorem dX5_removeAt_60 : decode cX5_removeAt 60 = .ok (.iload_n 3, 1) := by decide +kernel
theorem dX5_removeAt_61 : decode cX5_removeAt 61 = .ok (.iadd, 1) := by decide +kernel
theorem dX5_removeAt_62 : decode cX5_removeAt 62 = .ok (.iconst 1, 1) := by decide +kernel
theorem dX5_removeAt_63 : decode cX5_removeAt 63 = .ok (.iadd, 1) := by decide +kernel
theorem dX5_removeAt_64 : decode cX5_removeAt 64 = .ok (.iaload, 1) := by decide +kernel
theorem dX5_removeAt_65 : decode cX5_removeAt 65 = .ok (.iastore, 1) := by decide +kernel
theorem dX5_removeAt_66 : decode cX5_removeAt 66 = .ok (.iinc 3 1, 3) := by decide +kernel
theorem dX5_removeAt_69 : decode cX5_removeAt 69 = .ok (.goto (-57), 3) := by decide +kernel
theorem dX5_removeAt_72 : decode cX5_removeAt 72 = .ok (.return_, 1) := by decide +kernel
theorem dX5_wanted_0 : decode cX5_wanted 0 = .ok (.iconst 0, 1) := by decide +kernel
theorem dX5_wanted_1 : decode cX5_wanted 1 = .ok (.istore_n 1, 1) := by decide +kernel
theorem dX5_wanted_2 : decode cX5_wanted 2 = .ok (.aload_n 0, 1) := by decide +kernel
theorem dX5_wanted_3 : decode cX5_wanted 3 = .ok (.getfield 74, 3) := by decide +kernel
theorem dX5_wanted_6 : decode cX5_wanted 6 = .ok (.istore_n 2, 1) := by decide +kernel
theorem dX5_wanted_7 : decode cX5_wanted 7 = .ok (.iload_n 2, 1) := by decide +kernel
theorem dX5_wanted_8 : decode cX5_wanted 8 = .ok (.ifCond .lt 27, 3) := by decide +kernel
theorem dX5_wanted_11 : decode cX5_wanted 11 = .ok (.aload_n 0, 1) := by decide +kernel
theorem dX5_wanted_12 : decode cX5_wanted 12 = .ok (.getfield 13, 3) := by decide +kernel
theorem dX5_wanted_15 : decode cX5_wanted 15 = .ok (.aload_n 0, 1) := by decide +kernel
theorem dX5_wanted_16 : decode cX5_wanted 16 = .ok (.getfield 25, 3) := by decide +kernel
theorem dX5_wanted_19 : decode cX5_wanted 19 = .ok (.iload_n 2, 1) := by decide +kernel
theorem dX5_wanted_20 : decode cX5_wanted 20 = .ok (.iaload, 1) := by decide +kernel
theorem dX5_wanted_21 : decode cX5_wanted 21 = .ok (.iaload, 1) := by decide +kernel
theorem dX5_wanted_22 : decode cX5_wanted 22 = .ok (.iconst 4, 1) := by decide +kernel
theorem dX5_wanted_23 : decode cX5_wanted 23 = .ok (.if_icmp .ne 12, 3) := by decide +kernel
theorem dX5_wanted_26 : decode cX5_wanted 26 = .ok (.iinc 1 1, 3) := by decide +kernel
theorem dX5_wanted_29 : decode cX5_wanted 29 = .ok (.iinc 2 (-1), 3) := by decide +kernel
theorem dX5_wanted_32 : decode cX5_wanted 32 = .ok (.goto (-25), 3) := by decide +kernel
theorem dX5_wanted_35 : decode cX5_wanted 35 = .ok (.iload_n 2, 1) := by decide +kernel
theorem dX5_wanted_36 : decode cX5_wanted 36 = .ok (.ifCond .ge 9, 3) := by decide +kernel
theorem dX5_wanted_39 : decode cX5_wanted 39 = .ok (.iload_n 1, 1) := by decide +kernel
theorem dX5_wanted_40 : decode cX5_wanted 40 = .ok (.iconst 1, 1) := by decide +kernel
theorem dX5_wanted_41 : decode cX5_wanted 41 = .ok (.iadd, 1) := by decide +kernel
theorem dX5_wanted_42 : decode cX5_wanted 42 = .ok (.goto 4, 3) := by decide +kernel
theorem dX5_wanted_45 : decode cX5_wanted 45 = .ok (.iload_n 1, 1) := by decide +kernel
theorem dX5_wanted_46 : decode cX5_wanted 46 = .ok (.ireturn, 1) := by decide +kernel
theorem dX5_split_0 : decode cX5_split 0 = .ok (.aload_n 0, 1) := by decide +kernel
theorem dX5_split_1 : decode cX5_split 1 = .ok (.getfield 25, 3) := by decide +kernel
theorem dX5_split_4 : decode cX5_split 4 = .ok (.iload_n 1, 1) := by decide +kernel
theorem dX5_split_5 : decode cX5_split 5 = .ok (.iaload, 1) := by decide +kernel
theorem dX5_split_6 : decode cX5_split 6 = .ok (.istore_n 2, 1) := by decide +kernel
theorem dX5_split_7 : decode cX5_split 7 = .ok (.aload_n 0, 1) := by decide +kernel
theorem dX5_split_8 : decode cX5_split 8 = .ok (.invokevirtual 81, 3) := by decide +kernel
theorem dX5_split_11 : decode cX5_split 11 = .ok (.istore_n 3, 1) := by decide +kernel
theorem dX5_split_12 : decode cX5_split 12 = .ok (.aload_n 0, 1) := by decide +kernel
theorem dX5_split_13 : decode cX5_split 13 = .ok (.iload_n 3, 1) := by decide +kernel
theorem dX5_split_14 : decode cX5_split 14 = .ok (.iconst 1, 1) := by decide +kernel
theorem dX5_split_15 : decode cX5_split 15 = .ok (.invokevirtual 77, 3) := by decide +kernel
theorem dX5_split_18 : decode cX5_split 18 = .ok (.aload_n 0, 1) := by decide +kernel
theorem dX5_split_19 : decode cX5_split 19 = .ok (.getfield 7, 3) := by decide +kernel
theorem dX5_split_22 : decode cX5_split 22 = .ok (.iload_n 3, 1) := by decide +kernel
theorem dX5_split_23 : decode cX5_split 23 = .ok (.aload_n 0, 1) := by decide +kernel
theorem dX5_split_24 : decode cX5_split 24 = .ok (.getfield 7, 3) := by decide +kernel
theorem dX5_split_27 : decode cX5_split 27 = .ok (.iload_n 2, 1) := by decide +kernel
theorem dX5_split_28 : decode cX5_split 28 = .ok (.iaload, 1) := by decide +kernel
theorem dX5_split_29 : decode cX5_split 29 = .ok (.iastore, 1) := by decide +kernel
theorem dX5_split_30 : decode cX5_split 30 = .ok (.aload_n 0, 1) := by decide +kernel
theorem dX5_split_31 : decode cX5_split 31 = .ok (.getfield 22, 3) := by decide +kernel
theorem dX5_split_34 : decode cX5_split 34 = .ok (.iload_n 3, 1) := by decide +kernel
theorem dX5_split_35 : decode cX5_split 35 = .ok (.aload_n 0, 1) := by decide +kernel
theorem dX5_split_36 : decode cX5_split 36 = .ok (.getfield 22, 3) := by decide +kernel
theorem dX5_split_39 : decode cX5_split 39 = .ok (.iload_n 2, 1) := by decide +kernel
theorem dX5_split_40 : decode cX5_split 40 = .ok (.iaload, 1) := by decide +kernel
theorem dX5_split_41 : decode cX5_split 41 = .ok (.iastore, 1) := by decide +kernel
theorem dX5_split_42 : decode cX5_split 42 = .ok (.aload_n 0, 1) := by decide +kernel
theorem dX5_split_43 : decode cX5_split 43 = .ok (.getfield 22, 3) := by decide +kernel
theorem dX5_split_46 : decode cX5_split 46 = .ok (.iload_n 2, 1) := by decide +kernel
theorem dX5_split_47 : decode cX5_split 47 = .ok (.aload_n 0, 1) := by decide +kernel
theorem dX5_split_48 : decode cX5_split 48 = .ok (.getfield 7, 3) := by decide +kernel
theorem dX5_split_51 : decode cX5_split 51 = .ok (.iload_n 2, 1) := by decide +kernel
theorem dX5_split_52 : decode cX5_split 52 = .ok (.iaload, 1) := by decide +kernel
theorem dX5_split_53 : decode cX5_split 53 = .ok (.iconst 1, 1) := by decide +kernel
theorem dX5_split_54 : decode cX5_split 54 = .ok (.if_icmp .ne 7, 3) := by decide +kernel
theorem dX5_split_57 : decode cX5_split 57 = .ok (.iload_n 3, 1) := by decide +kernel
theorem dX5_split_58 : decode cX5_split 58 = .ok (.goto 4, 3) := by decide +kernel
theorem dX5_split_61 : decode cX5_split 61 = .ok (.iconst (-1), 1) := by decide +kernel
theorem dX5_split_62 : decode cX5_split 62 = .ok (.iastore, 1) := by decide +kernel
theorem dX5_split_63 : decode cX5_split 63 = .ok (.aload_n 0, 1) := by decide +kernel
theorem dX5_split_64 : decode cX5_split 64 = .ok (.getfield 13, 3) := by decide +kernel
theorem dX5_split_67 : decode cX5_split 67 = .ok (.iload_n 3, 1) := by decide +kernel
theorem dX5_split_68 : decode cX5_split 68 = .ok (.iconst 0, 1) := by decide +kernel
theorem dX5_split_69 : decode cX5_split 69 = .ok (.iastore, 1) := by decide +kernel
theorem dX5_split_70 : decode cX5_split 70 = .ok (.iconst 2, 1) := by decide +kernel
theorem dX5_split_71 : decode cX5_split 71 = .ok (.istore 4, 2) := by decide +kernel
theorem dX5_split_73 : decode cX5_split 73 = .ok (.iload 4, 2) := by decide +kernel
theorem dX5_split_75 : decode cX5_split 75 = .ok (.iconst 5, 1) := by decide +kernel
theorem dX5_split_76 : decode cX5_split 76 = .ok (.if_icmp .ge 40, 3) := by decide +kernel
theorem dX5_split_79 : decode cX5_split 79 = .ok (.aload_n 0, 1) := by decide +kernel
theorem dX5_split_80 : decode cX5_split 80 = .ok (.iload_n 3, 1) := by decide +kernel
theorem dX5_split_81 : decode cX5_split 81 = .ok (.iload 4, 2) := by decide +kernel
theorem dX5_split_83 : decode cX5_split 83 = .ok (.iconst 2, 1) := by decide +kernel
theorem dX5_split_84 : decode cX5_split 84 = .ok (.isub, 1) := by decide +kernel
theorem dX5_split_85 : decode cX5_split 85 = .ok (.aload_n 0, 1) := by decide +kernel
theorem dX5_split_86 : decode cX5_split 86 = .ok (.getfield 16, 3) := by decide +kernel
theorem dX5_split_89 : decode cX5_split 89 = .ok (.iconst 5, 1) := by decide +kernel
theorem dX5_split_90 : decode cX5_split 90 = .ok (.iload_n 2, 1) := by decide +kernel
theorem dX5_split_91 : decode cX5_split 91 = .ok (.imul, 1) := by decide +kernel
theorem dX5_split_92 : decode cX5_split 92 = .ok (.iload 4, 2) := by decide +kernel
theorem dX5_split_94 : decode cX5_split 94 = .ok (.iadd, 1) := by decide +kernel
theorem dX5_split_95 : decode cX5_split 95 = .ok (.iaload, 1) := by decide +kernel
theorem dX5_split_96 : decode cX5_split 96 = .ok (.aload_n 0, 1) := by decide +kernel
theorem dX5_split_97 : decode cX5_split 97 = .ok (.getfield 19, 3) := by decide +kernel
theorem dX5_split_100 : decode cX5_split 100 = .ok (.iconst 5, 1) := by decide +kernel
theorem dX5_split_101 : decode cX5_split 101 = .ok (.iload_n 2, 1) := by decide +kernel
theorem dX5_split_102 : decode cX5_split 102 = .ok (.imul, 1) := by decide +kernel
theorem dX5_split_103 : decode cX5_split 103 = .ok (.iload 4, 2) := by decide +kernel
theorem dX5_split_105 : decode cX5_split 105 = .ok (.iadd, 1) := by decide +kernel
theorem dX5_split_106 : decode cX5_split 106 = .ok (.iaload, 1) := by decide +kernel
theorem dX5_split_107 : decode cX5_split 107 = .ok (.invokevirtual 84, 3) := by decide +kernel
theorem dX5_split_110 : decode cX5_split 110 = .ok (.iinc 4 1, 3) := by decide +kernel
theorem dX5_split_113 : decode cX5_split 113 = .ok (.goto (-40), 3) := by decide +kernel
theorem dX5_split_116 : decode cX5_split 116 = .ok (.aload_n 0, 1) := by decide +kernel
theorem dX5_split_117 : decode cX5_split 117 = .ok (.getfield 13, 3) := by decide +kernel
theorem dX5_split_120 : decode cX5_split 120 = .ok (.iload_n 2, 1) := by decide +kernel
theorem dX5_split_121 : decode cX5_split 121 = .ok (.iconst 2, 1) := by decide +kernel
theorem dX5_split_122 : decode cX5_split 122 = .ok (.iastore, 1) := by decide +kernel
theorem dX5_split_123 : decode cX5_split 123 = .ok (.aload_n 0, 1) := by decide +kernel
theorem dX5_split_124 : decode cX5_split 124 = .ok (.getfield 16, 3) := by decide +kernel
theorem dX5_split_127 : decode cX5_split 127 = .ok (.iconst 5, 1) := by decide +kernel
theorem dX5_split_128 : decode cX5_split 128 = .ok (.iload_n 3, 1) := by decide +kernel
theorem dX5_split_129 : decode cX5_split 129 = .ok (.imul, 1) := by decide +kernel
theorem dX5_split_130 : decode cX5_split 130 = .ok (.iaload, 1) := by decide +kernel
theorem dX5_split_131 : decode cX5_split 131 = .ok (.istore 4, 2) := by decide +kernel
theorem dX5_split_133 : decode cX5_split 133 = .ok (.aload_n 0, 1) := by decide +kernel
theorem dX5_split_134 : decode cX5_split 134 = .ok (.getfield 7, 3) := by decide +kernel
theorem dX5_split_137 : decode cX5_split 137 = .ok (.iload_n 3, 1) := by decide +kernel
theorem dX5_split_138 : decode cX5_split 138 = .ok (.iaload, 1) := by decide +kernel
theorem dX5_split_139 : decode cX5_split 139 = .ok (.iconst 2, 1) := by decide +kernel
theorem dX5_split_140 : decode cX5_split 140 = .ok (.if_icmp .ne 12, 3) := by decide +kernel
theorem dX5_split_143 : decode cX5_split 143 = .ok (.aload_n 0, 1) := by decide +kernel
theorem dX5_split_144 : decode cX5_split 144 = .ok (.getfield 16, 3) := by decide +kernel
theorem dX5_split_147 : decode cX5_split 147 = .ok (.iconst 5, 1) := by decide +kernel
theorem dX5_split_148 : decode cX5_split 148 = .ok (.iload_n 3, 1) := by decide +kernel
theorem dX5_split_149 : decode cX5_split 149 = .ok (.imul, 1) := by decide +kernel
theorem dX5_split_150 : decode cX5_split 150 = .ok (.iconst 0, 1) := by decide +kernel
theorem dX5_split_151 : decode cX5_split 151 = .ok (.iastore, 1) := by decide +kernel
theorem dX5_split_152 : decode cX5_split 152 = .ok (.aload_n 0, 1) := by decide +kernel
theorem dX5_split_153 : decode cX5_split 153 = .ok (.iload_n 3, 1) := by decide +kernel
theorem dX5_split_154 : decode cX5_split 154 = .ok (.invokevirtual 88, 3) := by decide +kernel
theorem dX5_split_157 : decode cX5_split 157 = .ok (.aload_n 0, 1) := by decide +kernel
theorem dX5_split_158 : decode cX5_split 158 = .ok (.iload_n 2, 1) := by decide +kernel
theorem dX5_split_159 : decode cX5_split 159 = .ok (.invokevirtual 88, 3) := by decide +kernel
theorem dX5_split_162 : decode cX5_split 162 = .ok (.iload_n 1, 1) := by decide +kernel
theorem dX5_split_163 : decode cX5_split 163 = .ok (.ifCond .le 39, 3) := by decide +kernel
theorem dX5_split_166 : decode cX5_split 166 = .ok (.aload_n 0, 1) := by decide +kernel
theorem dX5_split_167 : decode cX5_split 167 = .ok (.aload_n 0, 1) := by decide +kernel
theorem dX5_split_168 : decode cX5_split 168 = .ok (.getfield 25, 3) := by decide +kernel
theorem dX5_split_171 : decode cX5_split 171 = .ok (.iload_n 1, 1) := by decide +kernel
theorem dX5_split_172 : decode cX5_split 172 = .ok (.iconst 1, 1) := by decide +kernel
theorem dX5_split_173 : decode cX5_split 173 = .ok (.isub, 1) := by decide +kernel
theorem dX5_split_174 : decode cX5_split 174 = .ok (.iaload, 1) := by decide +kernel
theorem dX5_split_175 : decode cX5_split 175 = .ok (.aload_n 0, 1) := by decide +kernel
theorem dX5_split_176 : decode cX5_split 176 = .ok (.getfield 28, 3) := by decide +kernel
theorem dX5_split_179 : decode cX5_split 179 = .ok (.iload_n 1, 1) := by decide +kernel
theorem dX5_split_180 : decode cX5_split 180 = .ok (.iaload, 1) := by decide +kernel
theorem dX5_split_181 : decode cX5_split 181 = .ok (.iconst 1, 1) := by decide +kernel
theorem dX5_split_182 : decode cX5_split 182 = .ok (.iadd, 1) := by decide +kernel
theorem dX5_split_183 : decode cX5_split 183 = .ok (.iload 4, 2) := by decide +kernel
theorem dX5_split_185 : decode cX5_split 185 = .ok (.iload_n 3, 1) := by decide +kernel
theorem dX5_split_186 : decode cX5_split 186 = .ok (.invokevirtual 84, 3) := by decide +kernel
theorem dX5_split_189 : decode cX5_split 189 = .ok (.aload_n 0, 1) := by decide +kernel
theorem dX5_split_190 : decode cX5_split 190 = .ok (.aload_n 0, 1) := by decide +kernel
theorem dX5_split_191 : decode cX5_split 191 = .ok (.getfield 25, 3) := by decide +kernel
theorem dX5_split_194 : decode cX5_split 194 = .ok (.iload_n 1, 1) := by decide +kernel
theorem dX5_split_195 : decode cX5_split 195 = .ok (.iconst 1, 1) := by decide +kernel
theorem dX5_split_196 : decode cX5_split 196 = .ok (.isub, 1) := by decide +kernel
theorem dX5_split_197 : decode cX5_split 197 = .ok (.iaload, 1) := by decide +kernel
theorem dX5_split_198 : decode cX5_split 198 = .ok (.invokevirtual 88, 3) := by decide +kernel
theorem dX5_split_201 : decode cX5_split 201 = .ok (.return_, 1) := by decide +kernel
theorem dX5_split_202 : decode cX5_split 202 = .ok (.aload_n 0, 1) := by decide +kernel
theorem dX5_split_203 : decode cX5_split 203 = .ok (.invokevirtual 81, 3) := by decide +kernel
theorem dX5_split_206 : decode cX5_split 206 = .ok (.istore 5, 2) := by decide +kernel
theorem dX5_split_208 : decode cX5_split 208 = .ok (.aload_n 0, 1) := by decide +kernel
theorem dX5_split_209 : decode cX5_split 209 = .ok (.iload 5, 2) := by decide +kernel
theorem dX5_split_211 : decode cX5_split 211 = .ok (.iconst 1, 1) := by decide +kernel
theorem dX5_split_212 : decode cX5_split 212 = .ok (.invokevirtual 77, 3) := by decide +kernel
theorem dX5_split_215 : decode cX5_split 215 = .ok (.aload_n 0, 1) := by decide +kernel
theorem dX5_split_216 : decode cX5_split 216 = .ok (.getfield 7, 3) := by decide +kernel
theorem dX5_split_219 : decode cX5_split 219 = .ok (.iload 5, 2) := by decide +kernel
theorem dX5_split_221 : decode cX5_split 221 = .ok (.iconst 2, 1) := by decide +kernel
theorem dX5_split_222 : decode cX5_split 222 = .ok (.iastore, 1) := by decide +kernel
theorem dX5_split_223 : decode cX5_split 223 = .ok (.aload_n 0, 1) := by decide +kernel
theorem dX5_split_224 : decode cX5_split 224 = .ok (.getfield 13, 3) := by decide +kernel
theorem dX5_split_227 : decode cX5_split 227 = .ok (.iload 5, 2) := by decide +kernel
theorem dX5_split_229 : decode cX5_split 229 = .ok (.iconst 0, 1) := by decide +kernel
theorem dX5_split_230 : decode cX5_split 230 = .ok (.iastore, 1) := by decide +kernel
theorem dX5_split_231 : decode cX5_split 231 = .ok (.aload_n 0, 1) := by decide +kernel
theorem dX5_split_232 : decode cX5_split 232 = .ok (.iload 5, 2) := by decide +kernel
theorem dX5_split_234 : decode cX5_split 234 = .ok (.iconst 0, 1) := by decide +kernel
theorem dX5_split_235 : decode cX5_split 235 = .ok (.iconst 0, 1) := by decide +kernel
theorem dX5_split_236 : decode cX5_split 236 = .ok (.iload_n 2, 1) := by decide +kernel
theorem dX5_split_237 : decode cX5_split 237 = .ok (.invokevirtual 84, 3) := by decide +kernel
theorem dX5_split_240 : decode cX5_split 240 = .ok (.aload_n 0, 1) := by decide +kernel
theorem dX5_split_241 : decode cX5_split 241 = .ok (.iload 5, 2) := by decide +kernel
theorem dX5_split_243 : decode cX5_split 243 = .ok (.iconst 1, 1) := by decide +kernel
theorem dX5_split_244 : decode cX5_split 244 = .ok (.iload 4, 2) := by decide +kernel
theorem dX5_split_246 : decode cX5_split 246 = .ok (.iload_n 3, 1) := by decide +kernel
theorem dX5_split_247 : decode cX5_split 247 = .ok (.invokevirtual 84, 3) := by decide +kernel
theorem dX5_split_250 : decode cX5_split 250 = .ok (.aload_n 0, 1) := by decide +kernel
theorem dX5_split_251 : decode cX5_split 251 = .ok (.iload 5, 2) := by decide +kernel
theorem dX5_split_253 : decode cX5_split 253 = .ok (.putfield 71, 3) := by decide +kernel
theorem dX5_split_256 : decode cX5_split 256 = .ok (.aload_n 0, 1) := by decide +kernel
theorem dX5_split_257 : decode cX5_split 257 = .ok (.iload 5, 2) := by decide +kernel
theorem dX5_split_259 : decode cX5_split 259 = .ok (.invokevirtual 88, 3) := by decide +kernel
theorem dX5_split_262 : decode cX5_split 262 = .ok (.return_, 1) := by decide +kernel
theorem dX5_put_0 : decode cX5_put 0 = .ok (.aload_n 0, 1) := by decide +kernel
theorem dX5_put_1 : decode cX5_put 1 = .ok (.iconst 0, 1) := by decide +kernel
theorem dX5_put_2 : decode cX5_put 2 = .ok (.putfield 44, 3) := by decide +kernel
theorem dX5_put_5 : decode cX5_put 5 = .ok (.aload_n 0, 1) := by decide +kernel
theorem dX5_put_6 : decode cX5_put 6 = .ok (.iload_n 1, 1) := by decide +kernel
theorem dX5_put_7 : decode cX5_put 7 = .ok (.invokevirtual 92, 3) := by decide +kernel
theorem dX5_put_10 : decode cX5_put 10 = .ok (.aload_n 0, 1) := by decide +kernel
theorem dX5_put_11 : decode cX5_put 11 = .ok (.iload_n 1, 1) := by decide +kernel
theorem dX5_put_12 : decode cX5_put 12 = .ok (.invokevirtual 95, 3) := by decide +kernel
theorem dX5_put_15 : decode cX5_put 15 = .ok (.istore_n 3, 1) := by decide +kernel
theorem dX5_put_16 : decode cX5_put 16 = .ok (.aload_n 0, 1) := by decide +kernel
theorem dX5_put_17 : decode cX5_put 17 = .ok (.iload_n 3, 1) := by decide +kernel
theorem dX5_put_18 : decode cX5_put 18 = .ok (.iload_n 1, 1) := by decide +kernel
theorem dX5_put_19 : decode cX5_put 19 = .ok (.invokevirtual 98, 3) := by decide +kernel
theorem dX5_put_22 : decode cX5_put 22 = .ok (.istore 4, 2) := by decide +kernel
theorem dX5_put_24 : decode cX5_put 24 = .ok (.iload 4, 2) := by decide +kernel
theorem dX5_put_26 : decode cX5_put 26 = .ok (.ifCond .ne 24, 3) := by decide +kernel
theorem dX5_put_29 : decode cX5_put 29 = .ok (.aload_n 0, 1) := by decide +kernel
theorem dX5_put_30 : decode cX5_put 30 = .ok (.invokevirtual 102, 3) := by decide +kernel
theorem dX5_put_33 : decode cX5_put 33 = .ok (.aload_n 0, 1) := by decide +kernel
theorem dX5_put_34 : decode cX5_put 34 = .ok (.invokevirtual 105, 3) := by decide +kernel
theorem dX5_put_37 : decode cX5_put 37 = .ok (.iadd, 1) := by decide +kernel
theorem dX5_put_38 : decode cX5_put 38 = .ok (.bipush 40, 2) := by decide +kernel
theorem dX5_put_40 : decode cX5_put 40 = .ok (.if_icmp .le 10, 3) := by decide +kernel
theorem dX5_put_43 : decode cX5_put 43 = .ok (.aload_n 0, 1) := by decide +kernel
theorem dX5_put_44 : decode cX5_put 44 = .ok (.iconst 1, 1) := by decide +kernel
theorem dX5_put_45 : decode cX5_put 45 = .ok (.putfield 44, 3) := by decide +kernel
theorem dX5_put_48 : decode cX5_put 48 = .ok (.iconst 0, 1) := by decide +kernel
theorem dX5_put_49 : decode cX5_put 49 = .ok (.ireturn, 1) := by decide +kernel
theorem dX5_put_50 : decode cX5_put 50 = .ok (.aload_n 0, 1) := by decide +kernel
theorem dX5_put_51 : decode cX5_put 51 = .ok (.iconst 0, 1) := by decide +kernel
theorem dX5_put_52 : decode cX5_put 52 = .ok (.putfield 108, 3) := by decide +kernel
theorem dX5_put_55 : decode cX5_put 55 = .ok (.aload_n 0, 1) := by decide +kernel
theorem dX5_put_56 : decode cX5_put 56 = .ok (.invokevirtual 112, 3) := by decide +kernel
theorem dX5_put_59 : decode cX5_put 59 = .ok (.aload_n 0, 1) := by decide +kernel
theorem dX5_put_60 : decode cX5_put 60 = .ok (.getfield 25, 3) := by decide +kernel
theorem dX5_put_63 : decode cX5_put 63 = .ok (.aload_n 0, 1) := by decide +kernel
theorem dX5_put_64 : decode cX5_put 64 = .ok (.getfield 74, 3) := by decide +kernel
theorem dX5_put_67 : decode cX5_put 67 = .ok (.iaload, 1) := by decide +kernel
theorem dX5_put_68 : decode cX5_put 68 = .ok (.istore 5, 2) := by decide +kernel
theorem dX5_put_70 : decode cX5_put 70 = .ok (.aload_n 0, 1) := by decide +kernel
theorem dX5_put_71 : decode cX5_put 71 = .ok (.iload 5, 2) := by decide +kernel
theorem dX5_put_73 : decode cX5_put 73 = .ok (.invokevirtual 88, 3) := by decide +kernel
theorem dX5_put_76 : decode cX5_put 76 = .ok (.iload 4, 2) := by decide +kernel
theorem dX5_put_78 : decode cX5_put 78 = .ok (.ifCond .eq 18, 3) := by decide +kernel
theorem dX5_put_81 : decode cX5_put 81 = .ok (.aload_n 0, 1) := by decide +kernel
theorem dX5_put_82 : decode cX5_put 82 = .ok (.getfield 19, 3) := by decide +kernel
theorem dX5_put_85 : decode cX5_put 85 = .ok (.iconst 5, 1) := by decide +kernel
theorem dX5_put_86 : decode cX5_put 86 = .ok (.iload 5, 2) := by decide +kernel
theorem dX5_put_88 : decode cX5_put 88 = .ok (.imul, 1) := by decide +kernel
theorem dX5_put_89 : decode cX5_put 89 = .ok (.iload_n 3, 1) := by decide +kernel
theorem dX5_put_90 : decode cX5_put 90 = .ok (.iadd, 1) := by decide +kernel
theorem dX5_put_91 : decode cX5_put 91 = .ok (.iload_n 2, 1) := by decide +kernel
theorem dX5_put_92 : decode cX5_put 92 = .ok (.iastore, 1) := by decide +kernel
theorem dX5_put_93 : decode cX5_put 93 = .ok (.goto 61, 3) := by decide +kernel
theorem dX5_put_96 : decode cX5_put 96 = .ok (.aload_n 0, 1) := by decide +kernel
theorem dX5_put_97 : decode cX5_put 97 = .ok (.iload 5, 2) := by decide +kernel
theorem dX5_put_99 : decode cX5_put 99 = .ok (.iload_n 3, 1) := by decide +kernel
theorem dX5_put_100 : decode cX5_put 100 = .ok (.iload_n 1, 1) := by decide +kernel
theorem dX5_put_101 : decode cX5_put 101 = .ok (.iload_n 2, 1) := by decide +kernel
theorem dX5_put_102 : decode cX5_put 102 = .ok (.invokevirtual 84, 3) := by decide +kernel
theorem dX5_put_105 : decode cX5_put 105 = .ok (.aload_n 0, 1) := by decide +kernel
theorem dX5_put_106 : decode cX5_put 106 = .ok (.dup, 1) := by decide +kernel
theorem dX5_put_107 : decode cX5_put 107 = .ok (.getfield 115, 3) := by decide +kernel
theorem dX5_put_110 : decode cX5_put 110 = .ok (.iconst 1, 1) := by decide +kernel
theorem dX5_put_111 : decode cX5_put 111 = .ok (.iadd, 1) := by decide +kernel
theorem dX5_put_112 : decode cX5_put 112 = .ok (.putfield 115, 3) := by decide +kernel
theorem dX5_put_115 : decode cX5_put 115 = .ok (.aload_n 0, 1) := by decide +kernel
theorem dX5_put_116 : decode cX5_put 116 = .ok (.getfield 74, 3) := by decide +kernel
theorem dX5_put_119 : decode cX5_put 119 = .ok (.istore 6, 2) := by decide +kernel
theorem dX5_put_121 : decode cX5_put 121 = .ok (.iload 6, 2) := by decide +kernel
theorem dX5_put_123 : decode cX5_put 123 = .ok (.ifCond .lt 31, 3) := by decide +kernel
theorem dX5_put_126 : decode cX5_put 126 = .ok (.aload_n 0, 1) := by decide +kernel
theorem dX5_put_127 : decode cX5_put 127 = .ok (.getfield 13, 3) := by decide +kernel
theorem dX5_put_130 : decode cX5_put 130 = .ok (.aload_n 0, 1) := by decide +kernel
theorem dX5_put_131 : decode cX5_put 131 = .ok (.getfield 25, 3) := by decide +kernel
theorem dX5_put_134 : decode cX5_put 134 = .ok (.iload 6, 2) := by decide +kernel
theorem dX5_put_136 : decode cX5_put 136 = .ok (.iaload, 1) := by decide +kernel
theorem dX5_put_137 : decode cX5_put 137 = .ok (.iaload, 1) := by decide +kernel
theorem dX5_put_138 : decode cX5_put 138 = .ok (.iconst 4, 1) := by decide +kernel
theorem dX5_put_139 : decode cX5_put 139 = .ok (.if_icmp .le 15, 3) := by decide +kernel
theorem dX5_put_142 : decode cX5_put 142 = .ok (.aload_n 0, 1) := by decide +kernel
theorem dX5_put_143 : decode cX5_put 143 = .ok (.iload 6, 2) := by decide +kernel
theorem dX5_put_145 : decode cX5_put 145 = .ok (.invokevirtual 118, 3) := by decide +kernel
theorem dX5_put_148 : decode cX5_put 148 = .ok (.iinc 6 (-1), 3) := by decide +kernel
theorem dX5_put_151 : decode cX5_put 151 = .ok (.goto (-30), 3) := by decide +kernel
theorem dX5_put_154 : decode cX5_put 154 = .ok (.aload_n 0, 1) := by decide +kernel
theorem dX5_put_155 : decode cX5_put 155 = .ok (.invokevirtual 121, 3) := by decide +kernel
theorem dX5_put_158 : decode cX5_put 158 = .ok (.iload 4, 2) := by decide +kernel
theorem dX5_put_160 : decode cX5_put 160 = .ok (.ifCond .ne 7, 3) := by decide +kernel
theorem dX5_put_163 : decode cX5_put 163 = .ok (.iconst 1, 1) := by decide +kernel
theorem dX5_put_164 : decode cX5_put 164 = .ok (.goto 4, 3) := by decide +kernel
theorem dX5_put_167 : decode cX5_put 167 = .ok (.iconst 0, 1) := by decide +kernel
theorem dX5_put_168 : decode cX5_put 168 = .ok (.ireturn, 1) := by decide +kernel
theorem dX5_get_0 : decode cX5_get 0 = .ok (.aload_n 0, 1) := by decide +kernel
theorem dX5_get_1 : decode cX5_get 1 = .ok (.iload_n 1, 1) := by decide +kernel
theorem dX5_get_2 : decode cX5_get 2 = .ok (.invokevirtual 92, 3) := by decide +kernel
theorem dX5_get_5 : decode cX5_get 5 = .ok (.aload_n 0, 1) := by decide +kernel
theorem dX5_get_6 : decode cX5_get 6 = .ok (.iload_n 1, 1) := by decide +kernel
theorem dX5_get_7 : decode cX5_get 7 = .ok (.invokevirtual 95, 3) := by decide +kernel
theorem dX5_get_10 : decode cX5_get 10 = .ok (.istore_n 2, 1) := by decide +kernel
theorem dX5_get_11 : decode cX5_get 11 = .ok (.aload_n 0, 1) := by decide +kernel
theorem dX5_get_12 : decode cX5_get 12 = .ok (.aload_n 0, 1) := by decide +kernel
theorem dX5_get_13 : decode cX5_get 13 = .ok (.iload_n 2, 1) := by decide +kernel
theorem dX5_get_14 : decode cX5_get 14 = .ok (.iload_n 1, 1) := by decide +kernel
theorem dX5_get_15 : decode cX5_get 15 = .ok (.invokevirtual 98, 3) := by decide +kernel
theorem dX5_get_18 : decode cX5_get 18 = .ok (.ifCond .eq 7, 3) := by decide +kernel
theorem dX5_get_21 : decode cX5_get 21 = .ok (.iconst 0, 1) := by decide +kernel
theorem dX5_get_22 : decode cX5_get 22 = .ok (.goto 4, 3) := by decide +kernel
theorem dX5_get_25 : decode cX5_get 25 = .ok (.iconst 1, 1) := by decide +kernel
theorem dX5_get_26 : decode cX5_get 26 = .ok (.putfield 44, 3) := by decide +kernel
theorem dX5_get_29 : decode cX5_get 29 = .ok (.aload_n 0, 1) := by decide +kernel
theorem dX5_get_30 : decode cX5_get 30 = .ok (.getfield 44, 3) := by decide +kernel
theorem dX5_get_33 : decode cX5_get 33 = .ok (.ifCond .le 5, 3) := by decide +kernel
theorem dX5_get_36 : decode cX5_get 36 = .ok (.iconst 0, 1) := by decide +kernel
theorem dX5_get_37 : decode cX5_get 37 = .ok (.ireturn, 1) := by decide +kernel
theorem dX5_get_38 : decode cX5_get 38 = .ok (.aload_n 0, 1) := by decide +kernel
theorem dX5_get_39 : decode cX5_get 39 = .ok (.invokevirtual 112, 3) := by decide +kernel
theorem dX5_get_42 : decode cX5_get 42 = .ok (.aload_n 0, 1) := by decide +kernel
theorem dX5_get_43 : decode cX5_get 43 = .ok (.invokevirtual 121, 3) := by decide +kernel
theorem dX5_get_46 : decode cX5_get 46 = .ok (.aload_n 0, 1) := by decide +kernel
theorem dX5_get_47 : decode cX5_get 47 = .ok (.getfield 19, 3) := by decide +kernel
theorem dX5_get_50 : decode cX5_get 50 = .ok (.iconst 5, 1) := by decide +kernel
theorem dX5_get_51 : decode cX5_get 51 = .ok (.aload_n 0, 1) := by decide +kernel
theorem dX5_get_52 : decode cX5_get 52 = .ok (.getfield 25, 3) := by decide +kernel
theorem dX5_get_55 : decode cX5_get 55 = .ok (.aload_n 0, 1) := by decide +kernel
theorem dX5_get_56 : decode cX5_get 56 = .ok (.getfield 74, 3) := by decide +kernel
theorem dX5_get_59 : decode cX5_get 59 = .ok (.iaload, 1) := by decide +kernel
theorem dX5_get_60 : decode cX5_get 60 = .ok (.imul, 1) := by decide +kernel
theorem dX5_get_61 : decode cX5_get 61 = .ok (.iload_n 2, 1) := by decide +kernel
theorem dX5_get_62 : decode cX5_get 62 = .ok (.iadd, 1) := by decide +kernel
theorem dX5_get_63 : decode cX5_get 63 = .ok (.iaload, 1) := by decide +kernel
theorem dX5_get_64 : decode cX5_get 64 = .ok (.ireturn, 1) := by decide +kernel
theorem dX5_give_0 : decode cX5_give 0 = .ok (.aload_n 0, 1) := by decide +kernel
theorem dX5_give_1 : decode cX5_give 1 = .ok (.getfield 19, 3) := by decide +kernel
theorem dX5_give_4 : decode cX5_give 4 = .ok (.iconst 5, 1) := by decide +kernel
theorem dX5_give_5 : decode cX5_give 5 = .ok (.iload_n 1, 1) := by decide +kernel
theorem dX5_give_6 : decode cX5_give 6 = .ok (.imul, 1) := by decide +kernel
theorem dX5_give_7 : decode cX5_give 7 = .ok (.iload_n 2, 1) := by decide +kernel
theorem dX5_give_8 : decode cX5_give 8 = .ok (.iadd, 1) := by decide +kernel
theorem dX5_give_9 : decode cX5_give 9 = .ok (.iaload, 1) := by decide +kernel
theorem dX5_give_10 : decode cX5_give 10 = .ok (.istore 4, 2) := by decide +kernel
theorem dX5_give_12 : decode cX5_give 12 = .ok (.aload_n 0, 1) := by decide +kernel
theorem dX5_give_13 : decode cX5_give 13 = .ok (.getfield 19, 3) := by decide +kernel
theorem dX5_give_16 : decode cX5_give 16 = .ok (.iconst 5, 1) := by decide +kernel
theorem dX5_give_17 : decode cX5_give 17 = .ok (.iload_n 1, 1) := by decide +kernel
theorem dX5_give_18 : decode cX5_give 18 = .ok (.imul, 1) := by decide +kernel
theorem dX5_give_19 : decode cX5_give 19 = .ok (.iload_n 2, 1) := by decide +kernel
theorem dX5_give_20 : decode cX5_give 20 = .ok (.iadd, 1) := by decide +kernel
theorem dX5_give_21 : decode cX5_give 21 = .ok (.iconst 1, 1) := by decide +kernel
theorem dX5_give_22 : decode cX5_give 22 = .ok (.iadd, 1) := by decide +kernel
theorem dX5_give_23 : decode cX5_give 23 = .ok (.iaload, 1) := by decide +kernel
theorem dX5_give_24 : decode cX5_give 24 = .ok (.istore 5, 2) := by decide +kernel
theorem dX5_give_26 : decode cX5_give 26 = .ok (.iconst 5, 1) := by decide +kernel
theorem dX5_give_27 : decode cX5_give 27 = .ok (.iload_n 1, 1) := by decide +kernel
theorem dX5_give_28 : decode cX5_give 28 = .ok (.imul, 1) := by decide +kernel
theorem dX5_give_29 : decode cX5_give 29 = .ok (.iload_n 2, 1) := by decide +kernel
theorem dX5_give_30 : decode cX5_give 30 = .ok (.iadd, 1) := by decide +kernel
theorem dX5_give_31 : decode cX5_give 31 = .ok (.iconst 1, 1) := by decide +kernel
theorem dX5_give_32 : decode cX5_give 32 = .ok (.iadd, 1) := by decide +kernel
theorem dX5_give_33 : decode cX5_give 33 = .ok (.istore 6, 2) := by decide +kernel
theorem dX5_give_35 : decode cX5_give 35 = .ok (.aload_n 0, 1) := by decide +kernel
theorem dX5_give_36 : decode cX5_give 36 = .ok (.getfield 7, 3) := by decide +kernel
theorem dX5_give_39 : decode cX5_give 39 = .ok (.iload 4, 2) := by decide +kernel
theorem dX5_give_41 : decode cX5_give 41 = .ok (.iaload, 1) := by decide +kernel
theorem dX5_give_42 : decode cX5_give 42 = .ok (.iconst 2, 1) := by decide +kernel
theorem dX5_give_43 : decode cX5_give 43 = .ok (.if_icmp .ne 7, 3) := by decide +kernel
theorem dX5_give_46 : decode cX5_give 46 = .ok (.iconst 1, 1) := by decide +kernel
theorem dX5_give_47 : decode cX5_give 47 = .ok (.goto 4, 3) := by decide +kernel
theorem dX5_give_50 : decode cX5_give 50 = .ok (.iconst 0, 1) := by decide +kernel
theorem dX5_give_51 : decode cX5_give 51 = .ok (.istore 7, 2) := by decide +kernel
theorem dX5_give_53 : decode cX5_give 53 = .ok (.iload_n 3, 1) := by decide +kernel
theorem dX5_give_54 : decode cX5_give 54 = .ok (.ifCond .eq 97, 3) := by decide +kernel
theorem dX5_give_57 : decode cX5_give 57 = .ok (.iconst 5, 1) := by decide +kernel
theorem dX5_give_58 : decode cX5_give 58 = .ok (.iload 4, 2) := by decide +kernel
theorem dX5_give_60 : decode cX5_give 60 = .ok (.imul, 1) := by decide +kernel
theorem dX5_give_61 : decode cX5_give 61 = .ok (.aload_n 0, 1) := by decide +kernel
theorem dX5_give_62 : decode cX5_give 62 = .ok (.getfield 13, 3) := by decide +kernel
theorem dX5_give_65 : decode cX5_give 65 = .ok (.iload 4, 2) := by decide +kernel
theorem dX5_give_67 : decode cX5_give 67 = .ok (.iaload, 1) := by decide +kernel
theorem dX5_give_68 : decode cX5_give 68 = .ok (.iadd, 1) := by decide +kernel
theorem dX5_give_69 : decode cX5_give 69 = .ok (.iconst 1, 1) := by decide +kernel
theorem dX5_give_70 : decode cX5_give 70 = .ok (.isub, 1) := by decide +kernel
theorem dX5_give_71 : decode cX5_give 71 = .ok (.istore 8, 2) := by decide +kernel
theorem dX5_give_73 : decode cX5_give 73 = .ok (.iload 7, 2) := by decide +kernel
theorem dX5_give_75 : decode cX5_give 75 = .ok (.ifCond .eq 19, 3) := by decide +kernel
theorem dX5_give_78 : decode cX5_give 78 = .ok (.aload_n 0, 1) := by decide +kernel
theorem dX5_give_79 : decode cX5_give 79 = .ok (.getfield 16, 3) := by decide +kernel
theorem dX5_give_82 : decode cX5_give 82 = .ok (.iconst 5, 1) := by decide +kernel
theorem dX5_give_83 : decode cX5_give 83 = .ok (.iload 5, 2) := by decide +kernel
theorem dX5_give_85 : decode cX5_give 85 = .ok (.imul, 1) := by decide +kernel
theorem dX5_give_86 : decode cX5_give 86 = .ok (.aload_n 0, 1) := by decide +kernel
theorem dX5_give_87 : decode cX5_give 87 = .ok (.getfield 16, 3) := by decide +kernel
theorem dX5_give_90 : decode cX5_give 90 = .ok (.iload 6, 2) := by decide +kernel
theorem dX5_give_92 : decode cX5_give 92 = .ok (.iaload, 1) := by decide +kernel
theorem dX5_give_93 : decode cX5_give 93 = .ok (.iastore, 1) := by decide +kernel
theorem dX5_give_94 : decode cX5_give 94 = .ok (.aload_n 0, 1) := by decide +kernel
theorem dX5_give_95 : decode cX5_give 95 = .ok (.getfield 16, 3) := by decide +kernel
theorem dX5_give_98 : decode cX5_give 98 = .ok (.iload 8, 2) := by decide +kernel
theorem dX5_give_100 : decode cX5_give 100 = .ok (.iaload, 1) := by decide +kernel
theorem dX5_give_101 : decode cX5_give 101 = .ok (.istore 9, 2) := by decide +kernel
theorem dX5_give_103 : decode cX5_give 103 = .ok (.aload_n 0, 1) := by decide +kernel
theorem dX5_give_104 : decode cX5_give 104 = .ok (.iload 5, 2) := by decide +kernel
theorem dX5_give_106 : decode cX5_give 106 = .ok (.iconst 0, 1) := by decide +kernel
theorem dX5_give_107 : decode cX5_give 107 = .ok (.iload 7, 2) := by decide +kernel
theorem dX5_give_109 : decode cX5_give 109 = .ok (.ifCond .eq 7, 3) := by decide +kernel
theorem dX5_give_112 : decode cX5_give 112 = .ok (.iconst 0, 1) := by decide +kernel
theorem dX5_give_113 : decode cX5_give 113 = .ok (.goto 5, 3) := by decide +kernel
theorem dX5_give_116 : decode cX5_give 116 = .ok (.iload 9, 2) := by decide +kernel
theorem dX5_give_118 : decode cX5_give 118 = .ok (.aload_n 0, 1) := by decide +kernel
theorem dX5_give_119 : decode cX5_give 119 = .ok (.getfield 19, 3) := by decide +kernel
theorem dX5_give_122 : decode cX5_give 122 = .ok (.iload 8, 2) := by decide +kernel
theorem dX5_give_124 : decode cX5_give 124 = .ok (.iaload, 1) := by decide +kernel
theorem dX5_give_125 : decode cX5_give 125 = .ok (.invokevirtual 84, 3) := by decide +kernel
theorem dX5_give_128 : decode cX5_give 128 = .ok (.aload_n 0, 1) := by decide +kernel
theorem dX5_give_129 : decode cX5_give 129 = .ok (.getfield 13, 3) := by decide +kernel
theorem dX5_give_132 : decode cX5_give 132 = .ok (.iload 4, 2) := by decide +kernel
theorem dX5_give_134 : decode cX5_give 134 = .ok (.dup2, 1) := by decide +kernel
theorem dX5_give_135 : decode cX5_give 135 = .ok (.iaload, 1) := by decide +kernel
theorem dX5_give_136 : decode cX5_give 136 = .ok (.iconst 1, 1) := by decide +kernel
theorem dX5_give_137 : decode cX5_give 137 = .ok (.isub, 1) := by decide +kernel
theorem dX5_give_138 : decode cX5_give 138 = .ok (.iastore, 1) := by decide +kernel
theorem dX5_give_139 : decode cX5_give 139 = .ok (.aload_n 0, 1) := by decide +kernel
theorem dX5_give_140 : decode cX5_give 140 = .ok (.getfield 16, 3) := by decide +kernel
theorem dX5_give_143 : decode cX5_give 143 = .ok (.iload 6, 2) := by decide +kernel
theorem dX5_give_145 : decode cX5_give 145 = .ok (.iload 9, 2) := by decide +kernel
theorem dX5_give_147 : decode cX5_give 147 = .ok (.iastore, 1) := by decide +kernel
theorem dX5_give_148 : decode cX5_give 148 = .ok (.goto 87, 3) := by decide +kernel
theorem dX5_give_151 : decode cX5_give 151 = .ok (.aload_n 0, 1) := by decide +kernel
theorem dX5_give_152 : decode cX5_give 152 = .ok (.iload 4, 2) := by decide +kernel
theorem dX5_give_154 : decode cX5_give 154 = .ok (.aload_n 0, 1) := by decide +kernel
theorem dX5_give_155 : decode cX5_give 155 = .ok (.getfield 13, 3) := by decide +kernel
theorem dX5_give_158 : decode cX5_give 158 = .ok (.iload 4, 2) := by decide +kernel
theorem dX5_give_160 : decode cX5_give 160 = .ok (.iaload, 1) := by decide +kernel
theorem dX5_give_161 : decode cX5_give 161 = .ok (.iload 7, 2) := by decide +kernel
theorem dX5_give_163 : decode cX5_give 163 = .ok (.ifCond .eq 13, 3) := by decide +kernel
theorem dX5_give_166 : decode cX5_give 166 = .ok (.aload_n 0, 1) := by decide +kernel
theorem dX5_give_167 : decode cX5_give 167 = .ok (.getfield 16, 3) := by decide +kernel
theorem dX5_give_170 : decode cX5_give 170 = .ok (.iload 6, 2) := by decide +kernel
theorem dX5_give_172 : decode cX5_give 172 = .ok (.iaload, 1) := by decide +kernel
theorem dX5_give_173 : decode cX5_give 173 = .ok (.goto 12, 3) := by decide +kernel
theorem dX5_give_176 : decode cX5_give 176 = .ok (.aload_n 0, 1) := by decide +kernel
theorem dX5_give_177 : decode cX5_give 177 = .ok (.getfield 16, 3) := by decide +kernel
theorem dX5_give_180 : decode cX5_give 180 = .ok (.iconst 5, 1) := by decide +kernel
theorem dX5_give_181 : decode cX5_give 181 = .ok (.iload 5, 2) := by decide +kernel
theorem dX5_give_183 : decode cX5_give 183 = .ok (.imul, 1) := by decide +kernel
theorem dX5_give_184 : decode cX5_give 184 = .ok (.iaload, 1) := by decide +kernel
theorem dX5_give_185 : decode cX5_give 185 = .ok (.aload_n 0, 1) := by decide +kernel
theorem dX5_give_186 : decode cX5_give 186 = .ok (.getfield 19, 3) := by decide +kernel
theorem dX5_give_189 : decode cX5_give 189 = .ok (.iconst 5, 1) := by decide +kernel
theorem dX5_give_190 : decode cX5_give 190 = .ok (.iload 5, 2) := by decide +kernel
theorem dX5_give_192 : decode cX5_give 192 = .ok (.imul, 1) := by decide +kernel
theorem dX5_give_193 : decode cX5_give 193 = .ok (.iaload, 1) := by decide +kernel
theorem dX5_give_194 : decode cX5_give 194 = .ok (.invokevirtual 84, 3) := by decide +kernel
theorem dX5_give_197 : decode cX5_give 197 = .ok (.aload_n 0, 1) := by decide +kernel
theorem dX5_give_198 : decode cX5_give 198 = .ok (.iload 5, 2) := by decide +kernel
theorem dX5_give_200 : decode cX5_give 200 = .ok (.iconst 0, 1) := by decide +kernel
theorem dX5_give_201 : decode cX5_give 201 = .ok (.invokevirtual 124, 3) := by decide +kernel
theorem dX5_give_204 : decode cX5_give 204 = .ok (.aload_n 0, 1) := by decide +kernel
theorem dX5_give_205 : decode cX5_give 205 = .ok (.getfield 16, 3) := by decide +kernel
theorem dX5_give_208 : decode cX5_give 208 = .ok (.iload 6, 2) := by decide +kernel
theorem dX5_give_210 : decode cX5_give 210 = .ok (.aload_n 0, 1) := by decide +kernel
theorem dX5_give_211 : decode cX5_give 211 = .ok (.getfield 16, 3) := by decide +kernel
theorem dX5_give_214 : decode cX5_give 214 = .ok (.iconst 5, 1) := by decide +kernel
theorem dX5_give_215 : decode cX5_give 215 = .ok (.iload 5, 2) := by decide +kernel
theorem dX5_give_217 : decode cX5_give 217 = .ok (.imul, 1) := by decide +kernel
theorem dX5_give_218 : decode cX5_give 218 = .ok (.iaload, 1) := by decide +kernel
theorem dX5_give_219 : decode cX5_give 219 = .ok (.iastore, 1) := by decide +kernel
theorem dX5_give_220 : decode cX5_give 220 = .ok (.iload 7, 2) := by decide +kernel
theorem dX5_give_222 : decode cX5_give 222 = .ok (.ifCond .eq 13, 3) := by decide +kernel
theorem dX5_give_225 : decode cX5_give 225 = .ok (.aload_n 0, 1) := by decide +kernel
theorem dX5_give_226 : decode cX5_give 226 = .ok (.getfield 16, 3) := by decide +kernel
theorem dX5_give_229 : decode cX5_give 229 = .ok (.iconst 5, 1) := by decide +kernel
theorem dX5_give_230 : decode cX5_give 230 = .ok (.iload 5, 2) := by decide +kernel
theorem dX5_give_232 : decode cX5_give 232 = .ok (.imul, 1) := by decide +kernel
theorem dX5_give_233 : decode cX5_give 233 = .ok (.iconst 0, 1) := by decide +kernel
theorem dX5_give_234 : decode cX5_give 234 = .ok (.iastore, 1) := by decide +kernel
theorem dX5_give_235 : decode cX5_give 235 = .ok (.aload_n 0, 1) := by decide +kernel
theorem dX5_give_236 : decode cX5_give 236 = .ok (.iload 4, 2) := by decide +kernel
theorem dX5_give_238 : decode cX5_give 238 = .ok (.invokevirtual 88, 3) := by decide +kernel
theorem dX5_give_241 : decode cX5_give 241 = .ok (.aload_n 0, 1) := by decide +kernel
theorem dX5_give_242 : decode cX5_give 242 = .ok (.iload 5, 2) := by decide +kernel
theorem dX5_give_244 : decode cX5_give 244 = .ok (.invokevirtual 88, 3) := by decide +kernel
theorem dX5_give_247 : decode cX5_give 247 = .ok (.aload_n 0, 1) := by decide +kernel
theorem dX5_give_248 : decode cX5_give 248 = .ok (.iload_n 1, 1) := by decide +kernel
theorem dX5_give_249 : decode cX5_give 249 = .ok (.invokevirtual 88, 3) := by decide +kernel
theorem dX5_give_252 : decode cX5_give 252 = .ok (.return_, 1) := by decide +kernel
theorem dX5_join_0 : decode cX5_join 0 = .ok (.aload_n 0, 1) := by decide +kernel
theorem dX5_join_1 : decode cX5_join 1 = .ok (.getfield 19, 3) := by decide +kernel
theorem dX5_join_4 : decode cX5_join 4 = .ok (.iconst 5, 1) := by decide +kernel
theorem dX5_join_5 : decode cX5_join 5 = .ok (.iload_n 1, 1) := by decide +kernel
theorem dX5_join_6 : decode cX5_join 6 = .ok (.imul, 1) := by decide +kernel
theorem dX5_join_7 : decode cX5_join 7 = .ok (.iload_n 2, 1) := by decide +kernel
theorem dX5_join_8 : decode cX5_join 8 = .ok (.iadd, 1) := by decide +kernel
theorem dX5_join_9 : decode cX5_join 9 = .ok (.iaload, 1) := by decide +kernel
theorem dX5_join_10 : decode cX5_join 10 = .ok (.istore_n 3, 1) := by decide +kernel
theorem dX5_join_11 : decode cX5_join 11 = .ok (.aload_n 0, 1) := by decide +kernel
theorem dX5_join_12 : decode cX5_join 12 = .ok (.getfield 19, 3) := by decide +kernel
theorem dX5_join_15 : decode cX5_join 15 = .ok (.iconst 5, 1) := by decide +kernel
theorem dX5_join_16 : decode cX5_join 16 = .ok (.iload_n 1, 1) := by decide +kernel
theorem dX5_join_17 : decode cX5_join 17 = .ok (.imul, 1) := by decide +kernel
theorem dX5_join_18 : decode cX5_join 18 = .ok (.iload_n 2, 1) := by decide +kernel
theorem dX5_join_19 : decode cX5_join 19 = .ok (.iadd, 1) := by decide +kernel
theorem dX5_join_20 : decode cX5_join 20 = .ok (.iconst 1, 1) := by decide +kernel
theorem dX5_join_21 : decode cX5_join 21 = .ok (.iadd, 1) := by decide +kernel
theorem dX5_join_22 : decode cX5_join 22 = .ok (.iaload, 1) := by decide +kernel
theorem dX5_join_23 : decode cX5_join 23 = .ok (.istore 4, 2) := by decide +kernel
theorem dX5_join_25 : decode cX5_join 25 = .ok (.aload_n 0, 1) := by decide +kernel
theorem dX5_join_26 : decode cX5_join 26 = .ok (.getfield 7, 3) := by decide +kernel
theorem dX5_join_29 : decode cX5_join 29 = .ok (.iload_n 3, 1) := by decide +kernel
theorem dX5_join_30 : decode cX5_join 30 = .ok (.iaload, 1) := by decide +kernel
theorem dX5_join_31 : decode cX5_join 31 = .ok (.iconst 2, 1) := by decide +kernel
theorem dX5_join_32 : decode cX5_join 32 = .ok (.if_icmp .ne 24, 3) := by decide +kernel
theorem dX5_join_35 : decode cX5_join 35 = .ok (.aload_n 0, 1) := by decide +kernel
theorem dX5_join_36 : decode cX5_join 36 = .ok (.getfield 16, 3) := by decide +kernel
theorem dX5_join_39 : decode cX5_join 39 = .ok (.iconst 5, 1) := by decide +kernel
theorem dX5_join_40 : decode cX5_join 40 = .ok (.iload 4, 2) := by decide +kernel
theorem dX5_join_42 : decode cX5_join 42 = .ok (.imul, 1) := by decide +kernel
theorem dX5_join_43 : decode cX5_join 43 = .ok (.aload_n 0, 1) := by decide +kernel
theorem dX5_join_44 : decode cX5_join 44 = .ok (.getfield 16, 3) := by decide +kernel
theorem dX5_join_47 : decode cX5_join 47 = .ok (.iconst 5, 1) := by decide +kernel
theorem dX5_join_48 : decode cX5_join 48 = .ok (.iload_n 1, 1) := by decide +kernel
theorem dX5_join_49 : decode cX5_join 49 = .ok (.imul, 1) := by decide +kernel
theorem dX5_join_50 : decode cX5_join 50 = .ok (.iload_n 2, 1) := by decide +kernel
theorem dX5_join_51 : decode cX5_join 51 = .ok (.iadd, 1) := by decide +kernel
theorem dX5_join_52 : decode cX5_join 52 = .ok (.iconst 1, 1) := by decide +kernel
theorem dX5_join_53 : decode cX5_join 53 = .ok (.iadd, 1) := by decide +kernel
theorem dX5_join_54 : decode cX5_join 54 = .ok (.iaload, 1) := by decide +kernel
theorem dX5_join_55 : decode cX5_join 55 = .ok (.iastore, 1) := by decide +kernel
theorem dX5_join_56 : decode cX5_join 56 = .ok (.iconst 0, 1) := by decide +kernel
theorem dX5_join_57 : decode cX5_join 57 = .ok (.istore 5, 2) := by decide +kernel
theorem dX5_join_59 : decode cX5_join 59 = .ok (.iload 5, 2) := by decide +kernel
theorem dX5_join_61 : decode cX5_join 61 = .ok (.aload_n 0, 1) := by decide +kernel
theorem dX5_join_62 : decode cX5_join 62 = .ok (.getfield 13, 3) := by decide +kernel
theorem dX5_join_65 : decode cX5_join 65 = .ok (.iload 4, 2) := by decide +kernel
theorem dX5_join_67 : decode cX5_join 67 = .ok (.iaload, 1) := by decide +kernel
theorem dX5_join_68 : decode cX5_join 68 = .ok (.if_icmp .ge 44, 3) := by decide +kernel
theorem dX5_join_71 : decode cX5_join 71 = .ok (.aload_n 0, 1) := by decide +kernel
theorem dX5_join_72 : decode cX5_join 72 = .ok (.iload_n 3, 1) := by decide +kernel
theorem dX5_join_73 : decode cX5_join 73 = .ok (.aload_n 0, 1) := by decide +kernel
theorem dX5_join_74 : decode cX5_join 74 = .ok (.getfield 13, 3) := by decide +kernel
theorem dX5_join_77 : decode cX5_join 77 = .ok (.iload_n 3, 1) := by decide +kernel
theorem dX5_join_78 : decode cX5_join 78 = .ok (.iaload, 1) := by decide +kernel
theorem dX5_join_79 : decode cX5_join 79 = .ok (.aload_n 0, 1) := by decide +kernel
theorem dX5_join_80 : decode cX5_join 80 = .ok (.getfield 16, 3) := by decide +kernel
theorem dX5_join_83 : decode cX5_join 83 = .ok (.iconst 5, 1) := by decide +kernel
theorem dX5_join_84 : decode cX5_join 84 = .ok (.iload 4, 2) := by decide +kernel
theorem dX5_join_86 : decode cX5_join 86 = .ok (.imul, 1) := by decide +kernel
theorem dX5_join_87 : decode cX5_join 87 = .ok (.iload 5, 2) := by decide +kernel
theorem dX5_join_89 : decode cX5_join 89 = .ok (.iadd, 1) := by decide +kernel
theorem dX5_join_90 : decode cX5_join 90 = .ok (.iaload, 1) := by decide +kernel
theorem dX5_join_91 : decode cX5_join 91 = .ok (.aload_n 0, 1) := by decide +kernel
theorem dX5_join_92 : decode cX5_join 92 = .ok (.getfield 19, 3) := by decide +kernel
theorem dX5_join_95 : decode cX5_join 95 = .ok (.iconst 5, 1) := by decide +kernel
theorem dX5_join_96 : decode cX5_join 96 = .ok (.iload 4, 2) := by decide +kernel
theorem dX5_join_98 : decode cX5_join 98 = .ok (.imul, 1) := by decide +kernel
theorem dX5_join_99 : decode cX5_join 99 = .ok (.iload 5, 2) := by decide +kernel
theorem dX5_join_101 : decode cX5_join 101 = .ok (.iadd, 1) := by decide +kernel
theorem dX5_join_102 : decode cX5_join 102 = .ok (.iaload, 1) := by decide +kernel
theorem dX5_join_103 : decode cX5_join 103 = .ok (.invokevirtual 84, 3) := by decide +kernel
theorem dX5_join_106 : decode cX5_join 106 = .ok (.iinc 5 1, 3) := by decide +kernel
theorem dX5_join_109 : decode cX5_join 109 = .ok (.goto (-50), 3) := by decide +kernel
theorem dX5_join_112 : decode cX5_join 112 = .ok (.aload_n 0, 1) := by decide +kernel
theorem dX5_join_113 : decode cX5_join 113 = .ok (.getfield 22, 3) := by decide +kernel
theorem dX5_join_116 : decode cX5_join 116 = .ok (.iload_n 3, 1) := by decide +kernel
theorem dX5_join_117 : decode cX5_join 117 = .ok (.aload_n 0, 1) := by decide +kernel
theorem dX5_join_118 : decode cX5_join 118 = .ok (.getfield 22, 3) := by decide +kernel
theorem dX5_join_121 : decode cX5_join 121 = .ok (.iload 4, 2) := by decide +kernel
theorem dX5_join_123 : decode cX5_join 123 = .ok (.iaload, 1) := by decide +kernel
theorem dX5_join_124 : decode cX5_join 124 = .ok (.iastore, 1) := by decide +kernel
theorem dX5_join_125 : decode cX5_join 125 = .ok (.aload_n 0, 1) := by decide +kernel
theorem dX5_join_126 : decode cX5_join 126 = .ok (.iload_n 1, 1) := by decide +kernel
theorem dX5_join_127 : decode cX5_join 127 = .ok (.iload_n 2, 1) := by decide +kernel
theorem dX5_join_128 : decode cX5_join 128 = .ok (.iconst 1, 1) := by decide +kernel
theorem dX5_join_129 : decode cX5_join 129 = .ok (.iadd, 1) := by decide +kernel
theorem dX5_join_130 : decode cX5_join 130 = .ok (.invokevirtual 124, 3) := by decide +kernel
theorem dX5_join_133 : decode cX5_join 133 = .ok (.aload_n 0, 1) := by decide +kernel
theorem dX5_join_134 : decode cX5_join 134 = .ok (.iload 4, 2) := by decide +kernel
theorem dX5_join_136 : decode cX5_join 136 = .ok (.invokevirtual 128, 3) := by decide +kernel
theorem dX5_join_139 : decode cX5_join 139 = .ok (.aload_n 0, 1) := by decide +kernel
theorem dX5_join_140 : decode cX5_join 140 = .ok (.iload_n 3, 1) := by decide +kernel
theorem dX5_join_141 : decode cX5_join 141 = .ok (.invokevirtual 88, 3) := by decide +kernel
theorem dX5_join_144 : decode cX5_join 144 = .ok (.aload_n 0, 1) := by decide +kernel
theorem dX5_join_145 : decode cX5_join 145 = .ok (.iload_n 1, 1) := by decide +kernel
theorem dX5_join_146 : decode cX5_join 146 = .ok (.invokevirtual 88, 3) := by decide +kernel
theorem dX5_join_149 : decode cX5_join 149 = .ok (.return_, 1) := by decide +kernel
theorem dX5_mend_0 : decode cX5_mend 0 = .ok (.aload_n 0, 1) := by decide +kernel
theorem dX5_mend_1 : decode cX5_mend 1 = .ok (.getfield 25, 3) := by decide +kernel
theorem dX5_mend_4 : decode cX5_mend 4 = .ok (.iload_n 1, 1) := by decide +kernel
theorem dX5_mend_5 : decode cX5_mend 5 = .ok (.iconst 1, 1) := by decide +kernel
theorem dX5_mend_6 : decode cX5_mend 6 = .ok (.isub, 1) := by decide +kernel
theorem dX5_mend_7 : decode cX5_mend 7 = .ok (.iaload, 1) := by decide +kernel
theorem dX5_mend_8 : decode cX5_mend 8 = .ok (.istore_n 2, 1) := by decide +kernel
theorem dX5_mend_9 : decode cX5_mend 9 = .ok (.aload_n 0, 1) := by decide +kernel
theorem dX5_mend_10 : decode cX5_mend 10 = .ok (.getfield 28, 3) := by decide +kernel
theorem dX5_mend_13 : decode cX5_mend 13 = .ok (.iload_n 1, 1) := by decide +kernel
theorem dX5_mend_14 : decode cX5_mend 14 = .ok (.iaload, 1) := by decide +kernel
theorem dX5_mend_15 : decode cX5_mend 15 = .ok (.istore_n 3, 1) := by decide +kernel
theorem dX5_mend_16 : decode cX5_mend 16 = .ok (.iload_n 3, 1) := by decide +kernel
theorem dX5_mend_17 : decode cX5_mend 17 = .ok (.ifCond .le 7, 3) := by decide +kernel
theorem dX5_mend_20 : decode cX5_mend 20 = .ok (.iconst 1, 1) := by decide +kernel
theorem dX5_mend_21 : decode cX5_mend 21 = .ok (.goto 4, 3) := by decide +kernel
theorem dX5_mend_24 : decode cX5_mend 24 = .ok (.iconst 0, 1) := by decide +kernel
theorem dX5_mend_25 : decode cX5_mend 25 = .ok (.istore 4, 2) := by decide +kernel
theorem dX5_mend_27 : decode cX5_mend 27 = .ok (.iload_n 3, 1) := by decide +kernel
theorem dX5_mend_28 : decode cX5_mend 28 = .ok (.iconst 1, 1) := by decide +kernel
theorem dX5_mend_29 : decode cX5_mend 29 = .ok (.iadd, 1) := by decide +kernel
theorem dX5_mend_30 : decode cX5_mend 30 = .ok (.aload_n 0, 1) := by decide +kernel
theorem dX5_mend_31 : decode cX5_mend 31 = .ok (.getfield 13, 3) := by decide +kernel
theorem dX5_mend_34 : decode cX5_mend 34 = .ok (.iload_n 2, 1) := by decide +kernel
theorem dX5_mend_35 : decode cX5_mend 35 = .ok (.iaload, 1) := by decide +kernel
theorem dX5_mend_36 : decode cX5_mend 36 = .ok (.if_icmp .ge 7, 3) := by decide +kernel
theorem dX5_mend_39 : decode cX5_mend 39 = .ok (.iconst 1, 1) := by decide +kernel
theorem dX5_mend_40 : decode cX5_mend 40 = .ok (.goto 4, 3) := by decide +kernel
theorem dX5_mend_43 : decode cX5_mend 43 = .ok (.iconst 0, 1) := by decide +kernel
theorem dX5_mend_44 : decode cX5_mend 44 = .ok (.istore 5, 2) := by decide +kernel
theorem dX5_mend_46 : decode cX5_mend 46 = .ok (.iload 4, 2) := by decide +kernel
theorem dX5_mend_48 : decode cX5_mend 48 = .ok (.ifCond .eq 45, 3) := by decide +kernel
theorem dX5_mend_51 : decode cX5_mend 51 = .ok (.aload_n 0, 1) := by decide +kernel
theorem dX5_mend_52 : decode cX5_mend 52 = .ok (.getfield 19, 3) := by decide +kernel
theorem dX5_mend_55 : decode cX5_mend 55 = .ok (.iconst 5, 1) := by decide +kernel
theorem dX5_mend_56 : decode cX5_mend 56 = .ok (.iload_n 2, 1) := by decide +kernel
theorem dX5_mend_57 : decode cX5_mend 57 = .ok (.imul, 1) := by decide +kernel
theorem dX5_mend_58 : decode cX5_mend 58 = .ok (.iload_n 3, 1) := by decide +kernel
theorem dX5_mend_59 : decode cX5_mend 59 = .ok (.iadd, 1) := by decide +kernel
theorem dX5_mend_60 : decode cX5_mend 60 = .ok (.iconst 1, 1) := by decide +kernel
theorem dX5_mend_61 : decode cX5_mend 61 = .ok (.isub, 1) := by decide +kernel
theorem dX5_mend_62 : decode cX5_mend 62 = .ok (.iaload, 1) := by decide +kernel
theorem dX5_mend_63 : decode cX5_mend 63 = .ok (.istore 6, 2) := by decide +kernel
theorem dX5_mend_65 : decode cX5_mend 65 = .ok (.aload_n 0, 1) := by decide +kernel
theorem dX5_mend_66 : decode cX5_mend 66 = .ok (.iload 6, 2) := by decide +kernel
theorem dX5_mend_68 : decode cX5_mend 68 = .ok (.iconst 0, 1) := by decide +kernel
theorem dX5_mend_69 : decode cX5_mend 69 = .ok (.invokevirtual 77, 3) := by decide +kernel
theorem dX5_mend_72 : decode cX5_mend 72 = .ok (.aload_n 0, 1) := by decide +kernel
theorem dX5_mend_73 : decode cX5_mend 73 = .ok (.getfield 13, 3) := by decide +kernel
theorem dX5_mend_76 : decode cX5_mend 76 = .ok (.iload 6, 2) := by decide +kernel
theorem dX5_mend_78 : decode cX5_mend 78 = .ok (.iaload, 1) := by decide +kernel
theorem dX5_mend_79 : decode cX5_mend 79 = .ok (.iconst 2, 1) := by decide +kernel
theorem dX5_mend_80 : decode cX5_mend 80 = .ok (.if_icmp .le 13, 3) := by decide +kernel
theorem dX5_mend_83 : decode cX5_mend 83 = .ok (.aload_n 0, 1) := by decide +kernel
theorem dX5_mend_84 : decode cX5_mend 84 = .ok (.iload_n 2, 1) := by decide +kernel
theorem dX5_mend_85 : decode cX5_mend 85 = .ok (.iload_n 3, 1) := by decide +kernel
theorem dX5_mend_86 : decode cX5_mend 86 = .ok (.iconst 1, 1) := by decide +kernel
theorem dX5_mend_87 : decode cX5_mend 87 = .ok (.isub, 1) := by decide +kernel
theorem dX5_mend_88 : decode cX5_mend 88 = .ok (.iconst 1, 1) := by decide +kernel
theorem dX5_mend_89 : decode cX5_mend 89 = .ok (.invokevirtual 131, 3) := by decide +kernel
theorem dX5_mend_92 : decode cX5_mend 92 = .ok (.return_, 1) := by decide +kernel
theorem dX5_mend_93 : decode cX5_mend 93 = .ok (.iload 5, 2) := by decide +kernel
theorem dX5_mend_95 : decode cX5_mend 95 = .ok (.ifCond .eq 43, 3) := by decide +kernel
theorem dX5_mend_98 : decode cX5_mend 98 = .ok (.aload_n 0, 1) := by decide +kernel
theorem dX5_mend_99 : decode cX5_mend 99 = .ok (.getfield 19, 3) := by decide +kernel
theorem dX5_mend_102 : decode cX5_mend 102 = .ok (.iconst 5, 1) := by decide +kernel
theorem dX5_mend_103 : decode cX5_mend 103 = .ok (.iload_n 2, 1) := by decide +kernel
theorem dX5_mend_104 : decode cX5_mend 104 = .ok (.imul, 1) := by decide +kernel
theorem dX5_mend_105 : decode cX5_mend 105 = .ok (.iload_n 3, 1) := by decide +kernel
theorem dX5_mend_106 : decode cX5_mend 106 = .ok (.iadd, 1) := by decide +kernel
theorem dX5_mend_107 : decode cX5_mend 107 = .ok (.iconst 1, 1) := by decide +kernel
theorem dX5_mend_108 : decode cX5_mend 108 = .ok (.iadd, 1) := by decide +kernel
theorem dX5_mend_109 : decode cX5_mend 109 = .ok (.iaload, 1) := by decide +kernel
theorem dX5_mend_110 : decode cX5_mend 110 = .ok (.istore 6, 2) := by decide +kernel
theorem dX5_mend_112 : decode cX5_mend 112 = .ok (.aload_n 0, 1) := by decide +kernel
theorem dX5_mend_113 : decode cX5_mend 113 = .ok (.iload 6, 2) := by decide +kernel
theorem dX5_mend_115 : decode cX5_mend 115 = .ok (.iconst 0, 1) := by decide +kernel
theorem dX5_mend_116 : decode cX5_mend 116 = .ok (.invokevirtual 77, 3) := by decide +kernel
theorem dX5_mend_119 : decode cX5_mend 119 = .ok (.aload_n 0, 1) := by decide +kernel
theorem dX5_mend_120 : decode cX5_mend 120 = .ok (.getfield 13, 3) := by decide +kernel
theorem dX5_mend_123 : decode cX5_mend 123 = .ok (.iload 6, 2) := by decide +kernel
theorem dX5_mend_125 : decode cX5_mend 125 = .ok (.iaload, 1) := by decide +kernel
theorem dX5_mend_126 : decode cX5_mend 126 = .ok (.iconst 2, 1) := by decide +kernel
theorem dX5_mend_127 : decode cX5_mend 127 = .ok (.if_icmp .le 11, 3) := by decide +kernel
theorem dX5_mend_130 : decode cX5_mend 130 = .ok (.aload_n 0, 1) := by decide +kernel
theorem dX5_mend_131 : decode cX5_mend 131 = .ok (.iload_n 2, 1) := by decide +kernel
theorem dX5_mend_132 : decode cX5_mend 132 = .ok (.iload_n 3, 1) := by decide +kernel
theorem dX5_mend_133 : decode cX5_mend 133 = .ok (.iconst 0, 1) := by decide +kernel
theorem dX5_mend_134 : decode cX5_mend 134 = .ok (.invokevirtual 131, 3) := by decide +kernel
theorem dX5_mend_137 : decode cX5_mend 137 = .ok (.return_, 1) := by decide +kernel
theorem dX5_mend_138 : decode cX5_mend 138 = .ok (.aload_n 0, 1) := by decide +kernel
theorem dX5_mend_139 : decode cX5_mend 139 = .ok (.iload_n 2, 1) := by decide +kernel
theorem dX5_mend_140 : decode cX5_mend 140 = .ok (.iload 4, 2) := by decide +kernel
theorem dX5_mend_142 : decode cX5_mend 142 = .ok (.ifCond .eq 9, 3) := by decide +kernel
theorem dX5_mend_145 : decode cX5_mend 145 = .ok (.iload_n 3, 1) := by decide +kernel
theorem dX5_mend_146 : decode cX5_mend 146 = .ok (.iconst 1, 1) := by decide +kernel
theorem dX5_mend_147 : decode cX5_mend 147 = .ok (.isub, 1) := by decide +kernel
theorem dX5_mend_148 : decode cX5_mend 148 = .ok (.goto 4, 3) := by decide +kernel
theorem dX5_mend_151 : decode cX5_mend 151 = .ok (.iload_n 3, 1) := by decide +kernel
theorem dX5_mend_152 : decode cX5_mend 152 = .ok (.invokevirtual 135, 3) := by decide +kernel
theorem dX5_mend_155 : decode cX5_mend 155 = .ok (.return_, 1) := by decide +kernel
theorem dX5_remove_0 : decode cX5_remove 0 = .ok (.aload_n 0, 1) := by decide +kernel
theorem dX5_remove_1 : decode cX5_remove 1 = .ok (.iconst 0, 1) := by decide +kernel
theorem dX5_remove_2 : decode cX5_remove 2 = .ok (.putfield 44, 3) := by decide +kernel
theorem dX5_remove_5 : decode cX5_remove 5 = .ok (.aload_n 0, 1) := by decide +kernel
theorem dX5_remove_6 : decode cX5_remove 6 = .ok (.iconst 0, 1) := by decide +kernel
theorem dX5_remove_7 : decode cX5_remove 7 = .ok (.putfield 108, 3) := by decide +kernel
theorem dX5_remove_10 : decode cX5_remove 10 = .ok (.aload_n 0, 1) := by decide +kernel
theorem dX5_remove_11 : decode cX5_remove 11 = .ok (.iload_n 1, 1) := by decide +kernel
theorem dX5_remove_12 : decode cX5_remove 12 = .ok (.invokevirtual 92, 3) := by decide +kernel
theorem dX5_remove_15 : decode cX5_remove 15 = .ok (.aload_n 0, 1) := by decide +kernel
theorem dX5_remove_16 : decode cX5_remove 16 = .ok (.invokevirtual 112, 3) := by decide +kernel
theorem dX5_remove_19 : decode cX5_remove 19 = .ok (.aload_n 0, 1) := by decide +kernel
theorem dX5_remove_20 : decode cX5_remove 20 = .ok (.iload_n 1, 1) := by decide +kernel
theorem dX5_remove_21 : decode cX5_remove 21 = .ok (.invokevirtual 95, 3) := by decide +kernel
theorem dX5_remove_24 : decode cX5_remove 24 = .ok (.istore_n 2, 1) := by decide +kernel
theorem dX5_remove_25 : decode cX5_remove 25 = .ok (.aload_n 0, 1) := by decide +kernel
theorem dX5_remove_26 : decode cX5_remove 26 = .ok (.iload_n 2, 1) := by decide +kernel
theorem dX5_remove_27 : decode cX5_remove 27 = .ok (.iload_n 1, 1) := by decide +kernel
theorem dX5_remove_28 : decode cX5_remove 28 = .ok (.invokevirtual 98, 3) := by decide +kernel
theorem dX5_remove_31 : decode cX5_remove 31 = .ok (.istore_n 3, 1) := by decide +kernel
theorem dX5_remove_32 : decode cX5_remove 32 = .ok (.iload_n 3, 1) := by decide +kernel
theorem dX5_remove_33 : decode cX5_remove 33 = .ok (.ifCond .eq 130, 3) := by decide +kernel
theorem dX5_remove_36 : decode cX5_remove 36 = .ok (.aload_n 0, 1) := by decide +kernel
theorem dX5_remove_37 : decode cX5_remove 37 = .ok (.aload_n 0, 1) := by decide +kernel
theorem dX5_remove_38 : decode cX5_remove 38 = .ok (.getfield 25, 3) := by decide +kernel
theorem dX5_remove_41 : decode cX5_remove 41 = .ok (.aload_n 0, 1) := by decide +kernel
theorem dX5_remove_42 : decode cX5_remove 42 = .ok (.getfield 74, 3) := by decide +kernel
theorem dX5_remove_45 : decode cX5_remove 45 = .ok (.iaload, 1) := by decide +kernel
theorem dX5_remove_46 : decode cX5_remove 46 = .ok (.iload_n 2, 1) := by decide +kernel
theorem dX5_remove_47 : decode cX5_remove 47 = .ok (.invokevirtual 124, 3) := by decide +kernel
theorem dX5_remove_50 : decode cX5_remove 50 = .ok (.aload_n 0, 1) := by decide +kernel
theorem dX5_remove_51 : decode cX5_remove 51 = .ok (.aload_n 0, 1) := by decide +kernel
theorem dX5_remove_52 : decode cX5_remove 52 = .ok (.getfield 25, 3) := by decide +kernel
theorem dX5_remove_55 : decode cX5_remove 55 = .ok (.aload_n 0, 1) := by decide +kernel
theorem dX5_remove_56 : decode cX5_remove 56 = .ok (.getfield 74, 3) := by decide +kernel
theorem dX5_remove_59 : decode cX5_remove 59 = .ok (.iaload, 1) := by decide +kernel
theorem dX5_remove_60 : decode cX5_remove 60 = .ok (.invokevirtual 88, 3) := by decide +kernel
theorem dX5_remove_63 : decode cX5_remove 63 = .ok (.aload_n 0, 1) := by decide +kernel
theorem dX5_remove_64 : decode cX5_remove 64 = .ok (.dup, 1) := by decide +kernel
theorem dX5_remove_65 : decode cX5_remove 65 = .ok (.getfield 115, 3) := by decide +kernel
theorem dX5_remove_68 : decode cX5_remove 68 = .ok (.iconst 1, 1) := by decide +kernel
theorem dX5_remove_69 : decode cX5_remove 69 = .ok (.isub, 1) := by decide +kernel
theorem dX5_remove_70 : decode cX5_remove 70 = .ok (.putfield 115, 3) := by decide +kernel
theorem dX5_remove_73 : decode cX5_remove 73 = .ok (.aload_n 0, 1) := by decide +kernel
theorem dX5_remove_74 : decode cX5_remove 74 = .ok (.getfield 74, 3) := by decide +kernel
theorem dX5_remove_77 : decode cX5_remove 77 = .ok (.istore 4, 2) := by decide +kernel
theorem dX5_remove_79 : decode cX5_remove 79 = .ok (.iload 4, 2) := by decide +kernel
theorem dX5_remove_81 : decode cX5_remove 81 = .ok (.ifCond .le 31, 3) := by decide +kernel
theorem dX5_remove_84 : decode cX5_remove 84 = .ok (.aload_n 0, 1) := by decide +kernel
theorem dX5_remove_85 : decode cX5_remove 85 = .ok (.getfield 13, 3) := by decide +kernel
theorem dX5_remove_88 : decode cX5_remove 88 = .ok (.aload_n 0, 1) := by decide +kernel
theorem dX5_remove_89 : decode cX5_remove 89 = .ok (.getfield 25, 3) := by decide +kernel
theorem dX5_remove_92 : decode cX5_remove 92 = .ok (.iload 4, 2) := by decide +kernel
theorem dX5_remove_94 : decode cX5_remove 94 = .ok (.iaload, 1) := by decide +kernel
theorem dX5_remove_95 : decode cX5_remove 95 = .ok (.iaload, 1) := by decide +kernel
theorem dX5_remove_96 : decode cX5_remove 96 = .ok (.iconst 2, 1) := by decide +kernel
theorem dX5_remove_97 : decode cX5_remove 97 = .ok (.if_icmp .ge 15, 3) := by decide +kernel
theorem dX5_remove_100 : decode cX5_remove 100 = .ok (.aload_n 0, 1) := by decide +kernel
theorem dX5_remove_101 : decode cX5_remove 101 = .ok (.iload 4, 2) := by decide +kernel
theorem dX5_remove_103 : decode cX5_remove 103 = .ok (.invokevirtual 138, 3) := by decide +kernel
theorem dX5_remove_106 : decode cX5_remove 106 = .ok (.iinc 4 (-1), 3) := by decide +kernel
theorem dX5_remove_109 : decode cX5_remove 109 = .ok (.goto (-30), 3) := by decide +kernel
theorem dX5_remove_112 : decode cX5_remove 112 = .ok (.aload_n 0, 1) := by decide +kernel
theorem dX5_remove_113 : decode cX5_remove 113 = .ok (.getfield 7, 3) := by decide +kernel
theorem dX5_remove_116 : decode cX5_remove 116 = .ok (.aload_n 0, 1) := by decide +kernel
theorem dX5_remove_117 : decode cX5_remove 117 = .ok (.getfield 71, 3) := by decide +kernel
theorem dX5_remove_120 : decode cX5_remove 120 = .ok (.iaload, 1) := by decide +kernel
theorem dX5_remove_121 : decode cX5_remove 121 = .ok (.iconst 2, 1) := by decide +kernel
theorem dX5_remove_122 : decode cX5_remove 122 = .ok (.if_icmp .ne 41, 3) := by decide +kernel
theorem dX5_remove_125 : decode cX5_remove 125 = .ok (.aload_n 0, 1) := by decide +kernel
theorem dX5_remove_126 : decode cX5_remove 126 = .ok (.getfield 13, 3) := by decide +kernel
theorem dX5_remove_129 : decode cX5_remove 129 = .ok (.aload_n 0, 1) := by decide +kernel
theorem dX5_remove_130 : decode cX5_remove 130 = .ok (.getfield 71, 3) := by decide +kernel
theorem dX5_remove_133 : decode cX5_remove 133 = .ok (.iaload, 1) := by decide +kernel
theorem dX5_remove_134 : decode cX5_remove 134 = .ok (.iconst 1, 1) := by decide +kernel
theorem dX5_remove_135 : decode cX5_remove 135 = .ok (.if_icmp .ne 28, 3) := by decide +kernel
theorem dX5_remove_138 : decode cX5_remove 138 = .ok (.aload_n 0, 1) := by decide +kernel
theorem dX5_remove_139 : decode cX5_remove 139 = .ok (.getfield 71, 3) := by decide +kernel
theorem dX5_remove_142 : decode cX5_remove 142 = .ok (.istore 4, 2) := by decide +kernel
theorem dX5_remove_144 : decode cX5_remove 144 = .ok (.aload_n 0, 1) := by decide +kernel
theorem dX5_remove_145 : decode cX5_remove 145 = .ok (.aload_n 0, 1) := by decide +kernel
theorem dX5_remove_146 : decode cX5_remove 146 = .ok (.getfield 19, 3) := by decide +kernel
theorem dX5_remove_149 : decode cX5_remove 149 = .ok (.iconst 5, 1) := by decide +kernel
theorem dX5_remove_150 : decode cX5_remove 150 = .ok (.iload 4, 2) := by decide +kernel
theorem dX5_remove_152 : decode cX5_remove 152 = .ok (.imul, 1) := by decide +kernel
theorem dX5_remove_153 : decode cX5_remove 153 = .ok (.iaload, 1) := by decide +kernel
theorem dX5_remove_154 : decode cX5_remove 154 = .ok (.putfield 71, 3) := by decide +kernel
theorem dX5_remove_157 : decode cX5_remove 157 = .ok (.aload_n 0, 1) := by decide +kernel
theorem dX5_remove_158 : decode cX5_remove 158 = .ok (.iload 4, 2) := by decide +kernel
theorem dX5_remove_160 : decode cX5_remove 160 = .ok (.invokevirtual 128, 3) := by decide +kernel
theorem dX5_remove_163 : decode cX5_remove 163 = .ok (.aload_n 0, 1) := by decide +kernel
theorem dX5_remove_164 : decode cX5_remove 164 = .ok (.invokevirtual 121, 3) := by decide +kernel
theorem dX5_remove_167 : decode cX5_remove 167 = .ok (.iload_n 3, 1) := by decide +kernel
theorem dX5_remove_168 : decode cX5_remove 168 = .ok (.ireturn, 1) := by decide +kernel
theorem dX5_arrive_0 : decode cX5_arrive 0 = .ok (.iload_n 1, 1) := by decide +kernel
theorem dX5_arrive_1 : decode cX5_arrive 1 = .ok (.istore_n 3, 1) := by decide +kernel
theorem dX5_arrive_2 : decode cX5_arrive 2 = .ok (.iload_n 2, 1) := by decide +kernel
theorem dX5_arrive_3 : decode cX5_arrive 3 = .ok (.istore 4, 2) := by decide +kernel
theorem dX5_arrive_5 : decode cX5_arrive 5 = .ok (.iload 4, 2) := by decide +kernel
theorem dX5_arrive_7 : decode cX5_arrive 7 = .ok (.aload_n 0, 1) := by decide +kernel
theorem dX5_arrive_8 : decode cX5_arrive 8 = .ok (.getfield 13, 3) := by decide +kernel
theorem dX5_arrive_11 : decode cX5_arrive 11 = .ok (.iload_n 3, 1) := by decide +kernel
theorem dX5_arrive_12 : decode cX5_arrive 12 = .ok (.iaload, 1) := by decide +kernel
theorem dX5_arrive_13 : decode cX5_arrive 13 = .ok (.if_icmp .lt 24, 3) := by decide +kernel
theorem dX5_arrive_16 : decode cX5_arrive 16 = .ok (.aload_n 0, 1) := by decide +kernel
theorem dX5_arrive_17 : decode cX5_arrive 17 = .ok (.getfield 22, 3) := by decide +kernel
theorem dX5_arrive_20 : decode cX5_arrive 20 = .ok (.iload_n 3, 1) := by decide +kernel
theorem dX5_arrive_21 : decode cX5_arrive 21 = .ok (.iaload, 1) := by decide +kernel
theorem dX5_arrive_22 : decode cX5_arrive 22 = .ok (.istore_n 3, 1) := by decide +kernel
theorem dX5_arrive_23 : decode cX5_arrive 23 = .ok (.iconst 0, 1) := by decide +kernel
theorem dX5_arrive_24 : decode cX5_arrive 24 = .ok (.istore 4, 2) := by decide +kernel
theorem dX5_arrive_26 : decode cX5_arrive 26 = .ok (.iload_n 3, 1) := by decide +kernel
theorem dX5_arrive_27 : decode cX5_arrive 27 = .ok (.iconst (-1), 1) := by decide +kernel
theorem dX5_arrive_28 : decode cX5_arrive 28 = .ok (.if_icmp .eq 9, 3) := by decide +kernel
theorem dX5_arrive_31 : decode cX5_arrive 31 = .ok (.aload_n 0, 1) := by decide +kernel
theorem dX5_arrive_32 : decode cX5_arrive 32 = .ok (.iload_n 3, 1) := by decide +kernel
theorem dX5_arrive_33 : decode cX5_arrive 33 = .ok (.iconst 0, 1) := by decide +kernel
theorem dX5_arrive_34 : decode cX5_arrive 34 = .ok (.invokevirtual 77, 3) := by decide +kernel
theorem dX5_arrive_37 : decode cX5_arrive 37 = .ok (.aload_n 0, 1) := by decide +kernel
theorem dX5_arrive_38 : decode cX5_arrive 38 = .ok (.invokevirtual 121, 3) := by decide +kernel
theorem dX5_arrive_41 : decode cX5_arrive 41 = .ok (.aload_n 0, 1) := by decide +kernel
theorem dX5_arrive_42 : decode cX5_arrive 42 = .ok (.iload_n 3, 1) := by decide +kernel
theorem dX5_arrive_43 : decode cX5_arrive 43 = .ok (.iconst (-1), 1) := by decide +kernel
theorem dX5_arrive_44 : decode cX5_arrive 44 = .ok (.if_icmp .eq 18, 3) := by decide +kernel
theorem dX5_arrive_47 : decode cX5_arrive 47 = .ok (.iload 4, 2) := by decide +kernel
theorem dX5_arrive_49 : decode cX5_arrive 49 = .ok (.aload_n 0, 1) := by decide +kernel
theorem dX5_arrive_50 : decode cX5_arrive 50 = .ok (.getfield 13, 3) := by decide +kernel
theorem dX5_arrive_53 : decode cX5_arrive 53 = .ok (.iload_n 3, 1) := by decide +kernel
theorem dX5_arrive_54 : decode cX5_arrive 54 = .ok (.iaload, 1) := by decide +kernel
theorem dX5_arrive_55 : decode cX5_arrive 55 = .ok (.if_icmp .ge 7, 3) := by decide +kernel
theorem dX5_arrive_58 : decode cX5_arrive 58 = .ok (.iconst 1, 1) := by decide +kernel
theorem dX5_arrive_59 : decode cX5_arrive 59 = .ok (.goto 4, 3) := by decide +kernel
theorem dX5_arrive_62 : decode cX5_arrive 62 = .ok (.iconst 0, 1) := by decide +kernel
theorem dX5_arrive_63 : decode cX5_arrive 63 = .ok (.putfield 108, 3) := by decide +kernel
theorem dX5_arrive_66 : decode cX5_arrive 66 = .ok (.aload_n 0, 1) := by decide +kernel
theorem dX5_arrive_67 : decode cX5_arrive 67 = .ok (.getfield 108, 3) := by decide +kernel
theorem dX5_arrive_70 : decode cX5_arrive 70 = .ok (.ifCond .eq 44, 3) := by decide +kernel
theorem dX5_arrive_73 : decode cX5_arrive 73 = .ok (.aload_n 0, 1) := by decide +kernel
theorem dX5_arrive_74 : decode cX5_arrive 74 = .ok (.iload_n 3, 1) := by decide +kernel
theorem dX5_arrive_75 : decode cX5_arrive 75 = .ok (.putfield 141, 3) := by decide +kernel
theorem dX5_arrive_78 : decode cX5_arrive 78 = .ok (.aload_n 0, 1) := by decide +kernel
theorem dX5_arrive_79 : decode cX5_arrive 79 = .ok (.iload 4, 2) := by decide +kernel
theorem dX5_arrive_81 : decode cX5_arrive 81 = .ok (.putfield 144, 3) := by decide +kernel
theorem dX5_arrive_84 : decode cX5_arrive 84 = .ok (.aload_n 0, 1) := by decide +kernel
theorem dX5_arrive_85 : decode cX5_arrive 85 = .ok (.aload_n 0, 1) := by decide +kernel
theorem dX5_arrive_86 : decode cX5_arrive 86 = .ok (.getfield 16, 3) := by decide +kernel
theorem dX5_arrive_89 : decode cX5_arrive 89 = .ok (.iconst 5, 1) := by decide +kernel
theorem dX5_arrive_90 : decode cX5_arrive 90 = .ok (.iload_n 3, 1) := by decide +kernel
theorem dX5_arrive_91 : decode cX5_arrive 91 = .ok (.imul, 1) := by decide +kernel
