theorem dX3_lead_11 : decode cX3_lead 11 = .ok (.iconst 1, 1) := by decide +kernel
theorem dX3_lead_12 : decode cX3_lead 12 = .ok (.istore 4, 2) := by decide +kernel
theorem dX3_lead_14 : decode cX3_lead 14 = .ok (.iload 4, 2) := by decide +kernel
theorem dX3_lead_16 : decode cX3_lead 16 = .ok (.bipush 6, 2) := by decide +kernel
theorem dX3_lead_18 : decode cX3_lead 18 = .ok (.if_icmp .ge 48, 3) := by decide +kernel
theorem dX3_lead_21 : decode cX3_lead 21 = .ok (.aload_n 1, 1) := by decide +kernel
theorem dX3_lead_22 : decode cX3_lead 22 = .ok (.aload_n 0, 1) := by decide +kernel
theorem dX3_lead_23 : decode cX3_lead 23 = .ok (.invokevirtual 26, 3) := by decide +kernel
theorem dX3_lead_26 : decode cX3_lead 26 = .ok (.invokevirtual 30, 3) := by decide +kernel
theorem dX3_lead_29 : decode cX3_lead 29 = .ok (.iconst 2, 1) := by decide +kernel
theorem dX3_lead_30 : decode cX3_lead 30 = .ok (.if_icmp .ne 36, 3) := by decide +kernel
theorem dX3_lead_33 : decode cX3_lead 33 = .ok (.aload_n 1, 1) := by decide +kernel
theorem dX3_lead_34 : decode cX3_lead 34 = .ok (.aload_n 0, 1) := by decide +kernel
theorem dX3_lead_35 : decode cX3_lead 35 = .ok (.invokevirtual 26, 3) := by decide +kernel
theorem dX3_lead_38 : decode cX3_lead 38 = .ok (.iload_n 3, 1) := by decide +kernel
theorem dX3_lead_39 : decode cX3_lead 39 = .ok (.invokevirtual 36, 3) := by decide +kernel
theorem dX3_lead_42 : decode cX3_lead 42 = .ok (.istore 5, 2) := by decide +kernel
theorem dX3_lead_44 : decode cX3_lead 44 = .ok (.aload_n 0, 1) := by decide +kernel
theorem dX3_lead_45 : decode cX3_lead 45 = .ok (.aload_n 1, 1) := by decide +kernel
theorem dX3_lead_46 : decode cX3_lead 46 = .ok (.aload_n 0, 1) := by decide +kernel
theorem dX3_lead_47 : decode cX3_lead 47 = .ok (.invokevirtual 26, 3) := by decide +kernel
theorem dX3_lead_50 : decode cX3_lead 50 = .ok (.iload 5, 2) := by decide +kernel
theorem dX3_lead_52 : decode cX3_lead 52 = .ok (.invokevirtual 40, 3) := by decide +kernel
theorem dX3_lead_55 : decode cX3_lead 55 = .ok (.iload 5, 2) := by decide +kernel
theorem dX3_lead_57 : decode cX3_lead 57 = .ok (.invokevirtual 22, 3) := by decide +kernel
theorem dX3_lead_60 : decode cX3_lead 60 = .ok (.iinc 4 1, 3) := by decide +kernel
theorem dX3_lead_63 : decode cX3_lead 63 = .ok (.goto (-49), 3) := by decide +kernel
theorem dX3_lead_66 : decode cX3_lead 66 = .ok (.return_, 1) := by decide +kernel
theorem dX3_add_0 : decode cX3_add 0 = .ok (.aload_n 0, 1) := by decide +kernel
theorem dX3_add_1 : decode cX3_add 1 = .ok (.getfield 18, 3) := by decide +kernel
theorem dX3_add_4 : decode cX3_add 4 = .ok (.ifCond .lt 42, 3) := by decide +kernel
theorem dX3_add_7 : decode cX3_add 7 = .ok (.aload_n 0, 1) := by decide +kernel
theorem dX3_add_8 : decode cX3_add 8 = .ok (.getfield 18, 3) := by decide +kernel
theorem dX3_add_11 : decode cX3_add 11 = .ok (.bipush 6, 2) := by decide +kernel
theorem dX3_add_13 : decode cX3_add 13 = .ok (.if_icmp .ge 33, 3) := by decide +kernel
theorem dX3_add_16 : decode cX3_add 16 = .ok (.aload_n 0, 1) := by decide +kernel
theorem dX3_add_17 : decode cX3_add 17 = .ok (.getfield 9, 3) := by decide +kernel
theorem dX3_add_20 : decode cX3_add 20 = .ok (.aload_n 0, 1) := by decide +kernel
theorem dX3_add_21 : decode cX3_add 21 = .ok (.getfield 18, 3) := by decide +kernel
theorem dX3_add_24 : decode cX3_add 24 = .ok (.iload_n 1, 1) := by decide +kernel
theorem dX3_add_25 : decode cX3_add 25 = .ok (.iastore, 1) := by decide +kernel
theorem dX3_add_26 : decode cX3_add 26 = .ok (.aload_n 0, 1) := by decide +kernel
theorem dX3_add_27 : decode cX3_add 27 = .ok (.getfield 15, 3) := by decide +kernel
theorem dX3_add_30 : decode cX3_add 30 = .ok (.aload_n 0, 1) := by decide +kernel
theorem dX3_add_31 : decode cX3_add 31 = .ok (.getfield 18, 3) := by decide +kernel
theorem dX3_add_34 : decode cX3_add 34 = .ok (.iload_n 2, 1) := by decide +kernel
theorem dX3_add_35 : decode cX3_add 35 = .ok (.iastore, 1) := by decide +kernel
theorem dX3_add_36 : decode cX3_add 36 = .ok (.aload_n 0, 1) := by decide +kernel
theorem dX3_add_37 : decode cX3_add 37 = .ok (.dup, 1) := by decide +kernel
theorem dX3_add_38 : decode cX3_add 38 = .ok (.getfield 18, 3) := by decide +kernel
theorem dX3_add_41 : decode cX3_add 41 = .ok (.iconst 1, 1) := by decide +kernel
theorem dX3_add_42 : decode cX3_add 42 = .ok (.iadd, 1) := by decide +kernel
theorem dX3_add_43 : decode cX3_add 43 = .ok (.putfield 18, 3) := by decide +kernel
theorem dX3_add_46 : decode cX3_add 46 = .ok (.return_, 1) := by decide +kernel
theorem dX3_length_0 : decode cX3_length 0 = .ok (.aload_n 0, 1) := by decide +kernel
theorem dX3_length_1 : decode cX3_length 1 = .ok (.getfield 18, 3) := by decide +kernel
theorem dX3_length_4 : decode cX3_length 4 = .ok (.ireturn, 1) := by decide +kernel
theorem dX3_pageAt_0 : decode cX3_pageAt 0 = .ok (.iload_n 1, 1) := by decide +kernel
theorem dX3_pageAt_1 : decode cX3_pageAt 1 = .ok (.ifCond .lt 18, 3) := by decide +kernel
theorem dX3_pageAt_4 : decode cX3_pageAt 4 = .ok (.iload_n 1, 1) := by decide +kernel
theorem dX3_pageAt_5 : decode cX3_pageAt 5 = .ok (.bipush 6, 2) := by decide +kernel
theorem dX3_pageAt_7 : decode cX3_pageAt 7 = .ok (.if_icmp .ge 12, 3) := by decide +kernel
theorem dX3_pageAt_10 : decode cX3_pageAt 10 = .ok (.aload_n 0, 1) := by decide +kernel
theorem dX3_pageAt_11 : decode cX3_pageAt 11 = .ok (.getfield 9, 3) := by decide +kernel
theorem dX3_pageAt_14 : decode cX3_pageAt 14 = .ok (.iload_n 1, 1) := by decide +kernel
theorem dX3_pageAt_15 : decode cX3_pageAt 15 = .ok (.iaload, 1) := by decide +kernel
theorem dX3_pageAt_16 : decode cX3_pageAt 16 = .ok (.goto 4, 3) := by decide +kernel
theorem dX3_pageAt_19 : decode cX3_pageAt 19 = .ok (.iconst (-1), 1) := by decide +kernel
theorem dX3_pageAt_20 : decode cX3_pageAt 20 = .ok (.ireturn, 1) := by decide +kernel
theorem dX3_slotAt_0 : decode cX3_slotAt 0 = .ok (.iload_n 1, 1) := by decide +kernel
theorem dX3_slotAt_1 : decode cX3_slotAt 1 = .ok (.ifCond .lt 18, 3) := by decide +kernel
theorem dX3_slotAt_4 : decode cX3_slotAt 4 = .ok (.iload_n 1, 1) := by decide +kernel
theorem dX3_slotAt_5 : decode cX3_slotAt 5 = .ok (.bipush 6, 2) := by decide +kernel
theorem dX3_slotAt_7 : decode cX3_slotAt 7 = .ok (.if_icmp .ge 12, 3) := by decide +kernel
theorem dX3_slotAt_10 : decode cX3_slotAt 10 = .ok (.aload_n 0, 1) := by decide +kernel
theorem dX3_slotAt_11 : decode cX3_slotAt 11 = .ok (.getfield 15, 3) := by decide +kernel
theorem dX3_slotAt_14 : decode cX3_slotAt 14 = .ok (.iload_n 1, 1) := by decide +kernel
theorem dX3_slotAt_15 : decode cX3_slotAt 15 = .ok (.iaload, 1) := by decide +kernel
theorem dX3_slotAt_16 : decode cX3_slotAt 16 = .ok (.goto 4, 3) := by decide +kernel
theorem dX3_slotAt_19 : decode cX3_slotAt 19 = .ok (.iconst 0, 1) := by decide +kernel
theorem dX3_slotAt_20 : decode cX3_slotAt 20 = .ok (.ireturn, 1) := by decide +kernel
theorem dX3_leaf_0 : decode cX3_leaf 0 = .ok (.aload_n 0, 1) := by decide +kernel
theorem dX3_leaf_1 : decode cX3_leaf 1 = .ok (.aload_n 0, 1) := by decide +kernel
theorem dX3_leaf_2 : decode cX3_leaf 2 = .ok (.getfield 18, 3) := by decide +kernel
theorem dX3_leaf_5 : decode cX3_leaf 5 = .ok (.iconst 1, 1) := by decide +kernel
theorem dX3_leaf_6 : decode cX3_leaf 6 = .ok (.isub, 1) := by decide +kernel
theorem dX3_leaf_7 : decode cX3_leaf 7 = .ok (.invokevirtual 43, 3) := by decide +kernel
theorem dX3_leaf_10 : decode cX3_leaf 10 = .ok (.ireturn, 1) := by decide +kernel
theorem dX4_init_0 : decode cX4_init 0 = .ok (.aload_n 0, 1) := by decide +kernel
theorem dX4_init_1 : decode cX4_init 1 = .ok (.invokespecial 3, 3) := by decide +kernel
theorem dX4_init_4 : decode cX4_init 4 = .ok (.aload_n 0, 1) := by decide +kernel
theorem dX4_init_5 : decode cX4_init 5 = .ok (.new 9, 3) := by decide +kernel
theorem dX4_init_8 : decode cX4_init 8 = .ok (.dup, 1) := by decide +kernel
theorem dX4_init_9 : decode cX4_init 9 = .ok (.invokespecial 11, 3) := by decide +kernel
theorem dX4_init_12 : decode cX4_init 12 = .ok (.putfield 12, 3) := by decide +kernel
theorem dX4_init_15 : decode cX4_init 15 = .ok (.aload_n 0, 1) := by decide +kernel
theorem dX4_init_16 : decode cX4_init 16 = .ok (.new 16, 3) := by decide +kernel
theorem dX4_init_19 : decode cX4_init 19 = .ok (.dup, 1) := by decide +kernel
theorem dX4_init_20 : decode cX4_init 20 = .ok (.invokespecial 18, 3) := by decide +kernel
theorem dX4_init_23 : decode cX4_init 23 = .ok (.putfield 19, 3) := by decide +kernel
theorem dX4_init_26 : decode cX4_init 26 = .ok (.aload_n 0, 1) := by decide +kernel
theorem dX4_init_27 : decode cX4_init 27 = .ok (.new 23, 3) := by decide +kernel
theorem dX4_init_30 : decode cX4_init 30 = .ok (.dup, 1) := by decide +kernel
theorem dX4_init_31 : decode cX4_init 31 = .ok (.invokespecial 25, 3) := by decide +kernel
theorem dX4_init_34 : decode cX4_init 34 = .ok (.putfield 26, 3) := by decide +kernel
theorem dX4_init_37 : decode cX4_init 37 = .ok (.aload_n 0, 1) := by decide +kernel
theorem dX4_init_38 : decode cX4_init 38 = .ok (.new 30, 3) := by decide +kernel
theorem dX4_init_41 : decode cX4_init 41 = .ok (.dup, 1) := by decide +kernel
theorem dX4_init_42 : decode cX4_init 42 = .ok (.invokespecial 32, 3) := by decide +kernel
theorem dX4_init_45 : decode cX4_init 45 = .ok (.putfield 33, 3) := by decide +kernel
theorem dX4_init_48 : decode cX4_init 48 = .ok (.aload_n 0, 1) := by decide +kernel
theorem dX4_init_49 : decode cX4_init 49 = .ok (.iconst 0, 1) := by decide +kernel
theorem dX4_init_50 : decode cX4_init 50 = .ok (.putfield 37, 3) := by decide +kernel
theorem dX4_init_53 : decode cX4_init 53 = .ok (.aload_n 0, 1) := by decide +kernel
theorem dX4_init_54 : decode cX4_init 54 = .ok (.iconst 0, 1) := by decide +kernel
theorem dX4_init_55 : decode cX4_init 55 = .ok (.putfield 41, 3) := by decide +kernel
theorem dX4_init_58 : decode cX4_init 58 = .ok (.aload_n 0, 1) := by decide +kernel
theorem dX4_init_59 : decode cX4_init 59 = .ok (.iconst (-1), 1) := by decide +kernel
theorem dX4_init_60 : decode cX4_init 60 = .ok (.putfield 44, 3) := by decide +kernel
theorem dX4_init_63 : decode cX4_init 63 = .ok (.aload_n 0, 1) := by decide +kernel
theorem dX4_init_64 : decode cX4_init 64 = .ok (.getfield 12, 3) := by decide +kernel
theorem dX4_init_67 : decode cX4_init 67 = .ok (.aload_n 0, 1) := by decide +kernel
theorem dX4_init_68 : decode cX4_init 68 = .ok (.getfield 37, 3) := by decide +kernel
theorem dX4_init_71 : decode cX4_init 71 = .ok (.iconst 1, 1) := by decide +kernel
theorem dX4_init_72 : decode cX4_init 72 = .ok (.invokevirtual 47, 3) := by decide +kernel
theorem dX4_init_75 : decode cX4_init 75 = .ok (.return_, 1) := by decide +kernel
theorem dX4_put_0 : decode cX4_put 0 = .ok (.aload_n 0, 1) := by decide +kernel
theorem dX4_put_1 : decode cX4_put 1 = .ok (.getfield 26, 3) := by decide +kernel
theorem dX4_put_4 : decode cX4_put 4 = .ok (.aload_n 0, 1) := by decide +kernel
theorem dX4_put_5 : decode cX4_put 5 = .ok (.getfield 12, 3) := by decide +kernel
theorem dX4_put_8 : decode cX4_put 8 = .ok (.aload_n 0, 1) := by decide +kernel
theorem dX4_put_9 : decode cX4_put 9 = .ok (.getfield 37, 3) := by decide +kernel
theorem dX4_put_12 : decode cX4_put 12 = .ok (.iload_n 1, 1) := by decide +kernel
theorem dX4_put_13 : decode cX4_put 13 = .ok (.invokevirtual 51, 3) := by decide +kernel
theorem dX4_put_16 : decode cX4_put 16 = .ok (.aload_n 0, 1) := by decide +kernel
theorem dX4_put_17 : decode cX4_put 17 = .ok (.getfield 26, 3) := by decide +kernel
theorem dX4_put_20 : decode cX4_put 20 = .ok (.invokevirtual 55, 3) := by decide +kernel
theorem dX4_put_23 : decode cX4_put 23 = .ok (.istore_n 3, 1) := by decide +kernel
theorem dX4_put_24 : decode cX4_put 24 = .ok (.aload_n 0, 1) := by decide +kernel
theorem dX4_put_25 : decode cX4_put 25 = .ok (.getfield 12, 3) := by decide +kernel
theorem dX4_put_28 : decode cX4_put 28 = .ok (.iload_n 3, 1) := by decide +kernel
theorem dX4_put_29 : decode cX4_put 29 = .ok (.iload_n 1, 1) := by decide +kernel
theorem dX4_put_30 : decode cX4_put 30 = .ok (.invokevirtual 59, 3) := by decide +kernel
theorem dX4_put_33 : decode cX4_put 33 = .ok (.istore 4, 2) := by decide +kernel
theorem dX4_put_35 : decode cX4_put 35 = .ok (.aload_n 0, 1) := by decide +kernel
theorem dX4_put_36 : decode cX4_put 36 = .ok (.getfield 12, 3) := by decide +kernel
theorem dX4_put_39 : decode cX4_put 39 = .ok (.iload_n 3, 1) := by decide +kernel
theorem dX4_put_40 : decode cX4_put 40 = .ok (.iload 4, 2) := by decide +kernel
theorem dX4_put_42 : decode cX4_put 42 = .ok (.iload_n 1, 1) := by decide +kernel
theorem dX4_put_43 : decode cX4_put 43 = .ok (.invokevirtual 63, 3) := by decide +kernel
theorem dX4_put_46 : decode cX4_put 46 = .ok (.istore 5, 2) := by decide +kernel
theorem dX4_put_48 : decode cX4_put 48 = .ok (.iload 5, 2) := by decide +kernel
theorem dX4_put_50 : decode cX4_put 50 = .ok (.ifCond .ne 27, 3) := by decide +kernel
theorem dX4_put_53 : decode cX4_put 53 = .ok (.aload_n 0, 1) := by decide +kernel
theorem dX4_put_54 : decode cX4_put 54 = .ok (.invokevirtual 67, 3) := by decide +kernel
theorem dX4_put_57 : decode cX4_put 57 = .ok (.aload_n 0, 1) := by decide +kernel
theorem dX4_put_58 : decode cX4_put 58 = .ok (.getfield 12, 3) := by decide +kernel
theorem dX4_put_61 : decode cX4_put 61 = .ok (.invokevirtual 70, 3) := by decide +kernel
theorem dX4_put_64 : decode cX4_put 64 = .ok (.if_icmp .le 13, 3) := by decide +kernel
theorem dX4_put_67 : decode cX4_put 67 = .ok (.new 73, 3) := by decide +kernel
theorem dX4_put_70 : decode cX4_put 70 = .ok (.dup, 1) := by decide +kernel
theorem dX4_put_71 : decode cX4_put 71 = .ok (.ldc 75, 2) := by decide +kernel
theorem dX4_put_73 : decode cX4_put 73 = .ok (.invokespecial 77, 3) := by decide +kernel
theorem dX4_put_76 : decode cX4_put 76 = .ok (.athrow, 1) := by decide +kernel
theorem dX4_put_77 : decode cX4_put 77 = .ok (.aload_n 0, 1) := by decide +kernel
theorem dX4_put_78 : decode cX4_put 78 = .ok (.invokevirtual 80, 3) := by decide +kernel
theorem dX4_put_81 : decode cX4_put 81 = .ok (.aload_n 0, 1) := by decide +kernel
theorem dX4_put_82 : decode cX4_put 82 = .ok (.invokevirtual 83, 3) := by decide +kernel
theorem dX4_put_85 : decode cX4_put 85 = .ok (.aload_n 0, 1) := by decide +kernel
theorem dX4_put_86 : decode cX4_put 86 = .ok (.getfield 19, 3) := by decide +kernel
theorem dX4_put_89 : decode cX4_put 89 = .ok (.iload_n 3, 1) := by decide +kernel
theorem dX4_put_90 : decode cX4_put 90 = .ok (.invokevirtual 86, 3) := by decide +kernel
theorem dX4_put_93 : decode cX4_put 93 = .ok (.iload 5, 2) := by decide +kernel
theorem dX4_put_95 : decode cX4_put 95 = .ok (.ifCond .eq 18, 3) := by decide +kernel
theorem dX4_put_98 : decode cX4_put 98 = .ok (.aload_n 0, 1) := by decide +kernel
theorem dX4_put_99 : decode cX4_put 99 = .ok (.getfield 12, 3) := by decide +kernel
theorem dX4_put_102 : decode cX4_put 102 = .ok (.iload_n 3, 1) := by decide +kernel
theorem dX4_put_103 : decode cX4_put 103 = .ok (.iload 4, 2) := by decide +kernel
theorem dX4_put_105 : decode cX4_put 105 = .ok (.iload_n 1, 1) := by decide +kernel
theorem dX4_put_106 : decode cX4_put 106 = .ok (.iload_n 2, 1) := by decide +kernel
theorem dX4_put_107 : decode cX4_put 107 = .ok (.invokevirtual 90, 3) := by decide +kernel
theorem dX4_put_110 : decode cX4_put 110 = .ok (.goto 29, 3) := by decide +kernel
theorem dX4_put_113 : decode cX4_put 113 = .ok (.aload_n 0, 1) := by decide +kernel
theorem dX4_put_114 : decode cX4_put 114 = .ok (.getfield 12, 3) := by decide +kernel
theorem dX4_put_117 : decode cX4_put 117 = .ok (.iload_n 3, 1) := by decide +kernel
theorem dX4_put_118 : decode cX4_put 118 = .ok (.iload 4, 2) := by decide +kernel
theorem dX4_put_120 : decode cX4_put 120 = .ok (.iload_n 1, 1) := by decide +kernel
theorem dX4_put_121 : decode cX4_put 121 = .ok (.iload_n 2, 1) := by decide +kernel
theorem dX4_put_122 : decode cX4_put 122 = .ok (.invokevirtual 94, 3) := by decide +kernel
theorem dX4_put_125 : decode cX4_put 125 = .ok (.aload_n 0, 1) := by decide +kernel
theorem dX4_put_126 : decode cX4_put 126 = .ok (.dup, 1) := by decide +kernel
theorem dX4_put_127 : decode cX4_put 127 = .ok (.getfield 41, 3) := by decide +kernel
theorem dX4_put_130 : decode cX4_put 130 = .ok (.iconst 1, 1) := by decide +kernel
theorem dX4_put_131 : decode cX4_put 131 = .ok (.iadd, 1) := by decide +kernel
theorem dX4_put_132 : decode cX4_put 132 = .ok (.putfield 41, 3) := by decide +kernel
theorem dX4_put_135 : decode cX4_put 135 = .ok (.aload_n 0, 1) := by decide +kernel
theorem dX4_put_136 : decode cX4_put 136 = .ok (.invokevirtual 97, 3) := by decide +kernel
theorem dX4_put_139 : decode cX4_put 139 = .ok (.aload_n 0, 1) := by decide +kernel
theorem dX4_put_140 : decode cX4_put 140 = .ok (.getfield 19, 3) := by decide +kernel
theorem dX4_put_143 : decode cX4_put 143 = .ok (.invokevirtual 100, 3) := by decide +kernel
theorem dX4_put_146 : decode cX4_put 146 = .ok (.iload 5, 2) := by decide +kernel
theorem dX4_put_148 : decode cX4_put 148 = .ok (.ifCond .ne 7, 3) := by decide +kernel
theorem dX4_put_151 : decode cX4_put 151 = .ok (.iconst 1, 1) := by decide +kernel
theorem dX4_put_152 : decode cX4_put 152 = .ok (.goto 4, 3) := by decide +kernel
theorem dX4_put_155 : decode cX4_put 155 = .ok (.iconst 0, 1) := by decide +kernel
theorem dX4_put_156 : decode cX4_put 156 = .ok (.ireturn, 1) := by decide +kernel
theorem dX4_get_0 : decode cX4_get 0 = .ok (.aload_n 0, 1) := by decide +kernel
theorem dX4_get_1 : decode cX4_get 1 = .ok (.getfield 26, 3) := by decide +kernel
theorem dX4_get_4 : decode cX4_get 4 = .ok (.aload_n 0, 1) := by decide +kernel
theorem dX4_get_5 : decode cX4_get 5 = .ok (.getfield 12, 3) := by decide +kernel
theorem dX4_get_8 : decode cX4_get 8 = .ok (.aload_n 0, 1) := by decide +kernel
theorem dX4_get_9 : decode cX4_get 9 = .ok (.getfield 37, 3) := by decide +kernel
theorem dX4_get_12 : decode cX4_get 12 = .ok (.iload_n 1, 1) := by decide +kernel
theorem dX4_get_13 : decode cX4_get 13 = .ok (.invokevirtual 51, 3) := by decide +kernel
theorem dX4_get_16 : decode cX4_get 16 = .ok (.aload_n 0, 1) := by decide +kernel
theorem dX4_get_17 : decode cX4_get 17 = .ok (.getfield 26, 3) := by decide +kernel
theorem dX4_get_20 : decode cX4_get 20 = .ok (.invokevirtual 55, 3) := by decide +kernel
theorem dX4_get_23 : decode cX4_get 23 = .ok (.istore_n 2, 1) := by decide +kernel
theorem dX4_get_24 : decode cX4_get 24 = .ok (.aload_n 0, 1) := by decide +kernel
theorem dX4_get_25 : decode cX4_get 25 = .ok (.getfield 12, 3) := by decide +kernel
theorem dX4_get_28 : decode cX4_get 28 = .ok (.iload_n 2, 1) := by decide +kernel
theorem dX4_get_29 : decode cX4_get 29 = .ok (.iload_n 1, 1) := by decide +kernel
theorem dX4_get_30 : decode cX4_get 30 = .ok (.invokevirtual 59, 3) := by decide +kernel
theorem dX4_get_33 : decode cX4_get 33 = .ok (.istore_n 3, 1) := by decide +kernel
theorem dX4_get_34 : decode cX4_get 34 = .ok (.aload_n 0, 1) := by decide +kernel
theorem dX4_get_35 : decode cX4_get 35 = .ok (.getfield 12, 3) := by decide +kernel
theorem dX4_get_38 : decode cX4_get 38 = .ok (.iload_n 2, 1) := by decide +kernel
theorem dX4_get_39 : decode cX4_get 39 = .ok (.iload_n 3, 1) := by decide +kernel
theorem dX4_get_40 : decode cX4_get 40 = .ok (.iload_n 1, 1) := by decide +kernel
theorem dX4_get_41 : decode cX4_get 41 = .ok (.invokevirtual 63, 3) := by decide +kernel
theorem dX4_get_44 : decode cX4_get 44 = .ok (.ifCond .ne 13, 3) := by decide +kernel
theorem dX4_get_47 : decode cX4_get 47 = .ok (.new 103, 3) := by decide +kernel
theorem dX4_get_50 : decode cX4_get 50 = .ok (.dup, 1) := by decide +kernel
theorem dX4_get_51 : decode cX4_get 51 = .ok (.ldc 105, 2) := by decide +kernel
theorem dX4_get_53 : decode cX4_get 53 = .ok (.invokespecial 107, 3) := by decide +kernel
theorem dX4_get_56 : decode cX4_get 56 = .ok (.athrow, 1) := by decide +kernel
theorem dX4_get_57 : decode cX4_get 57 = .ok (.aload_n 0, 1) := by decide +kernel
theorem dX4_get_58 : decode cX4_get 58 = .ok (.invokevirtual 83, 3) := by decide +kernel
theorem dX4_get_61 : decode cX4_get 61 = .ok (.aload_n 0, 1) := by decide +kernel
theorem dX4_get_62 : decode cX4_get 62 = .ok (.getfield 19, 3) := by decide +kernel
theorem dX4_get_65 : decode cX4_get 65 = .ok (.invokevirtual 100, 3) := by decide +kernel
theorem dX4_get_68 : decode cX4_get 68 = .ok (.aload_n 0, 1) := by decide +kernel
theorem dX4_get_69 : decode cX4_get 69 = .ok (.getfield 12, 3) := by decide +kernel
theorem dX4_get_72 : decode cX4_get 72 = .ok (.iload_n 2, 1) := by decide +kernel
theorem dX4_get_73 : decode cX4_get 73 = .ok (.iload_n 3, 1) := by decide +kernel
theorem dX4_get_74 : decode cX4_get 74 = .ok (.invokevirtual 108, 3) := by decide +kernel
theorem dX4_get_77 : decode cX4_get 77 = .ok (.ireturn, 1) := by decide +kernel
theorem dX4_remove_0 : decode cX4_remove 0 = .ok (.aload_n 0, 1) := by decide +kernel
theorem dX4_remove_1 : decode cX4_remove 1 = .ok (.getfield 26, 3) := by decide +kernel
theorem dX4_remove_4 : decode cX4_remove 4 = .ok (.aload_n 0, 1) := by decide +kernel
theorem dX4_remove_5 : decode cX4_remove 5 = .ok (.getfield 12, 3) := by decide +kernel
theorem dX4_remove_8 : decode cX4_remove 8 = .ok (.aload_n 0, 1) := by decide +kernel
theorem dX4_remove_9 : decode cX4_remove 9 = .ok (.getfield 37, 3) := by decide +kernel
theorem dX4_remove_12 : decode cX4_remove 12 = .ok (.iload_n 1, 1) := by decide +kernel
theorem dX4_remove_13 : decode cX4_remove 13 = .ok (.invokevirtual 51, 3) := by decide +kernel
theorem dX4_remove_16 : decode cX4_remove 16 = .ok (.aload_n 0, 1) := by decide +kernel
theorem dX4_remove_17 : decode cX4_remove 17 = .ok (.getfield 26, 3) := by decide +kernel
theorem dX4_remove_20 : decode cX4_remove 20 = .ok (.invokevirtual 55, 3) := by decide +kernel
theorem dX4_remove_23 : decode cX4_remove 23 = .ok (.istore_n 2, 1) := by decide +kernel
theorem dX4_remove_24 : decode cX4_remove 24 = .ok (.aload_n 0, 1) := by decide +kernel
theorem dX4_remove_25 : decode cX4_remove 25 = .ok (.getfield 12, 3) := by decide +kernel
theorem dX4_remove_28 : decode cX4_remove 28 = .ok (.iload_n 2, 1) := by decide +kernel
theorem dX4_remove_29 : decode cX4_remove 29 = .ok (.iload_n 1, 1) := by decide +kernel
theorem dX4_remove_30 : decode cX4_remove 30 = .ok (.invokevirtual 59, 3) := by decide +kernel
theorem dX4_remove_33 : decode cX4_remove 33 = .ok (.istore_n 3, 1) := by decide +kernel
theorem dX4_remove_34 : decode cX4_remove 34 = .ok (.aload_n 0, 1) := by decide +kernel
theorem dX4_remove_35 : decode cX4_remove 35 = .ok (.getfield 12, 3) := by decide +kernel
theorem dX4_remove_38 : decode cX4_remove 38 = .ok (.iload_n 2, 1) := by decide +kernel
theorem dX4_remove_39 : decode cX4_remove 39 = .ok (.iload_n 3, 1) := by decide +kernel
theorem dX4_remove_40 : decode cX4_remove 40 = .ok (.iload_n 1, 1) := by decide +kernel
theorem dX4_remove_41 : decode cX4_remove 41 = .ok (.invokevirtual 63, 3) := by decide +kernel
theorem dX4_remove_44 : decode cX4_remove 44 = .ok (.istore 4, 2) := by decide +kernel
theorem dX4_remove_46 : decode cX4_remove 46 = .ok (.aload_n 0, 1) := by decide +kernel
theorem dX4_remove_47 : decode cX4_remove 47 = .ok (.invokevirtual 80, 3) := by decide +kernel
theorem dX4_remove_50 : decode cX4_remove 50 = .ok (.aload_n 0, 1) := by decide +kernel
theorem dX4_remove_51 : decode cX4_remove 51 = .ok (.invokevirtual 83, 3) := by decide +kernel
theorem dX4_remove_54 : decode cX4_remove 54 = .ok (.iload 4, 2) := by decide +kernel
theorem dX4_remove_56 : decode cX4_remove 56 = .ok (.ifCond .eq 34, 3) := by decide +kernel
theorem dX4_remove_59 : decode cX4_remove 59 = .ok (.aload_n 0, 1) := by decide +kernel
theorem dX4_remove_60 : decode cX4_remove 60 = .ok (.getfield 12, 3) := by decide +kernel
theorem dX4_remove_63 : decode cX4_remove 63 = .ok (.iload_n 2, 1) := by decide +kernel
theorem dX4_remove_64 : decode cX4_remove 64 = .ok (.iload_n 3, 1) := by decide +kernel
theorem dX4_remove_65 : decode cX4_remove 65 = .ok (.invokevirtual 111, 3) := by decide +kernel
theorem dX4_remove_68 : decode cX4_remove 68 = .ok (.aload_n 0, 1) := by decide +kernel
theorem dX4_remove_69 : decode cX4_remove 69 = .ok (.getfield 19, 3) := by decide +kernel
theorem dX4_remove_72 : decode cX4_remove 72 = .ok (.iload_n 2, 1) := by decide +kernel
theorem dX4_remove_73 : decode cX4_remove 73 = .ok (.invokevirtual 86, 3) := by decide +kernel
theorem dX4_remove_76 : decode cX4_remove 76 = .ok (.aload_n 0, 1) := by decide +kernel
theorem dX4_remove_77 : decode cX4_remove 77 = .ok (.dup, 1) := by decide +kernel
theorem dX4_remove_78 : decode cX4_remove 78 = .ok (.getfield 41, 3) := by decide +kernel
theorem dX4_remove_81 : decode cX4_remove 81 = .ok (.iconst 1, 1) := by decide +kernel
theorem dX4_remove_82 : decode cX4_remove 82 = .ok (.isub, 1) := by decide +kernel
theorem dX4_remove_83 : decode cX4_remove 83 = .ok (.putfield 41, 3) := by decide +kernel
theorem dX4_remove_86 : decode cX4_remove 86 = .ok (.aload_n 0, 1) := by decide +kernel
theorem dX4_remove_87 : decode cX4_remove 87 = .ok (.invokevirtual 114, 3) := by decide +kernel
theorem dX4_remove_90 : decode cX4_remove 90 = .ok (.aload_n 0, 1) := by decide +kernel
theorem dX4_remove_91 : decode cX4_remove 91 = .ok (.getfield 19, 3) := by decide +kernel
theorem dX4_remove_94 : decode cX4_remove 94 = .ok (.invokevirtual 100, 3) := by decide +kernel
theorem dX4_remove_97 : decode cX4_remove 97 = .ok (.iload 4, 2) := by decide +kernel
theorem dX4_remove_99 : decode cX4_remove 99 = .ok (.ireturn, 1) := by decide +kernel
theorem dX4_seek_0 : decode cX4_seek 0 = .ok (.aload_n 0, 1) := by decide +kernel
theorem dX4_seek_1 : decode cX4_seek 1 = .ok (.getfield 26, 3) := by decide +kernel
theorem dX4_seek_4 : decode cX4_seek 4 = .ok (.aload_n 0, 1) := by decide +kernel
theorem dX4_seek_5 : decode cX4_seek 5 = .ok (.getfield 12, 3) := by decide +kernel
theorem dX4_seek_8 : decode cX4_seek 8 = .ok (.aload_n 0, 1) := by decide +kernel
theorem dX4_seek_9 : decode cX4_seek 9 = .ok (.getfield 37, 3) := by decide +kernel
theorem dX4_seek_12 : decode cX4_seek 12 = .ok (.iload_n 1, 1) := by decide +kernel
theorem dX4_seek_13 : decode cX4_seek 13 = .ok (.invokevirtual 51, 3) := by decide +kernel
theorem dX4_seek_16 : decode cX4_seek 16 = .ok (.aload_n 0, 1) := by decide +kernel
theorem dX4_seek_17 : decode cX4_seek 17 = .ok (.invokevirtual 83, 3) := by decide +kernel
theorem dX4_seek_20 : decode cX4_seek 20 = .ok (.aload_n 0, 1) := by decide +kernel
theorem dX4_seek_21 : decode cX4_seek 21 = .ok (.aload_n 0, 1) := by decide +kernel
theorem dX4_seek_22 : decode cX4_seek 22 = .ok (.getfield 26, 3) := by decide +kernel
theorem dX4_seek_25 : decode cX4_seek 25 = .ok (.invokevirtual 55, 3) := by decide +kernel
theorem dX4_seek_28 : decode cX4_seek 28 = .ok (.aload_n 0, 1) := by decide +kernel
theorem dX4_seek_29 : decode cX4_seek 29 = .ok (.getfield 12, 3) := by decide +kernel
theorem dX4_seek_32 : decode cX4_seek 32 = .ok (.aload_n 0, 1) := by decide +kernel
theorem dX4_seek_33 : decode cX4_seek 33 = .ok (.getfield 26, 3) := by decide +kernel
theorem dX4_seek_36 : decode cX4_seek 36 = .ok (.invokevirtual 55, 3) := by decide +kernel
theorem dX4_seek_39 : decode cX4_seek 39 = .ok (.iload_n 1, 1) := by decide +kernel
theorem dX4_seek_40 : decode cX4_seek 40 = .ok (.invokevirtual 59, 3) := by decide +kernel
theorem dX4_seek_43 : decode cX4_seek 43 = .ok (.invokevirtual 117, 3) := by decide +kernel
theorem dX4_seek_46 : decode cX4_seek 46 = .ok (.istore_n 2, 1) := by decide +kernel
theorem dX4_seek_47 : decode cX4_seek 47 = .ok (.aload_n 0, 1) := by decide +kernel
theorem dX4_seek_48 : decode cX4_seek 48 = .ok (.getfield 19, 3) := by decide +kernel
theorem dX4_seek_51 : decode cX4_seek 51 = .ok (.invokevirtual 100, 3) := by decide +kernel
theorem dX4_seek_54 : decode cX4_seek 54 = .ok (.iload_n 2, 1) := by decide +kernel
theorem dX4_seek_55 : decode cX4_seek 55 = .ok (.ireturn, 1) := by decide +kernel
theorem dX4_next_0 : decode cX4_next 0 = .ok (.aload_n 0, 1) := by decide +kernel
theorem dX4_next_1 : decode cX4_next 1 = .ok (.getfield 44, 3) := by decide +kernel
theorem dX4_next_4 : decode cX4_next 4 = .ok (.iconst (-1), 1) := by decide +kernel
theorem dX4_next_5 : decode cX4_next 5 = .ok (.if_icmp .ne 13, 3) := by decide +kernel
theorem dX4_next_8 : decode cX4_next 8 = .ok (.new 103, 3) := by decide +kernel
theorem dX4_next_11 : decode cX4_next 11 = .ok (.dup, 1) := by decide +kernel
theorem dX4_next_12 : decode cX4_next 12 = .ok (.ldc 121, 2) := by decide +kernel
theorem dX4_next_14 : decode cX4_next 14 = .ok (.invokespecial 107, 3) := by decide +kernel
theorem dX4_next_17 : decode cX4_next 17 = .ok (.athrow, 1) := by decide +kernel
theorem dX4_next_18 : decode cX4_next 18 = .ok (.aload_n 0, 1) := by decide +kernel
theorem dX4_next_19 : decode cX4_next 19 = .ok (.getfield 19, 3) := by decide +kernel
theorem dX4_next_22 : decode cX4_next 22 = .ok (.aload_n 0, 1) := by decide +kernel
theorem dX4_next_23 : decode cX4_next 23 = .ok (.getfield 44, 3) := by decide +kernel
theorem dX4_next_26 : decode cX4_next 26 = .ok (.iconst 0, 1) := by decide +kernel
theorem dX4_next_27 : decode cX4_next 27 = .ok (.invokevirtual 123, 3) := by decide +kernel
theorem dX4_next_30 : decode cX4_next 30 = .ok (.aload_n 0, 1) := by decide +kernel
theorem dX4_next_31 : decode cX4_next 31 = .ok (.aload_n 0, 1) := by decide +kernel
theorem dX4_next_32 : decode cX4_next 32 = .ok (.getfield 44, 3) := by decide +kernel
theorem dX4_next_35 : decode cX4_next 35 = .ok (.aload_n 0, 1) := by decide +kernel
theorem dX4_next_36 : decode cX4_next 36 = .ok (.getfield 127, 3) := by decide +kernel
theorem dX4_next_39 : decode cX4_next 39 = .ok (.iconst 1, 1) := by decide +kernel
theorem dX4_next_40 : decode cX4_next 40 = .ok (.iadd, 1) := by decide +kernel
theorem dX4_next_41 : decode cX4_next 41 = .ok (.invokevirtual 117, 3) := by decide +kernel
theorem dX4_next_44 : decode cX4_next 44 = .ok (.istore_n 1, 1) := by decide +kernel
theorem dX4_next_45 : decode cX4_next 45 = .ok (.aload_n 0, 1) := by decide +kernel
theorem dX4_next_46 : decode cX4_next 46 = .ok (.getfield 19, 3) := by decide +kernel
theorem dX4_next_49 : decode cX4_next 49 = .ok (.invokevirtual 100, 3) := by decide +kernel
theorem dX4_next_52 : decode cX4_next 52 = .ok (.iload_n 1, 1) := by decide +kernel
theorem dX4_next_53 : decode cX4_next 53 = .ok (.ireturn, 1) := by decide +kernel
theorem dX4_cursor_0 : decode cX4_cursor 0 = .ok (.aload_n 0, 1) := by decide +kernel
theorem dX4_cursor_1 : decode cX4_cursor 1 = .ok (.getfield 44, 3) := by decide +kernel
theorem dX4_cursor_4 : decode cX4_cursor 4 = .ok (.iconst (-1), 1) := by decide +kernel
theorem dX4_cursor_5 : decode cX4_cursor 5 = .ok (.if_icmp .ne 13, 3) := by decide +kernel
theorem dX4_cursor_8 : decode cX4_cursor 8 = .ok (.new 103, 3) := by decide +kernel
theorem dX4_cursor_11 : decode cX4_cursor 11 = .ok (.dup, 1) := by decide +kernel
theorem dX4_cursor_12 : decode cX4_cursor 12 = .ok (.ldc 121, 2) := by decide +kernel
theorem dX4_cursor_14 : decode cX4_cursor 14 = .ok (.invokespecial 107, 3) := by decide +kernel
theorem dX4_cursor_17 : decode cX4_cursor 17 = .ok (.athrow, 1) := by decide +kernel
theorem dX4_cursor_18 : decode cX4_cursor 18 = .ok (.iload_n 1, 1) := by decide +kernel
theorem dX4_cursor_19 : decode cX4_cursor 19 = .ok (.ifCond .eq 10, 3) := by decide +kernel
theorem dX4_cursor_22 : decode cX4_cursor 22 = .ok (.aload_n 0, 1) := by decide +kernel
theorem dX4_cursor_23 : decode cX4_cursor 23 = .ok (.getfield 130, 3) := by decide +kernel
theorem dX4_cursor_26 : decode cX4_cursor 26 = .ok (.goto 7, 3) := by decide +kernel
theorem dX4_cursor_29 : decode cX4_cursor 29 = .ok (.aload_n 0, 1) := by decide +kernel
theorem dX4_cursor_30 : decode cX4_cursor 30 = .ok (.getfield 133, 3) := by decide +kernel
theorem dX4_cursor_33 : decode cX4_cursor 33 = .ok (.ireturn, 1) := by decide +kernel
theorem dX4_flush_0 : decode cX4_flush 0 = .ok (.aload_n 0, 1) := by decide +kernel
theorem dX4_flush_1 : decode cX4_flush 1 = .ok (.getfield 19, 3) := by decide +kernel
theorem dX4_flush_4 : decode cX4_flush 4 = .ok (.invokevirtual 136, 3) := by decide +kernel
theorem dX4_flush_7 : decode cX4_flush 7 = .ok (.ireturn, 1) := by decide +kernel
theorem dX4_drop_0 : decode cX4_drop 0 = .ok (.aload_n 0, 1) := by decide +kernel
theorem dX4_drop_1 : decode cX4_drop 1 = .ok (.getfield 19, 3) := by decide +kernel
theorem dX4_drop_4 : decode cX4_drop 4 = .ok (.invokevirtual 139, 3) := by decide +kernel
theorem dX4_drop_7 : decode cX4_drop 7 = .ok (.ifCond .le 13, 3) := by decide +kernel
theorem dX4_drop_10 : decode cX4_drop 10 = .ok (.new 142, 3) := by decide +kernel
theorem dX4_drop_13 : decode cX4_drop 13 = .ok (.dup, 1) := by decide +kernel
theorem dX4_drop_14 : decode cX4_drop 14 = .ok (.ldc 144, 2) := by decide +kernel
theorem dX4_drop_16 : decode cX4_drop 16 = .ok (.invokespecial 146, 3) := by decide +kernel
theorem dX4_drop_19 : decode cX4_drop 19 = .ok (.athrow, 1) := by decide +kernel
theorem dX4_drop_20 : decode cX4_drop 20 = .ok (.aload_n 0, 1) := by decide +kernel
theorem dX4_drop_21 : decode cX4_drop 21 = .ok (.invokevirtual 80, 3) := by decide +kernel
theorem dX4_drop_24 : decode cX4_drop 24 = .ok (.aload_n 0, 1) := by decide +kernel
theorem dX4_drop_25 : decode cX4_drop 25 = .ok (.getfield 19, 3) := by decide +kernel
theorem dX4_drop_28 : decode cX4_drop 28 = .ok (.invokevirtual 147, 3) := by decide +kernel
theorem dX4_drop_31 : decode cX4_drop 31 = .ok (.ireturn, 1) := by decide +kernel
theorem dX4_page_0 : decode cX4_page 0 = .ok (.aload_n 0, 1) := by decide +kernel
theorem dX4_page_1 : decode cX4_page 1 = .ok (.getfield 12, 3) := by decide +kernel
theorem dX4_page_4 : decode cX4_page 4 = .ok (.iload_n 1, 1) := by decide +kernel
theorem dX4_page_5 : decode cX4_page 5 = .ok (.invokevirtual 150, 3) := by decide +kernel
theorem dX4_page_8 : decode cX4_page 8 = .ok (.ifCond .ne 13, 3) := by decide +kernel
theorem dX4_page_11 : decode cX4_page 11 = .ok (.new 154, 3) := by decide +kernel
theorem dX4_page_14 : decode cX4_page 14 = .ok (.dup, 1) := by decide +kernel
theorem dX4_page_15 : decode cX4_page 15 = .ok (.ldc 156, 2) := by decide +kernel
theorem dX4_page_17 : decode cX4_page 17 = .ok (.invokespecial 158, 3) := by decide +kernel
theorem dX4_page_20 : decode cX4_page 20 = .ok (.athrow, 1) := by decide +kernel
theorem dX4_page_21 : decode cX4_page 21 = .ok (.iload_n 2, 1) := by decide +kernel
theorem dX4_page_22 : decode cX4_page 22 = .ok (.tableswitch 53 0 2 #[26, 35, 44], 26) := by decide +kernel
theorem dX4_page_48 : decode cX4_page 48 = .ok (.aload_n 0, 1) := by decide +kernel
theorem dX4_page_49 : decode cX4_page 49 = .ok (.getfield 12, 3) := by decide +kernel
theorem dX4_page_52 : decode cX4_page 52 = .ok (.iload_n 1, 1) := by decide +kernel
theorem dX4_page_53 : decode cX4_page 53 = .ok (.invokevirtual 159, 3) := by decide +kernel
theorem dX4_page_56 : decode cX4_page 56 = .ok (.ireturn, 1) := by decide +kernel
theorem dX4_page_57 : decode cX4_page 57 = .ok (.aload_n 0, 1) := by decide +kernel
theorem dX4_page_58 : decode cX4_page 58 = .ok (.getfield 12, 3) := by decide +kernel
theorem dX4_page_61 : decode cX4_page 61 = .ok (.iload_n 1, 1) := by decide +kernel
theorem dX4_page_62 : decode cX4_page 62 = .ok (.invokevirtual 163, 3) := by decide +kernel
theorem dX4_page_65 : decode cX4_page 65 = .ok (.ireturn, 1) := by decide +kernel
theorem dX4_page_66 : decode cX4_page 66 = .ok (.aload_n 0, 1) := by decide +kernel
theorem dX4_page_67 : decode cX4_page 67 = .ok (.getfield 12, 3) := by decide +kernel
theorem dX4_page_70 : decode cX4_page 70 = .ok (.iload_n 1, 1) := by decide +kernel
theorem dX4_page_71 : decode cX4_page 71 = .ok (.invokevirtual 166, 3) := by decide +kernel
theorem dX4_page_74 : decode cX4_page 74 = .ok (.ireturn, 1) := by decide +kernel
theorem dX4_page_75 : decode cX4_page 75 = .ok (.new 169, 3) := by decide +kernel
theorem dX4_page_78 : decode cX4_page 78 = .ok (.dup, 1) := by decide +kernel
theorem dX4_page_79 : decode cX4_page 79 = .ok (.ldc 171, 2) := by decide +kernel
theorem dX4_page_81 : decode cX4_page 81 = .ok (.invokespecial 173, 3) := by decide +kernel
theorem dX4_page_84 : decode cX4_page 84 = .ok (.athrow, 1) := by decide +kernel
theorem dX4_item_0 : decode cX4_item 0 = .ok (.aload_n 0, 1) := by decide +kernel
theorem dX4_item_1 : decode cX4_item 1 = .ok (.getfield 12, 3) := by decide +kernel
theorem dX4_item_4 : decode cX4_item 4 = .ok (.iload_n 1, 1) := by decide +kernel
theorem dX4_item_5 : decode cX4_item 5 = .ok (.invokevirtual 150, 3) := by decide +kernel
theorem dX4_item_8 : decode cX4_item 8 = .ok (.ifCond .ne 13, 3) := by decide +kernel
theorem dX4_item_11 : decode cX4_item 11 = .ok (.new 154, 3) := by decide +kernel
theorem dX4_item_14 : decode cX4_item 14 = .ok (.dup, 1) := by decide +kernel
theorem dX4_item_15 : decode cX4_item 15 = .ok (.ldc 156, 2) := by decide +kernel
theorem dX4_item_17 : decode cX4_item 17 = .ok (.invokespecial 158, 3) := by decide +kernel
theorem dX4_item_20 : decode cX4_item 20 = .ok (.athrow, 1) := by decide +kernel
theorem dX4_item_21 : decode cX4_item 21 = .ok (.iload_n 2, 1) := by decide +kernel
theorem dX4_item_22 : decode cX4_item 22 = .ok (.ifCond .lt 15, 3) := by decide +kernel
theorem dX4_item_25 : decode cX4_item 25 = .ok (.iload_n 2, 1) := by decide +kernel
theorem dX4_item_26 : decode cX4_item 26 = .ok (.aload_n 0, 1) := by decide +kernel
theorem dX4_item_27 : decode cX4_item 27 = .ok (.getfield 12, 3) := by decide +kernel
theorem dX4_item_30 : decode cX4_item 30 = .ok (.iload_n 1, 1) := by decide +kernel
theorem dX4_item_31 : decode cX4_item 31 = .ok (.invokevirtual 163, 3) := by decide +kernel
theorem dX4_item_34 : decode cX4_item 34 = .ok (.if_icmp .lt 13, 3) := by decide +kernel
theorem dX4_item_37 : decode cX4_item 37 = .ok (.new 154, 3) := by decide +kernel
theorem dX4_item_40 : decode cX4_item 40 = .ok (.dup, 1) := by decide +kernel
theorem dX4_item_41 : decode cX4_item 41 = .ok (.ldc 174, 2) := by decide +kernel
theorem dX4_item_43 : decode cX4_item 43 = .ok (.invokespecial 158, 3) := by decide +kernel
theorem dX4_item_46 : decode cX4_item 46 = .ok (.athrow, 1) := by decide +kernel
theorem dX4_item_47 : decode cX4_item 47 = .ok (.iload_n 3, 1) := by decide +kernel
theorem dX4_item_48 : decode cX4_item 48 = .ok (.ifCond .eq 15, 3) := by decide +kernel
theorem dX4_item_51 : decode cX4_item 51 = .ok (.aload_n 0, 1) := by decide +kernel
theorem dX4_item_52 : decode cX4_item 52 = .ok (.getfield 12, 3) := by decide +kernel
theorem dX4_item_55 : decode cX4_item 55 = .ok (.iload_n 1, 1) := by decide +kernel
theorem dX4_item_56 : decode cX4_item 56 = .ok (.iload_n 2, 1) := by decide +kernel
theorem dX4_item_57 : decode cX4_item 57 = .ok (.invokevirtual 108, 3) := by decide +kernel
theorem dX4_item_60 : decode cX4_item 60 = .ok (.goto 12, 3) := by decide +kernel
theorem dX4_item_63 : decode cX4_item 63 = .ok (.aload_n 0, 1) := by decide +kernel
theorem dX4_item_64 : decode cX4_item 64 = .ok (.getfield 12, 3) := by decide +kernel
theorem dX4_item_67 : decode cX4_item 67 = .ok (.iload_n 1, 1) := by decide +kernel
theorem dX4_item_68 : decode cX4_item 68 = .ok (.iload_n 2, 1) := by decide +kernel
theorem dX4_item_69 : decode cX4_item 69 = .ok (.invokevirtual 176, 3) := by decide +kernel
theorem dX4_item_72 : decode cX4_item 72 = .ok (.ireturn, 1) := by decide +kernel
theorem dX4_frame_0 : decode cX4_frame 0 = .ok (.aload_n 0, 1) := by decide +kernel
theorem dX4_frame_1 : decode cX4_frame 1 = .ok (.getfield 19, 3) := by decide +kernel
theorem dX4_frame_4 : decode cX4_frame 4 = .ok (.iload_n 1, 1) := by decide +kernel
theorem dX4_frame_5 : decode cX4_frame 5 = .ok (.invokevirtual 179, 3) := by decide +kernel
theorem dX4_frame_8 : decode cX4_frame 8 = .ok (.ifCond .ne 13, 3) := by decide +kernel
theorem dX4_frame_11 : decode cX4_frame 11 = .ok (.new 154, 3) := by decide +kernel
theorem dX4_frame_14 : decode cX4_frame 14 = .ok (.dup, 1) := by decide +kernel
theorem dX4_frame_15 : decode cX4_frame 15 = .ok (.ldc 182, 2) := by decide +kernel
theorem dX4_frame_17 : decode cX4_frame 17 = .ok (.invokespecial 158, 3) := by decide +kernel
theorem dX4_frame_20 : decode cX4_frame 20 = .ok (.athrow, 1) := by decide +kernel
theorem dX4_frame_21 : decode cX4_frame 21 = .ok (.iload_n 2, 1) := by decide +kernel
theorem dX4_frame_22 : decode cX4_frame 22 = .ok (.tableswitch 69 0 2 #[26, 35, 52], 26) := by decide +kernel
theorem dX4_frame_48 : decode cX4_frame 48 = .ok (.aload_n 0, 1) := by decide +kernel
theorem dX4_frame_49 : decode cX4_frame 49 = .ok (.getfield 19, 3) := by decide +kernel
theorem dX4_frame_52 : decode cX4_frame 52 = .ok (.iload_n 1, 1) := by decide +kernel
theorem dX4_frame_53 : decode cX4_frame 53 = .ok (.invokevirtual 184, 3) := by decide +kernel
theorem dX4_frame_56 : decode cX4_frame 56 = .ok (.ireturn, 1) := by decide +kernel
theorem dX4_frame_57 : decode cX4_frame 57 = .ok (.aload_n 0, 1) := by decide +kernel
theorem dX4_frame_58 : decode cX4_frame 58 = .ok (.getfield 19, 3) := by decide +kernel
theorem dX4_frame_61 : decode cX4_frame 61 = .ok (.iload_n 1, 1) := by decide +kernel
theorem dX4_frame_62 : decode cX4_frame 62 = .ok (.invokevirtual 187, 3) := by decide +kernel
theorem dX4_frame_65 : decode cX4_frame 65 = .ok (.ifCond .eq 7, 3) := by decide +kernel
theorem dX4_frame_68 : decode cX4_frame 68 = .ok (.iconst 1, 1) := by decide +kernel
theorem dX4_frame_69 : decode cX4_frame 69 = .ok (.goto 4, 3) := by decide +kernel
theorem dX4_frame_72 : decode cX4_frame 72 = .ok (.iconst 0, 1) := by decide +kernel
theorem dX4_frame_73 : decode cX4_frame 73 = .ok (.ireturn, 1) := by decide +kernel
theorem dX4_frame_74 : decode cX4_frame 74 = .ok (.aload_n 0, 1) := by decide +kernel
theorem dX4_frame_75 : decode cX4_frame 75 = .ok (.getfield 19, 3) := by decide +kernel
theorem dX4_frame_78 : decode cX4_frame 78 = .ok (.iload_n 1, 1) := by decide +kernel
theorem dX4_frame_79 : decode cX4_frame 79 = .ok (.invokevirtual 190, 3) := by decide +kernel
theorem dX4_frame_82 : decode cX4_frame 82 = .ok (.ifCond .eq 7, 3) := by decide +kernel
theorem dX4_frame_85 : decode cX4_frame 85 = .ok (.iconst 1, 1) := by decide +kernel
theorem dX4_frame_86 : decode cX4_frame 86 = .ok (.goto 4, 3) := by decide +kernel
theorem dX4_frame_89 : decode cX4_frame 89 = .ok (.iconst 0, 1) := by decide +kernel
theorem dX4_frame_90 : decode cX4_frame 90 = .ok (.ireturn, 1) := by decide +kernel
theorem dX4_frame_91 : decode cX4_frame 91 = .ok (.new 169, 3) := by decide +kernel
theorem dX4_frame_94 : decode cX4_frame 94 = .ok (.dup, 1) := by decide +kernel
theorem dX4_frame_95 : decode cX4_frame 95 = .ok (.ldc 193, 2) := by decide +kernel
theorem dX4_frame_97 : decode cX4_frame 97 = .ok (.invokespecial 173, 3) := by decide +kernel
theorem dX4_frame_100 : decode cX4_frame 100 = .ok (.athrow, 1) := by decide +kernel
theorem dX4_told_0 : decode cX4_told 0 = .ok (.iload_n 1, 1) := by decide +kernel
theorem dX4_told_1 : decode cX4_told 1 = .ok (.tableswitch 112 0 7 #[47, 52, 57, 69, 80, 88, 96, 104], 47) := by decide +kernel
theorem dX4_told_48 : decode cX4_told 48 = .ok (.aload_n 0, 1) := by decide +kernel
theorem dX4_told_49 : decode cX4_told 49 = .ok (.getfield 41, 3) := by decide +kernel
theorem dX4_told_52 : decode cX4_told 52 = .ok (.ireturn, 1) := by decide +kernel
theorem dX4_told_53 : decode cX4_told 53 = .ok (.aload_n 0, 1) := by decide +kernel
theorem dX4_told_54 : decode cX4_told 54 = .ok (.getfield 37, 3) := by decide +kernel
theorem dX4_told_57 : decode cX4_told 57 = .ok (.ireturn, 1) := by decide +kernel
theorem dX4_told_58 : decode cX4_told 58 = .ok (.aload_n 0, 1) := by decide +kernel
theorem dX4_told_59 : decode cX4_told 59 = .ok (.getfield 12, 3) := by decide +kernel
theorem dX4_told_62 : decode cX4_told 62 = .ok (.aload_n 0, 1) := by decide +kernel
theorem dX4_told_63 : decode cX4_told 63 = .ok (.getfield 37, 3) := by decide +kernel
theorem dX4_told_66 : decode cX4_told 66 = .ok (.invokevirtual 195, 3) := by decide +kernel
theorem dX4_told_69 : decode cX4_told 69 = .ok (.ireturn, 1) := by decide +kernel
theorem dX4_told_70 : decode cX4_told 70 = .ok (.bipush 40, 2) := by decide +kernel
theorem dX4_told_72 : decode cX4_told 72 = .ok (.aload_n 0, 1) := by decide +kernel
theorem dX4_told_73 : decode cX4_told 73 = .ok (.getfield 12, 3) := by decide +kernel
theorem dX4_told_76 : decode cX4_told 76 = .ok (.invokevirtual 70, 3) := by decide +kernel
theorem dX4_told_79 : decode cX4_told 79 = .ok (.isub, 1) := by decide +kernel
theorem dX4_told_80 : decode cX4_told 80 = .ok (.ireturn, 1) := by decide +kernel
theorem dX4_told_81 : decode cX4_told 81 = .ok (.aload_n 0, 1) := by decide +kernel
theorem dX4_told_82 : decode cX4_told 82 = .ok (.getfield 19, 3) := by decide +kernel
theorem dX4_told_85 : decode cX4_told 85 = .ok (.invokevirtual 198, 3) := by decide +kernel
theorem dX4_told_88 : decode cX4_told 88 = .ok (.ireturn, 1) := by decide +kernel
theorem dX4_told_89 : decode cX4_told 89 = .ok (.aload_n 0, 1) := by decide +kernel
theorem dX4_told_90 : decode cX4_told 90 = .ok (.getfield 19, 3) := by decide +kernel
theorem dX4_told_93 : decode cX4_told 93 = .ok (.invokevirtual 201, 3) := by decide +kernel
theorem dX4_told_96 : decode cX4_told 96 = .ok (.ireturn, 1) := by decide +kernel
theorem dX4_told_97 : decode cX4_told 97 = .ok (.aload_n 0, 1) := by decide +kernel
theorem dX4_told_98 : decode cX4_told 98 = .ok (.getfield 19, 3) := by decide +kernel
theorem dX4_told_101 : decode cX4_told 101 = .ok (.invokevirtual 204, 3) := by decide +kernel
theorem dX4_told_104 : decode cX4_told 104 = .ok (.ireturn, 1) := by decide +kernel
theorem dX4_told_105 : decode cX4_told 105 = .ok (.aload_n 0, 1) := by decide +kernel
theorem dX4_told_106 : decode cX4_told 106 = .ok (.getfield 19, 3) := by decide +kernel
theorem dX4_told_109 : decode cX4_told 109 = .ok (.invokevirtual 207, 3) := by decide +kernel
theorem dX4_told_112 : decode cX4_told 112 = .ok (.ireturn, 1) := by decide +kernel
theorem dX4_told_113 : decode cX4_told 113 = .ok (.iconst (-1), 1) := by decide +kernel
theorem dX4_told_114 : decode cX4_told 114 = .ok (.ireturn, 1) := by decide +kernel
theorem dX4_astray_0 : decode cX4_astray 0 = .ok (.aload_n 0, 1) := by decide +kernel
theorem dX4_astray_1 : decode cX4_astray 1 = .ok (.getfield 33, 3) := by decide +kernel
theorem dX4_astray_4 : decode cX4_astray 4 = .ok (.aload_n 0, 1) := by decide +kernel
theorem dX4_astray_5 : decode cX4_astray 5 = .ok (.getfield 12, 3) := by decide +kernel
theorem dX4_astray_8 : decode cX4_astray 8 = .ok (.aload_n 0, 1) := by decide +kernel
theorem dX4_astray_9 : decode cX4_astray 9 = .ok (.getfield 19, 3) := by decide +kernel
theorem dX4_astray_12 : decode cX4_astray 12 = .ok (.aload_n 0, 1) := by decide +kernel
theorem dX4_astray_13 : decode cX4_astray 13 = .ok (.getfield 37, 3) := by decide +kernel
theorem dX4_astray_16 : decode cX4_astray 16 = .ok (.invokevirtual 210, 3) := by decide +kernel
theorem dX4_astray_19 : decode cX4_astray 19 = .ok (.ireturn, 1) := by decide +kernel
theorem dX4_touchWay_0 : decode cX4_touchWay 0 = .ok (.iconst 0, 1) := by decide +kernel
theorem dX4_touchWay_1 : decode cX4_touchWay 1 = .ok (.istore_n 1, 1) := by decide +kernel
theorem dX4_touchWay_2 : decode cX4_touchWay 2 = .ok (.iload_n 1, 1) := by decide +kernel
theorem dX4_touchWay_3 : decode cX4_touchWay 3 = .ok (.aload_n 0, 1) := by decide +kernel
theorem dX4_touchWay_4 : decode cX4_touchWay 4 = .ok (.getfield 26, 3) := by decide +kernel
theorem dX4_touchWay_7 : decode cX4_touchWay 7 = .ok (.invokevirtual 214, 3) := by decide +kernel
theorem dX4_touchWay_10 : decode cX4_touchWay 10 = .ok (.if_icmp .ge 25, 3) := by decide +kernel
theorem dX4_touchWay_13 : decode cX4_touchWay 13 = .ok (.aload_n 0, 1) := by decide +kernel
theorem dX4_touchWay_14 : decode cX4_touchWay 14 = .ok (.getfield 19, 3) := by decide +kernel
theorem dX4_touchWay_17 : decode cX4_touchWay 17 = .ok (.aload_n 0, 1) := by decide +kernel
theorem dX4_touchWay_18 : decode cX4_touchWay 18 = .ok (.getfield 26, 3) := by decide +kernel
theorem dX4_touchWay_21 : decode cX4_touchWay 21 = .ok (.iload_n 1, 1) := by decide +kernel
theorem dX4_touchWay_22 : decode cX4_touchWay 22 = .ok (.invokevirtual 217, 3) := by decide +kernel
theorem dX4_touchWay_25 : decode cX4_touchWay 25 = .ok (.iconst 0, 1) := by decide +kernel
theorem dX4_touchWay_26 : decode cX4_touchWay 26 = .ok (.invokevirtual 123, 3) := by decide +kernel
theorem dX4_touchWay_29 : decode cX4_touchWay 29 = .ok (.iinc 1 1, 3) := by decide +kernel
theorem dX4_touchWay_32 : decode cX4_touchWay 32 = .ok (.goto (-30), 3) := by decide +kernel
theorem dX4_touchWay_35 : decode cX4_touchWay 35 = .ok (.return_, 1) := by decide +kernel
theorem dX4_endCursor_0 : decode cX4_endCursor 0 = .ok (.aload_n 0, 1) := by decide +kernel
theorem dX4_endCursor_1 : decode cX4_endCursor 1 = .ok (.iconst (-1), 1) := by decide +kernel
theorem dX4_endCursor_2 : decode cX4_endCursor 2 = .ok (.putfield 44, 3) := by decide +kernel
theorem dX4_endCursor_5 : decode cX4_endCursor 5 = .ok (.return_, 1) := by decide +kernel
theorem dX4_moveCursor_0 : decode cX4_moveCursor 0 = .ok (.iload_n 1, 1) := by decide +kernel
theorem dX4_moveCursor_1 : decode cX4_moveCursor 1 = .ok (.istore_n 3, 1) := by decide +kernel
theorem dX4_moveCursor_2 : decode cX4_moveCursor 2 = .ok (.iload_n 2, 1) := by decide +kernel
theorem dX4_moveCursor_3 : decode cX4_moveCursor 3 = .ok (.istore 4, 2) := by decide +kernel
theorem dX4_moveCursor_5 : decode cX4_moveCursor 5 = .ok (.iload_n 2, 1) := by decide +kernel
theorem dX4_moveCursor_6 : decode cX4_moveCursor 6 = .ok (.aload_n 0, 1) := by decide +kernel
theorem dX4_moveCursor_7 : decode cX4_moveCursor 7 = .ok (.getfield 12, 3) := by decide +kernel
theorem dX4_moveCursor_10 : decode cX4_moveCursor 10 = .ok (.iload_n 1, 1) := by decide +kernel
theorem dX4_moveCursor_11 : decode cX4_moveCursor 11 = .ok (.invokevirtual 163, 3) := by decide +kernel
theorem dX4_moveCursor_14 : decode cX4_moveCursor 14 = .ok (.if_icmp .lt 29, 3) := by decide +kernel
theorem dX4_moveCursor_17 : decode cX4_moveCursor 17 = .ok (.aload_n 0, 1) := by decide +kernel
theorem dX4_moveCursor_18 : decode cX4_moveCursor 18 = .ok (.getfield 12, 3) := by decide +kernel
theorem dX4_moveCursor_21 : decode cX4_moveCursor 21 = .ok (.iload_n 1, 1) := by decide +kernel
theorem dX4_moveCursor_22 : decode cX4_moveCursor 22 = .ok (.invokevirtual 166, 3) := by decide +kernel
theorem dX4_moveCursor_25 : decode cX4_moveCursor 25 = .ok (.istore_n 3, 1) := by decide +kernel
theorem dX4_moveCursor_26 : decode cX4_moveCursor 26 = .ok (.iconst 0, 1) := by decide +kernel
theorem dX4_moveCursor_27 : decode cX4_moveCursor 27 = .ok (.istore 4, 2) := by decide +kernel
theorem dX4_moveCursor_29 : decode cX4_moveCursor 29 = .ok (.iload_n 3, 1) := by decide +kernel
theorem dX4_moveCursor_30 : decode cX4_moveCursor 30 = .ok (.iconst (-1), 1) := by decide +kernel
theorem dX4_moveCursor_31 : decode cX4_moveCursor 31 = .ok (.if_icmp .eq 12, 3) := by decide +kernel
theorem dX4_moveCursor_34 : decode cX4_moveCursor 34 = .ok (.aload_n 0, 1) := by decide +kernel
theorem dX4_moveCursor_35 : decode cX4_moveCursor 35 = .ok (.getfield 19, 3) := by decide +kernel
theorem dX4_moveCursor_38 : decode cX4_moveCursor 38 = .ok (.iload_n 3, 1) := by decide +kernel
theorem dX4_moveCursor_39 : decode cX4_moveCursor 39 = .ok (.iconst 0, 1) := by decide +kernel
theorem dX4_moveCursor_40 : decode cX4_moveCursor 40 = .ok (.invokevirtual 123, 3) := by decide +kernel
theorem dX4_moveCursor_43 : decode cX4_moveCursor 43 = .ok (.iload_n 3, 1) := by decide +kernel
theorem dX4_moveCursor_44 : decode cX4_moveCursor 44 = .ok (.iconst (-1), 1) := by decide +kernel
theorem dX4_moveCursor_45 : decode cX4_moveCursor 45 = .ok (.if_icmp .eq 16, 3) := by decide +kernel
theorem dX4_moveCursor_48 : decode cX4_moveCursor 48 = .ok (.iload 4, 2) := by decide +kernel
theorem dX4_moveCursor_50 : decode cX4_moveCursor 50 = .ok (.aload_n 0, 1) := by decide +kernel
theorem dX4_moveCursor_51 : decode cX4_moveCursor 51 = .ok (.getfield 12, 3) := by decide +kernel
theorem dX4_moveCursor_54 : decode cX4_moveCursor 54 = .ok (.iload_n 3, 1) := by decide +kernel
theorem dX4_moveCursor_55 : decode cX4_moveCursor 55 = .ok (.invokevirtual 163, 3) := by decide +kernel
theorem dX4_moveCursor_58 : decode cX4_moveCursor 58 = .ok (.if_icmp .lt 9, 3) := by decide +kernel
theorem dX4_moveCursor_61 : decode cX4_moveCursor 61 = .ok (.aload_n 0, 1) := by decide +kernel
theorem dX4_moveCursor_62 : decode cX4_moveCursor 62 = .ok (.invokevirtual 80, 3) := by decide +kernel
theorem dX4_moveCursor_65 : decode cX4_moveCursor 65 = .ok (.iconst 0, 1) := by decide +kernel
theorem dX4_moveCursor_66 : decode cX4_moveCursor 66 = .ok (.ireturn, 1) := by decide +kernel
theorem dX4_moveCursor_67 : decode cX4_moveCursor 67 = .ok (.aload_n 0, 1) := by decide +kernel
theorem dX4_moveCursor_68 : decode cX4_moveCursor 68 = .ok (.iload_n 3, 1) := by decide +kernel
theorem dX4_moveCursor_69 : decode cX4_moveCursor 69 = .ok (.putfield 44, 3) := by decide +kernel
theorem dX4_moveCursor_72 : decode cX4_moveCursor 72 = .ok (.aload_n 0, 1) := by decide +kernel
theorem dX4_moveCursor_73 : decode cX4_moveCursor 73 = .ok (.iload 4, 2) := by decide +kernel
theorem dX4_moveCursor_75 : decode cX4_moveCursor 75 = .ok (.putfield 127, 3) := by decide +kernel
theorem dX4_moveCursor_78 : decode cX4_moveCursor 78 = .ok (.aload_n 0, 1) := by decide +kernel
theorem dX4_moveCursor_79 : decode cX4_moveCursor 79 = .ok (.aload_n 0, 1) := by decide +kernel
theorem dX4_moveCursor_80 : decode cX4_moveCursor 80 = .ok (.getfield 12, 3) := by decide +kernel
theorem dX4_moveCursor_83 : decode cX4_moveCursor 83 = .ok (.iload_n 3, 1) := by decide +kernel
theorem dX4_moveCursor_84 : decode cX4_moveCursor 84 = .ok (.iload 4, 2) := by decide +kernel
theorem dX4_moveCursor_86 : decode cX4_moveCursor 86 = .ok (.invokevirtual 176, 3) := by decide +kernel
theorem dX4_moveCursor_89 : decode cX4_moveCursor 89 = .ok (.putfield 133, 3) := by decide +kernel
theorem dX4_moveCursor_92 : decode cX4_moveCursor 92 = .ok (.aload_n 0, 1) := by decide +kernel
theorem dX4_moveCursor_93 : decode cX4_moveCursor 93 = .ok (.aload_n 0, 1) := by decide +kernel
theorem dX4_moveCursor_94 : decode cX4_moveCursor 94 = .ok (.getfield 12, 3) := by decide +kernel
theorem dX4_moveCursor_97 : decode cX4_moveCursor 97 = .ok (.iload_n 3, 1) := by decide +kernel
theorem dX4_moveCursor_98 : decode cX4_moveCursor 98 = .ok (.iload 4, 2) := by decide +kernel
theorem dX4_moveCursor_100 : decode cX4_moveCursor 100 = .ok (.invokevirtual 108, 3) := by decide +kernel
theorem dX4_moveCursor_103 : decode cX4_moveCursor 103 = .ok (.putfield 130, 3) := by decide +kernel
theorem dX4_moveCursor_106 : decode cX4_moveCursor 106 = .ok (.iconst 1, 1) := by decide +kernel
theorem dX4_moveCursor_107 : decode cX4_moveCursor 107 = .ok (.ireturn, 1) := by decide +kernel
theorem dX4_newPagesForEntry_0 : decode cX4_newPagesForEntry 0 = .ok (.iconst 0, 1) := by decide +kernel
theorem dX4_newPagesForEntry_1 : decode cX4_newPagesForEntry 1 = .ok (.istore_n 1, 1) := by decide +kernel
theorem dX4_newPagesForEntry_2 : decode cX4_newPagesForEntry 2 = .ok (.aload_n 0, 1) := by decide +kernel
theorem dX4_newPagesForEntry_3 : decode cX4_newPagesForEntry 3 = .ok (.getfield 26, 3) := by decide +kernel
theorem dX4_newPagesForEntry_6 : decode cX4_newPagesForEntry 6 = .ok (.invokevirtual 214, 3) := by decide +kernel
theorem dX4_newPagesForEntry_9 : decode cX4_newPagesForEntry 9 = .ok (.iconst 1, 1) := by decide +kernel
theorem dX4_newPagesForEntry_10 : decode cX4_newPagesForEntry 10 = .ok (.isub, 1) := by decide +kernel
theorem dX4_newPagesForEntry_11 : decode cX4_newPagesForEntry 11 = .ok (.istore_n 2, 1) := by decide +kernel
theorem dX4_newPagesForEntry_12 : decode cX4_newPagesForEntry 12 = .ok (.iload_n 2, 1) := by decide +kernel
theorem dX4_newPagesForEntry_13 : decode cX4_newPagesForEntry 13 = .ok (.ifCond .lt 33, 3) := by decide +kernel
theorem dX4_newPagesForEntry_16 : decode cX4_newPagesForEntry 16 = .ok (.aload_n 0, 1) := by decide +kernel
theorem dX4_newPagesForEntry_17 : decode cX4_newPagesForEntry 17 = .ok (.getfield 12, 3) := by decide +kernel
theorem dX4_newPagesForEntry_20 : decode cX4_newPagesForEntry 20 = .ok (.aload_n 0, 1) := by decide +kernel
theorem dX4_newPagesForEntry_21 : decode cX4_newPagesForEntry 21 = .ok (.getfield 26, 3) := by decide +kernel
theorem dX4_newPagesForEntry_24 : decode cX4_newPagesForEntry 24 = .ok (.iload_n 2, 1) := by decide +kernel
theorem dX4_newPagesForEntry_25 : decode cX4_newPagesForEntry 25 = .ok (.invokevirtual 217, 3) := by decide +kernel
theorem dX4_newPagesForEntry_28 : decode cX4_newPagesForEntry 28 = .ok (.invokevirtual 163, 3) := by decide +kernel
theorem dX4_newPagesForEntry_31 : decode cX4_newPagesForEntry 31 = .ok (.iconst 4, 1) := by decide +kernel
theorem dX4_newPagesForEntry_32 : decode cX4_newPagesForEntry 32 = .ok (.if_icmp .ge 5, 3) := by decide +kernel
theorem dX4_newPagesForEntry_35 : decode cX4_newPagesForEntry 35 = .ok (.iload_n 1, 1) := by decide +kernel
theorem dX4_newPagesForEntry_36 : decode cX4_newPagesForEntry 36 = .ok (.ireturn, 1) := by decide +kernel
theorem dX4_newPagesForEntry_37 : decode cX4_newPagesForEntry 37 = .ok (.iinc 1 1, 3) := by decide +kernel
theorem dX4_newPagesForEntry_40 : decode cX4_newPagesForEntry 40 = .ok (.iinc 2 (-1), 3) := by decide +kernel
theorem dX4_newPagesForEntry_43 : decode cX4_newPagesForEntry 43 = .ok (.goto (-31), 3) := by decide +kernel
theorem dX4_newPagesForEntry_46 : decode cX4_newPagesForEntry 46 = .ok (.iload_n 1, 1) := by decide +kernel
theorem dX4_newPagesForEntry_47 : decode cX4_newPagesForEntry 47 = .ok (.iconst 1, 1) := by decide +kernel
theorem dX4_newPagesForEntry_48 : decode cX4_newPagesForEntry 48 = .ok (.iadd, 1) := by decide +kernel
theorem dX4_newPagesForEntry_49 : decode cX4_newPagesForEntry 49 = .ok (.ireturn, 1) := by decide +kernel
theorem dX4_splitUpwards_0 : decode cX4_splitUpwards 0 = .ok (.aload_n 0, 1) := by decide +kernel
theorem dX4_splitUpwards_1 : decode cX4_splitUpwards 1 = .ok (.getfield 26, 3) := by decide +kernel
theorem dX4_splitUpwards_4 : decode cX4_splitUpwards 4 = .ok (.invokevirtual 214, 3) := by decide +kernel
theorem dX4_splitUpwards_7 : decode cX4_splitUpwards 7 = .ok (.iconst 1, 1) := by decide +kernel
theorem dX4_splitUpwards_8 : decode cX4_splitUpwards 8 = .ok (.isub, 1) := by decide +kernel
theorem dX4_splitUpwards_9 : decode cX4_splitUpwards 9 = .ok (.istore_n 1, 1) := by decide +kernel
theorem dX4_splitUpwards_10 : decode cX4_splitUpwards 10 = .ok (.iload_n 1, 1) := by decide +kernel
theorem dX4_splitUpwards_11 : decode cX4_splitUpwards 11 = .ok (.ifCond .lt 34, 3) := by decide +kernel
theorem dX4_splitUpwards_14 : decode cX4_splitUpwards 14 = .ok (.aload_n 0, 1) := by decide +kernel
theorem dX4_splitUpwards_15 : decode cX4_splitUpwards 15 = .ok (.getfield 12, 3) := by decide +kernel
theorem dX4_splitUpwards_18 : decode cX4_splitUpwards 18 = .ok (.aload_n 0, 1) := by decide +kernel
theorem dX4_splitUpwards_19 : decode cX4_splitUpwards 19 = .ok (.getfield 26, 3) := by decide +kernel
theorem dX4_splitUpwards_22 : decode cX4_splitUpwards 22 = .ok (.iload_n 1, 1) := by decide +kernel
theorem dX4_splitUpwards_23 : decode cX4_splitUpwards 23 = .ok (.invokevirtual 217, 3) := by decide +kernel
theorem dX4_splitUpwards_26 : decode cX4_splitUpwards 26 = .ok (.invokevirtual 163, 3) := by decide +kernel
theorem dX4_splitUpwards_29 : decode cX4_splitUpwards 29 = .ok (.iconst 4, 1) := by decide +kernel
theorem dX4_splitUpwards_30 : decode cX4_splitUpwards 30 = .ok (.if_icmp .gt 4, 3) := by decide +kernel
theorem dX4_splitUpwards_33 : decode cX4_splitUpwards 33 = .ok (.return_, 1) := by decide +kernel
theorem dX4_splitUpwards_34 : decode cX4_splitUpwards 34 = .ok (.aload_n 0, 1) := by decide +kernel
theorem dX4_splitUpwards_35 : decode cX4_splitUpwards 35 = .ok (.iload_n 1, 1) := by decide +kernel
theorem dX4_splitUpwards_36 : decode cX4_splitUpwards 36 = .ok (.invokevirtual 220, 3) := by decide +kernel
theorem dX4_splitUpwards_39 : decode cX4_splitUpwards 39 = .ok (.iinc 1 (-1), 3) := by decide +kernel
theorem dX4_splitUpwards_42 : decode cX4_splitUpwards 42 = .ok (.goto (-32), 3) := by decide +kernel
theorem dX4_splitUpwards_45 : decode cX4_splitUpwards 45 = .ok (.return_, 1) := by decide +kernel
theorem dX4_split_0 : decode cX4_split 0 = .ok (.aload_n 0, 1) := by decide +kernel
theorem dX4_split_1 : decode cX4_split 1 = .ok (.getfield 26, 3) := by decide +kernel
theorem dX4_split_4 : decode cX4_split 4 = .ok (.iload_n 1, 1) := by decide +kernel
theorem dX4_split_5 : decode cX4_split 5 = .ok (.invokevirtual 217, 3) := by decide +kernel
theorem dX4_split_8 : decode cX4_split 8 = .ok (.istore_n 2, 1) := by decide +kernel
theorem dX4_split_9 : decode cX4_split 9 = .ok (.aload_n 0, 1) := by decide +kernel
theorem dX4_split_10 : decode cX4_split 10 = .ok (.aload_n 0, 1) := by decide +kernel
theorem dX4_split_11 : decode cX4_split 11 = .ok (.getfield 12, 3) := by decide +kernel
theorem dX4_split_14 : decode cX4_split 14 = .ok (.iload_n 2, 1) := by decide +kernel
theorem dX4_split_15 : decode cX4_split 15 = .ok (.invokevirtual 159, 3) := by decide +kernel
theorem dX4_split_18 : decode cX4_split 18 = .ok (.invokevirtual 223, 3) := by decide +kernel
theorem dX4_split_21 : decode cX4_split 21 = .ok (.istore_n 3, 1) := by decide +kernel
theorem dX4_split_22 : decode cX4_split 22 = .ok (.aload_n 0, 1) := by decide +kernel
theorem dX4_split_23 : decode cX4_split 23 = .ok (.getfield 12, 3) := by decide +kernel
theorem dX4_split_26 : decode cX4_split 26 = .ok (.iload_n 2, 1) := by decide +kernel
theorem dX4_split_27 : decode cX4_split 27 = .ok (.iconst 2, 1) := by decide +kernel
theorem dX4_split_28 : decode cX4_split 28 = .ok (.invokevirtual 176, 3) := by decide +kernel
theorem dX4_split_31 : decode cX4_split 31 = .ok (.istore 4, 2) := by decide +kernel
theorem dX4_split_33 : decode cX4_split 33 = .ok (.aload_n 0, 1) := by decide +kernel
theorem dX4_split_34 : decode cX4_split 34 = .ok (.getfield 12, 3) := by decide +kernel
theorem dX4_split_37 : decode cX4_split 37 = .ok (.iload_n 2, 1) := by decide +kernel
theorem dX4_split_38 : decode cX4_split 38 = .ok (.iconst 2, 1) := by decide +kernel
theorem dX4_split_39 : decode cX4_split 39 = .ok (.iload_n 3, 1) := by decide +kernel
theorem dX4_split_40 : decode cX4_split 40 = .ok (.invokevirtual 226, 3) := by decide +kernel
theorem dX4_split_43 : decode cX4_split 43 = .ok (.aload_n 0, 1) := by decide +kernel
theorem dX4_split_44 : decode cX4_split 44 = .ok (.getfield 12, 3) := by decide +kernel
theorem dX4_split_47 : decode cX4_split 47 = .ok (.iload_n 2, 1) := by decide +kernel
theorem dX4_split_48 : decode cX4_split 48 = .ok (.invokevirtual 159, 3) := by decide +kernel
theorem dX4_split_51 : decode cX4_split 51 = .ok (.iconst 1, 1) := by decide +kernel
theorem dX4_split_52 : decode cX4_split 52 = .ok (.if_icmp .ne 31, 3) := by decide +kernel
theorem dX4_split_55 : decode cX4_split 55 = .ok (.aload_n 0, 1) := by decide +kernel
theorem dX4_split_56 : decode cX4_split 56 = .ok (.getfield 12, 3) := by decide +kernel
theorem dX4_split_59 : decode cX4_split 59 = .ok (.iload_n 3, 1) := by decide +kernel
theorem dX4_split_60 : decode cX4_split 60 = .ok (.aload_n 0, 1) := by decide +kernel
theorem dX4_split_61 : decode cX4_split 61 = .ok (.getfield 12, 3) := by decide +kernel
theorem dX4_split_64 : decode cX4_split 64 = .ok (.iload_n 2, 1) := by decide +kernel
theorem dX4_split_65 : decode cX4_split 65 = .ok (.invokevirtual 166, 3) := by decide +kernel
theorem dX4_split_68 : decode cX4_split 68 = .ok (.invokevirtual 230, 3) := by decide +kernel
theorem dX4_split_71 : decode cX4_split 71 = .ok (.aload_n 0, 1) := by decide +kernel
theorem dX4_split_72 : decode cX4_split 72 = .ok (.getfield 12, 3) := by decide +kernel
theorem dX4_split_75 : decode cX4_split 75 = .ok (.iload_n 2, 1) := by decide +kernel
theorem dX4_split_76 : decode cX4_split 76 = .ok (.iload_n 3, 1) := by decide +kernel
theorem dX4_split_77 : decode cX4_split 77 = .ok (.invokevirtual 230, 3) := by decide +kernel
theorem dX4_split_80 : decode cX4_split 80 = .ok (.goto 13, 3) := by decide +kernel
theorem dX4_split_83 : decode cX4_split 83 = .ok (.aload_n 0, 1) := by decide +kernel
theorem dX4_split_84 : decode cX4_split 84 = .ok (.getfield 12, 3) := by decide +kernel
theorem dX4_split_87 : decode cX4_split 87 = .ok (.iload_n 3, 1) := by decide +kernel
theorem dX4_split_88 : decode cX4_split 88 = .ok (.iconst 0, 1) := by decide +kernel
theorem dX4_split_89 : decode cX4_split 89 = .ok (.iconst 0, 1) := by decide +kernel
theorem dX4_split_90 : decode cX4_split 90 = .ok (.invokevirtual 233, 3) := by decide +kernel
theorem dX4_split_93 : decode cX4_split 93 = .ok (.aload_n 0, 1) := by decide +kernel
theorem dX4_split_94 : decode cX4_split 94 = .ok (.getfield 26, 3) := by decide +kernel
theorem dX4_split_97 : decode cX4_split 97 = .ok (.iload_n 1, 1) := by decide +kernel
theorem dX4_split_98 : decode cX4_split 98 = .ok (.iconst 1, 1) := by decide +kernel
theorem dX4_split_99 : decode cX4_split 99 = .ok (.isub, 1) := by decide +kernel
theorem dX4_split_100 : decode cX4_split 100 = .ok (.invokevirtual 217, 3) := by decide +kernel
theorem dX4_split_103 : decode cX4_split 103 = .ok (.istore 5, 2) := by decide +kernel
theorem dX4_split_105 : decode cX4_split 105 = .ok (.iload_n 1, 1) := by decide +kernel
theorem dX4_split_106 : decode cX4_split 106 = .ok (.ifCond .ne 16, 3) := by decide +kernel
theorem dX4_split_109 : decode cX4_split 109 = .ok (.aload_n 0, 1) := by decide +kernel
theorem dX4_split_110 : decode cX4_split 110 = .ok (.iconst 2, 1) := by decide +kernel
theorem dX4_split_111 : decode cX4_split 111 = .ok (.invokevirtual 223, 3) := by decide +kernel
theorem dX4_split_114 : decode cX4_split 114 = .ok (.istore 5, 2) := by decide +kernel
theorem dX4_split_116 : decode cX4_split 116 = .ok (.aload_n 0, 1) := by decide +kernel
theorem dX4_split_117 : decode cX4_split 117 = .ok (.iload 5, 2) := by decide +kernel
theorem dX4_split_119 : decode cX4_split 119 = .ok (.invokevirtual 236, 3) := by decide +kernel
theorem dX4_split_122 : decode cX4_split 122 = .ok (.aload_n 0, 1) := by decide +kernel
theorem dX4_split_123 : decode cX4_split 123 = .ok (.getfield 12, 3) := by decide +kernel
theorem dX4_split_126 : decode cX4_split 126 = .ok (.iload 5, 2) := by decide +kernel
theorem dX4_split_128 : decode cX4_split 128 = .ok (.aload_n 0, 1) := by decide +kernel
theorem dX4_split_129 : decode cX4_split 129 = .ok (.getfield 26, 3) := by decide +kernel
theorem dX4_split_132 : decode cX4_split 132 = .ok (.iload_n 1, 1) := by decide +kernel
theorem dX4_split_133 : decode cX4_split 133 = .ok (.invokevirtual 239, 3) := by decide +kernel
theorem dX4_split_136 : decode cX4_split 136 = .ok (.iconst 1, 1) := by decide +kernel
theorem dX4_split_137 : decode cX4_split 137 = .ok (.iadd, 1) := by decide +kernel
theorem dX4_split_138 : decode cX4_split 138 = .ok (.iload 4, 2) := by decide +kernel
theorem dX4_split_140 : decode cX4_split 140 = .ok (.iload_n 3, 1) := by decide +kernel
theorem dX4_split_141 : decode cX4_split 141 = .ok (.invokevirtual 94, 3) := by decide +kernel
theorem dX4_split_144 : decode cX4_split 144 = .ok (.aload_n 0, 1) := by decide +kernel
theorem dX4_split_145 : decode cX4_split 145 = .ok (.iload_n 2, 1) := by decide +kernel
theorem dX4_split_146 : decode cX4_split 146 = .ok (.iload_n 3, 1) := by decide +kernel
theorem dX4_split_147 : decode cX4_split 147 = .ok (.iload 5, 2) := by decide +kernel
theorem dX4_split_149 : decode cX4_split 149 = .ok (.invokevirtual 242, 3) := by decide +kernel
theorem dX4_split_152 : decode cX4_split 152 = .ok (.return_, 1) := by decide +kernel
theorem dX4_raiseRoot_0 : decode cX4_raiseRoot 0 = .ok (.aload_n 0, 1) := by decide +kernel
theorem dX4_raiseRoot_1 : decode cX4_raiseRoot 1 = .ok (.getfield 12, 3) := by decide +kernel
theorem dX4_raiseRoot_4 : decode cX4_raiseRoot 4 = .ok (.iload_n 1, 1) := by decide +kernel
theorem dX4_raiseRoot_5 : decode cX4_raiseRoot 5 = .ok (.iconst 0, 1) := by decide +kernel
theorem dX4_raiseRoot_6 : decode cX4_raiseRoot 6 = .ok (.iconst 0, 1) := by decide +kernel
theorem dX4_raiseRoot_7 : decode cX4_raiseRoot 7 = .ok (.aload_n 0, 1) := by decide +kernel
theorem dX4_raiseRoot_8 : decode cX4_raiseRoot 8 = .ok (.getfield 37, 3) := by decide +kernel
theorem dX4_raiseRoot_11 : decode cX4_raiseRoot 11 = .ok (.invokevirtual 94, 3) := by decide +kernel
theorem dX4_raiseRoot_14 : decode cX4_raiseRoot 14 = .ok (.aload_n 0, 1) := by decide +kernel
theorem dX4_raiseRoot_15 : decode cX4_raiseRoot 15 = .ok (.iload_n 1, 1) := by decide +kernel
theorem dX4_raiseRoot_16 : decode cX4_raiseRoot 16 = .ok (.putfield 37, 3) := by decide +kernel
theorem dX4_raiseRoot_19 : decode cX4_raiseRoot 19 = .ok (.return_, 1) := by decide +kernel
theorem dX4_takePage_0 : decode cX4_takePage 0 = .ok (.aload_n 0, 1) := by decide +kernel
theorem dX4_takePage_1 : decode cX4_takePage 1 = .ok (.getfield 12, 3) := by decide +kernel
theorem dX4_takePage_4 : decode cX4_takePage 4 = .ok (.invokevirtual 245, 3) := by decide +kernel
theorem dX4_takePage_7 : decode cX4_takePage 7 = .ok (.istore_n 2, 1) := by decide +kernel
theorem dX4_takePage_8 : decode cX4_takePage 8 = .ok (.aload_n 0, 1) := by decide +kernel
theorem dX4_takePage_9 : decode cX4_takePage 9 = .ok (.getfield 12, 3) := by decide +kernel
theorem dX4_takePage_12 : decode cX4_takePage 12 = .ok (.iload_n 2, 1) := by decide +kernel
theorem dX4_takePage_13 : decode cX4_takePage 13 = .ok (.iload_n 1, 1) := by decide +kernel
theorem dX4_takePage_14 : decode cX4_takePage 14 = .ok (.invokevirtual 47, 3) := by decide +kernel
theorem dX4_takePage_17 : decode cX4_takePage 17 = .ok (.aload_n 0, 1) := by decide +kernel
theorem dX4_takePage_18 : decode cX4_takePage 18 = .ok (.getfield 19, 3) := by decide +kernel
theorem dX4_takePage_21 : decode cX4_takePage 21 = .ok (.iload_n 2, 1) := by decide +kernel
theorem dX4_takePage_22 : decode cX4_takePage 22 = .ok (.iconst 1, 1) := by decide +kernel
theorem dX4_takePage_23 : decode cX4_takePage 23 = .ok (.invokevirtual 123, 3) := by decide +kernel
theorem dX4_takePage_26 : decode cX4_takePage 26 = .ok (.iload_n 2, 1) := by decide +kernel
theorem dX4_takePage_27 : decode cX4_takePage 27 = .ok (.ireturn, 1) := by decide +kernel
theorem dX4_mendUpwards_0 : decode cX4_mendUpwards 0 = .ok (.aload_n 0, 1) := by decide +kernel
theorem dX4_mendUpwards_1 : decode cX4_mendUpwards 1 = .ok (.getfield 26, 3) := by decide +kernel
theorem dX4_mendUpwards_4 : decode cX4_mendUpwards 4 = .ok (.invokevirtual 214, 3) := by decide +kernel
theorem dX4_mendUpwards_7 : decode cX4_mendUpwards 7 = .ok (.iconst 1, 1) := by decide +kernel
theorem dX4_mendUpwards_8 : decode cX4_mendUpwards 8 = .ok (.isub, 1) := by decide +kernel
theorem dX4_mendUpwards_9 : decode cX4_mendUpwards 9 = .ok (.istore_n 1, 1) := by decide +kernel
theorem dX4_mendUpwards_10 : decode cX4_mendUpwards 10 = .ok (.iload_n 1, 1) := by decide +kernel
theorem dX4_mendUpwards_11 : decode cX4_mendUpwards 11 = .ok (.ifCond .le 34, 3) := by decide +kernel
theorem dX4_mendUpwards_14 : decode cX4_mendUpwards 14 = .ok (.aload_n 0, 1) := by decide +kernel
theorem dX4_mendUpwards_15 : decode cX4_mendUpwards 15 = .ok (.getfield 12, 3) := by decide +kernel
theorem dX4_mendUpwards_18 : decode cX4_mendUpwards 18 = .ok (.aload_n 0, 1) := by decide +kernel
theorem dX4_mendUpwards_19 : decode cX4_mendUpwards 19 = .ok (.getfield 26, 3) := by decide +kernel
theorem dX4_mendUpwards_22 : decode cX4_mendUpwards 22 = .ok (.iload_n 1, 1) := by decide +kernel
theorem dX4_mendUpwards_23 : decode cX4_mendUpwards 23 = .ok (.invokevirtual 217, 3) := by decide +kernel
theorem dX4_mendUpwards_26 : decode cX4_mendUpwards 26 = .ok (.invokevirtual 163, 3) := by decide +kernel
theorem dX4_mendUpwards_29 : decode cX4_mendUpwards 29 = .ok (.iconst 2, 1) := by decide +kernel
theorem dX4_mendUpwards_30 : decode cX4_mendUpwards 30 = .ok (.if_icmp .lt 4, 3) := by decide +kernel
theorem dX4_mendUpwards_33 : decode cX4_mendUpwards 33 = .ok (.return_, 1) := by decide +kernel
theorem dX4_mendUpwards_34 : decode cX4_mendUpwards 34 = .ok (.aload_n 0, 1) := by decide +kernel
theorem dX4_mendUpwards_35 : decode cX4_mendUpwards 35 = .ok (.iload_n 1, 1) := by decide +kernel
theorem dX4_mendUpwards_36 : decode cX4_mendUpwards 36 = .ok (.invokevirtual 248, 3) := by decide +kernel
theorem dX4_mendUpwards_39 : decode cX4_mendUpwards 39 = .ok (.iinc 1 (-1), 3) := by decide +kernel
theorem dX4_mendUpwards_42 : decode cX4_mendUpwards 42 = .ok (.goto (-32), 3) := by decide +kernel
theorem dX4_mendUpwards_45 : decode cX4_mendUpwards 45 = .ok (.aload_n 0, 1) := by decide +kernel
theorem dX4_mendUpwards_46 : decode cX4_mendUpwards 46 = .ok (.invokevirtual 251, 3) := by decide +kernel
theorem dX4_mendUpwards_49 : decode cX4_mendUpwards 49 = .ok (.return_, 1) := by decide +kernel
theorem dX4_lowerRoot_0 : decode cX4_lowerRoot 0 = .ok (.aload_n 0, 1) := by decide +kernel
theorem dX4_lowerRoot_1 : decode cX4_lowerRoot 1 = .ok (.getfield 12, 3) := by decide +kernel
theorem dX4_lowerRoot_4 : decode cX4_lowerRoot 4 = .ok (.aload_n 0, 1) := by decide +kernel
theorem dX4_lowerRoot_5 : decode cX4_lowerRoot 5 = .ok (.getfield 37, 3) := by decide +kernel
theorem dX4_lowerRoot_8 : decode cX4_lowerRoot 8 = .ok (.invokevirtual 159, 3) := by decide +kernel
theorem dX4_lowerRoot_11 : decode cX4_lowerRoot 11 = .ok (.iconst 2, 1) := by decide +kernel
theorem dX4_lowerRoot_12 : decode cX4_lowerRoot 12 = .ok (.if_icmp .ne 44, 3) := by decide +kernel
theorem dX4_lowerRoot_15 : decode cX4_lowerRoot 15 = .ok (.aload_n 0, 1) := by decide +kernel
theorem dX4_lowerRoot_16 : decode cX4_lowerRoot 16 = .ok (.getfield 12, 3) := by decide +kernel
theorem dX4_lowerRoot_19 : decode cX4_lowerRoot 19 = .ok (.aload_n 0, 1) := by decide +kernel
theorem dX4_lowerRoot_20 : decode cX4_lowerRoot 20 = .ok (.getfield 37, 3) := by decide +kernel
theorem dX4_lowerRoot_23 : decode cX4_lowerRoot 23 = .ok (.invokevirtual 163, 3) := by decide +kernel
theorem dX4_lowerRoot_26 : decode cX4_lowerRoot 26 = .ok (.iconst 1, 1) := by decide +kernel
theorem dX4_lowerRoot_27 : decode cX4_lowerRoot 27 = .ok (.if_icmp .ne 29, 3) := by decide +kernel
theorem dX4_lowerRoot_30 : decode cX4_lowerRoot 30 = .ok (.aload_n 0, 1) := by decide +kernel
theorem dX4_lowerRoot_31 : decode cX4_lowerRoot 31 = .ok (.getfield 12, 3) := by decide +kernel
theorem dX4_lowerRoot_34 : decode cX4_lowerRoot 34 = .ok (.aload_n 0, 1) := by decide +kernel
theorem dX4_lowerRoot_35 : decode cX4_lowerRoot 35 = .ok (.getfield 37, 3) := by decide +kernel
theorem dX4_lowerRoot_38 : decode cX4_lowerRoot 38 = .ok (.iconst 0, 1) := by decide +kernel
theorem dX4_lowerRoot_39 : decode cX4_lowerRoot 39 = .ok (.invokevirtual 108, 3) := by decide +kernel
theorem dX4_lowerRoot_42 : decode cX4_lowerRoot 42 = .ok (.istore_n 1, 1) := by decide +kernel
theorem dX4_lowerRoot_43 : decode cX4_lowerRoot 43 = .ok (.aload_n 0, 1) := by decide +kernel
theorem dX4_lowerRoot_44 : decode cX4_lowerRoot 44 = .ok (.aload_n 0, 1) := by decide +kernel
theorem dX4_lowerRoot_45 : decode cX4_lowerRoot 45 = .ok (.getfield 37, 3) := by decide +kernel
theorem dX4_lowerRoot_48 : decode cX4_lowerRoot 48 = .ok (.invokevirtual 254, 3) := by decide +kernel
theorem dX4_lowerRoot_51 : decode cX4_lowerRoot 51 = .ok (.aload_n 0, 1) := by decide +kernel
theorem dX4_lowerRoot_52 : decode cX4_lowerRoot 52 = .ok (.iload_n 1, 1) := by decide +kernel
theorem dX4_lowerRoot_53 : decode cX4_lowerRoot 53 = .ok (.putfield 37, 3) := by decide +kernel
theorem dX4_lowerRoot_56 : decode cX4_lowerRoot 56 = .ok (.return_, 1) := by decide +kernel
theorem dX4_mend_0 : decode cX4_mend 0 = .ok (.aload_n 0, 1) := by decide +kernel
theorem dX4_mend_1 : decode cX4_mend 1 = .ok (.getfield 26, 3) := by decide +kernel
theorem dX4_mend_4 : decode cX4_mend 4 = .ok (.iload_n 1, 1) := by decide +kernel
theorem dX4_mend_5 : decode cX4_mend 5 = .ok (.invokevirtual 217, 3) := by decide +kernel
theorem dX4_mend_8 : decode cX4_mend 8 = .ok (.istore_n 2, 1) := by decide +kernel
theorem dX4_mend_9 : decode cX4_mend 9 = .ok (.aload_n 0, 1) := by decide +kernel
theorem dX4_mend_10 : decode cX4_mend 10 = .ok (.getfield 26, 3) := by decide +kernel
theorem dX4_mend_13 : decode cX4_mend 13 = .ok (.iload_n 1, 1) := by decide +kernel
theorem dX4_mend_14 : decode cX4_mend 14 = .ok (.iconst 1, 1) := by decide +kernel
theorem dX4_mend_15 : decode cX4_mend 15 = .ok (.isub, 1) := by decide +kernel
theorem dX4_mend_16 : decode cX4_mend 16 = .ok (.invokevirtual 217, 3) := by decide +kernel
theorem dX4_mend_19 : decode cX4_mend 19 = .ok (.istore_n 3, 1) := by decide +kernel
theorem dX4_mend_20 : decode cX4_mend 20 = .ok (.aload_n 0, 1) := by decide +kernel
theorem dX4_mend_21 : decode cX4_mend 21 = .ok (.getfield 26, 3) := by decide +kernel
theorem dX4_mend_24 : decode cX4_mend 24 = .ok (.iload_n 1, 1) := by decide +kernel
theorem dX4_mend_25 : decode cX4_mend 25 = .ok (.invokevirtual 239, 3) := by decide +kernel
theorem dX4_mend_28 : decode cX4_mend 28 = .ok (.istore 4, 2) := by decide +kernel
theorem dX4_mend_30 : decode cX4_mend 30 = .ok (.iload 4, 2) := by decide +kernel
theorem dX4_mend_32 : decode cX4_mend 32 = .ok (.ifCond .le 18, 3) := by decide +kernel
theorem dX4_mend_35 : decode cX4_mend 35 = .ok (.aload_n 0, 1) := by decide +kernel
theorem dX4_mend_36 : decode cX4_mend 36 = .ok (.getfield 12, 3) := by decide +kernel
theorem dX4_mend_39 : decode cX4_mend 39 = .ok (.iload_n 3, 1) := by decide +kernel
theorem dX4_mend_40 : decode cX4_mend 40 = .ok (.iload 4, 2) := by decide +kernel
theorem dX4_mend_42 : decode cX4_mend 42 = .ok (.iconst 1, 1) := by decide +kernel
theorem dX4_mend_43 : decode cX4_mend 43 = .ok (.isub, 1) := by decide +kernel
theorem dX4_mend_44 : decode cX4_mend 44 = .ok (.invokevirtual 108, 3) := by decide +kernel
theorem dX4_mend_47 : decode cX4_mend 47 = .ok (.goto 4, 3) := by decide +kernel
theorem dX4_mend_50 : decode cX4_mend 50 = .ok (.iconst (-1), 1) := by decide +kernel
theorem dX4_mend_51 : decode cX4_mend 51 = .ok (.istore 5, 2) := by decide +kernel
theorem dX4_mend_53 : decode cX4_mend 53 = .ok (.iload 4, 2) := by decide +kernel
theorem dX4_mend_55 : decode cX4_mend 55 = .ok (.iconst 1, 1) := by decide +kernel
theorem dX4_mend_56 : decode cX4_mend 56 = .ok (.iadd, 1) := by decide +kernel
theorem dX4_mend_57 : decode cX4_mend 57 = .ok (.aload_n 0, 1) := by decide +kernel
theorem dX4_mend_58 : decode cX4_mend 58 = .ok (.getfield 12, 3) := by decide +kernel
theorem dX4_mend_61 : decode cX4_mend 61 = .ok (.iload_n 3, 1) := by decide +kernel
theorem dX4_mend_62 : decode cX4_mend 62 = .ok (.invokevirtual 163, 3) := by decide +kernel
theorem dX4_mend_65 : decode cX4_mend 65 = .ok (.if_icmp .ge 18, 3) := by decide +kernel
theorem dX4_mend_68 : decode cX4_mend 68 = .ok (.aload_n 0, 1) := by decide +kernel
theorem dX4_mend_69 : decode cX4_mend 69 = .ok (.getfield 12, 3) := by decide +kernel
theorem dX4_mend_72 : decode cX4_mend 72 = .ok (.iload_n 3, 1) := by decide +kernel
theorem dX4_mend_73 : decode cX4_mend 73 = .ok (.iload 4, 2) := by decide +kernel
theorem dX4_mend_75 : decode cX4_mend 75 = .ok (.iconst 1, 1) := by decide +kernel
theorem dX4_mend_76 : decode cX4_mend 76 = .ok (.iadd, 1) := by decide +kernel
theorem dX4_mend_77 : decode cX4_mend 77 = .ok (.invokevirtual 108, 3) := by decide +kernel
theorem dX4_mend_80 : decode cX4_mend 80 = .ok (.goto 4, 3) := by decide +kernel
theorem dX4_mend_83 : decode cX4_mend 83 = .ok (.iconst (-1), 1) := by decide +kernel
theorem dX4_mend_84 : decode cX4_mend 84 = .ok (.istore 6, 2) := by decide +kernel
theorem dX4_mend_86 : decode cX4_mend 86 = .ok (.iload 5, 2) := by decide +kernel
theorem dX4_mend_88 : decode cX4_mend 88 = .ok (.iconst (-1), 1) := by decide +kernel
theorem dX4_mend_89 : decode cX4_mend 89 = .ok (.if_icmp .eq 37, 3) := by decide +kernel
theorem dX4_mend_92 : decode cX4_mend 92 = .ok (.aload_n 0, 1) := by decide +kernel
theorem dX4_mend_93 : decode cX4_mend 93 = .ok (.getfield 19, 3) := by decide +kernel
theorem dX4_mend_96 : decode cX4_mend 96 = .ok (.iload 5, 2) := by decide +kernel
theorem dX4_mend_98 : decode cX4_mend 98 = .ok (.iconst 0, 1) := by decide +kernel
theorem dX4_mend_99 : decode cX4_mend 99 = .ok (.invokevirtual 123, 3) := by decide +kernel
theorem dX4_mend_102 : decode cX4_mend 102 = .ok (.aload_n 0, 1) := by decide +kernel
theorem dX4_mend_103 : decode cX4_mend 103 = .ok (.getfield 12, 3) := by decide +kernel
theorem dX4_mend_106 : decode cX4_mend 106 = .ok (.iload 5, 2) := by decide +kernel
theorem dX4_mend_108 : decode cX4_mend 108 = .ok (.invokevirtual 163, 3) := by decide +kernel
theorem dX4_mend_111 : decode cX4_mend 111 = .ok (.iconst 2, 1) := by decide +kernel
theorem dX4_mend_112 : decode cX4_mend 112 = .ok (.if_icmp .le 14, 3) := by decide +kernel
theorem dX4_mend_115 : decode cX4_mend 115 = .ok (.aload_n 0, 1) := by decide +kernel
theorem dX4_mend_116 : decode cX4_mend 116 = .ok (.iload_n 3, 1) := by decide +kernel
theorem dX4_mend_117 : decode cX4_mend 117 = .ok (.iload 4, 2) := by decide +kernel
theorem dX4_mend_119 : decode cX4_mend 119 = .ok (.iload 5, 2) := by decide +kernel
theorem dX4_mend_121 : decode cX4_mend 121 = .ok (.iload_n 2, 1) := by decide +kernel
theorem dX4_mend_122 : decode cX4_mend 122 = .ok (.invokevirtual 257, 3) := by decide +kernel
theorem dX4_mend_125 : decode cX4_mend 125 = .ok (.return_, 1) := by decide +kernel
theorem dX4_mend_126 : decode cX4_mend 126 = .ok (.iload 6, 2) := by decide +kernel
theorem dX4_mend_128 : decode cX4_mend 128 = .ok (.iconst (-1), 1) := by decide +kernel
theorem dX4_mend_129 : decode cX4_mend 129 = .ok (.if_icmp .eq 39, 3) := by decide +kernel
theorem dX4_mend_132 : decode cX4_mend 132 = .ok (.aload_n 0, 1) := by decide +kernel
theorem dX4_mend_133 : decode cX4_mend 133 = .ok (.getfield 19, 3) := by decide +kernel
theorem dX4_mend_136 : decode cX4_mend 136 = .ok (.iload 6, 2) := by decide +kernel
theorem dX4_mend_138 : decode cX4_mend 138 = .ok (.iconst 0, 1) := by decide +kernel
theorem dX4_mend_139 : decode cX4_mend 139 = .ok (.invokevirtual 123, 3) := by decide +kernel
theorem dX4_mend_142 : decode cX4_mend 142 = .ok (.aload_n 0, 1) := by decide +kernel
theorem dX4_mend_143 : decode cX4_mend 143 = .ok (.getfield 12, 3) := by decide +kernel
theorem dX4_mend_146 : decode cX4_mend 146 = .ok (.iload 6, 2) := by decide +kernel
theorem dX4_mend_148 : decode cX4_mend 148 = .ok (.invokevirtual 163, 3) := by decide +kernel
theorem dX4_mend_151 : decode cX4_mend 151 = .ok (.iconst 2, 1) := by decide +kernel
theorem dX4_mend_152 : decode cX4_mend 152 = .ok (.if_icmp .le 16, 3) := by decide +kernel
theorem dX4_mend_155 : decode cX4_mend 155 = .ok (.aload_n 0, 1) := by decide +kernel
theorem dX4_mend_156 : decode cX4_mend 156 = .ok (.iload_n 3, 1) := by decide +kernel
theorem dX4_mend_157 : decode cX4_mend 157 = .ok (.iload 4, 2) := by decide +kernel
theorem dX4_mend_159 : decode cX4_mend 159 = .ok (.iconst 1, 1) := by decide +kernel
theorem dX4_mend_160 : decode cX4_mend 160 = .ok (.iadd, 1) := by decide +kernel
theorem dX4_mend_161 : decode cX4_mend 161 = .ok (.iload_n 2, 1) := by decide +kernel
theorem dX4_mend_162 : decode cX4_mend 162 = .ok (.iload 6, 2) := by decide +kernel
theorem dX4_mend_164 : decode cX4_mend 164 = .ok (.invokevirtual 260, 3) := by decide +kernel
theorem dX4_mend_167 : decode cX4_mend 167 = .ok (.return_, 1) := by decide +kernel
theorem dX4_mend_168 : decode cX4_mend 168 = .ok (.iload 5, 2) := by decide +kernel
theorem dX4_mend_170 : decode cX4_mend 170 = .ok (.iconst (-1), 1) := by decide +kernel
theorem dX4_mend_171 : decode cX4_mend 171 = .ok (.if_icmp .eq 16, 3) := by decide +kernel
theorem dX4_mend_174 : decode cX4_mend 174 = .ok (.aload_n 0, 1) := by decide +kernel
theorem dX4_mend_175 : decode cX4_mend 175 = .ok (.iload_n 3, 1) := by decide +kernel
theorem dX4_mend_176 : decode cX4_mend 176 = .ok (.iload 4, 2) := by decide +kernel
theorem dX4_mend_178 : decode cX4_mend 178 = .ok (.iload 5, 2) := by decide +kernel
theorem dX4_mend_180 : decode cX4_mend 180 = .ok (.iload_n 2, 1) := by decide +kernel
theorem dX4_mend_181 : decode cX4_mend 181 = .ok (.invokevirtual 263, 3) := by decide +kernel
theorem dX4_mend_184 : decode cX4_mend 184 = .ok (.goto 21, 3) := by decide +kernel
theorem dX4_mend_187 : decode cX4_mend 187 = .ok (.iload 6, 2) := by decide +kernel
theorem dX4_mend_189 : decode cX4_mend 189 = .ok (.iconst (-1), 1) := by decide +kernel
theorem dX4_mend_190 : decode cX4_mend 190 = .ok (.if_icmp .eq 15, 3) := by decide +kernel
theorem dX4_mend_193 : decode cX4_mend 193 = .ok (.aload_n 0, 1) := by decide +kernel
theorem dX4_mend_194 : decode cX4_mend 194 = .ok (.iload_n 3, 1) := by decide +kernel
theorem dX4_mend_195 : decode cX4_mend 195 = .ok (.iload 4, 2) := by decide +kernel
theorem dX4_mend_197 : decode cX4_mend 197 = .ok (.iconst 1, 1) := by decide +kernel
theorem dX4_mend_198 : decode cX4_mend 198 = .ok (.iadd, 1) := by decide +kernel
theorem dX4_mend_199 : decode cX4_mend 199 = .ok (.iload_n 2, 1) := by decide +kernel
theorem dX4_mend_200 : decode cX4_mend 200 = .ok (.iload 6, 2) := by decide +kernel
theorem dX4_mend_202 : decode cX4_mend 202 = .ok (.invokevirtual 263, 3) := by decide +kernel
theorem dX4_mend_205 : decode cX4_mend 205 = .ok (.return_, 1) := by decide +kernel
theorem dX4_giveFromLeft_0 : decode cX4_giveFromLeft 0 = .ok (.aload_n 0, 1) := by decide +kernel
theorem dX4_giveFromLeft_1 : decode cX4_giveFromLeft 1 = .ok (.getfield 12, 3) := by decide +kernel
theorem dX4_giveFromLeft_4 : decode cX4_giveFromLeft 4 = .ok (.iload_n 3, 1) := by decide +kernel
theorem dX4_giveFromLeft_5 : decode cX4_giveFromLeft 5 = .ok (.invokevirtual 163, 3) := by decide +kernel
theorem dX4_giveFromLeft_8 : decode cX4_giveFromLeft 8 = .ok (.iconst 1, 1) := by decide +kernel
theorem dX4_giveFromLeft_9 : decode cX4_giveFromLeft 9 = .ok (.isub, 1) := by decide +kernel
theorem dX4_giveFromLeft_10 : decode cX4_giveFromLeft 10 = .ok (.istore 5, 2) := by decide +kernel
theorem dX4_giveFromLeft_12 : decode cX4_giveFromLeft 12 = .ok (.aload_n 0, 1) := by decide +kernel
theorem dX4_giveFromLeft_13 : decode cX4_giveFromLeft 13 = .ok (.getfield 12, 3) := by decide +kernel
theorem dX4_giveFromLeft_16 : decode cX4_giveFromLeft 16 = .ok (.iload_n 3, 1) := by decide +kernel
theorem dX4_giveFromLeft_17 : decode cX4_giveFromLeft 17 = .ok (.iload 5, 2) := by decide +kernel
theorem dX4_giveFromLeft_19 : decode cX4_giveFromLeft 19 = .ok (.invokevirtual 176, 3) := by decide +kernel
theorem dX4_giveFromLeft_22 : decode cX4_giveFromLeft 22 = .ok (.istore 6, 2) := by decide +kernel
theorem dX4_giveFromLeft_24 : decode cX4_giveFromLeft 24 = .ok (.aload_n 0, 1) := by decide +kernel
theorem dX4_giveFromLeft_25 : decode cX4_giveFromLeft 25 = .ok (.getfield 12, 3) := by decide +kernel
theorem dX4_giveFromLeft_28 : decode cX4_giveFromLeft 28 = .ok (.iload_n 3, 1) := by decide +kernel
theorem dX4_giveFromLeft_29 : decode cX4_giveFromLeft 29 = .ok (.iload 5, 2) := by decide +kernel
theorem dX4_giveFromLeft_31 : decode cX4_giveFromLeft 31 = .ok (.invokevirtual 108, 3) := by decide +kernel
theorem dX4_giveFromLeft_34 : decode cX4_giveFromLeft 34 = .ok (.istore 7, 2) := by decide +kernel
theorem dX4_giveFromLeft_36 : decode cX4_giveFromLeft 36 = .ok (.aload_n 0, 1) := by decide +kernel
theorem dX4_giveFromLeft_37 : decode cX4_giveFromLeft 37 = .ok (.getfield 12, 3) := by decide +kernel
theorem dX4_giveFromLeft_40 : decode cX4_giveFromLeft 40 = .ok (.iload_n 3, 1) := by decide +kernel
theorem dX4_giveFromLeft_41 : decode cX4_giveFromLeft 41 = .ok (.iload 5, 2) := by decide +kernel
theorem dX4_giveFromLeft_43 : decode cX4_giveFromLeft 43 = .ok (.invokevirtual 111, 3) := by decide +kernel
theorem dX4_giveFromLeft_46 : decode cX4_giveFromLeft 46 = .ok (.aload_n 0, 1) := by decide +kernel
theorem dX4_giveFromLeft_47 : decode cX4_giveFromLeft 47 = .ok (.getfield 12, 3) := by decide +kernel
theorem dX4_giveFromLeft_50 : decode cX4_giveFromLeft 50 = .ok (.iload 4, 2) := by decide +kernel
theorem dX4_giveFromLeft_52 : decode cX4_giveFromLeft 52 = .ok (.invokevirtual 159, 3) := by decide +kernel
theorem dX4_giveFromLeft_55 : decode cX4_giveFromLeft 55 = .ok (.iconst 1, 1) := by decide +kernel
theorem dX4_giveFromLeft_56 : decode cX4_giveFromLeft 56 = .ok (.if_icmp .ne 20, 3) := by decide +kernel
theorem dX4_giveFromLeft_59 : decode cX4_giveFromLeft 59 = .ok (.aload_n 0, 1) := by decide +kernel
theorem dX4_giveFromLeft_60 : decode cX4_giveFromLeft 60 = .ok (.getfield 12, 3) := by decide +kernel
theorem dX4_giveFromLeft_63 : decode cX4_giveFromLeft 63 = .ok (.iload 4, 2) := by decide +kernel
theorem dX4_giveFromLeft_65 : decode cX4_giveFromLeft 65 = .ok (.iconst 0, 1) := by decide +kernel
theorem dX4_giveFromLeft_66 : decode cX4_giveFromLeft 66 = .ok (.iload 6, 2) := by decide +kernel
theorem dX4_giveFromLeft_68 : decode cX4_giveFromLeft 68 = .ok (.iload 7, 2) := by decide +kernel
theorem dX4_giveFromLeft_70 : decode cX4_giveFromLeft 70 = .ok (.invokevirtual 94, 3) := by decide +kernel
theorem dX4_giveFromLeft_73 : decode cX4_giveFromLeft 73 = .ok (.goto 35, 3) := by decide +kernel
theorem dX4_giveFromLeft_76 : decode cX4_giveFromLeft 76 = .ok (.aload_n 0, 1) := by decide +kernel
theorem dX4_giveFromLeft_77 : decode cX4_giveFromLeft 77 = .ok (.getfield 12, 3) := by decide +kernel
theorem dX4_giveFromLeft_80 : decode cX4_giveFromLeft 80 = .ok (.iload 4, 2) := by decide +kernel
theorem dX4_giveFromLeft_82 : decode cX4_giveFromLeft 82 = .ok (.iconst 0, 1) := by decide +kernel
theorem dX4_giveFromLeft_83 : decode cX4_giveFromLeft 83 = .ok (.aload_n 0, 1) := by decide +kernel
theorem dX4_giveFromLeft_84 : decode cX4_giveFromLeft 84 = .ok (.getfield 12, 3) := by decide +kernel
theorem dX4_giveFromLeft_87 : decode cX4_giveFromLeft 87 = .ok (.iload_n 1, 1) := by decide +kernel
theorem dX4_giveFromLeft_88 : decode cX4_giveFromLeft 88 = .ok (.iload_n 2, 1) := by decide +kernel
theorem dX4_giveFromLeft_89 : decode cX4_giveFromLeft 89 = .ok (.invokevirtual 176, 3) := by decide +kernel
theorem dX4_giveFromLeft_92 : decode cX4_giveFromLeft 92 = .ok (.invokevirtual 233, 3) := by decide +kernel
theorem dX4_giveFromLeft_95 : decode cX4_giveFromLeft 95 = .ok (.aload_n 0, 1) := by decide +kernel
theorem dX4_giveFromLeft_96 : decode cX4_giveFromLeft 96 = .ok (.getfield 12, 3) := by decide +kernel
theorem dX4_giveFromLeft_99 : decode cX4_giveFromLeft 99 = .ok (.iload 4, 2) := by decide +kernel
theorem dX4_giveFromLeft_101 : decode cX4_giveFromLeft 101 = .ok (.iconst 0, 1) := by decide +kernel
theorem dX4_giveFromLeft_102 : decode cX4_giveFromLeft 102 = .ok (.iconst 0, 1) := by decide +kernel
theorem dX4_giveFromLeft_103 : decode cX4_giveFromLeft 103 = .ok (.iload 7, 2) := by decide +kernel
theorem dX4_giveFromLeft_105 : decode cX4_giveFromLeft 105 = .ok (.invokevirtual 94, 3) := by decide +kernel
theorem dX4_giveFromLeft_108 : decode cX4_giveFromLeft 108 = .ok (.aload_n 0, 1) := by decide +kernel
theorem dX4_giveFromLeft_109 : decode cX4_giveFromLeft 109 = .ok (.getfield 12, 3) := by decide +kernel
theorem dX4_giveFromLeft_112 : decode cX4_giveFromLeft 112 = .ok (.iload_n 1, 1) := by decide +kernel
theorem dX4_giveFromLeft_113 : decode cX4_giveFromLeft 113 = .ok (.iload_n 2, 1) := by decide +kernel
theorem dX4_giveFromLeft_114 : decode cX4_giveFromLeft 114 = .ok (.iload 6, 2) := by decide +kernel
theorem dX4_giveFromLeft_116 : decode cX4_giveFromLeft 116 = .ok (.invokevirtual 233, 3) := by decide +kernel
theorem dX4_giveFromLeft_119 : decode cX4_giveFromLeft 119 = .ok (.aload_n 0, 1) := by decide +kernel
theorem dX4_giveFromLeft_120 : decode cX4_giveFromLeft 120 = .ok (.iload_n 3, 1) := by decide +kernel
theorem dX4_giveFromLeft_121 : decode cX4_giveFromLeft 121 = .ok (.iload 4, 2) := by decide +kernel
theorem dX4_giveFromLeft_123 : decode cX4_giveFromLeft 123 = .ok (.iload_n 1, 1) := by decide +kernel
theorem dX4_giveFromLeft_124 : decode cX4_giveFromLeft 124 = .ok (.invokevirtual 242, 3) := by decide +kernel
theorem dX4_giveFromLeft_127 : decode cX4_giveFromLeft 127 = .ok (.return_, 1) := by decide +kernel
theorem dX4_giveFromRight_0 : decode cX4_giveFromRight 0 = .ok (.aload_n 0, 1) := by decide +kernel
theorem dX4_giveFromRight_1 : decode cX4_giveFromRight 1 = .ok (.getfield 12, 3) := by decide +kernel
theorem dX4_giveFromRight_4 : decode cX4_giveFromRight 4 = .ok (.iload 4, 2) := by decide +kernel
theorem dX4_giveFromRight_6 : decode cX4_giveFromRight 6 = .ok (.iconst 0, 1) := by decide +kernel
theorem dX4_giveFromRight_7 : decode cX4_giveFromRight 7 = .ok (.invokevirtual 176, 3) := by decide +kernel
theorem dX4_giveFromRight_10 : decode cX4_giveFromRight 10 = .ok (.istore 5, 2) := by decide +kernel
theorem dX4_giveFromRight_12 : decode cX4_giveFromRight 12 = .ok (.aload_n 0, 1) := by decide +kernel
theorem dX4_giveFromRight_13 : decode cX4_giveFromRight 13 = .ok (.getfield 12, 3) := by decide +kernel
theorem dX4_giveFromRight_16 : decode cX4_giveFromRight 16 = .ok (.iload 4, 2) := by decide +kernel
theorem dX4_giveFromRight_18 : decode cX4_giveFromRight 18 = .ok (.iconst 0, 1) := by decide +kernel
theorem dX4_giveFromRight_19 : decode cX4_giveFromRight 19 = .ok (.invokevirtual 108, 3) := by decide +kernel
theorem dX4_giveFromRight_22 : decode cX4_giveFromRight 22 = .ok (.istore 6, 2) := by decide +kernel
theorem dX4_giveFromRight_24 : decode cX4_giveFromRight 24 = .ok (.aload_n 0, 1) := by decide +kernel
theorem dX4_giveFromRight_25 : decode cX4_giveFromRight 25 = .ok (.getfield 12, 3) := by decide +kernel
theorem dX4_giveFromRight_28 : decode cX4_giveFromRight 28 = .ok (.iload 4, 2) := by decide +kernel
theorem dX4_giveFromRight_30 : decode cX4_giveFromRight 30 = .ok (.invokevirtual 159, 3) := by decide +kernel
theorem dX4_giveFromRight_33 : decode cX4_giveFromRight 33 = .ok (.iconst 1, 1) := by decide +kernel
theorem dX4_giveFromRight_34 : decode cX4_giveFromRight 34 = .ok (.if_icmp .ne 7, 3) := by decide +kernel
theorem dX4_giveFromRight_37 : decode cX4_giveFromRight 37 = .ok (.iconst 1, 1) := by decide +kernel
theorem dX4_giveFromRight_38 : decode cX4_giveFromRight 38 = .ok (.goto 4, 3) := by decide +kernel
theorem dX4_giveFromRight_41 : decode cX4_giveFromRight 41 = .ok (.iconst 0, 1) := by decide +kernel
theorem dX4_giveFromRight_42 : decode cX4_giveFromRight 42 = .ok (.istore 7, 2) := by decide +kernel
theorem dX4_giveFromRight_44 : decode cX4_giveFromRight 44 = .ok (.aload_n 0, 1) := by decide +kernel
theorem dX4_giveFromRight_45 : decode cX4_giveFromRight 45 = .ok (.getfield 12, 3) := by decide +kernel
theorem dX4_giveFromRight_48 : decode cX4_giveFromRight 48 = .ok (.iload 4, 2) := by decide +kernel
theorem dX4_giveFromRight_50 : decode cX4_giveFromRight 50 = .ok (.iconst 0, 1) := by decide +kernel
theorem dX4_giveFromRight_51 : decode cX4_giveFromRight 51 = .ok (.invokevirtual 111, 3) := by decide +kernel
theorem dX4_giveFromRight_54 : decode cX4_giveFromRight 54 = .ok (.aload_n 0, 1) := by decide +kernel
theorem dX4_giveFromRight_55 : decode cX4_giveFromRight 55 = .ok (.getfield 12, 3) := by decide +kernel
theorem dX4_giveFromRight_58 : decode cX4_giveFromRight 58 = .ok (.iload_n 3, 1) := by decide +kernel
theorem dX4_giveFromRight_59 : decode cX4_giveFromRight 59 = .ok (.aload_n 0, 1) := by decide +kernel
theorem dX4_giveFromRight_60 : decode cX4_giveFromRight 60 = .ok (.getfield 12, 3) := by decide +kernel
theorem dX4_giveFromRight_63 : decode cX4_giveFromRight 63 = .ok (.iload_n 3, 1) := by decide +kernel
theorem dX4_giveFromRight_64 : decode cX4_giveFromRight 64 = .ok (.invokevirtual 163, 3) := by decide +kernel
theorem dX4_giveFromRight_67 : decode cX4_giveFromRight 67 = .ok (.iload 7, 2) := by decide +kernel
theorem dX4_giveFromRight_69 : decode cX4_giveFromRight 69 = .ok (.ifCond .eq 8, 3) := by decide +kernel
theorem dX4_giveFromRight_72 : decode cX4_giveFromRight 72 = .ok (.iload 5, 2) := by decide +kernel
theorem dX4_giveFromRight_74 : decode cX4_giveFromRight 74 = .ok (.goto 12, 3) := by decide +kernel
theorem dX4_giveFromRight_77 : decode cX4_giveFromRight 77 = .ok (.aload_n 0, 1) := by decide +kernel
theorem dX4_giveFromRight_78 : decode cX4_giveFromRight 78 = .ok (.getfield 12, 3) := by decide +kernel
theorem dX4_giveFromRight_81 : decode cX4_giveFromRight 81 = .ok (.iload_n 1, 1) := by decide +kernel
theorem dX4_giveFromRight_82 : decode cX4_giveFromRight 82 = .ok (.iload_n 2, 1) := by decide +kernel
theorem dX4_giveFromRight_83 : decode cX4_giveFromRight 83 = .ok (.invokevirtual 176, 3) := by decide +kernel
theorem dX4_giveFromRight_86 : decode cX4_giveFromRight 86 = .ok (.iload 6, 2) := by decide +kernel
theorem dX4_giveFromRight_88 : decode cX4_giveFromRight 88 = .ok (.invokevirtual 94, 3) := by decide +kernel
theorem dX4_giveFromRight_91 : decode cX4_giveFromRight 91 = .ok (.aload_n 0, 1) := by decide +kernel
theorem dX4_giveFromRight_92 : decode cX4_giveFromRight 92 = .ok (.getfield 12, 3) := by decide +kernel
theorem dX4_giveFromRight_95 : decode cX4_giveFromRight 95 = .ok (.iload_n 1, 1) := by decide +kernel
theorem dX4_giveFromRight_96 : decode cX4_giveFromRight 96 = .ok (.iload_n 2, 1) := by decide +kernel
theorem dX4_giveFromRight_97 : decode cX4_giveFromRight 97 = .ok (.aload_n 0, 1) := by decide +kernel
theorem dX4_giveFromRight_98 : decode cX4_giveFromRight 98 = .ok (.getfield 12, 3) := by decide +kernel
theorem dX4_giveFromRight_101 : decode cX4_giveFromRight 101 = .ok (.iload 4, 2) := by decide +kernel
theorem dX4_giveFromRight_103 : decode cX4_giveFromRight 103 = .ok (.iconst 0, 1) := by decide +kernel
theorem dX4_giveFromRight_104 : decode cX4_giveFromRight 104 = .ok (.invokevirtual 176, 3) := by decide +kernel
theorem dX4_giveFromRight_107 : decode cX4_giveFromRight 107 = .ok (.invokevirtual 233, 3) := by decide +kernel
theorem dX4_giveFromRight_110 : decode cX4_giveFromRight 110 = .ok (.iload 7, 2) := by decide +kernel
theorem dX4_giveFromRight_112 : decode cX4_giveFromRight 112 = .ok (.ifCond .ne 14, 3) := by decide +kernel
theorem dX4_giveFromRight_115 : decode cX4_giveFromRight 115 = .ok (.aload_n 0, 1) := by decide +kernel
theorem dX4_giveFromRight_116 : decode cX4_giveFromRight 116 = .ok (.getfield 12, 3) := by decide +kernel
theorem dX4_giveFromRight_119 : decode cX4_giveFromRight 119 = .ok (.iload 4, 2) := by decide +kernel
theorem dX4_giveFromRight_121 : decode cX4_giveFromRight 121 = .ok (.iconst 0, 1) := by decide +kernel
theorem dX4_giveFromRight_122 : decode cX4_giveFromRight 122 = .ok (.iconst 0, 1) := by decide +kernel
theorem dX4_giveFromRight_123 : decode cX4_giveFromRight 123 = .ok (.invokevirtual 233, 3) := by decide +kernel
theorem dX4_giveFromRight_126 : decode cX4_giveFromRight 126 = .ok (.aload_n 0, 1) := by decide +kernel
theorem dX4_giveFromRight_127 : decode cX4_giveFromRight 127 = .ok (.iload_n 3, 1) := by decide +kernel
theorem dX4_giveFromRight_128 : decode cX4_giveFromRight 128 = .ok (.iload 4, 2) := by decide +kernel
theorem dX4_giveFromRight_130 : decode cX4_giveFromRight 130 = .ok (.iload_n 1, 1) := by decide +kernel
theorem dX4_giveFromRight_131 : decode cX4_giveFromRight 131 = .ok (.invokevirtual 242, 3) := by decide +kernel
theorem dX4_giveFromRight_134 : decode cX4_giveFromRight 134 = .ok (.return_, 1) := by decide +kernel
theorem dX4_join_0 : decode cX4_join 0 = .ok (.aload_n 0, 1) := by decide +kernel
theorem dX4_join_1 : decode cX4_join 1 = .ok (.getfield 12, 3) := by decide +kernel
theorem dX4_join_4 : decode cX4_join 4 = .ok (.iload_n 3, 1) := by decide +kernel
theorem dX4_join_5 : decode cX4_join 5 = .ok (.invokevirtual 159, 3) := by decide +kernel
theorem dX4_join_8 : decode cX4_join 8 = .ok (.iconst 1, 1) := by decide +kernel
theorem dX4_join_9 : decode cX4_join 9 = .ok (.if_icmp .ne 23, 3) := by decide +kernel
theorem dX4_join_12 : decode cX4_join 12 = .ok (.aload_n 0, 1) := by decide +kernel
theorem dX4_join_13 : decode cX4_join 13 = .ok (.getfield 12, 3) := by decide +kernel
theorem dX4_join_16 : decode cX4_join 16 = .ok (.iload_n 3, 1) := by decide +kernel
theorem dX4_join_17 : decode cX4_join 17 = .ok (.aload_n 0, 1) := by decide +kernel
theorem dX4_join_18 : decode cX4_join 18 = .ok (.getfield 12, 3) := by decide +kernel
theorem dX4_join_21 : decode cX4_join 21 = .ok (.iload 4, 2) := by decide +kernel
theorem dX4_join_23 : decode cX4_join 23 = .ok (.invokevirtual 166, 3) := by decide +kernel
theorem dX4_join_26 : decode cX4_join 26 = .ok (.invokevirtual 230, 3) := by decide +kernel
theorem dX4_join_29 : decode cX4_join 29 = .ok (.goto 22, 3) := by decide +kernel
theorem dX4_join_32 : decode cX4_join 32 = .ok (.aload_n 0, 1) := by decide +kernel
theorem dX4_join_33 : decode cX4_join 33 = .ok (.getfield 12, 3) := by decide +kernel
theorem dX4_join_36 : decode cX4_join 36 = .ok (.iload 4, 2) := by decide +kernel
theorem dX4_join_38 : decode cX4_join 38 = .ok (.iconst 0, 1) := by decide +kernel
theorem dX4_join_39 : decode cX4_join 39 = .ok (.aload_n 0, 1) := by decide +kernel
theorem dX4_join_40 : decode cX4_join 40 = .ok (.getfield 12, 3) := by decide +kernel
theorem dX4_join_43 : decode cX4_join 43 = .ok (.iload_n 1, 1) := by decide +kernel
theorem dX4_join_44 : decode cX4_join 44 = .ok (.iload_n 2, 1) := by decide +kernel
theorem dX4_join_45 : decode cX4_join 45 = .ok (.invokevirtual 176, 3) := by decide +kernel
theorem dX4_join_48 : decode cX4_join 48 = .ok (.invokevirtual 233, 3) := by decide +kernel
theorem dX4_join_51 : decode cX4_join 51 = .ok (.aload_n 0, 1) := by decide +kernel
theorem dX4_join_52 : decode cX4_join 52 = .ok (.getfield 12, 3) := by decide +kernel
theorem dX4_join_55 : decode cX4_join 55 = .ok (.iload 4, 2) := by decide +kernel
theorem dX4_join_57 : decode cX4_join 57 = .ok (.iconst 0, 1) := by decide +kernel
theorem dX4_join_58 : decode cX4_join 58 = .ok (.iload_n 3, 1) := by decide +kernel
theorem dX4_join_59 : decode cX4_join 59 = .ok (.invokevirtual 226, 3) := by decide +kernel
theorem dX4_join_62 : decode cX4_join 62 = .ok (.aload_n 0, 1) := by decide +kernel
theorem dX4_join_63 : decode cX4_join 63 = .ok (.getfield 12, 3) := by decide +kernel
theorem dX4_join_66 : decode cX4_join 66 = .ok (.iload_n 1, 1) := by decide +kernel
theorem dX4_join_67 : decode cX4_join 67 = .ok (.iload_n 2, 1) := by decide +kernel
theorem dX4_join_68 : decode cX4_join 68 = .ok (.invokevirtual 111, 3) := by decide +kernel
theorem dX4_join_71 : decode cX4_join 71 = .ok (.aload_n 0, 1) := by decide +kernel
theorem dX4_join_72 : decode cX4_join 72 = .ok (.iload_n 3, 1) := by decide +kernel
theorem dX4_join_73 : decode cX4_join 73 = .ok (.iload 4, 2) := by decide +kernel
theorem dX4_join_75 : decode cX4_join 75 = .ok (.iload_n 1, 1) := by decide +kernel
theorem dX4_join_76 : decode cX4_join 76 = .ok (.invokevirtual 242, 3) := by decide +kernel
theorem dX4_join_79 : decode cX4_join 79 = .ok (.aload_n 0, 1) := by decide +kernel
theorem dX4_join_80 : decode cX4_join 80 = .ok (.iload 4, 2) := by decide +kernel
theorem dX4_join_82 : decode cX4_join 82 = .ok (.invokevirtual 254, 3) := by decide +kernel
theorem dX4_join_85 : decode cX4_join 85 = .ok (.return_, 1) := by decide +kernel
theorem dX4_soilThree_0 : decode cX4_soilThree 0 = .ok (.aload_n 0, 1) := by decide +kernel
theorem dX4_soilThree_1 : decode cX4_soilThree 1 = .ok (.getfield 19, 3) := by decide +kernel
theorem dX4_soilThree_4 : decode cX4_soilThree 4 = .ok (.iload_n 1, 1) := by decide +kernel
theorem dX4_soilThree_5 : decode cX4_soilThree 5 = .ok (.invokevirtual 86, 3) := by decide +kernel
theorem dX4_soilThree_8 : decode cX4_soilThree 8 = .ok (.aload_n 0, 1) := by decide +kernel
theorem dX4_soilThree_9 : decode cX4_soilThree 9 = .ok (.getfield 19, 3) := by decide +kernel
theorem dX4_soilThree_12 : decode cX4_soilThree 12 = .ok (.iload_n 2, 1) := by decide +kernel
theorem dX4_soilThree_13 : decode cX4_soilThree 13 = .ok (.invokevirtual 86, 3) := by decide +kernel
theorem dX4_soilThree_16 : decode cX4_soilThree 16 = .ok (.aload_n 0, 1) := by decide +kernel
theorem dX4_soilThree_17 : decode cX4_soilThree 17 = .ok (.getfield 19, 3) := by decide +kernel
theorem dX4_soilThree_20 : decode cX4_soilThree 20 = .ok (.iload_n 3, 1) := by decide +kernel
theorem dX4_soilThree_21 : decode cX4_soilThree 21 = .ok (.invokevirtual 86, 3) := by decide +kernel
theorem dX4_soilThree_24 : decode cX4_soilThree 24 = .ok (.return_, 1) := by decide +kernel
theorem dX4_releasePage_0 : decode cX4_releasePage 0 = .ok (.aload_n 0, 1) := by decide +kernel
theorem dX4_releasePage_1 : decode cX4_releasePage 1 = .ok (.getfield 12, 3) := by decide +kernel
theorem dX4_releasePage_4 : decode cX4_releasePage 4 = .ok (.iload_n 1, 1) := by decide +kernel
theorem dX4_releasePage_5 : decode cX4_releasePage 5 = .ok (.iconst 0, 1) := by decide +kernel
theorem dX4_releasePage_6 : decode cX4_releasePage 6 = .ok (.invokevirtual 47, 3) := by decide +kernel
theorem dX4_releasePage_9 : decode cX4_releasePage 9 = .ok (.aload_n 0, 1) := by decide +kernel
theorem dX4_releasePage_10 : decode cX4_releasePage 10 = .ok (.getfield 19, 3) := by decide +kernel
theorem dX4_releasePage_13 : decode cX4_releasePage 13 = .ok (.iload_n 1, 1) := by decide +kernel
theorem dX4_releasePage_14 : decode cX4_releasePage 14 = .ok (.invokevirtual 266, 3) := by decide +kernel
theorem dX4_releasePage_17 : decode cX4_releasePage 17 = .ok (.return_, 1) := by decide +kernel
theorem dX5_init_0 : decode cX5_init 0 = .ok (.aload_n 0, 1) := by decide +kernel
theorem dX5_init_1 : decode cX5_init 1 = .ok (.invokespecial 1, 3) := by decide +kernel
theorem dX5_init_4 : decode cX5_init 4 = .ok (.aload_n 0, 1) := by decide +kernel
theorem dX5_init_5 : decode cX5_init 5 = .ok (.bipush 40, 2) := by decide +kernel
theorem dX5_init_7 : decode cX5_init 7 = .ok (.newarray .int, 2) := by decide +kernel
theorem dX5_init_9 : decode cX5_init 9 = .ok (.putfield 7, 3) := by decide +kernel
theorem dX5_init_12 : decode cX5_init 12 = .ok (.aload_n 0, 1) := by decide +kernel
theorem dX5_init_13 : decode cX5_init 13 = .ok (.bipush 40, 2) := by decide +kernel
theorem dX5_init_15 : decode cX5_init 15 = .ok (.newarray .int, 2) := by decide +kernel
theorem dX5_init_17 : decode cX5_init 17 = .ok (.putfield 13, 3) := by decide +kernel
theorem dX5_init_20 : decode cX5_init 20 = .ok (.aload_n 0, 1) := by decide +kernel
theorem dX5_init_21 : decode cX5_init 21 = .ok (.sipush 200, 3) := by decide +kernel
theorem dX5_init_24 : decode cX5_init 24 = .ok (.newarray .int, 2) := by decide +kernel
theorem dX5_init_26 : decode cX5_init 26 = .ok (.putfield 16, 3) := by decide +kernel
theorem dX5_init_29 : decode cX5_init 29 = .ok (.aload_n 0, 1) := by decide +kernel
theorem dX5_init_30 : decode cX5_init 30 = .ok (.sipush 200, 3) := by decide +kernel
theorem dX5_init_33 : decode cX5_init 33 = .ok (.newarray .int, 2) := by decide +kernel
theorem dX5_init_35 : decode cX5_init 35 = .ok (.putfield 19, 3) := by decide +kernel
theorem dX5_init_38 : decode cX5_init 38 = .ok (.aload_n 0, 1) := by decide +kernel
theorem dX5_init_39 : decode cX5_init 39 = .ok (.bipush 40, 2) := by decide +kernel
theorem dX5_init_41 : decode cX5_init 41 = .ok (.newarray .int, 2) := by decide +kernel
theorem dX5_init_43 : decode cX5_init 43 = .ok (.putfield 22, 3) := by decide +kernel
theorem dX5_init_46 : decode cX5_init 46 = .ok (.aload_n 0, 1) := by decide +kernel
theorem dX5_init_47 : decode cX5_init 47 = .ok (.bipush 50, 2) := by decide +kernel
theorem dX5_init_49 : decode cX5_init 49 = .ok (.newarray .int, 2) := by decide +kernel
theorem dX5_init_51 : decode cX5_init 51 = .ok (.putfield 25, 3) := by decide +kernel
theorem dX5_init_54 : decode cX5_init 54 = .ok (.aload_n 0, 1) := by decide +kernel
theorem dX5_init_55 : decode cX5_init 55 = .ok (.bipush 50, 2) := by decide +kernel
theorem dX5_init_57 : decode cX5_init 57 = .ok (.newarray .int, 2) := by decide +kernel
theorem dX5_init_59 : decode cX5_init 59 = .ok (.putfield 28, 3) := by decide +kernel
theorem dX5_init_62 : decode cX5_init 62 = .ok (.aload_n 0, 1) := by decide +kernel
theorem dX5_init_63 : decode cX5_init 63 = .ok (.bipush 12, 2) := by decide +kernel
theorem dX5_init_65 : decode cX5_init 65 = .ok (.newarray .int, 2) := by decide +kernel
theorem dX5_init_67 : decode cX5_init 67 = .ok (.putfield 31, 3) := by decide +kernel
theorem dX5_init_70 : decode cX5_init 70 = .ok (.aload_n 0, 1) := by decide +kernel
theorem dX5_init_71 : decode cX5_init 71 = .ok (.bipush 12, 2) := by decide +kernel
theorem dX5_init_73 : decode cX5_init 73 = .ok (.newarray .boolean, 2) := by decide +kernel
theorem dX5_init_75 : decode cX5_init 75 = .ok (.putfield 34, 3) := by decide +kernel
theorem dX5_init_78 : decode cX5_init 78 = .ok (.aload_n 0, 1) := by decide +kernel
theorem dX5_init_79 : decode cX5_init 79 = .ok (.bipush 12, 2) := by decide +kernel
theorem dX5_init_81 : decode cX5_init 81 = .ok (.newarray .boolean, 2) := by decide +kernel
theorem dX5_init_83 : decode cX5_init 83 = .ok (.putfield 38, 3) := by decide +kernel
theorem dX5_init_86 : decode cX5_init 86 = .ok (.aload_n 0, 1) := by decide +kernel
theorem dX5_init_87 : decode cX5_init 87 = .ok (.bipush 12, 2) := by decide +kernel
theorem dX5_init_89 : decode cX5_init 89 = .ok (.newarray .boolean, 2) := by decide +kernel
theorem dX5_init_91 : decode cX5_init 91 = .ok (.putfield 41, 3) := by decide +kernel
theorem dX5_init_94 : decode cX5_init 94 = .ok (.aload_n 0, 1) := by decide +kernel
theorem dX5_init_95 : decode cX5_init 95 = .ok (.getfield 7, 3) := by decide +kernel
theorem dX5_init_98 : decode cX5_init 98 = .ok (.iconst 0, 1) := by decide +kernel
theorem dX5_init_99 : decode cX5_init 99 = .ok (.iconst 1, 1) := by decide +kernel
theorem dX5_init_100 : decode cX5_init 100 = .ok (.iastore, 1) := by decide +kernel
theorem dX5_init_101 : decode cX5_init 101 = .ok (.iconst 0, 1) := by decide +kernel
theorem dX5_init_102 : decode cX5_init 102 = .ok (.istore_n 1, 1) := by decide +kernel
theorem dX5_init_103 : decode cX5_init 103 = .ok (.iload_n 1, 1) := by decide +kernel
theorem dX5_init_104 : decode cX5_init 104 = .ok (.bipush 40, 2) := by decide +kernel
theorem dX5_init_106 : decode cX5_init 106 = .ok (.if_icmp .ge 16, 3) := by decide +kernel
theorem dX5_init_109 : decode cX5_init 109 = .ok (.aload_n 0, 1) := by decide +kernel
theorem dX5_init_110 : decode cX5_init 110 = .ok (.getfield 22, 3) := by decide +kernel
theorem dX5_init_113 : decode cX5_init 113 = .ok (.iload_n 1, 1) := by decide +kernel
theorem dX5_init_114 : decode cX5_init 114 = .ok (.iconst (-1), 1) := by decide +kernel
theorem dX5_init_115 : decode cX5_init 115 = .ok (.iastore, 1) := by decide +kernel
theorem dX5_init_116 : decode cX5_init 116 = .ok (.iinc 1 1, 3) := by decide +kernel
theorem dX5_init_119 : decode cX5_init 119 = .ok (.goto (-16), 3) := by decide +kernel
theorem dX5_init_122 : decode cX5_init 122 = .ok (.iconst 0, 1) := by decide +kernel
theorem dX5_init_123 : decode cX5_init 123 = .ok (.istore_n 1, 1) := by decide +kernel
theorem dX5_init_124 : decode cX5_init 124 = .ok (.iload_n 1, 1) := by decide +kernel
theorem dX5_init_125 : decode cX5_init 125 = .ok (.bipush 12, 2) := by decide +kernel
theorem dX5_init_127 : decode cX5_init 127 = .ok (.if_icmp .ge 16, 3) := by decide +kernel
theorem dX5_init_130 : decode cX5_init 130 = .ok (.aload_n 0, 1) := by decide +kernel
theorem dX5_init_131 : decode cX5_init 131 = .ok (.getfield 31, 3) := by decide +kernel
theorem dX5_init_134 : decode cX5_init 134 = .ok (.iload_n 1, 1) := by decide +kernel
theorem dX5_init_135 : decode cX5_init 135 = .ok (.iconst (-1), 1) := by decide +kernel
theorem dX5_init_136 : decode cX5_init 136 = .ok (.iastore, 1) := by decide +kernel
theorem dX5_init_137 : decode cX5_init 137 = .ok (.iinc 1 1, 3) := by decide +kernel
theorem dX5_init_140 : decode cX5_init 140 = .ok (.goto (-16), 3) := by decide +kernel
theorem dX5_init_143 : decode cX5_init 143 = .ok (.return_, 1) := by decide +kernel
theorem dX5_thrown_0 : decode cX5_thrown 0 = .ok (.aload_n 0, 1) := by decide +kernel
theorem dX5_thrown_1 : decode cX5_thrown 1 = .ok (.getfield 44, 3) := by decide +kernel
theorem dX5_thrown_4 : decode cX5_thrown 4 = .ok (.ireturn, 1) := by decide +kernel
theorem dX5_unpin_0 : decode cX5_unpin 0 = .ok (.iconst 0, 1) := by decide +kernel
theorem dX5_unpin_1 : decode cX5_unpin 1 = .ok (.istore_n 1, 1) := by decide +kernel
theorem dX5_unpin_2 : decode cX5_unpin 2 = .ok (.iload_n 1, 1) := by decide +kernel
theorem dX5_unpin_3 : decode cX5_unpin 3 = .ok (.bipush 12, 2) := by decide +kernel
theorem dX5_unpin_5 : decode cX5_unpin 5 = .ok (.if_icmp .ge 16, 3) := by decide +kernel
theorem dX5_unpin_8 : decode cX5_unpin 8 = .ok (.aload_n 0, 1) := by decide +kernel
theorem dX5_unpin_9 : decode cX5_unpin 9 = .ok (.getfield 41, 3) := by decide +kernel
theorem dX5_unpin_12 : decode cX5_unpin 12 = .ok (.iload_n 1, 1) := by decide +kernel
theorem dX5_unpin_13 : decode cX5_unpin 13 = .ok (.iconst 0, 1) := by decide +kernel
theorem dX5_unpin_14 : decode cX5_unpin 14 = .ok (.bastore, 1) := by decide +kernel
theorem dX5_unpin_15 : decode cX5_unpin 15 = .ok (.iinc 1 1, 3) := by decide +kernel
theorem dX5_unpin_18 : decode cX5_unpin 18 = .ok (.goto (-16), 3) := by decide +kernel
theorem dX5_unpin_21 : decode cX5_unpin 21 = .ok (.return_, 1) := by decide +kernel
theorem dX5_frameOf_0 : decode cX5_frameOf 0 = .ok (.iconst (-1), 1) := by decide +kernel
theorem dX5_frameOf_1 : decode cX5_frameOf 1 = .ok (.istore_n 2, 1) := by decide +kernel
theorem dX5_frameOf_2 : decode cX5_frameOf 2 = .ok (.iconst 0, 1) := by decide +kernel
theorem dX5_frameOf_3 : decode cX5_frameOf 3 = .ok (.istore_n 3, 1) := by decide +kernel
theorem dX5_frameOf_4 : decode cX5_frameOf 4 = .ok (.iload_n 3, 1) := by decide +kernel
theorem dX5_frameOf_5 : decode cX5_frameOf 5 = .ok (.bipush 12, 2) := by decide +kernel
theorem dX5_frameOf_7 : decode cX5_frameOf 7 = .ok (.if_icmp .ge 25, 3) := by decide +kernel
theorem dX5_frameOf_10 : decode cX5_frameOf 10 = .ok (.aload_n 0, 1) := by decide +kernel
theorem dX5_frameOf_11 : decode cX5_frameOf 11 = .ok (.getfield 31, 3) := by decide +kernel
theorem dX5_frameOf_14 : decode cX5_frameOf 14 = .ok (.iload_n 3, 1) := by decide +kernel
theorem dX5_frameOf_15 : decode cX5_frameOf 15 = .ok (.iaload, 1) := by decide +kernel
theorem dX5_frameOf_16 : decode cX5_frameOf 16 = .ok (.iload_n 1, 1) := by decide +kernel
theorem dX5_frameOf_17 : decode cX5_frameOf 17 = .ok (.if_icmp .ne 7, 3) := by decide +kernel
theorem dX5_frameOf_20 : decode cX5_frameOf 20 = .ok (.iload_n 3, 1) := by decide +kernel
theorem dX5_frameOf_21 : decode cX5_frameOf 21 = .ok (.goto 4, 3) := by decide +kernel
theorem dX5_frameOf_24 : decode cX5_frameOf 24 = .ok (.iload_n 2, 1) := by decide +kernel
theorem dX5_frameOf_25 : decode cX5_frameOf 25 = .ok (.istore_n 2, 1) := by decide +kernel
theorem dX5_frameOf_26 : decode cX5_frameOf 26 = .ok (.iinc 3 1, 3) := by decide +kernel
theorem dX5_frameOf_29 : decode cX5_frameOf 29 = .ok (.goto (-25), 3) := by decide +kernel
theorem dX5_frameOf_32 : decode cX5_frameOf 32 = .ok (.iload_n 2, 1) := by decide +kernel
theorem dX5_frameOf_33 : decode cX5_frameOf 33 = .ok (.ireturn, 1) := by decide +kernel
theorem dX5_goOn_0 : decode cX5_goOn 0 = .ok (.aload_n 0, 1) := by decide +kernel
theorem dX5_goOn_1 : decode cX5_goOn 1 = .ok (.aload_n 0, 1) := by decide +kernel
theorem dX5_goOn_2 : decode cX5_goOn 2 = .ok (.getfield 48, 3) := by decide +kernel
theorem dX5_goOn_5 : decode cX5_goOn 5 = .ok (.iconst 1, 1) := by decide +kernel
theorem dX5_goOn_6 : decode cX5_goOn 6 = .ok (.iadd, 1) := by decide +kernel
theorem dX5_goOn_7 : decode cX5_goOn 7 = .ok (.bipush 12, 2) := by decide +kernel
theorem dX5_goOn_9 : decode cX5_goOn 9 = .ok (.irem, 1) := by decide +kernel
theorem dX5_goOn_10 : decode cX5_goOn 10 = .ok (.putfield 48, 3) := by decide +kernel
theorem dX5_goOn_13 : decode cX5_goOn 13 = .ok (.return_, 1) := by decide +kernel
theorem dX5_freeFrame_0 : decode cX5_freeFrame 0 = .ok (.aload_n 0, 1) := by decide +kernel
theorem dX5_freeFrame_1 : decode cX5_freeFrame 1 = .ok (.getfield 31, 3) := by decide +kernel
theorem dX5_freeFrame_4 : decode cX5_freeFrame 4 = .ok (.aload_n 0, 1) := by decide +kernel
theorem dX5_freeFrame_5 : decode cX5_freeFrame 5 = .ok (.getfield 48, 3) := by decide +kernel
theorem dX5_freeFrame_8 : decode cX5_freeFrame 8 = .ok (.iaload, 1) := by decide +kernel
theorem dX5_freeFrame_9 : decode cX5_freeFrame 9 = .ok (.iconst (-1), 1) := by decide +kernel
theorem dX5_freeFrame_10 : decode cX5_freeFrame 10 = .ok (.if_icmp .eq 56, 3) := by decide +kernel
theorem dX5_freeFrame_13 : decode cX5_freeFrame 13 = .ok (.aload_n 0, 1) := by decide +kernel
theorem dX5_freeFrame_14 : decode cX5_freeFrame 14 = .ok (.getfield 41, 3) := by decide +kernel
theorem dX5_freeFrame_17 : decode cX5_freeFrame 17 = .ok (.aload_n 0, 1) := by decide +kernel
