theorem dX0_init_0 : decode cX0_init 0 = .ok (.aload_n 0, 1) := by decide +kernel
theorem dX0_init_1 : decode cX0_init 1 = .ok (.invokespecial 3, 3) := by decide +kernel
theorem dX0_init_4 : decode cX0_init 4 = .ok (.aload_n 0, 1) := by decide +kernel
theorem dX0_init_5 : decode cX0_init 5 = .ok (.bipush 40, 2) := by decide +kernel
theorem dX0_init_7 : decode cX0_init 7 = .ok (.newarray .int, 2) := by decide +kernel
theorem dX0_init_9 : decode cX0_init 9 = .ok (.putfield 9, 3) := by decide +kernel
theorem dX0_init_12 : decode cX0_init 12 = .ok (.aload_n 0, 1) := by decide +kernel
theorem dX0_init_13 : decode cX0_init 13 = .ok (.bipush 40, 2) := by decide +kernel
theorem dX0_init_15 : decode cX0_init 15 = .ok (.newarray .int, 2) := by decide +kernel
theorem dX0_init_17 : decode cX0_init 17 = .ok (.putfield 15, 3) := by decide +kernel
theorem dX0_init_20 : decode cX0_init 20 = .ok (.aload_n 0, 1) := by decide +kernel
theorem dX0_init_21 : decode cX0_init 21 = .ok (.bipush 40, 2) := by decide +kernel
theorem dX0_init_23 : decode cX0_init 23 = .ok (.newarray .int, 2) := by decide +kernel
theorem dX0_init_25 : decode cX0_init 25 = .ok (.putfield 18, 3) := by decide +kernel
theorem dX0_init_28 : decode cX0_init 28 = .ok (.aload_n 0, 1) := by decide +kernel
theorem dX0_init_29 : decode cX0_init 29 = .ok (.sipush 200, 3) := by decide +kernel
theorem dX0_init_32 : decode cX0_init 32 = .ok (.newarray .int, 2) := by decide +kernel
theorem dX0_init_34 : decode cX0_init 34 = .ok (.putfield 21, 3) := by decide +kernel
theorem dX0_init_37 : decode cX0_init 37 = .ok (.aload_n 0, 1) := by decide +kernel
theorem dX0_init_38 : decode cX0_init 38 = .ok (.sipush 200, 3) := by decide +kernel
theorem dX0_init_41 : decode cX0_init 41 = .ok (.newarray .int, 2) := by decide +kernel
theorem dX0_init_43 : decode cX0_init 43 = .ok (.putfield 24, 3) := by decide +kernel
theorem dX0_init_46 : decode cX0_init 46 = .ok (.aload_n 0, 1) := by decide +kernel
theorem dX0_init_47 : decode cX0_init 47 = .ok (.getfield 18, 3) := by decide +kernel
theorem dX0_init_50 : decode cX0_init 50 = .ok (.iconst (-1), 1) := by decide +kernel
theorem dX0_init_51 : decode cX0_init 51 = .ok (.invokestatic 27, 3) := by decide +kernel
theorem dX0_init_54 : decode cX0_init 54 = .ok (.return_, 1) := by decide +kernel
theorem dX0_isPage_0 : decode cX0_isPage 0 = .ok (.iload_n 1, 1) := by decide +kernel
theorem dX0_isPage_1 : decode cX0_isPage 1 = .ok (.ifCond .lt 13, 3) := by decide +kernel
theorem dX0_isPage_4 : decode cX0_isPage 4 = .ok (.iload_n 1, 1) := by decide +kernel
theorem dX0_isPage_5 : decode cX0_isPage 5 = .ok (.bipush 40, 2) := by decide +kernel
theorem dX0_isPage_7 : decode cX0_isPage 7 = .ok (.if_icmp .ge 7, 3) := by decide +kernel
theorem dX0_isPage_10 : decode cX0_isPage 10 = .ok (.iconst 1, 1) := by decide +kernel
theorem dX0_isPage_11 : decode cX0_isPage 11 = .ok (.goto 4, 3) := by decide +kernel
theorem dX0_isPage_14 : decode cX0_isPage 14 = .ok (.iconst 0, 1) := by decide +kernel
theorem dX0_isPage_15 : decode cX0_isPage 15 = .ok (.ireturn, 1) := by decide +kernel
theorem dX0_kindOf_0 : decode cX0_kindOf 0 = .ok (.aload_n 0, 1) := by decide +kernel
theorem dX0_kindOf_1 : decode cX0_kindOf 1 = .ok (.iload_n 1, 1) := by decide +kernel
theorem dX0_kindOf_2 : decode cX0_kindOf 2 = .ok (.invokevirtual 33, 3) := by decide +kernel
theorem dX0_kindOf_5 : decode cX0_kindOf 5 = .ok (.ifCond .eq 12, 3) := by decide +kernel
theorem dX0_kindOf_8 : decode cX0_kindOf 8 = .ok (.aload_n 0, 1) := by decide +kernel
theorem dX0_kindOf_9 : decode cX0_kindOf 9 = .ok (.getfield 9, 3) := by decide +kernel
theorem dX0_kindOf_12 : decode cX0_kindOf 12 = .ok (.iload_n 1, 1) := by decide +kernel
theorem dX0_kindOf_13 : decode cX0_kindOf 13 = .ok (.iaload, 1) := by decide +kernel
theorem dX0_kindOf_14 : decode cX0_kindOf 14 = .ok (.goto 4, 3) := by decide +kernel
theorem dX0_kindOf_17 : decode cX0_kindOf 17 = .ok (.iconst 0, 1) := by decide +kernel
theorem dX0_kindOf_18 : decode cX0_kindOf 18 = .ok (.ireturn, 1) := by decide +kernel
theorem dX0_countOf_0 : decode cX0_countOf 0 = .ok (.aload_n 0, 1) := by decide +kernel
theorem dX0_countOf_1 : decode cX0_countOf 1 = .ok (.iload_n 1, 1) := by decide +kernel
theorem dX0_countOf_2 : decode cX0_countOf 2 = .ok (.invokevirtual 33, 3) := by decide +kernel
theorem dX0_countOf_5 : decode cX0_countOf 5 = .ok (.ifCond .eq 12, 3) := by decide +kernel
theorem dX0_countOf_8 : decode cX0_countOf 8 = .ok (.aload_n 0, 1) := by decide +kernel
theorem dX0_countOf_9 : decode cX0_countOf 9 = .ok (.getfield 15, 3) := by decide +kernel
theorem dX0_countOf_12 : decode cX0_countOf 12 = .ok (.iload_n 1, 1) := by decide +kernel
theorem dX0_countOf_13 : decode cX0_countOf 13 = .ok (.iaload, 1) := by decide +kernel
theorem dX0_countOf_14 : decode cX0_countOf 14 = .ok (.goto 4, 3) := by decide +kernel
theorem dX0_countOf_17 : decode cX0_countOf 17 = .ok (.iconst 0, 1) := by decide +kernel
theorem dX0_countOf_18 : decode cX0_countOf 18 = .ok (.ireturn, 1) := by decide +kernel
theorem dX0_leafAfter_0 : decode cX0_leafAfter 0 = .ok (.aload_n 0, 1) := by decide +kernel
theorem dX0_leafAfter_1 : decode cX0_leafAfter 1 = .ok (.iload_n 1, 1) := by decide +kernel
theorem dX0_leafAfter_2 : decode cX0_leafAfter 2 = .ok (.invokevirtual 33, 3) := by decide +kernel
theorem dX0_leafAfter_5 : decode cX0_leafAfter 5 = .ok (.ifCond .eq 12, 3) := by decide +kernel
theorem dX0_leafAfter_8 : decode cX0_leafAfter 8 = .ok (.aload_n 0, 1) := by decide +kernel
theorem dX0_leafAfter_9 : decode cX0_leafAfter 9 = .ok (.getfield 18, 3) := by decide +kernel
theorem dX0_leafAfter_12 : decode cX0_leafAfter 12 = .ok (.iload_n 1, 1) := by decide +kernel
theorem dX0_leafAfter_13 : decode cX0_leafAfter 13 = .ok (.iaload, 1) := by decide +kernel
theorem dX0_leafAfter_14 : decode cX0_leafAfter 14 = .ok (.goto 4, 3) := by decide +kernel
theorem dX0_leafAfter_17 : decode cX0_leafAfter 17 = .ok (.iconst (-1), 1) := by decide +kernel
theorem dX0_leafAfter_18 : decode cX0_leafAfter 18 = .ok (.ireturn, 1) := by decide +kernel
theorem dX0_setLeafAfter_0 : decode cX0_setLeafAfter 0 = .ok (.aload_n 0, 1) := by decide +kernel
theorem dX0_setLeafAfter_1 : decode cX0_setLeafAfter 1 = .ok (.iload_n 1, 1) := by decide +kernel
theorem dX0_setLeafAfter_2 : decode cX0_setLeafAfter 2 = .ok (.invokevirtual 33, 3) := by decide +kernel
theorem dX0_setLeafAfter_5 : decode cX0_setLeafAfter 5 = .ok (.ifCond .eq 10, 3) := by decide +kernel
theorem dX0_setLeafAfter_8 : decode cX0_setLeafAfter 8 = .ok (.aload_n 0, 1) := by decide +kernel
theorem dX0_setLeafAfter_9 : decode cX0_setLeafAfter 9 = .ok (.getfield 18, 3) := by decide +kernel
theorem dX0_setLeafAfter_12 : decode cX0_setLeafAfter 12 = .ok (.iload_n 1, 1) := by decide +kernel
theorem dX0_setLeafAfter_13 : decode cX0_setLeafAfter 13 = .ok (.iload_n 2, 1) := by decide +kernel
theorem dX0_setLeafAfter_14 : decode cX0_setLeafAfter 14 = .ok (.iastore, 1) := by decide +kernel
theorem dX0_setLeafAfter_15 : decode cX0_setLeafAfter 15 = .ok (.return_, 1) := by decide +kernel
theorem dX0_keyAt_0 : decode cX0_keyAt 0 = .ok (.aload_n 0, 1) := by decide +kernel
theorem dX0_keyAt_1 : decode cX0_keyAt 1 = .ok (.iload_n 1, 1) := by decide +kernel
theorem dX0_keyAt_2 : decode cX0_keyAt 2 = .ok (.iload_n 2, 1) := by decide +kernel
theorem dX0_keyAt_3 : decode cX0_keyAt 3 = .ok (.invokevirtual 37, 3) := by decide +kernel
theorem dX0_keyAt_6 : decode cX0_keyAt 6 = .ok (.istore_n 3, 1) := by decide +kernel
theorem dX0_keyAt_7 : decode cX0_keyAt 7 = .ok (.iload_n 3, 1) := by decide +kernel
theorem dX0_keyAt_8 : decode cX0_keyAt 8 = .ok (.ifCond .lt 21, 3) := by decide +kernel
theorem dX0_keyAt_11 : decode cX0_keyAt 11 = .ok (.iload_n 3, 1) := by decide +kernel
theorem dX0_keyAt_12 : decode cX0_keyAt 12 = .ok (.aload_n 0, 1) := by decide +kernel
theorem dX0_keyAt_13 : decode cX0_keyAt 13 = .ok (.getfield 21, 3) := by decide +kernel
theorem dX0_keyAt_16 : decode cX0_keyAt 16 = .ok (.arraylength, 1) := by decide +kernel
theorem dX0_keyAt_17 : decode cX0_keyAt 17 = .ok (.if_icmp .ge 12, 3) := by decide +kernel
theorem dX0_keyAt_20 : decode cX0_keyAt 20 = .ok (.aload_n 0, 1) := by decide +kernel
theorem dX0_keyAt_21 : decode cX0_keyAt 21 = .ok (.getfield 21, 3) := by decide +kernel
theorem dX0_keyAt_24 : decode cX0_keyAt 24 = .ok (.iload_n 3, 1) := by decide +kernel
theorem dX0_keyAt_25 : decode cX0_keyAt 25 = .ok (.iaload, 1) := by decide +kernel
theorem dX0_keyAt_26 : decode cX0_keyAt 26 = .ok (.goto 4, 3) := by decide +kernel
theorem dX0_keyAt_29 : decode cX0_keyAt 29 = .ok (.iconst 0, 1) := by decide +kernel
theorem dX0_keyAt_30 : decode cX0_keyAt 30 = .ok (.ireturn, 1) := by decide +kernel
theorem dX0_secondAt_0 : decode cX0_secondAt 0 = .ok (.aload_n 0, 1) := by decide +kernel
theorem dX0_secondAt_1 : decode cX0_secondAt 1 = .ok (.iload_n 1, 1) := by decide +kernel
theorem dX0_secondAt_2 : decode cX0_secondAt 2 = .ok (.iload_n 2, 1) := by decide +kernel
theorem dX0_secondAt_3 : decode cX0_secondAt 3 = .ok (.invokevirtual 37, 3) := by decide +kernel
theorem dX0_secondAt_6 : decode cX0_secondAt 6 = .ok (.istore_n 3, 1) := by decide +kernel
theorem dX0_secondAt_7 : decode cX0_secondAt 7 = .ok (.iload_n 3, 1) := by decide +kernel
theorem dX0_secondAt_8 : decode cX0_secondAt 8 = .ok (.ifCond .lt 21, 3) := by decide +kernel
theorem dX0_secondAt_11 : decode cX0_secondAt 11 = .ok (.iload_n 3, 1) := by decide +kernel
theorem dX0_secondAt_12 : decode cX0_secondAt 12 = .ok (.aload_n 0, 1) := by decide +kernel
theorem dX0_secondAt_13 : decode cX0_secondAt 13 = .ok (.getfield 24, 3) := by decide +kernel
theorem dX0_secondAt_16 : decode cX0_secondAt 16 = .ok (.arraylength, 1) := by decide +kernel
theorem dX0_secondAt_17 : decode cX0_secondAt 17 = .ok (.if_icmp .ge 12, 3) := by decide +kernel
theorem dX0_secondAt_20 : decode cX0_secondAt 20 = .ok (.aload_n 0, 1) := by decide +kernel
theorem dX0_secondAt_21 : decode cX0_secondAt 21 = .ok (.getfield 24, 3) := by decide +kernel
theorem dX0_secondAt_24 : decode cX0_secondAt 24 = .ok (.iload_n 3, 1) := by decide +kernel
theorem dX0_secondAt_25 : decode cX0_secondAt 25 = .ok (.iaload, 1) := by decide +kernel
theorem dX0_secondAt_26 : decode cX0_secondAt 26 = .ok (.goto 4, 3) := by decide +kernel
theorem dX0_secondAt_29 : decode cX0_secondAt 29 = .ok (.iconst 0, 1) := by decide +kernel
theorem dX0_secondAt_30 : decode cX0_secondAt 30 = .ok (.ireturn, 1) := by decide +kernel
theorem dX0_setKey_0 : decode cX0_setKey 0 = .ok (.aload_n 0, 1) := by decide +kernel
theorem dX0_setKey_1 : decode cX0_setKey 1 = .ok (.iload_n 1, 1) := by decide +kernel
theorem dX0_setKey_2 : decode cX0_setKey 2 = .ok (.iload_n 2, 1) := by decide +kernel
theorem dX0_setKey_3 : decode cX0_setKey 3 = .ok (.invokevirtual 37, 3) := by decide +kernel
theorem dX0_setKey_6 : decode cX0_setKey 6 = .ok (.istore 4, 2) := by decide +kernel
theorem dX0_setKey_8 : decode cX0_setKey 8 = .ok (.iload 4, 2) := by decide +kernel
theorem dX0_setKey_10 : decode cX0_setKey 10 = .ok (.ifCond .lt 21, 3) := by decide +kernel
theorem dX0_setKey_13 : decode cX0_setKey 13 = .ok (.iload 4, 2) := by decide +kernel
theorem dX0_setKey_15 : decode cX0_setKey 15 = .ok (.aload_n 0, 1) := by decide +kernel
theorem dX0_setKey_16 : decode cX0_setKey 16 = .ok (.getfield 21, 3) := by decide +kernel
theorem dX0_setKey_19 : decode cX0_setKey 19 = .ok (.arraylength, 1) := by decide +kernel
theorem dX0_setKey_20 : decode cX0_setKey 20 = .ok (.if_icmp .ge 11, 3) := by decide +kernel
theorem dX0_setKey_23 : decode cX0_setKey 23 = .ok (.aload_n 0, 1) := by decide +kernel
theorem dX0_setKey_24 : decode cX0_setKey 24 = .ok (.getfield 21, 3) := by decide +kernel
theorem dX0_setKey_27 : decode cX0_setKey 27 = .ok (.iload 4, 2) := by decide +kernel
theorem dX0_setKey_29 : decode cX0_setKey 29 = .ok (.iload_n 3, 1) := by decide +kernel
theorem dX0_setKey_30 : decode cX0_setKey 30 = .ok (.iastore, 1) := by decide +kernel
theorem dX0_setKey_31 : decode cX0_setKey 31 = .ok (.return_, 1) := by decide +kernel
theorem dX0_setItem_0 : decode cX0_setItem 0 = .ok (.aload_n 0, 1) := by decide +kernel
theorem dX0_setItem_1 : decode cX0_setItem 1 = .ok (.iload_n 1, 1) := by decide +kernel
theorem dX0_setItem_2 : decode cX0_setItem 2 = .ok (.iload_n 2, 1) := by decide +kernel
theorem dX0_setItem_3 : decode cX0_setItem 3 = .ok (.invokevirtual 37, 3) := by decide +kernel
theorem dX0_setItem_6 : decode cX0_setItem 6 = .ok (.istore 5, 2) := by decide +kernel
theorem dX0_setItem_8 : decode cX0_setItem 8 = .ok (.iload 5, 2) := by decide +kernel
theorem dX0_setItem_10 : decode cX0_setItem 10 = .ok (.ifCond .lt 40, 3) := by decide +kernel
theorem dX0_setItem_13 : decode cX0_setItem 13 = .ok (.iload 5, 2) := by decide +kernel
theorem dX0_setItem_15 : decode cX0_setItem 15 = .ok (.aload_n 0, 1) := by decide +kernel
theorem dX0_setItem_16 : decode cX0_setItem 16 = .ok (.getfield 21, 3) := by decide +kernel
theorem dX0_setItem_19 : decode cX0_setItem 19 = .ok (.arraylength, 1) := by decide +kernel
theorem dX0_setItem_20 : decode cX0_setItem 20 = .ok (.if_icmp .ge 30, 3) := by decide +kernel
theorem dX0_setItem_23 : decode cX0_setItem 23 = .ok (.iload 5, 2) := by decide +kernel
theorem dX0_setItem_25 : decode cX0_setItem 25 = .ok (.aload_n 0, 1) := by decide +kernel
theorem dX0_setItem_26 : decode cX0_setItem 26 = .ok (.getfield 24, 3) := by decide +kernel
theorem dX0_setItem_29 : decode cX0_setItem 29 = .ok (.arraylength, 1) := by decide +kernel
theorem dX0_setItem_30 : decode cX0_setItem 30 = .ok (.if_icmp .ge 20, 3) := by decide +kernel
theorem dX0_setItem_33 : decode cX0_setItem 33 = .ok (.aload_n 0, 1) := by decide +kernel
theorem dX0_setItem_34 : decode cX0_setItem 34 = .ok (.getfield 21, 3) := by decide +kernel
theorem dX0_setItem_37 : decode cX0_setItem 37 = .ok (.iload 5, 2) := by decide +kernel
theorem dX0_setItem_39 : decode cX0_setItem 39 = .ok (.iload_n 3, 1) := by decide +kernel
theorem dX0_setItem_40 : decode cX0_setItem 40 = .ok (.iastore, 1) := by decide +kernel
theorem dX0_setItem_41 : decode cX0_setItem 41 = .ok (.aload_n 0, 1) := by decide +kernel
theorem dX0_setItem_42 : decode cX0_setItem 42 = .ok (.getfield 24, 3) := by decide +kernel
theorem dX0_setItem_45 : decode cX0_setItem 45 = .ok (.iload 5, 2) := by decide +kernel
theorem dX0_setItem_47 : decode cX0_setItem 47 = .ok (.iload 4, 2) := by decide +kernel
theorem dX0_setItem_49 : decode cX0_setItem 49 = .ok (.iastore, 1) := by decide +kernel
theorem dX0_setItem_50 : decode cX0_setItem 50 = .ok (.return_, 1) := by decide +kernel
theorem dX0_cellOf_0 : decode cX0_cellOf 0 = .ok (.iload_n 1, 1) := by decide +kernel
theorem dX0_cellOf_1 : decode cX0_cellOf 1 = .ok (.ifCond .lt 22, 3) := by decide +kernel
theorem dX0_cellOf_4 : decode cX0_cellOf 4 = .ok (.iload_n 1, 1) := by decide +kernel
theorem dX0_cellOf_5 : decode cX0_cellOf 5 = .ok (.bipush 40, 2) := by decide +kernel
theorem dX0_cellOf_7 : decode cX0_cellOf 7 = .ok (.if_icmp .ge 16, 3) := by decide +kernel
theorem dX0_cellOf_10 : decode cX0_cellOf 10 = .ok (.iload_n 2, 1) := by decide +kernel
theorem dX0_cellOf_11 : decode cX0_cellOf 11 = .ok (.ifCond .lt 12, 3) := by decide +kernel
theorem dX0_cellOf_14 : decode cX0_cellOf 14 = .ok (.iload_n 2, 1) := by decide +kernel
theorem dX0_cellOf_15 : decode cX0_cellOf 15 = .ok (.iconst 5, 1) := by decide +kernel
theorem dX0_cellOf_16 : decode cX0_cellOf 16 = .ok (.if_icmp .ge 7, 3) := by decide +kernel
theorem dX0_cellOf_19 : decode cX0_cellOf 19 = .ok (.iconst 1, 1) := by decide +kernel
theorem dX0_cellOf_20 : decode cX0_cellOf 20 = .ok (.goto 4, 3) := by decide +kernel
theorem dX0_cellOf_23 : decode cX0_cellOf 23 = .ok (.iconst 0, 1) := by decide +kernel
theorem dX0_cellOf_24 : decode cX0_cellOf 24 = .ok (.istore_n 3, 1) := by decide +kernel
theorem dX0_cellOf_25 : decode cX0_cellOf 25 = .ok (.iload_n 3, 1) := by decide +kernel
theorem dX0_cellOf_26 : decode cX0_cellOf 26 = .ok (.ifCond .eq 11, 3) := by decide +kernel
theorem dX0_cellOf_29 : decode cX0_cellOf 29 = .ok (.iload_n 1, 1) := by decide +kernel
theorem dX0_cellOf_30 : decode cX0_cellOf 30 = .ok (.iconst 5, 1) := by decide +kernel
theorem dX0_cellOf_31 : decode cX0_cellOf 31 = .ok (.imul, 1) := by decide +kernel
theorem dX0_cellOf_32 : decode cX0_cellOf 32 = .ok (.iload_n 2, 1) := by decide +kernel
theorem dX0_cellOf_33 : decode cX0_cellOf 33 = .ok (.iadd, 1) := by decide +kernel
theorem dX0_cellOf_34 : decode cX0_cellOf 34 = .ok (.goto 4, 3) := by decide +kernel
theorem dX0_cellOf_37 : decode cX0_cellOf 37 = .ok (.iconst (-1), 1) := by decide +kernel
theorem dX0_cellOf_38 : decode cX0_cellOf 38 = .ok (.ireturn, 1) := by decide +kernel
theorem dX0_insert_0 : decode cX0_insert 0 = .ok (.aload_n 0, 1) := by decide +kernel
theorem dX0_insert_1 : decode cX0_insert 1 = .ok (.iload_n 1, 1) := by decide +kernel
theorem dX0_insert_2 : decode cX0_insert 2 = .ok (.invokevirtual 41, 3) := by decide +kernel
theorem dX0_insert_5 : decode cX0_insert 5 = .ok (.istore 5, 2) := by decide +kernel
theorem dX0_insert_7 : decode cX0_insert 7 = .ok (.aload_n 0, 1) := by decide +kernel
theorem dX0_insert_8 : decode cX0_insert 8 = .ok (.iload_n 1, 1) := by decide +kernel
theorem dX0_insert_9 : decode cX0_insert 9 = .ok (.invokevirtual 33, 3) := by decide +kernel
theorem dX0_insert_12 : decode cX0_insert 12 = .ok (.ifCond .eq 19, 3) := by decide +kernel
theorem dX0_insert_15 : decode cX0_insert 15 = .ok (.iload 5, 2) := by decide +kernel
theorem dX0_insert_17 : decode cX0_insert 17 = .ok (.iconst 5, 1) := by decide +kernel
theorem dX0_insert_18 : decode cX0_insert 18 = .ok (.if_icmp .ge 13, 3) := by decide +kernel
theorem dX0_insert_21 : decode cX0_insert 21 = .ok (.iload_n 2, 1) := by decide +kernel
theorem dX0_insert_22 : decode cX0_insert 22 = .ok (.ifCond .lt 9, 3) := by decide +kernel
theorem dX0_insert_25 : decode cX0_insert 25 = .ok (.iload_n 2, 1) := by decide +kernel
theorem dX0_insert_26 : decode cX0_insert 26 = .ok (.iload 5, 2) := by decide +kernel
theorem dX0_insert_28 : decode cX0_insert 28 = .ok (.if_icmp .le 4, 3) := by decide +kernel
theorem dX0_insert_31 : decode cX0_insert 31 = .ok (.return_, 1) := by decide +kernel
theorem dX0_insert_32 : decode cX0_insert 32 = .ok (.iload 5, 2) := by decide +kernel
theorem dX0_insert_34 : decode cX0_insert 34 = .ok (.istore 6, 2) := by decide +kernel
theorem dX0_insert_36 : decode cX0_insert 36 = .ok (.iload 6, 2) := by decide +kernel
theorem dX0_insert_38 : decode cX0_insert 38 = .ok (.iload_n 2, 1) := by decide +kernel
theorem dX0_insert_39 : decode cX0_insert 39 = .ok (.if_icmp .le 34, 3) := by decide +kernel
theorem dX0_insert_42 : decode cX0_insert 42 = .ok (.aload_n 0, 1) := by decide +kernel
theorem dX0_insert_43 : decode cX0_insert 43 = .ok (.iload_n 1, 1) := by decide +kernel
theorem dX0_insert_44 : decode cX0_insert 44 = .ok (.iload 6, 2) := by decide +kernel
theorem dX0_insert_46 : decode cX0_insert 46 = .ok (.aload_n 0, 1) := by decide +kernel
theorem dX0_insert_47 : decode cX0_insert 47 = .ok (.iload_n 1, 1) := by decide +kernel
theorem dX0_insert_48 : decode cX0_insert 48 = .ok (.iload 6, 2) := by decide +kernel
theorem dX0_insert_50 : decode cX0_insert 50 = .ok (.iconst 1, 1) := by decide +kernel
theorem dX0_insert_51 : decode cX0_insert 51 = .ok (.isub, 1) := by decide +kernel
theorem dX0_insert_52 : decode cX0_insert 52 = .ok (.invokevirtual 45, 3) := by decide +kernel
theorem dX0_insert_55 : decode cX0_insert 55 = .ok (.aload_n 0, 1) := by decide +kernel
theorem dX0_insert_56 : decode cX0_insert 56 = .ok (.iload_n 1, 1) := by decide +kernel
theorem dX0_insert_57 : decode cX0_insert 57 = .ok (.iload 6, 2) := by decide +kernel
theorem dX0_insert_59 : decode cX0_insert 59 = .ok (.iconst 1, 1) := by decide +kernel
theorem dX0_insert_60 : decode cX0_insert 60 = .ok (.isub, 1) := by decide +kernel
theorem dX0_insert_61 : decode cX0_insert 61 = .ok (.invokevirtual 48, 3) := by decide +kernel
theorem dX0_insert_64 : decode cX0_insert 64 = .ok (.invokevirtual 51, 3) := by decide +kernel
theorem dX0_insert_67 : decode cX0_insert 67 = .ok (.iinc 6 (-1), 3) := by decide +kernel
theorem dX0_insert_70 : decode cX0_insert 70 = .ok (.goto (-34), 3) := by decide +kernel
theorem dX0_insert_73 : decode cX0_insert 73 = .ok (.aload_n 0, 1) := by decide +kernel
theorem dX0_insert_74 : decode cX0_insert 74 = .ok (.iload_n 1, 1) := by decide +kernel
theorem dX0_insert_75 : decode cX0_insert 75 = .ok (.iload_n 2, 1) := by decide +kernel
theorem dX0_insert_76 : decode cX0_insert 76 = .ok (.iload_n 3, 1) := by decide +kernel
theorem dX0_insert_77 : decode cX0_insert 77 = .ok (.iload 4, 2) := by decide +kernel
theorem dX0_insert_79 : decode cX0_insert 79 = .ok (.invokevirtual 51, 3) := by decide +kernel
theorem dX0_insert_82 : decode cX0_insert 82 = .ok (.aload_n 0, 1) := by decide +kernel
theorem dX0_insert_83 : decode cX0_insert 83 = .ok (.getfield 15, 3) := by decide +kernel
theorem dX0_insert_86 : decode cX0_insert 86 = .ok (.iload_n 1, 1) := by decide +kernel
theorem dX0_insert_87 : decode cX0_insert 87 = .ok (.iload 5, 2) := by decide +kernel
theorem dX0_insert_89 : decode cX0_insert 89 = .ok (.iconst 1, 1) := by decide +kernel
theorem dX0_insert_90 : decode cX0_insert 90 = .ok (.iadd, 1) := by decide +kernel
theorem dX0_insert_91 : decode cX0_insert 91 = .ok (.iastore, 1) := by decide +kernel
theorem dX0_insert_92 : decode cX0_insert 92 = .ok (.return_, 1) := by decide +kernel
theorem dX0_delete_0 : decode cX0_delete 0 = .ok (.aload_n 0, 1) := by decide +kernel
theorem dX0_delete_1 : decode cX0_delete 1 = .ok (.iload_n 1, 1) := by decide +kernel
theorem dX0_delete_2 : decode cX0_delete 2 = .ok (.invokevirtual 41, 3) := by decide +kernel
theorem dX0_delete_5 : decode cX0_delete 5 = .ok (.istore_n 3, 1) := by decide +kernel
theorem dX0_delete_6 : decode cX0_delete 6 = .ok (.aload_n 0, 1) := by decide +kernel
theorem dX0_delete_7 : decode cX0_delete 7 = .ok (.iload_n 1, 1) := by decide +kernel
theorem dX0_delete_8 : decode cX0_delete 8 = .ok (.invokevirtual 33, 3) := by decide +kernel
theorem dX0_delete_11 : decode cX0_delete 11 = .ok (.ifCond .eq 12, 3) := by decide +kernel
theorem dX0_delete_14 : decode cX0_delete 14 = .ok (.iload_n 2, 1) := by decide +kernel
theorem dX0_delete_15 : decode cX0_delete 15 = .ok (.ifCond .lt 8, 3) := by decide +kernel
theorem dX0_delete_18 : decode cX0_delete 18 = .ok (.iload_n 2, 1) := by decide +kernel
theorem dX0_delete_19 : decode cX0_delete 19 = .ok (.iload_n 3, 1) := by decide +kernel
theorem dX0_delete_20 : decode cX0_delete 20 = .ok (.if_icmp .lt 4, 3) := by decide +kernel
theorem dX0_delete_23 : decode cX0_delete 23 = .ok (.return_, 1) := by decide +kernel
theorem dX0_delete_24 : decode cX0_delete 24 = .ok (.iload_n 2, 1) := by decide +kernel
theorem dX0_delete_25 : decode cX0_delete 25 = .ok (.istore 4, 2) := by decide +kernel
theorem dX0_delete_27 : decode cX0_delete 27 = .ok (.iload 4, 2) := by decide +kernel
theorem dX0_delete_29 : decode cX0_delete 29 = .ok (.iconst 1, 1) := by decide +kernel
theorem dX0_delete_30 : decode cX0_delete 30 = .ok (.iadd, 1) := by decide +kernel
theorem dX0_delete_31 : decode cX0_delete 31 = .ok (.iload_n 3, 1) := by decide +kernel
theorem dX0_delete_32 : decode cX0_delete 32 = .ok (.if_icmp .ge 34, 3) := by decide +kernel
theorem dX0_delete_35 : decode cX0_delete 35 = .ok (.aload_n 0, 1) := by decide +kernel
theorem dX0_delete_36 : decode cX0_delete 36 = .ok (.iload_n 1, 1) := by decide +kernel
theorem dX0_delete_37 : decode cX0_delete 37 = .ok (.iload 4, 2) := by decide +kernel
theorem dX0_delete_39 : decode cX0_delete 39 = .ok (.aload_n 0, 1) := by decide +kernel
theorem dX0_delete_40 : decode cX0_delete 40 = .ok (.iload_n 1, 1) := by decide +kernel
theorem dX0_delete_41 : decode cX0_delete 41 = .ok (.iload 4, 2) := by decide +kernel
theorem dX0_delete_43 : decode cX0_delete 43 = .ok (.iconst 1, 1) := by decide +kernel
theorem dX0_delete_44 : decode cX0_delete 44 = .ok (.iadd, 1) := by decide +kernel
theorem dX0_delete_45 : decode cX0_delete 45 = .ok (.invokevirtual 45, 3) := by decide +kernel
theorem dX0_delete_48 : decode cX0_delete 48 = .ok (.aload_n 0, 1) := by decide +kernel
theorem dX0_delete_49 : decode cX0_delete 49 = .ok (.iload_n 1, 1) := by decide +kernel
theorem dX0_delete_50 : decode cX0_delete 50 = .ok (.iload 4, 2) := by decide +kernel
theorem dX0_delete_52 : decode cX0_delete 52 = .ok (.iconst 1, 1) := by decide +kernel
theorem dX0_delete_53 : decode cX0_delete 53 = .ok (.iadd, 1) := by decide +kernel
theorem dX0_delete_54 : decode cX0_delete 54 = .ok (.invokevirtual 48, 3) := by decide +kernel
theorem dX0_delete_57 : decode cX0_delete 57 = .ok (.invokevirtual 51, 3) := by decide +kernel
theorem dX0_delete_60 : decode cX0_delete 60 = .ok (.iinc 4 1, 3) := by decide +kernel
theorem dX0_delete_63 : decode cX0_delete 63 = .ok (.goto (-36), 3) := by decide +kernel
theorem dX0_delete_66 : decode cX0_delete 66 = .ok (.aload_n 0, 1) := by decide +kernel
theorem dX0_delete_67 : decode cX0_delete 67 = .ok (.getfield 15, 3) := by decide +kernel
theorem dX0_delete_70 : decode cX0_delete 70 = .ok (.iload_n 1, 1) := by decide +kernel
theorem dX0_delete_71 : decode cX0_delete 71 = .ok (.iload_n 3, 1) := by decide +kernel
theorem dX0_delete_72 : decode cX0_delete 72 = .ok (.iconst 1, 1) := by decide +kernel
theorem dX0_delete_73 : decode cX0_delete 73 = .ok (.isub, 1) := by decide +kernel
theorem dX0_delete_74 : decode cX0_delete 74 = .ok (.iastore, 1) := by decide +kernel
theorem dX0_delete_75 : decode cX0_delete 75 = .ok (.return_, 1) := by decide +kernel
theorem dX0_moveItems_0 : decode cX0_moveItems 0 = .ok (.aload_n 0, 1) := by decide +kernel
theorem dX0_moveItems_1 : decode cX0_moveItems 1 = .ok (.iload_n 1, 1) := by decide +kernel
theorem dX0_moveItems_2 : decode cX0_moveItems 2 = .ok (.invokevirtual 41, 3) := by decide +kernel
theorem dX0_moveItems_5 : decode cX0_moveItems 5 = .ok (.istore 4, 2) := by decide +kernel
theorem dX0_moveItems_7 : decode cX0_moveItems 7 = .ok (.aload_n 0, 1) := by decide +kernel
theorem dX0_moveItems_8 : decode cX0_moveItems 8 = .ok (.iload_n 3, 1) := by decide +kernel
theorem dX0_moveItems_9 : decode cX0_moveItems 9 = .ok (.invokevirtual 41, 3) := by decide +kernel
theorem dX0_moveItems_12 : decode cX0_moveItems 12 = .ok (.istore 5, 2) := by decide +kernel
theorem dX0_moveItems_14 : decode cX0_moveItems 14 = .ok (.aload_n 0, 1) := by decide +kernel
theorem dX0_moveItems_15 : decode cX0_moveItems 15 = .ok (.iload_n 1, 1) := by decide +kernel
theorem dX0_moveItems_16 : decode cX0_moveItems 16 = .ok (.invokevirtual 33, 3) := by decide +kernel
theorem dX0_moveItems_19 : decode cX0_moveItems 19 = .ok (.ifCond .eq 32, 3) := by decide +kernel
theorem dX0_moveItems_22 : decode cX0_moveItems 22 = .ok (.aload_n 0, 1) := by decide +kernel
theorem dX0_moveItems_23 : decode cX0_moveItems 23 = .ok (.iload_n 3, 1) := by decide +kernel
theorem dX0_moveItems_24 : decode cX0_moveItems 24 = .ok (.invokevirtual 33, 3) := by decide +kernel
theorem dX0_moveItems_27 : decode cX0_moveItems 27 = .ok (.ifCond .eq 24, 3) := by decide +kernel
theorem dX0_moveItems_30 : decode cX0_moveItems 30 = .ok (.iload_n 2, 1) := by decide +kernel
theorem dX0_moveItems_31 : decode cX0_moveItems 31 = .ok (.ifCond .lt 20, 3) := by decide +kernel
theorem dX0_moveItems_34 : decode cX0_moveItems 34 = .ok (.iload_n 2, 1) := by decide +kernel
theorem dX0_moveItems_35 : decode cX0_moveItems 35 = .ok (.iload 4, 2) := by decide +kernel
theorem dX0_moveItems_37 : decode cX0_moveItems 37 = .ok (.if_icmp .gt 14, 3) := by decide +kernel
theorem dX0_moveItems_40 : decode cX0_moveItems 40 = .ok (.iload 5, 2) := by decide +kernel
theorem dX0_moveItems_42 : decode cX0_moveItems 42 = .ok (.iload 4, 2) := by decide +kernel
theorem dX0_moveItems_44 : decode cX0_moveItems 44 = .ok (.iadd, 1) := by decide +kernel
theorem dX0_moveItems_45 : decode cX0_moveItems 45 = .ok (.iload_n 2, 1) := by decide +kernel
theorem dX0_moveItems_46 : decode cX0_moveItems 46 = .ok (.isub, 1) := by decide +kernel
theorem dX0_moveItems_47 : decode cX0_moveItems 47 = .ok (.iconst 5, 1) := by decide +kernel
theorem dX0_moveItems_48 : decode cX0_moveItems 48 = .ok (.if_icmp .le 4, 3) := by decide +kernel
theorem dX0_moveItems_51 : decode cX0_moveItems 51 = .ok (.return_, 1) := by decide +kernel
theorem dX0_moveItems_52 : decode cX0_moveItems 52 = .ok (.iload_n 2, 1) := by decide +kernel
theorem dX0_moveItems_53 : decode cX0_moveItems 53 = .ok (.istore 6, 2) := by decide +kernel
theorem dX0_moveItems_55 : decode cX0_moveItems 55 = .ok (.iload 6, 2) := by decide +kernel
theorem dX0_moveItems_57 : decode cX0_moveItems 57 = .ok (.iload 4, 2) := by decide +kernel
theorem dX0_moveItems_59 : decode cX0_moveItems 59 = .ok (.if_icmp .ge 35, 3) := by decide +kernel
theorem dX0_moveItems_62 : decode cX0_moveItems 62 = .ok (.aload_n 0, 1) := by decide +kernel
theorem dX0_moveItems_63 : decode cX0_moveItems 63 = .ok (.iload_n 3, 1) := by decide +kernel
theorem dX0_moveItems_64 : decode cX0_moveItems 64 = .ok (.iload 5, 2) := by decide +kernel
theorem dX0_moveItems_66 : decode cX0_moveItems 66 = .ok (.iload 6, 2) := by decide +kernel
theorem dX0_moveItems_68 : decode cX0_moveItems 68 = .ok (.iadd, 1) := by decide +kernel
theorem dX0_moveItems_69 : decode cX0_moveItems 69 = .ok (.iload_n 2, 1) := by decide +kernel
theorem dX0_moveItems_70 : decode cX0_moveItems 70 = .ok (.isub, 1) := by decide +kernel
theorem dX0_moveItems_71 : decode cX0_moveItems 71 = .ok (.aload_n 0, 1) := by decide +kernel
theorem dX0_moveItems_72 : decode cX0_moveItems 72 = .ok (.iload_n 1, 1) := by decide +kernel
theorem dX0_moveItems_73 : decode cX0_moveItems 73 = .ok (.iload 6, 2) := by decide +kernel
theorem dX0_moveItems_75 : decode cX0_moveItems 75 = .ok (.invokevirtual 45, 3) := by decide +kernel
theorem dX0_moveItems_78 : decode cX0_moveItems 78 = .ok (.aload_n 0, 1) := by decide +kernel
theorem dX0_moveItems_79 : decode cX0_moveItems 79 = .ok (.iload_n 1, 1) := by decide +kernel
theorem dX0_moveItems_80 : decode cX0_moveItems 80 = .ok (.iload 6, 2) := by decide +kernel
theorem dX0_moveItems_82 : decode cX0_moveItems 82 = .ok (.invokevirtual 48, 3) := by decide +kernel
theorem dX0_moveItems_85 : decode cX0_moveItems 85 = .ok (.invokevirtual 51, 3) := by decide +kernel
theorem dX0_moveItems_88 : decode cX0_moveItems 88 = .ok (.iinc 6 1, 3) := by decide +kernel
theorem dX0_moveItems_91 : decode cX0_moveItems 91 = .ok (.goto (-36), 3) := by decide +kernel
theorem dX0_moveItems_94 : decode cX0_moveItems 94 = .ok (.aload_n 0, 1) := by decide +kernel
theorem dX0_moveItems_95 : decode cX0_moveItems 95 = .ok (.getfield 15, 3) := by decide +kernel
theorem dX0_moveItems_98 : decode cX0_moveItems 98 = .ok (.iload_n 1, 1) := by decide +kernel
theorem dX0_moveItems_99 : decode cX0_moveItems 99 = .ok (.iload_n 2, 1) := by decide +kernel
theorem dX0_moveItems_100 : decode cX0_moveItems 100 = .ok (.iastore, 1) := by decide +kernel
theorem dX0_moveItems_101 : decode cX0_moveItems 101 = .ok (.aload_n 0, 1) := by decide +kernel
theorem dX0_moveItems_102 : decode cX0_moveItems 102 = .ok (.getfield 15, 3) := by decide +kernel
theorem dX0_moveItems_105 : decode cX0_moveItems 105 = .ok (.iload_n 3, 1) := by decide +kernel
theorem dX0_moveItems_106 : decode cX0_moveItems 106 = .ok (.iload 5, 2) := by decide +kernel
theorem dX0_moveItems_108 : decode cX0_moveItems 108 = .ok (.iload 4, 2) := by decide +kernel
theorem dX0_moveItems_110 : decode cX0_moveItems 110 = .ok (.iadd, 1) := by decide +kernel
theorem dX0_moveItems_111 : decode cX0_moveItems 111 = .ok (.iload_n 2, 1) := by decide +kernel
theorem dX0_moveItems_112 : decode cX0_moveItems 112 = .ok (.isub, 1) := by decide +kernel
theorem dX0_moveItems_113 : decode cX0_moveItems 113 = .ok (.iastore, 1) := by decide +kernel
theorem dX0_moveItems_114 : decode cX0_moveItems 114 = .ok (.return_, 1) := by decide +kernel
theorem dX0_allot_0 : decode cX0_allot 0 = .ok (.aload_n 0, 1) := by decide +kernel
theorem dX0_allot_1 : decode cX0_allot 1 = .ok (.iload_n 1, 1) := by decide +kernel
theorem dX0_allot_2 : decode cX0_allot 2 = .ok (.invokevirtual 33, 3) := by decide +kernel
theorem dX0_allot_5 : decode cX0_allot 5 = .ok (.ifCond .eq 24, 3) := by decide +kernel
theorem dX0_allot_8 : decode cX0_allot 8 = .ok (.aload_n 0, 1) := by decide +kernel
theorem dX0_allot_9 : decode cX0_allot 9 = .ok (.getfield 9, 3) := by decide +kernel
theorem dX0_allot_12 : decode cX0_allot 12 = .ok (.iload_n 1, 1) := by decide +kernel
theorem dX0_allot_13 : decode cX0_allot 13 = .ok (.iload_n 2, 1) := by decide +kernel
theorem dX0_allot_14 : decode cX0_allot 14 = .ok (.iastore, 1) := by decide +kernel
theorem dX0_allot_15 : decode cX0_allot 15 = .ok (.aload_n 0, 1) := by decide +kernel
theorem dX0_allot_16 : decode cX0_allot 16 = .ok (.getfield 15, 3) := by decide +kernel
theorem dX0_allot_19 : decode cX0_allot 19 = .ok (.iload_n 1, 1) := by decide +kernel
theorem dX0_allot_20 : decode cX0_allot 20 = .ok (.iconst 0, 1) := by decide +kernel
theorem dX0_allot_21 : decode cX0_allot 21 = .ok (.iastore, 1) := by decide +kernel
theorem dX0_allot_22 : decode cX0_allot 22 = .ok (.aload_n 0, 1) := by decide +kernel
theorem dX0_allot_23 : decode cX0_allot 23 = .ok (.getfield 18, 3) := by decide +kernel
theorem dX0_allot_26 : decode cX0_allot 26 = .ok (.iload_n 1, 1) := by decide +kernel
theorem dX0_allot_27 : decode cX0_allot 27 = .ok (.iconst (-1), 1) := by decide +kernel
theorem dX0_allot_28 : decode cX0_allot 28 = .ok (.iastore, 1) := by decide +kernel
theorem dX0_allot_29 : decode cX0_allot 29 = .ok (.return_, 1) := by decide +kernel
theorem dX0_leastFree_0 : decode cX0_leastFree 0 = .ok (.iconst 0, 1) := by decide +kernel
theorem dX0_leastFree_1 : decode cX0_leastFree 1 = .ok (.istore_n 1, 1) := by decide +kernel
theorem dX0_leastFree_2 : decode cX0_leastFree 2 = .ok (.iload_n 1, 1) := by decide +kernel
theorem dX0_leastFree_3 : decode cX0_leastFree 3 = .ok (.bipush 40, 2) := by decide +kernel
theorem dX0_leastFree_5 : decode cX0_leastFree 5 = .ok (.if_icmp .ge 19, 3) := by decide +kernel
theorem dX0_leastFree_8 : decode cX0_leastFree 8 = .ok (.aload_n 0, 1) := by decide +kernel
theorem dX0_leastFree_9 : decode cX0_leastFree 9 = .ok (.iload_n 1, 1) := by decide +kernel
theorem dX0_leastFree_10 : decode cX0_leastFree 10 = .ok (.invokevirtual 55, 3) := by decide +kernel
theorem dX0_leastFree_13 : decode cX0_leastFree 13 = .ok (.ifCond .ne 5, 3) := by decide +kernel
theorem dX0_leastFree_16 : decode cX0_leastFree 16 = .ok (.iload_n 1, 1) := by decide +kernel
theorem dX0_leastFree_17 : decode cX0_leastFree 17 = .ok (.ireturn, 1) := by decide +kernel
theorem dX0_leastFree_18 : decode cX0_leastFree 18 = .ok (.iinc 1 1, 3) := by decide +kernel
theorem dX0_leastFree_21 : decode cX0_leastFree 21 = .ok (.goto (-19), 3) := by decide +kernel
theorem dX0_leastFree_24 : decode cX0_leastFree 24 = .ok (.iconst (-1), 1) := by decide +kernel
theorem dX0_leastFree_25 : decode cX0_leastFree 25 = .ok (.ireturn, 1) := by decide +kernel
theorem dX0_countFree_0 : decode cX0_countFree 0 = .ok (.iconst 0, 1) := by decide +kernel
theorem dX0_countFree_1 : decode cX0_countFree 1 = .ok (.istore_n 1, 1) := by decide +kernel
theorem dX0_countFree_2 : decode cX0_countFree 2 = .ok (.iconst 0, 1) := by decide +kernel
theorem dX0_countFree_3 : decode cX0_countFree 3 = .ok (.istore_n 2, 1) := by decide +kernel
theorem dX0_countFree_4 : decode cX0_countFree 4 = .ok (.iload_n 2, 1) := by decide +kernel
theorem dX0_countFree_5 : decode cX0_countFree 5 = .ok (.bipush 40, 2) := by decide +kernel
theorem dX0_countFree_7 : decode cX0_countFree 7 = .ok (.if_icmp .ge 20, 3) := by decide +kernel
theorem dX0_countFree_10 : decode cX0_countFree 10 = .ok (.aload_n 0, 1) := by decide +kernel
theorem dX0_countFree_11 : decode cX0_countFree 11 = .ok (.iload_n 2, 1) := by decide +kernel
theorem dX0_countFree_12 : decode cX0_countFree 12 = .ok (.invokevirtual 55, 3) := by decide +kernel
theorem dX0_countFree_15 : decode cX0_countFree 15 = .ok (.ifCond .ne 6, 3) := by decide +kernel
theorem dX0_countFree_18 : decode cX0_countFree 18 = .ok (.iinc 1 1, 3) := by decide +kernel
theorem dX0_countFree_21 : decode cX0_countFree 21 = .ok (.iinc 2 1, 3) := by decide +kernel
theorem dX0_countFree_24 : decode cX0_countFree 24 = .ok (.goto (-20), 3) := by decide +kernel
theorem dX0_countFree_27 : decode cX0_countFree 27 = .ok (.iload_n 1, 1) := by decide +kernel
theorem dX0_countFree_28 : decode cX0_countFree 28 = .ok (.ireturn, 1) := by decide +kernel
theorem dX0_placeOf_0 : decode cX0_placeOf 0 = .ok (.aload_n 0, 1) := by decide +kernel
theorem dX0_placeOf_1 : decode cX0_placeOf 1 = .ok (.iload_n 1, 1) := by decide +kernel
theorem dX0_placeOf_2 : decode cX0_placeOf 2 = .ok (.invokevirtual 41, 3) := by decide +kernel
theorem dX0_placeOf_5 : decode cX0_placeOf 5 = .ok (.istore_n 3, 1) := by decide +kernel
theorem dX0_placeOf_6 : decode cX0_placeOf 6 = .ok (.iconst 0, 1) := by decide +kernel
theorem dX0_placeOf_7 : decode cX0_placeOf 7 = .ok (.istore 4, 2) := by decide +kernel
theorem dX0_placeOf_9 : decode cX0_placeOf 9 = .ok (.iload 4, 2) := by decide +kernel
theorem dX0_placeOf_11 : decode cX0_placeOf 11 = .ok (.iload_n 3, 1) := by decide +kernel
theorem dX0_placeOf_12 : decode cX0_placeOf 12 = .ok (.if_icmp .ge 23, 3) := by decide +kernel
theorem dX0_placeOf_15 : decode cX0_placeOf 15 = .ok (.aload_n 0, 1) := by decide +kernel
theorem dX0_placeOf_16 : decode cX0_placeOf 16 = .ok (.iload_n 1, 1) := by decide +kernel
theorem dX0_placeOf_17 : decode cX0_placeOf 17 = .ok (.iload 4, 2) := by decide +kernel
theorem dX0_placeOf_19 : decode cX0_placeOf 19 = .ok (.invokevirtual 45, 3) := by decide +kernel
theorem dX0_placeOf_22 : decode cX0_placeOf 22 = .ok (.iload_n 2, 1) := by decide +kernel
theorem dX0_placeOf_23 : decode cX0_placeOf 23 = .ok (.if_icmp .lt 6, 3) := by decide +kernel
theorem dX0_placeOf_26 : decode cX0_placeOf 26 = .ok (.iload 4, 2) := by decide +kernel
theorem dX0_placeOf_28 : decode cX0_placeOf 28 = .ok (.ireturn, 1) := by decide +kernel
theorem dX0_placeOf_29 : decode cX0_placeOf 29 = .ok (.iinc 4 1, 3) := by decide +kernel
theorem dX0_placeOf_32 : decode cX0_placeOf 32 = .ok (.goto (-23), 3) := by decide +kernel
theorem dX0_placeOf_35 : decode cX0_placeOf 35 = .ok (.iload_n 3, 1) := by decide +kernel
theorem dX0_placeOf_36 : decode cX0_placeOf 36 = .ok (.ireturn, 1) := by decide +kernel
theorem dX0_hasKey_0 : decode cX0_hasKey 0 = .ok (.iload_n 2, 1) := by decide +kernel
theorem dX0_hasKey_1 : decode cX0_hasKey 1 = .ok (.aload_n 0, 1) := by decide +kernel
theorem dX0_hasKey_2 : decode cX0_hasKey 2 = .ok (.iload_n 1, 1) := by decide +kernel
theorem dX0_hasKey_3 : decode cX0_hasKey 3 = .ok (.invokevirtual 41, 3) := by decide +kernel
theorem dX0_hasKey_6 : decode cX0_hasKey 6 = .ok (.if_icmp .ge 17, 3) := by decide +kernel
theorem dX0_hasKey_9 : decode cX0_hasKey 9 = .ok (.aload_n 0, 1) := by decide +kernel
theorem dX0_hasKey_10 : decode cX0_hasKey 10 = .ok (.iload_n 1, 1) := by decide +kernel
theorem dX0_hasKey_11 : decode cX0_hasKey 11 = .ok (.iload_n 2, 1) := by decide +kernel
theorem dX0_hasKey_12 : decode cX0_hasKey 12 = .ok (.invokevirtual 45, 3) := by decide +kernel
theorem dX0_hasKey_15 : decode cX0_hasKey 15 = .ok (.iload_n 3, 1) := by decide +kernel
theorem dX0_hasKey_16 : decode cX0_hasKey 16 = .ok (.if_icmp .ne 7, 3) := by decide +kernel
theorem dX0_hasKey_19 : decode cX0_hasKey 19 = .ok (.iconst 1, 1) := by decide +kernel
theorem dX0_hasKey_20 : decode cX0_hasKey 20 = .ok (.goto 4, 3) := by decide +kernel
theorem dX0_hasKey_23 : decode cX0_hasKey 23 = .ok (.iconst 0, 1) := by decide +kernel
theorem dX0_hasKey_24 : decode cX0_hasKey 24 = .ok (.ireturn, 1) := by decide +kernel
theorem dX0_childPlaceFor_0 : decode cX0_childPlaceFor 0 = .ok (.aload_n 0, 1) := by decide +kernel
theorem dX0_childPlaceFor_1 : decode cX0_childPlaceFor 1 = .ok (.iload_n 1, 1) := by decide +kernel
theorem dX0_childPlaceFor_2 : decode cX0_childPlaceFor 2 = .ok (.invokevirtual 41, 3) := by decide +kernel
theorem dX0_childPlaceFor_5 : decode cX0_childPlaceFor 5 = .ok (.iconst 1, 1) := by decide +kernel
theorem dX0_childPlaceFor_6 : decode cX0_childPlaceFor 6 = .ok (.isub, 1) := by decide +kernel
theorem dX0_childPlaceFor_7 : decode cX0_childPlaceFor 7 = .ok (.istore_n 3, 1) := by decide +kernel
theorem dX0_childPlaceFor_8 : decode cX0_childPlaceFor 8 = .ok (.iload_n 3, 1) := by decide +kernel
theorem dX0_childPlaceFor_9 : decode cX0_childPlaceFor 9 = .ok (.ifCond .le 21, 3) := by decide +kernel
theorem dX0_childPlaceFor_12 : decode cX0_childPlaceFor 12 = .ok (.aload_n 0, 1) := by decide +kernel
theorem dX0_childPlaceFor_13 : decode cX0_childPlaceFor 13 = .ok (.iload_n 1, 1) := by decide +kernel
theorem dX0_childPlaceFor_14 : decode cX0_childPlaceFor 14 = .ok (.iload_n 3, 1) := by decide +kernel
theorem dX0_childPlaceFor_15 : decode cX0_childPlaceFor 15 = .ok (.invokevirtual 45, 3) := by decide +kernel
theorem dX0_childPlaceFor_18 : decode cX0_childPlaceFor 18 = .ok (.iload_n 2, 1) := by decide +kernel
theorem dX0_childPlaceFor_19 : decode cX0_childPlaceFor 19 = .ok (.if_icmp .gt 5, 3) := by decide +kernel
theorem dX0_childPlaceFor_22 : decode cX0_childPlaceFor 22 = .ok (.iload_n 3, 1) := by decide +kernel
theorem dX0_childPlaceFor_23 : decode cX0_childPlaceFor 23 = .ok (.ireturn, 1) := by decide +kernel
theorem dX0_childPlaceFor_24 : decode cX0_childPlaceFor 24 = .ok (.iinc 3 (-1), 3) := by decide +kernel
theorem dX0_childPlaceFor_27 : decode cX0_childPlaceFor 27 = .ok (.goto (-19), 3) := by decide +kernel
theorem dX0_childPlaceFor_30 : decode cX0_childPlaceFor 30 = .ok (.iconst 0, 1) := by decide +kernel
theorem dX0_childPlaceFor_31 : decode cX0_childPlaceFor 31 = .ok (.ireturn, 1) := by decide +kernel
theorem dX0_countLevels_0 : decode cX0_countLevels 0 = .ok (.iload_n 1, 1) := by decide +kernel
theorem dX0_countLevels_1 : decode cX0_countLevels 1 = .ok (.istore_n 2, 1) := by decide +kernel
theorem dX0_countLevels_2 : decode cX0_countLevels 2 = .ok (.iconst 1, 1) := by decide +kernel
theorem dX0_countLevels_3 : decode cX0_countLevels 3 = .ok (.istore_n 3, 1) := by decide +kernel
theorem dX0_countLevels_4 : decode cX0_countLevels 4 = .ok (.iload_n 3, 1) := by decide +kernel
theorem dX0_countLevels_5 : decode cX0_countLevels 5 = .ok (.bipush 6, 2) := by decide +kernel
theorem dX0_countLevels_7 : decode cX0_countLevels 7 = .ok (.if_icmp .ge 25, 3) := by decide +kernel
theorem dX0_countLevels_10 : decode cX0_countLevels 10 = .ok (.aload_n 0, 1) := by decide +kernel
theorem dX0_countLevels_11 : decode cX0_countLevels 11 = .ok (.iload_n 2, 1) := by decide +kernel
theorem dX0_countLevels_12 : decode cX0_countLevels 12 = .ok (.invokevirtual 55, 3) := by decide +kernel
theorem dX0_countLevels_15 : decode cX0_countLevels 15 = .ok (.iconst 2, 1) := by decide +kernel
theorem dX0_countLevels_16 : decode cX0_countLevels 16 = .ok (.if_icmp .ne 16, 3) := by decide +kernel
theorem dX0_countLevels_19 : decode cX0_countLevels 19 = .ok (.aload_n 0, 1) := by decide +kernel
theorem dX0_countLevels_20 : decode cX0_countLevels 20 = .ok (.iload_n 2, 1) := by decide +kernel
theorem dX0_countLevels_21 : decode cX0_countLevels 21 = .ok (.iconst 0, 1) := by decide +kernel
theorem dX0_countLevels_22 : decode cX0_countLevels 22 = .ok (.invokevirtual 48, 3) := by decide +kernel
theorem dX0_countLevels_25 : decode cX0_countLevels 25 = .ok (.istore_n 2, 1) := by decide +kernel
theorem dX0_countLevels_26 : decode cX0_countLevels 26 = .ok (.iinc 3 1, 3) := by decide +kernel
theorem dX0_countLevels_29 : decode cX0_countLevels 29 = .ok (.goto (-25), 3) := by decide +kernel
theorem dX0_countLevels_32 : decode cX0_countLevels 32 = .ok (.iload_n 3, 1) := by decide +kernel
theorem dX0_countLevels_33 : decode cX0_countLevels 33 = .ok (.ireturn, 1) := by decide +kernel
theorem dX1_init_0 : decode cX1_init 0 = .ok (.aload_n 0, 1) := by decide +kernel
theorem dX1_init_1 : decode cX1_init 1 = .ok (.invokespecial 3, 3) := by decide +kernel
theorem dX1_init_4 : decode cX1_init 4 = .ok (.aload_n 0, 1) := by decide +kernel
theorem dX1_init_5 : decode cX1_init 5 = .ok (.bipush 12, 2) := by decide +kernel
theorem dX1_init_7 : decode cX1_init 7 = .ok (.newarray .int, 2) := by decide +kernel
theorem dX1_init_9 : decode cX1_init 9 = .ok (.putfield 9, 3) := by decide +kernel
theorem dX1_init_12 : decode cX1_init 12 = .ok (.aload_n 0, 1) := by decide +kernel
theorem dX1_init_13 : decode cX1_init 13 = .ok (.bipush 12, 2) := by decide +kernel
theorem dX1_init_15 : decode cX1_init 15 = .ok (.newarray .boolean, 2) := by decide +kernel
theorem dX1_init_17 : decode cX1_init 17 = .ok (.putfield 15, 3) := by decide +kernel
theorem dX1_init_20 : decode cX1_init 20 = .ok (.aload_n 0, 1) := by decide +kernel
theorem dX1_init_21 : decode cX1_init 21 = .ok (.bipush 12, 2) := by decide +kernel
theorem dX1_init_23 : decode cX1_init 23 = .ok (.newarray .boolean, 2) := by decide +kernel
theorem dX1_init_25 : decode cX1_init 25 = .ok (.putfield 19, 3) := by decide +kernel
theorem dX1_init_28 : decode cX1_init 28 = .ok (.aload_n 0, 1) := by decide +kernel
theorem dX1_init_29 : decode cX1_init 29 = .ok (.bipush 12, 2) := by decide +kernel
theorem dX1_init_31 : decode cX1_init 31 = .ok (.newarray .boolean, 2) := by decide +kernel
theorem dX1_init_33 : decode cX1_init 33 = .ok (.putfield 22, 3) := by decide +kernel
theorem dX1_init_36 : decode cX1_init 36 = .ok (.aload_n 0, 1) := by decide +kernel
theorem dX1_init_37 : decode cX1_init 37 = .ok (.getfield 9, 3) := by decide +kernel
theorem dX1_init_40 : decode cX1_init 40 = .ok (.iconst (-1), 1) := by decide +kernel
theorem dX1_init_41 : decode cX1_init 41 = .ok (.invokestatic 25, 3) := by decide +kernel
theorem dX1_init_44 : decode cX1_init 44 = .ok (.return_, 1) := by decide +kernel
theorem dX1_isFrame_0 : decode cX1_isFrame 0 = .ok (.iload_n 1, 1) := by decide +kernel
theorem dX1_isFrame_1 : decode cX1_isFrame 1 = .ok (.ifCond .lt 13, 3) := by decide +kernel
theorem dX1_isFrame_4 : decode cX1_isFrame 4 = .ok (.iload_n 1, 1) := by decide +kernel
theorem dX1_isFrame_5 : decode cX1_isFrame 5 = .ok (.bipush 12, 2) := by decide +kernel
theorem dX1_isFrame_7 : decode cX1_isFrame 7 = .ok (.if_icmp .ge 7, 3) := by decide +kernel
theorem dX1_isFrame_10 : decode cX1_isFrame 10 = .ok (.iconst 1, 1) := by decide +kernel
theorem dX1_isFrame_11 : decode cX1_isFrame 11 = .ok (.goto 4, 3) := by decide +kernel
theorem dX1_isFrame_14 : decode cX1_isFrame 14 = .ok (.iconst 0, 1) := by decide +kernel
theorem dX1_isFrame_15 : decode cX1_isFrame 15 = .ok (.ireturn, 1) := by decide +kernel
theorem dX1_pageIn_0 : decode cX1_pageIn 0 = .ok (.aload_n 0, 1) := by decide +kernel
theorem dX1_pageIn_1 : decode cX1_pageIn 1 = .ok (.iload_n 1, 1) := by decide +kernel
theorem dX1_pageIn_2 : decode cX1_pageIn 2 = .ok (.invokevirtual 31, 3) := by decide +kernel
theorem dX1_pageIn_5 : decode cX1_pageIn 5 = .ok (.ifCond .eq 12, 3) := by decide +kernel
theorem dX1_pageIn_8 : decode cX1_pageIn 8 = .ok (.aload_n 0, 1) := by decide +kernel
theorem dX1_pageIn_9 : decode cX1_pageIn 9 = .ok (.getfield 9, 3) := by decide +kernel
theorem dX1_pageIn_12 : decode cX1_pageIn 12 = .ok (.iload_n 1, 1) := by decide +kernel
theorem dX1_pageIn_13 : decode cX1_pageIn 13 = .ok (.iaload, 1) := by decide +kernel
theorem dX1_pageIn_14 : decode cX1_pageIn 14 = .ok (.goto 4, 3) := by decide +kernel
theorem dX1_pageIn_17 : decode cX1_pageIn 17 = .ok (.iconst (-1), 1) := by decide +kernel
theorem dX1_pageIn_18 : decode cX1_pageIn 18 = .ok (.ireturn, 1) := by decide +kernel
theorem dX1_isUsed_0 : decode cX1_isUsed 0 = .ok (.aload_n 0, 1) := by decide +kernel
theorem dX1_isUsed_1 : decode cX1_isUsed 1 = .ok (.iload_n 1, 1) := by decide +kernel
theorem dX1_isUsed_2 : decode cX1_isUsed 2 = .ok (.invokevirtual 31, 3) := by decide +kernel
theorem dX1_isUsed_5 : decode cX1_isUsed 5 = .ok (.ifCond .eq 16, 3) := by decide +kernel
theorem dX1_isUsed_8 : decode cX1_isUsed 8 = .ok (.aload_n 0, 1) := by decide +kernel
theorem dX1_isUsed_9 : decode cX1_isUsed 9 = .ok (.getfield 15, 3) := by decide +kernel
theorem dX1_isUsed_12 : decode cX1_isUsed 12 = .ok (.iload_n 1, 1) := by decide +kernel
theorem dX1_isUsed_13 : decode cX1_isUsed 13 = .ok (.baload, 1) := by decide +kernel
theorem dX1_isUsed_14 : decode cX1_isUsed 14 = .ok (.ifCond .eq 7, 3) := by decide +kernel
theorem dX1_isUsed_17 : decode cX1_isUsed 17 = .ok (.iconst 1, 1) := by decide +kernel
theorem dX1_isUsed_18 : decode cX1_isUsed 18 = .ok (.goto 4, 3) := by decide +kernel
theorem dX1_isUsed_21 : decode cX1_isUsed 21 = .ok (.iconst 0, 1) := by decide +kernel
theorem dX1_isUsed_22 : decode cX1_isUsed 22 = .ok (.ireturn, 1) := by decide +kernel
theorem dX1_isDirty_0 : decode cX1_isDirty 0 = .ok (.aload_n 0, 1) := by decide +kernel
theorem dX1_isDirty_1 : decode cX1_isDirty 1 = .ok (.iload_n 1, 1) := by decide +kernel
theorem dX1_isDirty_2 : decode cX1_isDirty 2 = .ok (.invokevirtual 31, 3) := by decide +kernel
theorem dX1_isDirty_5 : decode cX1_isDirty 5 = .ok (.ifCond .eq 16, 3) := by decide +kernel
theorem dX1_isDirty_8 : decode cX1_isDirty 8 = .ok (.aload_n 0, 1) := by decide +kernel
theorem dX1_isDirty_9 : decode cX1_isDirty 9 = .ok (.getfield 19, 3) := by decide +kernel
theorem dX1_isDirty_12 : decode cX1_isDirty 12 = .ok (.iload_n 1, 1) := by decide +kernel
theorem dX1_isDirty_13 : decode cX1_isDirty 13 = .ok (.baload, 1) := by decide +kernel
theorem dX1_isDirty_14 : decode cX1_isDirty 14 = .ok (.ifCond .eq 7, 3) := by decide +kernel
theorem dX1_isDirty_17 : decode cX1_isDirty 17 = .ok (.iconst 1, 1) := by decide +kernel
theorem dX1_isDirty_18 : decode cX1_isDirty 18 = .ok (.goto 4, 3) := by decide +kernel
theorem dX1_isDirty_21 : decode cX1_isDirty 21 = .ok (.iconst 0, 1) := by decide +kernel
theorem dX1_isDirty_22 : decode cX1_isDirty 22 = .ok (.ireturn, 1) := by decide +kernel
theorem dX1_hits_0 : decode cX1_hits 0 = .ok (.aload_n 0, 1) := by decide +kernel
theorem dX1_hits_1 : decode cX1_hits 1 = .ok (.getfield 35, 3) := by decide +kernel
theorem dX1_hits_4 : decode cX1_hits 4 = .ok (.ireturn, 1) := by decide +kernel
theorem dX1_pagesRead_0 : decode cX1_pagesRead 0 = .ok (.aload_n 0, 1) := by decide +kernel
theorem dX1_pagesRead_1 : decode cX1_pagesRead 1 = .ok (.getfield 39, 3) := by decide +kernel
theorem dX1_pagesRead_4 : decode cX1_pagesRead 4 = .ok (.ireturn, 1) := by decide +kernel
theorem dX1_pagesWritten_0 : decode cX1_pagesWritten 0 = .ok (.aload_n 0, 1) := by decide +kernel
theorem dX1_pagesWritten_1 : decode cX1_pagesWritten 1 = .ok (.getfield 42, 3) := by decide +kernel
theorem dX1_pagesWritten_4 : decode cX1_pagesWritten 4 = .ok (.ireturn, 1) := by decide +kernel
theorem dX1_handPlace_0 : decode cX1_handPlace 0 = .ok (.aload_n 0, 1) := by decide +kernel
theorem dX1_handPlace_1 : decode cX1_handPlace 1 = .ok (.getfield 45, 3) := by decide +kernel
theorem dX1_handPlace_4 : decode cX1_handPlace 4 = .ok (.ireturn, 1) := by decide +kernel
theorem dX1_frameOf_0 : decode cX1_frameOf 0 = .ok (.iconst 0, 1) := by decide +kernel
theorem dX1_frameOf_1 : decode cX1_frameOf 1 = .ok (.istore_n 2, 1) := by decide +kernel
theorem dX1_frameOf_2 : decode cX1_frameOf 2 = .ok (.iload_n 2, 1) := by decide +kernel
theorem dX1_frameOf_3 : decode cX1_frameOf 3 = .ok (.bipush 12, 2) := by decide +kernel
theorem dX1_frameOf_5 : decode cX1_frameOf 5 = .ok (.if_icmp .ge 26, 3) := by decide +kernel
theorem dX1_frameOf_8 : decode cX1_frameOf 8 = .ok (.iload_n 1, 1) := by decide +kernel
theorem dX1_frameOf_9 : decode cX1_frameOf 9 = .ok (.iconst (-1), 1) := by decide +kernel
theorem dX1_frameOf_10 : decode cX1_frameOf 10 = .ok (.if_icmp .eq 15, 3) := by decide +kernel
theorem dX1_frameOf_13 : decode cX1_frameOf 13 = .ok (.aload_n 0, 1) := by decide +kernel
theorem dX1_frameOf_14 : decode cX1_frameOf 14 = .ok (.getfield 9, 3) := by decide +kernel
theorem dX1_frameOf_17 : decode cX1_frameOf 17 = .ok (.iload_n 2, 1) := by decide +kernel
theorem dX1_frameOf_18 : decode cX1_frameOf 18 = .ok (.iaload, 1) := by decide +kernel
theorem dX1_frameOf_19 : decode cX1_frameOf 19 = .ok (.iload_n 1, 1) := by decide +kernel
theorem dX1_frameOf_20 : decode cX1_frameOf 20 = .ok (.if_icmp .ne 5, 3) := by decide +kernel
theorem dX1_frameOf_23 : decode cX1_frameOf 23 = .ok (.iload_n 2, 1) := by decide +kernel
theorem dX1_frameOf_24 : decode cX1_frameOf 24 = .ok (.ireturn, 1) := by decide +kernel
theorem dX1_frameOf_25 : decode cX1_frameOf 25 = .ok (.iinc 2 1, 3) := by decide +kernel
theorem dX1_frameOf_28 : decode cX1_frameOf 28 = .ok (.goto (-26), 3) := by decide +kernel
theorem dX1_frameOf_31 : decode cX1_frameOf 31 = .ok (.iconst (-1), 1) := by decide +kernel
theorem dX1_frameOf_32 : decode cX1_frameOf 32 = .ok (.ireturn, 1) := by decide +kernel
theorem dX1_touch_0 : decode cX1_touch 0 = .ok (.aload_n 0, 1) := by decide +kernel
theorem dX1_touch_1 : decode cX1_touch 1 = .ok (.iload_n 1, 1) := by decide +kernel
theorem dX1_touch_2 : decode cX1_touch 2 = .ok (.invokevirtual 48, 3) := by decide +kernel
theorem dX1_touch_5 : decode cX1_touch 5 = .ok (.istore_n 3, 1) := by decide +kernel
theorem dX1_touch_6 : decode cX1_touch 6 = .ok (.iload_n 3, 1) := by decide +kernel
theorem dX1_touch_7 : decode cX1_touch 7 = .ok (.iconst (-1), 1) := by decide +kernel
theorem dX1_touch_8 : decode cX1_touch 8 = .ok (.if_icmp .eq 16, 3) := by decide +kernel
theorem dX1_touch_11 : decode cX1_touch 11 = .ok (.aload_n 0, 1) := by decide +kernel
theorem dX1_touch_12 : decode cX1_touch 12 = .ok (.dup, 1) := by decide +kernel
theorem dX1_touch_13 : decode cX1_touch 13 = .ok (.getfield 35, 3) := by decide +kernel
theorem dX1_touch_16 : decode cX1_touch 16 = .ok (.iconst 1, 1) := by decide +kernel
theorem dX1_touch_17 : decode cX1_touch 17 = .ok (.iadd, 1) := by decide +kernel
theorem dX1_touch_18 : decode cX1_touch 18 = .ok (.putfield 35, 3) := by decide +kernel
theorem dX1_touch_21 : decode cX1_touch 21 = .ok (.goto 22, 3) := by decide +kernel
theorem dX1_touch_24 : decode cX1_touch 24 = .ok (.aload_n 0, 1) := by decide +kernel
theorem dX1_touch_25 : decode cX1_touch 25 = .ok (.invokevirtual 52, 3) := by decide +kernel
theorem dX1_touch_28 : decode cX1_touch 28 = .ok (.istore_n 3, 1) := by decide +kernel
theorem dX1_touch_29 : decode cX1_touch 29 = .ok (.iload_n 2, 1) := by decide +kernel
theorem dX1_touch_30 : decode cX1_touch 30 = .ok (.ifCond .ne 13, 3) := by decide +kernel
theorem dX1_touch_33 : decode cX1_touch 33 = .ok (.aload_n 0, 1) := by decide +kernel
theorem dX1_touch_34 : decode cX1_touch 34 = .ok (.dup, 1) := by decide +kernel
theorem dX1_touch_35 : decode cX1_touch 35 = .ok (.getfield 39, 3) := by decide +kernel
theorem dX1_touch_38 : decode cX1_touch 38 = .ok (.iconst 1, 1) := by decide +kernel
theorem dX1_touch_39 : decode cX1_touch 39 = .ok (.iadd, 1) := by decide +kernel
theorem dX1_touch_40 : decode cX1_touch 40 = .ok (.putfield 39, 3) := by decide +kernel
theorem dX1_touch_43 : decode cX1_touch 43 = .ok (.aload_n 0, 1) := by decide +kernel
theorem dX1_touch_44 : decode cX1_touch 44 = .ok (.iload_n 3, 1) := by decide +kernel
theorem dX1_touch_45 : decode cX1_touch 45 = .ok (.invokevirtual 31, 3) := by decide +kernel
theorem dX1_touch_48 : decode cX1_touch 48 = .ok (.ifCond .eq 24, 3) := by decide +kernel
theorem dX1_touch_51 : decode cX1_touch 51 = .ok (.aload_n 0, 1) := by decide +kernel
theorem dX1_touch_52 : decode cX1_touch 52 = .ok (.getfield 9, 3) := by decide +kernel
theorem dX1_touch_55 : decode cX1_touch 55 = .ok (.iload_n 3, 1) := by decide +kernel
theorem dX1_touch_56 : decode cX1_touch 56 = .ok (.iload_n 1, 1) := by decide +kernel
theorem dX1_touch_57 : decode cX1_touch 57 = .ok (.iastore, 1) := by decide +kernel
theorem dX1_touch_58 : decode cX1_touch 58 = .ok (.aload_n 0, 1) := by decide +kernel
theorem dX1_touch_59 : decode cX1_touch 59 = .ok (.getfield 15, 3) := by decide +kernel
theorem dX1_touch_62 : decode cX1_touch 62 = .ok (.iload_n 3, 1) := by decide +kernel
theorem dX1_touch_63 : decode cX1_touch 63 = .ok (.iconst 1, 1) := by decide +kernel
theorem dX1_touch_64 : decode cX1_touch 64 = .ok (.bastore, 1) := by decide +kernel
theorem dX1_touch_65 : decode cX1_touch 65 = .ok (.aload_n 0, 1) := by decide +kernel
theorem dX1_touch_66 : decode cX1_touch 66 = .ok (.getfield 22, 3) := by decide +kernel
theorem dX1_touch_69 : decode cX1_touch 69 = .ok (.iload_n 3, 1) := by decide +kernel
theorem dX1_touch_70 : decode cX1_touch 70 = .ok (.iconst 1, 1) := by decide +kernel
theorem dX1_touch_71 : decode cX1_touch 71 = .ok (.bastore, 1) := by decide +kernel
theorem dX1_touch_72 : decode cX1_touch 72 = .ok (.return_, 1) := by decide +kernel
theorem dX1_vacateFrame_0 : decode cX1_vacateFrame 0 = .ok (.aload_n 0, 1) := by decide +kernel
theorem dX1_vacateFrame_1 : decode cX1_vacateFrame 1 = .ok (.getfield 45, 3) := by decide +kernel
theorem dX1_vacateFrame_4 : decode cX1_vacateFrame 4 = .ok (.istore_n 1, 1) := by decide +kernel
theorem dX1_vacateFrame_5 : decode cX1_vacateFrame 5 = .ok (.iconst 0, 1) := by decide +kernel
theorem dX1_vacateFrame_6 : decode cX1_vacateFrame 6 = .ok (.istore_n 2, 1) := by decide +kernel
theorem dX1_vacateFrame_7 : decode cX1_vacateFrame 7 = .ok (.iload_n 2, 1) := by decide +kernel
theorem dX1_vacateFrame_8 : decode cX1_vacateFrame 8 = .ok (.bipush 24, 2) := by decide +kernel
theorem dX1_vacateFrame_10 : decode cX1_vacateFrame 10 = .ok (.if_icmp .ge 45, 3) := by decide +kernel
theorem dX1_vacateFrame_13 : decode cX1_vacateFrame 13 = .ok (.iload_n 1, 1) := by decide +kernel
theorem dX1_vacateFrame_14 : decode cX1_vacateFrame 14 = .ok (.iload_n 2, 1) := by decide +kernel
theorem dX1_vacateFrame_15 : decode cX1_vacateFrame 15 = .ok (.iadd, 1) := by decide +kernel
theorem dX1_vacateFrame_16 : decode cX1_vacateFrame 16 = .ok (.bipush 12, 2) := by decide +kernel
theorem dX1_vacateFrame_18 : decode cX1_vacateFrame 18 = .ok (.invokestatic 56, 3) := by decide +kernel
theorem dX1_vacateFrame_21 : decode cX1_vacateFrame 21 = .ok (.istore_n 3, 1) := by decide +kernel
theorem dX1_vacateFrame_22 : decode cX1_vacateFrame 22 = .ok (.aload_n 0, 1) := by decide +kernel
theorem dX1_vacateFrame_23 : decode cX1_vacateFrame 23 = .ok (.iload_n 3, 1) := by decide +kernel
theorem dX1_vacateFrame_24 : decode cX1_vacateFrame 24 = .ok (.invokevirtual 62, 3) := by decide +kernel
theorem dX1_vacateFrame_27 : decode cX1_vacateFrame 27 = .ok (.ifCond .eq 22, 3) := by decide +kernel
theorem dX1_vacateFrame_30 : decode cX1_vacateFrame 30 = .ok (.aload_n 0, 1) := by decide +kernel
theorem dX1_vacateFrame_31 : decode cX1_vacateFrame 31 = .ok (.iload_n 3, 1) := by decide +kernel
theorem dX1_vacateFrame_32 : decode cX1_vacateFrame 32 = .ok (.iconst 1, 1) := by decide +kernel
theorem dX1_vacateFrame_33 : decode cX1_vacateFrame 33 = .ok (.iadd, 1) := by decide +kernel
theorem dX1_vacateFrame_34 : decode cX1_vacateFrame 34 = .ok (.bipush 12, 2) := by decide +kernel
theorem dX1_vacateFrame_36 : decode cX1_vacateFrame 36 = .ok (.invokestatic 56, 3) := by decide +kernel
theorem dX1_vacateFrame_39 : decode cX1_vacateFrame 39 = .ok (.putfield 45, 3) := by decide +kernel
theorem dX1_vacateFrame_42 : decode cX1_vacateFrame 42 = .ok (.aload_n 0, 1) := by decide +kernel
theorem dX1_vacateFrame_43 : decode cX1_vacateFrame 43 = .ok (.iload_n 3, 1) := by decide +kernel
theorem dX1_vacateFrame_44 : decode cX1_vacateFrame 44 = .ok (.invokevirtual 65, 3) := by decide +kernel
theorem dX1_vacateFrame_47 : decode cX1_vacateFrame 47 = .ok (.iload_n 3, 1) := by decide +kernel
theorem dX1_vacateFrame_48 : decode cX1_vacateFrame 48 = .ok (.ireturn, 1) := by decide +kernel
theorem dX1_vacateFrame_49 : decode cX1_vacateFrame 49 = .ok (.iinc 2 1, 3) := by decide +kernel
theorem dX1_vacateFrame_52 : decode cX1_vacateFrame 52 = .ok (.goto (-45), 3) := by decide +kernel
theorem dX1_vacateFrame_55 : decode cX1_vacateFrame 55 = .ok (.iconst (-1), 1) := by decide +kernel
theorem dX1_vacateFrame_56 : decode cX1_vacateFrame 56 = .ok (.ireturn, 1) := by decide +kernel
theorem dX1_givesWay_0 : decode cX1_givesWay 0 = .ok (.iload_n 1, 1) := by decide +kernel
theorem dX1_givesWay_1 : decode cX1_givesWay 1 = .ok (.ifCond .lt 9, 3) := by decide +kernel
theorem dX1_givesWay_4 : decode cX1_givesWay 4 = .ok (.iload_n 1, 1) := by decide +kernel
theorem dX1_givesWay_5 : decode cX1_givesWay 5 = .ok (.bipush 12, 2) := by decide +kernel
theorem dX1_givesWay_7 : decode cX1_givesWay 7 = .ok (.if_icmp .lt 5, 3) := by decide +kernel
theorem dX1_givesWay_10 : decode cX1_givesWay 10 = .ok (.iconst 0, 1) := by decide +kernel
theorem dX1_givesWay_11 : decode cX1_givesWay 11 = .ok (.ireturn, 1) := by decide +kernel
theorem dX1_givesWay_12 : decode cX1_givesWay 12 = .ok (.aload_n 0, 1) := by decide +kernel
theorem dX1_givesWay_13 : decode cX1_givesWay 13 = .ok (.getfield 9, 3) := by decide +kernel
theorem dX1_givesWay_16 : decode cX1_givesWay 16 = .ok (.iload_n 1, 1) := by decide +kernel
theorem dX1_givesWay_17 : decode cX1_givesWay 17 = .ok (.iaload, 1) := by decide +kernel
theorem dX1_givesWay_18 : decode cX1_givesWay 18 = .ok (.iconst (-1), 1) := by decide +kernel
theorem dX1_givesWay_19 : decode cX1_givesWay 19 = .ok (.if_icmp .ne 5, 3) := by decide +kernel
theorem dX1_givesWay_22 : decode cX1_givesWay 22 = .ok (.iconst 1, 1) := by decide +kernel
theorem dX1_givesWay_23 : decode cX1_givesWay 23 = .ok (.ireturn, 1) := by decide +kernel
theorem dX1_givesWay_24 : decode cX1_givesWay 24 = .ok (.aload_n 0, 1) := by decide +kernel
theorem dX1_givesWay_25 : decode cX1_givesWay 25 = .ok (.getfield 22, 3) := by decide +kernel
theorem dX1_givesWay_28 : decode cX1_givesWay 28 = .ok (.iload_n 1, 1) := by decide +kernel
theorem dX1_givesWay_29 : decode cX1_givesWay 29 = .ok (.baload, 1) := by decide +kernel
theorem dX1_givesWay_30 : decode cX1_givesWay 30 = .ok (.ifCond .eq 5, 3) := by decide +kernel
theorem dX1_givesWay_33 : decode cX1_givesWay 33 = .ok (.iconst 0, 1) := by decide +kernel
theorem dX1_givesWay_34 : decode cX1_givesWay 34 = .ok (.ireturn, 1) := by decide +kernel
theorem dX1_givesWay_35 : decode cX1_givesWay 35 = .ok (.aload_n 0, 1) := by decide +kernel
theorem dX1_givesWay_36 : decode cX1_givesWay 36 = .ok (.getfield 15, 3) := by decide +kernel
theorem dX1_givesWay_39 : decode cX1_givesWay 39 = .ok (.iload_n 1, 1) := by decide +kernel
theorem dX1_givesWay_40 : decode cX1_givesWay 40 = .ok (.baload, 1) := by decide +kernel
theorem dX1_givesWay_41 : decode cX1_givesWay 41 = .ok (.ifCond .eq 12, 3) := by decide +kernel
theorem dX1_givesWay_44 : decode cX1_givesWay 44 = .ok (.aload_n 0, 1) := by decide +kernel
theorem dX1_givesWay_45 : decode cX1_givesWay 45 = .ok (.getfield 15, 3) := by decide +kernel
theorem dX1_givesWay_48 : decode cX1_givesWay 48 = .ok (.iload_n 1, 1) := by decide +kernel
theorem dX1_givesWay_49 : decode cX1_givesWay 49 = .ok (.iconst 0, 1) := by decide +kernel
theorem dX1_givesWay_50 : decode cX1_givesWay 50 = .ok (.bastore, 1) := by decide +kernel
theorem dX1_givesWay_51 : decode cX1_givesWay 51 = .ok (.iconst 0, 1) := by decide +kernel
theorem dX1_givesWay_52 : decode cX1_givesWay 52 = .ok (.ireturn, 1) := by decide +kernel
theorem dX1_givesWay_53 : decode cX1_givesWay 53 = .ok (.aload_n 0, 1) := by decide +kernel
theorem dX1_givesWay_54 : decode cX1_givesWay 54 = .ok (.getfield 19, 3) := by decide +kernel
theorem dX1_givesWay_57 : decode cX1_givesWay 57 = .ok (.iload_n 1, 1) := by decide +kernel
theorem dX1_givesWay_58 : decode cX1_givesWay 58 = .ok (.baload, 1) := by decide +kernel
theorem dX1_givesWay_59 : decode cX1_givesWay 59 = .ok (.ifCond .eq 13, 3) := by decide +kernel
theorem dX1_givesWay_62 : decode cX1_givesWay 62 = .ok (.aload_n 0, 1) := by decide +kernel
theorem dX1_givesWay_63 : decode cX1_givesWay 63 = .ok (.dup, 1) := by decide +kernel
theorem dX1_givesWay_64 : decode cX1_givesWay 64 = .ok (.getfield 42, 3) := by decide +kernel
theorem dX1_givesWay_67 : decode cX1_givesWay 67 = .ok (.iconst 1, 1) := by decide +kernel
theorem dX1_givesWay_68 : decode cX1_givesWay 68 = .ok (.iadd, 1) := by decide +kernel
theorem dX1_givesWay_69 : decode cX1_givesWay 69 = .ok (.putfield 42, 3) := by decide +kernel
theorem dX1_givesWay_72 : decode cX1_givesWay 72 = .ok (.iconst 1, 1) := by decide +kernel
theorem dX1_givesWay_73 : decode cX1_givesWay 73 = .ok (.ireturn, 1) := by decide +kernel
theorem dX1_clear_0 : decode cX1_clear 0 = .ok (.iload_n 1, 1) := by decide +kernel
theorem dX1_clear_1 : decode cX1_clear 1 = .ok (.ifCond .lt 37, 3) := by decide +kernel
theorem dX1_clear_4 : decode cX1_clear 4 = .ok (.iload_n 1, 1) := by decide +kernel
theorem dX1_clear_5 : decode cX1_clear 5 = .ok (.bipush 12, 2) := by decide +kernel
theorem dX1_clear_7 : decode cX1_clear 7 = .ok (.if_icmp .ge 31, 3) := by decide +kernel
theorem dX1_clear_10 : decode cX1_clear 10 = .ok (.aload_n 0, 1) := by decide +kernel
theorem dX1_clear_11 : decode cX1_clear 11 = .ok (.getfield 9, 3) := by decide +kernel
theorem dX1_clear_14 : decode cX1_clear 14 = .ok (.iload_n 1, 1) := by decide +kernel
theorem dX1_clear_15 : decode cX1_clear 15 = .ok (.iconst (-1), 1) := by decide +kernel
theorem dX1_clear_16 : decode cX1_clear 16 = .ok (.iastore, 1) := by decide +kernel
theorem dX1_clear_17 : decode cX1_clear 17 = .ok (.aload_n 0, 1) := by decide +kernel
theorem dX1_clear_18 : decode cX1_clear 18 = .ok (.getfield 15, 3) := by decide +kernel
theorem dX1_clear_21 : decode cX1_clear 21 = .ok (.iload_n 1, 1) := by decide +kernel
theorem dX1_clear_22 : decode cX1_clear 22 = .ok (.iconst 0, 1) := by decide +kernel
theorem dX1_clear_23 : decode cX1_clear 23 = .ok (.bastore, 1) := by decide +kernel
theorem dX1_clear_24 : decode cX1_clear 24 = .ok (.aload_n 0, 1) := by decide +kernel
theorem dX1_clear_25 : decode cX1_clear 25 = .ok (.getfield 19, 3) := by decide +kernel
theorem dX1_clear_28 : decode cX1_clear 28 = .ok (.iload_n 1, 1) := by decide +kernel
theorem dX1_clear_29 : decode cX1_clear 29 = .ok (.iconst 0, 1) := by decide +kernel
theorem dX1_clear_30 : decode cX1_clear 30 = .ok (.bastore, 1) := by decide +kernel
theorem dX1_clear_31 : decode cX1_clear 31 = .ok (.aload_n 0, 1) := by decide +kernel
theorem dX1_clear_32 : decode cX1_clear 32 = .ok (.getfield 22, 3) := by decide +kernel
theorem dX1_clear_35 : decode cX1_clear 35 = .ok (.iload_n 1, 1) := by decide +kernel
theorem dX1_clear_36 : decode cX1_clear 36 = .ok (.iconst 0, 1) := by decide +kernel
theorem dX1_clear_37 : decode cX1_clear 37 = .ok (.bastore, 1) := by decide +kernel
theorem dX1_clear_38 : decode cX1_clear 38 = .ok (.return_, 1) := by decide +kernel
theorem dX1_soil_0 : decode cX1_soil 0 = .ok (.aload_n 0, 1) := by decide +kernel
theorem dX1_soil_1 : decode cX1_soil 1 = .ok (.iload_n 1, 1) := by decide +kernel
theorem dX1_soil_2 : decode cX1_soil 2 = .ok (.invokevirtual 48, 3) := by decide +kernel
theorem dX1_soil_5 : decode cX1_soil 5 = .ok (.istore_n 2, 1) := by decide +kernel
theorem dX1_soil_6 : decode cX1_soil 6 = .ok (.aload_n 0, 1) := by decide +kernel
theorem dX1_soil_7 : decode cX1_soil 7 = .ok (.iload_n 2, 1) := by decide +kernel
theorem dX1_soil_8 : decode cX1_soil 8 = .ok (.invokevirtual 31, 3) := by decide +kernel
theorem dX1_soil_11 : decode cX1_soil 11 = .ok (.ifCond .eq 10, 3) := by decide +kernel
theorem dX1_soil_14 : decode cX1_soil 14 = .ok (.aload_n 0, 1) := by decide +kernel
theorem dX1_soil_15 : decode cX1_soil 15 = .ok (.getfield 19, 3) := by decide +kernel
theorem dX1_soil_18 : decode cX1_soil 18 = .ok (.iload_n 2, 1) := by decide +kernel
theorem dX1_soil_19 : decode cX1_soil 19 = .ok (.iconst 1, 1) := by decide +kernel
theorem dX1_soil_20 : decode cX1_soil 20 = .ok (.bastore, 1) := by decide +kernel
theorem dX1_soil_21 : decode cX1_soil 21 = .ok (.return_, 1) := by decide +kernel
theorem dX1_clearPage_0 : decode cX1_clearPage 0 = .ok (.aload_n 0, 1) := by decide +kernel
theorem dX1_clearPage_1 : decode cX1_clearPage 1 = .ok (.aload_n 0, 1) := by decide +kernel
theorem dX1_clearPage_2 : decode cX1_clearPage 2 = .ok (.iload_n 1, 1) := by decide +kernel
theorem dX1_clearPage_3 : decode cX1_clearPage 3 = .ok (.invokevirtual 48, 3) := by decide +kernel
theorem dX1_clearPage_6 : decode cX1_clearPage 6 = .ok (.invokevirtual 65, 3) := by decide +kernel
theorem dX1_clearPage_9 : decode cX1_clearPage 9 = .ok (.return_, 1) := by decide +kernel
theorem dX1_unpinAll_0 : decode cX1_unpinAll 0 = .ok (.iconst 0, 1) := by decide +kernel
theorem dX1_unpinAll_1 : decode cX1_unpinAll 1 = .ok (.istore_n 1, 1) := by decide +kernel
theorem dX1_unpinAll_2 : decode cX1_unpinAll 2 = .ok (.iload_n 1, 1) := by decide +kernel
theorem dX1_unpinAll_3 : decode cX1_unpinAll 3 = .ok (.bipush 12, 2) := by decide +kernel
theorem dX1_unpinAll_5 : decode cX1_unpinAll 5 = .ok (.if_icmp .ge 16, 3) := by decide +kernel
theorem dX1_unpinAll_8 : decode cX1_unpinAll 8 = .ok (.aload_n 0, 1) := by decide +kernel
theorem dX1_unpinAll_9 : decode cX1_unpinAll 9 = .ok (.getfield 22, 3) := by decide +kernel
theorem dX1_unpinAll_12 : decode cX1_unpinAll 12 = .ok (.iload_n 1, 1) := by decide +kernel
theorem dX1_unpinAll_13 : decode cX1_unpinAll 13 = .ok (.iconst 0, 1) := by decide +kernel
theorem dX1_unpinAll_14 : decode cX1_unpinAll 14 = .ok (.bastore, 1) := by decide +kernel
theorem dX1_unpinAll_15 : decode cX1_unpinAll 15 = .ok (.iinc 1 1, 3) := by decide +kernel
theorem dX1_unpinAll_18 : decode cX1_unpinAll 18 = .ok (.goto (-16), 3) := by decide +kernel
theorem dX1_unpinAll_21 : decode cX1_unpinAll 21 = .ok (.return_, 1) := by decide +kernel
theorem dX1_countDirty_0 : decode cX1_countDirty 0 = .ok (.iconst 0, 1) := by decide +kernel
theorem dX1_countDirty_1 : decode cX1_countDirty 1 = .ok (.istore_n 1, 1) := by decide +kernel
theorem dX1_countDirty_2 : decode cX1_countDirty 2 = .ok (.iconst 0, 1) := by decide +kernel
theorem dX1_countDirty_3 : decode cX1_countDirty 3 = .ok (.istore_n 2, 1) := by decide +kernel
theorem dX1_countDirty_4 : decode cX1_countDirty 4 = .ok (.iload_n 2, 1) := by decide +kernel
theorem dX1_countDirty_5 : decode cX1_countDirty 5 = .ok (.bipush 12, 2) := by decide +kernel
theorem dX1_countDirty_7 : decode cX1_countDirty 7 = .ok (.if_icmp .ge 21, 3) := by decide +kernel
theorem dX1_countDirty_10 : decode cX1_countDirty 10 = .ok (.aload_n 0, 1) := by decide +kernel
theorem dX1_countDirty_11 : decode cX1_countDirty 11 = .ok (.getfield 19, 3) := by decide +kernel
theorem dX1_countDirty_14 : decode cX1_countDirty 14 = .ok (.iload_n 2, 1) := by decide +kernel
theorem dX1_countDirty_15 : decode cX1_countDirty 15 = .ok (.baload, 1) := by decide +kernel
theorem dX1_countDirty_16 : decode cX1_countDirty 16 = .ok (.ifCond .eq 6, 3) := by decide +kernel
theorem dX1_countDirty_19 : decode cX1_countDirty 19 = .ok (.iinc 1 1, 3) := by decide +kernel
theorem dX1_countDirty_22 : decode cX1_countDirty 22 = .ok (.iinc 2 1, 3) := by decide +kernel
theorem dX1_countDirty_25 : decode cX1_countDirty 25 = .ok (.goto (-21), 3) := by decide +kernel
theorem dX1_countDirty_28 : decode cX1_countDirty 28 = .ok (.iload_n 1, 1) := by decide +kernel
theorem dX1_countDirty_29 : decode cX1_countDirty 29 = .ok (.ireturn, 1) := by decide +kernel
theorem dX1_writeDirty_0 : decode cX1_writeDirty 0 = .ok (.aload_n 0, 1) := by decide +kernel
theorem dX1_writeDirty_1 : decode cX1_writeDirty 1 = .ok (.invokevirtual 69, 3) := by decide +kernel
theorem dX1_writeDirty_4 : decode cX1_writeDirty 4 = .ok (.istore_n 1, 1) := by decide +kernel
theorem dX1_writeDirty_5 : decode cX1_writeDirty 5 = .ok (.iconst 0, 1) := by decide +kernel
theorem dX1_writeDirty_6 : decode cX1_writeDirty 6 = .ok (.istore_n 2, 1) := by decide +kernel
theorem dX1_writeDirty_7 : decode cX1_writeDirty 7 = .ok (.iload_n 2, 1) := by decide +kernel
theorem dX1_writeDirty_8 : decode cX1_writeDirty 8 = .ok (.bipush 12, 2) := by decide +kernel
theorem dX1_writeDirty_10 : decode cX1_writeDirty 10 = .ok (.if_icmp .ge 16, 3) := by decide +kernel
theorem dX1_writeDirty_13 : decode cX1_writeDirty 13 = .ok (.aload_n 0, 1) := by decide +kernel
theorem dX1_writeDirty_14 : decode cX1_writeDirty 14 = .ok (.getfield 19, 3) := by decide +kernel
theorem dX1_writeDirty_17 : decode cX1_writeDirty 17 = .ok (.iload_n 2, 1) := by decide +kernel
theorem dX1_writeDirty_18 : decode cX1_writeDirty 18 = .ok (.iconst 0, 1) := by decide +kernel
theorem dX1_writeDirty_19 : decode cX1_writeDirty 19 = .ok (.bastore, 1) := by decide +kernel
theorem dX1_writeDirty_20 : decode cX1_writeDirty 20 = .ok (.iinc 2 1, 3) := by decide +kernel
theorem dX1_writeDirty_23 : decode cX1_writeDirty 23 = .ok (.goto (-16), 3) := by decide +kernel
theorem dX1_writeDirty_26 : decode cX1_writeDirty 26 = .ok (.aload_n 0, 1) := by decide +kernel
theorem dX1_writeDirty_27 : decode cX1_writeDirty 27 = .ok (.dup, 1) := by decide +kernel
theorem dX1_writeDirty_28 : decode cX1_writeDirty 28 = .ok (.getfield 42, 3) := by decide +kernel
theorem dX1_writeDirty_31 : decode cX1_writeDirty 31 = .ok (.iload_n 1, 1) := by decide +kernel
theorem dX1_writeDirty_32 : decode cX1_writeDirty 32 = .ok (.iadd, 1) := by decide +kernel
theorem dX1_writeDirty_33 : decode cX1_writeDirty 33 = .ok (.putfield 42, 3) := by decide +kernel
theorem dX1_writeDirty_36 : decode cX1_writeDirty 36 = .ok (.iload_n 1, 1) := by decide +kernel
theorem dX1_writeDirty_37 : decode cX1_writeDirty 37 = .ok (.ireturn, 1) := by decide +kernel
theorem dX1_emptyAll_0 : decode cX1_emptyAll 0 = .ok (.iconst 0, 1) := by decide +kernel
theorem dX1_emptyAll_1 : decode cX1_emptyAll 1 = .ok (.istore_n 1, 1) := by decide +kernel
theorem dX1_emptyAll_2 : decode cX1_emptyAll 2 = .ok (.iconst 0, 1) := by decide +kernel
theorem dX1_emptyAll_3 : decode cX1_emptyAll 3 = .ok (.istore_n 2, 1) := by decide +kernel
theorem dX1_emptyAll_4 : decode cX1_emptyAll 4 = .ok (.iload_n 2, 1) := by decide +kernel
theorem dX1_emptyAll_5 : decode cX1_emptyAll 5 = .ok (.bipush 12, 2) := by decide +kernel
theorem dX1_emptyAll_7 : decode cX1_emptyAll 7 = .ok (.if_icmp .ge 27, 3) := by decide +kernel
theorem dX1_emptyAll_10 : decode cX1_emptyAll 10 = .ok (.aload_n 0, 1) := by decide +kernel
theorem dX1_emptyAll_11 : decode cX1_emptyAll 11 = .ok (.getfield 9, 3) := by decide +kernel
theorem dX1_emptyAll_14 : decode cX1_emptyAll 14 = .ok (.iload_n 2, 1) := by decide +kernel
theorem dX1_emptyAll_15 : decode cX1_emptyAll 15 = .ok (.iaload, 1) := by decide +kernel
theorem dX1_emptyAll_16 : decode cX1_emptyAll 16 = .ok (.iconst (-1), 1) := by decide +kernel
theorem dX1_emptyAll_17 : decode cX1_emptyAll 17 = .ok (.if_icmp .eq 6, 3) := by decide +kernel
theorem dX1_emptyAll_20 : decode cX1_emptyAll 20 = .ok (.iinc 1 1, 3) := by decide +kernel
theorem dX1_emptyAll_23 : decode cX1_emptyAll 23 = .ok (.aload_n 0, 1) := by decide +kernel
theorem dX1_emptyAll_24 : decode cX1_emptyAll 24 = .ok (.iload_n 2, 1) := by decide +kernel
theorem dX1_emptyAll_25 : decode cX1_emptyAll 25 = .ok (.invokevirtual 65, 3) := by decide +kernel
theorem dX1_emptyAll_28 : decode cX1_emptyAll 28 = .ok (.iinc 2 1, 3) := by decide +kernel
theorem dX1_emptyAll_31 : decode cX1_emptyAll 31 = .ok (.goto (-27), 3) := by decide +kernel
theorem dX1_emptyAll_34 : decode cX1_emptyAll 34 = .ok (.aload_n 0, 1) := by decide +kernel
theorem dX1_emptyAll_35 : decode cX1_emptyAll 35 = .ok (.iconst 0, 1) := by decide +kernel
theorem dX1_emptyAll_36 : decode cX1_emptyAll 36 = .ok (.putfield 45, 3) := by decide +kernel
theorem dX1_emptyAll_39 : decode cX1_emptyAll 39 = .ok (.iload_n 1, 1) := by decide +kernel
theorem dX1_emptyAll_40 : decode cX1_emptyAll 40 = .ok (.ireturn, 1) := by decide +kernel
theorem dX1_countHolding_0 : decode cX1_countHolding 0 = .ok (.iconst 0, 1) := by decide +kernel
theorem dX1_countHolding_1 : decode cX1_countHolding 1 = .ok (.istore_n 2, 1) := by decide +kernel
theorem dX1_countHolding_2 : decode cX1_countHolding 2 = .ok (.iconst 0, 1) := by decide +kernel
theorem dX1_countHolding_3 : decode cX1_countHolding 3 = .ok (.istore_n 3, 1) := by decide +kernel
theorem dX1_countHolding_4 : decode cX1_countHolding 4 = .ok (.iload_n 3, 1) := by decide +kernel
theorem dX1_countHolding_5 : decode cX1_countHolding 5 = .ok (.bipush 12, 2) := by decide +kernel
theorem dX1_countHolding_7 : decode cX1_countHolding 7 = .ok (.if_icmp .ge 22, 3) := by decide +kernel
theorem dX1_countHolding_10 : decode cX1_countHolding 10 = .ok (.aload_n 0, 1) := by decide +kernel
theorem dX1_countHolding_11 : decode cX1_countHolding 11 = .ok (.getfield 9, 3) := by decide +kernel
theorem dX1_countHolding_14 : decode cX1_countHolding 14 = .ok (.iload_n 3, 1) := by decide +kernel
theorem dX1_countHolding_15 : decode cX1_countHolding 15 = .ok (.iaload, 1) := by decide +kernel
theorem dX1_countHolding_16 : decode cX1_countHolding 16 = .ok (.iload_n 1, 1) := by decide +kernel
theorem dX1_countHolding_17 : decode cX1_countHolding 17 = .ok (.if_icmp .ne 6, 3) := by decide +kernel
theorem dX1_countHolding_20 : decode cX1_countHolding 20 = .ok (.iinc 2 1, 3) := by decide +kernel
theorem dX1_countHolding_23 : decode cX1_countHolding 23 = .ok (.iinc 3 1, 3) := by decide +kernel
theorem dX1_countHolding_26 : decode cX1_countHolding 26 = .ok (.goto (-22), 3) := by decide +kernel
theorem dX1_countHolding_29 : decode cX1_countHolding 29 = .ok (.iload_n 2, 1) := by decide +kernel
theorem dX1_countHolding_30 : decode cX1_countHolding 30 = .ok (.ireturn, 1) := by decide +kernel
theorem dX2_init_0 : decode cX2_init 0 = .ok (.aload_n 0, 1) := by decide +kernel
theorem dX2_init_1 : decode cX2_init 1 = .ok (.invokespecial 3, 3) := by decide +kernel
theorem dX2_init_4 : decode cX2_init 4 = .ok (.aload_n 0, 1) := by decide +kernel
theorem dX2_init_5 : decode cX2_init 5 = .ok (.bipush 40, 2) := by decide +kernel
theorem dX2_init_7 : decode cX2_init 7 = .ok (.newarray .int, 2) := by decide +kernel
theorem dX2_init_9 : decode cX2_init 9 = .ok (.putfield 9, 3) := by decide +kernel
theorem dX2_init_12 : decode cX2_init 12 = .ok (.aload_n 0, 1) := by decide +kernel
theorem dX2_init_13 : decode cX2_init 13 = .ok (.bipush 40, 2) := by decide +kernel
theorem dX2_init_15 : decode cX2_init 15 = .ok (.newarray .int, 2) := by decide +kernel
theorem dX2_init_17 : decode cX2_init 17 = .ok (.putfield 15, 3) := by decide +kernel
theorem dX2_init_20 : decode cX2_init 20 = .ok (.aload_n 0, 1) := by decide +kernel
theorem dX2_init_21 : decode cX2_init 21 = .ok (.bipush 40, 2) := by decide +kernel
theorem dX2_init_23 : decode cX2_init 23 = .ok (.newarray .int, 2) := by decide +kernel
theorem dX2_init_25 : decode cX2_init 25 = .ok (.putfield 18, 3) := by decide +kernel
theorem dX2_init_28 : decode cX2_init 28 = .ok (.aload_n 0, 1) := by decide +kernel
theorem dX2_init_29 : decode cX2_init 29 = .ok (.bipush 40, 2) := by decide +kernel
theorem dX2_init_31 : decode cX2_init 31 = .ok (.newarray .long, 2) := by decide +kernel
theorem dX2_init_33 : decode cX2_init 33 = .ok (.putfield 21, 3) := by decide +kernel
theorem dX2_init_36 : decode cX2_init 36 = .ok (.aload_n 0, 1) := by decide +kernel
theorem dX2_init_37 : decode cX2_init 37 = .ok (.bipush 40, 2) := by decide +kernel
theorem dX2_init_39 : decode cX2_init 39 = .ok (.newarray .long, 2) := by decide +kernel
theorem dX2_init_41 : decode cX2_init 41 = .ok (.putfield 25, 3) := by decide +kernel
theorem dX2_init_44 : decode cX2_init 44 = .ok (.return_, 1) := by decide +kernel
theorem dX2_countAstray_0 : decode cX2_countAstray 0 = .ok (.aload_n 0, 1) := by decide +kernel
theorem dX2_countAstray_1 : decode cX2_countAstray 1 = .ok (.getfield 15, 3) := by decide +kernel
theorem dX2_countAstray_4 : decode cX2_countAstray 4 = .ok (.iconst 0, 1) := by decide +kernel
theorem dX2_countAstray_5 : decode cX2_countAstray 5 = .ok (.invokestatic 28, 3) := by decide +kernel
theorem dX2_countAstray_8 : decode cX2_countAstray 8 = .ok (.aload_n 0, 1) := by decide +kernel
theorem dX2_countAstray_9 : decode cX2_countAstray 9 = .ok (.iconst 0, 1) := by decide +kernel
theorem dX2_countAstray_10 : decode cX2_countAstray 10 = .ok (.putfield 34, 3) := by decide +kernel
theorem dX2_countAstray_13 : decode cX2_countAstray 13 = .ok (.aload_n 0, 1) := by decide +kernel
theorem dX2_countAstray_14 : decode cX2_countAstray 14 = .ok (.iload_n 3, 1) := by decide +kernel
theorem dX2_countAstray_15 : decode cX2_countAstray 15 = .ok (.iconst 1, 1) := by decide +kernel
theorem dX2_countAstray_16 : decode cX2_countAstray 16 = .ok (.ldc2_w 38, 3) := by decide +kernel
theorem dX2_countAstray_19 : decode cX2_countAstray 19 = .ok (.ldc2_w 40, 3) := by decide +kernel
theorem dX2_countAstray_22 : decode cX2_countAstray 22 = .ok (.invokevirtual 42, 3) := by decide +kernel
theorem dX2_countAstray_25 : decode cX2_countAstray 25 = .ok (.iconst 0, 1) := by decide +kernel
theorem dX2_countAstray_26 : decode cX2_countAstray 26 = .ok (.istore 4, 2) := by decide +kernel
theorem dX2_countAstray_28 : decode cX2_countAstray 28 = .ok (.iload 4, 2) := by decide +kernel
theorem dX2_countAstray_30 : decode cX2_countAstray 30 = .ok (.bipush 40, 2) := by decide +kernel
theorem dX2_countAstray_32 : decode cX2_countAstray 32 = .ok (.if_icmp .ge 30, 3) := by decide +kernel
theorem dX2_countAstray_35 : decode cX2_countAstray 35 = .ok (.iload 4, 2) := by decide +kernel
theorem dX2_countAstray_37 : decode cX2_countAstray 37 = .ok (.aload_n 0, 1) := by decide +kernel
theorem dX2_countAstray_38 : decode cX2_countAstray 38 = .ok (.getfield 34, 3) := by decide +kernel
theorem dX2_countAstray_41 : decode cX2_countAstray 41 = .ok (.if_icmp .ge 21, 3) := by decide +kernel
theorem dX2_countAstray_44 : decode cX2_countAstray 44 = .ok (.aload_n 0, 1) := by decide +kernel
theorem dX2_countAstray_45 : decode cX2_countAstray 45 = .ok (.aload_n 1, 1) := by decide +kernel
theorem dX2_countAstray_46 : decode cX2_countAstray 46 = .ok (.aload_n 0, 1) := by decide +kernel
theorem dX2_countAstray_47 : decode cX2_countAstray 47 = .ok (.getfield 9, 3) := by decide +kernel
theorem dX2_countAstray_50 : decode cX2_countAstray 50 = .ok (.iload 4, 2) := by decide +kernel
theorem dX2_countAstray_52 : decode cX2_countAstray 52 = .ok (.iaload, 1) := by decide +kernel
theorem dX2_countAstray_53 : decode cX2_countAstray 53 = .ok (.invokevirtual 46, 3) := by decide +kernel
theorem dX2_countAstray_56 : decode cX2_countAstray 56 = .ok (.iinc 4 1, 3) := by decide +kernel
theorem dX2_countAstray_59 : decode cX2_countAstray 59 = .ok (.goto (-31), 3) := by decide +kernel
theorem dX2_countAstray_62 : decode cX2_countAstray 62 = .ok (.iconst 0, 1) := by decide +kernel
theorem dX2_countAstray_63 : decode cX2_countAstray 63 = .ok (.istore 4, 2) := by decide +kernel
theorem dX2_countAstray_65 : decode cX2_countAstray 65 = .ok (.iconst 0, 1) := by decide +kernel
theorem dX2_countAstray_66 : decode cX2_countAstray 66 = .ok (.istore 5, 2) := by decide +kernel
theorem dX2_countAstray_68 : decode cX2_countAstray 68 = .ok (.iload 5, 2) := by decide +kernel
theorem dX2_countAstray_70 : decode cX2_countAstray 70 = .ok (.bipush 40, 2) := by decide +kernel
theorem dX2_countAstray_72 : decode cX2_countAstray 72 = .ok (.if_icmp .ge 24, 3) := by decide +kernel
theorem dX2_countAstray_75 : decode cX2_countAstray 75 = .ok (.aload_n 0, 1) := by decide +kernel
theorem dX2_countAstray_76 : decode cX2_countAstray 76 = .ok (.aload_n 1, 1) := by decide +kernel
theorem dX2_countAstray_77 : decode cX2_countAstray 77 = .ok (.aload_n 2, 1) := by decide +kernel
theorem dX2_countAstray_78 : decode cX2_countAstray 78 = .ok (.iload_n 3, 1) := by decide +kernel
theorem dX2_countAstray_79 : decode cX2_countAstray 79 = .ok (.iload 5, 2) := by decide +kernel
theorem dX2_countAstray_81 : decode cX2_countAstray 81 = .ok (.invokevirtual 50, 3) := by decide +kernel
theorem dX2_countAstray_84 : decode cX2_countAstray 84 = .ok (.ifCond .eq 6, 3) := by decide +kernel
theorem dX2_countAstray_87 : decode cX2_countAstray 87 = .ok (.iinc 4 1, 3) := by decide +kernel
theorem dX2_countAstray_90 : decode cX2_countAstray 90 = .ok (.iinc 5 1, 3) := by decide +kernel
theorem dX2_countAstray_93 : decode cX2_countAstray 93 = .ok (.goto (-25), 3) := by decide +kernel
theorem dX2_countAstray_96 : decode cX2_countAstray 96 = .ok (.iload 4, 2) := by decide +kernel
theorem dX2_countAstray_98 : decode cX2_countAstray 98 = .ok (.ireturn, 1) := by decide +kernel
theorem dX2_meet_0 : decode cX2_meet 0 = .ok (.iload_n 1, 1) := by decide +kernel
theorem dX2_meet_1 : decode cX2_meet 1 = .ok (.ifCond .lt 9, 3) := by decide +kernel
theorem dX2_meet_4 : decode cX2_meet 4 = .ok (.iload_n 1, 1) := by decide +kernel
theorem dX2_meet_5 : decode cX2_meet 5 = .ok (.bipush 40, 2) := by decide +kernel
theorem dX2_meet_7 : decode cX2_meet 7 = .ok (.if_icmp .lt 4, 3) := by decide +kernel
theorem dX2_meet_10 : decode cX2_meet 10 = .ok (.return_, 1) := by decide +kernel
theorem dX2_meet_11 : decode cX2_meet 11 = .ok (.aload_n 0, 1) := by decide +kernel
theorem dX2_meet_12 : decode cX2_meet 12 = .ok (.getfield 15, 3) := by decide +kernel
theorem dX2_meet_15 : decode cX2_meet 15 = .ok (.iload_n 1, 1) := by decide +kernel
theorem dX2_meet_16 : decode cX2_meet 16 = .ok (.dup2, 1) := by decide +kernel
theorem dX2_meet_17 : decode cX2_meet 17 = .ok (.iaload, 1) := by decide +kernel
theorem dX2_meet_18 : decode cX2_meet 18 = .ok (.iconst 1, 1) := by decide +kernel
theorem dX2_meet_19 : decode cX2_meet 19 = .ok (.iadd, 1) := by decide +kernel
theorem dX2_meet_20 : decode cX2_meet 20 = .ok (.iastore, 1) := by decide +kernel
theorem dX2_meet_21 : decode cX2_meet 21 = .ok (.aload_n 0, 1) := by decide +kernel
theorem dX2_meet_22 : decode cX2_meet 22 = .ok (.getfield 15, 3) := by decide +kernel
theorem dX2_meet_25 : decode cX2_meet 25 = .ok (.iload_n 1, 1) := by decide +kernel
theorem dX2_meet_26 : decode cX2_meet 26 = .ok (.iaload, 1) := by decide +kernel
theorem dX2_meet_27 : decode cX2_meet 27 = .ok (.iconst 1, 1) := by decide +kernel
theorem dX2_meet_28 : decode cX2_meet 28 = .ok (.if_icmp .ne 61, 3) := by decide +kernel
theorem dX2_meet_31 : decode cX2_meet 31 = .ok (.aload_n 0, 1) := by decide +kernel
theorem dX2_meet_32 : decode cX2_meet 32 = .ok (.getfield 34, 3) := by decide +kernel
theorem dX2_meet_35 : decode cX2_meet 35 = .ok (.ifCond .lt 54, 3) := by decide +kernel
theorem dX2_meet_38 : decode cX2_meet 38 = .ok (.aload_n 0, 1) := by decide +kernel
theorem dX2_meet_39 : decode cX2_meet 39 = .ok (.getfield 34, 3) := by decide +kernel
theorem dX2_meet_42 : decode cX2_meet 42 = .ok (.bipush 40, 2) := by decide +kernel
theorem dX2_meet_44 : decode cX2_meet 44 = .ok (.if_icmp .ge 45, 3) := by decide +kernel
theorem dX2_meet_47 : decode cX2_meet 47 = .ok (.aload_n 0, 1) := by decide +kernel
theorem dX2_meet_48 : decode cX2_meet 48 = .ok (.getfield 9, 3) := by decide +kernel
theorem dX2_meet_51 : decode cX2_meet 51 = .ok (.aload_n 0, 1) := by decide +kernel
theorem dX2_meet_52 : decode cX2_meet 52 = .ok (.getfield 34, 3) := by decide +kernel
theorem dX2_meet_55 : decode cX2_meet 55 = .ok (.iload_n 1, 1) := by decide +kernel
theorem dX2_meet_56 : decode cX2_meet 56 = .ok (.iastore, 1) := by decide +kernel
theorem dX2_meet_57 : decode cX2_meet 57 = .ok (.aload_n 0, 1) := by decide +kernel
theorem dX2_meet_58 : decode cX2_meet 58 = .ok (.dup, 1) := by decide +kernel
theorem dX2_meet_59 : decode cX2_meet 59 = .ok (.getfield 34, 3) := by decide +kernel
theorem dX2_meet_62 : decode cX2_meet 62 = .ok (.iconst 1, 1) := by decide +kernel
theorem dX2_meet_63 : decode cX2_meet 63 = .ok (.iadd, 1) := by decide +kernel
theorem dX2_meet_64 : decode cX2_meet 64 = .ok (.putfield 34, 3) := by decide +kernel
theorem dX2_meet_67 : decode cX2_meet 67 = .ok (.aload_n 0, 1) := by decide +kernel
theorem dX2_meet_68 : decode cX2_meet 68 = .ok (.getfield 18, 3) := by decide +kernel
theorem dX2_meet_71 : decode cX2_meet 71 = .ok (.iload_n 1, 1) := by decide +kernel
theorem dX2_meet_72 : decode cX2_meet 72 = .ok (.iload_n 2, 1) := by decide +kernel
theorem dX2_meet_73 : decode cX2_meet 73 = .ok (.iastore, 1) := by decide +kernel
theorem dX2_meet_74 : decode cX2_meet 74 = .ok (.aload_n 0, 1) := by decide +kernel
theorem dX2_meet_75 : decode cX2_meet 75 = .ok (.getfield 21, 3) := by decide +kernel
theorem dX2_meet_78 : decode cX2_meet 78 = .ok (.iload_n 1, 1) := by decide +kernel
theorem dX2_meet_79 : decode cX2_meet 79 = .ok (.lload_n 3, 1) := by decide +kernel
theorem dX2_meet_80 : decode cX2_meet 80 = .ok (.lastore, 1) := by decide +kernel
theorem dX2_meet_81 : decode cX2_meet 81 = .ok (.aload_n 0, 1) := by decide +kernel
theorem dX2_meet_82 : decode cX2_meet 82 = .ok (.getfield 25, 3) := by decide +kernel
theorem dX2_meet_85 : decode cX2_meet 85 = .ok (.iload_n 1, 1) := by decide +kernel
theorem dX2_meet_86 : decode cX2_meet 86 = .ok (.lload 5, 2) := by decide +kernel
theorem dX2_meet_88 : decode cX2_meet 88 = .ok (.lastore, 1) := by decide +kernel
theorem dX2_meet_89 : decode cX2_meet 89 = .ok (.return_, 1) := by decide +kernel
theorem dX2_meetChildren_0 : decode cX2_meetChildren 0 = .ok (.iload_n 2, 1) := by decide +kernel
theorem dX2_meetChildren_1 : decode cX2_meetChildren 1 = .ok (.ifCond .lt 18, 3) := by decide +kernel
theorem dX2_meetChildren_4 : decode cX2_meetChildren 4 = .ok (.iload_n 2, 1) := by decide +kernel
theorem dX2_meetChildren_5 : decode cX2_meetChildren 5 = .ok (.bipush 40, 2) := by decide +kernel
theorem dX2_meetChildren_7 : decode cX2_meetChildren 7 = .ok (.if_icmp .ge 12, 3) := by decide +kernel
theorem dX2_meetChildren_10 : decode cX2_meetChildren 10 = .ok (.aload_n 1, 1) := by decide +kernel
theorem dX2_meetChildren_11 : decode cX2_meetChildren 11 = .ok (.iload_n 2, 1) := by decide +kernel
theorem dX2_meetChildren_12 : decode cX2_meetChildren 12 = .ok (.invokevirtual 54, 3) := by decide +kernel
theorem dX2_meetChildren_15 : decode cX2_meetChildren 15 = .ok (.iconst 2, 1) := by decide +kernel
theorem dX2_meetChildren_16 : decode cX2_meetChildren 16 = .ok (.if_icmp .eq 4, 3) := by decide +kernel
theorem dX2_meetChildren_19 : decode cX2_meetChildren 19 = .ok (.return_, 1) := by decide +kernel
theorem dX2_meetChildren_20 : decode cX2_meetChildren 20 = .ok (.aload_n 1, 1) := by decide +kernel
theorem dX2_meetChildren_21 : decode cX2_meetChildren 21 = .ok (.iload_n 2, 1) := by decide +kernel
theorem dX2_meetChildren_22 : decode cX2_meetChildren 22 = .ok (.invokevirtual 60, 3) := by decide +kernel
theorem dX2_meetChildren_25 : decode cX2_meetChildren 25 = .ok (.istore_n 3, 1) := by decide +kernel
theorem dX2_meetChildren_26 : decode cX2_meetChildren 26 = .ok (.iconst 0, 1) := by decide +kernel
theorem dX2_meetChildren_27 : decode cX2_meetChildren 27 = .ok (.istore 4, 2) := by decide +kernel
theorem dX2_meetChildren_29 : decode cX2_meetChildren 29 = .ok (.iload 4, 2) := by decide +kernel
theorem dX2_meetChildren_31 : decode cX2_meetChildren 31 = .ok (.iload_n 3, 1) := by decide +kernel
theorem dX2_meetChildren_32 : decode cX2_meetChildren 32 = .ok (.if_icmp .ge 85, 3) := by decide +kernel
theorem dX2_meetChildren_35 : decode cX2_meetChildren 35 = .ok (.iload 4, 2) := by decide +kernel
theorem dX2_meetChildren_37 : decode cX2_meetChildren 37 = .ok (.ifCond .ne 12, 3) := by decide +kernel
theorem dX2_meetChildren_40 : decode cX2_meetChildren 40 = .ok (.aload_n 0, 1) := by decide +kernel
theorem dX2_meetChildren_41 : decode cX2_meetChildren 41 = .ok (.getfield 21, 3) := by decide +kernel
theorem dX2_meetChildren_44 : decode cX2_meetChildren 44 = .ok (.iload_n 2, 1) := by decide +kernel
theorem dX2_meetChildren_45 : decode cX2_meetChildren 45 = .ok (.laload, 1) := by decide +kernel
theorem dX2_meetChildren_46 : decode cX2_meetChildren 46 = .ok (.goto 11, 3) := by decide +kernel
theorem dX2_meetChildren_49 : decode cX2_meetChildren 49 = .ok (.aload_n 1, 1) := by decide +kernel
theorem dX2_meetChildren_50 : decode cX2_meetChildren 50 = .ok (.iload_n 2, 1) := by decide +kernel
theorem dX2_meetChildren_51 : decode cX2_meetChildren 51 = .ok (.iload 4, 2) := by decide +kernel
theorem dX2_meetChildren_53 : decode cX2_meetChildren 53 = .ok (.invokevirtual 63, 3) := by decide +kernel
theorem dX2_meetChildren_56 : decode cX2_meetChildren 56 = .ok (.i2l, 1) := by decide +kernel
theorem dX2_meetChildren_57 : decode cX2_meetChildren 57 = .ok (.lstore 5, 2) := by decide +kernel
theorem dX2_meetChildren_59 : decode cX2_meetChildren 59 = .ok (.iload 4, 2) := by decide +kernel
theorem dX2_meetChildren_61 : decode cX2_meetChildren 61 = .ok (.iconst 1, 1) := by decide +kernel
theorem dX2_meetChildren_62 : decode cX2_meetChildren 62 = .ok (.iadd, 1) := by decide +kernel
theorem dX2_meetChildren_63 : decode cX2_meetChildren 63 = .ok (.iload_n 3, 1) := by decide +kernel
theorem dX2_meetChildren_64 : decode cX2_meetChildren 64 = .ok (.if_icmp .ge 16, 3) := by decide +kernel
theorem dX2_meetChildren_67 : decode cX2_meetChildren 67 = .ok (.aload_n 1, 1) := by decide +kernel
theorem dX2_meetChildren_68 : decode cX2_meetChildren 68 = .ok (.iload_n 2, 1) := by decide +kernel
theorem dX2_meetChildren_69 : decode cX2_meetChildren 69 = .ok (.iload 4, 2) := by decide +kernel
theorem dX2_meetChildren_71 : decode cX2_meetChildren 71 = .ok (.iconst 1, 1) := by decide +kernel
theorem dX2_meetChildren_72 : decode cX2_meetChildren 72 = .ok (.iadd, 1) := by decide +kernel
theorem dX2_meetChildren_73 : decode cX2_meetChildren 73 = .ok (.invokevirtual 63, 3) := by decide +kernel
theorem dX2_meetChildren_76 : decode cX2_meetChildren 76 = .ok (.i2l, 1) := by decide +kernel
theorem dX2_meetChildren_77 : decode cX2_meetChildren 77 = .ok (.goto 9, 3) := by decide +kernel
theorem dX2_meetChildren_80 : decode cX2_meetChildren 80 = .ok (.aload_n 0, 1) := by decide +kernel
theorem dX2_meetChildren_81 : decode cX2_meetChildren 81 = .ok (.getfield 25, 3) := by decide +kernel
theorem dX2_meetChildren_84 : decode cX2_meetChildren 84 = .ok (.iload_n 2, 1) := by decide +kernel
theorem dX2_meetChildren_85 : decode cX2_meetChildren 85 = .ok (.laload, 1) := by decide +kernel
theorem dX2_meetChildren_86 : decode cX2_meetChildren 86 = .ok (.lstore 7, 2) := by decide +kernel
theorem dX2_meetChildren_88 : decode cX2_meetChildren 88 = .ok (.aload_n 0, 1) := by decide +kernel
theorem dX2_meetChildren_89 : decode cX2_meetChildren 89 = .ok (.aload_n 1, 1) := by decide +kernel
theorem dX2_meetChildren_90 : decode cX2_meetChildren 90 = .ok (.iload_n 2, 1) := by decide +kernel
theorem dX2_meetChildren_91 : decode cX2_meetChildren 91 = .ok (.iload 4, 2) := by decide +kernel
theorem dX2_meetChildren_93 : decode cX2_meetChildren 93 = .ok (.invokevirtual 67, 3) := by decide +kernel
theorem dX2_meetChildren_96 : decode cX2_meetChildren 96 = .ok (.aload_n 0, 1) := by decide +kernel
theorem dX2_meetChildren_97 : decode cX2_meetChildren 97 = .ok (.getfield 18, 3) := by decide +kernel
theorem dX2_meetChildren_100 : decode cX2_meetChildren 100 = .ok (.iload_n 2, 1) := by decide +kernel
theorem dX2_meetChildren_101 : decode cX2_meetChildren 101 = .ok (.iaload, 1) := by decide +kernel
theorem dX2_meetChildren_102 : decode cX2_meetChildren 102 = .ok (.iconst 1, 1) := by decide +kernel
theorem dX2_meetChildren_103 : decode cX2_meetChildren 103 = .ok (.iadd, 1) := by decide +kernel
theorem dX2_meetChildren_104 : decode cX2_meetChildren 104 = .ok (.lload 5, 2) := by decide +kernel
theorem dX2_meetChildren_106 : decode cX2_meetChildren 106 = .ok (.lload 7, 2) := by decide +kernel
theorem dX2_meetChildren_108 : decode cX2_meetChildren 108 = .ok (.invokevirtual 42, 3) := by decide +kernel
theorem dX2_meetChildren_111 : decode cX2_meetChildren 111 = .ok (.iinc 4 1, 3) := by decide +kernel
theorem dX2_meetChildren_114 : decode cX2_meetChildren 114 = .ok (.goto (-85), 3) := by decide +kernel
theorem dX2_meetChildren_117 : decode cX2_meetChildren 117 = .ok (.return_, 1) := by decide +kernel
theorem dX2_isAstray_0 : decode cX2_isAstray 0 = .ok (.iload 4, 2) := by decide +kernel
theorem dX2_isAstray_2 : decode cX2_isAstray 2 = .ok (.ifCond .lt 10, 3) := by decide +kernel
theorem dX2_isAstray_5 : decode cX2_isAstray 5 = .ok (.iload 4, 2) := by decide +kernel
theorem dX2_isAstray_7 : decode cX2_isAstray 7 = .ok (.bipush 40, 2) := by decide +kernel
theorem dX2_isAstray_9 : decode cX2_isAstray 9 = .ok (.if_icmp .lt 5, 3) := by decide +kernel
theorem dX2_isAstray_12 : decode cX2_isAstray 12 = .ok (.iconst 0, 1) := by decide +kernel
theorem dX2_isAstray_13 : decode cX2_isAstray 13 = .ok (.ireturn, 1) := by decide +kernel
theorem dX2_isAstray_14 : decode cX2_isAstray 14 = .ok (.aload_n 1, 1) := by decide +kernel
theorem dX2_isAstray_15 : decode cX2_isAstray 15 = .ok (.iload 4, 2) := by decide +kernel
theorem dX2_isAstray_17 : decode cX2_isAstray 17 = .ok (.invokevirtual 54, 3) := by decide +kernel
theorem dX2_isAstray_20 : decode cX2_isAstray 20 = .ok (.ifCond .ne 28, 3) := by decide +kernel
theorem dX2_isAstray_23 : decode cX2_isAstray 23 = .ok (.aload_n 0, 1) := by decide +kernel
theorem dX2_isAstray_24 : decode cX2_isAstray 24 = .ok (.getfield 15, 3) := by decide +kernel
theorem dX2_isAstray_27 : decode cX2_isAstray 27 = .ok (.iload 4, 2) := by decide +kernel
theorem dX2_isAstray_29 : decode cX2_isAstray 29 = .ok (.iaload, 1) := by decide +kernel
theorem dX2_isAstray_30 : decode cX2_isAstray 30 = .ok (.ifCond .ne 12, 3) := by decide +kernel
theorem dX2_isAstray_33 : decode cX2_isAstray 33 = .ok (.aload_n 2, 1) := by decide +kernel
theorem dX2_isAstray_34 : decode cX2_isAstray 34 = .ok (.iload 4, 2) := by decide +kernel
theorem dX2_isAstray_36 : decode cX2_isAstray 36 = .ok (.invokevirtual 70, 3) := by decide +kernel
theorem dX2_isAstray_39 : decode cX2_isAstray 39 = .ok (.ifCond .eq 7, 3) := by decide +kernel
theorem dX2_isAstray_42 : decode cX2_isAstray 42 = .ok (.iconst 1, 1) := by decide +kernel
theorem dX2_isAstray_43 : decode cX2_isAstray 43 = .ok (.goto 4, 3) := by decide +kernel
theorem dX2_isAstray_46 : decode cX2_isAstray 46 = .ok (.iconst 0, 1) := by decide +kernel
theorem dX2_isAstray_47 : decode cX2_isAstray 47 = .ok (.ireturn, 1) := by decide +kernel
theorem dX2_isAstray_48 : decode cX2_isAstray 48 = .ok (.aload_n 0, 1) := by decide +kernel
theorem dX2_isAstray_49 : decode cX2_isAstray 49 = .ok (.getfield 18, 3) := by decide +kernel
theorem dX2_isAstray_52 : decode cX2_isAstray 52 = .ok (.iload 4, 2) := by decide +kernel
theorem dX2_isAstray_54 : decode cX2_isAstray 54 = .ok (.iaload, 1) := by decide +kernel
theorem dX2_isAstray_55 : decode cX2_isAstray 55 = .ok (.aload_n 1, 1) := by decide +kernel
theorem dX2_isAstray_56 : decode cX2_isAstray 56 = .ok (.iload_n 3, 1) := by decide +kernel
theorem dX2_isAstray_57 : decode cX2_isAstray 57 = .ok (.invokevirtual 75, 3) := by decide +kernel
theorem dX2_isAstray_60 : decode cX2_isAstray 60 = .ok (.if_icmp .ne 7, 3) := by decide +kernel
theorem dX2_isAstray_63 : decode cX2_isAstray 63 = .ok (.iconst 1, 1) := by decide +kernel
theorem dX2_isAstray_64 : decode cX2_isAstray 64 = .ok (.goto 4, 3) := by decide +kernel
theorem dX2_isAstray_67 : decode cX2_isAstray 67 = .ok (.iconst 0, 1) := by decide +kernel
theorem dX2_isAstray_68 : decode cX2_isAstray 68 = .ok (.istore 5, 2) := by decide +kernel
theorem dX2_isAstray_70 : decode cX2_isAstray 70 = .ok (.aload_n 0, 1) := by decide +kernel
theorem dX2_isAstray_71 : decode cX2_isAstray 71 = .ok (.getfield 15, 3) := by decide +kernel
theorem dX2_isAstray_74 : decode cX2_isAstray 74 = .ok (.iload 4, 2) := by decide +kernel
theorem dX2_isAstray_76 : decode cX2_isAstray 76 = .ok (.iaload, 1) := by decide +kernel
theorem dX2_isAstray_77 : decode cX2_isAstray 77 = .ok (.iconst 1, 1) := by decide +kernel
theorem dX2_isAstray_78 : decode cX2_isAstray 78 = .ok (.if_icmp .ne 90, 3) := by decide +kernel
theorem dX2_isAstray_81 : decode cX2_isAstray 81 = .ok (.aload_n 2, 1) := by decide +kernel
theorem dX2_isAstray_82 : decode cX2_isAstray 82 = .ok (.iload 4, 2) := by decide +kernel
theorem dX2_isAstray_84 : decode cX2_isAstray 84 = .ok (.invokevirtual 70, 3) := by decide +kernel
theorem dX2_isAstray_87 : decode cX2_isAstray 87 = .ok (.iconst 1, 1) := by decide +kernel
theorem dX2_isAstray_88 : decode cX2_isAstray 88 = .ok (.if_icmp .gt 80, 3) := by decide +kernel
theorem dX2_isAstray_91 : decode cX2_isAstray 91 = .ok (.aload_n 1, 1) := by decide +kernel
theorem dX2_isAstray_92 : decode cX2_isAstray 92 = .ok (.iload 4, 2) := by decide +kernel
theorem dX2_isAstray_94 : decode cX2_isAstray 94 = .ok (.invokevirtual 54, 3) := by decide +kernel
theorem dX2_isAstray_97 : decode cX2_isAstray 97 = .ok (.iconst 1, 1) := by decide +kernel
theorem dX2_isAstray_98 : decode cX2_isAstray 98 = .ok (.if_icmp .ne 7, 3) := by decide +kernel
theorem dX2_isAstray_101 : decode cX2_isAstray 101 = .ok (.iconst 1, 1) := by decide +kernel
theorem dX2_isAstray_102 : decode cX2_isAstray 102 = .ok (.goto 4, 3) := by decide +kernel
theorem dX2_isAstray_105 : decode cX2_isAstray 105 = .ok (.iconst 0, 1) := by decide +kernel
theorem dX2_isAstray_106 : decode cX2_isAstray 106 = .ok (.iload 5, 2) := by decide +kernel
theorem dX2_isAstray_108 : decode cX2_isAstray 108 = .ok (.if_icmp .ne 60, 3) := by decide +kernel
theorem dX2_isAstray_111 : decode cX2_isAstray 111 = .ok (.aload_n 1, 1) := by decide +kernel
theorem dX2_isAstray_112 : decode cX2_isAstray 112 = .ok (.iload 4, 2) := by decide +kernel
theorem dX2_isAstray_114 : decode cX2_isAstray 114 = .ok (.invokevirtual 78, 3) := by decide +kernel
theorem dX2_isAstray_117 : decode cX2_isAstray 117 = .ok (.aload_n 0, 1) := by decide +kernel
theorem dX2_isAstray_118 : decode cX2_isAstray 118 = .ok (.aload_n 1, 1) := by decide +kernel
theorem dX2_isAstray_119 : decode cX2_isAstray 119 = .ok (.iload 4, 2) := by decide +kernel
theorem dX2_isAstray_121 : decode cX2_isAstray 121 = .ok (.invokevirtual 81, 3) := by decide +kernel
theorem dX2_isAstray_124 : decode cX2_isAstray 124 = .ok (.if_icmp .ne 44, 3) := by decide +kernel
theorem dX2_isAstray_127 : decode cX2_isAstray 127 = .ok (.aload_n 0, 1) := by decide +kernel
theorem dX2_isAstray_128 : decode cX2_isAstray 128 = .ok (.aload_n 1, 1) := by decide +kernel
theorem dX2_isAstray_129 : decode cX2_isAstray 129 = .ok (.iload 4, 2) := by decide +kernel
theorem dX2_isAstray_131 : decode cX2_isAstray 131 = .ok (.iload 4, 2) := by decide +kernel
theorem dX2_isAstray_133 : decode cX2_isAstray 133 = .ok (.iload_n 3, 1) := by decide +kernel
theorem dX2_isAstray_134 : decode cX2_isAstray 134 = .ok (.if_icmp .ne 7, 3) := by decide +kernel
theorem dX2_isAstray_137 : decode cX2_isAstray 137 = .ok (.iconst 1, 1) := by decide +kernel
theorem dX2_isAstray_138 : decode cX2_isAstray 138 = .ok (.goto 4, 3) := by decide +kernel
theorem dX2_isAstray_141 : decode cX2_isAstray 141 = .ok (.iconst 0, 1) := by decide +kernel
theorem dX2_isAstray_142 : decode cX2_isAstray 142 = .ok (.invokevirtual 85, 3) := by decide +kernel
theorem dX2_isAstray_145 : decode cX2_isAstray 145 = .ok (.ifCond .eq 23, 3) := by decide +kernel
theorem dX2_isAstray_148 : decode cX2_isAstray 148 = .ok (.aload_n 0, 1) := by decide +kernel
theorem dX2_isAstray_149 : decode cX2_isAstray 149 = .ok (.aload_n 1, 1) := by decide +kernel
theorem dX2_isAstray_150 : decode cX2_isAstray 150 = .ok (.iload 4, 2) := by decide +kernel
theorem dX2_isAstray_152 : decode cX2_isAstray 152 = .ok (.invokevirtual 89, 3) := by decide +kernel
theorem dX2_isAstray_155 : decode cX2_isAstray 155 = .ok (.ifCond .eq 13, 3) := by decide +kernel
theorem dX2_isAstray_158 : decode cX2_isAstray 158 = .ok (.aload_n 0, 1) := by decide +kernel
theorem dX2_isAstray_159 : decode cX2_isAstray 159 = .ok (.aload_n 1, 1) := by decide +kernel
theorem dX2_isAstray_160 : decode cX2_isAstray 160 = .ok (.iload 4, 2) := by decide +kernel
theorem dX2_isAstray_162 : decode cX2_isAstray 162 = .ok (.invokevirtual 93, 3) := by decide +kernel
theorem dX2_isAstray_165 : decode cX2_isAstray 165 = .ok (.ifCond .ne 7, 3) := by decide +kernel
theorem dX2_isAstray_168 : decode cX2_isAstray 168 = .ok (.iconst 1, 1) := by decide +kernel
theorem dX2_isAstray_169 : decode cX2_isAstray 169 = .ok (.goto 4, 3) := by decide +kernel
theorem dX2_isAstray_172 : decode cX2_isAstray 172 = .ok (.iconst 0, 1) := by decide +kernel
theorem dX2_isAstray_173 : decode cX2_isAstray 173 = .ok (.ireturn, 1) := by decide +kernel
theorem dX2_countIsRight_0 : decode cX2_countIsRight 0 = .ok (.aload_n 1, 1) := by decide +kernel
theorem dX2_countIsRight_1 : decode cX2_countIsRight 1 = .ok (.iload_n 2, 1) := by decide +kernel
theorem dX2_countIsRight_2 : decode cX2_countIsRight 2 = .ok (.invokevirtual 60, 3) := by decide +kernel
theorem dX2_countIsRight_5 : decode cX2_countIsRight 5 = .ok (.istore 4, 2) := by decide +kernel
theorem dX2_countIsRight_7 : decode cX2_countIsRight 7 = .ok (.iload_n 3, 1) := by decide +kernel
theorem dX2_countIsRight_8 : decode cX2_countIsRight 8 = .ok (.ifCond .eq 16, 3) := by decide +kernel
theorem dX2_countIsRight_11 : decode cX2_countIsRight 11 = .ok (.aload_n 1, 1) := by decide +kernel
theorem dX2_countIsRight_12 : decode cX2_countIsRight 12 = .ok (.iload_n 2, 1) := by decide +kernel
theorem dX2_countIsRight_13 : decode cX2_countIsRight 13 = .ok (.invokevirtual 54, 3) := by decide +kernel
theorem dX2_countIsRight_16 : decode cX2_countIsRight 16 = .ok (.iconst 1, 1) := by decide +kernel
theorem dX2_countIsRight_17 : decode cX2_countIsRight 17 = .ok (.if_icmp .ne 7, 3) := by decide +kernel
theorem dX2_countIsRight_20 : decode cX2_countIsRight 20 = .ok (.iconst 1, 1) := by decide +kernel
theorem dX2_countIsRight_21 : decode cX2_countIsRight 21 = .ok (.goto 4, 3) := by decide +kernel
theorem dX2_countIsRight_24 : decode cX2_countIsRight 24 = .ok (.iconst 0, 1) := by decide +kernel
theorem dX2_countIsRight_25 : decode cX2_countIsRight 25 = .ok (.istore 5, 2) := by decide +kernel
theorem dX2_countIsRight_27 : decode cX2_countIsRight 27 = .ok (.iload 4, 2) := by decide +kernel
theorem dX2_countIsRight_29 : decode cX2_countIsRight 29 = .ok (.iconst 4, 1) := by decide +kernel
theorem dX2_countIsRight_30 : decode cX2_countIsRight 30 = .ok (.if_icmp .gt 18, 3) := by decide +kernel
theorem dX2_countIsRight_33 : decode cX2_countIsRight 33 = .ok (.iload 4, 2) := by decide +kernel
theorem dX2_countIsRight_35 : decode cX2_countIsRight 35 = .ok (.iconst 2, 1) := by decide +kernel
theorem dX2_countIsRight_36 : decode cX2_countIsRight 36 = .ok (.if_icmp .ge 8, 3) := by decide +kernel
theorem dX2_countIsRight_39 : decode cX2_countIsRight 39 = .ok (.iload 5, 2) := by decide +kernel
theorem dX2_countIsRight_41 : decode cX2_countIsRight 41 = .ok (.ifCond .eq 7, 3) := by decide +kernel
theorem dX2_countIsRight_44 : decode cX2_countIsRight 44 = .ok (.iconst 1, 1) := by decide +kernel
theorem dX2_countIsRight_45 : decode cX2_countIsRight 45 = .ok (.goto 4, 3) := by decide +kernel
theorem dX2_countIsRight_48 : decode cX2_countIsRight 48 = .ok (.iconst 0, 1) := by decide +kernel
theorem dX2_countIsRight_49 : decode cX2_countIsRight 49 = .ok (.ireturn, 1) := by decide +kernel
theorem dX2_childrenArePages_0 : decode cX2_childrenArePages 0 = .ok (.aload_n 1, 1) := by decide +kernel
theorem dX2_childrenArePages_1 : decode cX2_childrenArePages 1 = .ok (.iload_n 2, 1) := by decide +kernel
theorem dX2_childrenArePages_2 : decode cX2_childrenArePages 2 = .ok (.invokevirtual 54, 3) := by decide +kernel
theorem dX2_childrenArePages_5 : decode cX2_childrenArePages 5 = .ok (.iconst 2, 1) := by decide +kernel
theorem dX2_childrenArePages_6 : decode cX2_childrenArePages 6 = .ok (.if_icmp .ne 35, 3) := by decide +kernel
theorem dX2_childrenArePages_9 : decode cX2_childrenArePages 9 = .ok (.iconst 0, 1) := by decide +kernel
theorem dX2_childrenArePages_10 : decode cX2_childrenArePages 10 = .ok (.istore_n 3, 1) := by decide +kernel
theorem dX2_childrenArePages_11 : decode cX2_childrenArePages 11 = .ok (.iload_n 3, 1) := by decide +kernel
theorem dX2_childrenArePages_12 : decode cX2_childrenArePages 12 = .ok (.aload_n 1, 1) := by decide +kernel
theorem dX2_childrenArePages_13 : decode cX2_childrenArePages 13 = .ok (.iload_n 2, 1) := by decide +kernel
theorem dX2_childrenArePages_14 : decode cX2_childrenArePages 14 = .ok (.invokevirtual 60, 3) := by decide +kernel
theorem dX2_childrenArePages_17 : decode cX2_childrenArePages 17 = .ok (.if_icmp .ge 24, 3) := by decide +kernel
theorem dX2_childrenArePages_20 : decode cX2_childrenArePages 20 = .ok (.aload_n 1, 1) := by decide +kernel
theorem dX2_childrenArePages_21 : decode cX2_childrenArePages 21 = .ok (.aload_n 1, 1) := by decide +kernel
theorem dX2_childrenArePages_22 : decode cX2_childrenArePages 22 = .ok (.iload_n 2, 1) := by decide +kernel
theorem dX2_childrenArePages_23 : decode cX2_childrenArePages 23 = .ok (.iload_n 3, 1) := by decide +kernel
theorem dX2_childrenArePages_24 : decode cX2_childrenArePages 24 = .ok (.invokevirtual 67, 3) := by decide +kernel
theorem dX2_childrenArePages_27 : decode cX2_childrenArePages 27 = .ok (.invokevirtual 54, 3) := by decide +kernel
theorem dX2_childrenArePages_30 : decode cX2_childrenArePages 30 = .ok (.ifCond .ne 5, 3) := by decide +kernel
theorem dX2_childrenArePages_33 : decode cX2_childrenArePages 33 = .ok (.iconst 0, 1) := by decide +kernel
theorem dX2_childrenArePages_34 : decode cX2_childrenArePages 34 = .ok (.ireturn, 1) := by decide +kernel
theorem dX2_childrenArePages_35 : decode cX2_childrenArePages 35 = .ok (.iinc 3 1, 3) := by decide +kernel
theorem dX2_childrenArePages_38 : decode cX2_childrenArePages 38 = .ok (.goto (-27), 3) := by decide +kernel
theorem dX2_childrenArePages_41 : decode cX2_childrenArePages 41 = .ok (.iconst 1, 1) := by decide +kernel
theorem dX2_childrenArePages_42 : decode cX2_childrenArePages 42 = .ok (.ireturn, 1) := by decide +kernel
theorem dX2_keysAreInPlace_0 : decode cX2_keysAreInPlace 0 = .ok (.iload_n 2, 1) := by decide +kernel
theorem dX2_keysAreInPlace_1 : decode cX2_keysAreInPlace 1 = .ok (.ifCond .lt 9, 3) := by decide +kernel
theorem dX2_keysAreInPlace_4 : decode cX2_keysAreInPlace 4 = .ok (.iload_n 2, 1) := by decide +kernel
theorem dX2_keysAreInPlace_5 : decode cX2_keysAreInPlace 5 = .ok (.bipush 40, 2) := by decide +kernel
theorem dX2_keysAreInPlace_7 : decode cX2_keysAreInPlace 7 = .ok (.if_icmp .lt 5, 3) := by decide +kernel
theorem dX2_keysAreInPlace_10 : decode cX2_keysAreInPlace 10 = .ok (.iconst 0, 1) := by decide +kernel
theorem dX2_keysAreInPlace_11 : decode cX2_keysAreInPlace 11 = .ok (.ireturn, 1) := by decide +kernel
theorem dX2_keysAreInPlace_12 : decode cX2_keysAreInPlace 12 = .ok (.aload_n 1, 1) := by decide +kernel
theorem dX2_keysAreInPlace_13 : decode cX2_keysAreInPlace 13 = .ok (.iload_n 2, 1) := by decide +kernel
theorem dX2_keysAreInPlace_14 : decode cX2_keysAreInPlace 14 = .ok (.invokevirtual 54, 3) := by decide +kernel
theorem dX2_keysAreInPlace_17 : decode cX2_keysAreInPlace 17 = .ok (.iconst 1, 1) := by decide +kernel
theorem dX2_keysAreInPlace_18 : decode cX2_keysAreInPlace 18 = .ok (.if_icmp .ne 7, 3) := by decide +kernel
theorem dX2_keysAreInPlace_21 : decode cX2_keysAreInPlace 21 = .ok (.iconst 0, 1) := by decide +kernel
theorem dX2_keysAreInPlace_22 : decode cX2_keysAreInPlace 22 = .ok (.goto 4, 3) := by decide +kernel
theorem dX2_keysAreInPlace_25 : decode cX2_keysAreInPlace 25 = .ok (.iconst 1, 1) := by decide +kernel
theorem dX2_keysAreInPlace_26 : decode cX2_keysAreInPlace 26 = .ok (.istore_n 3, 1) := by decide +kernel
theorem dX2_keysAreInPlace_27 : decode cX2_keysAreInPlace 27 = .ok (.aload_n 0, 1) := by decide +kernel
theorem dX2_keysAreInPlace_28 : decode cX2_keysAreInPlace 28 = .ok (.getfield 21, 3) := by decide +kernel
theorem dX2_keysAreInPlace_31 : decode cX2_keysAreInPlace 31 = .ok (.iload_n 2, 1) := by decide +kernel
theorem dX2_keysAreInPlace_32 : decode cX2_keysAreInPlace 32 = .ok (.laload, 1) := by decide +kernel
theorem dX2_keysAreInPlace_33 : decode cX2_keysAreInPlace 33 = .ok (.lstore 4, 2) := by decide +kernel
theorem dX2_keysAreInPlace_35 : decode cX2_keysAreInPlace 35 = .ok (.iload_n 3, 1) := by decide +kernel
theorem dX2_keysAreInPlace_36 : decode cX2_keysAreInPlace 36 = .ok (.istore 6, 2) := by decide +kernel
theorem dX2_keysAreInPlace_38 : decode cX2_keysAreInPlace 38 = .ok (.iload 6, 2) := by decide +kernel
theorem dX2_keysAreInPlace_40 : decode cX2_keysAreInPlace 40 = .ok (.aload_n 1, 1) := by decide +kernel
theorem dX2_keysAreInPlace_41 : decode cX2_keysAreInPlace 41 = .ok (.iload_n 2, 1) := by decide +kernel
theorem dX2_keysAreInPlace_42 : decode cX2_keysAreInPlace 42 = .ok (.invokevirtual 60, 3) := by decide +kernel
theorem dX2_keysAreInPlace_45 : decode cX2_keysAreInPlace 45 = .ok (.if_icmp .ge 47, 3) := by decide +kernel
theorem dX2_keysAreInPlace_48 : decode cX2_keysAreInPlace 48 = .ok (.aload_n 1, 1) := by decide +kernel
theorem dX2_keysAreInPlace_49 : decode cX2_keysAreInPlace 49 = .ok (.iload_n 2, 1) := by decide +kernel
theorem dX2_keysAreInPlace_50 : decode cX2_keysAreInPlace 50 = .ok (.iload 6, 2) := by decide +kernel
theorem dX2_keysAreInPlace_52 : decode cX2_keysAreInPlace 52 = .ok (.invokevirtual 63, 3) := by decide +kernel
theorem dX2_keysAreInPlace_55 : decode cX2_keysAreInPlace 55 = .ok (.i2l, 1) := by decide +kernel
theorem dX2_keysAreInPlace_56 : decode cX2_keysAreInPlace 56 = .ok (.lstore 7, 2) := by decide +kernel
theorem dX2_keysAreInPlace_58 : decode cX2_keysAreInPlace 58 = .ok (.lload 7, 2) := by decide +kernel
theorem dX2_keysAreInPlace_60 : decode cX2_keysAreInPlace 60 = .ok (.lload 4, 2) := by decide +kernel
theorem dX2_keysAreInPlace_62 : decode cX2_keysAreInPlace 62 = .ok (.lcmp, 1) := by decide +kernel
theorem dX2_keysAreInPlace_63 : decode cX2_keysAreInPlace 63 = .ok (.ifCond .lt 15, 3) := by decide +kernel
theorem dX2_keysAreInPlace_66 : decode cX2_keysAreInPlace 66 = .ok (.lload 7, 2) := by decide +kernel
theorem dX2_keysAreInPlace_68 : decode cX2_keysAreInPlace 68 = .ok (.aload_n 0, 1) := by decide +kernel
theorem dX2_keysAreInPlace_69 : decode cX2_keysAreInPlace 69 = .ok (.getfield 25, 3) := by decide +kernel
theorem dX2_keysAreInPlace_72 : decode cX2_keysAreInPlace 72 = .ok (.iload_n 2, 1) := by decide +kernel
theorem dX2_keysAreInPlace_73 : decode cX2_keysAreInPlace 73 = .ok (.laload, 1) := by decide +kernel
theorem dX2_keysAreInPlace_74 : decode cX2_keysAreInPlace 74 = .ok (.lcmp, 1) := by decide +kernel
theorem dX2_keysAreInPlace_75 : decode cX2_keysAreInPlace 75 = .ok (.ifCond .lt 5, 3) := by decide +kernel
theorem dX2_keysAreInPlace_78 : decode cX2_keysAreInPlace 78 = .ok (.iconst 0, 1) := by decide +kernel
theorem dX2_keysAreInPlace_79 : decode cX2_keysAreInPlace 79 = .ok (.ireturn, 1) := by decide +kernel
theorem dX2_keysAreInPlace_80 : decode cX2_keysAreInPlace 80 = .ok (.lload 7, 2) := by decide +kernel
theorem dX2_keysAreInPlace_82 : decode cX2_keysAreInPlace 82 = .ok (.lconst 1, 1) := by decide +kernel
theorem dX2_keysAreInPlace_83 : decode cX2_keysAreInPlace 83 = .ok (.ladd, 1) := by decide +kernel
theorem dX2_keysAreInPlace_84 : decode cX2_keysAreInPlace 84 = .ok (.lstore 4, 2) := by decide +kernel
theorem dX2_keysAreInPlace_86 : decode cX2_keysAreInPlace 86 = .ok (.iinc 6 1, 3) := by decide +kernel
theorem dX2_keysAreInPlace_89 : decode cX2_keysAreInPlace 89 = .ok (.goto (-51), 3) := by decide +kernel
theorem dX2_keysAreInPlace_92 : decode cX2_keysAreInPlace 92 = .ok (.iconst 1, 1) := by decide +kernel
theorem dX2_keysAreInPlace_93 : decode cX2_keysAreInPlace 93 = .ok (.ireturn, 1) := by decide +kernel
theorem dX2_leafDueAfter_0 : decode cX2_leafDueAfter 0 = .ok (.aload_n 1, 1) := by decide +kernel
theorem dX2_leafDueAfter_1 : decode cX2_leafDueAfter 1 = .ok (.iload_n 2, 1) := by decide +kernel
theorem dX2_leafDueAfter_2 : decode cX2_leafDueAfter 2 = .ok (.invokevirtual 54, 3) := by decide +kernel
theorem dX2_leafDueAfter_5 : decode cX2_leafDueAfter 5 = .ok (.iconst 1, 1) := by decide +kernel
theorem dX2_leafDueAfter_6 : decode cX2_leafDueAfter 6 = .ok (.if_icmp .ne 48, 3) := by decide +kernel
theorem dX2_leafDueAfter_9 : decode cX2_leafDueAfter 9 = .ok (.iconst 0, 1) := by decide +kernel
theorem dX2_leafDueAfter_10 : decode cX2_leafDueAfter 10 = .ok (.istore_n 3, 1) := by decide +kernel
theorem dX2_leafDueAfter_11 : decode cX2_leafDueAfter 11 = .ok (.iload_n 3, 1) := by decide +kernel
theorem dX2_leafDueAfter_12 : decode cX2_leafDueAfter 12 = .ok (.iconst 1, 1) := by decide +kernel
theorem dX2_leafDueAfter_13 : decode cX2_leafDueAfter 13 = .ok (.iadd, 1) := by decide +kernel
theorem dX2_leafDueAfter_14 : decode cX2_leafDueAfter 14 = .ok (.bipush 40, 2) := by decide +kernel
theorem dX2_leafDueAfter_16 : decode cX2_leafDueAfter 16 = .ok (.if_icmp .ge 38, 3) := by decide +kernel
theorem dX2_leafDueAfter_19 : decode cX2_leafDueAfter 19 = .ok (.iload_n 3, 1) := by decide +kernel
theorem dX2_leafDueAfter_20 : decode cX2_leafDueAfter 20 = .ok (.iconst 1, 1) := by decide +kernel
theorem dX2_leafDueAfter_21 : decode cX2_leafDueAfter 21 = .ok (.iadd, 1) := by decide +kernel
theorem dX2_leafDueAfter_22 : decode cX2_leafDueAfter 22 = .ok (.aload_n 0, 1) := by decide +kernel
theorem dX2_leafDueAfter_23 : decode cX2_leafDueAfter 23 = .ok (.getfield 34, 3) := by decide +kernel
theorem dX2_leafDueAfter_26 : decode cX2_leafDueAfter 26 = .ok (.if_icmp .ge 28, 3) := by decide +kernel
theorem dX2_leafDueAfter_29 : decode cX2_leafDueAfter 29 = .ok (.aload_n 0, 1) := by decide +kernel
theorem dX2_leafDueAfter_30 : decode cX2_leafDueAfter 30 = .ok (.getfield 9, 3) := by decide +kernel
theorem dX2_leafDueAfter_33 : decode cX2_leafDueAfter 33 = .ok (.iload_n 3, 1) := by decide +kernel
theorem dX2_leafDueAfter_34 : decode cX2_leafDueAfter 34 = .ok (.iaload, 1) := by decide +kernel
theorem dX2_leafDueAfter_35 : decode cX2_leafDueAfter 35 = .ok (.iload_n 2, 1) := by decide +kernel
theorem dX2_leafDueAfter_36 : decode cX2_leafDueAfter 36 = .ok (.if_icmp .ne 12, 3) := by decide +kernel
theorem dX2_leafDueAfter_39 : decode cX2_leafDueAfter 39 = .ok (.aload_n 0, 1) := by decide +kernel
theorem dX2_leafDueAfter_40 : decode cX2_leafDueAfter 40 = .ok (.getfield 9, 3) := by decide +kernel
theorem dX2_leafDueAfter_43 : decode cX2_leafDueAfter 43 = .ok (.iload_n 3, 1) := by decide +kernel
theorem dX2_leafDueAfter_44 : decode cX2_leafDueAfter 44 = .ok (.iconst 1, 1) := by decide +kernel
theorem dX2_leafDueAfter_45 : decode cX2_leafDueAfter 45 = .ok (.iadd, 1) := by decide +kernel
theorem dX2_leafDueAfter_46 : decode cX2_leafDueAfter 46 = .ok (.iaload, 1) := by decide +kernel
theorem dX2_leafDueAfter_47 : decode cX2_leafDueAfter 47 = .ok (.ireturn, 1) := by decide +kernel
theorem dX2_leafDueAfter_48 : decode cX2_leafDueAfter 48 = .ok (.iinc 3 1, 3) := by decide +kernel
theorem dX2_leafDueAfter_51 : decode cX2_leafDueAfter 51 = .ok (.goto (-40), 3) := by decide +kernel
theorem dX2_leafDueAfter_54 : decode cX2_leafDueAfter 54 = .ok (.iconst (-1), 1) := by decide +kernel
theorem dX2_leafDueAfter_55 : decode cX2_leafDueAfter 55 = .ok (.ireturn, 1) := by decide +kernel
theorem dX3_init_0 : decode cX3_init 0 = .ok (.aload_n 0, 1) := by decide +kernel
theorem dX3_init_1 : decode cX3_init 1 = .ok (.invokespecial 3, 3) := by decide +kernel
theorem dX3_init_4 : decode cX3_init 4 = .ok (.aload_n 0, 1) := by decide +kernel
theorem dX3_init_5 : decode cX3_init 5 = .ok (.bipush 6, 2) := by decide +kernel
theorem dX3_init_7 : decode cX3_init 7 = .ok (.newarray .int, 2) := by decide +kernel
theorem dX3_init_9 : decode cX3_init 9 = .ok (.putfield 9, 3) := by decide +kernel
theorem dX3_init_12 : decode cX3_init 12 = .ok (.aload_n 0, 1) := by decide +kernel
theorem dX3_init_13 : decode cX3_init 13 = .ok (.bipush 6, 2) := by decide +kernel
theorem dX3_init_15 : decode cX3_init 15 = .ok (.newarray .int, 2) := by decide +kernel
theorem dX3_init_17 : decode cX3_init 17 = .ok (.putfield 15, 3) := by decide +kernel
theorem dX3_init_20 : decode cX3_init 20 = .ok (.aload_n 0, 1) := by decide +kernel
theorem dX3_init_21 : decode cX3_init 21 = .ok (.iconst 0, 1) := by decide +kernel
theorem dX3_init_22 : decode cX3_init 22 = .ok (.putfield 18, 3) := by decide +kernel
theorem dX3_init_25 : decode cX3_init 25 = .ok (.return_, 1) := by decide +kernel
theorem dX3_lead_0 : decode cX3_lead 0 = .ok (.aload_n 0, 1) := by decide +kernel
theorem dX3_lead_1 : decode cX3_lead 1 = .ok (.iconst 0, 1) := by decide +kernel
theorem dX3_lead_2 : decode cX3_lead 2 = .ok (.putfield 18, 3) := by decide +kernel
theorem dX3_lead_5 : decode cX3_lead 5 = .ok (.aload_n 0, 1) := by decide +kernel
theorem dX3_lead_6 : decode cX3_lead 6 = .ok (.iload_n 2, 1) := by decide +kernel
theorem dX3_lead_7 : decode cX3_lead 7 = .ok (.iconst 0, 1) := by decide +kernel
theorem dX3_lead_8 : decode cX3_lead 8 = .ok (.invokevirtual 22, 3) := by decide +kernel
