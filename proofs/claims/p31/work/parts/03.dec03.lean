theorem zd_367 : (decode cX11_isFresh 13 = .ok (.aaload, 1)) ∧ (decode cX11_isFresh 14 = .ok (.getfield 210, 3)) ∧ (decode cX11_isFresh 17 = .ok (.aload_n 0, 1)) ∧ (decode cX11_isFresh 18 = .ok (.getfield 41, 3)) ∧ (decode cX11_isFresh 21 = .ok (.if_icmp .ne 23, 3)) ∧ (decode cX11_isFresh 24 = .ok (.aload_n 0, 1)) ∧ (decode cX11_isFresh 25 = .ok (.getfield 15, 3)) ∧ (decode cX11_isFresh 28 = .ok (.iload_n 1, 1)) := by decide +kernel
theorem dX11_isFresh_13 : decode cX11_isFresh 13 = .ok (.aaload, 1) := zd_367.1
theorem dX11_isFresh_14 : decode cX11_isFresh 14 = .ok (.getfield 210, 3) := zd_367.2.1
theorem dX11_isFresh_17 : decode cX11_isFresh 17 = .ok (.aload_n 0, 1) := zd_367.2.2.1
theorem dX11_isFresh_18 : decode cX11_isFresh 18 = .ok (.getfield 41, 3) := zd_367.2.2.2.1
theorem dX11_isFresh_21 : decode cX11_isFresh 21 = .ok (.if_icmp .ne 23, 3) := zd_367.2.2.2.2.1
theorem dX11_isFresh_24 : decode cX11_isFresh 24 = .ok (.aload_n 0, 1) := zd_367.2.2.2.2.2.1
theorem dX11_isFresh_25 : decode cX11_isFresh 25 = .ok (.getfield 15, 3) := zd_367.2.2.2.2.2.2.1
theorem dX11_isFresh_28 : decode cX11_isFresh 28 = .ok (.iload_n 1, 1) := zd_367.2.2.2.2.2.2.2
theorem zd_368 : (decode cX11_isFresh 29 = .ok (.aaload, 1)) ∧ (decode cX11_isFresh 30 = .ok (.getfield 213, 3)) ∧ (decode cX11_isFresh 33 = .ok (.aload_n 0, 1)) ∧ (decode cX11_isFresh 34 = .ok (.getfield 44, 3)) ∧ (decode cX11_isFresh 37 = .ok (.if_icmp .ne 7, 3)) ∧ (decode cX11_isFresh 40 = .ok (.iconst 1, 1)) ∧ (decode cX11_isFresh 41 = .ok (.goto 4, 3)) ∧ (decode cX11_isFresh 44 = .ok (.iconst 0, 1)) := by decide +kernel
theorem dX11_isFresh_29 : decode cX11_isFresh 29 = .ok (.aaload, 1) := zd_368.1
theorem dX11_isFresh_30 : decode cX11_isFresh 30 = .ok (.getfield 213, 3) := zd_368.2.1
theorem dX11_isFresh_33 : decode cX11_isFresh 33 = .ok (.aload_n 0, 1) := zd_368.2.2.1
theorem dX11_isFresh_34 : decode cX11_isFresh 34 = .ok (.getfield 44, 3) := zd_368.2.2.2.1
theorem dX11_isFresh_37 : decode cX11_isFresh 37 = .ok (.if_icmp .ne 7, 3) := zd_368.2.2.2.2.1
theorem dX11_isFresh_40 : decode cX11_isFresh 40 = .ok (.iconst 1, 1) := zd_368.2.2.2.2.2.1
theorem dX11_isFresh_41 : decode cX11_isFresh 41 = .ok (.goto 4, 3) := zd_368.2.2.2.2.2.2.1
theorem dX11_isFresh_44 : decode cX11_isFresh 44 = .ok (.iconst 0, 1) := zd_368.2.2.2.2.2.2.2
theorem dX11_isFresh_45 : decode cX11_isFresh 45 = .ok (.ireturn, 1) := by decide +kernel
theorem zd_369 : (decode cX11_freshPlates 0 = .ok (.iconst 0, 1)) ∧ (decode cX11_freshPlates 1 = .ok (.istore_n 1, 1)) ∧ (decode cX11_freshPlates 2 = .ok (.iconst 0, 1)) ∧ (decode cX11_freshPlates 3 = .ok (.istore_n 2, 1)) ∧ (decode cX11_freshPlates 4 = .ok (.iload_n 2, 1)) ∧ (decode cX11_freshPlates 5 = .ok (.bipush 12, 2)) ∧ (decode cX11_freshPlates 7 = .ok (.if_icmp .ge 20, 3)) ∧ (decode cX11_freshPlates 10 = .ok (.aload_n 0, 1)) := by decide +kernel
theorem dX11_freshPlates_0 : decode cX11_freshPlates 0 = .ok (.iconst 0, 1) := zd_369.1
theorem dX11_freshPlates_1 : decode cX11_freshPlates 1 = .ok (.istore_n 1, 1) := zd_369.2.1
theorem dX11_freshPlates_2 : decode cX11_freshPlates 2 = .ok (.iconst 0, 1) := zd_369.2.2.1
theorem dX11_freshPlates_3 : decode cX11_freshPlates 3 = .ok (.istore_n 2, 1) := zd_369.2.2.2.1
theorem dX11_freshPlates_4 : decode cX11_freshPlates 4 = .ok (.iload_n 2, 1) := zd_369.2.2.2.2.1
theorem dX11_freshPlates_5 : decode cX11_freshPlates 5 = .ok (.bipush 12, 2) := zd_369.2.2.2.2.2.1
theorem dX11_freshPlates_7 : decode cX11_freshPlates 7 = .ok (.if_icmp .ge 20, 3) := zd_369.2.2.2.2.2.2.1
theorem dX11_freshPlates_10 : decode cX11_freshPlates 10 = .ok (.aload_n 0, 1) := zd_369.2.2.2.2.2.2.2
theorem zd_370 : (decode cX11_freshPlates 11 = .ok (.iload_n 2, 1)) ∧ (decode cX11_freshPlates 12 = .ok (.invokevirtual 372, 3)) ∧ (decode cX11_freshPlates 15 = .ok (.ifCond .eq 6, 3)) ∧ (decode cX11_freshPlates 18 = .ok (.iinc 1 1, 3)) ∧ (decode cX11_freshPlates 21 = .ok (.iinc 2 1, 3)) ∧ (decode cX11_freshPlates 24 = .ok (.goto (-20), 3)) ∧ (decode cX11_freshPlates 27 = .ok (.iload_n 1, 1)) ∧ (decode cX11_freshPlates 28 = .ok (.ireturn, 1)) := by decide +kernel
theorem dX11_freshPlates_11 : decode cX11_freshPlates 11 = .ok (.iload_n 2, 1) := zd_370.1
theorem dX11_freshPlates_12 : decode cX11_freshPlates 12 = .ok (.invokevirtual 372, 3) := zd_370.2.1
theorem dX11_freshPlates_15 : decode cX11_freshPlates 15 = .ok (.ifCond .eq 6, 3) := zd_370.2.2.1
theorem dX11_freshPlates_18 : decode cX11_freshPlates 18 = .ok (.iinc 1 1, 3) := zd_370.2.2.2.1
theorem dX11_freshPlates_21 : decode cX11_freshPlates 21 = .ok (.iinc 2 1, 3) := zd_370.2.2.2.2.1
theorem dX11_freshPlates_24 : decode cX11_freshPlates 24 = .ok (.goto (-20), 3) := zd_370.2.2.2.2.2.1
theorem dX11_freshPlates_27 : decode cX11_freshPlates 27 = .ok (.iload_n 1, 1) := zd_370.2.2.2.2.2.2.1
theorem dX11_freshPlates_28 : decode cX11_freshPlates 28 = .ok (.ireturn, 1) := zd_370.2.2.2.2.2.2.2
theorem zd_371 : (decode cX11_closeEdition 0 = .ok (.iconst 0, 1)) ∧ (decode cX11_closeEdition 1 = .ok (.istore_n 1, 1)) ∧ (decode cX11_closeEdition 2 = .ok (.iload_n 1, 1)) ∧ (decode cX11_closeEdition 3 = .ok (.bipush 12, 2)) ∧ (decode cX11_closeEdition 5 = .ok (.if_icmp .ge 22, 3)) ∧ (decode cX11_closeEdition 8 = .ok (.aload_n 0, 1)) ∧ (decode cX11_closeEdition 9 = .ok (.iload_n 1, 1)) ∧ (decode cX11_closeEdition 10 = .ok (.invokevirtual 372, 3)) := by decide +kernel
theorem dX11_closeEdition_0 : decode cX11_closeEdition 0 = .ok (.iconst 0, 1) := zd_371.1
theorem dX11_closeEdition_1 : decode cX11_closeEdition 1 = .ok (.istore_n 1, 1) := zd_371.2.1
theorem dX11_closeEdition_2 : decode cX11_closeEdition 2 = .ok (.iload_n 1, 1) := zd_371.2.2.1
theorem dX11_closeEdition_3 : decode cX11_closeEdition 3 = .ok (.bipush 12, 2) := zd_371.2.2.2.1
theorem dX11_closeEdition_5 : decode cX11_closeEdition 5 = .ok (.if_icmp .ge 22, 3) := zd_371.2.2.2.2.1
theorem dX11_closeEdition_8 : decode cX11_closeEdition 8 = .ok (.aload_n 0, 1) := zd_371.2.2.2.2.2.1
theorem dX11_closeEdition_9 : decode cX11_closeEdition 9 = .ok (.iload_n 1, 1) := zd_371.2.2.2.2.2.2.1
theorem dX11_closeEdition_10 : decode cX11_closeEdition 10 = .ok (.invokevirtual 372, 3) := zd_371.2.2.2.2.2.2.2
theorem zd_372 : (decode cX11_closeEdition 13 = .ok (.ifCond .eq 8, 3)) ∧ (decode cX11_closeEdition 16 = .ok (.aload_n 0, 1)) ∧ (decode cX11_closeEdition 17 = .ok (.iload_n 1, 1)) ∧ (decode cX11_closeEdition 18 = .ok (.invokevirtual 375, 3)) ∧ (decode cX11_closeEdition 21 = .ok (.iinc 1 1, 3)) ∧ (decode cX11_closeEdition 24 = .ok (.goto (-22), 3)) ∧ (decode cX11_closeEdition 27 = .ok (.return_, 1)) := by decide +kernel
theorem dX11_closeEdition_13 : decode cX11_closeEdition 13 = .ok (.ifCond .eq 8, 3) := zd_372.1
theorem dX11_closeEdition_16 : decode cX11_closeEdition 16 = .ok (.aload_n 0, 1) := zd_372.2.1
theorem dX11_closeEdition_17 : decode cX11_closeEdition 17 = .ok (.iload_n 1, 1) := zd_372.2.2.1
theorem dX11_closeEdition_18 : decode cX11_closeEdition 18 = .ok (.invokevirtual 375, 3) := zd_372.2.2.2.1
theorem dX11_closeEdition_21 : decode cX11_closeEdition 21 = .ok (.iinc 1 1, 3) := zd_372.2.2.2.2.1
theorem dX11_closeEdition_24 : decode cX11_closeEdition 24 = .ok (.goto (-22), 3) := zd_372.2.2.2.2.2.1
theorem dX11_closeEdition_27 : decode cX11_closeEdition 27 = .ok (.return_, 1) := zd_372.2.2.2.2.2.2
theorem zd_373 : (decode cX11_writeDown 0 = .ok (.aload_n 0, 1)) ∧ (decode cX11_writeDown 1 = .ok (.getfield 15, 3)) ∧ (decode cX11_writeDown 4 = .ok (.iload_n 1, 1)) ∧ (decode cX11_writeDown 5 = .ok (.aaload, 1)) ∧ (decode cX11_writeDown 6 = .ok (.astore_n 2, 1)) ∧ (decode cX11_writeDown 7 = .ok (.iconst 0, 1)) ∧ (decode cX11_writeDown 8 = .ok (.istore_n 3, 1)) ∧ (decode cX11_writeDown 9 = .ok (.iload_n 3, 1)) := by decide +kernel
theorem dX11_writeDown_0 : decode cX11_writeDown 0 = .ok (.aload_n 0, 1) := zd_373.1
theorem dX11_writeDown_1 : decode cX11_writeDown 1 = .ok (.getfield 15, 3) := zd_373.2.1
theorem dX11_writeDown_4 : decode cX11_writeDown 4 = .ok (.iload_n 1, 1) := zd_373.2.2.1
theorem dX11_writeDown_5 : decode cX11_writeDown 5 = .ok (.aaload, 1) := zd_373.2.2.2.1
theorem dX11_writeDown_6 : decode cX11_writeDown 6 = .ok (.astore_n 2, 1) := zd_373.2.2.2.2.1
theorem dX11_writeDown_7 : decode cX11_writeDown 7 = .ok (.iconst 0, 1) := zd_373.2.2.2.2.2.1
theorem dX11_writeDown_8 : decode cX11_writeDown 8 = .ok (.istore_n 3, 1) := zd_373.2.2.2.2.2.2.1
theorem dX11_writeDown_9 : decode cX11_writeDown 9 = .ok (.iload_n 3, 1) := zd_373.2.2.2.2.2.2.2
theorem zd_374 : (decode cX11_writeDown 10 = .ok (.bipush 8, 2)) ∧ (decode cX11_writeDown 12 = .ok (.if_icmp .ge 61, 3)) ∧ (decode cX11_writeDown 15 = .ok (.iconst 0, 1)) ∧ (decode cX11_writeDown 16 = .ok (.istore 4, 2)) ∧ (decode cX11_writeDown 18 = .ok (.iload 4, 2)) ∧ (decode cX11_writeDown 20 = .ok (.aload_n 2, 1)) ∧ (decode cX11_writeDown 21 = .ok (.getfield 59, 3)) ∧ (decode cX11_writeDown 24 = .ok (.iload_n 3, 1)) := by decide +kernel
theorem dX11_writeDown_10 : decode cX11_writeDown 10 = .ok (.bipush 8, 2) := zd_374.1
theorem dX11_writeDown_12 : decode cX11_writeDown 12 = .ok (.if_icmp .ge 61, 3) := zd_374.2.1
theorem dX11_writeDown_15 : decode cX11_writeDown 15 = .ok (.iconst 0, 1) := zd_374.2.2.1
theorem dX11_writeDown_16 : decode cX11_writeDown 16 = .ok (.istore 4, 2) := zd_374.2.2.2.1
theorem dX11_writeDown_18 : decode cX11_writeDown 18 = .ok (.iload 4, 2) := zd_374.2.2.2.2.1
theorem dX11_writeDown_20 : decode cX11_writeDown 20 = .ok (.aload_n 2, 1) := zd_374.2.2.2.2.2.1
theorem dX11_writeDown_21 : decode cX11_writeDown 21 = .ok (.getfield 59, 3) := zd_374.2.2.2.2.2.2.1
theorem dX11_writeDown_24 : decode cX11_writeDown 24 = .ok (.iload_n 3, 1) := zd_374.2.2.2.2.2.2.2
theorem zd_375 : (decode cX11_writeDown 25 = .ok (.iaload, 1)) ∧ (decode cX11_writeDown 26 = .ok (.if_icmp .ge 41, 3)) ∧ (decode cX11_writeDown 29 = .ok (.aload_n 0, 1)) ∧ (decode cX11_writeDown 30 = .ok (.aload_n 2, 1)) ∧ (decode cX11_writeDown 31 = .ok (.iload_n 3, 1)) ∧ (decode cX11_writeDown 32 = .ok (.iload 4, 2)) ∧ (decode cX11_writeDown 34 = .ok (.invokevirtual 222, 3)) ∧ (decode cX11_writeDown 37 = .ok (.invokevirtual 75, 3)) := by decide +kernel
theorem dX11_writeDown_25 : decode cX11_writeDown 25 = .ok (.iaload, 1) := zd_375.1
theorem dX11_writeDown_26 : decode cX11_writeDown 26 = .ok (.if_icmp .ge 41, 3) := zd_375.2.1
theorem dX11_writeDown_29 : decode cX11_writeDown 29 = .ok (.aload_n 0, 1) := zd_375.2.2.1
theorem dX11_writeDown_30 : decode cX11_writeDown 30 = .ok (.aload_n 2, 1) := zd_375.2.2.2.1
theorem dX11_writeDown_31 : decode cX11_writeDown 31 = .ok (.iload_n 3, 1) := zd_375.2.2.2.2.1
theorem dX11_writeDown_32 : decode cX11_writeDown 32 = .ok (.iload 4, 2) := zd_375.2.2.2.2.2.1
theorem dX11_writeDown_34 : decode cX11_writeDown 34 = .ok (.invokevirtual 222, 3) := zd_375.2.2.2.2.2.2.1
theorem dX11_writeDown_37 : decode cX11_writeDown 37 = .ok (.invokevirtual 75, 3) := zd_375.2.2.2.2.2.2.2
theorem zd_376 : (decode cX11_writeDown 40 = .ok (.astore 5, 2)) ∧ (decode cX11_writeDown 42 = .ok (.aload 5, 2)) ∧ (decode cX11_writeDown 44 = .ok (.ifnull 17, 3)) ∧ (decode cX11_writeDown 47 = .ok (.aload_n 0, 1)) ∧ (decode cX11_writeDown 48 = .ok (.aload 5, 2)) ∧ (decode cX11_writeDown 50 = .ok (.iload_n 1, 1)) ∧ (decode cX11_writeDown 51 = .ok (.iload_n 3, 1)) ∧ (decode cX11_writeDown 52 = .ok (.bipush 60, 2)) := by decide +kernel
theorem dX11_writeDown_40 : decode cX11_writeDown 40 = .ok (.astore 5, 2) := zd_376.1
theorem dX11_writeDown_42 : decode cX11_writeDown 42 = .ok (.aload 5, 2) := zd_376.2.1
theorem dX11_writeDown_44 : decode cX11_writeDown 44 = .ok (.ifnull 17, 3) := zd_376.2.2.1
theorem dX11_writeDown_47 : decode cX11_writeDown 47 = .ok (.aload_n 0, 1) := zd_376.2.2.2.1
theorem dX11_writeDown_48 : decode cX11_writeDown 48 = .ok (.aload 5, 2) := zd_376.2.2.2.2.1
theorem dX11_writeDown_50 : decode cX11_writeDown 50 = .ok (.iload_n 1, 1) := zd_376.2.2.2.2.2.1
theorem dX11_writeDown_51 : decode cX11_writeDown 51 = .ok (.iload_n 3, 1) := zd_376.2.2.2.2.2.2.1
theorem dX11_writeDown_52 : decode cX11_writeDown 52 = .ok (.bipush 60, 2) := zd_376.2.2.2.2.2.2.2
theorem zd_377 : (decode cX11_writeDown 54 = .ok (.imul, 1)) ∧ (decode cX11_writeDown 55 = .ok (.iload 4, 2)) ∧ (decode cX11_writeDown 57 = .ok (.iadd, 1)) ∧ (decode cX11_writeDown 58 = .ok (.invokevirtual 378, 3)) ∧ (decode cX11_writeDown 61 = .ok (.iinc 4 1, 3)) ∧ (decode cX11_writeDown 64 = .ok (.goto (-46), 3)) ∧ (decode cX11_writeDown 67 = .ok (.iinc 3 1, 3)) ∧ (decode cX11_writeDown 70 = .ok (.goto (-61), 3)) := by decide +kernel
theorem dX11_writeDown_54 : decode cX11_writeDown 54 = .ok (.imul, 1) := zd_377.1
theorem dX11_writeDown_55 : decode cX11_writeDown 55 = .ok (.iload 4, 2) := zd_377.2.1
theorem dX11_writeDown_57 : decode cX11_writeDown 57 = .ok (.iadd, 1) := zd_377.2.2.1
theorem dX11_writeDown_58 : decode cX11_writeDown 58 = .ok (.invokevirtual 378, 3) := zd_377.2.2.2.1
theorem dX11_writeDown_61 : decode cX11_writeDown 61 = .ok (.iinc 4 1, 3) := zd_377.2.2.2.2.1
theorem dX11_writeDown_64 : decode cX11_writeDown 64 = .ok (.goto (-46), 3) := zd_377.2.2.2.2.2.1
theorem dX11_writeDown_67 : decode cX11_writeDown 67 = .ok (.iinc 3 1, 3) := zd_377.2.2.2.2.2.2.1
theorem dX11_writeDown_70 : decode cX11_writeDown 70 = .ok (.goto (-61), 3) := zd_377.2.2.2.2.2.2.2
theorem dX11_writeDown_73 : decode cX11_writeDown 73 = .ok (.return_, 1) := by decide +kernel
theorem zd_378 : (decode cX11_writeDownItem 0 = .ok (.aload_n 1, 1)) ∧ (decode cX11_writeDownItem 1 = .ok (.getfield 382, 3)) ∧ (decode cX11_writeDownItem 4 = .ok (.iconst 0, 1)) ∧ (decode cX11_writeDownItem 5 = .ok (.iaload, 1)) ∧ (decode cX11_writeDownItem 6 = .ok (.iconst (-1), 1)) ∧ (decode cX11_writeDownItem 7 = .ok (.if_icmp .ne 33, 3)) ∧ (decode cX11_writeDownItem 10 = .ok (.iconst 0, 1)) ∧ (decode cX11_writeDownItem 11 = .ok (.istore 4, 2)) := by decide +kernel
theorem dX11_writeDownItem_0 : decode cX11_writeDownItem 0 = .ok (.aload_n 1, 1) := zd_378.1
theorem dX11_writeDownItem_1 : decode cX11_writeDownItem 1 = .ok (.getfield 382, 3) := zd_378.2.1
theorem dX11_writeDownItem_4 : decode cX11_writeDownItem 4 = .ok (.iconst 0, 1) := zd_378.2.2.1
theorem dX11_writeDownItem_5 : decode cX11_writeDownItem 5 = .ok (.iaload, 1) := zd_378.2.2.2.1
theorem dX11_writeDownItem_6 : decode cX11_writeDownItem 6 = .ok (.iconst (-1), 1) := zd_378.2.2.2.2.1
theorem dX11_writeDownItem_7 : decode cX11_writeDownItem 7 = .ok (.if_icmp .ne 33, 3) := zd_378.2.2.2.2.2.1
theorem dX11_writeDownItem_10 : decode cX11_writeDownItem 10 = .ok (.iconst 0, 1) := zd_378.2.2.2.2.2.2.1
theorem dX11_writeDownItem_11 : decode cX11_writeDownItem 11 = .ok (.istore 4, 2) := zd_378.2.2.2.2.2.2.2
theorem zd_379 : (decode cX11_writeDownItem 13 = .ok (.iload 4, 2)) ∧ (decode cX11_writeDownItem 15 = .ok (.iconst 5, 1)) ∧ (decode cX11_writeDownItem 16 = .ok (.if_icmp .ge 24, 3)) ∧ (decode cX11_writeDownItem 19 = .ok (.aload_n 1, 1)) ∧ (decode cX11_writeDownItem 20 = .ok (.getfield 382, 3)) ∧ (decode cX11_writeDownItem 23 = .ok (.iload 4, 2)) ∧ (decode cX11_writeDownItem 25 = .ok (.aload_n 0, 1)) ∧ (decode cX11_writeDownItem 26 = .ok (.iload_n 2, 1)) := by decide +kernel
theorem dX11_writeDownItem_13 : decode cX11_writeDownItem 13 = .ok (.iload 4, 2) := zd_379.1
theorem dX11_writeDownItem_15 : decode cX11_writeDownItem 15 = .ok (.iconst 5, 1) := zd_379.2.1
theorem dX11_writeDownItem_16 : decode cX11_writeDownItem 16 = .ok (.if_icmp .ge 24, 3) := zd_379.2.2.1
theorem dX11_writeDownItem_19 : decode cX11_writeDownItem 19 = .ok (.aload_n 1, 1) := zd_379.2.2.2.1
theorem dX11_writeDownItem_20 : decode cX11_writeDownItem 20 = .ok (.getfield 382, 3) := zd_379.2.2.2.2.1
theorem dX11_writeDownItem_23 : decode cX11_writeDownItem 23 = .ok (.iload 4, 2) := zd_379.2.2.2.2.2.1
theorem dX11_writeDownItem_25 : decode cX11_writeDownItem 25 = .ok (.aload_n 0, 1) := zd_379.2.2.2.2.2.2.1
theorem dX11_writeDownItem_26 : decode cX11_writeDownItem 26 = .ok (.iload_n 2, 1) := zd_379.2.2.2.2.2.2.2
theorem zd_380 : (decode cX11_writeDownItem 27 = .ok (.iload_n 3, 1)) ∧ (decode cX11_writeDownItem 28 = .ok (.iload 4, 2)) ∧ (decode cX11_writeDownItem 30 = .ok (.invokevirtual 384, 3)) ∧ (decode cX11_writeDownItem 33 = .ok (.iastore, 1)) ∧ (decode cX11_writeDownItem 34 = .ok (.iinc 4 1, 3)) ∧ (decode cX11_writeDownItem 37 = .ok (.goto (-24), 3)) ∧ (decode cX11_writeDownItem 40 = .ok (.aload_n 1, 1)) ∧ (decode cX11_writeDownItem 41 = .ok (.instanceof 104, 3)) := by decide +kernel
theorem dX11_writeDownItem_27 : decode cX11_writeDownItem 27 = .ok (.iload_n 3, 1) := zd_380.1
theorem dX11_writeDownItem_28 : decode cX11_writeDownItem 28 = .ok (.iload 4, 2) := zd_380.2.1
theorem dX11_writeDownItem_30 : decode cX11_writeDownItem 30 = .ok (.invokevirtual 384, 3) := zd_380.2.2.1
theorem dX11_writeDownItem_33 : decode cX11_writeDownItem 33 = .ok (.iastore, 1) := zd_380.2.2.2.1
theorem dX11_writeDownItem_34 : decode cX11_writeDownItem 34 = .ok (.iinc 4 1, 3) := zd_380.2.2.2.2.1
theorem dX11_writeDownItem_37 : decode cX11_writeDownItem 37 = .ok (.goto (-24), 3) := zd_380.2.2.2.2.2.1
theorem dX11_writeDownItem_40 : decode cX11_writeDownItem 40 = .ok (.aload_n 1, 1) := zd_380.2.2.2.2.2.2.1
theorem dX11_writeDownItem_41 : decode cX11_writeDownItem 41 = .ok (.instanceof 104, 3) := zd_380.2.2.2.2.2.2.2
theorem zd_381 : (decode cX11_writeDownItem 44 = .ok (.ifCond .eq 20, 3)) ∧ (decode cX11_writeDownItem 47 = .ok (.aload_n 1, 1)) ∧ (decode cX11_writeDownItem 48 = .ok (.checkcast 104, 3)) ∧ (decode cX11_writeDownItem 51 = .ok (.astore 4, 2)) ∧ (decode cX11_writeDownItem 53 = .ok (.aload 4, 2)) ∧ (decode cX11_writeDownItem 55 = .ok (.getfield 388, 3)) ∧ (decode cX11_writeDownItem 58 = .ok (.aload_n 0, 1)) ∧ (decode cX11_writeDownItem 59 = .ok (.getfield 41, 3)) := by decide +kernel
theorem dX11_writeDownItem_44 : decode cX11_writeDownItem 44 = .ok (.ifCond .eq 20, 3) := zd_381.1
theorem dX11_writeDownItem_47 : decode cX11_writeDownItem 47 = .ok (.aload_n 1, 1) := zd_381.2.1
theorem dX11_writeDownItem_48 : decode cX11_writeDownItem 48 = .ok (.checkcast 104, 3) := zd_381.2.2.1
theorem dX11_writeDownItem_51 : decode cX11_writeDownItem 51 = .ok (.astore 4, 2) := zd_381.2.2.2.1
theorem dX11_writeDownItem_53 : decode cX11_writeDownItem 53 = .ok (.aload 4, 2) := zd_381.2.2.2.2.1
theorem dX11_writeDownItem_55 : decode cX11_writeDownItem 55 = .ok (.getfield 388, 3) := zd_381.2.2.2.2.2.1
theorem dX11_writeDownItem_58 : decode cX11_writeDownItem 58 = .ok (.aload_n 0, 1) := zd_381.2.2.2.2.2.2.1
theorem dX11_writeDownItem_59 : decode cX11_writeDownItem 59 = .ok (.getfield 41, 3) := zd_381.2.2.2.2.2.2.2
theorem zd_382 : (decode cX11_writeDownItem 62 = .ok (.iconst 1, 1)) ∧ (decode cX11_writeDownItem 63 = .ok (.bastore, 1)) ∧ (decode cX11_writeDownItem 64 = .ok (.return_, 1)) := by decide +kernel
theorem dX11_writeDownItem_62 : decode cX11_writeDownItem 62 = .ok (.iconst 1, 1) := zd_382.1
theorem dX11_writeDownItem_63 : decode cX11_writeDownItem 63 = .ok (.bastore, 1) := zd_382.2.1
theorem dX11_writeDownItem_64 : decode cX11_writeDownItem 64 = .ok (.return_, 1) := zd_382.2.2
theorem zd_383 : (decode cX11_plateFact 0 = .ok (.iload_n 3, 1)) ∧ (decode cX11_plateFact 1 = .ok (.tableswitch 67 0 4 #[35, 45, 55, 57, 62], 35)) ∧ (decode cX11_plateFact 36 = .ok (.aload_n 0, 1)) ∧ (decode cX11_plateFact 37 = .ok (.getfield 15, 3)) ∧ (decode cX11_plateFact 40 = .ok (.iload_n 1, 1)) ∧ (decode cX11_plateFact 41 = .ok (.aaload, 1)) ∧ (decode cX11_plateFact 42 = .ok (.getfield 210, 3)) ∧ (decode cX11_plateFact 45 = .ok (.ireturn, 1)) := by decide +kernel
theorem dX11_plateFact_0 : decode cX11_plateFact 0 = .ok (.iload_n 3, 1) := zd_383.1
theorem dX11_plateFact_1 : decode cX11_plateFact 1 = .ok (.tableswitch 67 0 4 #[35, 45, 55, 57, 62], 35) := zd_383.2.1
theorem dX11_plateFact_36 : decode cX11_plateFact 36 = .ok (.aload_n 0, 1) := zd_383.2.2.1
theorem dX11_plateFact_37 : decode cX11_plateFact 37 = .ok (.getfield 15, 3) := zd_383.2.2.2.1
theorem dX11_plateFact_40 : decode cX11_plateFact 40 = .ok (.iload_n 1, 1) := zd_383.2.2.2.2.1
theorem dX11_plateFact_41 : decode cX11_plateFact 41 = .ok (.aaload, 1) := zd_383.2.2.2.2.2.1
theorem dX11_plateFact_42 : decode cX11_plateFact 42 = .ok (.getfield 210, 3) := zd_383.2.2.2.2.2.2.1
theorem dX11_plateFact_45 : decode cX11_plateFact 45 = .ok (.ireturn, 1) := zd_383.2.2.2.2.2.2.2
theorem zd_384 : (decode cX11_plateFact 46 = .ok (.aload_n 0, 1)) ∧ (decode cX11_plateFact 47 = .ok (.getfield 15, 3)) ∧ (decode cX11_plateFact 50 = .ok (.iload_n 1, 1)) ∧ (decode cX11_plateFact 51 = .ok (.aaload, 1)) ∧ (decode cX11_plateFact 52 = .ok (.getfield 213, 3)) ∧ (decode cX11_plateFact 55 = .ok (.ireturn, 1)) ∧ (decode cX11_plateFact 56 = .ok (.iload_n 1, 1)) ∧ (decode cX11_plateFact 57 = .ok (.ireturn, 1)) := by decide +kernel
theorem dX11_plateFact_46 : decode cX11_plateFact 46 = .ok (.aload_n 0, 1) := zd_384.1
theorem dX11_plateFact_47 : decode cX11_plateFact 47 = .ok (.getfield 15, 3) := zd_384.2.1
theorem dX11_plateFact_50 : decode cX11_plateFact 50 = .ok (.iload_n 1, 1) := zd_384.2.2.1
theorem dX11_plateFact_51 : decode cX11_plateFact 51 = .ok (.aaload, 1) := zd_384.2.2.2.1
theorem dX11_plateFact_52 : decode cX11_plateFact 52 = .ok (.getfield 213, 3) := zd_384.2.2.2.2.1
theorem dX11_plateFact_55 : decode cX11_plateFact 55 = .ok (.ireturn, 1) := zd_384.2.2.2.2.2.1
theorem dX11_plateFact_56 : decode cX11_plateFact 56 = .ok (.iload_n 1, 1) := zd_384.2.2.2.2.2.2.1
theorem dX11_plateFact_57 : decode cX11_plateFact 57 = .ok (.ireturn, 1) := zd_384.2.2.2.2.2.2.2
theorem zd_385 : (decode cX11_plateFact 58 = .ok (.iload_n 2, 1)) ∧ (decode cX11_plateFact 59 = .ok (.bipush 60, 2)) ∧ (decode cX11_plateFact 61 = .ok (.idiv, 1)) ∧ (decode cX11_plateFact 62 = .ok (.ireturn, 1)) ∧ (decode cX11_plateFact 63 = .ok (.iload_n 2, 1)) ∧ (decode cX11_plateFact 64 = .ok (.bipush 60, 2)) ∧ (decode cX11_plateFact 66 = .ok (.irem, 1)) ∧ (decode cX11_plateFact 67 = .ok (.ireturn, 1)) := by decide +kernel
theorem dX11_plateFact_58 : decode cX11_plateFact 58 = .ok (.iload_n 2, 1) := zd_385.1
theorem dX11_plateFact_59 : decode cX11_plateFact 59 = .ok (.bipush 60, 2) := zd_385.2.1
theorem dX11_plateFact_61 : decode cX11_plateFact 61 = .ok (.idiv, 1) := zd_385.2.2.1
theorem dX11_plateFact_62 : decode cX11_plateFact 62 = .ok (.ireturn, 1) := zd_385.2.2.2.1
theorem dX11_plateFact_63 : decode cX11_plateFact 63 = .ok (.iload_n 2, 1) := zd_385.2.2.2.2.1
theorem dX11_plateFact_64 : decode cX11_plateFact 64 = .ok (.bipush 60, 2) := zd_385.2.2.2.2.2.1
theorem dX11_plateFact_66 : decode cX11_plateFact 66 = .ok (.irem, 1) := zd_385.2.2.2.2.2.2.1
theorem dX11_plateFact_67 : decode cX11_plateFact 67 = .ok (.ireturn, 1) := zd_385.2.2.2.2.2.2.2
theorem zd_386 : (decode cX11_plateFact 68 = .ok (.iconst (-1), 1)) ∧ (decode cX11_plateFact 69 = .ok (.ireturn, 1)) := by decide +kernel
theorem dX11_plateFact_68 : decode cX11_plateFact 68 = .ok (.iconst (-1), 1) := zd_386.1
theorem dX11_plateFact_69 : decode cX11_plateFact 69 = .ok (.ireturn, 1) := zd_386.2
theorem zd_387 : (decode cX11_firstPrinting 0 = .ok (.iload_n 2, 1)) ∧ (decode cX11_firstPrinting 1 = .ok (.iconst 0, 1)) ∧ (decode cX11_firstPrinting 2 = .ok (.iconst 4, 1)) ∧ (decode cX11_firstPrinting 3 = .ok (.invokestatic 55, 3)) ∧ (decode cX11_firstPrinting 6 = .ok (.ifCond .ne 5, 3)) ∧ (decode cX11_firstPrinting 9 = .ok (.iconst (-1), 1)) ∧ (decode cX11_firstPrinting 10 = .ok (.ireturn, 1)) ∧ (decode cX11_firstPrinting 11 = .ok (.aload_n 1, 1)) := by decide +kernel
theorem dX11_firstPrinting_0 : decode cX11_firstPrinting 0 = .ok (.iload_n 2, 1) := zd_387.1
theorem dX11_firstPrinting_1 : decode cX11_firstPrinting 1 = .ok (.iconst 0, 1) := zd_387.2.1
theorem dX11_firstPrinting_2 : decode cX11_firstPrinting 2 = .ok (.iconst 4, 1) := zd_387.2.2.1
theorem dX11_firstPrinting_3 : decode cX11_firstPrinting 3 = .ok (.invokestatic 55, 3) := zd_387.2.2.2.1
theorem dX11_firstPrinting_6 : decode cX11_firstPrinting 6 = .ok (.ifCond .ne 5, 3) := zd_387.2.2.2.2.1
theorem dX11_firstPrinting_9 : decode cX11_firstPrinting 9 = .ok (.iconst (-1), 1) := zd_387.2.2.2.2.2.1
theorem dX11_firstPrinting_10 : decode cX11_firstPrinting 10 = .ok (.ireturn, 1) := zd_387.2.2.2.2.2.2.1
theorem dX11_firstPrinting_11 : decode cX11_firstPrinting 11 = .ok (.aload_n 1, 1) := zd_387.2.2.2.2.2.2.2
theorem zd_388 : (decode cX11_firstPrinting 12 = .ok (.getfield 382, 3)) ∧ (decode cX11_firstPrinting 15 = .ok (.iconst 0, 1)) ∧ (decode cX11_firstPrinting 16 = .ok (.iaload, 1)) ∧ (decode cX11_firstPrinting 17 = .ok (.iconst (-1), 1)) ∧ (decode cX11_firstPrinting 18 = .ok (.if_icmp .eq 10, 3)) ∧ (decode cX11_firstPrinting 21 = .ok (.aload_n 1, 1)) ∧ (decode cX11_firstPrinting 22 = .ok (.getfield 382, 3)) ∧ (decode cX11_firstPrinting 25 = .ok (.iload_n 2, 1)) := by decide +kernel
theorem dX11_firstPrinting_12 : decode cX11_firstPrinting 12 = .ok (.getfield 382, 3) := zd_388.1
theorem dX11_firstPrinting_15 : decode cX11_firstPrinting 15 = .ok (.iconst 0, 1) := zd_388.2.1
theorem dX11_firstPrinting_16 : decode cX11_firstPrinting 16 = .ok (.iaload, 1) := zd_388.2.2.1
theorem dX11_firstPrinting_17 : decode cX11_firstPrinting 17 = .ok (.iconst (-1), 1) := zd_388.2.2.2.1
theorem dX11_firstPrinting_18 : decode cX11_firstPrinting 18 = .ok (.if_icmp .eq 10, 3) := zd_388.2.2.2.2.1
theorem dX11_firstPrinting_21 : decode cX11_firstPrinting 21 = .ok (.aload_n 1, 1) := zd_388.2.2.2.2.2.1
theorem dX11_firstPrinting_22 : decode cX11_firstPrinting 22 = .ok (.getfield 382, 3) := zd_388.2.2.2.2.2.2.1
theorem dX11_firstPrinting_25 : decode cX11_firstPrinting 25 = .ok (.iload_n 2, 1) := zd_388.2.2.2.2.2.2.2
theorem zd_389 : (decode cX11_firstPrinting 26 = .ok (.iaload, 1)) ∧ (decode cX11_firstPrinting 27 = .ok (.ireturn, 1)) ∧ (decode cX11_firstPrinting 28 = .ok (.iconst 0, 1)) ∧ (decode cX11_firstPrinting 29 = .ok (.istore_n 3, 1)) ∧ (decode cX11_firstPrinting 30 = .ok (.iload_n 3, 1)) ∧ (decode cX11_firstPrinting 31 = .ok (.bipush 12, 2)) ∧ (decode cX11_firstPrinting 33 = .ok (.if_icmp .ge 51, 3)) ∧ (decode cX11_firstPrinting 36 = .ok (.aload_n 0, 1)) := by decide +kernel
theorem dX11_firstPrinting_26 : decode cX11_firstPrinting 26 = .ok (.iaload, 1) := zd_389.1
theorem dX11_firstPrinting_27 : decode cX11_firstPrinting 27 = .ok (.ireturn, 1) := zd_389.2.1
theorem dX11_firstPrinting_28 : decode cX11_firstPrinting 28 = .ok (.iconst 0, 1) := zd_389.2.2.1
theorem dX11_firstPrinting_29 : decode cX11_firstPrinting 29 = .ok (.istore_n 3, 1) := zd_389.2.2.2.1
theorem dX11_firstPrinting_30 : decode cX11_firstPrinting 30 = .ok (.iload_n 3, 1) := zd_389.2.2.2.2.1
theorem dX11_firstPrinting_31 : decode cX11_firstPrinting 31 = .ok (.bipush 12, 2) := zd_389.2.2.2.2.2.1
theorem dX11_firstPrinting_33 : decode cX11_firstPrinting 33 = .ok (.if_icmp .ge 51, 3) := zd_389.2.2.2.2.2.2.1
theorem dX11_firstPrinting_36 : decode cX11_firstPrinting 36 = .ok (.aload_n 0, 1) := zd_389.2.2.2.2.2.2.2
theorem zd_390 : (decode cX11_firstPrinting 37 = .ok (.iload_n 3, 1)) ∧ (decode cX11_firstPrinting 38 = .ok (.invokevirtual 372, 3)) ∧ (decode cX11_firstPrinting 41 = .ok (.ifCond .eq 19, 3)) ∧ (decode cX11_firstPrinting 44 = .ok (.aload_n 0, 1)) ∧ (decode cX11_firstPrinting 45 = .ok (.getfield 15, 3)) ∧ (decode cX11_firstPrinting 48 = .ok (.iload_n 3, 1)) ∧ (decode cX11_firstPrinting 49 = .ok (.aaload, 1)) ∧ (decode cX11_firstPrinting 50 = .ok (.aload_n 1, 1)) := by decide +kernel
theorem dX11_firstPrinting_37 : decode cX11_firstPrinting 37 = .ok (.iload_n 3, 1) := zd_390.1
theorem dX11_firstPrinting_38 : decode cX11_firstPrinting 38 = .ok (.invokevirtual 372, 3) := zd_390.2.1
theorem dX11_firstPrinting_41 : decode cX11_firstPrinting 41 = .ok (.ifCond .eq 19, 3) := zd_390.2.2.1
theorem dX11_firstPrinting_44 : decode cX11_firstPrinting 44 = .ok (.aload_n 0, 1) := zd_390.2.2.2.1
theorem dX11_firstPrinting_45 : decode cX11_firstPrinting 45 = .ok (.getfield 15, 3) := zd_390.2.2.2.2.1
theorem dX11_firstPrinting_48 : decode cX11_firstPrinting 48 = .ok (.iload_n 3, 1) := zd_390.2.2.2.2.2.1
theorem dX11_firstPrinting_49 : decode cX11_firstPrinting 49 = .ok (.aaload, 1) := zd_390.2.2.2.2.2.2.1
theorem dX11_firstPrinting_50 : decode cX11_firstPrinting 50 = .ok (.aload_n 1, 1) := zd_390.2.2.2.2.2.2.2
theorem zd_391 : (decode cX11_firstPrinting 51 = .ok (.getfield 285, 3)) ∧ (decode cX11_firstPrinting 54 = .ok (.invokevirtual 391, 3)) ∧ (decode cX11_firstPrinting 57 = .ok (.goto 4, 3)) ∧ (decode cX11_firstPrinting 60 = .ok (.iconst (-1), 1)) ∧ (decode cX11_firstPrinting 61 = .ok (.istore 4, 2)) ∧ (decode cX11_firstPrinting 63 = .ok (.iload 4, 2)) ∧ (decode cX11_firstPrinting 65 = .ok (.iconst (-1), 1)) ∧ (decode cX11_firstPrinting 66 = .ok (.if_icmp .eq 12, 3)) := by decide +kernel
theorem dX11_firstPrinting_51 : decode cX11_firstPrinting 51 = .ok (.getfield 285, 3) := zd_391.1
theorem dX11_firstPrinting_54 : decode cX11_firstPrinting 54 = .ok (.invokevirtual 391, 3) := zd_391.2.1
theorem dX11_firstPrinting_57 : decode cX11_firstPrinting 57 = .ok (.goto 4, 3) := zd_391.2.2.1
theorem dX11_firstPrinting_60 : decode cX11_firstPrinting 60 = .ok (.iconst (-1), 1) := zd_391.2.2.2.1
theorem dX11_firstPrinting_61 : decode cX11_firstPrinting 61 = .ok (.istore 4, 2) := zd_391.2.2.2.2.1
theorem dX11_firstPrinting_63 : decode cX11_firstPrinting 63 = .ok (.iload 4, 2) := zd_391.2.2.2.2.2.1
theorem dX11_firstPrinting_65 : decode cX11_firstPrinting 65 = .ok (.iconst (-1), 1) := zd_391.2.2.2.2.2.2.1
theorem dX11_firstPrinting_66 : decode cX11_firstPrinting 66 = .ok (.if_icmp .eq 12, 3) := zd_391.2.2.2.2.2.2.2
theorem zd_392 : (decode cX11_firstPrinting 69 = .ok (.aload_n 0, 1)) ∧ (decode cX11_firstPrinting 70 = .ok (.iload_n 3, 1)) ∧ (decode cX11_firstPrinting 71 = .ok (.iload 4, 2)) ∧ (decode cX11_firstPrinting 73 = .ok (.iload_n 2, 1)) ∧ (decode cX11_firstPrinting 74 = .ok (.invokevirtual 384, 3)) ∧ (decode cX11_firstPrinting 77 = .ok (.ireturn, 1)) ∧ (decode cX11_firstPrinting 78 = .ok (.iinc 3 1, 3)) ∧ (decode cX11_firstPrinting 81 = .ok (.goto (-51), 3)) := by decide +kernel
theorem dX11_firstPrinting_69 : decode cX11_firstPrinting 69 = .ok (.aload_n 0, 1) := zd_392.1
theorem dX11_firstPrinting_70 : decode cX11_firstPrinting 70 = .ok (.iload_n 3, 1) := zd_392.2.1
theorem dX11_firstPrinting_71 : decode cX11_firstPrinting 71 = .ok (.iload 4, 2) := zd_392.2.2.1
theorem dX11_firstPrinting_73 : decode cX11_firstPrinting 73 = .ok (.iload_n 2, 1) := zd_392.2.2.2.1
theorem dX11_firstPrinting_74 : decode cX11_firstPrinting 74 = .ok (.invokevirtual 384, 3) := zd_392.2.2.2.2.1
theorem dX11_firstPrinting_77 : decode cX11_firstPrinting 77 = .ok (.ireturn, 1) := zd_392.2.2.2.2.2.1
theorem dX11_firstPrinting_78 : decode cX11_firstPrinting 78 = .ok (.iinc 3 1, 3) := zd_392.2.2.2.2.2.2.1
theorem dX11_firstPrinting_81 : decode cX11_firstPrinting 81 = .ok (.goto (-51), 3) := zd_392.2.2.2.2.2.2.2
theorem zd_393 : (decode cX11_firstPrinting 84 = .ok (.iconst (-1), 1)) ∧ (decode cX11_firstPrinting 85 = .ok (.ireturn, 1)) := by decide +kernel
theorem dX11_firstPrinting_84 : decode cX11_firstPrinting 84 = .ok (.iconst (-1), 1) := zd_393.1
theorem dX11_firstPrinting_85 : decode cX11_firstPrinting 85 = .ok (.ireturn, 1) := zd_393.2
theorem zd_394 : (decode cX11_wasPrintedOn 0 = .ok (.aload_n 1, 1)) ∧ (decode cX11_wasPrintedOn 1 = .ok (.getfield 388, 3)) ∧ (decode cX11_wasPrintedOn 4 = .ok (.iload_n 2, 1)) ∧ (decode cX11_wasPrintedOn 5 = .ok (.baload, 1)) ∧ (decode cX11_wasPrintedOn 6 = .ok (.ifCond .eq 5, 3)) ∧ (decode cX11_wasPrintedOn 9 = .ok (.iconst 1, 1)) ∧ (decode cX11_wasPrintedOn 10 = .ok (.ireturn, 1)) ∧ (decode cX11_wasPrintedOn 11 = .ok (.aload_n 1, 1)) := by decide +kernel
theorem dX11_wasPrintedOn_0 : decode cX11_wasPrintedOn 0 = .ok (.aload_n 1, 1) := zd_394.1
theorem dX11_wasPrintedOn_1 : decode cX11_wasPrintedOn 1 = .ok (.getfield 388, 3) := zd_394.2.1
theorem dX11_wasPrintedOn_4 : decode cX11_wasPrintedOn 4 = .ok (.iload_n 2, 1) := zd_394.2.2.1
theorem dX11_wasPrintedOn_5 : decode cX11_wasPrintedOn 5 = .ok (.baload, 1) := zd_394.2.2.2.1
theorem dX11_wasPrintedOn_6 : decode cX11_wasPrintedOn 6 = .ok (.ifCond .eq 5, 3) := zd_394.2.2.2.2.1
theorem dX11_wasPrintedOn_9 : decode cX11_wasPrintedOn 9 = .ok (.iconst 1, 1) := zd_394.2.2.2.2.2.1
theorem dX11_wasPrintedOn_10 : decode cX11_wasPrintedOn 10 = .ok (.ireturn, 1) := zd_394.2.2.2.2.2.2.1
theorem dX11_wasPrintedOn_11 : decode cX11_wasPrintedOn 11 = .ok (.aload_n 1, 1) := zd_394.2.2.2.2.2.2.2
theorem zd_395 : (decode cX11_wasPrintedOn 12 = .ok (.getfield 394, 3)) ∧ (decode cX11_wasPrintedOn 15 = .ok (.getfield 229, 3)) ∧ (decode cX11_wasPrintedOn 18 = .ok (.istore_n 3, 1)) ∧ (decode cX11_wasPrintedOn 19 = .ok (.iload_n 2, 1)) ∧ (decode cX11_wasPrintedOn 20 = .ok (.aload_n 0, 1)) ∧ (decode cX11_wasPrintedOn 21 = .ok (.getfield 41, 3)) ∧ (decode cX11_wasPrintedOn 24 = .ok (.if_icmp .ne 32, 3)) ∧ (decode cX11_wasPrintedOn 27 = .ok (.aload_n 0, 1)) := by decide +kernel
theorem dX11_wasPrintedOn_12 : decode cX11_wasPrintedOn 12 = .ok (.getfield 394, 3) := zd_395.1
theorem dX11_wasPrintedOn_15 : decode cX11_wasPrintedOn 15 = .ok (.getfield 229, 3) := zd_395.2.1
theorem dX11_wasPrintedOn_18 : decode cX11_wasPrintedOn 18 = .ok (.istore_n 3, 1) := zd_395.2.2.1
theorem dX11_wasPrintedOn_19 : decode cX11_wasPrintedOn 19 = .ok (.iload_n 2, 1) := zd_395.2.2.2.1
theorem dX11_wasPrintedOn_20 : decode cX11_wasPrintedOn 20 = .ok (.aload_n 0, 1) := zd_395.2.2.2.2.1
theorem dX11_wasPrintedOn_21 : decode cX11_wasPrintedOn 21 = .ok (.getfield 41, 3) := zd_395.2.2.2.2.2.1
theorem dX11_wasPrintedOn_24 : decode cX11_wasPrintedOn 24 = .ok (.if_icmp .ne 32, 3) := zd_395.2.2.2.2.2.2.1
theorem dX11_wasPrintedOn_27 : decode cX11_wasPrintedOn 27 = .ok (.aload_n 0, 1) := zd_395.2.2.2.2.2.2.2
theorem zd_396 : (decode cX11_wasPrintedOn 28 = .ok (.iload_n 3, 1)) ∧ (decode cX11_wasPrintedOn 29 = .ok (.invokevirtual 372, 3)) ∧ (decode cX11_wasPrintedOn 32 = .ok (.ifCond .eq 24, 3)) ∧ (decode cX11_wasPrintedOn 35 = .ok (.aload_n 0, 1)) ∧ (decode cX11_wasPrintedOn 36 = .ok (.getfield 15, 3)) ∧ (decode cX11_wasPrintedOn 39 = .ok (.iload_n 3, 1)) ∧ (decode cX11_wasPrintedOn 40 = .ok (.aaload, 1)) ∧ (decode cX11_wasPrintedOn 41 = .ok (.aload_n 1, 1)) := by decide +kernel
theorem dX11_wasPrintedOn_28 : decode cX11_wasPrintedOn 28 = .ok (.iload_n 3, 1) := zd_396.1
theorem dX11_wasPrintedOn_29 : decode cX11_wasPrintedOn 29 = .ok (.invokevirtual 372, 3) := zd_396.2.1
theorem dX11_wasPrintedOn_32 : decode cX11_wasPrintedOn 32 = .ok (.ifCond .eq 24, 3) := zd_396.2.2.1
theorem dX11_wasPrintedOn_35 : decode cX11_wasPrintedOn 35 = .ok (.aload_n 0, 1) := zd_396.2.2.2.1
theorem dX11_wasPrintedOn_36 : decode cX11_wasPrintedOn 36 = .ok (.getfield 15, 3) := zd_396.2.2.2.2.1
theorem dX11_wasPrintedOn_39 : decode cX11_wasPrintedOn 39 = .ok (.iload_n 3, 1) := zd_396.2.2.2.2.2.1
theorem dX11_wasPrintedOn_40 : decode cX11_wasPrintedOn 40 = .ok (.aaload, 1) := zd_396.2.2.2.2.2.2.1
theorem dX11_wasPrintedOn_41 : decode cX11_wasPrintedOn 41 = .ok (.aload_n 1, 1) := zd_396.2.2.2.2.2.2.2
theorem zd_397 : (decode cX11_wasPrintedOn 42 = .ok (.getfield 397, 3)) ∧ (decode cX11_wasPrintedOn 45 = .ok (.invokevirtual 391, 3)) ∧ (decode cX11_wasPrintedOn 48 = .ok (.iconst (-1), 1)) ∧ (decode cX11_wasPrintedOn 49 = .ok (.if_icmp .eq 7, 3)) ∧ (decode cX11_wasPrintedOn 52 = .ok (.iconst 1, 1)) ∧ (decode cX11_wasPrintedOn 53 = .ok (.goto 4, 3)) ∧ (decode cX11_wasPrintedOn 56 = .ok (.iconst 0, 1)) ∧ (decode cX11_wasPrintedOn 57 = .ok (.ireturn, 1)) := by decide +kernel
theorem dX11_wasPrintedOn_42 : decode cX11_wasPrintedOn 42 = .ok (.getfield 397, 3) := zd_397.1
theorem dX11_wasPrintedOn_45 : decode cX11_wasPrintedOn 45 = .ok (.invokevirtual 391, 3) := zd_397.2.1
theorem dX11_wasPrintedOn_48 : decode cX11_wasPrintedOn 48 = .ok (.iconst (-1), 1) := zd_397.2.2.1
theorem dX11_wasPrintedOn_49 : decode cX11_wasPrintedOn 49 = .ok (.if_icmp .eq 7, 3) := zd_397.2.2.2.1
theorem dX11_wasPrintedOn_52 : decode cX11_wasPrintedOn 52 = .ok (.iconst 1, 1) := zd_397.2.2.2.2.1
theorem dX11_wasPrintedOn_53 : decode cX11_wasPrintedOn 53 = .ok (.goto 4, 3) := zd_397.2.2.2.2.2.1
theorem dX11_wasPrintedOn_56 : decode cX11_wasPrintedOn 56 = .ok (.iconst 0, 1) := zd_397.2.2.2.2.2.2.1
theorem dX11_wasPrintedOn_57 : decode cX11_wasPrintedOn 57 = .ok (.ireturn, 1) := zd_397.2.2.2.2.2.2.2
theorem zd_398 : (decode cX12_init 0 = .ok (.aload_n 0, 1)) ∧ (decode cX12_init 1 = .ok (.invokespecial 1, 3)) ∧ (decode cX12_init 4 = .ok (.aload_n 0, 1)) ∧ (decode cX12_init 5 = .ok (.bipush 96, 2)) ∧ (decode cX12_init 7 = .ok (.newarray .int, 2)) ∧ (decode cX12_init 9 = .ok (.putfield 7, 3)) ∧ (decode cX12_init 12 = .ok (.aload_n 0, 1)) ∧ (decode cX12_init 13 = .ok (.bipush 12, 2)) := by decide +kernel
theorem dX12_init_0 : decode cX12_init 0 = .ok (.aload_n 0, 1) := zd_398.1
theorem dX12_init_1 : decode cX12_init 1 = .ok (.invokespecial 1, 3) := zd_398.2.1
theorem dX12_init_4 : decode cX12_init 4 = .ok (.aload_n 0, 1) := zd_398.2.2.1
theorem dX12_init_5 : decode cX12_init 5 = .ok (.bipush 96, 2) := zd_398.2.2.2.1
theorem dX12_init_7 : decode cX12_init 7 = .ok (.newarray .int, 2) := zd_398.2.2.2.2.1
theorem dX12_init_9 : decode cX12_init 9 = .ok (.putfield 7, 3) := zd_398.2.2.2.2.2.1
theorem dX12_init_12 : decode cX12_init 12 = .ok (.aload_n 0, 1) := zd_398.2.2.2.2.2.2.1
theorem dX12_init_13 : decode cX12_init 13 = .ok (.bipush 12, 2) := zd_398.2.2.2.2.2.2.2
theorem zd_399 : (decode cX12_init 15 = .ok (.newarray .int, 2)) ∧ (decode cX12_init 17 = .ok (.putfield 13, 3)) ∧ (decode cX12_init 20 = .ok (.aload_n 0, 1)) ∧ (decode cX12_init 21 = .ok (.sipush 5760, 3)) ∧ (decode cX12_init 24 = .ok (.newarray .int, 2)) ∧ (decode cX12_init 26 = .ok (.putfield 16, 3)) ∧ (decode cX12_init 29 = .ok (.aload_n 0, 1)) ∧ (decode cX12_init 30 = .ok (.bipush 80, 2)) := by decide +kernel
theorem dX12_init_15 : decode cX12_init 15 = .ok (.newarray .int, 2) := zd_399.1
theorem dX12_init_17 : decode cX12_init 17 = .ok (.putfield 13, 3) := zd_399.2.1
theorem dX12_init_20 : decode cX12_init 20 = .ok (.aload_n 0, 1) := zd_399.2.2.1
theorem dX12_init_21 : decode cX12_init 21 = .ok (.sipush 5760, 3) := zd_399.2.2.2.1
theorem dX12_init_24 : decode cX12_init 24 = .ok (.newarray .int, 2) := zd_399.2.2.2.2.1
theorem dX12_init_26 : decode cX12_init 26 = .ok (.putfield 16, 3) := zd_399.2.2.2.2.2.1
theorem dX12_init_29 : decode cX12_init 29 = .ok (.aload_n 0, 1) := zd_399.2.2.2.2.2.2.1
theorem dX12_init_30 : decode cX12_init 30 = .ok (.bipush 80, 2) := zd_399.2.2.2.2.2.2.2
theorem zd_400 : (decode cX12_init 32 = .ok (.newarray .int, 2)) ∧ (decode cX12_init 34 = .ok (.putfield 19, 3)) ∧ (decode cX12_init 37 = .ok (.aload_n 0, 1)) ∧ (decode cX12_init 38 = .ok (.bipush 80, 2)) ∧ (decode cX12_init 40 = .ok (.newarray .int, 2)) ∧ (decode cX12_init 42 = .ok (.putfield 22, 3)) ∧ (decode cX12_init 45 = .ok (.aload_n 0, 1)) ∧ (decode cX12_init 46 = .ok (.bipush 80, 2)) := by decide +kernel
theorem dX12_init_32 : decode cX12_init 32 = .ok (.newarray .int, 2) := zd_400.1
theorem dX12_init_34 : decode cX12_init 34 = .ok (.putfield 19, 3) := zd_400.2.1
theorem dX12_init_37 : decode cX12_init 37 = .ok (.aload_n 0, 1) := zd_400.2.2.1
theorem dX12_init_38 : decode cX12_init 38 = .ok (.bipush 80, 2) := zd_400.2.2.2.1
theorem dX12_init_40 : decode cX12_init 40 = .ok (.newarray .int, 2) := zd_400.2.2.2.2.1
theorem dX12_init_42 : decode cX12_init 42 = .ok (.putfield 22, 3) := zd_400.2.2.2.2.2.1
theorem dX12_init_45 : decode cX12_init 45 = .ok (.aload_n 0, 1) := zd_400.2.2.2.2.2.2.1
theorem dX12_init_46 : decode cX12_init 46 = .ok (.bipush 80, 2) := zd_400.2.2.2.2.2.2.2
theorem zd_401 : (decode cX12_init 48 = .ok (.newarray .int, 2)) ∧ (decode cX12_init 50 = .ok (.putfield 25, 3)) ∧ (decode cX12_init 53 = .ok (.aload_n 0, 1)) ∧ (decode cX12_init 54 = .ok (.bipush 80, 2)) ∧ (decode cX12_init 56 = .ok (.newarray .int, 2)) ∧ (decode cX12_init 58 = .ok (.putfield 28, 3)) ∧ (decode cX12_init 61 = .ok (.aload_n 0, 1)) ∧ (decode cX12_init 62 = .ok (.bipush 80, 2)) := by decide +kernel
theorem dX12_init_48 : decode cX12_init 48 = .ok (.newarray .int, 2) := zd_401.1
theorem dX12_init_50 : decode cX12_init 50 = .ok (.putfield 25, 3) := zd_401.2.1
theorem dX12_init_53 : decode cX12_init 53 = .ok (.aload_n 0, 1) := zd_401.2.2.1
theorem dX12_init_54 : decode cX12_init 54 = .ok (.bipush 80, 2) := zd_401.2.2.2.1
theorem dX12_init_56 : decode cX12_init 56 = .ok (.newarray .int, 2) := zd_401.2.2.2.2.1
theorem dX12_init_58 : decode cX12_init 58 = .ok (.putfield 28, 3) := zd_401.2.2.2.2.2.1
theorem dX12_init_61 : decode cX12_init 61 = .ok (.aload_n 0, 1) := zd_401.2.2.2.2.2.2.1
theorem dX12_init_62 : decode cX12_init 62 = .ok (.bipush 80, 2) := zd_401.2.2.2.2.2.2.2
theorem zd_402 : (decode cX12_init 64 = .ok (.newarray .int, 2)) ∧ (decode cX12_init 66 = .ok (.putfield 31, 3)) ∧ (decode cX12_init 69 = .ok (.aload_n 0, 1)) ∧ (decode cX12_init 70 = .ok (.bipush 80, 2)) ∧ (decode cX12_init 72 = .ok (.newarray .int, 2)) ∧ (decode cX12_init 74 = .ok (.putfield 34, 3)) ∧ (decode cX12_init 77 = .ok (.aload_n 0, 1)) ∧ (decode cX12_init 78 = .ok (.bipush 80, 2)) := by decide +kernel
theorem dX12_init_64 : decode cX12_init 64 = .ok (.newarray .int, 2) := zd_402.1
theorem dX12_init_66 : decode cX12_init 66 = .ok (.putfield 31, 3) := zd_402.2.1
theorem dX12_init_69 : decode cX12_init 69 = .ok (.aload_n 0, 1) := zd_402.2.2.1
theorem dX12_init_70 : decode cX12_init 70 = .ok (.bipush 80, 2) := zd_402.2.2.2.1
theorem dX12_init_72 : decode cX12_init 72 = .ok (.newarray .int, 2) := zd_402.2.2.2.2.1
theorem dX12_init_74 : decode cX12_init 74 = .ok (.putfield 34, 3) := zd_402.2.2.2.2.2.1
theorem dX12_init_77 : decode cX12_init 77 = .ok (.aload_n 0, 1) := zd_402.2.2.2.2.2.2.1
theorem dX12_init_78 : decode cX12_init 78 = .ok (.bipush 80, 2) := zd_402.2.2.2.2.2.2.2
theorem zd_403 : (decode cX12_init 80 = .ok (.newarray .int, 2)) ∧ (decode cX12_init 82 = .ok (.putfield 37, 3)) ∧ (decode cX12_init 85 = .ok (.aload_n 0, 1)) ∧ (decode cX12_init 86 = .ok (.bipush 80, 2)) ∧ (decode cX12_init 88 = .ok (.newarray .int, 2)) ∧ (decode cX12_init 90 = .ok (.putfield 40, 3)) ∧ (decode cX12_init 93 = .ok (.aload_n 0, 1)) ∧ (decode cX12_init 94 = .ok (.bipush 80, 2)) := by decide +kernel
theorem dX12_init_80 : decode cX12_init 80 = .ok (.newarray .int, 2) := zd_403.1
theorem dX12_init_82 : decode cX12_init 82 = .ok (.putfield 37, 3) := zd_403.2.1
theorem dX12_init_85 : decode cX12_init 85 = .ok (.aload_n 0, 1) := zd_403.2.2.1
theorem dX12_init_86 : decode cX12_init 86 = .ok (.bipush 80, 2) := zd_403.2.2.2.1
theorem dX12_init_88 : decode cX12_init 88 = .ok (.newarray .int, 2) := zd_403.2.2.2.2.1
theorem dX12_init_90 : decode cX12_init 90 = .ok (.putfield 40, 3) := zd_403.2.2.2.2.2.1
theorem dX12_init_93 : decode cX12_init 93 = .ok (.aload_n 0, 1) := zd_403.2.2.2.2.2.2.1
theorem dX12_init_94 : decode cX12_init 94 = .ok (.bipush 80, 2) := zd_403.2.2.2.2.2.2.2
theorem zd_404 : (decode cX12_init 96 = .ok (.newarray .int, 2)) ∧ (decode cX12_init 98 = .ok (.putfield 43, 3)) ∧ (decode cX12_init 101 = .ok (.aload_n 0, 1)) ∧ (decode cX12_init 102 = .ok (.bipush 80, 2)) ∧ (decode cX12_init 104 = .ok (.newarray .int, 2)) ∧ (decode cX12_init 106 = .ok (.putfield 46, 3)) ∧ (decode cX12_init 109 = .ok (.aload_n 0, 1)) ∧ (decode cX12_init 110 = .ok (.bipush 80, 2)) := by decide +kernel
theorem dX12_init_96 : decode cX12_init 96 = .ok (.newarray .int, 2) := zd_404.1
theorem dX12_init_98 : decode cX12_init 98 = .ok (.putfield 43, 3) := zd_404.2.1
theorem dX12_init_101 : decode cX12_init 101 = .ok (.aload_n 0, 1) := zd_404.2.2.1
theorem dX12_init_102 : decode cX12_init 102 = .ok (.bipush 80, 2) := zd_404.2.2.2.1
theorem dX12_init_104 : decode cX12_init 104 = .ok (.newarray .int, 2) := zd_404.2.2.2.2.1
theorem dX12_init_106 : decode cX12_init 106 = .ok (.putfield 46, 3) := zd_404.2.2.2.2.2.1
theorem dX12_init_109 : decode cX12_init 109 = .ok (.aload_n 0, 1) := zd_404.2.2.2.2.2.2.1
theorem dX12_init_110 : decode cX12_init 110 = .ok (.bipush 80, 2) := zd_404.2.2.2.2.2.2.2
theorem zd_405 : (decode cX12_init 112 = .ok (.newarray .int, 2)) ∧ (decode cX12_init 114 = .ok (.putfield 49, 3)) ∧ (decode cX12_init 117 = .ok (.aload_n 0, 1)) ∧ (decode cX12_init 118 = .ok (.bipush 80, 2)) ∧ (decode cX12_init 120 = .ok (.newarray .int, 2)) ∧ (decode cX12_init 122 = .ok (.putfield 52, 3)) ∧ (decode cX12_init 125 = .ok (.aload_n 0, 1)) ∧ (decode cX12_init 126 = .ok (.sipush 6400, 3)) := by decide +kernel
theorem dX12_init_112 : decode cX12_init 112 = .ok (.newarray .int, 2) := zd_405.1
theorem dX12_init_114 : decode cX12_init 114 = .ok (.putfield 49, 3) := zd_405.2.1
theorem dX12_init_117 : decode cX12_init 117 = .ok (.aload_n 0, 1) := zd_405.2.2.1
theorem dX12_init_118 : decode cX12_init 118 = .ok (.bipush 80, 2) := zd_405.2.2.2.1
theorem dX12_init_120 : decode cX12_init 120 = .ok (.newarray .int, 2) := zd_405.2.2.2.2.1
theorem dX12_init_122 : decode cX12_init 122 = .ok (.putfield 52, 3) := zd_405.2.2.2.2.2.1
theorem dX12_init_125 : decode cX12_init 125 = .ok (.aload_n 0, 1) := zd_405.2.2.2.2.2.2.1
theorem dX12_init_126 : decode cX12_init 126 = .ok (.sipush 6400, 3) := zd_405.2.2.2.2.2.2.2
theorem zd_406 : (decode cX12_init 129 = .ok (.newarray .int, 2)) ∧ (decode cX12_init 131 = .ok (.putfield 55, 3)) ∧ (decode cX12_init 134 = .ok (.aload_n 0, 1)) ∧ (decode cX12_init 135 = .ok (.bipush 80, 2)) ∧ (decode cX12_init 137 = .ok (.newarray .int, 2)) ∧ (decode cX12_init 139 = .ok (.putfield 58, 3)) ∧ (decode cX12_init 142 = .ok (.aload_n 0, 1)) ∧ (decode cX12_init 143 = .ok (.sipush 320, 3)) := by decide +kernel
theorem dX12_init_129 : decode cX12_init 129 = .ok (.newarray .int, 2) := zd_406.1
theorem dX12_init_131 : decode cX12_init 131 = .ok (.putfield 55, 3) := zd_406.2.1
theorem dX12_init_134 : decode cX12_init 134 = .ok (.aload_n 0, 1) := zd_406.2.2.1
theorem dX12_init_135 : decode cX12_init 135 = .ok (.bipush 80, 2) := zd_406.2.2.2.1
theorem dX12_init_137 : decode cX12_init 137 = .ok (.newarray .int, 2) := zd_406.2.2.2.2.1
theorem dX12_init_139 : decode cX12_init 139 = .ok (.putfield 58, 3) := zd_406.2.2.2.2.2.1
theorem dX12_init_142 : decode cX12_init 142 = .ok (.aload_n 0, 1) := zd_406.2.2.2.2.2.2.1
theorem dX12_init_143 : decode cX12_init 143 = .ok (.sipush 320, 3) := zd_406.2.2.2.2.2.2.2
theorem zd_407 : (decode cX12_init 146 = .ok (.newarray .int, 2)) ∧ (decode cX12_init 148 = .ok (.putfield 61, 3)) ∧ (decode cX12_init 151 = .ok (.aload_n 0, 1)) ∧ (decode cX12_init 152 = .ok (.sipush 320, 3)) ∧ (decode cX12_init 155 = .ok (.newarray .int, 2)) ∧ (decode cX12_init 157 = .ok (.putfield 64, 3)) ∧ (decode cX12_init 160 = .ok (.aload_n 0, 1)) ∧ (decode cX12_init 161 = .ok (.bipush 100, 2)) := by decide +kernel
theorem dX12_init_146 : decode cX12_init 146 = .ok (.newarray .int, 2) := zd_407.1
theorem dX12_init_148 : decode cX12_init 148 = .ok (.putfield 61, 3) := zd_407.2.1
theorem dX12_init_151 : decode cX12_init 151 = .ok (.aload_n 0, 1) := zd_407.2.2.1
theorem dX12_init_152 : decode cX12_init 152 = .ok (.sipush 320, 3) := zd_407.2.2.2.1
theorem dX12_init_155 : decode cX12_init 155 = .ok (.newarray .int, 2) := zd_407.2.2.2.2.1
theorem dX12_init_157 : decode cX12_init 157 = .ok (.putfield 64, 3) := zd_407.2.2.2.2.2.1
theorem dX12_init_160 : decode cX12_init 160 = .ok (.aload_n 0, 1) := zd_407.2.2.2.2.2.2.1
theorem dX12_init_161 : decode cX12_init 161 = .ok (.bipush 100, 2) := zd_407.2.2.2.2.2.2.2
theorem zd_408 : (decode cX12_init 163 = .ok (.newarray .boolean, 2)) ∧ (decode cX12_init 165 = .ok (.putfield 67, 3)) ∧ (decode cX12_init 168 = .ok (.aload_n 0, 1)) ∧ (decode cX12_init 169 = .ok (.sipush 800, 3)) ∧ (decode cX12_init 172 = .ok (.newarray .boolean, 2)) ∧ (decode cX12_init 174 = .ok (.putfield 71, 3)) ∧ (decode cX12_init 177 = .ok (.aload_n 0, 1)) ∧ (decode cX12_init 178 = .ok (.bipush 80, 2)) := by decide +kernel
theorem dX12_init_163 : decode cX12_init 163 = .ok (.newarray .boolean, 2) := zd_408.1
theorem dX12_init_165 : decode cX12_init 165 = .ok (.putfield 67, 3) := zd_408.2.1
theorem dX12_init_168 : decode cX12_init 168 = .ok (.aload_n 0, 1) := zd_408.2.2.1
theorem dX12_init_169 : decode cX12_init 169 = .ok (.sipush 800, 3) := zd_408.2.2.2.1
theorem dX12_init_172 : decode cX12_init 172 = .ok (.newarray .boolean, 2) := zd_408.2.2.2.2.1
theorem dX12_init_174 : decode cX12_init 174 = .ok (.putfield 71, 3) := zd_408.2.2.2.2.2.1
theorem dX12_init_177 : decode cX12_init 177 = .ok (.aload_n 0, 1) := zd_408.2.2.2.2.2.2.1
theorem dX12_init_178 : decode cX12_init 178 = .ok (.bipush 80, 2) := zd_408.2.2.2.2.2.2.2
theorem zd_409 : (decode cX12_init 180 = .ok (.newarray .int, 2)) ∧ (decode cX12_init 182 = .ok (.putfield 74, 3)) ∧ (decode cX12_init 185 = .ok (.aload_n 0, 1)) ∧ (decode cX12_init 186 = .ok (.sipush 480, 3)) ∧ (decode cX12_init 189 = .ok (.newarray .int, 2)) ∧ (decode cX12_init 191 = .ok (.putfield 77, 3)) ∧ (decode cX12_init 194 = .ok (.aload_n 0, 1)) ∧ (decode cX12_init 195 = .ok (.sipush 480, 3)) := by decide +kernel
theorem dX12_init_180 : decode cX12_init 180 = .ok (.newarray .int, 2) := zd_409.1
theorem dX12_init_182 : decode cX12_init 182 = .ok (.putfield 74, 3) := zd_409.2.1
theorem dX12_init_185 : decode cX12_init 185 = .ok (.aload_n 0, 1) := zd_409.2.2.1
theorem dX12_init_186 : decode cX12_init 186 = .ok (.sipush 480, 3) := zd_409.2.2.2.1
theorem dX12_init_189 : decode cX12_init 189 = .ok (.newarray .int, 2) := zd_409.2.2.2.2.1
theorem dX12_init_191 : decode cX12_init 191 = .ok (.putfield 77, 3) := zd_409.2.2.2.2.2.1
theorem dX12_init_194 : decode cX12_init 194 = .ok (.aload_n 0, 1) := zd_409.2.2.2.2.2.2.1
theorem dX12_init_195 : decode cX12_init 195 = .ok (.sipush 480, 3) := zd_409.2.2.2.2.2.2.2
theorem zd_410 : (decode cX12_init 198 = .ok (.newarray .int, 2)) ∧ (decode cX12_init 200 = .ok (.putfield 80, 3)) ∧ (decode cX12_init 203 = .ok (.aload_n 0, 1)) ∧ (decode cX12_init 204 = .ok (.sipush 480, 3)) ∧ (decode cX12_init 207 = .ok (.newarray .int, 2)) ∧ (decode cX12_init 209 = .ok (.putfield 83, 3)) ∧ (decode cX12_init 212 = .ok (.aload_n 0, 1)) ∧ (decode cX12_init 213 = .ok (.sipush 480, 3)) := by decide +kernel
theorem dX12_init_198 : decode cX12_init 198 = .ok (.newarray .int, 2) := zd_410.1
theorem dX12_init_200 : decode cX12_init 200 = .ok (.putfield 80, 3) := zd_410.2.1
theorem dX12_init_203 : decode cX12_init 203 = .ok (.aload_n 0, 1) := zd_410.2.2.1
theorem dX12_init_204 : decode cX12_init 204 = .ok (.sipush 480, 3) := zd_410.2.2.2.1
theorem dX12_init_207 : decode cX12_init 207 = .ok (.newarray .int, 2) := zd_410.2.2.2.2.1
theorem dX12_init_209 : decode cX12_init 209 = .ok (.putfield 83, 3) := zd_410.2.2.2.2.2.1
theorem dX12_init_212 : decode cX12_init 212 = .ok (.aload_n 0, 1) := zd_410.2.2.2.2.2.2.1
theorem dX12_init_213 : decode cX12_init 213 = .ok (.sipush 480, 3) := zd_410.2.2.2.2.2.2.2
theorem zd_411 : (decode cX12_init 216 = .ok (.newarray .int, 2)) ∧ (decode cX12_init 218 = .ok (.putfield 86, 3)) ∧ (decode cX12_init 221 = .ok (.aload_n 0, 1)) ∧ (decode cX12_init 222 = .ok (.sipush 480, 3)) ∧ (decode cX12_init 225 = .ok (.newarray .int, 2)) ∧ (decode cX12_init 227 = .ok (.putfield 89, 3)) ∧ (decode cX12_init 230 = .ok (.aload_n 0, 1)) ∧ (decode cX12_init 231 = .ok (.sipush 300, 3)) := by decide +kernel
theorem dX12_init_216 : decode cX12_init 216 = .ok (.newarray .int, 2) := zd_411.1
theorem dX12_init_218 : decode cX12_init 218 = .ok (.putfield 86, 3) := zd_411.2.1
theorem dX12_init_221 : decode cX12_init 221 = .ok (.aload_n 0, 1) := zd_411.2.2.1
theorem dX12_init_222 : decode cX12_init 222 = .ok (.sipush 480, 3) := zd_411.2.2.2.1
theorem dX12_init_225 : decode cX12_init 225 = .ok (.newarray .int, 2) := zd_411.2.2.2.2.1
theorem dX12_init_227 : decode cX12_init 227 = .ok (.putfield 89, 3) := zd_411.2.2.2.2.2.1
theorem dX12_init_230 : decode cX12_init 230 = .ok (.aload_n 0, 1) := zd_411.2.2.2.2.2.2.1
theorem dX12_init_231 : decode cX12_init 231 = .ok (.sipush 300, 3) := zd_411.2.2.2.2.2.2.2
theorem zd_412 : (decode cX12_init 234 = .ok (.newarray .int, 2)) ∧ (decode cX12_init 236 = .ok (.putfield 92, 3)) ∧ (decode cX12_init 239 = .ok (.aload_n 0, 1)) ∧ (decode cX12_init 240 = .ok (.sipush 300, 3)) ∧ (decode cX12_init 243 = .ok (.newarray .int, 2)) ∧ (decode cX12_init 245 = .ok (.putfield 95, 3)) ∧ (decode cX12_init 248 = .ok (.aload_n 0, 1)) ∧ (decode cX12_init 249 = .ok (.sipush 300, 3)) := by decide +kernel
theorem dX12_init_234 : decode cX12_init 234 = .ok (.newarray .int, 2) := zd_412.1
theorem dX12_init_236 : decode cX12_init 236 = .ok (.putfield 92, 3) := zd_412.2.1
theorem dX12_init_239 : decode cX12_init 239 = .ok (.aload_n 0, 1) := zd_412.2.2.1
theorem dX12_init_240 : decode cX12_init 240 = .ok (.sipush 300, 3) := zd_412.2.2.2.1
theorem dX12_init_243 : decode cX12_init 243 = .ok (.newarray .int, 2) := zd_412.2.2.2.2.1
theorem dX12_init_245 : decode cX12_init 245 = .ok (.putfield 95, 3) := zd_412.2.2.2.2.2.1
theorem dX12_init_248 : decode cX12_init 248 = .ok (.aload_n 0, 1) := zd_412.2.2.2.2.2.2.1
theorem dX12_init_249 : decode cX12_init 249 = .ok (.sipush 300, 3) := zd_412.2.2.2.2.2.2.2
theorem zd_413 : (decode cX12_init 252 = .ok (.newarray .int, 2)) ∧ (decode cX12_init 254 = .ok (.putfield 98, 3)) ∧ (decode cX12_init 257 = .ok (.aload_n 0, 1)) ∧ (decode cX12_init 258 = .ok (.sipush 300, 3)) ∧ (decode cX12_init 261 = .ok (.newarray .int, 2)) ∧ (decode cX12_init 263 = .ok (.putfield 101, 3)) ∧ (decode cX12_init 266 = .ok (.aload_n 0, 1)) ∧ (decode cX12_init 267 = .ok (.sipush 300, 3)) := by decide +kernel
theorem dX12_init_252 : decode cX12_init 252 = .ok (.newarray .int, 2) := zd_413.1
theorem dX12_init_254 : decode cX12_init 254 = .ok (.putfield 98, 3) := zd_413.2.1
theorem dX12_init_257 : decode cX12_init 257 = .ok (.aload_n 0, 1) := zd_413.2.2.1
theorem dX12_init_258 : decode cX12_init 258 = .ok (.sipush 300, 3) := zd_413.2.2.2.1
theorem dX12_init_261 : decode cX12_init 261 = .ok (.newarray .int, 2) := zd_413.2.2.2.2.1
theorem dX12_init_263 : decode cX12_init 263 = .ok (.putfield 101, 3) := zd_413.2.2.2.2.2.1
theorem dX12_init_266 : decode cX12_init 266 = .ok (.aload_n 0, 1) := zd_413.2.2.2.2.2.2.1
theorem dX12_init_267 : decode cX12_init 267 = .ok (.sipush 300, 3) := zd_413.2.2.2.2.2.2.2
theorem zd_414 : (decode cX12_init 270 = .ok (.newarray .int, 2)) ∧ (decode cX12_init 272 = .ok (.putfield 104, 3)) ∧ (decode cX12_init 275 = .ok (.aload_n 0, 1)) ∧ (decode cX12_init 276 = .ok (.sipush 300, 3)) ∧ (decode cX12_init 279 = .ok (.newarray .int, 2)) ∧ (decode cX12_init 281 = .ok (.putfield 107, 3)) ∧ (decode cX12_init 284 = .ok (.aload_n 0, 1)) ∧ (decode cX12_init 285 = .ok (.sipush 300, 3)) := by decide +kernel
theorem dX12_init_270 : decode cX12_init 270 = .ok (.newarray .int, 2) := zd_414.1
theorem dX12_init_272 : decode cX12_init 272 = .ok (.putfield 104, 3) := zd_414.2.1
theorem dX12_init_275 : decode cX12_init 275 = .ok (.aload_n 0, 1) := zd_414.2.2.1
theorem dX12_init_276 : decode cX12_init 276 = .ok (.sipush 300, 3) := zd_414.2.2.2.1
theorem dX12_init_279 : decode cX12_init 279 = .ok (.newarray .int, 2) := zd_414.2.2.2.2.1
theorem dX12_init_281 : decode cX12_init 281 = .ok (.putfield 107, 3) := zd_414.2.2.2.2.2.1
theorem dX12_init_284 : decode cX12_init 284 = .ok (.aload_n 0, 1) := zd_414.2.2.2.2.2.2.1
theorem dX12_init_285 : decode cX12_init 285 = .ok (.sipush 300, 3) := zd_414.2.2.2.2.2.2.2
theorem zd_415 : (decode cX12_init 288 = .ok (.newarray .int, 2)) ∧ (decode cX12_init 290 = .ok (.putfield 110, 3)) ∧ (decode cX12_init 293 = .ok (.aload_n 0, 1)) ∧ (decode cX12_init 294 = .ok (.sipush 700, 3)) ∧ (decode cX12_init 297 = .ok (.newarray .int, 2)) ∧ (decode cX12_init 299 = .ok (.putfield 113, 3)) ∧ (decode cX12_init 302 = .ok (.aload_n 0, 1)) ∧ (decode cX12_init 303 = .ok (.bipush 12, 2)) := by decide +kernel
theorem dX12_init_288 : decode cX12_init 288 = .ok (.newarray .int, 2) := zd_415.1
theorem dX12_init_290 : decode cX12_init 290 = .ok (.putfield 110, 3) := zd_415.2.1
theorem dX12_init_293 : decode cX12_init 293 = .ok (.aload_n 0, 1) := zd_415.2.2.1
theorem dX12_init_294 : decode cX12_init 294 = .ok (.sipush 700, 3) := zd_415.2.2.2.1
theorem dX12_init_297 : decode cX12_init 297 = .ok (.newarray .int, 2) := zd_415.2.2.2.2.1
theorem dX12_init_299 : decode cX12_init 299 = .ok (.putfield 113, 3) := zd_415.2.2.2.2.2.1
theorem dX12_init_302 : decode cX12_init 302 = .ok (.aload_n 0, 1) := zd_415.2.2.2.2.2.2.1
theorem dX12_init_303 : decode cX12_init 303 = .ok (.bipush 12, 2) := zd_415.2.2.2.2.2.2.2
theorem zd_416 : (decode cX12_init 305 = .ok (.newarray .boolean, 2)) ∧ (decode cX12_init 307 = .ok (.putfield 116, 3)) ∧ (decode cX12_init 310 = .ok (.aload_n 0, 1)) ∧ (decode cX12_init 311 = .ok (.bipush 12, 2)) ∧ (decode cX12_init 313 = .ok (.newarray .int, 2)) ∧ (decode cX12_init 315 = .ok (.putfield 119, 3)) ∧ (decode cX12_init 318 = .ok (.aload_n 0, 1)) ∧ (decode cX12_init 319 = .ok (.bipush 12, 2)) := by decide +kernel
theorem dX12_init_305 : decode cX12_init 305 = .ok (.newarray .boolean, 2) := zd_416.1
theorem dX12_init_307 : decode cX12_init 307 = .ok (.putfield 116, 3) := zd_416.2.1
theorem dX12_init_310 : decode cX12_init 310 = .ok (.aload_n 0, 1) := zd_416.2.2.1
theorem dX12_init_311 : decode cX12_init 311 = .ok (.bipush 12, 2) := zd_416.2.2.2.1
theorem dX12_init_313 : decode cX12_init 313 = .ok (.newarray .int, 2) := zd_416.2.2.2.2.1
theorem dX12_init_315 : decode cX12_init 315 = .ok (.putfield 119, 3) := zd_416.2.2.2.2.2.1
theorem dX12_init_318 : decode cX12_init 318 = .ok (.aload_n 0, 1) := zd_416.2.2.2.2.2.2.1
theorem dX12_init_319 : decode cX12_init 319 = .ok (.bipush 12, 2) := zd_416.2.2.2.2.2.2.2
theorem zd_417 : (decode cX12_init 321 = .ok (.newarray .int, 2)) ∧ (decode cX12_init 323 = .ok (.putfield 122, 3)) ∧ (decode cX12_init 326 = .ok (.aload_n 0, 1)) ∧ (decode cX12_init 327 = .ok (.bipush 96, 2)) ∧ (decode cX12_init 329 = .ok (.newarray .int, 2)) ∧ (decode cX12_init 331 = .ok (.putfield 125, 3)) ∧ (decode cX12_init 334 = .ok (.aload_n 0, 1)) ∧ (decode cX12_init 335 = .ok (.sipush 5760, 3)) := by decide +kernel
theorem dX12_init_321 : decode cX12_init 321 = .ok (.newarray .int, 2) := zd_417.1
theorem dX12_init_323 : decode cX12_init 323 = .ok (.putfield 122, 3) := zd_417.2.1
theorem dX12_init_326 : decode cX12_init 326 = .ok (.aload_n 0, 1) := zd_417.2.2.1
theorem dX12_init_327 : decode cX12_init 327 = .ok (.bipush 96, 2) := zd_417.2.2.2.1
theorem dX12_init_329 : decode cX12_init 329 = .ok (.newarray .int, 2) := zd_417.2.2.2.2.1
theorem dX12_init_331 : decode cX12_init 331 = .ok (.putfield 125, 3) := zd_417.2.2.2.2.2.1
theorem dX12_init_334 : decode cX12_init 334 = .ok (.aload_n 0, 1) := zd_417.2.2.2.2.2.2.1
theorem dX12_init_335 : decode cX12_init 335 = .ok (.sipush 5760, 3) := zd_417.2.2.2.2.2.2.2
theorem zd_418 : (decode cX12_init 338 = .ok (.newarray .int, 2)) ∧ (decode cX12_init 340 = .ok (.putfield 128, 3)) ∧ (decode cX12_init 343 = .ok (.aload_n 0, 1)) ∧ (decode cX12_init 344 = .ok (.sipush 960, 3)) ∧ (decode cX12_init 347 = .ok (.newarray .int, 2)) ∧ (decode cX12_init 349 = .ok (.putfield 131, 3)) ∧ (decode cX12_init 352 = .ok (.aload_n 0, 1)) ∧ (decode cX12_init 353 = .ok (.sipush 960, 3)) := by decide +kernel
theorem dX12_init_338 : decode cX12_init 338 = .ok (.newarray .int, 2) := zd_418.1
theorem dX12_init_340 : decode cX12_init 340 = .ok (.putfield 128, 3) := zd_418.2.1
theorem dX12_init_343 : decode cX12_init 343 = .ok (.aload_n 0, 1) := zd_418.2.2.1
theorem dX12_init_344 : decode cX12_init 344 = .ok (.sipush 960, 3) := zd_418.2.2.2.1
theorem dX12_init_347 : decode cX12_init 347 = .ok (.newarray .int, 2) := zd_418.2.2.2.2.1
theorem dX12_init_349 : decode cX12_init 349 = .ok (.putfield 131, 3) := zd_418.2.2.2.2.2.1
theorem dX12_init_352 : decode cX12_init 352 = .ok (.aload_n 0, 1) := zd_418.2.2.2.2.2.2.1
theorem dX12_init_353 : decode cX12_init 353 = .ok (.sipush 960, 3) := zd_418.2.2.2.2.2.2.2
theorem zd_419 : (decode cX12_init 356 = .ok (.newarray .int, 2)) ∧ (decode cX12_init 358 = .ok (.putfield 134, 3)) ∧ (decode cX12_init 361 = .ok (.aload_n 0, 1)) ∧ (decode cX12_init 362 = .ok (.sipush 400, 3)) ∧ (decode cX12_init 365 = .ok (.newarray .int, 2)) ∧ (decode cX12_init 367 = .ok (.putfield 137, 3)) ∧ (decode cX12_init 370 = .ok (.aload_n 0, 1)) ∧ (decode cX12_init 371 = .ok (.sipush 32000, 3)) := by decide +kernel
theorem dX12_init_356 : decode cX12_init 356 = .ok (.newarray .int, 2) := zd_419.1
theorem dX12_init_358 : decode cX12_init 358 = .ok (.putfield 134, 3) := zd_419.2.1
theorem dX12_init_361 : decode cX12_init 361 = .ok (.aload_n 0, 1) := zd_419.2.2.1
theorem dX12_init_362 : decode cX12_init 362 = .ok (.sipush 400, 3) := zd_419.2.2.2.1
theorem dX12_init_365 : decode cX12_init 365 = .ok (.newarray .int, 2) := zd_419.2.2.2.2.1
theorem dX12_init_367 : decode cX12_init 367 = .ok (.putfield 137, 3) := zd_419.2.2.2.2.2.1
theorem dX12_init_370 : decode cX12_init 370 = .ok (.aload_n 0, 1) := zd_419.2.2.2.2.2.2.1
theorem dX12_init_371 : decode cX12_init 371 = .ok (.sipush 32000, 3) := zd_419.2.2.2.2.2.2.2
theorem zd_420 : (decode cX12_init 374 = .ok (.newarray .boolean, 2)) ∧ (decode cX12_init 376 = .ok (.putfield 140, 3)) ∧ (decode cX12_init 379 = .ok (.iconst 0, 1)) ∧ (decode cX12_init 380 = .ok (.istore_n 1, 1)) ∧ (decode cX12_init 381 = .ok (.iload_n 1, 1)) ∧ (decode cX12_init 382 = .ok (.bipush 12, 2)) ∧ (decode cX12_init 384 = .ok (.if_icmp .ge 17, 3)) ∧ (decode cX12_init 387 = .ok (.aload_n 0, 1)) := by decide +kernel
theorem dX12_init_374 : decode cX12_init 374 = .ok (.newarray .boolean, 2) := zd_420.1
theorem dX12_init_376 : decode cX12_init 376 = .ok (.putfield 140, 3) := zd_420.2.1
theorem dX12_init_379 : decode cX12_init 379 = .ok (.iconst 0, 1) := zd_420.2.2.1
theorem dX12_init_380 : decode cX12_init 380 = .ok (.istore_n 1, 1) := zd_420.2.2.2.1
theorem dX12_init_381 : decode cX12_init 381 = .ok (.iload_n 1, 1) := zd_420.2.2.2.2.1
theorem dX12_init_382 : decode cX12_init 382 = .ok (.bipush 12, 2) := zd_420.2.2.2.2.2.1
theorem dX12_init_384 : decode cX12_init 384 = .ok (.if_icmp .ge 17, 3) := zd_420.2.2.2.2.2.2.1
theorem dX12_init_387 : decode cX12_init 387 = .ok (.aload_n 0, 1) := zd_420.2.2.2.2.2.2.2
theorem zd_421 : (decode cX12_init 388 = .ok (.getfield 13, 3)) ∧ (decode cX12_init 391 = .ok (.iload_n 1, 1)) ∧ (decode cX12_init 392 = .ok (.bipush 100, 2)) ∧ (decode cX12_init 394 = .ok (.iastore, 1)) ∧ (decode cX12_init 395 = .ok (.iinc 1 1, 3)) ∧ (decode cX12_init 398 = .ok (.goto (-17), 3)) ∧ (decode cX12_init 401 = .ok (.iconst 0, 1)) ∧ (decode cX12_init 402 = .ok (.istore_n 1, 1)) := by decide +kernel
theorem dX12_init_388 : decode cX12_init 388 = .ok (.getfield 13, 3) := zd_421.1
theorem dX12_init_391 : decode cX12_init 391 = .ok (.iload_n 1, 1) := zd_421.2.1
theorem dX12_init_392 : decode cX12_init 392 = .ok (.bipush 100, 2) := zd_421.2.2.1
theorem dX12_init_394 : decode cX12_init 394 = .ok (.iastore, 1) := zd_421.2.2.2.1
theorem dX12_init_395 : decode cX12_init 395 = .ok (.iinc 1 1, 3) := zd_421.2.2.2.2.1
theorem dX12_init_398 : decode cX12_init 398 = .ok (.goto (-17), 3) := zd_421.2.2.2.2.2.1
theorem dX12_init_401 : decode cX12_init 401 = .ok (.iconst 0, 1) := zd_421.2.2.2.2.2.2.1
theorem dX12_init_402 : decode cX12_init 402 = .ok (.istore_n 1, 1) := zd_421.2.2.2.2.2.2.2
theorem zd_422 : (decode cX12_init 403 = .ok (.iload_n 1, 1)) ∧ (decode cX12_init 404 = .ok (.sipush 5760, 3)) ∧ (decode cX12_init 407 = .ok (.if_icmp .ge 17, 3)) ∧ (decode cX12_init 410 = .ok (.aload_n 0, 1)) ∧ (decode cX12_init 411 = .ok (.getfield 16, 3)) ∧ (decode cX12_init 414 = .ok (.iload_n 1, 1)) ∧ (decode cX12_init 415 = .ok (.bipush (-2), 2)) ∧ (decode cX12_init 417 = .ok (.iastore, 1)) := by decide +kernel
theorem dX12_init_403 : decode cX12_init 403 = .ok (.iload_n 1, 1) := zd_422.1
theorem dX12_init_404 : decode cX12_init 404 = .ok (.sipush 5760, 3) := zd_422.2.1
theorem dX12_init_407 : decode cX12_init 407 = .ok (.if_icmp .ge 17, 3) := zd_422.2.2.1
theorem dX12_init_410 : decode cX12_init 410 = .ok (.aload_n 0, 1) := zd_422.2.2.2.1
theorem dX12_init_411 : decode cX12_init 411 = .ok (.getfield 16, 3) := zd_422.2.2.2.2.1
theorem dX12_init_414 : decode cX12_init 414 = .ok (.iload_n 1, 1) := zd_422.2.2.2.2.2.1
theorem dX12_init_415 : decode cX12_init 415 = .ok (.bipush (-2), 2) := zd_422.2.2.2.2.2.2.1
theorem dX12_init_417 : decode cX12_init 417 = .ok (.iastore, 1) := zd_422.2.2.2.2.2.2.2
theorem zd_423 : (decode cX12_init 418 = .ok (.iinc 1 1, 3)) ∧ (decode cX12_init 421 = .ok (.goto (-18), 3)) ∧ (decode cX12_init 424 = .ok (.iconst 0, 1)) ∧ (decode cX12_init 425 = .ok (.istore_n 1, 1)) ∧ (decode cX12_init 426 = .ok (.iload_n 1, 1)) ∧ (decode cX12_init 427 = .ok (.sipush 400, 3)) ∧ (decode cX12_init 430 = .ok (.if_icmp .ge 16, 3)) ∧ (decode cX12_init 433 = .ok (.aload_n 0, 1)) := by decide +kernel
theorem dX12_init_418 : decode cX12_init 418 = .ok (.iinc 1 1, 3) := zd_423.1
theorem dX12_init_421 : decode cX12_init 421 = .ok (.goto (-18), 3) := zd_423.2.1
theorem dX12_init_424 : decode cX12_init 424 = .ok (.iconst 0, 1) := zd_423.2.2.1
theorem dX12_init_425 : decode cX12_init 425 = .ok (.istore_n 1, 1) := zd_423.2.2.2.1
theorem dX12_init_426 : decode cX12_init 426 = .ok (.iload_n 1, 1) := zd_423.2.2.2.2.1
theorem dX12_init_427 : decode cX12_init 427 = .ok (.sipush 400, 3) := zd_423.2.2.2.2.2.1
theorem dX12_init_430 : decode cX12_init 430 = .ok (.if_icmp .ge 16, 3) := zd_423.2.2.2.2.2.2.1
theorem dX12_init_433 : decode cX12_init 433 = .ok (.aload_n 0, 1) := zd_423.2.2.2.2.2.2.2
theorem zd_424 : (decode cX12_init 434 = .ok (.getfield 137, 3)) ∧ (decode cX12_init 437 = .ok (.iload_n 1, 1)) ∧ (decode cX12_init 438 = .ok (.iconst (-1), 1)) ∧ (decode cX12_init 439 = .ok (.iastore, 1)) ∧ (decode cX12_init 440 = .ok (.iinc 1 1, 3)) ∧ (decode cX12_init 443 = .ok (.goto (-17), 3)) ∧ (decode cX12_init 446 = .ok (.return_, 1)) := by decide +kernel
theorem dX12_init_434 : decode cX12_init 434 = .ok (.getfield 137, 3) := zd_424.1
theorem dX12_init_437 : decode cX12_init 437 = .ok (.iload_n 1, 1) := zd_424.2.1
theorem dX12_init_438 : decode cX12_init 438 = .ok (.iconst (-1), 1) := zd_424.2.2.1
theorem dX12_init_439 : decode cX12_init 439 = .ok (.iastore, 1) := zd_424.2.2.2.1
theorem dX12_init_440 : decode cX12_init 440 = .ok (.iinc 1 1, 3) := zd_424.2.2.2.2.1
theorem dX12_init_443 : decode cX12_init 443 = .ok (.goto (-17), 3) := zd_424.2.2.2.2.2.1
theorem dX12_init_446 : decode cX12_init 446 = .ok (.return_, 1) := zd_424.2.2.2.2.2.2
theorem zd_425 : (decode cX12_in 0 = .ok (.iload_n 0, 1)) ∧ (decode cX12_in 1 = .ok (.iload_n 1, 1)) ∧ (decode cX12_in 2 = .ok (.if_icmp .lt 12, 3)) ∧ (decode cX12_in 5 = .ok (.iload_n 0, 1)) ∧ (decode cX12_in 6 = .ok (.iload_n 2, 1)) ∧ (decode cX12_in 7 = .ok (.if_icmp .gt 7, 3)) ∧ (decode cX12_in 10 = .ok (.iconst 1, 1)) ∧ (decode cX12_in 11 = .ok (.goto 4, 3)) := by decide +kernel
theorem dX12_in_0 : decode cX12_in 0 = .ok (.iload_n 0, 1) := zd_425.1
theorem dX12_in_1 : decode cX12_in 1 = .ok (.iload_n 1, 1) := zd_425.2.1
theorem dX12_in_2 : decode cX12_in 2 = .ok (.if_icmp .lt 12, 3) := zd_425.2.2.1
theorem dX12_in_5 : decode cX12_in 5 = .ok (.iload_n 0, 1) := zd_425.2.2.2.1
theorem dX12_in_6 : decode cX12_in 6 = .ok (.iload_n 2, 1) := zd_425.2.2.2.2.1
theorem dX12_in_7 : decode cX12_in 7 = .ok (.if_icmp .gt 7, 3) := zd_425.2.2.2.2.2.1
theorem dX12_in_10 : decode cX12_in 10 = .ok (.iconst 1, 1) := zd_425.2.2.2.2.2.2.1
theorem dX12_in_11 : decode cX12_in 11 = .ok (.goto 4, 3) := zd_425.2.2.2.2.2.2.2
theorem zd_426 : (decode cX12_in 14 = .ok (.iconst 0, 1)) ∧ (decode cX12_in 15 = .ok (.ireturn, 1)) := by decide +kernel
theorem dX12_in_14 : decode cX12_in 14 = .ok (.iconst 0, 1) := zd_426.1
theorem dX12_in_15 : decode cX12_in 15 = .ok (.ireturn, 1) := zd_426.2
theorem zd_427 : (decode cX12_isPage 0 = .ok (.iload_n 0, 1)) ∧ (decode cX12_isPage 1 = .ok (.iconst 0, 1)) ∧ (decode cX12_isPage 2 = .ok (.bipush 11, 2)) ∧ (decode cX12_isPage 4 = .ok (.invokestatic 143, 3)) ∧ (decode cX12_isPage 7 = .ok (.ireturn, 1)) := by decide +kernel
theorem dX12_isPage_0 : decode cX12_isPage 0 = .ok (.iload_n 0, 1) := zd_427.1
theorem dX12_isPage_1 : decode cX12_isPage 1 = .ok (.iconst 0, 1) := zd_427.2.1
theorem dX12_isPage_2 : decode cX12_isPage 2 = .ok (.bipush 11, 2) := zd_427.2.2.1
theorem dX12_isPage_4 : decode cX12_isPage 4 = .ok (.invokestatic 143, 3) := zd_427.2.2.2.1
theorem dX12_isPage_7 : decode cX12_isPage 7 = .ok (.ireturn, 1) := zd_427.2.2.2.2
theorem zd_428 : (decode cX12_isItem 0 = .ok (.iload_n 1, 1)) ∧ (decode cX12_isItem 1 = .ok (.iconst 0, 1)) ∧ (decode cX12_isItem 2 = .ok (.aload_n 0, 1)) ∧ (decode cX12_isItem 3 = .ok (.getfield 147, 3)) ∧ (decode cX12_isItem 6 = .ok (.iconst 1, 1)) ∧ (decode cX12_isItem 7 = .ok (.isub, 1)) ∧ (decode cX12_isItem 8 = .ok (.invokestatic 143, 3)) ∧ (decode cX12_isItem 11 = .ok (.ireturn, 1)) := by decide +kernel
theorem dX12_isItem_0 : decode cX12_isItem 0 = .ok (.iload_n 1, 1) := zd_428.1
theorem dX12_isItem_1 : decode cX12_isItem 1 = .ok (.iconst 0, 1) := zd_428.2.1
theorem dX12_isItem_2 : decode cX12_isItem 2 = .ok (.aload_n 0, 1) := zd_428.2.2.1
theorem dX12_isItem_3 : decode cX12_isItem 3 = .ok (.getfield 147, 3) := zd_428.2.2.2.1
theorem dX12_isItem_6 : decode cX12_isItem 6 = .ok (.iconst 1, 1) := zd_428.2.2.2.2.1
theorem dX12_isItem_7 : decode cX12_isItem 7 = .ok (.isub, 1) := zd_428.2.2.2.2.2.1
theorem dX12_isItem_8 : decode cX12_isItem 8 = .ok (.invokestatic 143, 3) := zd_428.2.2.2.2.2.2.1
theorem dX12_isItem_11 : decode cX12_isItem 11 = .ok (.ireturn, 1) := zd_428.2.2.2.2.2.2.2
theorem zd_429 : (decode cX12_isKind 0 = .ok (.aload_n 0, 1)) ∧ (decode cX12_isKind 1 = .ok (.iload_n 1, 1)) ∧ (decode cX12_isKind 2 = .ok (.invokevirtual 151, 3)) ∧ (decode cX12_isKind 5 = .ok (.ifCond .eq 17, 3)) ∧ (decode cX12_isKind 8 = .ok (.aload_n 0, 1)) ∧ (decode cX12_isKind 9 = .ok (.getfield 19, 3)) ∧ (decode cX12_isKind 12 = .ok (.iload_n 1, 1)) ∧ (decode cX12_isKind 13 = .ok (.iaload, 1)) := by decide +kernel
theorem dX12_isKind_0 : decode cX12_isKind 0 = .ok (.aload_n 0, 1) := zd_429.1
theorem dX12_isKind_1 : decode cX12_isKind 1 = .ok (.iload_n 1, 1) := zd_429.2.1
theorem dX12_isKind_2 : decode cX12_isKind 2 = .ok (.invokevirtual 151, 3) := zd_429.2.2.1
theorem dX12_isKind_5 : decode cX12_isKind 5 = .ok (.ifCond .eq 17, 3) := zd_429.2.2.2.1
theorem dX12_isKind_8 : decode cX12_isKind 8 = .ok (.aload_n 0, 1) := zd_429.2.2.2.2.1
theorem dX12_isKind_9 : decode cX12_isKind 9 = .ok (.getfield 19, 3) := zd_429.2.2.2.2.2.1
theorem dX12_isKind_12 : decode cX12_isKind 12 = .ok (.iload_n 1, 1) := zd_429.2.2.2.2.2.2.1
theorem dX12_isKind_13 : decode cX12_isKind 13 = .ok (.iaload, 1) := zd_429.2.2.2.2.2.2.2
theorem zd_430 : (decode cX12_isKind 14 = .ok (.iload_n 2, 1)) ∧ (decode cX12_isKind 15 = .ok (.if_icmp .ne 7, 3)) ∧ (decode cX12_isKind 18 = .ok (.iconst 1, 1)) ∧ (decode cX12_isKind 19 = .ok (.goto 4, 3)) ∧ (decode cX12_isKind 22 = .ok (.iconst 0, 1)) ∧ (decode cX12_isKind 23 = .ok (.ireturn, 1)) := by decide +kernel
theorem dX12_isKind_14 : decode cX12_isKind 14 = .ok (.iload_n 2, 1) := zd_430.1
theorem dX12_isKind_15 : decode cX12_isKind 15 = .ok (.if_icmp .ne 7, 3) := zd_430.2.1
theorem dX12_isKind_18 : decode cX12_isKind 18 = .ok (.iconst 1, 1) := zd_430.2.2.1
theorem dX12_isKind_19 : decode cX12_isKind 19 = .ok (.goto 4, 3) := zd_430.2.2.2.1
theorem dX12_isKind_22 : decode cX12_isKind 22 = .ok (.iconst 0, 1) := zd_430.2.2.2.2.1
theorem dX12_isKind_23 : decode cX12_isKind 23 = .ok (.ireturn, 1) := zd_430.2.2.2.2.2
theorem zd_431 : (decode cX12_isBuyer 0 = .ok (.iload_n 0, 1)) ∧ (decode cX12_isBuyer 1 = .ok (.iconst 0, 1)) ∧ (decode cX12_isBuyer 2 = .ok (.bipush 9, 2)) ∧ (decode cX12_isBuyer 4 = .ok (.invokestatic 143, 3)) ∧ (decode cX12_isBuyer 7 = .ok (.ireturn, 1)) := by decide +kernel
theorem dX12_isBuyer_0 : decode cX12_isBuyer 0 = .ok (.iload_n 0, 1) := zd_431.1
theorem dX12_isBuyer_1 : decode cX12_isBuyer 1 = .ok (.iconst 0, 1) := zd_431.2.1
theorem dX12_isBuyer_2 : decode cX12_isBuyer 2 = .ok (.bipush 9, 2) := zd_431.2.2.1
theorem dX12_isBuyer_4 : decode cX12_isBuyer 4 = .ok (.invokestatic 143, 3) := zd_431.2.2.2.1
theorem dX12_isBuyer_7 : decode cX12_isBuyer 7 = .ok (.ireturn, 1) := zd_431.2.2.2.2
theorem zd_432 : (decode cX12_isCell 0 = .ok (.iload_n 1, 1)) ∧ (decode cX12_isCell 1 = .ok (.invokestatic 155, 3)) ∧ (decode cX12_isCell 4 = .ok (.ifCond .eq 38, 3)) ∧ (decode cX12_isCell 7 = .ok (.iload_n 2, 1)) ∧ (decode cX12_isCell 8 = .ok (.iconst 0, 1)) ∧ (decode cX12_isCell 9 = .ok (.bipush 7, 2)) ∧ (decode cX12_isCell 11 = .ok (.invokestatic 143, 3)) ∧ (decode cX12_isCell 14 = .ok (.ifCond .eq 28, 3)) := by decide +kernel
theorem dX12_isCell_0 : decode cX12_isCell 0 = .ok (.iload_n 1, 1) := zd_432.1
theorem dX12_isCell_1 : decode cX12_isCell 1 = .ok (.invokestatic 155, 3) := zd_432.2.1
theorem dX12_isCell_4 : decode cX12_isCell 4 = .ok (.ifCond .eq 38, 3) := zd_432.2.2.1
theorem dX12_isCell_7 : decode cX12_isCell 7 = .ok (.iload_n 2, 1) := zd_432.2.2.2.1
theorem dX12_isCell_8 : decode cX12_isCell 8 = .ok (.iconst 0, 1) := zd_432.2.2.2.2.1
theorem dX12_isCell_9 : decode cX12_isCell 9 = .ok (.bipush 7, 2) := zd_432.2.2.2.2.2.1
theorem dX12_isCell_11 : decode cX12_isCell 11 = .ok (.invokestatic 143, 3) := zd_432.2.2.2.2.2.2.1
theorem dX12_isCell_14 : decode cX12_isCell 14 = .ok (.ifCond .eq 28, 3) := zd_432.2.2.2.2.2.2.2
theorem zd_433 : (decode cX12_isCell 17 = .ok (.iload_n 3, 1)) ∧ (decode cX12_isCell 18 = .ok (.iconst 0, 1)) ∧ (decode cX12_isCell 19 = .ok (.aload_n 0, 1)) ∧ (decode cX12_isCell 20 = .ok (.getfield 7, 3)) ∧ (decode cX12_isCell 23 = .ok (.bipush 8, 2)) ∧ (decode cX12_isCell 25 = .ok (.iload_n 1, 1)) ∧ (decode cX12_isCell 26 = .ok (.imul, 1)) ∧ (decode cX12_isCell 27 = .ok (.iload_n 2, 1)) := by decide +kernel
theorem dX12_isCell_17 : decode cX12_isCell 17 = .ok (.iload_n 3, 1) := zd_433.1
theorem dX12_isCell_18 : decode cX12_isCell 18 = .ok (.iconst 0, 1) := zd_433.2.1
theorem dX12_isCell_19 : decode cX12_isCell 19 = .ok (.aload_n 0, 1) := zd_433.2.2.1
theorem dX12_isCell_20 : decode cX12_isCell 20 = .ok (.getfield 7, 3) := zd_433.2.2.2.1
theorem dX12_isCell_23 : decode cX12_isCell 23 = .ok (.bipush 8, 2) := zd_433.2.2.2.2.1
theorem dX12_isCell_25 : decode cX12_isCell 25 = .ok (.iload_n 1, 1) := zd_433.2.2.2.2.2.1
theorem dX12_isCell_26 : decode cX12_isCell 26 = .ok (.imul, 1) := zd_433.2.2.2.2.2.2.1
theorem dX12_isCell_27 : decode cX12_isCell 27 = .ok (.iload_n 2, 1) := zd_433.2.2.2.2.2.2.2
theorem zd_434 : (decode cX12_isCell 28 = .ok (.iadd, 1)) ∧ (decode cX12_isCell 29 = .ok (.iaload, 1)) ∧ (decode cX12_isCell 30 = .ok (.iconst 1, 1)) ∧ (decode cX12_isCell 31 = .ok (.isub, 1)) ∧ (decode cX12_isCell 32 = .ok (.invokestatic 143, 3)) ∧ (decode cX12_isCell 35 = .ok (.ifCond .eq 7, 3)) ∧ (decode cX12_isCell 38 = .ok (.iconst 1, 1)) ∧ (decode cX12_isCell 39 = .ok (.goto 4, 3)) := by decide +kernel
theorem dX12_isCell_28 : decode cX12_isCell 28 = .ok (.iadd, 1) := zd_434.1
theorem dX12_isCell_29 : decode cX12_isCell 29 = .ok (.iaload, 1) := zd_434.2.1
theorem dX12_isCell_30 : decode cX12_isCell 30 = .ok (.iconst 1, 1) := zd_434.2.2.1
theorem dX12_isCell_31 : decode cX12_isCell 31 = .ok (.isub, 1) := zd_434.2.2.2.1
theorem dX12_isCell_32 : decode cX12_isCell 32 = .ok (.invokestatic 143, 3) := zd_434.2.2.2.2.1
theorem dX12_isCell_35 : decode cX12_isCell 35 = .ok (.ifCond .eq 7, 3) := zd_434.2.2.2.2.2.1
theorem dX12_isCell_38 : decode cX12_isCell 38 = .ok (.iconst 1, 1) := zd_434.2.2.2.2.2.2.1
theorem dX12_isCell_39 : decode cX12_isCell 39 = .ok (.goto 4, 3) := zd_434.2.2.2.2.2.2.2
theorem zd_435 : (decode cX12_isCell 42 = .ok (.iconst 0, 1)) ∧ (decode cX12_isCell 43 = .ok (.ireturn, 1)) := by decide +kernel
theorem dX12_isCell_42 : decode cX12_isCell 42 = .ok (.iconst 0, 1) := zd_435.1
theorem dX12_isCell_43 : decode cX12_isCell 43 = .ok (.ireturn, 1) := zd_435.2
theorem zd_436 : (decode cX12_at 0 = .ok (.sipush 480, 3)) ∧ (decode cX12_at 3 = .ok (.iload_n 0, 1)) ∧ (decode cX12_at 4 = .ok (.imul, 1)) ∧ (decode cX12_at 5 = .ok (.bipush 60, 2)) ∧ (decode cX12_at 7 = .ok (.iload_n 1, 1)) ∧ (decode cX12_at 8 = .ok (.imul, 1)) ∧ (decode cX12_at 9 = .ok (.iadd, 1)) ∧ (decode cX12_at 10 = .ok (.iload_n 2, 1)) := by decide +kernel
theorem dX12_at_0 : decode cX12_at 0 = .ok (.sipush 480, 3) := zd_436.1
theorem dX12_at_3 : decode cX12_at 3 = .ok (.iload_n 0, 1) := zd_436.2.1
theorem dX12_at_4 : decode cX12_at 4 = .ok (.imul, 1) := zd_436.2.2.1
theorem dX12_at_5 : decode cX12_at 5 = .ok (.bipush 60, 2) := zd_436.2.2.2.1
theorem dX12_at_7 : decode cX12_at 7 = .ok (.iload_n 1, 1) := zd_436.2.2.2.2.1
theorem dX12_at_8 : decode cX12_at 8 = .ok (.imul, 1) := zd_436.2.2.2.2.2.1
theorem dX12_at_9 : decode cX12_at 9 = .ok (.iadd, 1) := zd_436.2.2.2.2.2.2.1
theorem dX12_at_10 : decode cX12_at 10 = .ok (.iload_n 2, 1) := zd_436.2.2.2.2.2.2.2
theorem zd_437 : (decode cX12_at 11 = .ok (.iadd, 1)) ∧ (decode cX12_at 12 = .ok (.ireturn, 1)) := by decide +kernel
theorem dX12_at_11 : decode cX12_at 11 = .ok (.iadd, 1) := zd_437.1
theorem dX12_at_12 : decode cX12_at 12 = .ok (.ireturn, 1) := zd_437.2
theorem zd_438 : (decode cX12_column 0 = .ok (.iload_n 1, 1)) ∧ (decode cX12_column 1 = .ok (.invokestatic 155, 3)) ∧ (decode cX12_column 4 = .ok (.ifCond .eq 30, 3)) ∧ (decode cX12_column 7 = .ok (.iload_n 2, 1)) ∧ (decode cX12_column 8 = .ok (.iconst 0, 1)) ∧ (decode cX12_column 9 = .ok (.bipush 7, 2)) ∧ (decode cX12_column 11 = .ok (.invokestatic 143, 3)) ∧ (decode cX12_column 14 = .ok (.ifCond .eq 20, 3)) := by decide +kernel
theorem dX12_column_0 : decode cX12_column 0 = .ok (.iload_n 1, 1) := zd_438.1
theorem dX12_column_1 : decode cX12_column 1 = .ok (.invokestatic 155, 3) := zd_438.2.1
theorem dX12_column_4 : decode cX12_column 4 = .ok (.ifCond .eq 30, 3) := zd_438.2.2.1
theorem dX12_column_7 : decode cX12_column 7 = .ok (.iload_n 2, 1) := zd_438.2.2.2.1
theorem dX12_column_8 : decode cX12_column 8 = .ok (.iconst 0, 1) := zd_438.2.2.2.2.1
theorem dX12_column_9 : decode cX12_column 9 = .ok (.bipush 7, 2) := zd_438.2.2.2.2.2.1
theorem dX12_column_11 : decode cX12_column 11 = .ok (.invokestatic 143, 3) := zd_438.2.2.2.2.2.2.1
theorem dX12_column_14 : decode cX12_column 14 = .ok (.ifCond .eq 20, 3) := zd_438.2.2.2.2.2.2.2
theorem zd_439 : (decode cX12_column 17 = .ok (.iload_n 3, 1)) ∧ (decode cX12_column 18 = .ok (.iconst 0, 1)) ∧ (decode cX12_column 19 = .ok (.bipush 60, 2)) ∧ (decode cX12_column 21 = .ok (.invokestatic 143, 3)) ∧ (decode cX12_column 24 = .ok (.ifCond .eq 10, 3)) ∧ (decode cX12_column 27 = .ok (.aload_n 0, 1)) ∧ (decode cX12_column 28 = .ok (.getfield 158, 3)) ∧ (decode cX12_column 31 = .ok (.ifCond .le 5, 3)) := by decide +kernel
theorem dX12_column_17 : decode cX12_column 17 = .ok (.iload_n 3, 1) := zd_439.1
theorem dX12_column_18 : decode cX12_column 18 = .ok (.iconst 0, 1) := zd_439.2.1
theorem dX12_column_19 : decode cX12_column 19 = .ok (.bipush 60, 2) := zd_439.2.2.1
theorem dX12_column_21 : decode cX12_column 21 = .ok (.invokestatic 143, 3) := zd_439.2.2.2.1
theorem dX12_column_24 : decode cX12_column 24 = .ok (.ifCond .eq 10, 3) := zd_439.2.2.2.2.1
theorem dX12_column_27 : decode cX12_column 27 = .ok (.aload_n 0, 1) := zd_439.2.2.2.2.2.1
theorem dX12_column_28 : decode cX12_column 28 = .ok (.getfield 158, 3) := zd_439.2.2.2.2.2.2.1
theorem dX12_column_31 : decode cX12_column 31 = .ok (.ifCond .le 5, 3) := zd_439.2.2.2.2.2.2.2
theorem zd_440 : (decode cX12_column 34 = .ok (.iconst 0, 1)) ∧ (decode cX12_column 35 = .ok (.ireturn, 1)) ∧ (decode cX12_column 36 = .ok (.iconst 0, 1)) ∧ (decode cX12_column 37 = .ok (.istore 4, 2)) ∧ (decode cX12_column 39 = .ok (.iload 4, 2)) ∧ (decode cX12_column 41 = .ok (.bipush 60, 2)) ∧ (decode cX12_column 43 = .ok (.if_icmp .ge 28, 3)) ∧ (decode cX12_column 46 = .ok (.aload_n 0, 1)) := by decide +kernel
theorem dX12_column_34 : decode cX12_column 34 = .ok (.iconst 0, 1) := zd_440.1
theorem dX12_column_35 : decode cX12_column 35 = .ok (.ireturn, 1) := zd_440.2.1
theorem dX12_column_36 : decode cX12_column 36 = .ok (.iconst 0, 1) := zd_440.2.2.1
theorem dX12_column_37 : decode cX12_column 37 = .ok (.istore 4, 2) := zd_440.2.2.2.1
theorem dX12_column_39 : decode cX12_column 39 = .ok (.iload 4, 2) := zd_440.2.2.2.2.1
theorem dX12_column_41 : decode cX12_column 41 = .ok (.bipush 60, 2) := zd_440.2.2.2.2.2.1
theorem dX12_column_43 : decode cX12_column 43 = .ok (.if_icmp .ge 28, 3) := zd_440.2.2.2.2.2.2.1
theorem dX12_column_46 : decode cX12_column 46 = .ok (.aload_n 0, 1) := zd_440.2.2.2.2.2.2.2
theorem zd_441 : (decode cX12_column 47 = .ok (.getfield 16, 3)) ∧ (decode cX12_column 50 = .ok (.iload_n 1, 1)) ∧ (decode cX12_column 51 = .ok (.iload_n 2, 1)) ∧ (decode cX12_column 52 = .ok (.iload 4, 2)) ∧ (decode cX12_column 54 = .ok (.invokestatic 161, 3)) ∧ (decode cX12_column 57 = .ok (.iaload, 1)) ∧ (decode cX12_column 58 = .ok (.bipush (-2), 2)) ∧ (decode cX12_column 60 = .ok (.if_icmp .eq 5, 3)) := by decide +kernel
theorem dX12_column_47 : decode cX12_column 47 = .ok (.getfield 16, 3) := zd_441.1
theorem dX12_column_50 : decode cX12_column 50 = .ok (.iload_n 1, 1) := zd_441.2.1
theorem dX12_column_51 : decode cX12_column 51 = .ok (.iload_n 2, 1) := zd_441.2.2.1
theorem dX12_column_52 : decode cX12_column 52 = .ok (.iload 4, 2) := zd_441.2.2.2.1
theorem dX12_column_54 : decode cX12_column 54 = .ok (.invokestatic 161, 3) := zd_441.2.2.2.2.1
theorem dX12_column_57 : decode cX12_column 57 = .ok (.iaload, 1) := zd_441.2.2.2.2.2.1
theorem dX12_column_58 : decode cX12_column 58 = .ok (.bipush (-2), 2) := zd_441.2.2.2.2.2.2.1
theorem dX12_column_60 : decode cX12_column 60 = .ok (.if_icmp .eq 5, 3) := zd_441.2.2.2.2.2.2.2
theorem zd_442 : (decode cX12_column 63 = .ok (.iconst 0, 1)) ∧ (decode cX12_column 64 = .ok (.ireturn, 1)) ∧ (decode cX12_column 65 = .ok (.iinc 4 1, 3)) ∧ (decode cX12_column 68 = .ok (.goto (-29), 3)) ∧ (decode cX12_column 71 = .ok (.aload_n 0, 1)) ∧ (decode cX12_column 72 = .ok (.getfield 7, 3)) ∧ (decode cX12_column 75 = .ok (.bipush 8, 2)) ∧ (decode cX12_column 77 = .ok (.iload_n 1, 1)) := by decide +kernel
theorem dX12_column_63 : decode cX12_column 63 = .ok (.iconst 0, 1) := zd_442.1
theorem dX12_column_64 : decode cX12_column 64 = .ok (.ireturn, 1) := zd_442.2.1
theorem dX12_column_65 : decode cX12_column 65 = .ok (.iinc 4 1, 3) := zd_442.2.2.1
theorem dX12_column_68 : decode cX12_column 68 = .ok (.goto (-29), 3) := zd_442.2.2.2.1
theorem dX12_column_71 : decode cX12_column 71 = .ok (.aload_n 0, 1) := zd_442.2.2.2.2.1
theorem dX12_column_72 : decode cX12_column 72 = .ok (.getfield 7, 3) := zd_442.2.2.2.2.2.1
theorem dX12_column_75 : decode cX12_column 75 = .ok (.bipush 8, 2) := zd_442.2.2.2.2.2.2.1
theorem dX12_column_77 : decode cX12_column 77 = .ok (.iload_n 1, 1) := zd_442.2.2.2.2.2.2.2
theorem zd_443 : (decode cX12_column 78 = .ok (.imul, 1)) ∧ (decode cX12_column 79 = .ok (.iload_n 2, 1)) ∧ (decode cX12_column 80 = .ok (.iadd, 1)) ∧ (decode cX12_column 81 = .ok (.iload_n 3, 1)) ∧ (decode cX12_column 82 = .ok (.iastore, 1)) ∧ (decode cX12_column 83 = .ok (.iconst 1, 1)) ∧ (decode cX12_column 84 = .ok (.ireturn, 1)) := by decide +kernel
theorem dX12_column_78 : decode cX12_column 78 = .ok (.imul, 1) := zd_443.1
theorem dX12_column_79 : decode cX12_column 79 = .ok (.iload_n 2, 1) := zd_443.2.1
theorem dX12_column_80 : decode cX12_column 80 = .ok (.iadd, 1) := zd_443.2.2.1
theorem dX12_column_81 : decode cX12_column 81 = .ok (.iload_n 3, 1) := zd_443.2.2.2.1
theorem dX12_column_82 : decode cX12_column 82 = .ok (.iastore, 1) := zd_443.2.2.2.2.1
theorem dX12_column_83 : decode cX12_column 83 = .ok (.iconst 1, 1) := zd_443.2.2.2.2.2.1
theorem dX12_column_84 : decode cX12_column 84 = .ok (.ireturn, 1) := zd_443.2.2.2.2.2.2
theorem zd_444 : (decode cX12_measure 0 = .ok (.iload_n 1, 1)) ∧ (decode cX12_measure 1 = .ok (.invokestatic 155, 3)) ∧ (decode cX12_measure 4 = .ok (.ifCond .eq 29, 3)) ∧ (decode cX12_measure 7 = .ok (.iload_n 2, 1)) ∧ (decode cX12_measure 8 = .ok (.iconst 1, 1)) ∧ (decode cX12_measure 9 = .ok (.sipush 200, 3)) ∧ (decode cX12_measure 12 = .ok (.invokestatic 143, 3)) ∧ (decode cX12_measure 15 = .ok (.ifCond .eq 18, 3)) := by decide +kernel
theorem dX12_measure_0 : decode cX12_measure 0 = .ok (.iload_n 1, 1) := zd_444.1
theorem dX12_measure_1 : decode cX12_measure 1 = .ok (.invokestatic 155, 3) := zd_444.2.1
theorem dX12_measure_4 : decode cX12_measure 4 = .ok (.ifCond .eq 29, 3) := zd_444.2.2.1
theorem dX12_measure_7 : decode cX12_measure 7 = .ok (.iload_n 2, 1) := zd_444.2.2.2.1
theorem dX12_measure_8 : decode cX12_measure 8 = .ok (.iconst 1, 1) := zd_444.2.2.2.2.1
theorem dX12_measure_9 : decode cX12_measure 9 = .ok (.sipush 200, 3) := zd_444.2.2.2.2.2.1
theorem dX12_measure_12 : decode cX12_measure 12 = .ok (.invokestatic 143, 3) := zd_444.2.2.2.2.2.2.1
theorem dX12_measure_15 : decode cX12_measure 15 = .ok (.ifCond .eq 18, 3) := zd_444.2.2.2.2.2.2.2
theorem zd_445 : (decode cX12_measure 18 = .ok (.aload_n 0, 1)) ∧ (decode cX12_measure 19 = .ok (.getfield 158, 3)) ∧ (decode cX12_measure 22 = .ok (.ifCond .gt 11, 3)) ∧ (decode cX12_measure 25 = .ok (.aload_n 0, 1)) ∧ (decode cX12_measure 26 = .ok (.iload_n 1, 1)) ∧ (decode cX12_measure 27 = .ok (.invokevirtual 165, 3)) ∧ (decode cX12_measure 30 = .ok (.ifCond .eq 5, 3)) ∧ (decode cX12_measure 33 = .ok (.iconst 0, 1)) := by decide +kernel
theorem dX12_measure_18 : decode cX12_measure 18 = .ok (.aload_n 0, 1) := zd_445.1
theorem dX12_measure_19 : decode cX12_measure 19 = .ok (.getfield 158, 3) := zd_445.2.1
theorem dX12_measure_22 : decode cX12_measure 22 = .ok (.ifCond .gt 11, 3) := zd_445.2.2.1
theorem dX12_measure_25 : decode cX12_measure 25 = .ok (.aload_n 0, 1) := zd_445.2.2.2.1
theorem dX12_measure_26 : decode cX12_measure 26 = .ok (.iload_n 1, 1) := zd_445.2.2.2.2.1
theorem dX12_measure_27 : decode cX12_measure 27 = .ok (.invokevirtual 165, 3) := zd_445.2.2.2.2.2.1
theorem dX12_measure_30 : decode cX12_measure 30 = .ok (.ifCond .eq 5, 3) := zd_445.2.2.2.2.2.2.1
theorem dX12_measure_33 : decode cX12_measure 33 = .ok (.iconst 0, 1) := zd_445.2.2.2.2.2.2.2
theorem zd_446 : (decode cX12_measure 34 = .ok (.ireturn, 1)) ∧ (decode cX12_measure 35 = .ok (.aload_n 0, 1)) ∧ (decode cX12_measure 36 = .ok (.getfield 13, 3)) ∧ (decode cX12_measure 39 = .ok (.iload_n 1, 1)) ∧ (decode cX12_measure 40 = .ok (.iload_n 2, 1)) ∧ (decode cX12_measure 41 = .ok (.iastore, 1)) ∧ (decode cX12_measure 42 = .ok (.iconst 1, 1)) ∧ (decode cX12_measure 43 = .ok (.ireturn, 1)) := by decide +kernel
theorem dX12_measure_34 : decode cX12_measure 34 = .ok (.ireturn, 1) := zd_446.1
theorem dX12_measure_35 : decode cX12_measure 35 = .ok (.aload_n 0, 1) := zd_446.2.1
theorem dX12_measure_36 : decode cX12_measure 36 = .ok (.getfield 13, 3) := zd_446.2.2.1
theorem dX12_measure_39 : decode cX12_measure 39 = .ok (.iload_n 1, 1) := zd_446.2.2.2.1
theorem dX12_measure_40 : decode cX12_measure 40 = .ok (.iload_n 2, 1) := zd_446.2.2.2.2.1
theorem dX12_measure_41 : decode cX12_measure 41 = .ok (.iastore, 1) := zd_446.2.2.2.2.2.1
theorem dX12_measure_42 : decode cX12_measure 42 = .ok (.iconst 1, 1) := zd_446.2.2.2.2.2.2.1
theorem dX12_measure_43 : decode cX12_measure 43 = .ok (.ireturn, 1) := zd_446.2.2.2.2.2.2.2
theorem zd_447 : (decode cX12_hasPiece 0 = .ok (.iconst 0, 1)) ∧ (decode cX12_hasPiece 1 = .ok (.istore_n 2, 1)) ∧ (decode cX12_hasPiece 2 = .ok (.iconst 0, 1)) ∧ (decode cX12_hasPiece 3 = .ok (.istore_n 3, 1)) ∧ (decode cX12_hasPiece 4 = .ok (.iload_n 3, 1)) ∧ (decode cX12_hasPiece 5 = .ok (.sipush 480, 3)) ∧ (decode cX12_hasPiece 8 = .ok (.if_icmp .ge 51, 3)) ∧ (decode cX12_hasPiece 11 = .ok (.iload_n 2, 1)) := by decide +kernel
theorem dX12_hasPiece_0 : decode cX12_hasPiece 0 = .ok (.iconst 0, 1) := zd_447.1
theorem dX12_hasPiece_1 : decode cX12_hasPiece 1 = .ok (.istore_n 2, 1) := zd_447.2.1
theorem dX12_hasPiece_2 : decode cX12_hasPiece 2 = .ok (.iconst 0, 1) := zd_447.2.2.1
theorem dX12_hasPiece_3 : decode cX12_hasPiece 3 = .ok (.istore_n 3, 1) := zd_447.2.2.2.1
theorem dX12_hasPiece_4 : decode cX12_hasPiece 4 = .ok (.iload_n 3, 1) := zd_447.2.2.2.2.1
theorem dX12_hasPiece_5 : decode cX12_hasPiece 5 = .ok (.sipush 480, 3) := zd_447.2.2.2.2.2.1
theorem dX12_hasPiece_8 : decode cX12_hasPiece 8 = .ok (.if_icmp .ge 51, 3) := zd_447.2.2.2.2.2.2.1
theorem dX12_hasPiece_11 : decode cX12_hasPiece 11 = .ok (.iload_n 2, 1) := zd_447.2.2.2.2.2.2.2
theorem zd_448 : (decode cX12_hasPiece 12 = .ok (.ifCond .ne 35, 3)) ∧ (decode cX12_hasPiece 15 = .ok (.aload_n 0, 1)) ∧ (decode cX12_hasPiece 16 = .ok (.getfield 16, 3)) ∧ (decode cX12_hasPiece 19 = .ok (.sipush 480, 3)) ∧ (decode cX12_hasPiece 22 = .ok (.iload_n 1, 1)) ∧ (decode cX12_hasPiece 23 = .ok (.imul, 1)) ∧ (decode cX12_hasPiece 24 = .ok (.iload_n 3, 1)) ∧ (decode cX12_hasPiece 25 = .ok (.iadd, 1)) := by decide +kernel
theorem dX12_hasPiece_12 : decode cX12_hasPiece 12 = .ok (.ifCond .ne 35, 3) := zd_448.1
theorem dX12_hasPiece_15 : decode cX12_hasPiece 15 = .ok (.aload_n 0, 1) := zd_448.2.1
theorem dX12_hasPiece_16 : decode cX12_hasPiece 16 = .ok (.getfield 16, 3) := zd_448.2.2.1
theorem dX12_hasPiece_19 : decode cX12_hasPiece 19 = .ok (.sipush 480, 3) := zd_448.2.2.2.1
theorem dX12_hasPiece_22 : decode cX12_hasPiece 22 = .ok (.iload_n 1, 1) := zd_448.2.2.2.2.1
theorem dX12_hasPiece_23 : decode cX12_hasPiece 23 = .ok (.imul, 1) := zd_448.2.2.2.2.2.1
theorem dX12_hasPiece_24 : decode cX12_hasPiece 24 = .ok (.iload_n 3, 1) := zd_448.2.2.2.2.2.2.1
theorem dX12_hasPiece_25 : decode cX12_hasPiece 25 = .ok (.iadd, 1) := zd_448.2.2.2.2.2.2.2
theorem zd_449 : (decode cX12_hasPiece 26 = .ok (.iaload, 1)) ∧ (decode cX12_hasPiece 27 = .ok (.ifCond .lt 24, 3)) ∧ (decode cX12_hasPiece 30 = .ok (.aload_n 0, 1)) ∧ (decode cX12_hasPiece 31 = .ok (.getfield 16, 3)) ∧ (decode cX12_hasPiece 34 = .ok (.sipush 480, 3)) ∧ (decode cX12_hasPiece 37 = .ok (.iload_n 1, 1)) ∧ (decode cX12_hasPiece 38 = .ok (.imul, 1)) ∧ (decode cX12_hasPiece 39 = .ok (.iload_n 3, 1)) := by decide +kernel
theorem dX12_hasPiece_26 : decode cX12_hasPiece 26 = .ok (.iaload, 1) := zd_449.1
theorem dX12_hasPiece_27 : decode cX12_hasPiece 27 = .ok (.ifCond .lt 24, 3) := zd_449.2.1
theorem dX12_hasPiece_30 : decode cX12_hasPiece 30 = .ok (.aload_n 0, 1) := zd_449.2.2.1
theorem dX12_hasPiece_31 : decode cX12_hasPiece 31 = .ok (.getfield 16, 3) := zd_449.2.2.2.1
theorem dX12_hasPiece_34 : decode cX12_hasPiece 34 = .ok (.sipush 480, 3) := zd_449.2.2.2.2.1
theorem dX12_hasPiece_37 : decode cX12_hasPiece 37 = .ok (.iload_n 1, 1) := zd_449.2.2.2.2.2.1
theorem dX12_hasPiece_38 : decode cX12_hasPiece 38 = .ok (.imul, 1) := zd_449.2.2.2.2.2.2.1
theorem dX12_hasPiece_39 : decode cX12_hasPiece 39 = .ok (.iload_n 3, 1) := zd_449.2.2.2.2.2.2.2
theorem zd_450 : (decode cX12_hasPiece 40 = .ok (.iadd, 1)) ∧ (decode cX12_hasPiece 41 = .ok (.iaload, 1)) ∧ (decode cX12_hasPiece 42 = .ok (.bipush 100, 2)) ∧ (decode cX12_hasPiece 44 = .ok (.if_icmp .eq 7, 3)) ∧ (decode cX12_hasPiece 47 = .ok (.iconst 1, 1)) ∧ (decode cX12_hasPiece 48 = .ok (.goto 4, 3)) ∧ (decode cX12_hasPiece 51 = .ok (.iconst 0, 1)) ∧ (decode cX12_hasPiece 52 = .ok (.istore_n 2, 1)) := by decide +kernel
theorem dX12_hasPiece_40 : decode cX12_hasPiece 40 = .ok (.iadd, 1) := zd_450.1
theorem dX12_hasPiece_41 : decode cX12_hasPiece 41 = .ok (.iaload, 1) := zd_450.2.1
theorem dX12_hasPiece_42 : decode cX12_hasPiece 42 = .ok (.bipush 100, 2) := zd_450.2.2.1
theorem dX12_hasPiece_44 : decode cX12_hasPiece 44 = .ok (.if_icmp .eq 7, 3) := zd_450.2.2.2.1
theorem dX12_hasPiece_47 : decode cX12_hasPiece 47 = .ok (.iconst 1, 1) := zd_450.2.2.2.2.1
theorem dX12_hasPiece_48 : decode cX12_hasPiece 48 = .ok (.goto 4, 3) := zd_450.2.2.2.2.2.1
theorem dX12_hasPiece_51 : decode cX12_hasPiece 51 = .ok (.iconst 0, 1) := zd_450.2.2.2.2.2.2.1
theorem dX12_hasPiece_52 : decode cX12_hasPiece 52 = .ok (.istore_n 2, 1) := zd_450.2.2.2.2.2.2.2
theorem zd_451 : (decode cX12_hasPiece 53 = .ok (.iinc 3 1, 3)) ∧ (decode cX12_hasPiece 56 = .ok (.goto (-52), 3)) ∧ (decode cX12_hasPiece 59 = .ok (.iload_n 2, 1)) ∧ (decode cX12_hasPiece 60 = .ok (.ireturn, 1)) := by decide +kernel
theorem dX12_hasPiece_53 : decode cX12_hasPiece 53 = .ok (.iinc 3 1, 3) := zd_451.1
theorem dX12_hasPiece_56 : decode cX12_hasPiece 56 = .ok (.goto (-52), 3) := zd_451.2.1
theorem dX12_hasPiece_59 : decode cX12_hasPiece 59 = .ok (.iload_n 2, 1) := zd_451.2.2.1
theorem dX12_hasPiece_60 : decode cX12_hasPiece 60 = .ok (.ireturn, 1) := zd_451.2.2.2
theorem zd_452 : (decode cX12_forget 0 = .ok (.aload_n 0, 1)) ∧ (decode cX12_forget 1 = .ok (.iconst 0, 1)) ∧ (decode cX12_forget 2 = .ok (.putfield 158, 3)) ∧ (decode cX12_forget 5 = .ok (.aload_n 0, 1)) ∧ (decode cX12_forget 6 = .ok (.iconst 0, 1)) ∧ (decode cX12_forget 7 = .ok (.putfield 168, 3)) ∧ (decode cX12_forget 10 = .ok (.return_, 1)) := by decide +kernel
theorem dX12_forget_0 : decode cX12_forget 0 = .ok (.aload_n 0, 1) := zd_452.1
theorem dX12_forget_1 : decode cX12_forget 1 = .ok (.iconst 0, 1) := zd_452.2.1
theorem dX12_forget_2 : decode cX12_forget 2 = .ok (.putfield 158, 3) := zd_452.2.2.1
theorem dX12_forget_5 : decode cX12_forget 5 = .ok (.aload_n 0, 1) := zd_452.2.2.2.1
theorem dX12_forget_6 : decode cX12_forget 6 = .ok (.iconst 0, 1) := zd_452.2.2.2.2.1
theorem dX12_forget_7 : decode cX12_forget 7 = .ok (.putfield 168, 3) := zd_452.2.2.2.2.2.1
theorem dX12_forget_10 : decode cX12_forget 10 = .ok (.return_, 1) := zd_452.2.2.2.2.2.2
theorem zd_453 : (decode cX12_made 0 = .ok (.aload_n 0, 1)) ∧ (decode cX12_made 1 = .ok (.getfield 147, 3)) ∧ (decode cX12_made 4 = .ok (.istore_n 2, 1)) ∧ (decode cX12_made 5 = .ok (.aload_n 0, 1)) ∧ (decode cX12_made 6 = .ok (.getfield 19, 3)) ∧ (decode cX12_made 9 = .ok (.iload_n 2, 1)) ∧ (decode cX12_made 10 = .ok (.iload_n 1, 1)) ∧ (decode cX12_made 11 = .ok (.iastore, 1)) := by decide +kernel
theorem dX12_made_0 : decode cX12_made 0 = .ok (.aload_n 0, 1) := zd_453.1
theorem dX12_made_1 : decode cX12_made 1 = .ok (.getfield 147, 3) := zd_453.2.1
theorem dX12_made_4 : decode cX12_made 4 = .ok (.istore_n 2, 1) := zd_453.2.2.1
theorem dX12_made_5 : decode cX12_made 5 = .ok (.aload_n 0, 1) := zd_453.2.2.2.1
theorem dX12_made_6 : decode cX12_made 6 = .ok (.getfield 19, 3) := zd_453.2.2.2.2.1
theorem dX12_made_9 : decode cX12_made 9 = .ok (.iload_n 2, 1) := zd_453.2.2.2.2.2.1
theorem dX12_made_10 : decode cX12_made 10 = .ok (.iload_n 1, 1) := zd_453.2.2.2.2.2.2.1
theorem dX12_made_11 : decode cX12_made 11 = .ok (.iastore, 1) := zd_453.2.2.2.2.2.2.2
theorem zd_454 : (decode cX12_made 12 = .ok (.aload_n 0, 1)) ∧ (decode cX12_made 13 = .ok (.getfield 22, 3)) ∧ (decode cX12_made 16 = .ok (.iload_n 2, 1)) ∧ (decode cX12_made 17 = .ok (.iconst 0, 1)) ∧ (decode cX12_made 18 = .ok (.iastore, 1)) ∧ (decode cX12_made 19 = .ok (.aload_n 0, 1)) ∧ (decode cX12_made 20 = .ok (.getfield 25, 3)) ∧ (decode cX12_made 23 = .ok (.iload_n 2, 1)) := by decide +kernel
theorem dX12_made_12 : decode cX12_made 12 = .ok (.aload_n 0, 1) := zd_454.1
theorem dX12_made_13 : decode cX12_made 13 = .ok (.getfield 22, 3) := zd_454.2.1
theorem dX12_made_16 : decode cX12_made 16 = .ok (.iload_n 2, 1) := zd_454.2.2.1
theorem dX12_made_17 : decode cX12_made 17 = .ok (.iconst 0, 1) := zd_454.2.2.2.1
theorem dX12_made_18 : decode cX12_made 18 = .ok (.iastore, 1) := zd_454.2.2.2.2.1
theorem dX12_made_19 : decode cX12_made 19 = .ok (.aload_n 0, 1) := zd_454.2.2.2.2.2.1
theorem dX12_made_20 : decode cX12_made 20 = .ok (.getfield 25, 3) := zd_454.2.2.2.2.2.2.1
theorem dX12_made_23 : decode cX12_made 23 = .ok (.iload_n 2, 1) := zd_454.2.2.2.2.2.2.2
theorem zd_455 : (decode cX12_made 24 = .ok (.iconst 0, 1)) ∧ (decode cX12_made 25 = .ok (.iastore, 1)) ∧ (decode cX12_made 26 = .ok (.aload_n 0, 1)) ∧ (decode cX12_made 27 = .ok (.getfield 28, 3)) ∧ (decode cX12_made 30 = .ok (.iload_n 2, 1)) ∧ (decode cX12_made 31 = .ok (.iconst 0, 1)) ∧ (decode cX12_made 32 = .ok (.iastore, 1)) ∧ (decode cX12_made 33 = .ok (.aload_n 0, 1)) := by decide +kernel
theorem dX12_made_24 : decode cX12_made 24 = .ok (.iconst 0, 1) := zd_455.1
theorem dX12_made_25 : decode cX12_made 25 = .ok (.iastore, 1) := zd_455.2.1
theorem dX12_made_26 : decode cX12_made 26 = .ok (.aload_n 0, 1) := zd_455.2.2.1
theorem dX12_made_27 : decode cX12_made 27 = .ok (.getfield 28, 3) := zd_455.2.2.2.1
theorem dX12_made_30 : decode cX12_made 30 = .ok (.iload_n 2, 1) := zd_455.2.2.2.2.1
theorem dX12_made_31 : decode cX12_made 31 = .ok (.iconst 0, 1) := zd_455.2.2.2.2.2.1
theorem dX12_made_32 : decode cX12_made 32 = .ok (.iastore, 1) := zd_455.2.2.2.2.2.2.1
theorem dX12_made_33 : decode cX12_made 33 = .ok (.aload_n 0, 1) := zd_455.2.2.2.2.2.2.2
theorem zd_456 : (decode cX12_made 34 = .ok (.getfield 31, 3)) ∧ (decode cX12_made 37 = .ok (.iload_n 2, 1)) ∧ (decode cX12_made 38 = .ok (.iconst 0, 1)) ∧ (decode cX12_made 39 = .ok (.iastore, 1)) ∧ (decode cX12_made 40 = .ok (.aload_n 0, 1)) ∧ (decode cX12_made 41 = .ok (.getfield 34, 3)) ∧ (decode cX12_made 44 = .ok (.iload_n 2, 1)) ∧ (decode cX12_made 45 = .ok (.iconst (-1), 1)) := by decide +kernel
theorem dX12_made_34 : decode cX12_made 34 = .ok (.getfield 31, 3) := zd_456.1
theorem dX12_made_37 : decode cX12_made 37 = .ok (.iload_n 2, 1) := zd_456.2.1
theorem dX12_made_38 : decode cX12_made 38 = .ok (.iconst 0, 1) := zd_456.2.2.1
theorem dX12_made_39 : decode cX12_made 39 = .ok (.iastore, 1) := zd_456.2.2.2.1
theorem dX12_made_40 : decode cX12_made 40 = .ok (.aload_n 0, 1) := zd_456.2.2.2.2.1
theorem dX12_made_41 : decode cX12_made 41 = .ok (.getfield 34, 3) := zd_456.2.2.2.2.2.1
theorem dX12_made_44 : decode cX12_made 44 = .ok (.iload_n 2, 1) := zd_456.2.2.2.2.2.2.1
theorem dX12_made_45 : decode cX12_made 45 = .ok (.iconst (-1), 1) := zd_456.2.2.2.2.2.2.2
theorem zd_457 : (decode cX12_made 46 = .ok (.iastore, 1)) ∧ (decode cX12_made 47 = .ok (.aload_n 0, 1)) ∧ (decode cX12_made 48 = .ok (.getfield 37, 3)) ∧ (decode cX12_made 51 = .ok (.iload_n 2, 1)) ∧ (decode cX12_made 52 = .ok (.iconst (-1), 1)) ∧ (decode cX12_made 53 = .ok (.iastore, 1)) ∧ (decode cX12_made 54 = .ok (.aload_n 0, 1)) ∧ (decode cX12_made 55 = .ok (.getfield 52, 3)) := by decide +kernel
theorem dX12_made_46 : decode cX12_made 46 = .ok (.iastore, 1) := zd_457.1
theorem dX12_made_47 : decode cX12_made 47 = .ok (.aload_n 0, 1) := zd_457.2.1
theorem dX12_made_48 : decode cX12_made 48 = .ok (.getfield 37, 3) := zd_457.2.2.1
theorem dX12_made_51 : decode cX12_made 51 = .ok (.iload_n 2, 1) := zd_457.2.2.2.1
theorem dX12_made_52 : decode cX12_made 52 = .ok (.iconst (-1), 1) := zd_457.2.2.2.2.1
theorem dX12_made_53 : decode cX12_made 53 = .ok (.iastore, 1) := zd_457.2.2.2.2.2.1
theorem dX12_made_54 : decode cX12_made 54 = .ok (.aload_n 0, 1) := zd_457.2.2.2.2.2.2.1
theorem dX12_made_55 : decode cX12_made 55 = .ok (.getfield 52, 3) := zd_457.2.2.2.2.2.2.2
theorem zd_458 : (decode cX12_made 58 = .ok (.iload_n 2, 1)) ∧ (decode cX12_made 59 = .ok (.iconst 0, 1)) ∧ (decode cX12_made 60 = .ok (.iastore, 1)) ∧ (decode cX12_made 61 = .ok (.aload_n 0, 1)) ∧ (decode cX12_made 62 = .ok (.getfield 58, 3)) ∧ (decode cX12_made 65 = .ok (.iload_n 2, 1)) ∧ (decode cX12_made 66 = .ok (.iconst 0, 1)) ∧ (decode cX12_made 67 = .ok (.iastore, 1)) := by decide +kernel
theorem dX12_made_58 : decode cX12_made 58 = .ok (.iload_n 2, 1) := zd_458.1
theorem dX12_made_59 : decode cX12_made 59 = .ok (.iconst 0, 1) := zd_458.2.1
theorem dX12_made_60 : decode cX12_made 60 = .ok (.iastore, 1) := zd_458.2.2.1
theorem dX12_made_61 : decode cX12_made 61 = .ok (.aload_n 0, 1) := zd_458.2.2.2.1
theorem dX12_made_62 : decode cX12_made 62 = .ok (.getfield 58, 3) := zd_458.2.2.2.2.1
theorem dX12_made_65 : decode cX12_made 65 = .ok (.iload_n 2, 1) := zd_458.2.2.2.2.2.1
theorem dX12_made_66 : decode cX12_made 66 = .ok (.iconst 0, 1) := zd_458.2.2.2.2.2.2.1
theorem dX12_made_67 : decode cX12_made 67 = .ok (.iastore, 1) := zd_458.2.2.2.2.2.2.2
theorem zd_459 : (decode cX12_made 68 = .ok (.aload_n 0, 1)) ∧ (decode cX12_made 69 = .ok (.getfield 74, 3)) ∧ (decode cX12_made 72 = .ok (.iload_n 2, 1)) ∧ (decode cX12_made 73 = .ok (.iconst 0, 1)) ∧ (decode cX12_made 74 = .ok (.iastore, 1)) ∧ (decode cX12_made 75 = .ok (.aload_n 0, 1)) ∧ (decode cX12_made 76 = .ok (.dup, 1)) ∧ (decode cX12_made 77 = .ok (.getfield 147, 3)) := by decide +kernel
theorem dX12_made_68 : decode cX12_made 68 = .ok (.aload_n 0, 1) := zd_459.1
theorem dX12_made_69 : decode cX12_made 69 = .ok (.getfield 74, 3) := zd_459.2.1
theorem dX12_made_72 : decode cX12_made 72 = .ok (.iload_n 2, 1) := zd_459.2.2.1
theorem dX12_made_73 : decode cX12_made 73 = .ok (.iconst 0, 1) := zd_459.2.2.2.1
theorem dX12_made_74 : decode cX12_made 74 = .ok (.iastore, 1) := zd_459.2.2.2.2.1
theorem dX12_made_75 : decode cX12_made 75 = .ok (.aload_n 0, 1) := zd_459.2.2.2.2.2.1
theorem dX12_made_76 : decode cX12_made 76 = .ok (.dup, 1) := zd_459.2.2.2.2.2.2.1
theorem dX12_made_77 : decode cX12_made 77 = .ok (.getfield 147, 3) := zd_459.2.2.2.2.2.2.2
theorem zd_460 : (decode cX12_made 80 = .ok (.iconst 1, 1)) ∧ (decode cX12_made 81 = .ok (.iadd, 1)) ∧ (decode cX12_made 82 = .ok (.putfield 147, 3)) ∧ (decode cX12_made 85 = .ok (.iload_n 2, 1)) ∧ (decode cX12_made 86 = .ok (.ireturn, 1)) := by decide +kernel
theorem dX12_made_80 : decode cX12_made 80 = .ok (.iconst 1, 1) := zd_460.1
theorem dX12_made_81 : decode cX12_made 81 = .ok (.iadd, 1) := zd_460.2.1
theorem dX12_made_82 : decode cX12_made 82 = .ok (.putfield 147, 3) := zd_460.2.2.1
theorem dX12_made_85 : decode cX12_made 85 = .ok (.iload_n 2, 1) := zd_460.2.2.2.1
theorem dX12_made_86 : decode cX12_made 86 = .ok (.ireturn, 1) := zd_460.2.2.2.2
theorem zd_461 : (decode cX12_story 0 = .ok (.aload_n 0, 1)) ∧ (decode cX12_story 1 = .ok (.getfield 147, 3)) ∧ (decode cX12_story 4 = .ok (.bipush 80, 2)) ∧ (decode cX12_story 6 = .ok (.if_icmp .eq 13, 3)) ∧ (decode cX12_story 9 = .ok (.iload_n 1, 1)) ∧ (decode cX12_story 10 = .ok (.iconst 1, 1)) ∧ (decode cX12_story 11 = .ok (.bipush 80, 2)) ∧ (decode cX12_story 13 = .ok (.invokestatic 143, 3)) := by decide +kernel
theorem dX12_story_0 : decode cX12_story 0 = .ok (.aload_n 0, 1) := zd_461.1
theorem dX12_story_1 : decode cX12_story 1 = .ok (.getfield 147, 3) := zd_461.2.1
theorem dX12_story_4 : decode cX12_story 4 = .ok (.bipush 80, 2) := zd_461.2.2.1
theorem dX12_story_6 : decode cX12_story 6 = .ok (.if_icmp .eq 13, 3) := zd_461.2.2.2.1
theorem dX12_story_9 : decode cX12_story 9 = .ok (.iload_n 1, 1) := zd_461.2.2.2.2.1
theorem dX12_story_10 : decode cX12_story 10 = .ok (.iconst 1, 1) := zd_461.2.2.2.2.2.1
theorem dX12_story_11 : decode cX12_story 11 = .ok (.bipush 80, 2) := zd_461.2.2.2.2.2.2.1
theorem dX12_story_13 : decode cX12_story 13 = .ok (.invokestatic 143, 3) := zd_461.2.2.2.2.2.2.2
theorem zd_462 : (decode cX12_story 16 = .ok (.ifCond .ne 5, 3)) ∧ (decode cX12_story 19 = .ok (.iconst (-1), 1)) ∧ (decode cX12_story 20 = .ok (.ireturn, 1)) ∧ (decode cX12_story 21 = .ok (.aload_n 0, 1)) ∧ (decode cX12_story 22 = .ok (.iconst 0, 1)) ∧ (decode cX12_story 23 = .ok (.invokevirtual 171, 3)) ∧ (decode cX12_story 26 = .ok (.istore_n 2, 1)) ∧ (decode cX12_story 27 = .ok (.aload_n 0, 1)) := by decide +kernel
theorem dX12_story_16 : decode cX12_story 16 = .ok (.ifCond .ne 5, 3) := zd_462.1
theorem dX12_story_19 : decode cX12_story 19 = .ok (.iconst (-1), 1) := zd_462.2.1
theorem dX12_story_20 : decode cX12_story 20 = .ok (.ireturn, 1) := zd_462.2.2.1
theorem dX12_story_21 : decode cX12_story 21 = .ok (.aload_n 0, 1) := zd_462.2.2.2.1
theorem dX12_story_22 : decode cX12_story 22 = .ok (.iconst 0, 1) := zd_462.2.2.2.2.1
theorem dX12_story_23 : decode cX12_story 23 = .ok (.invokevirtual 171, 3) := zd_462.2.2.2.2.2.1
theorem dX12_story_26 : decode cX12_story 26 = .ok (.istore_n 2, 1) := zd_462.2.2.2.2.2.2.1
theorem dX12_story_27 : decode cX12_story 27 = .ok (.aload_n 0, 1) := zd_462.2.2.2.2.2.2.2
theorem zd_463 : (decode cX12_story 28 = .ok (.getfield 22, 3)) ∧ (decode cX12_story 31 = .ok (.iload_n 2, 1)) ∧ (decode cX12_story 32 = .ok (.iload_n 1, 1)) ∧ (decode cX12_story 33 = .ok (.iastore, 1)) ∧ (decode cX12_story 34 = .ok (.iload_n 2, 1)) ∧ (decode cX12_story 35 = .ok (.ireturn, 1)) := by decide +kernel
theorem dX12_story_28 : decode cX12_story 28 = .ok (.getfield 22, 3) := zd_463.1
theorem dX12_story_31 : decode cX12_story 31 = .ok (.iload_n 2, 1) := zd_463.2.1
theorem dX12_story_32 : decode cX12_story 32 = .ok (.iload_n 1, 1) := zd_463.2.2.1
theorem dX12_story_33 : decode cX12_story 33 = .ok (.iastore, 1) := zd_463.2.2.2.1
theorem dX12_story_34 : decode cX12_story 34 = .ok (.iload_n 2, 1) := zd_463.2.2.2.2.1
theorem dX12_story_35 : decode cX12_story 35 = .ok (.ireturn, 1) := zd_463.2.2.2.2.2
theorem zd_464 : (decode cX12_line 0 = .ok (.aload_n 0, 1)) ∧ (decode cX12_line 1 = .ok (.iload_n 1, 1)) ∧ (decode cX12_line 2 = .ok (.iconst 0, 1)) ∧ (decode cX12_line 3 = .ok (.invokevirtual 175, 3)) ∧ (decode cX12_line 6 = .ok (.ifCond .eq 25, 3)) ∧ (decode cX12_line 9 = .ok (.iload_n 2, 1)) ∧ (decode cX12_line 10 = .ok (.iconst 1, 1)) ∧ (decode cX12_line 11 = .ok (.sipush 200, 3)) := by decide +kernel
theorem dX12_line_0 : decode cX12_line 0 = .ok (.aload_n 0, 1) := zd_464.1
theorem dX12_line_1 : decode cX12_line 1 = .ok (.iload_n 1, 1) := zd_464.2.1
theorem dX12_line_2 : decode cX12_line 2 = .ok (.iconst 0, 1) := zd_464.2.2.1
theorem dX12_line_3 : decode cX12_line 3 = .ok (.invokevirtual 175, 3) := zd_464.2.2.2.1
theorem dX12_line_6 : decode cX12_line 6 = .ok (.ifCond .eq 25, 3) := zd_464.2.2.2.2.1
theorem dX12_line_9 : decode cX12_line 9 = .ok (.iload_n 2, 1) := zd_464.2.2.2.2.2.1
theorem dX12_line_10 : decode cX12_line 10 = .ok (.iconst 1, 1) := zd_464.2.2.2.2.2.2.1
theorem dX12_line_11 : decode cX12_line 11 = .ok (.sipush 200, 3) := zd_464.2.2.2.2.2.2.2
theorem zd_465 : (decode cX12_line 14 = .ok (.invokestatic 143, 3)) ∧ (decode cX12_line 17 = .ok (.ifCond .eq 14, 3)) ∧ (decode cX12_line 20 = .ok (.aload_n 0, 1)) ∧ (decode cX12_line 21 = .ok (.getfield 52, 3)) ∧ (decode cX12_line 24 = .ok (.iload_n 1, 1)) ∧ (decode cX12_line 25 = .ok (.iaload, 1)) ∧ (decode cX12_line 26 = .ok (.bipush 80, 2)) ∧ (decode cX12_line 28 = .ok (.if_icmp .ne 5, 3)) := by decide +kernel
theorem dX12_line_14 : decode cX12_line 14 = .ok (.invokestatic 143, 3) := zd_465.1
theorem dX12_line_17 : decode cX12_line 17 = .ok (.ifCond .eq 14, 3) := zd_465.2.1
theorem dX12_line_20 : decode cX12_line 20 = .ok (.aload_n 0, 1) := zd_465.2.2.1
theorem dX12_line_21 : decode cX12_line 21 = .ok (.getfield 52, 3) := zd_465.2.2.2.1
theorem dX12_line_24 : decode cX12_line 24 = .ok (.iload_n 1, 1) := zd_465.2.2.2.2.1
theorem dX12_line_25 : decode cX12_line 25 = .ok (.iaload, 1) := zd_465.2.2.2.2.2.1
theorem dX12_line_26 : decode cX12_line 26 = .ok (.bipush 80, 2) := zd_465.2.2.2.2.2.2.1
theorem dX12_line_28 : decode cX12_line 28 = .ok (.if_icmp .ne 5, 3) := zd_465.2.2.2.2.2.2.2
theorem zd_466 : (decode cX12_line 31 = .ok (.iconst (-1), 1)) ∧ (decode cX12_line 32 = .ok (.ireturn, 1)) ∧ (decode cX12_line 33 = .ok (.aload_n 0, 1)) ∧ (decode cX12_line 34 = .ok (.getfield 55, 3)) ∧ (decode cX12_line 37 = .ok (.bipush 80, 2)) ∧ (decode cX12_line 39 = .ok (.iload_n 1, 1)) ∧ (decode cX12_line 40 = .ok (.imul, 1)) ∧ (decode cX12_line 41 = .ok (.aload_n 0, 1)) := by decide +kernel
theorem dX12_line_31 : decode cX12_line 31 = .ok (.iconst (-1), 1) := zd_466.1
theorem dX12_line_32 : decode cX12_line 32 = .ok (.ireturn, 1) := zd_466.2.1
theorem dX12_line_33 : decode cX12_line 33 = .ok (.aload_n 0, 1) := zd_466.2.2.1
theorem dX12_line_34 : decode cX12_line 34 = .ok (.getfield 55, 3) := zd_466.2.2.2.1
theorem dX12_line_37 : decode cX12_line 37 = .ok (.bipush 80, 2) := zd_466.2.2.2.2.1
theorem dX12_line_39 : decode cX12_line 39 = .ok (.iload_n 1, 1) := zd_466.2.2.2.2.2.1
theorem dX12_line_40 : decode cX12_line 40 = .ok (.imul, 1) := zd_466.2.2.2.2.2.2.1
theorem dX12_line_41 : decode cX12_line 41 = .ok (.aload_n 0, 1) := zd_466.2.2.2.2.2.2.2
theorem zd_467 : (decode cX12_line 42 = .ok (.getfield 52, 3)) ∧ (decode cX12_line 45 = .ok (.iload_n 1, 1)) ∧ (decode cX12_line 46 = .ok (.iaload, 1)) ∧ (decode cX12_line 47 = .ok (.iadd, 1)) ∧ (decode cX12_line 48 = .ok (.iload_n 2, 1)) ∧ (decode cX12_line 49 = .ok (.iastore, 1)) ∧ (decode cX12_line 50 = .ok (.aload_n 0, 1)) ∧ (decode cX12_line 51 = .ok (.getfield 52, 3)) := by decide +kernel
theorem dX12_line_42 : decode cX12_line 42 = .ok (.getfield 52, 3) := zd_467.1
theorem dX12_line_45 : decode cX12_line 45 = .ok (.iload_n 1, 1) := zd_467.2.1
theorem dX12_line_46 : decode cX12_line 46 = .ok (.iaload, 1) := zd_467.2.2.1
theorem dX12_line_47 : decode cX12_line 47 = .ok (.iadd, 1) := zd_467.2.2.2.1
theorem dX12_line_48 : decode cX12_line 48 = .ok (.iload_n 2, 1) := zd_467.2.2.2.2.1
theorem dX12_line_49 : decode cX12_line 49 = .ok (.iastore, 1) := zd_467.2.2.2.2.2.1
theorem dX12_line_50 : decode cX12_line 50 = .ok (.aload_n 0, 1) := zd_467.2.2.2.2.2.2.1
theorem dX12_line_51 : decode cX12_line 51 = .ok (.getfield 52, 3) := zd_467.2.2.2.2.2.2.2
theorem zd_468 : (decode cX12_line 54 = .ok (.iload_n 1, 1)) ∧ (decode cX12_line 55 = .ok (.dup2, 1)) ∧ (decode cX12_line 56 = .ok (.iaload, 1)) ∧ (decode cX12_line 57 = .ok (.iconst 1, 1)) ∧ (decode cX12_line 58 = .ok (.iadd, 1)) ∧ (decode cX12_line 59 = .ok (.iastore, 1)) ∧ (decode cX12_line 60 = .ok (.aload_n 0, 1)) ∧ (decode cX12_line 61 = .ok (.getfield 52, 3)) := by decide +kernel
theorem dX12_line_54 : decode cX12_line 54 = .ok (.iload_n 1, 1) := zd_468.1
theorem dX12_line_55 : decode cX12_line 55 = .ok (.dup2, 1) := zd_468.2.1
theorem dX12_line_56 : decode cX12_line 56 = .ok (.iaload, 1) := zd_468.2.2.1
theorem dX12_line_57 : decode cX12_line 57 = .ok (.iconst 1, 1) := zd_468.2.2.2.1
theorem dX12_line_58 : decode cX12_line 58 = .ok (.iadd, 1) := zd_468.2.2.2.2.1
theorem dX12_line_59 : decode cX12_line 59 = .ok (.iastore, 1) := zd_468.2.2.2.2.2.1
theorem dX12_line_60 : decode cX12_line 60 = .ok (.aload_n 0, 1) := zd_468.2.2.2.2.2.2.1
theorem dX12_line_61 : decode cX12_line 61 = .ok (.getfield 52, 3) := zd_468.2.2.2.2.2.2.2
theorem zd_469 : (decode cX12_line 64 = .ok (.iload_n 1, 1)) ∧ (decode cX12_line 65 = .ok (.iaload, 1)) ∧ (decode cX12_line 66 = .ok (.ireturn, 1)) := by decide +kernel
theorem dX12_line_64 : decode cX12_line 64 = .ok (.iload_n 1, 1) := zd_469.1
theorem dX12_line_65 : decode cX12_line 65 = .ok (.iaload, 1) := zd_469.2.1
theorem dX12_line_66 : decode cX12_line 66 = .ok (.ireturn, 1) := zd_469.2.2
theorem zd_470 : (decode cX12_head 0 = .ok (.aload_n 0, 1)) ∧ (decode cX12_head 1 = .ok (.getfield 147, 3)) ∧ (decode cX12_head 4 = .ok (.bipush 80, 2)) ∧ (decode cX12_head 6 = .ok (.if_icmp .eq 32, 3)) ∧ (decode cX12_head 9 = .ok (.aload_n 0, 1)) ∧ (decode cX12_head 10 = .ok (.iload_n 1, 1)) ∧ (decode cX12_head 11 = .ok (.iconst 0, 1)) ∧ (decode cX12_head 12 = .ok (.invokevirtual 175, 3)) := by decide +kernel
theorem dX12_head_0 : decode cX12_head 0 = .ok (.aload_n 0, 1) := zd_470.1
theorem dX12_head_1 : decode cX12_head 1 = .ok (.getfield 147, 3) := zd_470.2.1
theorem dX12_head_4 : decode cX12_head 4 = .ok (.bipush 80, 2) := zd_470.2.2.1
theorem dX12_head_6 : decode cX12_head 6 = .ok (.if_icmp .eq 32, 3) := zd_470.2.2.2.1
theorem dX12_head_9 : decode cX12_head 9 = .ok (.aload_n 0, 1) := zd_470.2.2.2.2.1
theorem dX12_head_10 : decode cX12_head 10 = .ok (.iload_n 1, 1) := zd_470.2.2.2.2.2.1
theorem dX12_head_11 : decode cX12_head 11 = .ok (.iconst 0, 1) := zd_470.2.2.2.2.2.2.1
theorem dX12_head_12 : decode cX12_head 12 = .ok (.invokevirtual 175, 3) := zd_470.2.2.2.2.2.2.2
theorem zd_471 : (decode cX12_head 15 = .ok (.ifCond .eq 23, 3)) ∧ (decode cX12_head 18 = .ok (.iload_n 2, 1)) ∧ (decode cX12_head 19 = .ok (.iconst 1, 1)) ∧ (decode cX12_head 20 = .ok (.bipush 8, 2)) ∧ (decode cX12_head 22 = .ok (.invokestatic 143, 3)) ∧ (decode cX12_head 25 = .ok (.ifCond .eq 13, 3)) ∧ (decode cX12_head 28 = .ok (.iload_n 3, 1)) ∧ (decode cX12_head 29 = .ok (.iconst 1, 1)) := by decide +kernel
theorem dX12_head_15 : decode cX12_head 15 = .ok (.ifCond .eq 23, 3) := zd_471.1
theorem dX12_head_18 : decode cX12_head 18 = .ok (.iload_n 2, 1) := zd_471.2.1
theorem dX12_head_19 : decode cX12_head 19 = .ok (.iconst 1, 1) := zd_471.2.2.1
theorem dX12_head_20 : decode cX12_head 20 = .ok (.bipush 8, 2) := zd_471.2.2.2.1
theorem dX12_head_22 : decode cX12_head 22 = .ok (.invokestatic 143, 3) := zd_471.2.2.2.2.1
theorem dX12_head_25 : decode cX12_head 25 = .ok (.ifCond .eq 13, 3) := zd_471.2.2.2.2.2.1
theorem dX12_head_28 : decode cX12_head 28 = .ok (.iload_n 3, 1) := zd_471.2.2.2.2.2.2.1
theorem dX12_head_29 : decode cX12_head 29 = .ok (.iconst 1, 1) := zd_471.2.2.2.2.2.2.2
theorem zd_472 : (decode cX12_head 30 = .ok (.bipush 9, 2)) ∧ (decode cX12_head 32 = .ok (.invokestatic 143, 3)) ∧ (decode cX12_head 35 = .ok (.ifCond .ne 5, 3)) ∧ (decode cX12_head 38 = .ok (.iconst (-1), 1)) ∧ (decode cX12_head 39 = .ok (.ireturn, 1)) ∧ (decode cX12_head 40 = .ok (.aload_n 0, 1)) ∧ (decode cX12_head 41 = .ok (.iconst 1, 1)) ∧ (decode cX12_head 42 = .ok (.invokevirtual 171, 3)) := by decide +kernel
theorem dX12_head_30 : decode cX12_head 30 = .ok (.bipush 9, 2) := zd_472.1
theorem dX12_head_32 : decode cX12_head 32 = .ok (.invokestatic 143, 3) := zd_472.2.1
theorem dX12_head_35 : decode cX12_head 35 = .ok (.ifCond .ne 5, 3) := zd_472.2.2.1
theorem dX12_head_38 : decode cX12_head 38 = .ok (.iconst (-1), 1) := zd_472.2.2.2.1
theorem dX12_head_39 : decode cX12_head 39 = .ok (.ireturn, 1) := zd_472.2.2.2.2.1
theorem dX12_head_40 : decode cX12_head 40 = .ok (.aload_n 0, 1) := zd_472.2.2.2.2.2.1
theorem dX12_head_41 : decode cX12_head 41 = .ok (.iconst 1, 1) := zd_472.2.2.2.2.2.2.1
theorem dX12_head_42 : decode cX12_head 42 = .ok (.invokevirtual 171, 3) := zd_472.2.2.2.2.2.2.2
theorem zd_473 : (decode cX12_head 45 = .ok (.istore 4, 2)) ∧ (decode cX12_head 47 = .ok (.aload_n 0, 1)) ∧ (decode cX12_head 48 = .ok (.getfield 34, 3)) ∧ (decode cX12_head 51 = .ok (.iload 4, 2)) ∧ (decode cX12_head 53 = .ok (.iload_n 1, 1)) ∧ (decode cX12_head 54 = .ok (.iastore, 1)) ∧ (decode cX12_head 55 = .ok (.aload_n 0, 1)) ∧ (decode cX12_head 56 = .ok (.getfield 28, 3)) := by decide +kernel
theorem dX12_head_45 : decode cX12_head 45 = .ok (.istore 4, 2) := zd_473.1
theorem dX12_head_47 : decode cX12_head 47 = .ok (.aload_n 0, 1) := zd_473.2.1
theorem dX12_head_48 : decode cX12_head 48 = .ok (.getfield 34, 3) := zd_473.2.2.1
theorem dX12_head_51 : decode cX12_head 51 = .ok (.iload 4, 2) := zd_473.2.2.2.1
theorem dX12_head_53 : decode cX12_head 53 = .ok (.iload_n 1, 1) := zd_473.2.2.2.2.1
theorem dX12_head_54 : decode cX12_head 54 = .ok (.iastore, 1) := zd_473.2.2.2.2.2.1
theorem dX12_head_55 : decode cX12_head 55 = .ok (.aload_n 0, 1) := zd_473.2.2.2.2.2.2.1
theorem dX12_head_56 : decode cX12_head 56 = .ok (.getfield 28, 3) := zd_473.2.2.2.2.2.2.2
theorem zd_474 : (decode cX12_head 59 = .ok (.iload 4, 2)) ∧ (decode cX12_head 61 = .ok (.iload_n 2, 1)) ∧ (decode cX12_head 62 = .ok (.iastore, 1)) ∧ (decode cX12_head 63 = .ok (.aload_n 0, 1)) ∧ (decode cX12_head 64 = .ok (.getfield 31, 3)) ∧ (decode cX12_head 67 = .ok (.iload 4, 2)) ∧ (decode cX12_head 69 = .ok (.iload_n 3, 1)) ∧ (decode cX12_head 70 = .ok (.iastore, 1)) := by decide +kernel
theorem dX12_head_59 : decode cX12_head 59 = .ok (.iload 4, 2) := zd_474.1
theorem dX12_head_61 : decode cX12_head 61 = .ok (.iload_n 2, 1) := zd_474.2.1
theorem dX12_head_62 : decode cX12_head 62 = .ok (.iastore, 1) := zd_474.2.2.1
theorem dX12_head_63 : decode cX12_head 63 = .ok (.aload_n 0, 1) := zd_474.2.2.2.1
theorem dX12_head_64 : decode cX12_head 64 = .ok (.getfield 31, 3) := zd_474.2.2.2.2.1
theorem dX12_head_67 : decode cX12_head 67 = .ok (.iload 4, 2) := zd_474.2.2.2.2.2.1
theorem dX12_head_69 : decode cX12_head 69 = .ok (.iload_n 3, 1) := zd_474.2.2.2.2.2.2.1
theorem dX12_head_70 : decode cX12_head 70 = .ok (.iastore, 1) := zd_474.2.2.2.2.2.2.2
theorem zd_475 : (decode cX12_head 71 = .ok (.iload 4, 2)) ∧ (decode cX12_head 73 = .ok (.ireturn, 1)) := by decide +kernel
theorem dX12_head_71 : decode cX12_head 71 = .ok (.iload 4, 2) := zd_475.1
theorem dX12_head_73 : decode cX12_head 73 = .ok (.ireturn, 1) := zd_475.2
theorem zd_476 : (decode cX12_picture 0 = .ok (.aload_n 0, 1)) ∧ (decode cX12_picture 1 = .ok (.getfield 147, 3)) ∧ (decode cX12_picture 4 = .ok (.bipush 80, 2)) ∧ (decode cX12_picture 6 = .ok (.if_icmp .ne 7, 3)) ∧ (decode cX12_picture 9 = .ok (.iconst (-1), 1)) ∧ (decode cX12_picture 10 = .ok (.goto 8, 3)) ∧ (decode cX12_picture 13 = .ok (.aload_n 0, 1)) ∧ (decode cX12_picture 14 = .ok (.iconst 2, 1)) := by decide +kernel
theorem dX12_picture_0 : decode cX12_picture 0 = .ok (.aload_n 0, 1) := zd_476.1
theorem dX12_picture_1 : decode cX12_picture 1 = .ok (.getfield 147, 3) := zd_476.2.1
theorem dX12_picture_4 : decode cX12_picture 4 = .ok (.bipush 80, 2) := zd_476.2.2.1
theorem dX12_picture_6 : decode cX12_picture 6 = .ok (.if_icmp .ne 7, 3) := zd_476.2.2.2.1
theorem dX12_picture_9 : decode cX12_picture 9 = .ok (.iconst (-1), 1) := zd_476.2.2.2.2.1
theorem dX12_picture_10 : decode cX12_picture 10 = .ok (.goto 8, 3) := zd_476.2.2.2.2.2.1
theorem dX12_picture_13 : decode cX12_picture 13 = .ok (.aload_n 0, 1) := zd_476.2.2.2.2.2.2.1
theorem dX12_picture_14 : decode cX12_picture 14 = .ok (.iconst 2, 1) := zd_476.2.2.2.2.2.2.2
theorem zd_477 : (decode cX12_picture 15 = .ok (.invokevirtual 171, 3)) ∧ (decode cX12_picture 18 = .ok (.ireturn, 1)) := by decide +kernel
theorem dX12_picture_15 : decode cX12_picture 15 = .ok (.invokevirtual 171, 3) := zd_477.1
theorem dX12_picture_18 : decode cX12_picture 18 = .ok (.ireturn, 1) := zd_477.2
theorem zd_478 : (decode cX12_size 0 = .ok (.aload_n 0, 1)) ∧ (decode cX12_size 1 = .ok (.iload_n 1, 1)) ∧ (decode cX12_size 2 = .ok (.iconst 2, 1)) ∧ (decode cX12_size 3 = .ok (.invokevirtual 175, 3)) ∧ (decode cX12_size 6 = .ok (.ifCond .eq 33, 3)) ∧ (decode cX12_size 9 = .ok (.iload_n 2, 1)) ∧ (decode cX12_size 10 = .ok (.iconst 1, 1)) ∧ (decode cX12_size 11 = .ok (.bipush 8, 2)) := by decide +kernel
theorem dX12_size_0 : decode cX12_size 0 = .ok (.aload_n 0, 1) := zd_478.1
theorem dX12_size_1 : decode cX12_size 1 = .ok (.iload_n 1, 1) := zd_478.2.1
theorem dX12_size_2 : decode cX12_size 2 = .ok (.iconst 2, 1) := zd_478.2.2.1
theorem dX12_size_3 : decode cX12_size 3 = .ok (.invokevirtual 175, 3) := zd_478.2.2.2.1
theorem dX12_size_6 : decode cX12_size 6 = .ok (.ifCond .eq 33, 3) := zd_478.2.2.2.2.1
theorem dX12_size_9 : decode cX12_size 9 = .ok (.iload_n 2, 1) := zd_478.2.2.2.2.2.1
theorem dX12_size_10 : decode cX12_size 10 = .ok (.iconst 1, 1) := zd_478.2.2.2.2.2.2.1
theorem dX12_size_11 : decode cX12_size 11 = .ok (.bipush 8, 2) := zd_478.2.2.2.2.2.2.2
theorem zd_479 : (decode cX12_size 13 = .ok (.invokestatic 143, 3)) ∧ (decode cX12_size 16 = .ok (.ifCond .eq 23, 3)) ∧ (decode cX12_size 19 = .ok (.iload_n 3, 1)) ∧ (decode cX12_size 20 = .ok (.iconst 1, 1)) ∧ (decode cX12_size 21 = .ok (.bipush 60, 2)) ∧ (decode cX12_size 23 = .ok (.invokestatic 143, 3)) ∧ (decode cX12_size 26 = .ok (.ifCond .eq 13, 3)) ∧ (decode cX12_size 29 = .ok (.aload_n 0, 1)) := by decide +kernel
theorem dX12_size_13 : decode cX12_size 13 = .ok (.invokestatic 143, 3) := zd_479.1
theorem dX12_size_16 : decode cX12_size 16 = .ok (.ifCond .eq 23, 3) := zd_479.2.1
theorem dX12_size_19 : decode cX12_size 19 = .ok (.iload_n 3, 1) := zd_479.2.2.1
theorem dX12_size_20 : decode cX12_size 20 = .ok (.iconst 1, 1) := zd_479.2.2.2.1
theorem dX12_size_21 : decode cX12_size 21 = .ok (.bipush 60, 2) := zd_479.2.2.2.2.1
theorem dX12_size_23 : decode cX12_size 23 = .ok (.invokestatic 143, 3) := zd_479.2.2.2.2.2.1
theorem dX12_size_26 : decode cX12_size 26 = .ok (.ifCond .eq 13, 3) := zd_479.2.2.2.2.2.2.1
theorem dX12_size_29 : decode cX12_size 29 = .ok (.aload_n 0, 1) := zd_479.2.2.2.2.2.2.2
theorem zd_480 : (decode cX12_size 30 = .ok (.getfield 58, 3)) ∧ (decode cX12_size 33 = .ok (.iload_n 1, 1)) ∧ (decode cX12_size 34 = .ok (.iaload, 1)) ∧ (decode cX12_size 35 = .ok (.iconst 4, 1)) ∧ (decode cX12_size 36 = .ok (.if_icmp .ne 5, 3)) ∧ (decode cX12_size 39 = .ok (.iconst (-1), 1)) ∧ (decode cX12_size 40 = .ok (.ireturn, 1)) ∧ (decode cX12_size 41 = .ok (.aload_n 0, 1)) := by decide +kernel
theorem dX12_size_30 : decode cX12_size 30 = .ok (.getfield 58, 3) := zd_480.1
theorem dX12_size_33 : decode cX12_size 33 = .ok (.iload_n 1, 1) := zd_480.2.1
theorem dX12_size_34 : decode cX12_size 34 = .ok (.iaload, 1) := zd_480.2.2.1
theorem dX12_size_35 : decode cX12_size 35 = .ok (.iconst 4, 1) := zd_480.2.2.2.1
theorem dX12_size_36 : decode cX12_size 36 = .ok (.if_icmp .ne 5, 3) := zd_480.2.2.2.2.1
theorem dX12_size_39 : decode cX12_size 39 = .ok (.iconst (-1), 1) := zd_480.2.2.2.2.2.1
theorem dX12_size_40 : decode cX12_size 40 = .ok (.ireturn, 1) := zd_480.2.2.2.2.2.2.1
theorem dX12_size_41 : decode cX12_size 41 = .ok (.aload_n 0, 1) := zd_480.2.2.2.2.2.2.2
theorem zd_481 : (decode cX12_size 42 = .ok (.getfield 61, 3)) ∧ (decode cX12_size 45 = .ok (.iconst 4, 1)) ∧ (decode cX12_size 46 = .ok (.iload_n 1, 1)) ∧ (decode cX12_size 47 = .ok (.imul, 1)) ∧ (decode cX12_size 48 = .ok (.aload_n 0, 1)) ∧ (decode cX12_size 49 = .ok (.getfield 58, 3)) ∧ (decode cX12_size 52 = .ok (.iload_n 1, 1)) ∧ (decode cX12_size 53 = .ok (.iaload, 1)) := by decide +kernel
theorem dX12_size_42 : decode cX12_size 42 = .ok (.getfield 61, 3) := zd_481.1
theorem dX12_size_45 : decode cX12_size 45 = .ok (.iconst 4, 1) := zd_481.2.1
theorem dX12_size_46 : decode cX12_size 46 = .ok (.iload_n 1, 1) := zd_481.2.2.1
theorem dX12_size_47 : decode cX12_size 47 = .ok (.imul, 1) := zd_481.2.2.2.1
theorem dX12_size_48 : decode cX12_size 48 = .ok (.aload_n 0, 1) := zd_481.2.2.2.2.1
theorem dX12_size_49 : decode cX12_size 49 = .ok (.getfield 58, 3) := zd_481.2.2.2.2.2.1
theorem dX12_size_52 : decode cX12_size 52 = .ok (.iload_n 1, 1) := zd_481.2.2.2.2.2.2.1
theorem dX12_size_53 : decode cX12_size 53 = .ok (.iaload, 1) := zd_481.2.2.2.2.2.2.2
theorem zd_482 : (decode cX12_size 54 = .ok (.iadd, 1)) ∧ (decode cX12_size 55 = .ok (.iload_n 2, 1)) ∧ (decode cX12_size 56 = .ok (.iastore, 1)) ∧ (decode cX12_size 57 = .ok (.aload_n 0, 1)) ∧ (decode cX12_size 58 = .ok (.getfield 64, 3)) ∧ (decode cX12_size 61 = .ok (.iconst 4, 1)) ∧ (decode cX12_size 62 = .ok (.iload_n 1, 1)) ∧ (decode cX12_size 63 = .ok (.imul, 1)) := by decide +kernel
theorem dX12_size_54 : decode cX12_size 54 = .ok (.iadd, 1) := zd_482.1
theorem dX12_size_55 : decode cX12_size 55 = .ok (.iload_n 2, 1) := zd_482.2.1
theorem dX12_size_56 : decode cX12_size 56 = .ok (.iastore, 1) := zd_482.2.2.1
theorem dX12_size_57 : decode cX12_size 57 = .ok (.aload_n 0, 1) := zd_482.2.2.2.1
theorem dX12_size_58 : decode cX12_size 58 = .ok (.getfield 64, 3) := zd_482.2.2.2.2.1
theorem dX12_size_61 : decode cX12_size 61 = .ok (.iconst 4, 1) := zd_482.2.2.2.2.2.1
theorem dX12_size_62 : decode cX12_size 62 = .ok (.iload_n 1, 1) := zd_482.2.2.2.2.2.2.1
theorem dX12_size_63 : decode cX12_size 63 = .ok (.imul, 1) := zd_482.2.2.2.2.2.2.2
theorem zd_483 : (decode cX12_size 64 = .ok (.aload_n 0, 1)) ∧ (decode cX12_size 65 = .ok (.getfield 58, 3)) ∧ (decode cX12_size 68 = .ok (.iload_n 1, 1)) ∧ (decode cX12_size 69 = .ok (.iaload, 1)) ∧ (decode cX12_size 70 = .ok (.iadd, 1)) ∧ (decode cX12_size 71 = .ok (.iload_n 3, 1)) ∧ (decode cX12_size 72 = .ok (.iastore, 1)) ∧ (decode cX12_size 73 = .ok (.aload_n 0, 1)) := by decide +kernel
theorem dX12_size_64 : decode cX12_size 64 = .ok (.aload_n 0, 1) := zd_483.1
theorem dX12_size_65 : decode cX12_size 65 = .ok (.getfield 58, 3) := zd_483.2.1
theorem dX12_size_68 : decode cX12_size 68 = .ok (.iload_n 1, 1) := zd_483.2.2.1
theorem dX12_size_69 : decode cX12_size 69 = .ok (.iaload, 1) := zd_483.2.2.2.1
theorem dX12_size_70 : decode cX12_size 70 = .ok (.iadd, 1) := zd_483.2.2.2.2.1
theorem dX12_size_71 : decode cX12_size 71 = .ok (.iload_n 3, 1) := zd_483.2.2.2.2.2.1
theorem dX12_size_72 : decode cX12_size 72 = .ok (.iastore, 1) := zd_483.2.2.2.2.2.2.1
theorem dX12_size_73 : decode cX12_size 73 = .ok (.aload_n 0, 1) := zd_483.2.2.2.2.2.2.2
theorem zd_484 : (decode cX12_size 74 = .ok (.getfield 58, 3)) ∧ (decode cX12_size 77 = .ok (.iload_n 1, 1)) ∧ (decode cX12_size 78 = .ok (.dup2, 1)) ∧ (decode cX12_size 79 = .ok (.iaload, 1)) ∧ (decode cX12_size 80 = .ok (.iconst 1, 1)) ∧ (decode cX12_size 81 = .ok (.iadd, 1)) ∧ (decode cX12_size 82 = .ok (.iastore, 1)) ∧ (decode cX12_size 83 = .ok (.aload_n 0, 1)) := by decide +kernel
theorem dX12_size_74 : decode cX12_size 74 = .ok (.getfield 58, 3) := zd_484.1
theorem dX12_size_77 : decode cX12_size 77 = .ok (.iload_n 1, 1) := zd_484.2.1
theorem dX12_size_78 : decode cX12_size 78 = .ok (.dup2, 1) := zd_484.2.2.1
theorem dX12_size_79 : decode cX12_size 79 = .ok (.iaload, 1) := zd_484.2.2.2.1
theorem dX12_size_80 : decode cX12_size 80 = .ok (.iconst 1, 1) := zd_484.2.2.2.2.1
theorem dX12_size_81 : decode cX12_size 81 = .ok (.iadd, 1) := zd_484.2.2.2.2.2.1
theorem dX12_size_82 : decode cX12_size 82 = .ok (.iastore, 1) := zd_484.2.2.2.2.2.2.1
theorem dX12_size_83 : decode cX12_size 83 = .ok (.aload_n 0, 1) := zd_484.2.2.2.2.2.2.2
theorem zd_485 : (decode cX12_size 84 = .ok (.getfield 58, 3)) ∧ (decode cX12_size 87 = .ok (.iload_n 1, 1)) ∧ (decode cX12_size 88 = .ok (.iaload, 1)) ∧ (decode cX12_size 89 = .ok (.ireturn, 1)) := by decide +kernel
theorem dX12_size_84 : decode cX12_size 84 = .ok (.getfield 58, 3) := zd_485.1
theorem dX12_size_87 : decode cX12_size 87 = .ok (.iload_n 1, 1) := zd_485.2.1
theorem dX12_size_88 : decode cX12_size 88 = .ok (.iaload, 1) := zd_485.2.2.1
theorem dX12_size_89 : decode cX12_size 89 = .ok (.ireturn, 1) := zd_485.2.2.2
theorem zd_486 : (decode cX12_paid 0 = .ok (.iload_n 2, 1)) ∧ (decode cX12_paid 1 = .ok (.invokestatic 155, 3)) ∧ (decode cX12_paid 4 = .ok (.ifCond .eq 28, 3)) ∧ (decode cX12_paid 7 = .ok (.iload_n 3, 1)) ∧ (decode cX12_paid 8 = .ok (.iconst 0, 1)) ∧ (decode cX12_paid 9 = .ok (.bipush 7, 2)) ∧ (decode cX12_paid 11 = .ok (.invokestatic 143, 3)) ∧ (decode cX12_paid 14 = .ok (.ifCond .eq 18, 3)) := by decide +kernel
theorem dX12_paid_0 : decode cX12_paid 0 = .ok (.iload_n 2, 1) := zd_486.1
theorem dX12_paid_1 : decode cX12_paid 1 = .ok (.invokestatic 155, 3) := zd_486.2.1
theorem dX12_paid_4 : decode cX12_paid 4 = .ok (.ifCond .eq 28, 3) := zd_486.2.2.1
theorem dX12_paid_7 : decode cX12_paid 7 = .ok (.iload_n 3, 1) := zd_486.2.2.2.1
theorem dX12_paid_8 : decode cX12_paid 8 = .ok (.iconst 0, 1) := zd_486.2.2.2.2.1
theorem dX12_paid_9 : decode cX12_paid 9 = .ok (.bipush 7, 2) := zd_486.2.2.2.2.2.1
theorem dX12_paid_11 : decode cX12_paid 11 = .ok (.invokestatic 143, 3) := zd_486.2.2.2.2.2.2.1
theorem dX12_paid_14 : decode cX12_paid 14 = .ok (.ifCond .eq 18, 3) := zd_486.2.2.2.2.2.2.2
theorem zd_487 : (decode cX12_paid 17 = .ok (.iload 4, 2)) ∧ (decode cX12_paid 19 = .ok (.iconst 0, 1)) ∧ (decode cX12_paid 20 = .ok (.bipush 59, 2)) ∧ (decode cX12_paid 22 = .ok (.invokestatic 143, 3)) ∧ (decode cX12_paid 25 = .ok (.ifCond .eq 7, 3)) ∧ (decode cX12_paid 28 = .ok (.iconst 1, 1)) ∧ (decode cX12_paid 29 = .ok (.goto 4, 3)) ∧ (decode cX12_paid 32 = .ok (.iconst 0, 1)) := by decide +kernel
theorem dX12_paid_17 : decode cX12_paid 17 = .ok (.iload 4, 2) := zd_487.1
theorem dX12_paid_19 : decode cX12_paid 19 = .ok (.iconst 0, 1) := zd_487.2.1
theorem dX12_paid_20 : decode cX12_paid 20 = .ok (.bipush 59, 2) := zd_487.2.2.1
theorem dX12_paid_22 : decode cX12_paid 22 = .ok (.invokestatic 143, 3) := zd_487.2.2.2.1
theorem dX12_paid_25 : decode cX12_paid 25 = .ok (.ifCond .eq 7, 3) := zd_487.2.2.2.2.1
theorem dX12_paid_28 : decode cX12_paid 28 = .ok (.iconst 1, 1) := zd_487.2.2.2.2.2.1
theorem dX12_paid_29 : decode cX12_paid 29 = .ok (.goto 4, 3) := zd_487.2.2.2.2.2.2.1
theorem dX12_paid_32 : decode cX12_paid 32 = .ok (.iconst 0, 1) := zd_487.2.2.2.2.2.2.2
theorem zd_488 : (decode cX12_paid 33 = .ok (.istore 8, 2)) ∧ (decode cX12_paid 35 = .ok (.iload 5, 2)) ∧ (decode cX12_paid 37 = .ok (.iconst 1, 1)) ∧ (decode cX12_paid 38 = .ok (.bipush 8, 2)) ∧ (decode cX12_paid 40 = .ok (.invokestatic 143, 3)) ∧ (decode cX12_paid 43 = .ok (.ifCond .eq 18, 3)) ∧ (decode cX12_paid 46 = .ok (.iload 6, 2)) := by decide +kernel
theorem dX12_paid_33 : decode cX12_paid 33 = .ok (.istore 8, 2) := zd_488.1
theorem dX12_paid_35 : decode cX12_paid 35 = .ok (.iload 5, 2) := zd_488.2.1
theorem dX12_paid_37 : decode cX12_paid 37 = .ok (.iconst 1, 1) := zd_488.2.2.1
theorem dX12_paid_38 : decode cX12_paid 38 = .ok (.bipush 8, 2) := zd_488.2.2.2.1
theorem dX12_paid_40 : decode cX12_paid 40 = .ok (.invokestatic 143, 3) := zd_488.2.2.2.2.1
theorem dX12_paid_43 : decode cX12_paid 43 = .ok (.ifCond .eq 18, 3) := zd_488.2.2.2.2.2.1
theorem dX12_paid_46 : decode cX12_paid 46 = .ok (.iload 6, 2) := zd_488.2.2.2.2.2.2
