theorem zd_0 : (decode cX0_init 0 = .ok (.aload_n 0, 1)) ∧ (decode cX0_init 1 = .ok (.invokespecial 1, 3)) ∧ (decode cX0_init 4 = .ok (.aload_n 0, 1)) ∧ (decode cX0_init 5 = .ok (.aload_n 1, 1)) ∧ (decode cX0_init 6 = .ok (.putfield 7, 3)) ∧ (decode cX0_init 9 = .ok (.aload_n 0, 1)) ∧ (decode cX0_init 10 = .ok (.iload_n 2, 1)) ∧ (decode cX0_init 11 = .ok (.putfield 13, 3)) := by decide +kernel
theorem dX0_init_0 : decode cX0_init 0 = .ok (.aload_n 0, 1) := zd_0.1
theorem dX0_init_1 : decode cX0_init 1 = .ok (.invokespecial 1, 3) := zd_0.2.1
theorem dX0_init_4 : decode cX0_init 4 = .ok (.aload_n 0, 1) := zd_0.2.2.1
theorem dX0_init_5 : decode cX0_init 5 = .ok (.aload_n 1, 1) := zd_0.2.2.2.1
theorem dX0_init_6 : decode cX0_init 6 = .ok (.putfield 7, 3) := zd_0.2.2.2.2.1
theorem dX0_init_9 : decode cX0_init 9 = .ok (.aload_n 0, 1) := zd_0.2.2.2.2.2.1
theorem dX0_init_10 : decode cX0_init 10 = .ok (.iload_n 2, 1) := zd_0.2.2.2.2.2.2.1
theorem dX0_init_11 : decode cX0_init 11 = .ok (.putfield 13, 3) := zd_0.2.2.2.2.2.2.2
theorem zd_1 : (decode cX0_init 14 = .ok (.aload_n 0, 1)) ∧ (decode cX0_init 15 = .ok (.aload_n 3, 1)) ∧ (decode cX0_init 16 = .ok (.putfield 17, 3)) ∧ (decode cX0_init 19 = .ok (.aload_n 0, 1)) ∧ (decode cX0_init 20 = .ok (.aload_n 3, 1)) ∧ (decode cX0_init 21 = .ok (.ifnonnull 7, 3)) ∧ (decode cX0_init 24 = .ok (.iconst 1, 1)) ∧ (decode cX0_init 25 = .ok (.goto 9, 3)) := by decide +kernel
theorem dX0_init_14 : decode cX0_init 14 = .ok (.aload_n 0, 1) := zd_1.1
theorem dX0_init_15 : decode cX0_init 15 = .ok (.aload_n 3, 1) := zd_1.2.1
theorem dX0_init_16 : decode cX0_init 16 = .ok (.putfield 17, 3) := zd_1.2.2.1
theorem dX0_init_19 : decode cX0_init 19 = .ok (.aload_n 0, 1) := zd_1.2.2.2.1
theorem dX0_init_20 : decode cX0_init 20 = .ok (.aload_n 3, 1) := zd_1.2.2.2.2.1
theorem dX0_init_21 : decode cX0_init 21 = .ok (.ifnonnull 7, 3) := zd_1.2.2.2.2.2.1
theorem dX0_init_24 : decode cX0_init 24 = .ok (.iconst 1, 1) := zd_1.2.2.2.2.2.2.1
theorem dX0_init_25 : decode cX0_init 25 = .ok (.goto 9, 3) := zd_1.2.2.2.2.2.2.2
theorem zd_2 : (decode cX0_init 28 = .ok (.aload_n 3, 1)) ∧ (decode cX0_init 29 = .ok (.getfield 21, 3)) ∧ (decode cX0_init 32 = .ok (.iconst 1, 1)) ∧ (decode cX0_init 33 = .ok (.iadd, 1)) ∧ (decode cX0_init 34 = .ok (.putfield 21, 3)) ∧ (decode cX0_init 37 = .ok (.return_, 1)) := by decide +kernel
theorem dX0_init_28 : decode cX0_init 28 = .ok (.aload_n 3, 1) := zd_2.1
theorem dX0_init_29 : decode cX0_init 29 = .ok (.getfield 21, 3) := zd_2.2.1
theorem dX0_init_32 : decode cX0_init 32 = .ok (.iconst 1, 1) := zd_2.2.2.1
theorem dX0_init_33 : decode cX0_init 33 = .ok (.iadd, 1) := zd_2.2.2.2.1
theorem dX0_init_34 : decode cX0_init 34 = .ok (.putfield 21, 3) := zd_2.2.2.2.2.1
theorem dX0_init_37 : decode cX0_init 37 = .ok (.return_, 1) := zd_2.2.2.2.2.2
theorem zd_3 : (decode cX1_init 0 = .ok (.aload_n 0, 1)) ∧ (decode cX1_init 1 = .ok (.invokespecial 1, 3)) ∧ (decode cX1_init 4 = .ok (.aload_n 0, 1)) ∧ (decode cX1_init 5 = .ok (.iload_n 1, 1)) ∧ (decode cX1_init 6 = .ok (.putfield 7, 3)) ∧ (decode cX1_init 9 = .ok (.aload_n 0, 1)) ∧ (decode cX1_init 10 = .ok (.iload_n 2, 1)) ∧ (decode cX1_init 11 = .ok (.putfield 13, 3)) := by decide +kernel
theorem dX1_init_0 : decode cX1_init 0 = .ok (.aload_n 0, 1) := zd_3.1
theorem dX1_init_1 : decode cX1_init 1 = .ok (.invokespecial 1, 3) := zd_3.2.1
theorem dX1_init_4 : decode cX1_init 4 = .ok (.aload_n 0, 1) := zd_3.2.2.1
theorem dX1_init_5 : decode cX1_init 5 = .ok (.iload_n 1, 1) := zd_3.2.2.2.1
theorem dX1_init_6 : decode cX1_init 6 = .ok (.putfield 7, 3) := zd_3.2.2.2.2.1
theorem dX1_init_9 : decode cX1_init 9 = .ok (.aload_n 0, 1) := zd_3.2.2.2.2.2.1
theorem dX1_init_10 : decode cX1_init 10 = .ok (.iload_n 2, 1) := zd_3.2.2.2.2.2.2.1
theorem dX1_init_11 : decode cX1_init 11 = .ok (.putfield 13, 3) := zd_3.2.2.2.2.2.2.2
theorem zd_4 : (decode cX1_init 14 = .ok (.aload_n 0, 1)) ∧ (decode cX1_init 15 = .ok (.iload_n 3, 1)) ∧ (decode cX1_init 16 = .ok (.putfield 16, 3)) ∧ (decode cX1_init 19 = .ok (.return_, 1)) := by decide +kernel
theorem dX1_init_14 : decode cX1_init 14 = .ok (.aload_n 0, 1) := zd_4.1
theorem dX1_init_15 : decode cX1_init 15 = .ok (.iload_n 3, 1) := zd_4.2.1
theorem dX1_init_16 : decode cX1_init 16 = .ok (.putfield 16, 3) := zd_4.2.2.1
theorem dX1_init_19 : decode cX1_init 19 = .ok (.return_, 1) := zd_4.2.2.2
theorem zd_5 : (decode cX2_init 0 = .ok (.aload_n 0, 1)) ∧ (decode cX2_init 1 = .ok (.iload_n 1, 1)) ∧ (decode cX2_init 2 = .ok (.iconst 4, 1)) ∧ (decode cX2_init 3 = .ok (.iconst 1, 1)) ∧ (decode cX2_init 4 = .ok (.invokespecial 3, 3)) ∧ (decode cX2_init 7 = .ok (.aload_n 0, 1)) ∧ (decode cX2_init 8 = .ok (.iload_n 2, 1)) ∧ (decode cX2_init 9 = .ok (.putfield 9, 3)) := by decide +kernel
theorem dX2_init_0 : decode cX2_init 0 = .ok (.aload_n 0, 1) := zd_5.1
theorem dX2_init_1 : decode cX2_init 1 = .ok (.iload_n 1, 1) := zd_5.2.1
theorem dX2_init_2 : decode cX2_init 2 = .ok (.iconst 4, 1) := zd_5.2.2.1
theorem dX2_init_3 : decode cX2_init 3 = .ok (.iconst 1, 1) := zd_5.2.2.2.1
theorem dX2_init_4 : decode cX2_init 4 = .ok (.invokespecial 3, 3) := zd_5.2.2.2.2.1
theorem dX2_init_7 : decode cX2_init 7 = .ok (.aload_n 0, 1) := zd_5.2.2.2.2.2.1
theorem dX2_init_8 : decode cX2_init 8 = .ok (.iload_n 2, 1) := zd_5.2.2.2.2.2.2.1
theorem dX2_init_9 : decode cX2_init 9 = .ok (.putfield 9, 3) := zd_5.2.2.2.2.2.2.2
theorem zd_6 : (decode cX2_init 12 = .ok (.aload_n 0, 1)) ∧ (decode cX2_init 13 = .ok (.iload_n 3, 1)) ∧ (decode cX2_init 14 = .ok (.putfield 15, 3)) ∧ (decode cX2_init 17 = .ok (.return_, 1)) := by decide +kernel
theorem dX2_init_12 : decode cX2_init 12 = .ok (.aload_n 0, 1) := zd_6.1
theorem dX2_init_13 : decode cX2_init 13 = .ok (.iload_n 3, 1) := zd_6.2.1
theorem dX2_init_14 : decode cX2_init 14 = .ok (.putfield 15, 3) := zd_6.2.2.1
theorem dX2_init_17 : decode cX2_init 17 = .ok (.return_, 1) := zd_6.2.2.2
theorem zd_7 : (decode cX2_linesBy 0 = .ok (.iload_n 1, 1)) ∧ (decode cX2_linesBy 1 = .ok (.aload_n 0, 1)) ∧ (decode cX2_linesBy 2 = .ok (.getfield 9, 3)) ∧ (decode cX2_linesBy 5 = .ok (.aload_n 0, 1)) ∧ (decode cX2_linesBy 6 = .ok (.getfield 15, 3)) ∧ (decode cX2_linesBy 9 = .ok (.invokestatic 18, 3)) ∧ (decode cX2_linesBy 12 = .ok (.ifCond .eq 7, 3)) ∧ (decode cX2_linesBy 15 = .ok (.iload_n 1, 1)) := by decide +kernel
theorem dX2_linesBy_0 : decode cX2_linesBy 0 = .ok (.iload_n 1, 1) := zd_7.1
theorem dX2_linesBy_1 : decode cX2_linesBy 1 = .ok (.aload_n 0, 1) := zd_7.2.1
theorem dX2_linesBy_2 : decode cX2_linesBy 2 = .ok (.getfield 9, 3) := zd_7.2.2.1
theorem dX2_linesBy_5 : decode cX2_linesBy 5 = .ok (.aload_n 0, 1) := zd_7.2.2.2.1
theorem dX2_linesBy_6 : decode cX2_linesBy 6 = .ok (.getfield 15, 3) := zd_7.2.2.2.2.1
theorem dX2_linesBy_9 : decode cX2_linesBy 9 = .ok (.invokestatic 18, 3) := zd_7.2.2.2.2.2.1
theorem dX2_linesBy_12 : decode cX2_linesBy 12 = .ok (.ifCond .eq 7, 3) := zd_7.2.2.2.2.2.2.1
theorem dX2_linesBy_15 : decode cX2_linesBy 15 = .ok (.iload_n 1, 1) := zd_7.2.2.2.2.2.2.2
theorem zd_8 : (decode cX2_linesBy 16 = .ok (.goto 4, 3)) ∧ (decode cX2_linesBy 19 = .ok (.iconst 0, 1)) ∧ (decode cX2_linesBy 20 = .ok (.ireturn, 1)) := by decide +kernel
theorem dX2_linesBy_16 : decode cX2_linesBy 16 = .ok (.goto 4, 3) := zd_8.1
theorem dX2_linesBy_19 : decode cX2_linesBy 19 = .ok (.iconst 0, 1) := zd_8.2.1
theorem dX2_linesBy_20 : decode cX2_linesBy 20 = .ok (.ireturn, 1) := zd_8.2.2
theorem zd_9 : (decode cX3_init 0 = .ok (.aload_n 0, 1)) ∧ (decode cX3_init 1 = .ok (.iload_n 1, 1)) ∧ (decode cX3_init 2 = .ok (.iconst 1, 1)) ∧ (decode cX3_init 3 = .ok (.iconst 1, 1)) ∧ (decode cX3_init 4 = .ok (.invokespecial 3, 3)) ∧ (decode cX3_init 7 = .ok (.aload_n 0, 1)) ∧ (decode cX3_init 8 = .ok (.aload_n 2, 1)) ∧ (decode cX3_init 9 = .ok (.putfield 9, 3)) := by decide +kernel
theorem dX3_init_0 : decode cX3_init 0 = .ok (.aload_n 0, 1) := zd_9.1
theorem dX3_init_1 : decode cX3_init 1 = .ok (.iload_n 1, 1) := zd_9.2.1
theorem dX3_init_2 : decode cX3_init 2 = .ok (.iconst 1, 1) := zd_9.2.2.1
theorem dX3_init_3 : decode cX3_init 3 = .ok (.iconst 1, 1) := zd_9.2.2.2.1
theorem dX3_init_4 : decode cX3_init 4 = .ok (.invokespecial 3, 3) := zd_9.2.2.2.2.1
theorem dX3_init_7 : decode cX3_init 7 = .ok (.aload_n 0, 1) := zd_9.2.2.2.2.2.1
theorem dX3_init_8 : decode cX3_init 8 = .ok (.aload_n 2, 1) := zd_9.2.2.2.2.2.2.1
theorem dX3_init_9 : decode cX3_init 9 = .ok (.putfield 9, 3) := zd_9.2.2.2.2.2.2.2
theorem zd_10 : (decode cX3_init 12 = .ok (.aload_n 0, 1)) ∧ (decode cX3_init 13 = .ok (.iload_n 3, 1)) ∧ (decode cX3_init 14 = .ok (.putfield 15, 3)) ∧ (decode cX3_init 17 = .ok (.aload_n 0, 1)) ∧ (decode cX3_init 18 = .ok (.iload 4, 2)) ∧ (decode cX3_init 20 = .ok (.putfield 19, 3)) ∧ (decode cX3_init 23 = .ok (.return_, 1)) := by decide +kernel
theorem dX3_init_12 : decode cX3_init 12 = .ok (.aload_n 0, 1) := zd_10.1
theorem dX3_init_13 : decode cX3_init 13 = .ok (.iload_n 3, 1) := zd_10.2.1
theorem dX3_init_14 : decode cX3_init 14 = .ok (.putfield 15, 3) := zd_10.2.2.1
theorem dX3_init_17 : decode cX3_init 17 = .ok (.aload_n 0, 1) := zd_10.2.2.2.1
theorem dX3_init_18 : decode cX3_init 18 = .ok (.iload 4, 2) := zd_10.2.2.2.2.1
theorem dX3_init_20 : decode cX3_init 20 = .ok (.putfield 19, 3) := zd_10.2.2.2.2.2.1
theorem dX3_init_23 : decode cX3_init 23 = .ok (.return_, 1) := zd_10.2.2.2.2.2.2
theorem zd_11 : (decode cX3_columnsBy 0 = .ok (.iload_n 1, 1)) ∧ (decode cX3_columnsBy 1 = .ok (.ifCond .ne 10, 3)) ∧ (decode cX3_columnsBy 4 = .ok (.aload_n 0, 1)) ∧ (decode cX3_columnsBy 5 = .ok (.getfield 15, 3)) ∧ (decode cX3_columnsBy 8 = .ok (.goto 4, 3)) ∧ (decode cX3_columnsBy 11 = .ok (.iconst 0, 1)) ∧ (decode cX3_columnsBy 12 = .ok (.ireturn, 1)) := by decide +kernel
theorem dX3_columnsBy_0 : decode cX3_columnsBy 0 = .ok (.iload_n 1, 1) := zd_11.1
theorem dX3_columnsBy_1 : decode cX3_columnsBy 1 = .ok (.ifCond .ne 10, 3) := zd_11.2.1
theorem dX3_columnsBy_4 : decode cX3_columnsBy 4 = .ok (.aload_n 0, 1) := zd_11.2.2.1
theorem dX3_columnsBy_5 : decode cX3_columnsBy 5 = .ok (.getfield 15, 3) := zd_11.2.2.2.1
theorem dX3_columnsBy_8 : decode cX3_columnsBy 8 = .ok (.goto 4, 3) := zd_11.2.2.2.2.1
theorem dX3_columnsBy_11 : decode cX3_columnsBy 11 = .ok (.iconst 0, 1) := zd_11.2.2.2.2.2.1
theorem dX3_columnsBy_12 : decode cX3_columnsBy 12 = .ok (.ireturn, 1) := zd_11.2.2.2.2.2.2
theorem zd_12 : (decode cX3_linesBy 0 = .ok (.iload_n 1, 1)) ∧ (decode cX3_linesBy 1 = .ok (.ifCond .ne 10, 3)) ∧ (decode cX3_linesBy 4 = .ok (.aload_n 0, 1)) ∧ (decode cX3_linesBy 5 = .ok (.getfield 19, 3)) ∧ (decode cX3_linesBy 8 = .ok (.goto 4, 3)) ∧ (decode cX3_linesBy 11 = .ok (.iconst 0, 1)) ∧ (decode cX3_linesBy 12 = .ok (.ireturn, 1)) := by decide +kernel
theorem dX3_linesBy_0 : decode cX3_linesBy 0 = .ok (.iload_n 1, 1) := zd_12.1
theorem dX3_linesBy_1 : decode cX3_linesBy 1 = .ok (.ifCond .ne 10, 3) := zd_12.2.1
theorem dX3_linesBy_4 : decode cX3_linesBy 4 = .ok (.aload_n 0, 1) := zd_12.2.2.1
theorem dX3_linesBy_5 : decode cX3_linesBy 5 = .ok (.getfield 19, 3) := zd_12.2.2.2.1
theorem dX3_linesBy_8 : decode cX3_linesBy 8 = .ok (.goto 4, 3) := zd_12.2.2.2.2.1
theorem dX3_linesBy_11 : decode cX3_linesBy 11 = .ok (.iconst 0, 1) := zd_12.2.2.2.2.2.1
theorem dX3_linesBy_12 : decode cX3_linesBy 12 = .ok (.ireturn, 1) := zd_12.2.2.2.2.2.2
theorem zd_13 : (decode cX4_init 0 = .ok (.aload_n 0, 1)) ∧ (decode cX4_init 1 = .ok (.invokespecial 3, 3)) ∧ (decode cX4_init 4 = .ok (.aload_n 0, 1)) ∧ (decode cX4_init 5 = .ok (.iconst 0, 1)) ∧ (decode cX4_init 6 = .ok (.putfield 9, 3)) ∧ (decode cX4_init 9 = .ok (.aload_n 0, 1)) ∧ (decode cX4_init 10 = .ok (.iconst 5, 1)) ∧ (decode cX4_init 11 = .ok (.newarray .int, 2)) := by decide +kernel
theorem dX4_init_0 : decode cX4_init 0 = .ok (.aload_n 0, 1) := zd_13.1
theorem dX4_init_1 : decode cX4_init 1 = .ok (.invokespecial 3, 3) := zd_13.2.1
theorem dX4_init_4 : decode cX4_init 4 = .ok (.aload_n 0, 1) := zd_13.2.2.1
theorem dX4_init_5 : decode cX4_init 5 = .ok (.iconst 0, 1) := zd_13.2.2.2.1
theorem dX4_init_6 : decode cX4_init 6 = .ok (.putfield 9, 3) := zd_13.2.2.2.2.1
theorem dX4_init_9 : decode cX4_init 9 = .ok (.aload_n 0, 1) := zd_13.2.2.2.2.2.1
theorem dX4_init_10 : decode cX4_init 10 = .ok (.iconst 5, 1) := zd_13.2.2.2.2.2.2.1
theorem dX4_init_11 : decode cX4_init 11 = .ok (.newarray .int, 2) := zd_13.2.2.2.2.2.2.2
theorem zd_14 : (decode cX4_init 13 = .ok (.putfield 15, 3)) ∧ (decode cX4_init 16 = .ok (.aload_n 0, 1)) ∧ (decode cX4_init 17 = .ok (.iload_n 1, 1)) ∧ (decode cX4_init 18 = .ok (.putfield 19, 3)) ∧ (decode cX4_init 21 = .ok (.aload_n 0, 1)) ∧ (decode cX4_init 22 = .ok (.iload_n 2, 1)) ∧ (decode cX4_init 23 = .ok (.putfield 22, 3)) ∧ (decode cX4_init 26 = .ok (.aload_n 0, 1)) := by decide +kernel
theorem dX4_init_13 : decode cX4_init 13 = .ok (.putfield 15, 3) := zd_14.1
theorem dX4_init_16 : decode cX4_init 16 = .ok (.aload_n 0, 1) := zd_14.2.1
theorem dX4_init_17 : decode cX4_init 17 = .ok (.iload_n 1, 1) := zd_14.2.2.1
theorem dX4_init_18 : decode cX4_init 18 = .ok (.putfield 19, 3) := zd_14.2.2.2.1
theorem dX4_init_21 : decode cX4_init 21 = .ok (.aload_n 0, 1) := zd_14.2.2.2.2.1
theorem dX4_init_22 : decode cX4_init 22 = .ok (.iload_n 2, 1) := zd_14.2.2.2.2.2.1
theorem dX4_init_23 : decode cX4_init 23 = .ok (.putfield 22, 3) := zd_14.2.2.2.2.2.2.1
theorem dX4_init_26 : decode cX4_init 26 = .ok (.aload_n 0, 1) := zd_14.2.2.2.2.2.2.2
theorem zd_15 : (decode cX4_init 27 = .ok (.iload_n 3, 1)) ∧ (decode cX4_init 28 = .ok (.iconst 1, 1)) ∧ (decode cX4_init 29 = .ok (.bipush 6, 2)) ∧ (decode cX4_init 31 = .ok (.invokestatic 25, 3)) ∧ (decode cX4_init 34 = .ok (.ifCond .eq 7, 3)) ∧ (decode cX4_init 37 = .ok (.iload_n 3, 1)) ∧ (decode cX4_init 38 = .ok (.goto 4, 3)) ∧ (decode cX4_init 41 = .ok (.iconst 1, 1)) := by decide +kernel
theorem dX4_init_27 : decode cX4_init 27 = .ok (.iload_n 3, 1) := zd_15.1
theorem dX4_init_28 : decode cX4_init 28 = .ok (.iconst 1, 1) := zd_15.2.1
theorem dX4_init_29 : decode cX4_init 29 = .ok (.bipush 6, 2) := zd_15.2.2.1
theorem dX4_init_31 : decode cX4_init 31 = .ok (.invokestatic 25, 3) := zd_15.2.2.2.1
theorem dX4_init_34 : decode cX4_init 34 = .ok (.ifCond .eq 7, 3) := zd_15.2.2.2.2.1
theorem dX4_init_37 : decode cX4_init 37 = .ok (.iload_n 3, 1) := zd_15.2.2.2.2.2.1
theorem dX4_init_38 : decode cX4_init 38 = .ok (.goto 4, 3) := zd_15.2.2.2.2.2.2.1
theorem zd_16 : (decode cX4_init 42 = .ok (.anewarray 29, 3)) ∧ (decode cX4_init 45 = .ok (.putfield 31, 3)) ∧ (decode cX4_init 48 = .ok (.aload_n 0, 1)) ∧ (decode cX4_init 49 = .ok (.getfield 15, 3)) ∧ (decode cX4_init 52 = .ok (.iconst (-1), 1)) ∧ (decode cX4_init 53 = .ok (.invokestatic 35, 3)) ∧ (decode cX4_init 56 = .ok (.return_, 1)) := by decide +kernel
theorem dX4_init_42 : decode cX4_init 42 = .ok (.anewarray 29, 3) := zd_16.1
theorem dX4_init_45 : decode cX4_init 45 = .ok (.putfield 31, 3) := zd_16.2.1
theorem dX4_init_48 : decode cX4_init 48 = .ok (.aload_n 0, 1) := zd_16.2.2.1
theorem dX4_init_49 : decode cX4_init 49 = .ok (.getfield 15, 3) := zd_16.2.2.2.1
theorem dX4_init_52 : decode cX4_init 52 = .ok (.iconst (-1), 1) := zd_16.2.2.2.2.1
theorem dX4_init_53 : decode cX4_init 53 = .ok (.invokestatic 35, 3) := zd_16.2.2.2.2.2.1
theorem dX4_init_56 : decode cX4_init 56 = .ok (.return_, 1) := zd_16.2.2.2.2.2.2
theorem zd_17 : (decode cX4_columnsBy 0 = .ok (.iconst 1, 1)) ∧ (decode cX4_columnsBy 1 = .ok (.ireturn, 1)) := by decide +kernel
theorem dX4_columnsBy_0 : decode cX4_columnsBy 0 = .ok (.iconst 1, 1) := zd_17.1
theorem dX4_columnsBy_1 : decode cX4_columnsBy 1 = .ok (.ireturn, 1) := zd_17.2
theorem zd_18 : (decode cX4_maySit 0 = .ok (.iconst 1, 1)) ∧ (decode cX4_maySit 1 = .ok (.ireturn, 1)) := by decide +kernel
theorem dX4_maySit_0 : decode cX4_maySit 0 = .ok (.iconst 1, 1) := zd_18.1
theorem dX4_maySit_1 : decode cX4_maySit 1 = .ok (.ireturn, 1) := zd_18.2
theorem zd_19 : (decode cX4_hasRoom 0 = .ok (.aload_n 0, 1)) ∧ (decode cX4_hasRoom 1 = .ok (.getfield 9, 3)) ∧ (decode cX4_hasRoom 4 = .ok (.aload_n 0, 1)) ∧ (decode cX4_hasRoom 5 = .ok (.getfield 31, 3)) ∧ (decode cX4_hasRoom 8 = .ok (.arraylength, 1)) ∧ (decode cX4_hasRoom 9 = .ok (.if_icmp .ge 7, 3)) ∧ (decode cX4_hasRoom 12 = .ok (.iconst 1, 1)) ∧ (decode cX4_hasRoom 13 = .ok (.goto 4, 3)) := by decide +kernel
theorem dX4_hasRoom_0 : decode cX4_hasRoom 0 = .ok (.aload_n 0, 1) := zd_19.1
theorem dX4_hasRoom_1 : decode cX4_hasRoom 1 = .ok (.getfield 9, 3) := zd_19.2.1
theorem dX4_hasRoom_4 : decode cX4_hasRoom 4 = .ok (.aload_n 0, 1) := zd_19.2.2.1
theorem dX4_hasRoom_5 : decode cX4_hasRoom 5 = .ok (.getfield 31, 3) := zd_19.2.2.2.1
theorem dX4_hasRoom_8 : decode cX4_hasRoom 8 = .ok (.arraylength, 1) := zd_19.2.2.2.2.1
theorem dX4_hasRoom_9 : decode cX4_hasRoom 9 = .ok (.if_icmp .ge 7, 3) := zd_19.2.2.2.2.2.1
theorem dX4_hasRoom_12 : decode cX4_hasRoom 12 = .ok (.iconst 1, 1) := zd_19.2.2.2.2.2.2.1
theorem dX4_hasRoom_13 : decode cX4_hasRoom 13 = .ok (.goto 4, 3) := zd_19.2.2.2.2.2.2.2
theorem zd_20 : (decode cX4_hasRoom 16 = .ok (.iconst 0, 1)) ∧ (decode cX4_hasRoom 17 = .ok (.ireturn, 1)) := by decide +kernel
theorem dX4_hasRoom_16 : decode cX4_hasRoom 16 = .ok (.iconst 0, 1) := zd_20.1
theorem dX4_hasRoom_17 : decode cX4_hasRoom 17 = .ok (.ireturn, 1) := zd_20.2
theorem zd_21 : (decode cX4_gain 0 = .ok (.aload_n 0, 1)) ∧ (decode cX4_gain 1 = .ok (.invokevirtual 41, 3)) ∧ (decode cX4_gain 4 = .ok (.ifCond .eq 23, 3)) ∧ (decode cX4_gain 7 = .ok (.aload_n 0, 1)) ∧ (decode cX4_gain 8 = .ok (.getfield 31, 3)) ∧ (decode cX4_gain 11 = .ok (.aload_n 0, 1)) ∧ (decode cX4_gain 12 = .ok (.getfield 9, 3)) ∧ (decode cX4_gain 15 = .ok (.aload_n 1, 1)) := by decide +kernel
theorem dX4_gain_0 : decode cX4_gain 0 = .ok (.aload_n 0, 1) := zd_21.1
theorem dX4_gain_1 : decode cX4_gain 1 = .ok (.invokevirtual 41, 3) := zd_21.2.1
theorem dX4_gain_4 : decode cX4_gain 4 = .ok (.ifCond .eq 23, 3) := zd_21.2.2.1
theorem dX4_gain_7 : decode cX4_gain 7 = .ok (.aload_n 0, 1) := zd_21.2.2.2.1
theorem dX4_gain_8 : decode cX4_gain 8 = .ok (.getfield 31, 3) := zd_21.2.2.2.2.1
theorem dX4_gain_11 : decode cX4_gain 11 = .ok (.aload_n 0, 1) := zd_21.2.2.2.2.2.1
theorem dX4_gain_12 : decode cX4_gain 12 = .ok (.getfield 9, 3) := zd_21.2.2.2.2.2.2.1
theorem dX4_gain_15 : decode cX4_gain 15 = .ok (.aload_n 1, 1) := zd_21.2.2.2.2.2.2.2
theorem zd_22 : (decode cX4_gain 16 = .ok (.aastore, 1)) ∧ (decode cX4_gain 17 = .ok (.aload_n 0, 1)) ∧ (decode cX4_gain 18 = .ok (.dup, 1)) ∧ (decode cX4_gain 19 = .ok (.getfield 9, 3)) ∧ (decode cX4_gain 22 = .ok (.iconst 1, 1)) ∧ (decode cX4_gain 23 = .ok (.iadd, 1)) ∧ (decode cX4_gain 24 = .ok (.putfield 9, 3)) ∧ (decode cX4_gain 27 = .ok (.return_, 1)) := by decide +kernel
theorem dX4_gain_16 : decode cX4_gain 16 = .ok (.aastore, 1) := zd_22.1
theorem dX4_gain_17 : decode cX4_gain 17 = .ok (.aload_n 0, 1) := zd_22.2.1
theorem dX4_gain_18 : decode cX4_gain 18 = .ok (.dup, 1) := zd_22.2.2.1
theorem dX4_gain_19 : decode cX4_gain 19 = .ok (.getfield 9, 3) := zd_22.2.2.2.1
theorem dX4_gain_22 : decode cX4_gain 22 = .ok (.iconst 1, 1) := zd_22.2.2.2.2.1
theorem dX4_gain_23 : decode cX4_gain 23 = .ok (.iadd, 1) := zd_22.2.2.2.2.2.1
theorem dX4_gain_24 : decode cX4_gain 24 = .ok (.putfield 9, 3) := zd_22.2.2.2.2.2.2.1
theorem dX4_gain_27 : decode cX4_gain 27 = .ok (.return_, 1) := zd_22.2.2.2.2.2.2.2
theorem zd_23 : (decode cX4_loseLast 0 = .ok (.aload_n 0, 1)) ∧ (decode cX4_loseLast 1 = .ok (.getfield 9, 3)) ∧ (decode cX4_loseLast 4 = .ok (.ifCond .le 23, 3)) ∧ (decode cX4_loseLast 7 = .ok (.aload_n 0, 1)) ∧ (decode cX4_loseLast 8 = .ok (.dup, 1)) ∧ (decode cX4_loseLast 9 = .ok (.getfield 9, 3)) ∧ (decode cX4_loseLast 12 = .ok (.iconst 1, 1)) ∧ (decode cX4_loseLast 13 = .ok (.isub, 1)) := by decide +kernel
theorem dX4_loseLast_0 : decode cX4_loseLast 0 = .ok (.aload_n 0, 1) := zd_23.1
theorem dX4_loseLast_1 : decode cX4_loseLast 1 = .ok (.getfield 9, 3) := zd_23.2.1
theorem dX4_loseLast_4 : decode cX4_loseLast 4 = .ok (.ifCond .le 23, 3) := zd_23.2.2.1
theorem dX4_loseLast_7 : decode cX4_loseLast 7 = .ok (.aload_n 0, 1) := zd_23.2.2.2.1
theorem dX4_loseLast_8 : decode cX4_loseLast 8 = .ok (.dup, 1) := zd_23.2.2.2.2.1
theorem dX4_loseLast_9 : decode cX4_loseLast 9 = .ok (.getfield 9, 3) := zd_23.2.2.2.2.2.1
theorem dX4_loseLast_12 : decode cX4_loseLast 12 = .ok (.iconst 1, 1) := zd_23.2.2.2.2.2.2.1
theorem dX4_loseLast_13 : decode cX4_loseLast 13 = .ok (.isub, 1) := zd_23.2.2.2.2.2.2.2
theorem zd_24 : (decode cX4_loseLast 14 = .ok (.putfield 9, 3)) ∧ (decode cX4_loseLast 17 = .ok (.aload_n 0, 1)) ∧ (decode cX4_loseLast 18 = .ok (.getfield 31, 3)) ∧ (decode cX4_loseLast 21 = .ok (.aload_n 0, 1)) ∧ (decode cX4_loseLast 22 = .ok (.getfield 9, 3)) ∧ (decode cX4_loseLast 25 = .ok (.aconst_null, 1)) ∧ (decode cX4_loseLast 26 = .ok (.aastore, 1)) ∧ (decode cX4_loseLast 27 = .ok (.return_, 1)) := by decide +kernel
theorem dX4_loseLast_14 : decode cX4_loseLast 14 = .ok (.putfield 9, 3) := zd_24.1
theorem dX4_loseLast_17 : decode cX4_loseLast 17 = .ok (.aload_n 0, 1) := zd_24.2.1
theorem dX4_loseLast_18 : decode cX4_loseLast 18 = .ok (.getfield 31, 3) := zd_24.2.2.1
theorem dX4_loseLast_21 : decode cX4_loseLast 21 = .ok (.aload_n 0, 1) := zd_24.2.2.2.1
theorem dX4_loseLast_22 : decode cX4_loseLast 22 = .ok (.getfield 9, 3) := zd_24.2.2.2.2.1
theorem dX4_loseLast_25 : decode cX4_loseLast 25 = .ok (.aconst_null, 1) := zd_24.2.2.2.2.2.1
theorem dX4_loseLast_26 : decode cX4_loseLast 26 = .ok (.aastore, 1) := zd_24.2.2.2.2.2.2.1
theorem dX4_loseLast_27 : decode cX4_loseLast 27 = .ok (.return_, 1) := zd_24.2.2.2.2.2.2.2
theorem zd_25 : (decode cX4_loseAll 0 = .ok (.iconst 0, 1)) ∧ (decode cX4_loseAll 1 = .ok (.istore_n 1, 1)) ∧ (decode cX4_loseAll 2 = .ok (.iload_n 1, 1)) ∧ (decode cX4_loseAll 3 = .ok (.aload_n 0, 1)) ∧ (decode cX4_loseAll 4 = .ok (.getfield 31, 3)) ∧ (decode cX4_loseAll 7 = .ok (.arraylength, 1)) ∧ (decode cX4_loseAll 8 = .ok (.if_icmp .ge 16, 3)) ∧ (decode cX4_loseAll 11 = .ok (.aload_n 0, 1)) := by decide +kernel
theorem dX4_loseAll_0 : decode cX4_loseAll 0 = .ok (.iconst 0, 1) := zd_25.1
theorem dX4_loseAll_1 : decode cX4_loseAll 1 = .ok (.istore_n 1, 1) := zd_25.2.1
theorem dX4_loseAll_2 : decode cX4_loseAll 2 = .ok (.iload_n 1, 1) := zd_25.2.2.1
theorem dX4_loseAll_3 : decode cX4_loseAll 3 = .ok (.aload_n 0, 1) := zd_25.2.2.2.1
theorem dX4_loseAll_4 : decode cX4_loseAll 4 = .ok (.getfield 31, 3) := zd_25.2.2.2.2.1
theorem dX4_loseAll_7 : decode cX4_loseAll 7 = .ok (.arraylength, 1) := zd_25.2.2.2.2.2.1
theorem dX4_loseAll_8 : decode cX4_loseAll 8 = .ok (.if_icmp .ge 16, 3) := zd_25.2.2.2.2.2.2.1
theorem dX4_loseAll_11 : decode cX4_loseAll 11 = .ok (.aload_n 0, 1) := zd_25.2.2.2.2.2.2.2
theorem zd_26 : (decode cX4_loseAll 12 = .ok (.getfield 31, 3)) ∧ (decode cX4_loseAll 15 = .ok (.iload_n 1, 1)) ∧ (decode cX4_loseAll 16 = .ok (.aconst_null, 1)) ∧ (decode cX4_loseAll 17 = .ok (.aastore, 1)) ∧ (decode cX4_loseAll 18 = .ok (.iinc 1 1, 3)) ∧ (decode cX4_loseAll 21 = .ok (.goto (-19), 3)) ∧ (decode cX4_loseAll 24 = .ok (.aload_n 0, 1)) ∧ (decode cX4_loseAll 25 = .ok (.iconst 0, 1)) := by decide +kernel
theorem dX4_loseAll_12 : decode cX4_loseAll 12 = .ok (.getfield 31, 3) := zd_26.1
theorem dX4_loseAll_15 : decode cX4_loseAll 15 = .ok (.iload_n 1, 1) := zd_26.2.1
theorem dX4_loseAll_16 : decode cX4_loseAll 16 = .ok (.aconst_null, 1) := zd_26.2.2.1
theorem dX4_loseAll_17 : decode cX4_loseAll 17 = .ok (.aastore, 1) := zd_26.2.2.2.1
theorem dX4_loseAll_18 : decode cX4_loseAll 18 = .ok (.iinc 1 1, 3) := zd_26.2.2.2.2.1
theorem dX4_loseAll_21 : decode cX4_loseAll 21 = .ok (.goto (-19), 3) := zd_26.2.2.2.2.2.1
theorem dX4_loseAll_24 : decode cX4_loseAll 24 = .ok (.aload_n 0, 1) := zd_26.2.2.2.2.2.2.1
theorem dX4_loseAll_25 : decode cX4_loseAll 25 = .ok (.iconst 0, 1) := zd_26.2.2.2.2.2.2.2
theorem zd_27 : (decode cX4_loseAll 26 = .ok (.putfield 9, 3)) ∧ (decode cX4_loseAll 29 = .ok (.return_, 1)) := by decide +kernel
theorem dX4_loseAll_26 : decode cX4_loseAll 26 = .ok (.putfield 9, 3) := zd_27.1
theorem dX4_loseAll_29 : decode cX4_loseAll 29 = .ok (.return_, 1) := zd_27.2
theorem zd_28 : (decode cX4_lastPiece 0 = .ok (.aload_n 0, 1)) ∧ (decode cX4_lastPiece 1 = .ok (.getfield 9, 3)) ∧ (decode cX4_lastPiece 4 = .ok (.ifCond .le 17, 3)) ∧ (decode cX4_lastPiece 7 = .ok (.aload_n 0, 1)) ∧ (decode cX4_lastPiece 8 = .ok (.getfield 31, 3)) ∧ (decode cX4_lastPiece 11 = .ok (.aload_n 0, 1)) ∧ (decode cX4_lastPiece 12 = .ok (.getfield 9, 3)) ∧ (decode cX4_lastPiece 15 = .ok (.iconst 1, 1)) := by decide +kernel
theorem dX4_lastPiece_0 : decode cX4_lastPiece 0 = .ok (.aload_n 0, 1) := zd_28.1
theorem dX4_lastPiece_1 : decode cX4_lastPiece 1 = .ok (.getfield 9, 3) := zd_28.2.1
theorem dX4_lastPiece_4 : decode cX4_lastPiece 4 = .ok (.ifCond .le 17, 3) := zd_28.2.2.1
theorem dX4_lastPiece_7 : decode cX4_lastPiece 7 = .ok (.aload_n 0, 1) := zd_28.2.2.2.1
theorem dX4_lastPiece_8 : decode cX4_lastPiece 8 = .ok (.getfield 31, 3) := zd_28.2.2.2.2.1
theorem dX4_lastPiece_11 : decode cX4_lastPiece 11 = .ok (.aload_n 0, 1) := zd_28.2.2.2.2.2.1
theorem dX4_lastPiece_12 : decode cX4_lastPiece 12 = .ok (.getfield 9, 3) := zd_28.2.2.2.2.2.2.1
theorem dX4_lastPiece_15 : decode cX4_lastPiece 15 = .ok (.iconst 1, 1) := zd_28.2.2.2.2.2.2.2
theorem zd_29 : (decode cX4_lastPiece 16 = .ok (.isub, 1)) ∧ (decode cX4_lastPiece 17 = .ok (.aaload, 1)) ∧ (decode cX4_lastPiece 18 = .ok (.goto 4, 3)) ∧ (decode cX4_lastPiece 21 = .ok (.aconst_null, 1)) ∧ (decode cX4_lastPiece 22 = .ok (.areturn, 1)) := by decide +kernel
theorem dX4_lastPiece_16 : decode cX4_lastPiece 16 = .ok (.isub, 1) := zd_29.1
theorem dX4_lastPiece_17 : decode cX4_lastPiece 17 = .ok (.aaload, 1) := zd_29.2.1
theorem dX4_lastPiece_18 : decode cX4_lastPiece 18 = .ok (.goto 4, 3) := zd_29.2.2.1
theorem dX4_lastPiece_21 : decode cX4_lastPiece 21 = .ok (.aconst_null, 1) := zd_29.2.2.2.1
theorem dX4_lastPiece_22 : decode cX4_lastPiece 22 = .ok (.areturn, 1) := zd_29.2.2.2.2
theorem zd_30 : (decode cX4_isOn 0 = .ok (.iconst 0, 1)) ∧ (decode cX4_isOn 1 = .ok (.istore_n 2, 1)) ∧ (decode cX4_isOn 2 = .ok (.iload_n 2, 1)) ∧ (decode cX4_isOn 3 = .ok (.aload_n 0, 1)) ∧ (decode cX4_isOn 4 = .ok (.getfield 9, 3)) ∧ (decode cX4_isOn 7 = .ok (.if_icmp .ge 24, 3)) ∧ (decode cX4_isOn 10 = .ok (.aload_n 0, 1)) ∧ (decode cX4_isOn 11 = .ok (.getfield 31, 3)) := by decide +kernel
theorem dX4_isOn_0 : decode cX4_isOn 0 = .ok (.iconst 0, 1) := zd_30.1
theorem dX4_isOn_1 : decode cX4_isOn 1 = .ok (.istore_n 2, 1) := zd_30.2.1
theorem dX4_isOn_2 : decode cX4_isOn 2 = .ok (.iload_n 2, 1) := zd_30.2.2.1
theorem dX4_isOn_3 : decode cX4_isOn 3 = .ok (.aload_n 0, 1) := zd_30.2.2.2.1
theorem dX4_isOn_4 : decode cX4_isOn 4 = .ok (.getfield 9, 3) := zd_30.2.2.2.2.1
theorem dX4_isOn_7 : decode cX4_isOn 7 = .ok (.if_icmp .ge 24, 3) := zd_30.2.2.2.2.2.1
theorem dX4_isOn_10 : decode cX4_isOn 10 = .ok (.aload_n 0, 1) := zd_30.2.2.2.2.2.2.1
theorem dX4_isOn_11 : decode cX4_isOn 11 = .ok (.getfield 31, 3) := zd_30.2.2.2.2.2.2.2
theorem zd_31 : (decode cX4_isOn 14 = .ok (.iload_n 2, 1)) ∧ (decode cX4_isOn 15 = .ok (.aaload, 1)) ∧ (decode cX4_isOn 16 = .ok (.getfield 45, 3)) ∧ (decode cX4_isOn 19 = .ok (.iload_n 1, 1)) ∧ (decode cX4_isOn 20 = .ok (.if_icmp .ne 5, 3)) ∧ (decode cX4_isOn 23 = .ok (.iconst 1, 1)) ∧ (decode cX4_isOn 24 = .ok (.ireturn, 1)) ∧ (decode cX4_isOn 25 = .ok (.iinc 2 1, 3)) := by decide +kernel
theorem dX4_isOn_14 : decode cX4_isOn 14 = .ok (.iload_n 2, 1) := zd_31.1
theorem dX4_isOn_15 : decode cX4_isOn 15 = .ok (.aaload, 1) := zd_31.2.1
theorem dX4_isOn_16 : decode cX4_isOn 16 = .ok (.getfield 45, 3) := zd_31.2.2.1
theorem dX4_isOn_19 : decode cX4_isOn 19 = .ok (.iload_n 1, 1) := zd_31.2.2.2.1
theorem dX4_isOn_20 : decode cX4_isOn 20 = .ok (.if_icmp .ne 5, 3) := zd_31.2.2.2.2.1
theorem dX4_isOn_23 : decode cX4_isOn 23 = .ok (.iconst 1, 1) := zd_31.2.2.2.2.2.1
theorem dX4_isOn_24 : decode cX4_isOn 24 = .ok (.ireturn, 1) := zd_31.2.2.2.2.2.2.1
theorem dX4_isOn_25 : decode cX4_isOn 25 = .ok (.iinc 2 1, 3) := zd_31.2.2.2.2.2.2.2
theorem zd_32 : (decode cX4_isOn 28 = .ok (.goto (-26), 3)) ∧ (decode cX4_isOn 31 = .ok (.iconst 0, 1)) ∧ (decode cX4_isOn 32 = .ok (.ireturn, 1)) := by decide +kernel
theorem dX4_isOn_28 : decode cX4_isOn 28 = .ok (.goto (-26), 3) := zd_32.1
theorem dX4_isOn_31 : decode cX4_isOn 31 = .ok (.iconst 0, 1) := zd_32.2.1
theorem dX4_isOn_32 : decode cX4_isOn 32 = .ok (.ireturn, 1) := zd_32.2.2
theorem zd_33 : (decode cX4_meets 0 = .ok (.iconst 0, 1)) ∧ (decode cX4_meets 1 = .ok (.istore 4, 2)) ∧ (decode cX4_meets 3 = .ok (.iload 4, 2)) ∧ (decode cX4_meets 5 = .ok (.aload_n 0, 1)) ∧ (decode cX4_meets 6 = .ok (.getfield 9, 3)) ∧ (decode cX4_meets 9 = .ok (.if_icmp .ge 40, 3)) ∧ (decode cX4_meets 12 = .ok (.aload_n 0, 1)) ∧ (decode cX4_meets 13 = .ok (.getfield 31, 3)) := by decide +kernel
theorem dX4_meets_0 : decode cX4_meets 0 = .ok (.iconst 0, 1) := zd_33.1
theorem dX4_meets_1 : decode cX4_meets 1 = .ok (.istore 4, 2) := zd_33.2.1
theorem dX4_meets_3 : decode cX4_meets 3 = .ok (.iload 4, 2) := zd_33.2.2.1
theorem dX4_meets_5 : decode cX4_meets 5 = .ok (.aload_n 0, 1) := zd_33.2.2.2.1
theorem dX4_meets_6 : decode cX4_meets 6 = .ok (.getfield 9, 3) := zd_33.2.2.2.2.1
theorem dX4_meets_9 : decode cX4_meets 9 = .ok (.if_icmp .ge 40, 3) := zd_33.2.2.2.2.2.1
theorem dX4_meets_12 : decode cX4_meets 12 = .ok (.aload_n 0, 1) := zd_33.2.2.2.2.2.2.1
theorem dX4_meets_13 : decode cX4_meets 13 = .ok (.getfield 31, 3) := zd_33.2.2.2.2.2.2.2
theorem zd_34 : (decode cX4_meets 16 = .ok (.iload 4, 2)) ∧ (decode cX4_meets 18 = .ok (.aaload, 1)) ∧ (decode cX4_meets 19 = .ok (.getfield 45, 3)) ∧ (decode cX4_meets 22 = .ok (.iload_n 2, 1)) ∧ (decode cX4_meets 23 = .ok (.if_icmp .ne 20, 3)) ∧ (decode cX4_meets 26 = .ok (.aload_n 1, 1)) ∧ (decode cX4_meets 27 = .ok (.aload_n 0, 1)) ∧ (decode cX4_meets 28 = .ok (.getfield 31, 3)) := by decide +kernel
theorem dX4_meets_16 : decode cX4_meets 16 = .ok (.iload 4, 2) := zd_34.1
theorem dX4_meets_18 : decode cX4_meets 18 = .ok (.aaload, 1) := zd_34.2.1
theorem dX4_meets_19 : decode cX4_meets 19 = .ok (.getfield 45, 3) := zd_34.2.2.1
theorem dX4_meets_22 : decode cX4_meets 22 = .ok (.iload_n 2, 1) := zd_34.2.2.2.1
theorem dX4_meets_23 : decode cX4_meets 23 = .ok (.if_icmp .ne 20, 3) := zd_34.2.2.2.2.1
theorem dX4_meets_26 : decode cX4_meets 26 = .ok (.aload_n 1, 1) := zd_34.2.2.2.2.2.1
theorem dX4_meets_27 : decode cX4_meets 27 = .ok (.aload_n 0, 1) := zd_34.2.2.2.2.2.2.1
theorem dX4_meets_28 : decode cX4_meets 28 = .ok (.getfield 31, 3) := zd_34.2.2.2.2.2.2.2
theorem zd_35 : (decode cX4_meets 31 = .ok (.iload 4, 2)) ∧ (decode cX4_meets 33 = .ok (.aaload, 1)) ∧ (decode cX4_meets 34 = .ok (.iload_n 3, 1)) ∧ (decode cX4_meets 35 = .ok (.invokevirtual 48, 3)) ∧ (decode cX4_meets 38 = .ok (.ifCond .eq 5, 3)) ∧ (decode cX4_meets 41 = .ok (.iconst 1, 1)) ∧ (decode cX4_meets 42 = .ok (.ireturn, 1)) ∧ (decode cX4_meets 43 = .ok (.iinc 4 1, 3)) := by decide +kernel
theorem dX4_meets_31 : decode cX4_meets 31 = .ok (.iload 4, 2) := zd_35.1
theorem dX4_meets_33 : decode cX4_meets 33 = .ok (.aaload, 1) := zd_35.2.1
theorem dX4_meets_34 : decode cX4_meets 34 = .ok (.iload_n 3, 1) := zd_35.2.2.1
theorem dX4_meets_35 : decode cX4_meets 35 = .ok (.invokevirtual 48, 3) := zd_35.2.2.2.1
theorem dX4_meets_38 : decode cX4_meets 38 = .ok (.ifCond .eq 5, 3) := zd_35.2.2.2.2.1
theorem dX4_meets_41 : decode cX4_meets 41 = .ok (.iconst 1, 1) := zd_35.2.2.2.2.2.1
theorem dX4_meets_42 : decode cX4_meets 42 = .ok (.ireturn, 1) := zd_35.2.2.2.2.2.2.1
theorem dX4_meets_43 : decode cX4_meets 43 = .ok (.iinc 4 1, 3) := zd_35.2.2.2.2.2.2.2
theorem zd_36 : (decode cX4_meets 46 = .ok (.goto (-43), 3)) ∧ (decode cX4_meets 49 = .ok (.iconst 0, 1)) ∧ (decode cX4_meets 50 = .ok (.ireturn, 1)) := by decide +kernel
theorem dX4_meets_46 : decode cX4_meets 46 = .ok (.goto (-43), 3) := zd_36.1
theorem dX4_meets_49 : decode cX4_meets 49 = .ok (.iconst 0, 1) := zd_36.2.1
theorem dX4_meets_50 : decode cX4_meets 50 = .ok (.ireturn, 1) := zd_36.2.2
theorem zd_37 : (decode cX4_touches 0 = .ok (.iconst 0, 1)) ∧ (decode cX4_touches 1 = .ok (.istore_n 3, 1)) ∧ (decode cX4_touches 2 = .ok (.iload_n 3, 1)) ∧ (decode cX4_touches 3 = .ok (.aload_n 0, 1)) ∧ (decode cX4_touches 4 = .ok (.getfield 9, 3)) ∧ (decode cX4_touches 7 = .ok (.if_icmp .ge 41, 3)) ∧ (decode cX4_touches 10 = .ok (.aload_n 0, 1)) ∧ (decode cX4_touches 11 = .ok (.getfield 31, 3)) := by decide +kernel
theorem dX4_touches_0 : decode cX4_touches 0 = .ok (.iconst 0, 1) := zd_37.1
theorem dX4_touches_1 : decode cX4_touches 1 = .ok (.istore_n 3, 1) := zd_37.2.1
theorem dX4_touches_2 : decode cX4_touches 2 = .ok (.iload_n 3, 1) := zd_37.2.2.1
theorem dX4_touches_3 : decode cX4_touches 3 = .ok (.aload_n 0, 1) := zd_37.2.2.2.1
theorem dX4_touches_4 : decode cX4_touches 4 = .ok (.getfield 9, 3) := zd_37.2.2.2.2.1
theorem dX4_touches_7 : decode cX4_touches 7 = .ok (.if_icmp .ge 41, 3) := zd_37.2.2.2.2.2.1
theorem dX4_touches_10 : decode cX4_touches 10 = .ok (.aload_n 0, 1) := zd_37.2.2.2.2.2.2.1
theorem dX4_touches_11 : decode cX4_touches 11 = .ok (.getfield 31, 3) := zd_37.2.2.2.2.2.2.2
theorem zd_38 : (decode cX4_touches 14 = .ok (.iload_n 3, 1)) ∧ (decode cX4_touches 15 = .ok (.aaload, 1)) ∧ (decode cX4_touches 16 = .ok (.aload_n 1, 1)) ∧ (decode cX4_touches 17 = .ok (.invokevirtual 52, 3)) ∧ (decode cX4_touches 20 = .ok (.ifCond .ne 20, 3)) ∧ (decode cX4_touches 23 = .ok (.iload_n 2, 1)) ∧ (decode cX4_touches 24 = .ok (.ifCond .ne 18, 3)) ∧ (decode cX4_touches 27 = .ok (.aload_n 0, 1)) := by decide +kernel
theorem dX4_touches_14 : decode cX4_touches 14 = .ok (.iload_n 3, 1) := zd_38.1
theorem dX4_touches_15 : decode cX4_touches 15 = .ok (.aaload, 1) := zd_38.2.1
theorem dX4_touches_16 : decode cX4_touches 16 = .ok (.aload_n 1, 1) := zd_38.2.2.1
theorem dX4_touches_17 : decode cX4_touches 17 = .ok (.invokevirtual 52, 3) := zd_38.2.2.2.1
theorem dX4_touches_20 : decode cX4_touches 20 = .ok (.ifCond .ne 20, 3) := zd_38.2.2.2.2.1
theorem dX4_touches_23 : decode cX4_touches 23 = .ok (.iload_n 2, 1) := zd_38.2.2.2.2.2.1
theorem dX4_touches_24 : decode cX4_touches 24 = .ok (.ifCond .ne 18, 3) := zd_38.2.2.2.2.2.2.1
theorem dX4_touches_27 : decode cX4_touches 27 = .ok (.aload_n 0, 1) := zd_38.2.2.2.2.2.2.2
theorem zd_39 : (decode cX4_touches 28 = .ok (.getfield 31, 3)) ∧ (decode cX4_touches 31 = .ok (.iload_n 3, 1)) ∧ (decode cX4_touches 32 = .ok (.aaload, 1)) ∧ (decode cX4_touches 33 = .ok (.aload_n 1, 1)) ∧ (decode cX4_touches 34 = .ok (.invokevirtual 56, 3)) ∧ (decode cX4_touches 37 = .ok (.ifCond .eq 5, 3)) ∧ (decode cX4_touches 40 = .ok (.iconst 1, 1)) ∧ (decode cX4_touches 41 = .ok (.ireturn, 1)) := by decide +kernel
theorem dX4_touches_28 : decode cX4_touches 28 = .ok (.getfield 31, 3) := zd_39.1
theorem dX4_touches_31 : decode cX4_touches 31 = .ok (.iload_n 3, 1) := zd_39.2.1
theorem dX4_touches_32 : decode cX4_touches 32 = .ok (.aaload, 1) := zd_39.2.2.1
theorem dX4_touches_33 : decode cX4_touches 33 = .ok (.aload_n 1, 1) := zd_39.2.2.2.1
theorem dX4_touches_34 : decode cX4_touches 34 = .ok (.invokevirtual 56, 3) := zd_39.2.2.2.2.1
theorem dX4_touches_37 : decode cX4_touches 37 = .ok (.ifCond .eq 5, 3) := zd_39.2.2.2.2.2.1
theorem dX4_touches_40 : decode cX4_touches 40 = .ok (.iconst 1, 1) := zd_39.2.2.2.2.2.2.1
theorem dX4_touches_41 : decode cX4_touches 41 = .ok (.ireturn, 1) := zd_39.2.2.2.2.2.2.2
theorem zd_40 : (decode cX4_touches 42 = .ok (.iinc 3 1, 3)) ∧ (decode cX4_touches 45 = .ok (.goto (-43), 3)) ∧ (decode cX4_touches 48 = .ok (.iconst 0, 1)) ∧ (decode cX4_touches 49 = .ok (.ireturn, 1)) := by decide +kernel
theorem dX4_touches_42 : decode cX4_touches 42 = .ok (.iinc 3 1, 3) := zd_40.1
theorem dX4_touches_45 : decode cX4_touches 45 = .ok (.goto (-43), 3) := zd_40.2.1
theorem dX4_touches_48 : decode cX4_touches 48 = .ok (.iconst 0, 1) := zd_40.2.2.1
theorem dX4_touches_49 : decode cX4_touches 49 = .ok (.ireturn, 1) := zd_40.2.2.2
theorem zd_41 : (decode cX5_init 0 = .ok (.aload_n 0, 1)) ∧ (decode cX5_init 1 = .ok (.iload_n 1, 1)) ∧ (decode cX5_init 2 = .ok (.iconst 5, 1)) ∧ (decode cX5_init 3 = .ok (.iconst 1, 1)) ∧ (decode cX5_init 4 = .ok (.invokespecial 3, 3)) ∧ (decode cX5_init 7 = .ok (.aload_n 0, 1)) ∧ (decode cX5_init 8 = .ok (.aload_n 2, 1)) ∧ (decode cX5_init 9 = .ok (.putfield 9, 3)) := by decide +kernel
theorem dX5_init_0 : decode cX5_init 0 = .ok (.aload_n 0, 1) := zd_41.1
theorem dX5_init_1 : decode cX5_init 1 = .ok (.iload_n 1, 1) := zd_41.2.1
theorem dX5_init_2 : decode cX5_init 2 = .ok (.iconst 5, 1) := zd_41.2.2.1
theorem dX5_init_3 : decode cX5_init 3 = .ok (.iconst 1, 1) := zd_41.2.2.2.1
theorem dX5_init_4 : decode cX5_init 4 = .ok (.invokespecial 3, 3) := zd_41.2.2.2.2.1
theorem dX5_init_7 : decode cX5_init 7 = .ok (.aload_n 0, 1) := zd_41.2.2.2.2.2.1
theorem dX5_init_8 : decode cX5_init 8 = .ok (.aload_n 2, 1) := zd_41.2.2.2.2.2.2.1
theorem dX5_init_9 : decode cX5_init 9 = .ok (.putfield 9, 3) := zd_41.2.2.2.2.2.2.2
theorem zd_42 : (decode cX5_init 12 = .ok (.aload_n 0, 1)) ∧ (decode cX5_init 13 = .ok (.iload_n 3, 1)) ∧ (decode cX5_init 14 = .ok (.putfield 15, 3)) ∧ (decode cX5_init 17 = .ok (.return_, 1)) := by decide +kernel
theorem dX5_init_12 : decode cX5_init 12 = .ok (.aload_n 0, 1) := zd_42.1
theorem dX5_init_13 : decode cX5_init 13 = .ok (.iload_n 3, 1) := zd_42.2.1
theorem dX5_init_14 : decode cX5_init 14 = .ok (.putfield 15, 3) := zd_42.2.2.1
theorem dX5_init_17 : decode cX5_init 17 = .ok (.return_, 1) := zd_42.2.2.2
theorem zd_43 : (decode cX5_linesBy 0 = .ok (.iload_n 1, 1)) ∧ (decode cX5_linesBy 1 = .ok (.ifCond .ne 10, 3)) ∧ (decode cX5_linesBy 4 = .ok (.aload_n 0, 1)) ∧ (decode cX5_linesBy 5 = .ok (.getfield 15, 3)) ∧ (decode cX5_linesBy 8 = .ok (.goto 4, 3)) ∧ (decode cX5_linesBy 11 = .ok (.iconst 0, 1)) ∧ (decode cX5_linesBy 12 = .ok (.ireturn, 1)) := by decide +kernel
theorem dX5_linesBy_0 : decode cX5_linesBy 0 = .ok (.iload_n 1, 1) := zd_43.1
theorem dX5_linesBy_1 : decode cX5_linesBy 1 = .ok (.ifCond .ne 10, 3) := zd_43.2.1
theorem dX5_linesBy_4 : decode cX5_linesBy 4 = .ok (.aload_n 0, 1) := zd_43.2.2.1
theorem dX5_linesBy_5 : decode cX5_linesBy 5 = .ok (.getfield 15, 3) := zd_43.2.2.2.1
theorem dX5_linesBy_8 : decode cX5_linesBy 8 = .ok (.goto 4, 3) := zd_43.2.2.2.2.1
theorem dX5_linesBy_11 : decode cX5_linesBy 11 = .ok (.iconst 0, 1) := zd_43.2.2.2.2.2.1
theorem dX5_linesBy_12 : decode cX5_linesBy 12 = .ok (.ireturn, 1) := zd_43.2.2.2.2.2.2
theorem zd_44 : (decode cX5_maySit 0 = .ok (.aload_n 0, 1)) ∧ (decode cX5_maySit 1 = .ok (.getfield 19, 3)) ∧ (decode cX5_maySit 4 = .ok (.iconst 0, 1)) ∧ (decode cX5_maySit 5 = .ok (.iaload, 1)) ∧ (decode cX5_maySit 6 = .ok (.iconst 0, 1)) ∧ (decode cX5_maySit 7 = .ok (.iload_n 3, 1)) ∧ (decode cX5_maySit 8 = .ok (.iconst 1, 1)) ∧ (decode cX5_maySit 9 = .ok (.isub, 1)) := by decide +kernel
theorem dX5_maySit_0 : decode cX5_maySit 0 = .ok (.aload_n 0, 1) := zd_44.1
theorem dX5_maySit_1 : decode cX5_maySit 1 = .ok (.getfield 19, 3) := zd_44.2.1
theorem dX5_maySit_4 : decode cX5_maySit 4 = .ok (.iconst 0, 1) := zd_44.2.2.1
theorem dX5_maySit_5 : decode cX5_maySit 5 = .ok (.iaload, 1) := zd_44.2.2.2.1
theorem dX5_maySit_6 : decode cX5_maySit 6 = .ok (.iconst 0, 1) := zd_44.2.2.2.2.1
theorem dX5_maySit_7 : decode cX5_maySit 7 = .ok (.iload_n 3, 1) := zd_44.2.2.2.2.2.1
theorem dX5_maySit_8 : decode cX5_maySit 8 = .ok (.iconst 1, 1) := zd_44.2.2.2.2.2.2.1
theorem dX5_maySit_9 : decode cX5_maySit 9 = .ok (.isub, 1) := zd_44.2.2.2.2.2.2.2
theorem zd_45 : (decode cX5_maySit 10 = .ok (.invokestatic 23, 3)) ∧ (decode cX5_maySit 13 = .ok (.istore 4, 2)) ∧ (decode cX5_maySit 15 = .ok (.iload 4, 2)) ∧ (decode cX5_maySit 17 = .ok (.ifCond .ne 22, 3)) ∧ (decode cX5_maySit 20 = .ok (.aload_n 0, 1)) ∧ (decode cX5_maySit 21 = .ok (.getfield 9, 3)) ∧ (decode cX5_maySit 24 = .ok (.getfield 27, 3)) ∧ (decode cX5_maySit 27 = .ok (.iconst 0, 1)) := by decide +kernel
theorem dX5_maySit_10 : decode cX5_maySit 10 = .ok (.invokestatic 23, 3) := zd_45.1
theorem dX5_maySit_13 : decode cX5_maySit 13 = .ok (.istore 4, 2) := zd_45.2.1
theorem dX5_maySit_15 : decode cX5_maySit 15 = .ok (.iload 4, 2) := zd_45.2.2.1
theorem dX5_maySit_17 : decode cX5_maySit 17 = .ok (.ifCond .ne 22, 3) := zd_45.2.2.2.1
theorem dX5_maySit_20 : decode cX5_maySit 20 = .ok (.aload_n 0, 1) := zd_45.2.2.2.2.1
theorem dX5_maySit_21 : decode cX5_maySit 21 = .ok (.getfield 9, 3) := zd_45.2.2.2.2.2.1
theorem dX5_maySit_24 : decode cX5_maySit 24 = .ok (.getfield 27, 3) := zd_45.2.2.2.2.2.2.1
theorem dX5_maySit_27 : decode cX5_maySit 27 = .ok (.iconst 0, 1) := zd_45.2.2.2.2.2.2.2
theorem zd_46 : (decode cX5_maySit 28 = .ok (.iaload, 1)) ∧ (decode cX5_maySit 29 = .ok (.iconst 0, 1)) ∧ (decode cX5_maySit 30 = .ok (.iload_n 3, 1)) ∧ (decode cX5_maySit 31 = .ok (.iconst 1, 1)) ∧ (decode cX5_maySit 32 = .ok (.isub, 1)) ∧ (decode cX5_maySit 33 = .ok (.invokestatic 23, 3)) ∧ (decode cX5_maySit 36 = .ok (.ifCond .ne 5, 3)) ∧ (decode cX5_maySit 39 = .ok (.iconst 0, 1)) := by decide +kernel
theorem dX5_maySit_28 : decode cX5_maySit 28 = .ok (.iaload, 1) := zd_46.1
theorem dX5_maySit_29 : decode cX5_maySit 29 = .ok (.iconst 0, 1) := zd_46.2.1
theorem dX5_maySit_30 : decode cX5_maySit 30 = .ok (.iload_n 3, 1) := zd_46.2.2.1
theorem dX5_maySit_31 : decode cX5_maySit 31 = .ok (.iconst 1, 1) := zd_46.2.2.2.1
theorem dX5_maySit_32 : decode cX5_maySit 32 = .ok (.isub, 1) := zd_46.2.2.2.2.1
theorem dX5_maySit_33 : decode cX5_maySit 33 = .ok (.invokestatic 23, 3) := zd_46.2.2.2.2.2.1
theorem dX5_maySit_36 : decode cX5_maySit 36 = .ok (.ifCond .ne 5, 3) := zd_46.2.2.2.2.2.2.1
theorem dX5_maySit_39 : decode cX5_maySit 39 = .ok (.iconst 0, 1) := zd_46.2.2.2.2.2.2.2
theorem zd_47 : (decode cX5_maySit 40 = .ok (.ireturn, 1)) ∧ (decode cX5_maySit 41 = .ok (.aload_n 1, 1)) ∧ (decode cX5_maySit 42 = .ok (.getfield 28, 3)) ∧ (decode cX5_maySit 45 = .ok (.aload_n 0, 1)) ∧ (decode cX5_maySit 46 = .ok (.getfield 9, 3)) ∧ (decode cX5_maySit 49 = .ok (.getfield 27, 3)) ∧ (decode cX5_maySit 52 = .ok (.iconst 2, 1)) ∧ (decode cX5_maySit 53 = .ok (.iaload, 1)) := by decide +kernel
theorem dX5_maySit_40 : decode cX5_maySit 40 = .ok (.ireturn, 1) := zd_47.1
theorem dX5_maySit_41 : decode cX5_maySit 41 = .ok (.aload_n 1, 1) := zd_47.2.1
theorem dX5_maySit_42 : decode cX5_maySit 42 = .ok (.getfield 28, 3) := zd_47.2.2.1
theorem dX5_maySit_45 : decode cX5_maySit 45 = .ok (.aload_n 0, 1) := zd_47.2.2.2.1
theorem dX5_maySit_46 : decode cX5_maySit 46 = .ok (.getfield 9, 3) := zd_47.2.2.2.2.1
theorem dX5_maySit_49 : decode cX5_maySit 49 = .ok (.getfield 27, 3) := zd_47.2.2.2.2.2.1
theorem dX5_maySit_52 : decode cX5_maySit 52 = .ok (.iconst 2, 1) := zd_47.2.2.2.2.2.2.1
theorem dX5_maySit_53 : decode cX5_maySit 53 = .ok (.iaload, 1) := zd_47.2.2.2.2.2.2.2
theorem zd_48 : (decode cX5_maySit 54 = .ok (.if_icmp .eq 25, 3)) ∧ (decode cX5_maySit 57 = .ok (.aload_n 1, 1)) ∧ (decode cX5_maySit 58 = .ok (.getfield 28, 3)) ∧ (decode cX5_maySit 61 = .ok (.aload_n 0, 1)) ∧ (decode cX5_maySit 62 = .ok (.getfield 9, 3)) ∧ (decode cX5_maySit 65 = .ok (.getfield 27, 3)) ∧ (decode cX5_maySit 68 = .ok (.iconst 2, 1)) ∧ (decode cX5_maySit 69 = .ok (.iaload, 1)) := by decide +kernel
theorem dX5_maySit_54 : decode cX5_maySit 54 = .ok (.if_icmp .eq 25, 3) := zd_48.1
theorem dX5_maySit_57 : decode cX5_maySit 57 = .ok (.aload_n 1, 1) := zd_48.2.1
theorem dX5_maySit_58 : decode cX5_maySit 58 = .ok (.getfield 28, 3) := zd_48.2.2.1
theorem dX5_maySit_61 : decode cX5_maySit 61 = .ok (.aload_n 0, 1) := zd_48.2.2.2.1
theorem dX5_maySit_62 : decode cX5_maySit 62 = .ok (.getfield 9, 3) := zd_48.2.2.2.2.1
theorem dX5_maySit_65 : decode cX5_maySit 65 = .ok (.getfield 27, 3) := zd_48.2.2.2.2.2.1
theorem dX5_maySit_68 : decode cX5_maySit 68 = .ok (.iconst 2, 1) := zd_48.2.2.2.2.2.2.1
theorem dX5_maySit_69 : decode cX5_maySit 69 = .ok (.iaload, 1) := zd_48.2.2.2.2.2.2.2
theorem zd_49 : (decode cX5_maySit 70 = .ok (.if_icmp .le 7, 3)) ∧ (decode cX5_maySit 73 = .ok (.iconst 1, 1)) ∧ (decode cX5_maySit 74 = .ok (.goto 4, 3)) ∧ (decode cX5_maySit 77 = .ok (.iconst 0, 1)) ∧ (decode cX5_maySit 78 = .ok (.ireturn, 1)) ∧ (decode cX5_maySit 79 = .ok (.aload_n 1, 1)) ∧ (decode cX5_maySit 80 = .ok (.getfield 33, 3)) ∧ (decode cX5_maySit 83 = .ok (.aload_n 0, 1)) := by decide +kernel
theorem dX5_maySit_70 : decode cX5_maySit 70 = .ok (.if_icmp .le 7, 3) := zd_49.1
theorem dX5_maySit_73 : decode cX5_maySit 73 = .ok (.iconst 1, 1) := zd_49.2.1
theorem dX5_maySit_74 : decode cX5_maySit 74 = .ok (.goto 4, 3) := zd_49.2.2.1
theorem dX5_maySit_77 : decode cX5_maySit 77 = .ok (.iconst 0, 1) := zd_49.2.2.2.1
theorem dX5_maySit_78 : decode cX5_maySit 78 = .ok (.ireturn, 1) := zd_49.2.2.2.2.1
theorem dX5_maySit_79 : decode cX5_maySit 79 = .ok (.aload_n 1, 1) := zd_49.2.2.2.2.2.1
theorem dX5_maySit_80 : decode cX5_maySit 80 = .ok (.getfield 33, 3) := zd_49.2.2.2.2.2.2.1
theorem dX5_maySit_83 : decode cX5_maySit 83 = .ok (.aload_n 0, 1) := zd_49.2.2.2.2.2.2.2
theorem zd_50 : (decode cX5_maySit 84 = .ok (.getfield 9, 3)) ∧ (decode cX5_maySit 87 = .ok (.getfield 27, 3)) ∧ (decode cX5_maySit 90 = .ok (.iconst 3, 1)) ∧ (decode cX5_maySit 91 = .ok (.iaload, 1)) ∧ (decode cX5_maySit 92 = .ok (.if_icmp .lt 7, 3)) ∧ (decode cX5_maySit 95 = .ok (.iconst 1, 1)) ∧ (decode cX5_maySit 96 = .ok (.goto 4, 3)) ∧ (decode cX5_maySit 99 = .ok (.iconst 0, 1)) := by decide +kernel
theorem dX5_maySit_84 : decode cX5_maySit 84 = .ok (.getfield 9, 3) := zd_50.1
theorem dX5_maySit_87 : decode cX5_maySit 87 = .ok (.getfield 27, 3) := zd_50.2.1
theorem dX5_maySit_90 : decode cX5_maySit 90 = .ok (.iconst 3, 1) := zd_50.2.2.1
theorem dX5_maySit_91 : decode cX5_maySit 91 = .ok (.iaload, 1) := zd_50.2.2.2.1
theorem dX5_maySit_92 : decode cX5_maySit 92 = .ok (.if_icmp .lt 7, 3) := zd_50.2.2.2.2.1
theorem dX5_maySit_95 : decode cX5_maySit 95 = .ok (.iconst 1, 1) := zd_50.2.2.2.2.2.1
theorem dX5_maySit_96 : decode cX5_maySit 96 = .ok (.goto 4, 3) := zd_50.2.2.2.2.2.2.1
theorem dX5_maySit_99 : decode cX5_maySit 99 = .ok (.iconst 0, 1) := zd_50.2.2.2.2.2.2.2
theorem dX5_maySit_100 : decode cX5_maySit 100 = .ok (.ireturn, 1) := by decide +kernel
theorem zd_51 : (decode cX6_init 0 = .ok (.aload_n 0, 1)) ∧ (decode cX6_init 1 = .ok (.iload_n 1, 1)) ∧ (decode cX6_init 2 = .ok (.iconst 3, 1)) ∧ (decode cX6_init 3 = .ok (.iconst 1, 1)) ∧ (decode cX6_init 4 = .ok (.invokespecial 3, 3)) ∧ (decode cX6_init 7 = .ok (.aload_n 0, 1)) ∧ (decode cX6_init 8 = .ok (.sipush 400, 3)) ∧ (decode cX6_init 11 = .ok (.newarray .boolean, 2)) := by decide +kernel
theorem dX6_init_0 : decode cX6_init 0 = .ok (.aload_n 0, 1) := zd_51.1
theorem dX6_init_1 : decode cX6_init 1 = .ok (.iload_n 1, 1) := zd_51.2.1
theorem dX6_init_2 : decode cX6_init 2 = .ok (.iconst 3, 1) := zd_51.2.2.1
theorem dX6_init_3 : decode cX6_init 3 = .ok (.iconst 1, 1) := zd_51.2.2.2.1
theorem dX6_init_4 : decode cX6_init 4 = .ok (.invokespecial 3, 3) := zd_51.2.2.2.2.1
theorem dX6_init_7 : decode cX6_init 7 = .ok (.aload_n 0, 1) := zd_51.2.2.2.2.2.1
theorem dX6_init_8 : decode cX6_init 8 = .ok (.sipush 400, 3) := zd_51.2.2.2.2.2.2.1
theorem dX6_init_11 : decode cX6_init 11 = .ok (.newarray .boolean, 2) := zd_51.2.2.2.2.2.2.2
theorem zd_52 : (decode cX6_init 13 = .ok (.putfield 9, 3)) ∧ (decode cX6_init 16 = .ok (.aload_n 0, 1)) ∧ (decode cX6_init 17 = .ok (.iload_n 2, 1)) ∧ (decode cX6_init 18 = .ok (.putfield 15, 3)) ∧ (decode cX6_init 21 = .ok (.aload_n 0, 1)) ∧ (decode cX6_init 22 = .ok (.iload_n 3, 1)) ∧ (decode cX6_init 23 = .ok (.putfield 19, 3)) ∧ (decode cX6_init 26 = .ok (.aload_n 0, 1)) := by decide +kernel
theorem dX6_init_13 : decode cX6_init 13 = .ok (.putfield 9, 3) := zd_52.1
theorem dX6_init_16 : decode cX6_init 16 = .ok (.aload_n 0, 1) := zd_52.2.1
theorem dX6_init_17 : decode cX6_init 17 = .ok (.iload_n 2, 1) := zd_52.2.2.1
theorem dX6_init_18 : decode cX6_init 18 = .ok (.putfield 15, 3) := zd_52.2.2.2.1
theorem dX6_init_21 : decode cX6_init 21 = .ok (.aload_n 0, 1) := zd_52.2.2.2.2.1
theorem dX6_init_22 : decode cX6_init 22 = .ok (.iload_n 3, 1) := zd_52.2.2.2.2.2.1
theorem dX6_init_23 : decode cX6_init 23 = .ok (.putfield 19, 3) := zd_52.2.2.2.2.2.2.1
theorem dX6_init_26 : decode cX6_init 26 = .ok (.aload_n 0, 1) := zd_52.2.2.2.2.2.2.2
theorem zd_53 : (decode cX6_init 27 = .ok (.aload 4, 2)) ∧ (decode cX6_init 29 = .ok (.putfield 22, 3)) ∧ (decode cX6_init 32 = .ok (.return_, 1)) := by decide +kernel
theorem dX6_init_27 : decode cX6_init 27 = .ok (.aload 4, 2) := zd_53.1
theorem dX6_init_29 : decode cX6_init 29 = .ok (.putfield 22, 3) := zd_53.2.1
theorem dX6_init_32 : decode cX6_init 32 = .ok (.return_, 1) := zd_53.2.2
theorem zd_54 : (decode cX6_cost 0 = .ok (.aload_n 0, 1)) ∧ (decode cX6_cost 1 = .ok (.getfield 22, 3)) ∧ (decode cX6_cost 4 = .ok (.getfield 26, 3)) ∧ (decode cX6_cost 7 = .ok (.aload_n 0, 1)) ∧ (decode cX6_cost 8 = .ok (.getfield 22, 3)) ∧ (decode cX6_cost 11 = .ok (.getfield 31, 3)) ∧ (decode cX6_cost 14 = .ok (.imul, 1)) ∧ (decode cX6_cost 15 = .ok (.aload_n 0, 1)) := by decide +kernel
theorem dX6_cost_0 : decode cX6_cost 0 = .ok (.aload_n 0, 1) := zd_54.1
theorem dX6_cost_1 : decode cX6_cost 1 = .ok (.getfield 22, 3) := zd_54.2.1
theorem dX6_cost_4 : decode cX6_cost 4 = .ok (.getfield 26, 3) := zd_54.2.2.1
theorem dX6_cost_7 : decode cX6_cost 7 = .ok (.aload_n 0, 1) := zd_54.2.2.2.1
theorem dX6_cost_8 : decode cX6_cost 8 = .ok (.getfield 22, 3) := zd_54.2.2.2.2.1
theorem dX6_cost_11 : decode cX6_cost 11 = .ok (.getfield 31, 3) := zd_54.2.2.2.2.2.1
theorem dX6_cost_14 : decode cX6_cost 14 = .ok (.imul, 1) := zd_54.2.2.2.2.2.2.1
theorem dX6_cost_15 : decode cX6_cost 15 = .ok (.aload_n 0, 1) := zd_54.2.2.2.2.2.2.2
theorem zd_55 : (decode cX6_cost 16 = .ok (.getfield 19, 3)) ∧ (decode cX6_cost 19 = .ok (.imul, 1)) ∧ (decode cX6_cost 20 = .ok (.ireturn, 1)) := by decide +kernel
theorem dX6_cost_16 : decode cX6_cost 16 = .ok (.getfield 19, 3) := zd_55.1
theorem dX6_cost_19 : decode cX6_cost 19 = .ok (.imul, 1) := zd_55.2.1
theorem dX6_cost_20 : decode cX6_cost 20 = .ok (.ireturn, 1) := zd_55.2.2
theorem zd_56 : (decode cX6_columnsBy 0 = .ok (.iload_n 1, 1)) ∧ (decode cX6_columnsBy 1 = .ok (.ifCond .ne 13, 3)) ∧ (decode cX6_columnsBy 4 = .ok (.aload_n 0, 1)) ∧ (decode cX6_columnsBy 5 = .ok (.getfield 22, 3)) ∧ (decode cX6_columnsBy 8 = .ok (.getfield 26, 3)) ∧ (decode cX6_columnsBy 11 = .ok (.goto 4, 3)) ∧ (decode cX6_columnsBy 14 = .ok (.iconst 0, 1)) ∧ (decode cX6_columnsBy 15 = .ok (.ireturn, 1)) := by decide +kernel
theorem dX6_columnsBy_0 : decode cX6_columnsBy 0 = .ok (.iload_n 1, 1) := zd_56.1
theorem dX6_columnsBy_1 : decode cX6_columnsBy 1 = .ok (.ifCond .ne 13, 3) := zd_56.2.1
theorem dX6_columnsBy_4 : decode cX6_columnsBy 4 = .ok (.aload_n 0, 1) := zd_56.2.2.1
theorem dX6_columnsBy_5 : decode cX6_columnsBy 5 = .ok (.getfield 22, 3) := zd_56.2.2.2.1
theorem dX6_columnsBy_8 : decode cX6_columnsBy 8 = .ok (.getfield 26, 3) := zd_56.2.2.2.2.1
theorem dX6_columnsBy_11 : decode cX6_columnsBy 11 = .ok (.goto 4, 3) := zd_56.2.2.2.2.2.1
theorem dX6_columnsBy_14 : decode cX6_columnsBy 14 = .ok (.iconst 0, 1) := zd_56.2.2.2.2.2.2.1
theorem dX6_columnsBy_15 : decode cX6_columnsBy 15 = .ok (.ireturn, 1) := zd_56.2.2.2.2.2.2.2
theorem zd_57 : (decode cX6_linesBy 0 = .ok (.iload_n 1, 1)) ∧ (decode cX6_linesBy 1 = .ok (.ifCond .ne 13, 3)) ∧ (decode cX6_linesBy 4 = .ok (.aload_n 0, 1)) ∧ (decode cX6_linesBy 5 = .ok (.getfield 22, 3)) ∧ (decode cX6_linesBy 8 = .ok (.getfield 31, 3)) ∧ (decode cX6_linesBy 11 = .ok (.goto 4, 3)) ∧ (decode cX6_linesBy 14 = .ok (.iconst 0, 1)) ∧ (decode cX6_linesBy 15 = .ok (.ireturn, 1)) := by decide +kernel
theorem dX6_linesBy_0 : decode cX6_linesBy 0 = .ok (.iload_n 1, 1) := zd_57.1
theorem dX6_linesBy_1 : decode cX6_linesBy 1 = .ok (.ifCond .ne 13, 3) := zd_57.2.1
theorem dX6_linesBy_4 : decode cX6_linesBy 4 = .ok (.aload_n 0, 1) := zd_57.2.2.1
theorem dX6_linesBy_5 : decode cX6_linesBy 5 = .ok (.getfield 22, 3) := zd_57.2.2.2.1
theorem dX6_linesBy_8 : decode cX6_linesBy 8 = .ok (.getfield 31, 3) := zd_57.2.2.2.2.1
theorem dX6_linesBy_11 : decode cX6_linesBy 11 = .ok (.goto 4, 3) := zd_57.2.2.2.2.2.1
theorem dX6_linesBy_14 : decode cX6_linesBy 14 = .ok (.iconst 0, 1) := zd_57.2.2.2.2.2.2.1
theorem dX6_linesBy_15 : decode cX6_linesBy 15 = .ok (.ireturn, 1) := zd_57.2.2.2.2.2.2.2
theorem zd_58 : (decode cX6_maySit 0 = .ok (.aload_n 1, 1)) ∧ (decode cX6_maySit 1 = .ok (.aload_n 0, 1)) ∧ (decode cX6_maySit 2 = .ok (.getfield 22, 3)) ∧ (decode cX6_maySit 5 = .ok (.invokevirtual 34, 3)) ∧ (decode cX6_maySit 8 = .ok (.ireturn, 1)) := by decide +kernel
theorem dX6_maySit_0 : decode cX6_maySit 0 = .ok (.aload_n 1, 1) := zd_58.1
theorem dX6_maySit_1 : decode cX6_maySit 1 = .ok (.aload_n 0, 1) := zd_58.2.1
theorem dX6_maySit_2 : decode cX6_maySit 2 = .ok (.getfield 22, 3) := zd_58.2.2.1
theorem dX6_maySit_5 : decode cX6_maySit 5 = .ok (.invokevirtual 34, 3) := zd_58.2.2.2.1
theorem dX6_maySit_8 : decode cX6_maySit 8 = .ok (.ireturn, 1) := zd_58.2.2.2.2
theorem zd_59 : (decode cX7_init 0 = .ok (.aload_n 0, 1)) ∧ (decode cX7_init 1 = .ok (.iload_n 1, 1)) ∧ (decode cX7_init 2 = .ok (.iconst 2, 1)) ∧ (decode cX7_init 3 = .ok (.iconst 1, 1)) ∧ (decode cX7_init 4 = .ok (.invokespecial 3, 3)) ∧ (decode cX7_init 7 = .ok (.aload_n 0, 1)) ∧ (decode cX7_init 8 = .ok (.iconst 4, 1)) ∧ (decode cX7_init 9 = .ok (.newarray .int, 2)) := by decide +kernel
theorem dX7_init_0 : decode cX7_init 0 = .ok (.aload_n 0, 1) := zd_59.1
theorem dX7_init_1 : decode cX7_init 1 = .ok (.iload_n 1, 1) := zd_59.2.1
theorem dX7_init_2 : decode cX7_init 2 = .ok (.iconst 2, 1) := zd_59.2.2.1
theorem dX7_init_3 : decode cX7_init 3 = .ok (.iconst 1, 1) := zd_59.2.2.2.1
theorem dX7_init_4 : decode cX7_init 4 = .ok (.invokespecial 3, 3) := zd_59.2.2.2.2.1
theorem dX7_init_7 : decode cX7_init 7 = .ok (.aload_n 0, 1) := zd_59.2.2.2.2.2.1
theorem dX7_init_8 : decode cX7_init 8 = .ok (.iconst 4, 1) := zd_59.2.2.2.2.2.2.1
theorem dX7_init_9 : decode cX7_init 9 = .ok (.newarray .int, 2) := zd_59.2.2.2.2.2.2.2
theorem zd_60 : (decode cX7_init 11 = .ok (.putfield 9, 3)) ∧ (decode cX7_init 14 = .ok (.aload_n 0, 1)) ∧ (decode cX7_init 15 = .ok (.iconst 4, 1)) ∧ (decode cX7_init 16 = .ok (.newarray .int, 2)) ∧ (decode cX7_init 18 = .ok (.putfield 15, 3)) ∧ (decode cX7_init 21 = .ok (.aload_n 0, 1)) ∧ (decode cX7_init 22 = .ok (.iconst 0, 1)) ∧ (decode cX7_init 23 = .ok (.putfield 18, 3)) := by decide +kernel
theorem dX7_init_11 : decode cX7_init 11 = .ok (.putfield 9, 3) := zd_60.1
theorem dX7_init_14 : decode cX7_init 14 = .ok (.aload_n 0, 1) := zd_60.2.1
theorem dX7_init_15 : decode cX7_init 15 = .ok (.iconst 4, 1) := zd_60.2.2.1
theorem dX7_init_16 : decode cX7_init 16 = .ok (.newarray .int, 2) := zd_60.2.2.2.1
theorem dX7_init_18 : decode cX7_init 18 = .ok (.putfield 15, 3) := zd_60.2.2.2.2.1
theorem dX7_init_21 : decode cX7_init 21 = .ok (.aload_n 0, 1) := zd_60.2.2.2.2.2.1
theorem dX7_init_22 : decode cX7_init 22 = .ok (.iconst 0, 1) := zd_60.2.2.2.2.2.2.1
theorem dX7_init_23 : decode cX7_init 23 = .ok (.putfield 18, 3) := zd_60.2.2.2.2.2.2.2
theorem dX7_init_26 : decode cX7_init 26 = .ok (.return_, 1) := by decide +kernel
theorem zd_61 : (decode cX7_takeSize 0 = .ok (.aload_n 0, 1)) ∧ (decode cX7_takeSize 1 = .ok (.getfield 18, 3)) ∧ (decode cX7_takeSize 4 = .ok (.iconst 4, 1)) ∧ (decode cX7_takeSize 5 = .ok (.if_icmp .lt 5, 3)) ∧ (decode cX7_takeSize 8 = .ok (.iconst (-1), 1)) ∧ (decode cX7_takeSize 9 = .ok (.ireturn, 1)) ∧ (decode cX7_takeSize 10 = .ok (.aload_n 0, 1)) ∧ (decode cX7_takeSize 11 = .ok (.getfield 9, 3)) := by decide +kernel
theorem dX7_takeSize_0 : decode cX7_takeSize 0 = .ok (.aload_n 0, 1) := zd_61.1
theorem dX7_takeSize_1 : decode cX7_takeSize 1 = .ok (.getfield 18, 3) := zd_61.2.1
theorem dX7_takeSize_4 : decode cX7_takeSize 4 = .ok (.iconst 4, 1) := zd_61.2.2.1
theorem dX7_takeSize_5 : decode cX7_takeSize 5 = .ok (.if_icmp .lt 5, 3) := zd_61.2.2.2.1
theorem dX7_takeSize_8 : decode cX7_takeSize 8 = .ok (.iconst (-1), 1) := zd_61.2.2.2.2.1
theorem dX7_takeSize_9 : decode cX7_takeSize 9 = .ok (.ireturn, 1) := zd_61.2.2.2.2.2.1
theorem dX7_takeSize_10 : decode cX7_takeSize 10 = .ok (.aload_n 0, 1) := zd_61.2.2.2.2.2.2.1
theorem dX7_takeSize_11 : decode cX7_takeSize 11 = .ok (.getfield 9, 3) := zd_61.2.2.2.2.2.2.2
theorem zd_62 : (decode cX7_takeSize 14 = .ok (.aload_n 0, 1)) ∧ (decode cX7_takeSize 15 = .ok (.getfield 18, 3)) ∧ (decode cX7_takeSize 18 = .ok (.iload_n 1, 1)) ∧ (decode cX7_takeSize 19 = .ok (.iastore, 1)) ∧ (decode cX7_takeSize 20 = .ok (.aload_n 0, 1)) ∧ (decode cX7_takeSize 21 = .ok (.getfield 15, 3)) ∧ (decode cX7_takeSize 24 = .ok (.aload_n 0, 1)) ∧ (decode cX7_takeSize 25 = .ok (.getfield 18, 3)) := by decide +kernel
theorem dX7_takeSize_14 : decode cX7_takeSize 14 = .ok (.aload_n 0, 1) := zd_62.1
theorem dX7_takeSize_15 : decode cX7_takeSize 15 = .ok (.getfield 18, 3) := zd_62.2.1
theorem dX7_takeSize_18 : decode cX7_takeSize 18 = .ok (.iload_n 1, 1) := zd_62.2.2.1
theorem dX7_takeSize_19 : decode cX7_takeSize 19 = .ok (.iastore, 1) := zd_62.2.2.2.1
theorem dX7_takeSize_20 : decode cX7_takeSize 20 = .ok (.aload_n 0, 1) := zd_62.2.2.2.2.1
theorem dX7_takeSize_21 : decode cX7_takeSize 21 = .ok (.getfield 15, 3) := zd_62.2.2.2.2.2.1
theorem dX7_takeSize_24 : decode cX7_takeSize 24 = .ok (.aload_n 0, 1) := zd_62.2.2.2.2.2.2.1
theorem dX7_takeSize_25 : decode cX7_takeSize 25 = .ok (.getfield 18, 3) := zd_62.2.2.2.2.2.2.2
theorem zd_63 : (decode cX7_takeSize 28 = .ok (.iload_n 2, 1)) ∧ (decode cX7_takeSize 29 = .ok (.iastore, 1)) ∧ (decode cX7_takeSize 30 = .ok (.aload_n 0, 1)) ∧ (decode cX7_takeSize 31 = .ok (.dup, 1)) ∧ (decode cX7_takeSize 32 = .ok (.getfield 18, 3)) ∧ (decode cX7_takeSize 35 = .ok (.iconst 1, 1)) ∧ (decode cX7_takeSize 36 = .ok (.iadd, 1)) ∧ (decode cX7_takeSize 37 = .ok (.putfield 18, 3)) := by decide +kernel
theorem dX7_takeSize_28 : decode cX7_takeSize 28 = .ok (.iload_n 2, 1) := zd_63.1
theorem dX7_takeSize_29 : decode cX7_takeSize 29 = .ok (.iastore, 1) := zd_63.2.1
theorem dX7_takeSize_30 : decode cX7_takeSize 30 = .ok (.aload_n 0, 1) := zd_63.2.2.1
theorem dX7_takeSize_31 : decode cX7_takeSize 31 = .ok (.dup, 1) := zd_63.2.2.2.1
theorem dX7_takeSize_32 : decode cX7_takeSize 32 = .ok (.getfield 18, 3) := zd_63.2.2.2.2.1
theorem dX7_takeSize_35 : decode cX7_takeSize 35 = .ok (.iconst 1, 1) := zd_63.2.2.2.2.2.1
theorem dX7_takeSize_36 : decode cX7_takeSize 36 = .ok (.iadd, 1) := zd_63.2.2.2.2.2.2.1
theorem dX7_takeSize_37 : decode cX7_takeSize 37 = .ok (.putfield 18, 3) := zd_63.2.2.2.2.2.2.2
theorem zd_64 : (decode cX7_takeSize 40 = .ok (.aload_n 0, 1)) ∧ (decode cX7_takeSize 41 = .ok (.getfield 18, 3)) ∧ (decode cX7_takeSize 44 = .ok (.ireturn, 1)) := by decide +kernel
theorem dX7_takeSize_40 : decode cX7_takeSize 40 = .ok (.aload_n 0, 1) := zd_64.1
theorem dX7_takeSize_41 : decode cX7_takeSize 41 = .ok (.getfield 18, 3) := zd_64.2.1
theorem dX7_takeSize_44 : decode cX7_takeSize 44 = .ok (.ireturn, 1) := zd_64.2.2
theorem zd_65 : (decode cX7_columnsBy 0 = .ok (.iload_n 1, 1)) ∧ (decode cX7_columnsBy 1 = .ok (.iconst 0, 1)) ∧ (decode cX7_columnsBy 2 = .ok (.aload_n 0, 1)) ∧ (decode cX7_columnsBy 3 = .ok (.getfield 18, 3)) ∧ (decode cX7_columnsBy 6 = .ok (.iconst 1, 1)) ∧ (decode cX7_columnsBy 7 = .ok (.isub, 1)) ∧ (decode cX7_columnsBy 8 = .ok (.invokestatic 22, 3)) ∧ (decode cX7_columnsBy 11 = .ok (.ifCond .eq 12, 3)) := by decide +kernel
theorem dX7_columnsBy_0 : decode cX7_columnsBy 0 = .ok (.iload_n 1, 1) := zd_65.1
theorem dX7_columnsBy_1 : decode cX7_columnsBy 1 = .ok (.iconst 0, 1) := zd_65.2.1
theorem dX7_columnsBy_2 : decode cX7_columnsBy 2 = .ok (.aload_n 0, 1) := zd_65.2.2.1
theorem dX7_columnsBy_3 : decode cX7_columnsBy 3 = .ok (.getfield 18, 3) := zd_65.2.2.2.1
theorem dX7_columnsBy_6 : decode cX7_columnsBy 6 = .ok (.iconst 1, 1) := zd_65.2.2.2.2.1
theorem dX7_columnsBy_7 : decode cX7_columnsBy 7 = .ok (.isub, 1) := zd_65.2.2.2.2.2.1
theorem dX7_columnsBy_8 : decode cX7_columnsBy 8 = .ok (.invokestatic 22, 3) := zd_65.2.2.2.2.2.2.1
theorem dX7_columnsBy_11 : decode cX7_columnsBy 11 = .ok (.ifCond .eq 12, 3) := zd_65.2.2.2.2.2.2.2
theorem zd_66 : (decode cX7_columnsBy 14 = .ok (.aload_n 0, 1)) ∧ (decode cX7_columnsBy 15 = .ok (.getfield 9, 3)) ∧ (decode cX7_columnsBy 18 = .ok (.iload_n 1, 1)) ∧ (decode cX7_columnsBy 19 = .ok (.iaload, 1)) ∧ (decode cX7_columnsBy 20 = .ok (.goto 4, 3)) ∧ (decode cX7_columnsBy 23 = .ok (.iconst 0, 1)) ∧ (decode cX7_columnsBy 24 = .ok (.ireturn, 1)) := by decide +kernel
theorem dX7_columnsBy_14 : decode cX7_columnsBy 14 = .ok (.aload_n 0, 1) := zd_66.1
theorem dX7_columnsBy_15 : decode cX7_columnsBy 15 = .ok (.getfield 9, 3) := zd_66.2.1
theorem dX7_columnsBy_18 : decode cX7_columnsBy 18 = .ok (.iload_n 1, 1) := zd_66.2.2.1
theorem dX7_columnsBy_19 : decode cX7_columnsBy 19 = .ok (.iaload, 1) := zd_66.2.2.2.1
theorem dX7_columnsBy_20 : decode cX7_columnsBy 20 = .ok (.goto 4, 3) := zd_66.2.2.2.2.1
theorem dX7_columnsBy_23 : decode cX7_columnsBy 23 = .ok (.iconst 0, 1) := zd_66.2.2.2.2.2.1
theorem dX7_columnsBy_24 : decode cX7_columnsBy 24 = .ok (.ireturn, 1) := zd_66.2.2.2.2.2.2
theorem zd_67 : (decode cX7_linesBy 0 = .ok (.iload_n 1, 1)) ∧ (decode cX7_linesBy 1 = .ok (.iconst 0, 1)) ∧ (decode cX7_linesBy 2 = .ok (.aload_n 0, 1)) ∧ (decode cX7_linesBy 3 = .ok (.getfield 18, 3)) ∧ (decode cX7_linesBy 6 = .ok (.iconst 1, 1)) ∧ (decode cX7_linesBy 7 = .ok (.isub, 1)) ∧ (decode cX7_linesBy 8 = .ok (.invokestatic 22, 3)) ∧ (decode cX7_linesBy 11 = .ok (.ifCond .eq 12, 3)) := by decide +kernel
theorem dX7_linesBy_0 : decode cX7_linesBy 0 = .ok (.iload_n 1, 1) := zd_67.1
theorem dX7_linesBy_1 : decode cX7_linesBy 1 = .ok (.iconst 0, 1) := zd_67.2.1
theorem dX7_linesBy_2 : decode cX7_linesBy 2 = .ok (.aload_n 0, 1) := zd_67.2.2.1
theorem dX7_linesBy_3 : decode cX7_linesBy 3 = .ok (.getfield 18, 3) := zd_67.2.2.2.1
theorem dX7_linesBy_6 : decode cX7_linesBy 6 = .ok (.iconst 1, 1) := zd_67.2.2.2.2.1
theorem dX7_linesBy_7 : decode cX7_linesBy 7 = .ok (.isub, 1) := zd_67.2.2.2.2.2.1
theorem dX7_linesBy_8 : decode cX7_linesBy 8 = .ok (.invokestatic 22, 3) := zd_67.2.2.2.2.2.2.1
theorem dX7_linesBy_11 : decode cX7_linesBy 11 = .ok (.ifCond .eq 12, 3) := zd_67.2.2.2.2.2.2.2
theorem zd_68 : (decode cX7_linesBy 14 = .ok (.aload_n 0, 1)) ∧ (decode cX7_linesBy 15 = .ok (.getfield 15, 3)) ∧ (decode cX7_linesBy 18 = .ok (.iload_n 1, 1)) ∧ (decode cX7_linesBy 19 = .ok (.iaload, 1)) ∧ (decode cX7_linesBy 20 = .ok (.goto 4, 3)) ∧ (decode cX7_linesBy 23 = .ok (.iconst 0, 1)) ∧ (decode cX7_linesBy 24 = .ok (.ireturn, 1)) := by decide +kernel
theorem dX7_linesBy_14 : decode cX7_linesBy 14 = .ok (.aload_n 0, 1) := zd_68.1
theorem dX7_linesBy_15 : decode cX7_linesBy 15 = .ok (.getfield 15, 3) := zd_68.2.1
theorem dX7_linesBy_18 : decode cX7_linesBy 18 = .ok (.iload_n 1, 1) := zd_68.2.2.1
theorem dX7_linesBy_19 : decode cX7_linesBy 19 = .ok (.iaload, 1) := zd_68.2.2.2.1
theorem dX7_linesBy_20 : decode cX7_linesBy 20 = .ok (.goto 4, 3) := zd_68.2.2.2.2.1
theorem dX7_linesBy_23 : decode cX7_linesBy 23 = .ok (.iconst 0, 1) := zd_68.2.2.2.2.2.1
theorem dX7_linesBy_24 : decode cX7_linesBy 24 = .ok (.ireturn, 1) := zd_68.2.2.2.2.2.2
theorem zd_69 : (decode cX8_init 0 = .ok (.aload_n 0, 1)) ∧ (decode cX8_init 1 = .ok (.invokespecial 3, 3)) ∧ (decode cX8_init 4 = .ok (.aload_n 0, 1)) ∧ (decode cX8_init 5 = .ok (.aload_n 1, 1)) ∧ (decode cX8_init 6 = .ok (.putfield 9, 3)) ∧ (decode cX8_init 9 = .ok (.aload_n 0, 1)) ∧ (decode cX8_init 10 = .ok (.iload_n 2, 1)) ∧ (decode cX8_init 11 = .ok (.putfield 15, 3)) := by decide +kernel
theorem dX8_init_0 : decode cX8_init 0 = .ok (.aload_n 0, 1) := zd_69.1
theorem dX8_init_1 : decode cX8_init 1 = .ok (.invokespecial 3, 3) := zd_69.2.1
theorem dX8_init_4 : decode cX8_init 4 = .ok (.aload_n 0, 1) := zd_69.2.2.1
theorem dX8_init_5 : decode cX8_init 5 = .ok (.aload_n 1, 1) := zd_69.2.2.2.1
theorem dX8_init_6 : decode cX8_init 6 = .ok (.putfield 9, 3) := zd_69.2.2.2.2.1
theorem dX8_init_9 : decode cX8_init 9 = .ok (.aload_n 0, 1) := zd_69.2.2.2.2.2.1
theorem dX8_init_10 : decode cX8_init 10 = .ok (.iload_n 2, 1) := zd_69.2.2.2.2.2.2.1
theorem dX8_init_11 : decode cX8_init 11 = .ok (.putfield 15, 3) := zd_69.2.2.2.2.2.2.2
theorem zd_70 : (decode cX8_init 14 = .ok (.aload_n 0, 1)) ∧ (decode cX8_init 15 = .ok (.iload_n 3, 1)) ∧ (decode cX8_init 16 = .ok (.putfield 19, 3)) ∧ (decode cX8_init 19 = .ok (.aload_n 0, 1)) ∧ (decode cX8_init 20 = .ok (.iload 4, 2)) ∧ (decode cX8_init 22 = .ok (.putfield 22, 3)) ∧ (decode cX8_init 25 = .ok (.aload_n 0, 1)) ∧ (decode cX8_init 26 = .ok (.iload 5, 2)) := by decide +kernel
theorem dX8_init_14 : decode cX8_init 14 = .ok (.aload_n 0, 1) := zd_70.1
theorem dX8_init_15 : decode cX8_init 15 = .ok (.iload_n 3, 1) := zd_70.2.1
theorem dX8_init_16 : decode cX8_init 16 = .ok (.putfield 19, 3) := zd_70.2.2.1
theorem dX8_init_19 : decode cX8_init 19 = .ok (.aload_n 0, 1) := zd_70.2.2.2.1
theorem dX8_init_20 : decode cX8_init 20 = .ok (.iload 4, 2) := zd_70.2.2.2.2.1
theorem dX8_init_22 : decode cX8_init 22 = .ok (.putfield 22, 3) := zd_70.2.2.2.2.2.1
theorem dX8_init_25 : decode cX8_init 25 = .ok (.aload_n 0, 1) := zd_70.2.2.2.2.2.2.1
theorem dX8_init_26 : decode cX8_init 26 = .ok (.iload 5, 2) := zd_70.2.2.2.2.2.2.2
theorem zd_71 : (decode cX8_init 28 = .ok (.putfield 25, 3)) ∧ (decode cX8_init 31 = .ok (.aload_n 0, 1)) ∧ (decode cX8_init 32 = .ok (.iload 6, 2)) ∧ (decode cX8_init 34 = .ok (.putfield 28, 3)) ∧ (decode cX8_init 37 = .ok (.return_, 1)) := by decide +kernel
theorem dX8_init_28 : decode cX8_init 28 = .ok (.putfield 25, 3) := zd_71.1
theorem dX8_init_31 : decode cX8_init 31 = .ok (.aload_n 0, 1) := zd_71.2.1
theorem dX8_init_32 : decode cX8_init 32 = .ok (.iload 6, 2) := zd_71.2.2.1
theorem dX8_init_34 : decode cX8_init 34 = .ok (.putfield 28, 3) := zd_71.2.2.2.1
theorem dX8_init_37 : decode cX8_init 37 = .ok (.return_, 1) := zd_71.2.2.2.2
theorem zd_72 : (decode cX8_sign 0 = .ok (.aload_n 0, 1)) ∧ (decode cX8_sign 1 = .ok (.getfield 9, 3)) ∧ (decode cX8_sign 4 = .ok (.ifnonnull 8, 3)) ∧ (decode cX8_sign 7 = .ok (.bipush 100, 2)) ∧ (decode cX8_sign 9 = .ok (.goto 10, 3)) ∧ (decode cX8_sign 12 = .ok (.aload_n 0, 1)) ∧ (decode cX8_sign 13 = .ok (.getfield 9, 3)) ∧ (decode cX8_sign 16 = .ok (.getfield 31, 3)) := by decide +kernel
theorem dX8_sign_0 : decode cX8_sign 0 = .ok (.aload_n 0, 1) := zd_72.1
theorem dX8_sign_1 : decode cX8_sign 1 = .ok (.getfield 9, 3) := zd_72.2.1
theorem dX8_sign_4 : decode cX8_sign 4 = .ok (.ifnonnull 8, 3) := zd_72.2.2.1
theorem dX8_sign_7 : decode cX8_sign 7 = .ok (.bipush 100, 2) := zd_72.2.2.2.1
theorem dX8_sign_9 : decode cX8_sign 9 = .ok (.goto 10, 3) := zd_72.2.2.2.2.1
theorem dX8_sign_12 : decode cX8_sign 12 = .ok (.aload_n 0, 1) := zd_72.2.2.2.2.2.1
theorem dX8_sign_13 : decode cX8_sign 13 = .ok (.getfield 9, 3) := zd_72.2.2.2.2.2.2.1
theorem dX8_sign_16 : decode cX8_sign 16 = .ok (.getfield 31, 3) := zd_72.2.2.2.2.2.2.2
theorem dX8_sign_19 : decode cX8_sign 19 = .ok (.ireturn, 1) := by decide +kernel
theorem zd_73 : (decode cX8_isBehind 0 = .ok (.aload_n 0, 1)) ∧ (decode cX8_isBehind 1 = .ok (.getfield 15, 3)) ∧ (decode cX8_isBehind 4 = .ok (.aload_n 1, 1)) ∧ (decode cX8_isBehind 5 = .ok (.getfield 15, 3)) ∧ (decode cX8_isBehind 8 = .ok (.if_icmp .eq 20, 3)) ∧ (decode cX8_isBehind 11 = .ok (.aload_n 0, 1)) ∧ (decode cX8_isBehind 12 = .ok (.getfield 15, 3)) ∧ (decode cX8_isBehind 15 = .ok (.aload_n 1, 1)) := by decide +kernel
theorem dX8_isBehind_0 : decode cX8_isBehind 0 = .ok (.aload_n 0, 1) := zd_73.1
theorem dX8_isBehind_1 : decode cX8_isBehind 1 = .ok (.getfield 15, 3) := zd_73.2.1
theorem dX8_isBehind_4 : decode cX8_isBehind 4 = .ok (.aload_n 1, 1) := zd_73.2.2.1
theorem dX8_isBehind_5 : decode cX8_isBehind 5 = .ok (.getfield 15, 3) := zd_73.2.2.2.1
theorem dX8_isBehind_8 : decode cX8_isBehind 8 = .ok (.if_icmp .eq 20, 3) := zd_73.2.2.2.2.1
theorem dX8_isBehind_11 : decode cX8_isBehind 11 = .ok (.aload_n 0, 1) := zd_73.2.2.2.2.2.1
theorem dX8_isBehind_12 : decode cX8_isBehind 12 = .ok (.getfield 15, 3) := zd_73.2.2.2.2.2.2.1
theorem dX8_isBehind_15 : decode cX8_isBehind 15 = .ok (.aload_n 1, 1) := zd_73.2.2.2.2.2.2.2
theorem zd_74 : (decode cX8_isBehind 16 = .ok (.getfield 15, 3)) ∧ (decode cX8_isBehind 19 = .ok (.if_icmp .le 7, 3)) ∧ (decode cX8_isBehind 22 = .ok (.iconst 1, 1)) ∧ (decode cX8_isBehind 23 = .ok (.goto 4, 3)) ∧ (decode cX8_isBehind 26 = .ok (.iconst 0, 1)) ∧ (decode cX8_isBehind 27 = .ok (.ireturn, 1)) ∧ (decode cX8_isBehind 28 = .ok (.aload_n 0, 1)) ∧ (decode cX8_isBehind 29 = .ok (.getfield 19, 3)) := by decide +kernel
theorem dX8_isBehind_16 : decode cX8_isBehind 16 = .ok (.getfield 15, 3) := zd_74.1
theorem dX8_isBehind_19 : decode cX8_isBehind 19 = .ok (.if_icmp .le 7, 3) := zd_74.2.1
theorem dX8_isBehind_22 : decode cX8_isBehind 22 = .ok (.iconst 1, 1) := zd_74.2.2.1
theorem dX8_isBehind_23 : decode cX8_isBehind 23 = .ok (.goto 4, 3) := zd_74.2.2.2.1
theorem dX8_isBehind_26 : decode cX8_isBehind 26 = .ok (.iconst 0, 1) := zd_74.2.2.2.2.1
theorem dX8_isBehind_27 : decode cX8_isBehind 27 = .ok (.ireturn, 1) := zd_74.2.2.2.2.2.1
theorem dX8_isBehind_28 : decode cX8_isBehind 28 = .ok (.aload_n 0, 1) := zd_74.2.2.2.2.2.2.1
theorem dX8_isBehind_29 : decode cX8_isBehind 29 = .ok (.getfield 19, 3) := zd_74.2.2.2.2.2.2.2
theorem zd_75 : (decode cX8_isBehind 32 = .ok (.aload_n 1, 1)) ∧ (decode cX8_isBehind 33 = .ok (.getfield 19, 3)) ∧ (decode cX8_isBehind 36 = .ok (.if_icmp .gt 30, 3)) ∧ (decode cX8_isBehind 39 = .ok (.aload_n 0, 1)) ∧ (decode cX8_isBehind 40 = .ok (.getfield 19, 3)) ∧ (decode cX8_isBehind 43 = .ok (.aload_n 1, 1)) ∧ (decode cX8_isBehind 44 = .ok (.getfield 19, 3)) ∧ (decode cX8_isBehind 47 = .ok (.if_icmp .ne 23, 3)) := by decide +kernel
theorem dX8_isBehind_32 : decode cX8_isBehind 32 = .ok (.aload_n 1, 1) := zd_75.1
theorem dX8_isBehind_33 : decode cX8_isBehind 33 = .ok (.getfield 19, 3) := zd_75.2.1
theorem dX8_isBehind_36 : decode cX8_isBehind 36 = .ok (.if_icmp .gt 30, 3) := zd_75.2.2.1
theorem dX8_isBehind_39 : decode cX8_isBehind 39 = .ok (.aload_n 0, 1) := zd_75.2.2.2.1
theorem dX8_isBehind_40 : decode cX8_isBehind 40 = .ok (.getfield 19, 3) := zd_75.2.2.2.2.1
theorem dX8_isBehind_43 : decode cX8_isBehind 43 = .ok (.aload_n 1, 1) := zd_75.2.2.2.2.2.1
theorem dX8_isBehind_44 : decode cX8_isBehind 44 = .ok (.getfield 19, 3) := zd_75.2.2.2.2.2.2.1
theorem dX8_isBehind_47 : decode cX8_isBehind 47 = .ok (.if_icmp .ne 23, 3) := zd_75.2.2.2.2.2.2.2
theorem zd_76 : (decode cX8_isBehind 50 = .ok (.aload_n 0, 1)) ∧ (decode cX8_isBehind 51 = .ok (.getfield 22, 3)) ∧ (decode cX8_isBehind 54 = .ok (.aload_n 1, 1)) ∧ (decode cX8_isBehind 55 = .ok (.getfield 22, 3)) ∧ (decode cX8_isBehind 58 = .ok (.aload_n 1, 1)) ∧ (decode cX8_isBehind 59 = .ok (.getfield 28, 3)) ∧ (decode cX8_isBehind 62 = .ok (.iadd, 1)) ∧ (decode cX8_isBehind 63 = .ok (.if_icmp .lt 7, 3)) := by decide +kernel
theorem dX8_isBehind_50 : decode cX8_isBehind 50 = .ok (.aload_n 0, 1) := zd_76.1
theorem dX8_isBehind_51 : decode cX8_isBehind 51 = .ok (.getfield 22, 3) := zd_76.2.1
theorem dX8_isBehind_54 : decode cX8_isBehind 54 = .ok (.aload_n 1, 1) := zd_76.2.2.1
theorem dX8_isBehind_55 : decode cX8_isBehind 55 = .ok (.getfield 22, 3) := zd_76.2.2.2.1
theorem dX8_isBehind_58 : decode cX8_isBehind 58 = .ok (.aload_n 1, 1) := zd_76.2.2.2.2.1
theorem dX8_isBehind_59 : decode cX8_isBehind 59 = .ok (.getfield 28, 3) := zd_76.2.2.2.2.2.1
theorem dX8_isBehind_62 : decode cX8_isBehind 62 = .ok (.iadd, 1) := zd_76.2.2.2.2.2.2.1
theorem dX8_isBehind_63 : decode cX8_isBehind 63 = .ok (.if_icmp .lt 7, 3) := zd_76.2.2.2.2.2.2.2
theorem zd_77 : (decode cX8_isBehind 66 = .ok (.iconst 1, 1)) ∧ (decode cX8_isBehind 67 = .ok (.goto 4, 3)) ∧ (decode cX8_isBehind 70 = .ok (.iconst 0, 1)) ∧ (decode cX8_isBehind 71 = .ok (.ireturn, 1)) := by decide +kernel
theorem dX8_isBehind_66 : decode cX8_isBehind 66 = .ok (.iconst 1, 1) := zd_77.1
theorem dX8_isBehind_67 : decode cX8_isBehind 67 = .ok (.goto 4, 3) := zd_77.2.1
theorem dX8_isBehind_70 : decode cX8_isBehind 70 = .ok (.iconst 0, 1) := zd_77.2.2.1
theorem dX8_isBehind_71 : decode cX8_isBehind 71 = .ok (.ireturn, 1) := zd_77.2.2.2
theorem zd_78 : (decode cX8_startsWith 0 = .ok (.aload_n 0, 1)) ∧ (decode cX8_startsWith 1 = .ok (.getfield 15, 3)) ∧ (decode cX8_startsWith 4 = .ok (.aload_n 1, 1)) ∧ (decode cX8_startsWith 5 = .ok (.getfield 15, 3)) ∧ (decode cX8_startsWith 8 = .ok (.if_icmp .ne 29, 3)) ∧ (decode cX8_startsWith 11 = .ok (.aload_n 0, 1)) ∧ (decode cX8_startsWith 12 = .ok (.getfield 19, 3)) ∧ (decode cX8_startsWith 15 = .ok (.aload_n 1, 1)) := by decide +kernel
theorem dX8_startsWith_0 : decode cX8_startsWith 0 = .ok (.aload_n 0, 1) := zd_78.1
theorem dX8_startsWith_1 : decode cX8_startsWith 1 = .ok (.getfield 15, 3) := zd_78.2.1
theorem dX8_startsWith_4 : decode cX8_startsWith 4 = .ok (.aload_n 1, 1) := zd_78.2.2.1
theorem dX8_startsWith_5 : decode cX8_startsWith 5 = .ok (.getfield 15, 3) := zd_78.2.2.2.1
theorem dX8_startsWith_8 : decode cX8_startsWith 8 = .ok (.if_icmp .ne 29, 3) := zd_78.2.2.2.2.1
theorem dX8_startsWith_11 : decode cX8_startsWith 11 = .ok (.aload_n 0, 1) := zd_78.2.2.2.2.2.1
theorem dX8_startsWith_12 : decode cX8_startsWith 12 = .ok (.getfield 19, 3) := zd_78.2.2.2.2.2.2.1
theorem dX8_startsWith_15 : decode cX8_startsWith 15 = .ok (.aload_n 1, 1) := zd_78.2.2.2.2.2.2.2
theorem zd_79 : (decode cX8_startsWith 16 = .ok (.getfield 19, 3)) ∧ (decode cX8_startsWith 19 = .ok (.if_icmp .ne 18, 3)) ∧ (decode cX8_startsWith 22 = .ok (.aload_n 0, 1)) ∧ (decode cX8_startsWith 23 = .ok (.getfield 22, 3)) ∧ (decode cX8_startsWith 26 = .ok (.aload_n 1, 1)) ∧ (decode cX8_startsWith 27 = .ok (.getfield 22, 3)) ∧ (decode cX8_startsWith 30 = .ok (.if_icmp .ne 7, 3)) ∧ (decode cX8_startsWith 33 = .ok (.iconst 1, 1)) := by decide +kernel
theorem dX8_startsWith_16 : decode cX8_startsWith 16 = .ok (.getfield 19, 3) := zd_79.1
theorem dX8_startsWith_19 : decode cX8_startsWith 19 = .ok (.if_icmp .ne 18, 3) := zd_79.2.1
theorem dX8_startsWith_22 : decode cX8_startsWith 22 = .ok (.aload_n 0, 1) := zd_79.2.2.1
theorem dX8_startsWith_23 : decode cX8_startsWith 23 = .ok (.getfield 22, 3) := zd_79.2.2.2.1
theorem dX8_startsWith_26 : decode cX8_startsWith 26 = .ok (.aload_n 1, 1) := zd_79.2.2.2.2.1
theorem dX8_startsWith_27 : decode cX8_startsWith 27 = .ok (.getfield 22, 3) := zd_79.2.2.2.2.2.1
theorem dX8_startsWith_30 : decode cX8_startsWith 30 = .ok (.if_icmp .ne 7, 3) := zd_79.2.2.2.2.2.2.1
theorem dX8_startsWith_33 : decode cX8_startsWith 33 = .ok (.iconst 1, 1) := zd_79.2.2.2.2.2.2.2
theorem zd_80 : (decode cX8_startsWith 34 = .ok (.goto 4, 3)) ∧ (decode cX8_startsWith 37 = .ok (.iconst 0, 1)) ∧ (decode cX8_startsWith 38 = .ok (.ireturn, 1)) := by decide +kernel
theorem dX8_startsWith_34 : decode cX8_startsWith 34 = .ok (.goto 4, 3) := zd_80.1
theorem dX8_startsWith_37 : decode cX8_startsWith 37 = .ok (.iconst 0, 1) := zd_80.2.1
theorem dX8_startsWith_38 : decode cX8_startsWith 38 = .ok (.ireturn, 1) := zd_80.2.2
theorem zd_81 : (decode cX8_isBeside 0 = .ok (.aload_n 0, 1)) ∧ (decode cX8_isBeside 1 = .ok (.getfield 19, 3)) ∧ (decode cX8_isBeside 4 = .ok (.aload_n 0, 1)) ∧ (decode cX8_isBeside 5 = .ok (.getfield 25, 3)) ∧ (decode cX8_isBeside 8 = .ok (.iadd, 1)) ∧ (decode cX8_isBeside 9 = .ok (.aload_n 1, 1)) ∧ (decode cX8_isBeside 10 = .ok (.getfield 19, 3)) ∧ (decode cX8_isBeside 13 = .ok (.if_icmp .eq 19, 3)) := by decide +kernel
theorem dX8_isBeside_0 : decode cX8_isBeside 0 = .ok (.aload_n 0, 1) := zd_81.1
theorem dX8_isBeside_1 : decode cX8_isBeside 1 = .ok (.getfield 19, 3) := zd_81.2.1
theorem dX8_isBeside_4 : decode cX8_isBeside 4 = .ok (.aload_n 0, 1) := zd_81.2.2.1
theorem dX8_isBeside_5 : decode cX8_isBeside 5 = .ok (.getfield 25, 3) := zd_81.2.2.2.1
theorem dX8_isBeside_8 : decode cX8_isBeside 8 = .ok (.iadd, 1) := zd_81.2.2.2.2.1
theorem dX8_isBeside_9 : decode cX8_isBeside 9 = .ok (.aload_n 1, 1) := zd_81.2.2.2.2.2.1
theorem dX8_isBeside_10 : decode cX8_isBeside 10 = .ok (.getfield 19, 3) := zd_81.2.2.2.2.2.2.1
theorem dX8_isBeside_13 : decode cX8_isBeside 13 = .ok (.if_icmp .eq 19, 3) := zd_81.2.2.2.2.2.2.2
theorem zd_82 : (decode cX8_isBeside 16 = .ok (.aload_n 1, 1)) ∧ (decode cX8_isBeside 17 = .ok (.getfield 19, 3)) ∧ (decode cX8_isBeside 20 = .ok (.aload_n 1, 1)) ∧ (decode cX8_isBeside 21 = .ok (.getfield 25, 3)) ∧ (decode cX8_isBeside 24 = .ok (.iadd, 1)) ∧ (decode cX8_isBeside 25 = .ok (.aload_n 0, 1)) ∧ (decode cX8_isBeside 26 = .ok (.getfield 19, 3)) ∧ (decode cX8_isBeside 29 = .ok (.if_icmp .ne 7, 3)) := by decide +kernel
theorem dX8_isBeside_16 : decode cX8_isBeside 16 = .ok (.aload_n 1, 1) := zd_82.1
theorem dX8_isBeside_17 : decode cX8_isBeside 17 = .ok (.getfield 19, 3) := zd_82.2.1
theorem dX8_isBeside_20 : decode cX8_isBeside 20 = .ok (.aload_n 1, 1) := zd_82.2.2.1
theorem dX8_isBeside_21 : decode cX8_isBeside 21 = .ok (.getfield 25, 3) := zd_82.2.2.2.1
theorem dX8_isBeside_24 : decode cX8_isBeside 24 = .ok (.iadd, 1) := zd_82.2.2.2.2.1
theorem dX8_isBeside_25 : decode cX8_isBeside 25 = .ok (.aload_n 0, 1) := zd_82.2.2.2.2.2.1
theorem dX8_isBeside_26 : decode cX8_isBeside 26 = .ok (.getfield 19, 3) := zd_82.2.2.2.2.2.2.1
theorem dX8_isBeside_29 : decode cX8_isBeside 29 = .ok (.if_icmp .ne 7, 3) := zd_82.2.2.2.2.2.2.2
theorem zd_83 : (decode cX8_isBeside 32 = .ok (.iconst 1, 1)) ∧ (decode cX8_isBeside 33 = .ok (.goto 4, 3)) ∧ (decode cX8_isBeside 36 = .ok (.iconst 0, 1)) ∧ (decode cX8_isBeside 37 = .ok (.istore_n 2, 1)) ∧ (decode cX8_isBeside 38 = .ok (.aload_n 0, 1)) ∧ (decode cX8_isBeside 39 = .ok (.getfield 15, 3)) ∧ (decode cX8_isBeside 42 = .ok (.aload_n 1, 1)) ∧ (decode cX8_isBeside 43 = .ok (.getfield 15, 3)) := by decide +kernel
theorem dX8_isBeside_32 : decode cX8_isBeside 32 = .ok (.iconst 1, 1) := zd_83.1
theorem dX8_isBeside_33 : decode cX8_isBeside 33 = .ok (.goto 4, 3) := zd_83.2.1
theorem dX8_isBeside_36 : decode cX8_isBeside 36 = .ok (.iconst 0, 1) := zd_83.2.2.1
theorem dX8_isBeside_37 : decode cX8_isBeside 37 = .ok (.istore_n 2, 1) := zd_83.2.2.2.1
theorem dX8_isBeside_38 : decode cX8_isBeside 38 = .ok (.aload_n 0, 1) := zd_83.2.2.2.2.1
theorem dX8_isBeside_39 : decode cX8_isBeside 39 = .ok (.getfield 15, 3) := zd_83.2.2.2.2.2.1
theorem dX8_isBeside_42 : decode cX8_isBeside 42 = .ok (.aload_n 1, 1) := zd_83.2.2.2.2.2.2.1
theorem dX8_isBeside_43 : decode cX8_isBeside 43 = .ok (.getfield 15, 3) := zd_83.2.2.2.2.2.2.2
theorem zd_84 : (decode cX8_isBeside 46 = .ok (.if_icmp .ne 43, 3)) ∧ (decode cX8_isBeside 49 = .ok (.iload_n 2, 1)) ∧ (decode cX8_isBeside 50 = .ok (.ifCond .eq 39, 3)) ∧ (decode cX8_isBeside 53 = .ok (.aload_n 0, 1)) ∧ (decode cX8_isBeside 54 = .ok (.getfield 22, 3)) ∧ (decode cX8_isBeside 57 = .ok (.aload_n 1, 1)) ∧ (decode cX8_isBeside 58 = .ok (.getfield 22, 3)) ∧ (decode cX8_isBeside 61 = .ok (.aload_n 1, 1)) := by decide +kernel
theorem dX8_isBeside_46 : decode cX8_isBeside 46 = .ok (.if_icmp .ne 43, 3) := zd_84.1
theorem dX8_isBeside_49 : decode cX8_isBeside 49 = .ok (.iload_n 2, 1) := zd_84.2.1
theorem dX8_isBeside_50 : decode cX8_isBeside 50 = .ok (.ifCond .eq 39, 3) := zd_84.2.2.1
theorem dX8_isBeside_53 : decode cX8_isBeside 53 = .ok (.aload_n 0, 1) := zd_84.2.2.2.1
theorem dX8_isBeside_54 : decode cX8_isBeside 54 = .ok (.getfield 22, 3) := zd_84.2.2.2.2.1
theorem dX8_isBeside_57 : decode cX8_isBeside 57 = .ok (.aload_n 1, 1) := zd_84.2.2.2.2.2.1
theorem dX8_isBeside_58 : decode cX8_isBeside 58 = .ok (.getfield 22, 3) := zd_84.2.2.2.2.2.2.1
theorem dX8_isBeside_61 : decode cX8_isBeside 61 = .ok (.aload_n 1, 1) := zd_84.2.2.2.2.2.2.2
theorem zd_85 : (decode cX8_isBeside 62 = .ok (.getfield 28, 3)) ∧ (decode cX8_isBeside 65 = .ok (.iadd, 1)) ∧ (decode cX8_isBeside 66 = .ok (.if_icmp .ge 23, 3)) ∧ (decode cX8_isBeside 69 = .ok (.aload_n 1, 1)) ∧ (decode cX8_isBeside 70 = .ok (.getfield 22, 3)) ∧ (decode cX8_isBeside 73 = .ok (.aload_n 0, 1)) ∧ (decode cX8_isBeside 74 = .ok (.getfield 22, 3)) ∧ (decode cX8_isBeside 77 = .ok (.aload_n 0, 1)) := by decide +kernel
theorem dX8_isBeside_62 : decode cX8_isBeside 62 = .ok (.getfield 28, 3) := zd_85.1
theorem dX8_isBeside_65 : decode cX8_isBeside 65 = .ok (.iadd, 1) := zd_85.2.1
theorem dX8_isBeside_66 : decode cX8_isBeside 66 = .ok (.if_icmp .ge 23, 3) := zd_85.2.2.1
theorem dX8_isBeside_69 : decode cX8_isBeside 69 = .ok (.aload_n 1, 1) := zd_85.2.2.2.1
theorem dX8_isBeside_70 : decode cX8_isBeside 70 = .ok (.getfield 22, 3) := zd_85.2.2.2.2.1
theorem dX8_isBeside_73 : decode cX8_isBeside 73 = .ok (.aload_n 0, 1) := zd_85.2.2.2.2.2.1
theorem dX8_isBeside_74 : decode cX8_isBeside 74 = .ok (.getfield 22, 3) := zd_85.2.2.2.2.2.2.1
theorem dX8_isBeside_77 : decode cX8_isBeside 77 = .ok (.aload_n 0, 1) := zd_85.2.2.2.2.2.2.2
theorem zd_86 : (decode cX8_isBeside 78 = .ok (.getfield 28, 3)) ∧ (decode cX8_isBeside 81 = .ok (.iadd, 1)) ∧ (decode cX8_isBeside 82 = .ok (.if_icmp .ge 7, 3)) ∧ (decode cX8_isBeside 85 = .ok (.iconst 1, 1)) ∧ (decode cX8_isBeside 86 = .ok (.goto 4, 3)) ∧ (decode cX8_isBeside 89 = .ok (.iconst 0, 1)) ∧ (decode cX8_isBeside 90 = .ok (.ireturn, 1)) := by decide +kernel
theorem dX8_isBeside_78 : decode cX8_isBeside 78 = .ok (.getfield 28, 3) := zd_86.1
theorem dX8_isBeside_81 : decode cX8_isBeside 81 = .ok (.iadd, 1) := zd_86.2.1
theorem dX8_isBeside_82 : decode cX8_isBeside 82 = .ok (.if_icmp .ge 7, 3) := zd_86.2.2.1
theorem dX8_isBeside_85 : decode cX8_isBeside 85 = .ok (.iconst 1, 1) := zd_86.2.2.2.1
theorem dX8_isBeside_86 : decode cX8_isBeside 86 = .ok (.goto 4, 3) := zd_86.2.2.2.2.1
theorem dX8_isBeside_89 : decode cX8_isBeside 89 = .ok (.iconst 0, 1) := zd_86.2.2.2.2.2.1
theorem dX8_isBeside_90 : decode cX8_isBeside 90 = .ok (.ireturn, 1) := zd_86.2.2.2.2.2.2
theorem zd_87 : (decode cX8_isOverOrUnder 0 = .ok (.aload_n 0, 1)) ∧ (decode cX8_isOverOrUnder 1 = .ok (.getfield 22, 3)) ∧ (decode cX8_isOverOrUnder 4 = .ok (.aload_n 0, 1)) ∧ (decode cX8_isOverOrUnder 5 = .ok (.getfield 28, 3)) ∧ (decode cX8_isOverOrUnder 8 = .ok (.iadd, 1)) ∧ (decode cX8_isOverOrUnder 9 = .ok (.aload_n 1, 1)) ∧ (decode cX8_isOverOrUnder 10 = .ok (.getfield 22, 3)) ∧ (decode cX8_isOverOrUnder 13 = .ok (.if_icmp .eq 19, 3)) := by decide +kernel
theorem dX8_isOverOrUnder_0 : decode cX8_isOverOrUnder 0 = .ok (.aload_n 0, 1) := zd_87.1
theorem dX8_isOverOrUnder_1 : decode cX8_isOverOrUnder 1 = .ok (.getfield 22, 3) := zd_87.2.1
theorem dX8_isOverOrUnder_4 : decode cX8_isOverOrUnder 4 = .ok (.aload_n 0, 1) := zd_87.2.2.1
theorem dX8_isOverOrUnder_5 : decode cX8_isOverOrUnder 5 = .ok (.getfield 28, 3) := zd_87.2.2.2.1
theorem dX8_isOverOrUnder_8 : decode cX8_isOverOrUnder 8 = .ok (.iadd, 1) := zd_87.2.2.2.2.1
theorem dX8_isOverOrUnder_9 : decode cX8_isOverOrUnder 9 = .ok (.aload_n 1, 1) := zd_87.2.2.2.2.2.1
theorem dX8_isOverOrUnder_10 : decode cX8_isOverOrUnder 10 = .ok (.getfield 22, 3) := zd_87.2.2.2.2.2.2.1
theorem dX8_isOverOrUnder_13 : decode cX8_isOverOrUnder 13 = .ok (.if_icmp .eq 19, 3) := zd_87.2.2.2.2.2.2.2
theorem zd_88 : (decode cX8_isOverOrUnder 16 = .ok (.aload_n 1, 1)) ∧ (decode cX8_isOverOrUnder 17 = .ok (.getfield 22, 3)) ∧ (decode cX8_isOverOrUnder 20 = .ok (.aload_n 1, 1)) ∧ (decode cX8_isOverOrUnder 21 = .ok (.getfield 28, 3)) ∧ (decode cX8_isOverOrUnder 24 = .ok (.iadd, 1)) ∧ (decode cX8_isOverOrUnder 25 = .ok (.aload_n 0, 1)) ∧ (decode cX8_isOverOrUnder 26 = .ok (.getfield 22, 3)) ∧ (decode cX8_isOverOrUnder 29 = .ok (.if_icmp .ne 7, 3)) := by decide +kernel
theorem dX8_isOverOrUnder_16 : decode cX8_isOverOrUnder 16 = .ok (.aload_n 1, 1) := zd_88.1
theorem dX8_isOverOrUnder_17 : decode cX8_isOverOrUnder 17 = .ok (.getfield 22, 3) := zd_88.2.1
theorem dX8_isOverOrUnder_20 : decode cX8_isOverOrUnder 20 = .ok (.aload_n 1, 1) := zd_88.2.2.1
theorem dX8_isOverOrUnder_21 : decode cX8_isOverOrUnder 21 = .ok (.getfield 28, 3) := zd_88.2.2.2.1
theorem dX8_isOverOrUnder_24 : decode cX8_isOverOrUnder 24 = .ok (.iadd, 1) := zd_88.2.2.2.2.1
theorem dX8_isOverOrUnder_25 : decode cX8_isOverOrUnder 25 = .ok (.aload_n 0, 1) := zd_88.2.2.2.2.2.1
theorem dX8_isOverOrUnder_26 : decode cX8_isOverOrUnder 26 = .ok (.getfield 22, 3) := zd_88.2.2.2.2.2.2.1
theorem dX8_isOverOrUnder_29 : decode cX8_isOverOrUnder 29 = .ok (.if_icmp .ne 7, 3) := zd_88.2.2.2.2.2.2.2
theorem zd_89 : (decode cX8_isOverOrUnder 32 = .ok (.iconst 1, 1)) ∧ (decode cX8_isOverOrUnder 33 = .ok (.goto 4, 3)) ∧ (decode cX8_isOverOrUnder 36 = .ok (.iconst 0, 1)) ∧ (decode cX8_isOverOrUnder 37 = .ok (.istore_n 2, 1)) ∧ (decode cX8_isOverOrUnder 38 = .ok (.aload_n 0, 1)) ∧ (decode cX8_isOverOrUnder 39 = .ok (.getfield 15, 3)) ∧ (decode cX8_isOverOrUnder 42 = .ok (.aload_n 1, 1)) ∧ (decode cX8_isOverOrUnder 43 = .ok (.getfield 15, 3)) := by decide +kernel
theorem dX8_isOverOrUnder_32 : decode cX8_isOverOrUnder 32 = .ok (.iconst 1, 1) := zd_89.1
theorem dX8_isOverOrUnder_33 : decode cX8_isOverOrUnder 33 = .ok (.goto 4, 3) := zd_89.2.1
theorem dX8_isOverOrUnder_36 : decode cX8_isOverOrUnder 36 = .ok (.iconst 0, 1) := zd_89.2.2.1
theorem dX8_isOverOrUnder_37 : decode cX8_isOverOrUnder 37 = .ok (.istore_n 2, 1) := zd_89.2.2.2.1
theorem dX8_isOverOrUnder_38 : decode cX8_isOverOrUnder 38 = .ok (.aload_n 0, 1) := zd_89.2.2.2.2.1
theorem dX8_isOverOrUnder_39 : decode cX8_isOverOrUnder 39 = .ok (.getfield 15, 3) := zd_89.2.2.2.2.2.1
theorem dX8_isOverOrUnder_42 : decode cX8_isOverOrUnder 42 = .ok (.aload_n 1, 1) := zd_89.2.2.2.2.2.2.1
theorem dX8_isOverOrUnder_43 : decode cX8_isOverOrUnder 43 = .ok (.getfield 15, 3) := zd_89.2.2.2.2.2.2.2
theorem zd_90 : (decode cX8_isOverOrUnder 46 = .ok (.if_icmp .ne 43, 3)) ∧ (decode cX8_isOverOrUnder 49 = .ok (.iload_n 2, 1)) ∧ (decode cX8_isOverOrUnder 50 = .ok (.ifCond .eq 39, 3)) ∧ (decode cX8_isOverOrUnder 53 = .ok (.aload_n 0, 1)) ∧ (decode cX8_isOverOrUnder 54 = .ok (.getfield 19, 3)) ∧ (decode cX8_isOverOrUnder 57 = .ok (.aload_n 1, 1)) ∧ (decode cX8_isOverOrUnder 58 = .ok (.getfield 19, 3)) ∧ (decode cX8_isOverOrUnder 61 = .ok (.aload_n 1, 1)) := by decide +kernel
theorem dX8_isOverOrUnder_46 : decode cX8_isOverOrUnder 46 = .ok (.if_icmp .ne 43, 3) := zd_90.1
theorem dX8_isOverOrUnder_49 : decode cX8_isOverOrUnder 49 = .ok (.iload_n 2, 1) := zd_90.2.1
theorem dX8_isOverOrUnder_50 : decode cX8_isOverOrUnder 50 = .ok (.ifCond .eq 39, 3) := zd_90.2.2.1
theorem dX8_isOverOrUnder_53 : decode cX8_isOverOrUnder 53 = .ok (.aload_n 0, 1) := zd_90.2.2.2.1
theorem dX8_isOverOrUnder_54 : decode cX8_isOverOrUnder 54 = .ok (.getfield 19, 3) := zd_90.2.2.2.2.1
theorem dX8_isOverOrUnder_57 : decode cX8_isOverOrUnder 57 = .ok (.aload_n 1, 1) := zd_90.2.2.2.2.2.1
theorem dX8_isOverOrUnder_58 : decode cX8_isOverOrUnder 58 = .ok (.getfield 19, 3) := zd_90.2.2.2.2.2.2.1
theorem dX8_isOverOrUnder_61 : decode cX8_isOverOrUnder 61 = .ok (.aload_n 1, 1) := zd_90.2.2.2.2.2.2.2
theorem zd_91 : (decode cX8_isOverOrUnder 62 = .ok (.getfield 25, 3)) ∧ (decode cX8_isOverOrUnder 65 = .ok (.iadd, 1)) ∧ (decode cX8_isOverOrUnder 66 = .ok (.if_icmp .ge 23, 3)) ∧ (decode cX8_isOverOrUnder 69 = .ok (.aload_n 1, 1)) ∧ (decode cX8_isOverOrUnder 70 = .ok (.getfield 19, 3)) ∧ (decode cX8_isOverOrUnder 73 = .ok (.aload_n 0, 1)) ∧ (decode cX8_isOverOrUnder 74 = .ok (.getfield 19, 3)) ∧ (decode cX8_isOverOrUnder 77 = .ok (.aload_n 0, 1)) := by decide +kernel
theorem dX8_isOverOrUnder_62 : decode cX8_isOverOrUnder 62 = .ok (.getfield 25, 3) := zd_91.1
theorem dX8_isOverOrUnder_65 : decode cX8_isOverOrUnder 65 = .ok (.iadd, 1) := zd_91.2.1
theorem dX8_isOverOrUnder_66 : decode cX8_isOverOrUnder 66 = .ok (.if_icmp .ge 23, 3) := zd_91.2.2.1
theorem dX8_isOverOrUnder_69 : decode cX8_isOverOrUnder 69 = .ok (.aload_n 1, 1) := zd_91.2.2.2.1
theorem dX8_isOverOrUnder_70 : decode cX8_isOverOrUnder 70 = .ok (.getfield 19, 3) := zd_91.2.2.2.2.1
theorem dX8_isOverOrUnder_73 : decode cX8_isOverOrUnder 73 = .ok (.aload_n 0, 1) := zd_91.2.2.2.2.2.1
theorem dX8_isOverOrUnder_74 : decode cX8_isOverOrUnder 74 = .ok (.getfield 19, 3) := zd_91.2.2.2.2.2.2.1
theorem dX8_isOverOrUnder_77 : decode cX8_isOverOrUnder 77 = .ok (.aload_n 0, 1) := zd_91.2.2.2.2.2.2.2
theorem zd_92 : (decode cX8_isOverOrUnder 78 = .ok (.getfield 25, 3)) ∧ (decode cX8_isOverOrUnder 81 = .ok (.iadd, 1)) ∧ (decode cX8_isOverOrUnder 82 = .ok (.if_icmp .ge 7, 3)) ∧ (decode cX8_isOverOrUnder 85 = .ok (.iconst 1, 1)) ∧ (decode cX8_isOverOrUnder 86 = .ok (.goto 4, 3)) ∧ (decode cX8_isOverOrUnder 89 = .ok (.iconst 0, 1)) ∧ (decode cX8_isOverOrUnder 90 = .ok (.ireturn, 1)) := by decide +kernel
theorem dX8_isOverOrUnder_78 : decode cX8_isOverOrUnder 78 = .ok (.getfield 25, 3) := zd_92.1
theorem dX8_isOverOrUnder_81 : decode cX8_isOverOrUnder 81 = .ok (.iadd, 1) := zd_92.2.1
theorem dX8_isOverOrUnder_82 : decode cX8_isOverOrUnder 82 = .ok (.if_icmp .ge 7, 3) := zd_92.2.2.1
theorem dX8_isOverOrUnder_85 : decode cX8_isOverOrUnder 85 = .ok (.iconst 1, 1) := zd_92.2.2.2.1
theorem dX8_isOverOrUnder_86 : decode cX8_isOverOrUnder 86 = .ok (.goto 4, 3) := zd_92.2.2.2.2.1
theorem dX8_isOverOrUnder_89 : decode cX8_isOverOrUnder 89 = .ok (.iconst 0, 1) := zd_92.2.2.2.2.2.1
theorem dX8_isOverOrUnder_90 : decode cX8_isOverOrUnder 90 = .ok (.ireturn, 1) := zd_92.2.2.2.2.2.2
theorem zd_93 : (decode cX9_init 0 = .ok (.aload_n 0, 1)) ∧ (decode cX9_init 1 = .ok (.invokespecial 3, 3)) ∧ (decode cX9_init 4 = .ok (.aload_n 0, 1)) ∧ (decode cX9_init 5 = .ok (.bipush 8, 2)) ∧ (decode cX9_init 7 = .ok (.newarray .int, 2)) ∧ (decode cX9_init 9 = .ok (.putfield 9, 3)) ∧ (decode cX9_init 12 = .ok (.aload_n 0, 1)) ∧ (decode cX9_init 13 = .ok (.sipush 480, 3)) := by decide +kernel
theorem dX9_init_0 : decode cX9_init 0 = .ok (.aload_n 0, 1) := zd_93.1
theorem dX9_init_1 : decode cX9_init 1 = .ok (.invokespecial 3, 3) := zd_93.2.1
theorem dX9_init_4 : decode cX9_init 4 = .ok (.aload_n 0, 1) := zd_93.2.2.1
theorem dX9_init_5 : decode cX9_init 5 = .ok (.bipush 8, 2) := zd_93.2.2.2.1
theorem dX9_init_7 : decode cX9_init 7 = .ok (.newarray .int, 2) := zd_93.2.2.2.2.1
theorem dX9_init_9 : decode cX9_init 9 = .ok (.putfield 9, 3) := zd_93.2.2.2.2.2.1
theorem dX9_init_12 : decode cX9_init 12 = .ok (.aload_n 0, 1) := zd_93.2.2.2.2.2.2.1
theorem dX9_init_13 : decode cX9_init 13 = .ok (.sipush 480, 3) := zd_93.2.2.2.2.2.2.2
theorem zd_94 : (decode cX9_init 16 = .ok (.newarray .int, 2)) ∧ (decode cX9_init 18 = .ok (.putfield 15, 3)) ∧ (decode cX9_init 21 = .ok (.aload_n 0, 1)) ∧ (decode cX9_init 22 = .ok (.bipush 100, 2)) ∧ (decode cX9_init 24 = .ok (.putfield 18, 3)) ∧ (decode cX9_init 27 = .ok (.aload_n 0, 1)) ∧ (decode cX9_init 28 = .ok (.iconst (-1), 1)) ∧ (decode cX9_init 29 = .ok (.putfield 22, 3)) := by decide +kernel
theorem dX9_init_16 : decode cX9_init 16 = .ok (.newarray .int, 2) := zd_94.1
theorem dX9_init_18 : decode cX9_init 18 = .ok (.putfield 15, 3) := zd_94.2.1
theorem dX9_init_21 : decode cX9_init 21 = .ok (.aload_n 0, 1) := zd_94.2.2.1
theorem dX9_init_22 : decode cX9_init 22 = .ok (.bipush 100, 2) := zd_94.2.2.2.1
theorem dX9_init_24 : decode cX9_init 24 = .ok (.putfield 18, 3) := zd_94.2.2.2.2.1
theorem dX9_init_27 : decode cX9_init 27 = .ok (.aload_n 0, 1) := zd_94.2.2.2.2.2.1
theorem dX9_init_28 : decode cX9_init 28 = .ok (.iconst (-1), 1) := zd_94.2.2.2.2.2.2.1
theorem dX9_init_29 : decode cX9_init 29 = .ok (.putfield 22, 3) := zd_94.2.2.2.2.2.2.2
theorem zd_95 : (decode cX9_init 32 = .ok (.aload_n 0, 1)) ∧ (decode cX9_init 33 = .ok (.iconst (-1), 1)) ∧ (decode cX9_init 34 = .ok (.putfield 25, 3)) ∧ (decode cX9_init 37 = .ok (.aload_n 0, 1)) ∧ (decode cX9_init 38 = .ok (.getfield 15, 3)) ∧ (decode cX9_init 41 = .ok (.bipush (-2), 2)) ∧ (decode cX9_init 43 = .ok (.invokestatic 28, 3)) ∧ (decode cX9_init 46 = .ok (.return_, 1)) := by decide +kernel
theorem dX9_init_32 : decode cX9_init 32 = .ok (.aload_n 0, 1) := zd_95.1
theorem dX9_init_33 : decode cX9_init 33 = .ok (.iconst (-1), 1) := zd_95.2.1
theorem dX9_init_34 : decode cX9_init 34 = .ok (.putfield 25, 3) := zd_95.2.2.1
theorem dX9_init_37 : decode cX9_init 37 = .ok (.aload_n 0, 1) := zd_95.2.2.2.1
theorem dX9_init_38 : decode cX9_init 38 = .ok (.getfield 15, 3) := zd_95.2.2.2.2.1
theorem dX9_init_41 : decode cX9_init 41 = .ok (.bipush (-2), 2) := zd_95.2.2.2.2.2.1
theorem dX9_init_43 : decode cX9_init 43 = .ok (.invokestatic 28, 3) := zd_95.2.2.2.2.2.2.1
theorem dX9_init_46 : decode cX9_init 46 = .ok (.return_, 1) := zd_95.2.2.2.2.2.2.2
theorem zd_96 : (decode cX9_at 0 = .ok (.iload_n 1, 1)) ∧ (decode cX9_at 1 = .ok (.invokestatic 34, 3)) ∧ (decode cX9_at 4 = .ok (.ifCond .eq 19, 3)) ∧ (decode cX9_at 7 = .ok (.iload_n 2, 1)) ∧ (decode cX9_at 8 = .ok (.iconst 0, 1)) ∧ (decode cX9_at 9 = .ok (.aload_n 0, 1)) ∧ (decode cX9_at 10 = .ok (.getfield 9, 3)) ∧ (decode cX9_at 13 = .ok (.iload_n 1, 1)) := by decide +kernel
theorem dX9_at_0 : decode cX9_at 0 = .ok (.iload_n 1, 1) := zd_96.1
theorem dX9_at_1 : decode cX9_at 1 = .ok (.invokestatic 34, 3) := zd_96.2.1
theorem dX9_at_4 : decode cX9_at 4 = .ok (.ifCond .eq 19, 3) := zd_96.2.2.1
theorem dX9_at_7 : decode cX9_at 7 = .ok (.iload_n 2, 1) := zd_96.2.2.2.1
theorem dX9_at_8 : decode cX9_at 8 = .ok (.iconst 0, 1) := zd_96.2.2.2.2.1
theorem dX9_at_9 : decode cX9_at 9 = .ok (.aload_n 0, 1) := zd_96.2.2.2.2.2.1
theorem dX9_at_10 : decode cX9_at 10 = .ok (.getfield 9, 3) := zd_96.2.2.2.2.2.2.1
theorem dX9_at_13 : decode cX9_at 13 = .ok (.iload_n 1, 1) := zd_96.2.2.2.2.2.2.2
theorem zd_97 : (decode cX9_at 14 = .ok (.iaload, 1)) ∧ (decode cX9_at 15 = .ok (.iconst 1, 1)) ∧ (decode cX9_at 16 = .ok (.isub, 1)) ∧ (decode cX9_at 17 = .ok (.invokestatic 38, 3)) ∧ (decode cX9_at 20 = .ok (.ifCond .ne 5, 3)) ∧ (decode cX9_at 23 = .ok (.iconst (-1), 1)) ∧ (decode cX9_at 24 = .ok (.ireturn, 1)) ∧ (decode cX9_at 25 = .ok (.aload_n 0, 1)) := by decide +kernel
theorem dX9_at_14 : decode cX9_at 14 = .ok (.iaload, 1) := zd_97.1
theorem dX9_at_15 : decode cX9_at 15 = .ok (.iconst 1, 1) := zd_97.2.1
theorem dX9_at_16 : decode cX9_at 16 = .ok (.isub, 1) := zd_97.2.2.1
theorem dX9_at_17 : decode cX9_at 17 = .ok (.invokestatic 38, 3) := zd_97.2.2.2.1
theorem dX9_at_20 : decode cX9_at 20 = .ok (.ifCond .ne 5, 3) := zd_97.2.2.2.2.1
theorem dX9_at_23 : decode cX9_at 23 = .ok (.iconst (-1), 1) := zd_97.2.2.2.2.2.1
theorem dX9_at_24 : decode cX9_at 24 = .ok (.ireturn, 1) := zd_97.2.2.2.2.2.2.1
theorem dX9_at_25 : decode cX9_at 25 = .ok (.aload_n 0, 1) := zd_97.2.2.2.2.2.2.2
theorem zd_98 : (decode cX9_at 26 = .ok (.getfield 15, 3)) ∧ (decode cX9_at 29 = .ok (.iload_n 1, 1)) ∧ (decode cX9_at 30 = .ok (.bipush 60, 2)) ∧ (decode cX9_at 32 = .ok (.imul, 1)) ∧ (decode cX9_at 33 = .ok (.iload_n 2, 1)) ∧ (decode cX9_at 34 = .ok (.iadd, 1)) ∧ (decode cX9_at 35 = .ok (.iaload, 1)) ∧ (decode cX9_at 36 = .ok (.ireturn, 1)) := by decide +kernel
theorem dX9_at_26 : decode cX9_at 26 = .ok (.getfield 15, 3) := zd_98.1
theorem dX9_at_29 : decode cX9_at 29 = .ok (.iload_n 1, 1) := zd_98.2.1
theorem dX9_at_30 : decode cX9_at 30 = .ok (.bipush 60, 2) := zd_98.2.2.1
theorem dX9_at_32 : decode cX9_at 32 = .ok (.imul, 1) := zd_98.2.2.2.1
theorem dX9_at_33 : decode cX9_at 33 = .ok (.iload_n 2, 1) := zd_98.2.2.2.2.1
theorem dX9_at_34 : decode cX9_at 34 = .ok (.iadd, 1) := zd_98.2.2.2.2.2.1
theorem dX9_at_35 : decode cX9_at 35 = .ok (.iaload, 1) := zd_98.2.2.2.2.2.2.1
theorem dX9_at_36 : decode cX9_at 36 = .ok (.ireturn, 1) := zd_98.2.2.2.2.2.2.2
theorem zd_99 : (decode cX9_isFree 0 = .ok (.aload_n 1, 1)) ∧ (decode cX9_isFree 1 = .ok (.getfield 42, 3)) ∧ (decode cX9_isFree 4 = .ok (.aload_n 1, 1)) ∧ (decode cX9_isFree 5 = .ok (.getfield 47, 3)) ∧ (decode cX9_isFree 8 = .ok (.invokestatic 50, 3)) ∧ (decode cX9_isFree 11 = .ok (.ifCond .eq 31, 3)) ∧ (decode cX9_isFree 14 = .ok (.aload_n 1, 1)) ∧ (decode cX9_isFree 15 = .ok (.getfield 54, 3)) := by decide +kernel
theorem dX9_isFree_0 : decode cX9_isFree 0 = .ok (.aload_n 1, 1) := zd_99.1
theorem dX9_isFree_1 : decode cX9_isFree 1 = .ok (.getfield 42, 3) := zd_99.2.1
theorem dX9_isFree_4 : decode cX9_isFree 4 = .ok (.aload_n 1, 1) := zd_99.2.2.1
theorem dX9_isFree_5 : decode cX9_isFree 5 = .ok (.getfield 47, 3) := zd_99.2.2.2.1
theorem dX9_isFree_8 : decode cX9_isFree 8 = .ok (.invokestatic 50, 3) := zd_99.2.2.2.2.1
theorem dX9_isFree_11 : decode cX9_isFree 11 = .ok (.ifCond .eq 31, 3) := zd_99.2.2.2.2.2.1
theorem dX9_isFree_14 : decode cX9_isFree 14 = .ok (.aload_n 1, 1) := zd_99.2.2.2.2.2.2.1
theorem dX9_isFree_15 : decode cX9_isFree 15 = .ok (.getfield 54, 3) := zd_99.2.2.2.2.2.2.2
theorem zd_100 : (decode cX9_isFree 18 = .ok (.invokestatic 34, 3)) ∧ (decode cX9_isFree 21 = .ok (.ifCond .eq 21, 3)) ∧ (decode cX9_isFree 24 = .ok (.aload_n 1, 1)) ∧ (decode cX9_isFree 25 = .ok (.getfield 57, 3)) ∧ (decode cX9_isFree 28 = .ok (.iconst 0, 1)) ∧ (decode cX9_isFree 29 = .ok (.bipush 60, 2)) ∧ (decode cX9_isFree 31 = .ok (.aload_n 1, 1)) ∧ (decode cX9_isFree 32 = .ok (.getfield 47, 3)) := by decide +kernel
theorem dX9_isFree_18 : decode cX9_isFree 18 = .ok (.invokestatic 34, 3) := zd_100.1
theorem dX9_isFree_21 : decode cX9_isFree 21 = .ok (.ifCond .eq 21, 3) := zd_100.2.1
theorem dX9_isFree_24 : decode cX9_isFree 24 = .ok (.aload_n 1, 1) := zd_100.2.2.1
theorem dX9_isFree_25 : decode cX9_isFree 25 = .ok (.getfield 57, 3) := zd_100.2.2.2.1
theorem dX9_isFree_28 : decode cX9_isFree 28 = .ok (.iconst 0, 1) := zd_100.2.2.2.2.1
theorem dX9_isFree_29 : decode cX9_isFree 29 = .ok (.bipush 60, 2) := zd_100.2.2.2.2.2.1
theorem dX9_isFree_31 : decode cX9_isFree 31 = .ok (.aload_n 1, 1) := zd_100.2.2.2.2.2.2.1
theorem dX9_isFree_32 : decode cX9_isFree 32 = .ok (.getfield 47, 3) := zd_100.2.2.2.2.2.2.2
theorem zd_101 : (decode cX9_isFree 35 = .ok (.isub, 1)) ∧ (decode cX9_isFree 36 = .ok (.invokestatic 38, 3)) ∧ (decode cX9_isFree 39 = .ok (.ifCond .ne 5, 3)) ∧ (decode cX9_isFree 42 = .ok (.iconst 0, 1)) ∧ (decode cX9_isFree 43 = .ok (.ireturn, 1)) ∧ (decode cX9_isFree 44 = .ok (.aload_n 1, 1)) ∧ (decode cX9_isFree 45 = .ok (.getfield 54, 3)) ∧ (decode cX9_isFree 48 = .ok (.istore_n 2, 1)) := by decide +kernel
theorem dX9_isFree_35 : decode cX9_isFree 35 = .ok (.isub, 1) := zd_101.1
theorem dX9_isFree_36 : decode cX9_isFree 36 = .ok (.invokestatic 38, 3) := zd_101.2.1
theorem dX9_isFree_39 : decode cX9_isFree 39 = .ok (.ifCond .ne 5, 3) := zd_101.2.2.1
theorem dX9_isFree_42 : decode cX9_isFree 42 = .ok (.iconst 0, 1) := zd_101.2.2.2.1
theorem dX9_isFree_43 : decode cX9_isFree 43 = .ok (.ireturn, 1) := zd_101.2.2.2.2.1
theorem dX9_isFree_44 : decode cX9_isFree 44 = .ok (.aload_n 1, 1) := zd_101.2.2.2.2.2.1
theorem dX9_isFree_45 : decode cX9_isFree 45 = .ok (.getfield 54, 3) := zd_101.2.2.2.2.2.2.1
theorem dX9_isFree_48 : decode cX9_isFree 48 = .ok (.istore_n 2, 1) := zd_101.2.2.2.2.2.2.2
theorem zd_102 : (decode cX9_isFree 49 = .ok (.iload_n 2, 1)) ∧ (decode cX9_isFree 50 = .ok (.aload_n 1, 1)) ∧ (decode cX9_isFree 51 = .ok (.getfield 54, 3)) ∧ (decode cX9_isFree 54 = .ok (.aload_n 1, 1)) ∧ (decode cX9_isFree 55 = .ok (.getfield 42, 3)) ∧ (decode cX9_isFree 58 = .ok (.iadd, 1)) ∧ (decode cX9_isFree 59 = .ok (.if_icmp .ge 46, 3)) ∧ (decode cX9_isFree 62 = .ok (.aload_n 1, 1)) := by decide +kernel
theorem dX9_isFree_49 : decode cX9_isFree 49 = .ok (.iload_n 2, 1) := zd_102.1
theorem dX9_isFree_50 : decode cX9_isFree 50 = .ok (.aload_n 1, 1) := zd_102.2.1
theorem dX9_isFree_51 : decode cX9_isFree 51 = .ok (.getfield 54, 3) := zd_102.2.2.1
theorem dX9_isFree_54 : decode cX9_isFree 54 = .ok (.aload_n 1, 1) := zd_102.2.2.2.1
theorem dX9_isFree_55 : decode cX9_isFree 55 = .ok (.getfield 42, 3) := zd_102.2.2.2.2.1
theorem dX9_isFree_58 : decode cX9_isFree 58 = .ok (.iadd, 1) := zd_102.2.2.2.2.2.1
theorem dX9_isFree_59 : decode cX9_isFree 59 = .ok (.if_icmp .ge 46, 3) := zd_102.2.2.2.2.2.2.1
theorem dX9_isFree_62 : decode cX9_isFree 62 = .ok (.aload_n 1, 1) := zd_102.2.2.2.2.2.2.2
theorem zd_103 : (decode cX9_isFree 63 = .ok (.getfield 57, 3)) ∧ (decode cX9_isFree 66 = .ok (.istore_n 3, 1)) ∧ (decode cX9_isFree 67 = .ok (.iload_n 3, 1)) ∧ (decode cX9_isFree 68 = .ok (.aload_n 1, 1)) ∧ (decode cX9_isFree 69 = .ok (.getfield 57, 3)) ∧ (decode cX9_isFree 72 = .ok (.aload_n 1, 1)) ∧ (decode cX9_isFree 73 = .ok (.getfield 47, 3)) ∧ (decode cX9_isFree 76 = .ok (.iadd, 1)) := by decide +kernel
theorem dX9_isFree_63 : decode cX9_isFree 63 = .ok (.getfield 57, 3) := zd_103.1
theorem dX9_isFree_66 : decode cX9_isFree 66 = .ok (.istore_n 3, 1) := zd_103.2.1
theorem dX9_isFree_67 : decode cX9_isFree 67 = .ok (.iload_n 3, 1) := zd_103.2.2.1
theorem dX9_isFree_68 : decode cX9_isFree 68 = .ok (.aload_n 1, 1) := zd_103.2.2.2.1
theorem dX9_isFree_69 : decode cX9_isFree 69 = .ok (.getfield 57, 3) := zd_103.2.2.2.2.1
theorem dX9_isFree_72 : decode cX9_isFree 72 = .ok (.aload_n 1, 1) := zd_103.2.2.2.2.2.1
theorem dX9_isFree_73 : decode cX9_isFree 73 = .ok (.getfield 47, 3) := zd_103.2.2.2.2.2.2.1
theorem dX9_isFree_76 : decode cX9_isFree 76 = .ok (.iadd, 1) := zd_103.2.2.2.2.2.2.2
theorem zd_104 : (decode cX9_isFree 77 = .ok (.if_icmp .ge 22, 3)) ∧ (decode cX9_isFree 80 = .ok (.aload_n 0, 1)) ∧ (decode cX9_isFree 81 = .ok (.iload_n 2, 1)) ∧ (decode cX9_isFree 82 = .ok (.iload_n 3, 1)) ∧ (decode cX9_isFree 83 = .ok (.invokevirtual 60, 3)) ∧ (decode cX9_isFree 86 = .ok (.bipush (-2), 2)) ∧ (decode cX9_isFree 88 = .ok (.if_icmp .eq 5, 3)) ∧ (decode cX9_isFree 91 = .ok (.iconst 0, 1)) := by decide +kernel
theorem dX9_isFree_77 : decode cX9_isFree 77 = .ok (.if_icmp .ge 22, 3) := zd_104.1
theorem dX9_isFree_80 : decode cX9_isFree 80 = .ok (.aload_n 0, 1) := zd_104.2.1
theorem dX9_isFree_81 : decode cX9_isFree 81 = .ok (.iload_n 2, 1) := zd_104.2.2.1
theorem dX9_isFree_82 : decode cX9_isFree 82 = .ok (.iload_n 3, 1) := zd_104.2.2.2.1
theorem dX9_isFree_83 : decode cX9_isFree 83 = .ok (.invokevirtual 60, 3) := zd_104.2.2.2.2.1
theorem dX9_isFree_86 : decode cX9_isFree 86 = .ok (.bipush (-2), 2) := zd_104.2.2.2.2.2.1
theorem dX9_isFree_88 : decode cX9_isFree 88 = .ok (.if_icmp .eq 5, 3) := zd_104.2.2.2.2.2.2.1
theorem dX9_isFree_91 : decode cX9_isFree 91 = .ok (.iconst 0, 1) := zd_104.2.2.2.2.2.2.2
theorem zd_105 : (decode cX9_isFree 92 = .ok (.ireturn, 1)) ∧ (decode cX9_isFree 93 = .ok (.iinc 3 1, 3)) ∧ (decode cX9_isFree 96 = .ok (.goto (-29), 3)) ∧ (decode cX9_isFree 99 = .ok (.iinc 2 1, 3)) ∧ (decode cX9_isFree 102 = .ok (.goto (-53), 3)) ∧ (decode cX9_isFree 105 = .ok (.iconst 1, 1)) ∧ (decode cX9_isFree 106 = .ok (.ireturn, 1)) := by decide +kernel
theorem dX9_isFree_92 : decode cX9_isFree 92 = .ok (.ireturn, 1) := zd_105.1
theorem dX9_isFree_93 : decode cX9_isFree 93 = .ok (.iinc 3 1, 3) := zd_105.2.1
theorem dX9_isFree_96 : decode cX9_isFree 96 = .ok (.goto (-29), 3) := zd_105.2.2.1
theorem dX9_isFree_99 : decode cX9_isFree 99 = .ok (.iinc 2 1, 3) := zd_105.2.2.2.1
theorem dX9_isFree_102 : decode cX9_isFree 102 = .ok (.goto (-53), 3) := zd_105.2.2.2.2.1
theorem dX9_isFree_105 : decode cX9_isFree 105 = .ok (.iconst 1, 1) := zd_105.2.2.2.2.2.1
theorem dX9_isFree_106 : decode cX9_isFree 106 = .ok (.ireturn, 1) := zd_105.2.2.2.2.2.2
theorem zd_106 : (decode cX9_mark 0 = .ok (.aload_n 1, 1)) ∧ (decode cX9_mark 1 = .ok (.getfield 54, 3)) ∧ (decode cX9_mark 4 = .ok (.istore_n 3, 1)) ∧ (decode cX9_mark 5 = .ok (.iload_n 3, 1)) ∧ (decode cX9_mark 6 = .ok (.aload_n 1, 1)) ∧ (decode cX9_mark 7 = .ok (.getfield 54, 3)) ∧ (decode cX9_mark 10 = .ok (.aload_n 1, 1)) ∧ (decode cX9_mark 11 = .ok (.getfield 42, 3)) := by decide +kernel
theorem dX9_mark_0 : decode cX9_mark 0 = .ok (.aload_n 1, 1) := zd_106.1
theorem dX9_mark_1 : decode cX9_mark 1 = .ok (.getfield 54, 3) := zd_106.2.1
theorem dX9_mark_4 : decode cX9_mark 4 = .ok (.istore_n 3, 1) := zd_106.2.2.1
theorem dX9_mark_5 : decode cX9_mark 5 = .ok (.iload_n 3, 1) := zd_106.2.2.2.1
theorem dX9_mark_6 : decode cX9_mark 6 = .ok (.aload_n 1, 1) := zd_106.2.2.2.2.1
theorem dX9_mark_7 : decode cX9_mark 7 = .ok (.getfield 54, 3) := zd_106.2.2.2.2.2.1
theorem dX9_mark_10 : decode cX9_mark 10 = .ok (.aload_n 1, 1) := zd_106.2.2.2.2.2.2.1
theorem dX9_mark_11 : decode cX9_mark 11 = .ok (.getfield 42, 3) := zd_106.2.2.2.2.2.2.2
theorem zd_107 : (decode cX9_mark 14 = .ok (.iadd, 1)) ∧ (decode cX9_mark 15 = .ok (.if_icmp .ge 59, 3)) ∧ (decode cX9_mark 18 = .ok (.aload_n 1, 1)) ∧ (decode cX9_mark 19 = .ok (.getfield 57, 3)) ∧ (decode cX9_mark 22 = .ok (.istore 4, 2)) ∧ (decode cX9_mark 24 = .ok (.iload 4, 2)) ∧ (decode cX9_mark 26 = .ok (.aload_n 1, 1)) ∧ (decode cX9_mark 27 = .ok (.getfield 57, 3)) := by decide +kernel
theorem dX9_mark_14 : decode cX9_mark 14 = .ok (.iadd, 1) := zd_107.1
theorem dX9_mark_15 : decode cX9_mark 15 = .ok (.if_icmp .ge 59, 3) := zd_107.2.1
theorem dX9_mark_18 : decode cX9_mark 18 = .ok (.aload_n 1, 1) := zd_107.2.2.1
theorem dX9_mark_19 : decode cX9_mark 19 = .ok (.getfield 57, 3) := zd_107.2.2.2.1
theorem dX9_mark_22 : decode cX9_mark 22 = .ok (.istore 4, 2) := zd_107.2.2.2.2.1
theorem dX9_mark_24 : decode cX9_mark 24 = .ok (.iload 4, 2) := zd_107.2.2.2.2.2.1
theorem dX9_mark_26 : decode cX9_mark 26 = .ok (.aload_n 1, 1) := zd_107.2.2.2.2.2.2.1
theorem dX9_mark_27 : decode cX9_mark 27 = .ok (.getfield 57, 3) := zd_107.2.2.2.2.2.2.2
theorem zd_108 : (decode cX9_mark 30 = .ok (.aload_n 1, 1)) ∧ (decode cX9_mark 31 = .ok (.getfield 47, 3)) ∧ (decode cX9_mark 34 = .ok (.iadd, 1)) ∧ (decode cX9_mark 35 = .ok (.if_icmp .ge 33, 3)) ∧ (decode cX9_mark 38 = .ok (.aload_n 0, 1)) ∧ (decode cX9_mark 39 = .ok (.iload_n 3, 1)) ∧ (decode cX9_mark 40 = .ok (.iload 4, 2)) ∧ (decode cX9_mark 42 = .ok (.invokevirtual 60, 3)) := by decide +kernel
theorem dX9_mark_30 : decode cX9_mark 30 = .ok (.aload_n 1, 1) := zd_108.1
theorem dX9_mark_31 : decode cX9_mark 31 = .ok (.getfield 47, 3) := zd_108.2.1
theorem dX9_mark_34 : decode cX9_mark 34 = .ok (.iadd, 1) := zd_108.2.2.1
theorem dX9_mark_35 : decode cX9_mark 35 = .ok (.if_icmp .ge 33, 3) := zd_108.2.2.2.1
theorem dX9_mark_38 : decode cX9_mark 38 = .ok (.aload_n 0, 1) := zd_108.2.2.2.2.1
theorem dX9_mark_39 : decode cX9_mark 39 = .ok (.iload_n 3, 1) := zd_108.2.2.2.2.2.1
theorem dX9_mark_40 : decode cX9_mark 40 = .ok (.iload 4, 2) := zd_108.2.2.2.2.2.2.1
theorem dX9_mark_42 : decode cX9_mark 42 = .ok (.invokevirtual 60, 3) := zd_108.2.2.2.2.2.2.2
theorem zd_109 : (decode cX9_mark 45 = .ok (.iconst (-1), 1)) ∧ (decode cX9_mark 46 = .ok (.if_icmp .eq 16, 3)) ∧ (decode cX9_mark 49 = .ok (.aload_n 0, 1)) ∧ (decode cX9_mark 50 = .ok (.getfield 15, 3)) ∧ (decode cX9_mark 53 = .ok (.iload_n 3, 1)) ∧ (decode cX9_mark 54 = .ok (.bipush 60, 2)) ∧ (decode cX9_mark 56 = .ok (.imul, 1)) ∧ (decode cX9_mark 57 = .ok (.iload 4, 2)) := by decide +kernel
theorem dX9_mark_45 : decode cX9_mark 45 = .ok (.iconst (-1), 1) := zd_109.1
theorem dX9_mark_46 : decode cX9_mark 46 = .ok (.if_icmp .eq 16, 3) := zd_109.2.1
theorem dX9_mark_49 : decode cX9_mark 49 = .ok (.aload_n 0, 1) := zd_109.2.2.1
theorem dX9_mark_50 : decode cX9_mark 50 = .ok (.getfield 15, 3) := zd_109.2.2.2.1
theorem dX9_mark_53 : decode cX9_mark 53 = .ok (.iload_n 3, 1) := zd_109.2.2.2.2.1
theorem dX9_mark_54 : decode cX9_mark 54 = .ok (.bipush 60, 2) := zd_109.2.2.2.2.2.1
theorem dX9_mark_56 : decode cX9_mark 56 = .ok (.imul, 1) := zd_109.2.2.2.2.2.2.1
theorem dX9_mark_57 : decode cX9_mark 57 = .ok (.iload 4, 2) := zd_109.2.2.2.2.2.2.2
theorem zd_110 : (decode cX9_mark 59 = .ok (.iadd, 1)) ∧ (decode cX9_mark 60 = .ok (.iload_n 2, 1)) ∧ (decode cX9_mark 61 = .ok (.iastore, 1)) ∧ (decode cX9_mark 62 = .ok (.iinc 4 1, 3)) ∧ (decode cX9_mark 65 = .ok (.goto (-41), 3)) ∧ (decode cX9_mark 68 = .ok (.iinc 3 1, 3)) ∧ (decode cX9_mark 71 = .ok (.goto (-66), 3)) ∧ (decode cX9_mark 74 = .ok (.return_, 1)) := by decide +kernel
theorem dX9_mark_59 : decode cX9_mark 59 = .ok (.iadd, 1) := zd_110.1
theorem dX9_mark_60 : decode cX9_mark 60 = .ok (.iload_n 2, 1) := zd_110.2.1
theorem dX9_mark_61 : decode cX9_mark 61 = .ok (.iastore, 1) := zd_110.2.2.1
theorem dX9_mark_62 : decode cX9_mark 62 = .ok (.iinc 4 1, 3) := zd_110.2.2.2.1
theorem dX9_mark_65 : decode cX9_mark 65 = .ok (.goto (-41), 3) := zd_110.2.2.2.2.1
theorem dX9_mark_68 : decode cX9_mark 68 = .ok (.iinc 3 1, 3) := zd_110.2.2.2.2.2.1
theorem dX9_mark_71 : decode cX9_mark 71 = .ok (.goto (-66), 3) := zd_110.2.2.2.2.2.2.1
theorem dX9_mark_74 : decode cX9_mark 74 = .ok (.return_, 1) := zd_110.2.2.2.2.2.2.2
theorem zd_111 : (decode cX9_emptyIn 0 = .ok (.iconst 0, 1)) ∧ (decode cX9_emptyIn 1 = .ok (.istore_n 2, 1)) ∧ (decode cX9_emptyIn 2 = .ok (.iconst 0, 1)) ∧ (decode cX9_emptyIn 3 = .ok (.istore_n 3, 1)) ∧ (decode cX9_emptyIn 4 = .ok (.iload_n 3, 1)) ∧ (decode cX9_emptyIn 5 = .ok (.aload_n 0, 1)) ∧ (decode cX9_emptyIn 6 = .ok (.getfield 9, 3)) ∧ (decode cX9_emptyIn 9 = .ok (.iload_n 1, 1)) := by decide +kernel
theorem dX9_emptyIn_0 : decode cX9_emptyIn 0 = .ok (.iconst 0, 1) := zd_111.1
theorem dX9_emptyIn_1 : decode cX9_emptyIn 1 = .ok (.istore_n 2, 1) := zd_111.2.1
theorem dX9_emptyIn_2 : decode cX9_emptyIn 2 = .ok (.iconst 0, 1) := zd_111.2.2.1
theorem dX9_emptyIn_3 : decode cX9_emptyIn 3 = .ok (.istore_n 3, 1) := zd_111.2.2.2.1
theorem dX9_emptyIn_4 : decode cX9_emptyIn 4 = .ok (.iload_n 3, 1) := zd_111.2.2.2.2.1
theorem dX9_emptyIn_5 : decode cX9_emptyIn 5 = .ok (.aload_n 0, 1) := zd_111.2.2.2.2.2.1
theorem dX9_emptyIn_6 : decode cX9_emptyIn 6 = .ok (.getfield 9, 3) := zd_111.2.2.2.2.2.2.1
theorem dX9_emptyIn_9 : decode cX9_emptyIn 9 = .ok (.iload_n 1, 1) := zd_111.2.2.2.2.2.2.2
theorem zd_112 : (decode cX9_emptyIn 10 = .ok (.iaload, 1)) ∧ (decode cX9_emptyIn 11 = .ok (.if_icmp .ge 23, 3)) ∧ (decode cX9_emptyIn 14 = .ok (.aload_n 0, 1)) ∧ (decode cX9_emptyIn 15 = .ok (.iload_n 1, 1)) ∧ (decode cX9_emptyIn 16 = .ok (.iload_n 3, 1)) ∧ (decode cX9_emptyIn 17 = .ok (.invokevirtual 60, 3)) ∧ (decode cX9_emptyIn 20 = .ok (.bipush (-2), 2)) ∧ (decode cX9_emptyIn 22 = .ok (.if_icmp .ne 6, 3)) := by decide +kernel
theorem dX9_emptyIn_10 : decode cX9_emptyIn 10 = .ok (.iaload, 1) := zd_112.1
theorem dX9_emptyIn_11 : decode cX9_emptyIn 11 = .ok (.if_icmp .ge 23, 3) := zd_112.2.1
theorem dX9_emptyIn_14 : decode cX9_emptyIn 14 = .ok (.aload_n 0, 1) := zd_112.2.2.1
theorem dX9_emptyIn_15 : decode cX9_emptyIn 15 = .ok (.iload_n 1, 1) := zd_112.2.2.2.1
theorem dX9_emptyIn_16 : decode cX9_emptyIn 16 = .ok (.iload_n 3, 1) := zd_112.2.2.2.2.1
theorem dX9_emptyIn_17 : decode cX9_emptyIn 17 = .ok (.invokevirtual 60, 3) := zd_112.2.2.2.2.2.1
theorem dX9_emptyIn_20 : decode cX9_emptyIn 20 = .ok (.bipush (-2), 2) := zd_112.2.2.2.2.2.2.1
theorem dX9_emptyIn_22 : decode cX9_emptyIn 22 = .ok (.if_icmp .ne 6, 3) := zd_112.2.2.2.2.2.2.2
theorem zd_113 : (decode cX9_emptyIn 25 = .ok (.iinc 2 1, 3)) ∧ (decode cX9_emptyIn 28 = .ok (.iinc 3 1, 3)) ∧ (decode cX9_emptyIn 31 = .ok (.goto (-27), 3)) ∧ (decode cX9_emptyIn 34 = .ok (.iload_n 2, 1)) ∧ (decode cX9_emptyIn 35 = .ok (.ireturn, 1)) := by decide +kernel
theorem dX9_emptyIn_25 : decode cX9_emptyIn 25 = .ok (.iinc 2 1, 3) := zd_113.1
theorem dX9_emptyIn_28 : decode cX9_emptyIn 28 = .ok (.iinc 3 1, 3) := zd_113.2.1
theorem dX9_emptyIn_31 : decode cX9_emptyIn 31 = .ok (.goto (-27), 3) := zd_113.2.2.1
theorem dX9_emptyIn_34 : decode cX9_emptyIn 34 = .ok (.iload_n 2, 1) := zd_113.2.2.2.1
theorem dX9_emptyIn_35 : decode cX9_emptyIn 35 = .ok (.ireturn, 1) := zd_113.2.2.2.2
theorem zd_114 : (decode cX9_emptyCount 0 = .ok (.iconst 0, 1)) ∧ (decode cX9_emptyCount 1 = .ok (.istore_n 1, 1)) ∧ (decode cX9_emptyCount 2 = .ok (.iconst 0, 1)) ∧ (decode cX9_emptyCount 3 = .ok (.istore_n 2, 1)) ∧ (decode cX9_emptyCount 4 = .ok (.iload_n 2, 1)) ∧ (decode cX9_emptyCount 5 = .ok (.bipush 8, 2)) ∧ (decode cX9_emptyCount 7 = .ok (.if_icmp .ge 17, 3)) ∧ (decode cX9_emptyCount 10 = .ok (.iload_n 1, 1)) := by decide +kernel
theorem dX9_emptyCount_0 : decode cX9_emptyCount 0 = .ok (.iconst 0, 1) := zd_114.1
theorem dX9_emptyCount_1 : decode cX9_emptyCount 1 = .ok (.istore_n 1, 1) := zd_114.2.1
theorem dX9_emptyCount_2 : decode cX9_emptyCount 2 = .ok (.iconst 0, 1) := zd_114.2.2.1
theorem dX9_emptyCount_3 : decode cX9_emptyCount 3 = .ok (.istore_n 2, 1) := zd_114.2.2.2.1
theorem dX9_emptyCount_4 : decode cX9_emptyCount 4 = .ok (.iload_n 2, 1) := zd_114.2.2.2.2.1
theorem dX9_emptyCount_5 : decode cX9_emptyCount 5 = .ok (.bipush 8, 2) := zd_114.2.2.2.2.2.1
theorem dX9_emptyCount_7 : decode cX9_emptyCount 7 = .ok (.if_icmp .ge 17, 3) := zd_114.2.2.2.2.2.2.1
theorem dX9_emptyCount_10 : decode cX9_emptyCount 10 = .ok (.iload_n 1, 1) := zd_114.2.2.2.2.2.2.2
theorem zd_115 : (decode cX9_emptyCount 11 = .ok (.aload_n 0, 1)) ∧ (decode cX9_emptyCount 12 = .ok (.iload_n 2, 1)) ∧ (decode cX9_emptyCount 13 = .ok (.invokevirtual 64, 3)) ∧ (decode cX9_emptyCount 16 = .ok (.iadd, 1)) ∧ (decode cX9_emptyCount 17 = .ok (.istore_n 1, 1)) ∧ (decode cX9_emptyCount 18 = .ok (.iinc 2 1, 3)) ∧ (decode cX9_emptyCount 21 = .ok (.goto (-17), 3)) ∧ (decode cX9_emptyCount 24 = .ok (.iload_n 1, 1)) := by decide +kernel
theorem dX9_emptyCount_11 : decode cX9_emptyCount 11 = .ok (.aload_n 0, 1) := zd_115.1
theorem dX9_emptyCount_12 : decode cX9_emptyCount 12 = .ok (.iload_n 2, 1) := zd_115.2.1
theorem dX9_emptyCount_13 : decode cX9_emptyCount 13 = .ok (.invokevirtual 64, 3) := zd_115.2.2.1
theorem dX9_emptyCount_16 : decode cX9_emptyCount 16 = .ok (.iadd, 1) := zd_115.2.2.2.1
theorem dX9_emptyCount_17 : decode cX9_emptyCount 17 = .ok (.istore_n 1, 1) := zd_115.2.2.2.2.1
theorem dX9_emptyCount_18 : decode cX9_emptyCount 18 = .ok (.iinc 2 1, 3) := zd_115.2.2.2.2.2.1
theorem dX9_emptyCount_21 : decode cX9_emptyCount 21 = .ok (.goto (-17), 3) := zd_115.2.2.2.2.2.2.1
theorem dX9_emptyCount_24 : decode cX9_emptyCount 24 = .ok (.iload_n 1, 1) := zd_115.2.2.2.2.2.2.2
theorem dX9_emptyCount_25 : decode cX9_emptyCount 25 = .ok (.ireturn, 1) := by decide +kernel
theorem zd_116 : (decode cX9_cellCount 0 = .ok (.iconst 0, 1)) ∧ (decode cX9_cellCount 1 = .ok (.istore_n 1, 1)) ∧ (decode cX9_cellCount 2 = .ok (.iconst 0, 1)) ∧ (decode cX9_cellCount 3 = .ok (.istore_n 2, 1)) ∧ (decode cX9_cellCount 4 = .ok (.iload_n 2, 1)) ∧ (decode cX9_cellCount 5 = .ok (.bipush 8, 2)) ∧ (decode cX9_cellCount 7 = .ok (.if_icmp .ge 18, 3)) ∧ (decode cX9_cellCount 10 = .ok (.iload_n 1, 1)) := by decide +kernel
theorem dX9_cellCount_0 : decode cX9_cellCount 0 = .ok (.iconst 0, 1) := zd_116.1
theorem dX9_cellCount_1 : decode cX9_cellCount 1 = .ok (.istore_n 1, 1) := zd_116.2.1
theorem dX9_cellCount_2 : decode cX9_cellCount 2 = .ok (.iconst 0, 1) := zd_116.2.2.1
theorem dX9_cellCount_3 : decode cX9_cellCount 3 = .ok (.istore_n 2, 1) := zd_116.2.2.2.1
theorem dX9_cellCount_4 : decode cX9_cellCount 4 = .ok (.iload_n 2, 1) := zd_116.2.2.2.2.1
theorem dX9_cellCount_5 : decode cX9_cellCount 5 = .ok (.bipush 8, 2) := zd_116.2.2.2.2.2.1
theorem dX9_cellCount_7 : decode cX9_cellCount 7 = .ok (.if_icmp .ge 18, 3) := zd_116.2.2.2.2.2.2.1
theorem dX9_cellCount_10 : decode cX9_cellCount 10 = .ok (.iload_n 1, 1) := zd_116.2.2.2.2.2.2.2
theorem zd_117 : (decode cX9_cellCount 11 = .ok (.aload_n 0, 1)) ∧ (decode cX9_cellCount 12 = .ok (.getfield 9, 3)) ∧ (decode cX9_cellCount 15 = .ok (.iload_n 2, 1)) ∧ (decode cX9_cellCount 16 = .ok (.iaload, 1)) ∧ (decode cX9_cellCount 17 = .ok (.iadd, 1)) ∧ (decode cX9_cellCount 18 = .ok (.istore_n 1, 1)) ∧ (decode cX9_cellCount 19 = .ok (.iinc 2 1, 3)) ∧ (decode cX9_cellCount 22 = .ok (.goto (-18), 3)) := by decide +kernel
theorem dX9_cellCount_11 : decode cX9_cellCount 11 = .ok (.aload_n 0, 1) := zd_117.1
theorem dX9_cellCount_12 : decode cX9_cellCount 12 = .ok (.getfield 9, 3) := zd_117.2.1
theorem dX9_cellCount_15 : decode cX9_cellCount 15 = .ok (.iload_n 2, 1) := zd_117.2.2.1
theorem dX9_cellCount_16 : decode cX9_cellCount 16 = .ok (.iaload, 1) := zd_117.2.2.2.1
theorem dX9_cellCount_17 : decode cX9_cellCount 17 = .ok (.iadd, 1) := zd_117.2.2.2.2.1
theorem dX9_cellCount_18 : decode cX9_cellCount 18 = .ok (.istore_n 1, 1) := zd_117.2.2.2.2.2.1
theorem dX9_cellCount_19 : decode cX9_cellCount 19 = .ok (.iinc 2 1, 3) := zd_117.2.2.2.2.2.2.1
theorem dX9_cellCount_22 : decode cX9_cellCount 22 = .ok (.goto (-18), 3) := zd_117.2.2.2.2.2.2.2
theorem zd_118 : (decode cX9_cellCount 25 = .ok (.iload_n 1, 1)) ∧ (decode cX9_cellCount 26 = .ok (.ireturn, 1)) := by decide +kernel
theorem dX9_cellCount_25 : decode cX9_cellCount 25 = .ok (.iload_n 1, 1) := zd_118.1
theorem dX9_cellCount_26 : decode cX9_cellCount 26 = .ok (.ireturn, 1) := zd_118.2
theorem zd_119 : (decode cX9_spotOf 0 = .ok (.iconst 0, 1)) ∧ (decode cX9_spotOf 1 = .ok (.istore_n 2, 1)) ∧ (decode cX9_spotOf 2 = .ok (.iload_n 2, 1)) ∧ (decode cX9_spotOf 3 = .ok (.bipush 8, 2)) ∧ (decode cX9_spotOf 5 = .ok (.if_icmp .ge 44, 3)) ∧ (decode cX9_spotOf 8 = .ok (.iconst 0, 1)) ∧ (decode cX9_spotOf 9 = .ok (.istore_n 3, 1)) ∧ (decode cX9_spotOf 10 = .ok (.iload_n 3, 1)) := by decide +kernel
theorem dX9_spotOf_0 : decode cX9_spotOf 0 = .ok (.iconst 0, 1) := zd_119.1
theorem dX9_spotOf_1 : decode cX9_spotOf 1 = .ok (.istore_n 2, 1) := zd_119.2.1
theorem dX9_spotOf_2 : decode cX9_spotOf 2 = .ok (.iload_n 2, 1) := zd_119.2.2.1
theorem dX9_spotOf_3 : decode cX9_spotOf 3 = .ok (.bipush 8, 2) := zd_119.2.2.2.1
theorem dX9_spotOf_5 : decode cX9_spotOf 5 = .ok (.if_icmp .ge 44, 3) := zd_119.2.2.2.2.1
theorem dX9_spotOf_8 : decode cX9_spotOf 8 = .ok (.iconst 0, 1) := zd_119.2.2.2.2.2.1
theorem dX9_spotOf_9 : decode cX9_spotOf 9 = .ok (.istore_n 3, 1) := zd_119.2.2.2.2.2.2.1
theorem dX9_spotOf_10 : decode cX9_spotOf 10 = .ok (.iload_n 3, 1) := zd_119.2.2.2.2.2.2.2
theorem zd_120 : (decode cX9_spotOf 11 = .ok (.aload_n 0, 1)) ∧ (decode cX9_spotOf 12 = .ok (.getfield 9, 3)) ∧ (decode cX9_spotOf 15 = .ok (.iload_n 2, 1)) ∧ (decode cX9_spotOf 16 = .ok (.iaload, 1)) ∧ (decode cX9_spotOf 17 = .ok (.if_icmp .ge 26, 3)) ∧ (decode cX9_spotOf 20 = .ok (.aload_n 0, 1)) ∧ (decode cX9_spotOf 21 = .ok (.iload_n 2, 1)) ∧ (decode cX9_spotOf 22 = .ok (.iload_n 3, 1)) := by decide +kernel
theorem dX9_spotOf_11 : decode cX9_spotOf 11 = .ok (.aload_n 0, 1) := zd_120.1
theorem dX9_spotOf_12 : decode cX9_spotOf 12 = .ok (.getfield 9, 3) := zd_120.2.1
theorem dX9_spotOf_15 : decode cX9_spotOf 15 = .ok (.iload_n 2, 1) := zd_120.2.2.1
theorem dX9_spotOf_16 : decode cX9_spotOf 16 = .ok (.iaload, 1) := zd_120.2.2.2.1
theorem dX9_spotOf_17 : decode cX9_spotOf 17 = .ok (.if_icmp .ge 26, 3) := zd_120.2.2.2.2.1
theorem dX9_spotOf_20 : decode cX9_spotOf 20 = .ok (.aload_n 0, 1) := zd_120.2.2.2.2.2.1
theorem dX9_spotOf_21 : decode cX9_spotOf 21 = .ok (.iload_n 2, 1) := zd_120.2.2.2.2.2.2.1
theorem dX9_spotOf_22 : decode cX9_spotOf 22 = .ok (.iload_n 3, 1) := zd_120.2.2.2.2.2.2.2
theorem zd_121 : (decode cX9_spotOf 23 = .ok (.invokevirtual 60, 3)) ∧ (decode cX9_spotOf 26 = .ok (.iload_n 1, 1)) ∧ (decode cX9_spotOf 27 = .ok (.if_icmp .ne 10, 3)) ∧ (decode cX9_spotOf 30 = .ok (.iload_n 2, 1)) ∧ (decode cX9_spotOf 31 = .ok (.bipush 60, 2)) ∧ (decode cX9_spotOf 33 = .ok (.imul, 1)) ∧ (decode cX9_spotOf 34 = .ok (.iload_n 3, 1)) ∧ (decode cX9_spotOf 35 = .ok (.iadd, 1)) := by decide +kernel
theorem dX9_spotOf_23 : decode cX9_spotOf 23 = .ok (.invokevirtual 60, 3) := zd_121.1
theorem dX9_spotOf_26 : decode cX9_spotOf 26 = .ok (.iload_n 1, 1) := zd_121.2.1
theorem dX9_spotOf_27 : decode cX9_spotOf 27 = .ok (.if_icmp .ne 10, 3) := zd_121.2.2.1
theorem dX9_spotOf_30 : decode cX9_spotOf 30 = .ok (.iload_n 2, 1) := zd_121.2.2.2.1
theorem dX9_spotOf_31 : decode cX9_spotOf 31 = .ok (.bipush 60, 2) := zd_121.2.2.2.2.1
theorem dX9_spotOf_33 : decode cX9_spotOf 33 = .ok (.imul, 1) := zd_121.2.2.2.2.2.1
theorem dX9_spotOf_34 : decode cX9_spotOf 34 = .ok (.iload_n 3, 1) := zd_121.2.2.2.2.2.2.1
theorem dX9_spotOf_35 : decode cX9_spotOf 35 = .ok (.iadd, 1) := zd_121.2.2.2.2.2.2.2
theorem zd_122 : (decode cX9_spotOf 36 = .ok (.ireturn, 1)) ∧ (decode cX9_spotOf 37 = .ok (.iinc 3 1, 3)) ∧ (decode cX9_spotOf 40 = .ok (.goto (-30), 3)) ∧ (decode cX9_spotOf 43 = .ok (.iinc 2 1, 3)) ∧ (decode cX9_spotOf 46 = .ok (.goto (-44), 3)) ∧ (decode cX9_spotOf 49 = .ok (.iconst (-1), 1)) ∧ (decode cX9_spotOf 50 = .ok (.ireturn, 1)) := by decide +kernel
theorem dX9_spotOf_36 : decode cX9_spotOf 36 = .ok (.ireturn, 1) := zd_122.1
theorem dX9_spotOf_37 : decode cX9_spotOf 37 = .ok (.iinc 3 1, 3) := zd_122.2.1
theorem dX9_spotOf_40 : decode cX9_spotOf 40 = .ok (.goto (-30), 3) := zd_122.2.2.1
theorem dX9_spotOf_43 : decode cX9_spotOf 43 = .ok (.iinc 2 1, 3) := zd_122.2.2.2.1
theorem dX9_spotOf_46 : decode cX9_spotOf 46 = .ok (.goto (-44), 3) := zd_122.2.2.2.2.1
theorem dX9_spotOf_49 : decode cX9_spotOf 49 = .ok (.iconst (-1), 1) := zd_122.2.2.2.2.2.1
theorem dX9_spotOf_50 : decode cX9_spotOf 50 = .ok (.ireturn, 1) := zd_122.2.2.2.2.2.2
theorem zd_123 : (decode cX9_clear 0 = .ok (.aload_n 0, 1)) ∧ (decode cX9_clear 1 = .ok (.getfield 15, 3)) ∧ (decode cX9_clear 4 = .ok (.bipush (-2), 2)) ∧ (decode cX9_clear 6 = .ok (.invokestatic 28, 3)) ∧ (decode cX9_clear 9 = .ok (.return_, 1)) := by decide +kernel
theorem dX9_clear_0 : decode cX9_clear 0 = .ok (.aload_n 0, 1) := zd_123.1
theorem dX9_clear_1 : decode cX9_clear 1 = .ok (.getfield 15, 3) := zd_123.2.1
theorem dX9_clear_4 : decode cX9_clear 4 = .ok (.bipush (-2), 2) := zd_123.2.2.1
theorem dX9_clear_6 : decode cX9_clear 6 = .ok (.invokestatic 28, 3) := zd_123.2.2.2.1
theorem dX9_clear_9 : decode cX9_clear 9 = .ok (.return_, 1) := zd_123.2.2.2.2
theorem zd_124 : (decode cX9_copyFrom 0 = .ok (.aload_n 1, 1)) ∧ (decode cX9_copyFrom 1 = .ok (.getfield 9, 3)) ∧ (decode cX9_copyFrom 4 = .ok (.iconst 0, 1)) ∧ (decode cX9_copyFrom 5 = .ok (.aload_n 0, 1)) ∧ (decode cX9_copyFrom 6 = .ok (.getfield 9, 3)) ∧ (decode cX9_copyFrom 9 = .ok (.iconst 0, 1)) ∧ (decode cX9_copyFrom 10 = .ok (.bipush 8, 2)) ∧ (decode cX9_copyFrom 12 = .ok (.invokestatic 68, 3)) := by decide +kernel
theorem dX9_copyFrom_0 : decode cX9_copyFrom 0 = .ok (.aload_n 1, 1) := zd_124.1
theorem dX9_copyFrom_1 : decode cX9_copyFrom 1 = .ok (.getfield 9, 3) := zd_124.2.1
theorem dX9_copyFrom_4 : decode cX9_copyFrom 4 = .ok (.iconst 0, 1) := zd_124.2.2.1
theorem dX9_copyFrom_5 : decode cX9_copyFrom 5 = .ok (.aload_n 0, 1) := zd_124.2.2.2.1
theorem dX9_copyFrom_6 : decode cX9_copyFrom 6 = .ok (.getfield 9, 3) := zd_124.2.2.2.2.1
theorem dX9_copyFrom_9 : decode cX9_copyFrom 9 = .ok (.iconst 0, 1) := zd_124.2.2.2.2.2.1
theorem dX9_copyFrom_10 : decode cX9_copyFrom 10 = .ok (.bipush 8, 2) := zd_124.2.2.2.2.2.2.1
theorem dX9_copyFrom_12 : decode cX9_copyFrom 12 = .ok (.invokestatic 68, 3) := zd_124.2.2.2.2.2.2.2
theorem zd_125 : (decode cX9_copyFrom 15 = .ok (.aload_n 1, 1)) ∧ (decode cX9_copyFrom 16 = .ok (.getfield 15, 3)) ∧ (decode cX9_copyFrom 19 = .ok (.iconst 0, 1)) ∧ (decode cX9_copyFrom 20 = .ok (.aload_n 0, 1)) ∧ (decode cX9_copyFrom 21 = .ok (.getfield 15, 3)) ∧ (decode cX9_copyFrom 24 = .ok (.iconst 0, 1)) ∧ (decode cX9_copyFrom 25 = .ok (.sipush 480, 3)) ∧ (decode cX9_copyFrom 28 = .ok (.invokestatic 68, 3)) := by decide +kernel
theorem dX9_copyFrom_15 : decode cX9_copyFrom 15 = .ok (.aload_n 1, 1) := zd_125.1
theorem dX9_copyFrom_16 : decode cX9_copyFrom 16 = .ok (.getfield 15, 3) := zd_125.2.1
theorem dX9_copyFrom_19 : decode cX9_copyFrom 19 = .ok (.iconst 0, 1) := zd_125.2.2.1
theorem dX9_copyFrom_20 : decode cX9_copyFrom 20 = .ok (.aload_n 0, 1) := zd_125.2.2.2.1
theorem dX9_copyFrom_21 : decode cX9_copyFrom 21 = .ok (.getfield 15, 3) := zd_125.2.2.2.2.1
theorem dX9_copyFrom_24 : decode cX9_copyFrom 24 = .ok (.iconst 0, 1) := zd_125.2.2.2.2.2.1
theorem dX9_copyFrom_25 : decode cX9_copyFrom 25 = .ok (.sipush 480, 3) := zd_125.2.2.2.2.2.2.1
theorem dX9_copyFrom_28 : decode cX9_copyFrom 28 = .ok (.invokestatic 68, 3) := zd_125.2.2.2.2.2.2.2
theorem dX9_copyFrom_31 : decode cX9_copyFrom 31 = .ok (.return_, 1) := by decide +kernel
