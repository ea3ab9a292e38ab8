theorem zd_126 : (decode cX10_init 0 = .ok (.aload_n 0, 1)) ∧ (decode cX10_init 1 = .ok (.iload_n 1, 1)) ∧ (decode cX10_init 2 = .ok (.iconst 0, 1)) ∧ (decode cX10_init 3 = .ok (.bipush 6, 2)) ∧ (decode cX10_init 5 = .ok (.invokespecial 3, 3)) ∧ (decode cX10_init 8 = .ok (.aload_n 0, 1)) ∧ (decode cX10_init 9 = .ok (.bipush 80, 2)) ∧ (decode cX10_init 11 = .ok (.newarray .int, 2)) := by decide +kernel
theorem dX10_init_0 : decode cX10_init 0 = .ok (.aload_n 0, 1) := zd_126.1
theorem dX10_init_1 : decode cX10_init 1 = .ok (.iload_n 1, 1) := zd_126.2.1
theorem dX10_init_2 : decode cX10_init 2 = .ok (.iconst 0, 1) := zd_126.2.2.1
theorem dX10_init_3 : decode cX10_init 3 = .ok (.bipush 6, 2) := zd_126.2.2.2.1
theorem dX10_init_5 : decode cX10_init 5 = .ok (.invokespecial 3, 3) := zd_126.2.2.2.2.1
theorem dX10_init_8 : decode cX10_init 8 = .ok (.aload_n 0, 1) := zd_126.2.2.2.2.2.1
theorem dX10_init_9 : decode cX10_init 9 = .ok (.bipush 80, 2) := zd_126.2.2.2.2.2.2.1
theorem dX10_init_11 : decode cX10_init 11 = .ok (.newarray .int, 2) := zd_126.2.2.2.2.2.2.2
theorem zd_127 : (decode cX10_init 13 = .ok (.putfield 9, 3)) ∧ (decode cX10_init 16 = .ok (.aload_n 0, 1)) ∧ (decode cX10_init 17 = .ok (.iconst 0, 1)) ∧ (decode cX10_init 18 = .ok (.putfield 15, 3)) ∧ (decode cX10_init 21 = .ok (.aload_n 0, 1)) ∧ (decode cX10_init 22 = .ok (.bipush 10, 2)) ∧ (decode cX10_init 24 = .ok (.newarray .boolean, 2)) ∧ (decode cX10_init 26 = .ok (.putfield 19, 3)) := by decide +kernel
theorem dX10_init_13 : decode cX10_init 13 = .ok (.putfield 9, 3) := zd_127.1
theorem dX10_init_16 : decode cX10_init 16 = .ok (.aload_n 0, 1) := zd_127.2.1
theorem dX10_init_17 : decode cX10_init 17 = .ok (.iconst 0, 1) := zd_127.2.2.1
theorem dX10_init_18 : decode cX10_init 18 = .ok (.putfield 15, 3) := zd_127.2.2.2.1
theorem dX10_init_21 : decode cX10_init 21 = .ok (.aload_n 0, 1) := zd_127.2.2.2.2.1
theorem dX10_init_22 : decode cX10_init 22 = .ok (.bipush 10, 2) := zd_127.2.2.2.2.2.1
theorem dX10_init_24 : decode cX10_init 24 = .ok (.newarray .boolean, 2) := zd_127.2.2.2.2.2.2.1
theorem dX10_init_26 : decode cX10_init 26 = .ok (.putfield 19, 3) := zd_127.2.2.2.2.2.2.2
theorem zd_128 : (decode cX10_init 29 = .ok (.aload_n 0, 1)) ∧ (decode cX10_init 30 = .ok (.iload_n 2, 1)) ∧ (decode cX10_init 31 = .ok (.putfield 23, 3)) ∧ (decode cX10_init 34 = .ok (.return_, 1)) := by decide +kernel
theorem dX10_init_29 : decode cX10_init 29 = .ok (.aload_n 0, 1) := zd_128.1
theorem dX10_init_30 : decode cX10_init 30 = .ok (.iload_n 2, 1) := zd_128.2.1
theorem dX10_init_31 : decode cX10_init 31 = .ok (.putfield 23, 3) := zd_128.2.2.1
theorem dX10_init_34 : decode cX10_init 34 = .ok (.return_, 1) := zd_128.2.2.2
theorem zd_129 : (decode cX10_takeIn 0 = .ok (.aload_n 0, 1)) ∧ (decode cX10_takeIn 1 = .ok (.getfield 15, 3)) ∧ (decode cX10_takeIn 4 = .ok (.bipush 80, 2)) ∧ (decode cX10_takeIn 6 = .ok (.if_icmp .lt 5, 3)) ∧ (decode cX10_takeIn 9 = .ok (.iconst (-1), 1)) ∧ (decode cX10_takeIn 10 = .ok (.ireturn, 1)) ∧ (decode cX10_takeIn 11 = .ok (.aload_n 0, 1)) ∧ (decode cX10_takeIn 12 = .ok (.getfield 9, 3)) := by decide +kernel
theorem dX10_takeIn_0 : decode cX10_takeIn 0 = .ok (.aload_n 0, 1) := zd_129.1
theorem dX10_takeIn_1 : decode cX10_takeIn 1 = .ok (.getfield 15, 3) := zd_129.2.1
theorem dX10_takeIn_4 : decode cX10_takeIn 4 = .ok (.bipush 80, 2) := zd_129.2.2.1
theorem dX10_takeIn_6 : decode cX10_takeIn 6 = .ok (.if_icmp .lt 5, 3) := zd_129.2.2.2.1
theorem dX10_takeIn_9 : decode cX10_takeIn 9 = .ok (.iconst (-1), 1) := zd_129.2.2.2.2.1
theorem dX10_takeIn_10 : decode cX10_takeIn 10 = .ok (.ireturn, 1) := zd_129.2.2.2.2.2.1
theorem dX10_takeIn_11 : decode cX10_takeIn 11 = .ok (.aload_n 0, 1) := zd_129.2.2.2.2.2.2.1
theorem dX10_takeIn_12 : decode cX10_takeIn 12 = .ok (.getfield 9, 3) := zd_129.2.2.2.2.2.2.2
theorem zd_130 : (decode cX10_takeIn 15 = .ok (.aload_n 0, 1)) ∧ (decode cX10_takeIn 16 = .ok (.getfield 15, 3)) ∧ (decode cX10_takeIn 19 = .ok (.iload_n 1, 1)) ∧ (decode cX10_takeIn 20 = .ok (.iastore, 1)) ∧ (decode cX10_takeIn 21 = .ok (.aload_n 0, 1)) ∧ (decode cX10_takeIn 22 = .ok (.dup, 1)) ∧ (decode cX10_takeIn 23 = .ok (.getfield 15, 3)) ∧ (decode cX10_takeIn 26 = .ok (.iconst 1, 1)) := by decide +kernel
theorem dX10_takeIn_15 : decode cX10_takeIn 15 = .ok (.aload_n 0, 1) := zd_130.1
theorem dX10_takeIn_16 : decode cX10_takeIn 16 = .ok (.getfield 15, 3) := zd_130.2.1
theorem dX10_takeIn_19 : decode cX10_takeIn 19 = .ok (.iload_n 1, 1) := zd_130.2.2.1
theorem dX10_takeIn_20 : decode cX10_takeIn 20 = .ok (.iastore, 1) := zd_130.2.2.2.1
theorem dX10_takeIn_21 : decode cX10_takeIn 21 = .ok (.aload_n 0, 1) := zd_130.2.2.2.2.1
theorem dX10_takeIn_22 : decode cX10_takeIn 22 = .ok (.dup, 1) := zd_130.2.2.2.2.2.1
theorem dX10_takeIn_23 : decode cX10_takeIn 23 = .ok (.getfield 15, 3) := zd_130.2.2.2.2.2.2.1
theorem dX10_takeIn_26 : decode cX10_takeIn 26 = .ok (.iconst 1, 1) := zd_130.2.2.2.2.2.2.2
theorem zd_131 : (decode cX10_takeIn 27 = .ok (.iadd, 1)) ∧ (decode cX10_takeIn 28 = .ok (.putfield 15, 3)) ∧ (decode cX10_takeIn 31 = .ok (.aload_n 0, 1)) ∧ (decode cX10_takeIn 32 = .ok (.getfield 15, 3)) ∧ (decode cX10_takeIn 35 = .ok (.ireturn, 1)) := by decide +kernel
theorem dX10_takeIn_27 : decode cX10_takeIn 27 = .ok (.iadd, 1) := zd_131.1
theorem dX10_takeIn_28 : decode cX10_takeIn 28 = .ok (.putfield 15, 3) := zd_131.2.1
theorem dX10_takeIn_31 : decode cX10_takeIn 31 = .ok (.aload_n 0, 1) := zd_131.2.2.1
theorem dX10_takeIn_32 : decode cX10_takeIn 32 = .ok (.getfield 15, 3) := zd_131.2.2.2.1
theorem dX10_takeIn_35 : decode cX10_takeIn 35 = .ok (.ireturn, 1) := zd_131.2.2.2.2
theorem zd_132 : (decode cX10_linesBy 0 = .ok (.iload_n 1, 1)) ∧ (decode cX10_linesBy 1 = .ok (.iconst 1, 1)) ∧ (decode cX10_linesBy 2 = .ok (.bipush 60, 2)) ∧ (decode cX10_linesBy 4 = .ok (.invokestatic 26, 3)) ∧ (decode cX10_linesBy 7 = .ok (.ifCond .eq 7, 3)) ∧ (decode cX10_linesBy 10 = .ok (.iload_n 1, 1)) ∧ (decode cX10_linesBy 11 = .ok (.goto 4, 3)) ∧ (decode cX10_linesBy 14 = .ok (.iconst 0, 1)) := by decide +kernel
theorem dX10_linesBy_0 : decode cX10_linesBy 0 = .ok (.iload_n 1, 1) := zd_132.1
theorem dX10_linesBy_1 : decode cX10_linesBy 1 = .ok (.iconst 1, 1) := zd_132.2.1
theorem dX10_linesBy_2 : decode cX10_linesBy 2 = .ok (.bipush 60, 2) := zd_132.2.2.1
theorem dX10_linesBy_4 : decode cX10_linesBy 4 = .ok (.invokestatic 26, 3) := zd_132.2.2.2.1
theorem dX10_linesBy_7 : decode cX10_linesBy 7 = .ok (.ifCond .eq 7, 3) := zd_132.2.2.2.2.1
theorem dX10_linesBy_10 : decode cX10_linesBy 10 = .ok (.iload_n 1, 1) := zd_132.2.2.2.2.2.1
theorem dX10_linesBy_11 : decode cX10_linesBy 11 = .ok (.goto 4, 3) := zd_132.2.2.2.2.2.2.1
theorem dX10_linesBy_14 : decode cX10_linesBy 14 = .ok (.iconst 0, 1) := zd_132.2.2.2.2.2.2.2
theorem dX10_linesBy_15 : decode cX10_linesBy 15 = .ok (.ireturn, 1) := by decide +kernel
theorem zd_133 : (decode cX10_maySit 0 = .ok (.aload_n 0, 1)) ∧ (decode cX10_maySit 1 = .ok (.invokevirtual 30, 3)) ∧ (decode cX10_maySit 4 = .ok (.astore 4, 2)) ∧ (decode cX10_maySit 6 = .ok (.aload 4, 2)) ∧ (decode cX10_maySit 8 = .ok (.ifnonnull 14, 3)) ∧ (decode cX10_maySit 11 = .ok (.aload_n 0, 1)) ∧ (decode cX10_maySit 12 = .ok (.iconst 0, 1)) ∧ (decode cX10_maySit 13 = .ok (.aload_n 1, 1)) := by decide +kernel
theorem dX10_maySit_0 : decode cX10_maySit 0 = .ok (.aload_n 0, 1) := zd_133.1
theorem dX10_maySit_1 : decode cX10_maySit 1 = .ok (.invokevirtual 30, 3) := zd_133.2.1
theorem dX10_maySit_4 : decode cX10_maySit 4 = .ok (.astore 4, 2) := zd_133.2.2.1
theorem dX10_maySit_6 : decode cX10_maySit 6 = .ok (.aload 4, 2) := zd_133.2.2.2.1
theorem dX10_maySit_8 : decode cX10_maySit 8 = .ok (.ifnonnull 14, 3) := zd_133.2.2.2.2.1
theorem dX10_maySit_11 : decode cX10_maySit 11 = .ok (.aload_n 0, 1) := zd_133.2.2.2.2.2.1
theorem dX10_maySit_12 : decode cX10_maySit 12 = .ok (.iconst 0, 1) := zd_133.2.2.2.2.2.2.1
theorem dX10_maySit_13 : decode cX10_maySit 13 = .ok (.aload_n 1, 1) := zd_133.2.2.2.2.2.2.2
theorem zd_134 : (decode cX10_maySit 14 = .ok (.getfield 34, 3)) ∧ (decode cX10_maySit 17 = .ok (.iload_n 2, 1)) ∧ (decode cX10_maySit 18 = .ok (.invokevirtual 39, 3)) ∧ (decode cX10_maySit 21 = .ok (.ireturn, 1)) ∧ (decode cX10_maySit 22 = .ok (.aload_n 1, 1)) ∧ (decode cX10_maySit 23 = .ok (.getfield 42, 3)) ∧ (decode cX10_maySit 26 = .ok (.aload 4, 2)) ∧ (decode cX10_maySit 28 = .ok (.getfield 42, 3)) := by decide +kernel
theorem dX10_maySit_14 : decode cX10_maySit 14 = .ok (.getfield 34, 3) := zd_134.1
theorem dX10_maySit_17 : decode cX10_maySit 17 = .ok (.iload_n 2, 1) := zd_134.2.1
theorem dX10_maySit_18 : decode cX10_maySit 18 = .ok (.invokevirtual 39, 3) := zd_134.2.2.1
theorem dX10_maySit_21 : decode cX10_maySit 21 = .ok (.ireturn, 1) := zd_134.2.2.2.1
theorem dX10_maySit_22 : decode cX10_maySit 22 = .ok (.aload_n 1, 1) := zd_134.2.2.2.2.1
theorem dX10_maySit_23 : decode cX10_maySit 23 = .ok (.getfield 42, 3) := zd_134.2.2.2.2.2.1
theorem dX10_maySit_26 : decode cX10_maySit 26 = .ok (.aload 4, 2) := zd_134.2.2.2.2.2.2.1
theorem dX10_maySit_28 : decode cX10_maySit 28 = .ok (.getfield 42, 3) := zd_134.2.2.2.2.2.2.2
theorem zd_135 : (decode cX10_maySit 31 = .ok (.if_icmp .ne 7, 3)) ∧ (decode cX10_maySit 34 = .ok (.iconst 0, 1)) ∧ (decode cX10_maySit 35 = .ok (.goto 4, 3)) ∧ (decode cX10_maySit 38 = .ok (.iconst 1, 1)) ∧ (decode cX10_maySit 39 = .ok (.istore 5, 2)) ∧ (decode cX10_maySit 41 = .ok (.aload_n 1, 1)) ∧ (decode cX10_maySit 42 = .ok (.aload 4, 2)) ∧ (decode cX10_maySit 44 = .ok (.invokevirtual 45, 3)) := by decide +kernel
theorem dX10_maySit_31 : decode cX10_maySit 31 = .ok (.if_icmp .ne 7, 3) := zd_135.1
theorem dX10_maySit_34 : decode cX10_maySit 34 = .ok (.iconst 0, 1) := zd_135.2.1
theorem dX10_maySit_35 : decode cX10_maySit 35 = .ok (.goto 4, 3) := zd_135.2.2.1
theorem dX10_maySit_38 : decode cX10_maySit 38 = .ok (.iconst 1, 1) := zd_135.2.2.2.1
theorem dX10_maySit_39 : decode cX10_maySit 39 = .ok (.istore 5, 2) := zd_135.2.2.2.2.1
theorem dX10_maySit_41 : decode cX10_maySit 41 = .ok (.aload_n 1, 1) := zd_135.2.2.2.2.2.1
theorem dX10_maySit_42 : decode cX10_maySit 42 = .ok (.aload 4, 2) := zd_135.2.2.2.2.2.2.1
theorem dX10_maySit_44 : decode cX10_maySit 44 = .ok (.invokevirtual 45, 3) := zd_135.2.2.2.2.2.2.2
theorem zd_136 : (decode cX10_maySit 47 = .ok (.ifCond .eq 20, 3)) ∧ (decode cX10_maySit 50 = .ok (.aload_n 0, 1)) ∧ (decode cX10_maySit 51 = .ok (.aload_n 0, 1)) ∧ (decode cX10_maySit 52 = .ok (.getfield 49, 3)) ∧ (decode cX10_maySit 55 = .ok (.iconst 1, 1)) ∧ (decode cX10_maySit 56 = .ok (.isub, 1)) ∧ (decode cX10_maySit 57 = .ok (.invokevirtual 52, 3)) ∧ (decode cX10_maySit 60 = .ok (.iload 5, 2)) := by decide +kernel
theorem dX10_maySit_47 : decode cX10_maySit 47 = .ok (.ifCond .eq 20, 3) := zd_136.1
theorem dX10_maySit_50 : decode cX10_maySit 50 = .ok (.aload_n 0, 1) := zd_136.2.1
theorem dX10_maySit_51 : decode cX10_maySit 51 = .ok (.aload_n 0, 1) := zd_136.2.2.1
theorem dX10_maySit_52 : decode cX10_maySit 52 = .ok (.getfield 49, 3) := zd_136.2.2.2.1
theorem dX10_maySit_55 : decode cX10_maySit 55 = .ok (.iconst 1, 1) := zd_136.2.2.2.2.1
theorem dX10_maySit_56 : decode cX10_maySit 56 = .ok (.isub, 1) := zd_136.2.2.2.2.2.1
theorem dX10_maySit_57 : decode cX10_maySit 57 = .ok (.invokevirtual 52, 3) := zd_136.2.2.2.2.2.2.1
theorem dX10_maySit_60 : decode cX10_maySit 60 = .ok (.iload 5, 2) := zd_136.2.2.2.2.2.2.2
theorem zd_137 : (decode cX10_maySit 62 = .ok (.isub, 1)) ∧ (decode cX10_maySit 63 = .ok (.iconst 1, 1)) ∧ (decode cX10_maySit 64 = .ok (.if_icmp .ge 5, 3)) ∧ (decode cX10_maySit 67 = .ok (.iconst 0, 1)) ∧ (decode cX10_maySit 68 = .ok (.ireturn, 1)) ∧ (decode cX10_maySit 69 = .ok (.aload_n 0, 1)) ∧ (decode cX10_maySit 70 = .ok (.aload_n 0, 1)) ∧ (decode cX10_maySit 71 = .ok (.invokevirtual 56, 3)) := by decide +kernel
theorem dX10_maySit_62 : decode cX10_maySit 62 = .ok (.isub, 1) := zd_137.1
theorem dX10_maySit_63 : decode cX10_maySit 63 = .ok (.iconst 1, 1) := zd_137.2.1
theorem dX10_maySit_64 : decode cX10_maySit 64 = .ok (.if_icmp .ge 5, 3) := zd_137.2.2.1
theorem dX10_maySit_67 : decode cX10_maySit 67 = .ok (.iconst 0, 1) := zd_137.2.2.2.1
theorem dX10_maySit_68 : decode cX10_maySit 68 = .ok (.ireturn, 1) := zd_137.2.2.2.2.1
theorem dX10_maySit_69 : decode cX10_maySit 69 = .ok (.aload_n 0, 1) := zd_137.2.2.2.2.2.1
theorem dX10_maySit_70 : decode cX10_maySit 70 = .ok (.aload_n 0, 1) := zd_137.2.2.2.2.2.2.1
theorem dX10_maySit_71 : decode cX10_maySit 71 = .ok (.invokevirtual 56, 3) := zd_137.2.2.2.2.2.2.2
theorem zd_138 : (decode cX10_maySit 74 = .ok (.iload 5, 2)) ∧ (decode cX10_maySit 76 = .ok (.isub, 1)) ∧ (decode cX10_maySit 77 = .ok (.aload_n 1, 1)) ∧ (decode cX10_maySit 78 = .ok (.getfield 34, 3)) ∧ (decode cX10_maySit 81 = .ok (.iload 5, 2)) ∧ (decode cX10_maySit 83 = .ok (.isub, 1)) ∧ (decode cX10_maySit 84 = .ok (.iload_n 2, 1)) ∧ (decode cX10_maySit 85 = .ok (.invokevirtual 39, 3)) := by decide +kernel
theorem dX10_maySit_74 : decode cX10_maySit 74 = .ok (.iload 5, 2) := zd_138.1
theorem dX10_maySit_76 : decode cX10_maySit 76 = .ok (.isub, 1) := zd_138.2.1
theorem dX10_maySit_77 : decode cX10_maySit 77 = .ok (.aload_n 1, 1) := zd_138.2.2.1
theorem dX10_maySit_78 : decode cX10_maySit 78 = .ok (.getfield 34, 3) := zd_138.2.2.2.1
theorem dX10_maySit_81 : decode cX10_maySit 81 = .ok (.iload 5, 2) := zd_138.2.2.2.2.1
theorem dX10_maySit_83 : decode cX10_maySit 83 = .ok (.isub, 1) := zd_138.2.2.2.2.2.1
theorem dX10_maySit_84 : decode cX10_maySit 84 = .ok (.iload_n 2, 1) := zd_138.2.2.2.2.2.2.1
theorem dX10_maySit_85 : decode cX10_maySit 85 = .ok (.invokevirtual 39, 3) := zd_138.2.2.2.2.2.2.2
theorem dX10_maySit_88 : decode cX10_maySit 88 = .ok (.ireturn, 1) := by decide +kernel
theorem zd_139 : (decode cX10_canTake 0 = .ok (.iload_n 1, 1)) ∧ (decode cX10_canTake 1 = .ok (.ifCond .lt 18, 3)) ∧ (decode cX10_canTake 4 = .ok (.iload_n 2, 1)) ∧ (decode cX10_canTake 5 = .ok (.iconst 1, 1)) ∧ (decode cX10_canTake 6 = .ok (.if_icmp .lt 13, 3)) ∧ (decode cX10_canTake 9 = .ok (.iload_n 2, 1)) ∧ (decode cX10_canTake 10 = .ok (.aload_n 0, 1)) ∧ (decode cX10_canTake 11 = .ok (.getfield 15, 3)) := by decide +kernel
theorem dX10_canTake_0 : decode cX10_canTake 0 = .ok (.iload_n 1, 1) := zd_139.1
theorem dX10_canTake_1 : decode cX10_canTake 1 = .ok (.ifCond .lt 18, 3) := zd_139.2.1
theorem dX10_canTake_4 : decode cX10_canTake 4 = .ok (.iload_n 2, 1) := zd_139.2.2.1
theorem dX10_canTake_5 : decode cX10_canTake 5 = .ok (.iconst 1, 1) := zd_139.2.2.2.1
theorem dX10_canTake_6 : decode cX10_canTake 6 = .ok (.if_icmp .lt 13, 3) := zd_139.2.2.2.2.1
theorem dX10_canTake_9 : decode cX10_canTake 9 = .ok (.iload_n 2, 1) := zd_139.2.2.2.2.2.1
theorem dX10_canTake_10 : decode cX10_canTake 10 = .ok (.aload_n 0, 1) := zd_139.2.2.2.2.2.2.1
theorem dX10_canTake_11 : decode cX10_canTake 11 = .ok (.getfield 15, 3) := zd_139.2.2.2.2.2.2.2
theorem zd_140 : (decode cX10_canTake 14 = .ok (.iload_n 1, 1)) ∧ (decode cX10_canTake 15 = .ok (.isub, 1)) ∧ (decode cX10_canTake 16 = .ok (.if_icmp .le 5, 3)) ∧ (decode cX10_canTake 19 = .ok (.iconst 0, 1)) ∧ (decode cX10_canTake 20 = .ok (.ireturn, 1)) ∧ (decode cX10_canTake 21 = .ok (.iload_n 1, 1)) ∧ (decode cX10_canTake 22 = .ok (.istore 4, 2)) ∧ (decode cX10_canTake 24 = .ok (.iload 4, 2)) := by decide +kernel
theorem dX10_canTake_14 : decode cX10_canTake 14 = .ok (.iload_n 1, 1) := zd_140.1
theorem dX10_canTake_15 : decode cX10_canTake 15 = .ok (.isub, 1) := zd_140.2.1
theorem dX10_canTake_16 : decode cX10_canTake 16 = .ok (.if_icmp .le 5, 3) := zd_140.2.2.1
theorem dX10_canTake_19 : decode cX10_canTake 19 = .ok (.iconst 0, 1) := zd_140.2.2.2.1
theorem dX10_canTake_20 : decode cX10_canTake 20 = .ok (.ireturn, 1) := zd_140.2.2.2.2.1
theorem dX10_canTake_21 : decode cX10_canTake 21 = .ok (.iload_n 1, 1) := zd_140.2.2.2.2.2.1
theorem dX10_canTake_22 : decode cX10_canTake 22 = .ok (.istore 4, 2) := zd_140.2.2.2.2.2.2.1
theorem dX10_canTake_24 : decode cX10_canTake 24 = .ok (.iload 4, 2) := zd_140.2.2.2.2.2.2.2
theorem zd_141 : (decode cX10_canTake 26 = .ok (.iload_n 1, 1)) ∧ (decode cX10_canTake 27 = .ok (.iload_n 2, 1)) ∧ (decode cX10_canTake 28 = .ok (.iadd, 1)) ∧ (decode cX10_canTake 29 = .ok (.if_icmp .ge 22, 3)) ∧ (decode cX10_canTake 32 = .ok (.aload_n 0, 1)) ∧ (decode cX10_canTake 33 = .ok (.getfield 9, 3)) ∧ (decode cX10_canTake 36 = .ok (.iload 4, 2)) ∧ (decode cX10_canTake 38 = .ok (.iaload, 1)) := by decide +kernel
theorem dX10_canTake_26 : decode cX10_canTake 26 = .ok (.iload_n 1, 1) := zd_141.1
theorem dX10_canTake_27 : decode cX10_canTake 27 = .ok (.iload_n 2, 1) := zd_141.2.1
theorem dX10_canTake_28 : decode cX10_canTake 28 = .ok (.iadd, 1) := zd_141.2.2.1
theorem dX10_canTake_29 : decode cX10_canTake 29 = .ok (.if_icmp .ge 22, 3) := zd_141.2.2.2.1
theorem dX10_canTake_32 : decode cX10_canTake 32 = .ok (.aload_n 0, 1) := zd_141.2.2.2.2.1
theorem dX10_canTake_33 : decode cX10_canTake 33 = .ok (.getfield 9, 3) := zd_141.2.2.2.2.2.1
theorem dX10_canTake_36 : decode cX10_canTake 36 = .ok (.iload 4, 2) := zd_141.2.2.2.2.2.2.1
theorem dX10_canTake_38 : decode cX10_canTake 38 = .ok (.iaload, 1) := zd_141.2.2.2.2.2.2.2
theorem zd_142 : (decode cX10_canTake 39 = .ok (.iload_n 3, 1)) ∧ (decode cX10_canTake 40 = .ok (.if_icmp .le 5, 3)) ∧ (decode cX10_canTake 43 = .ok (.iconst 0, 1)) ∧ (decode cX10_canTake 44 = .ok (.ireturn, 1)) ∧ (decode cX10_canTake 45 = .ok (.iinc 4 1, 3)) ∧ (decode cX10_canTake 48 = .ok (.goto (-24), 3)) ∧ (decode cX10_canTake 51 = .ok (.iconst 1, 1)) ∧ (decode cX10_canTake 52 = .ok (.ireturn, 1)) := by decide +kernel
theorem dX10_canTake_39 : decode cX10_canTake 39 = .ok (.iload_n 3, 1) := zd_142.1
theorem dX10_canTake_40 : decode cX10_canTake 40 = .ok (.if_icmp .le 5, 3) := zd_142.2.1
theorem dX10_canTake_43 : decode cX10_canTake 43 = .ok (.iconst 0, 1) := zd_142.2.2.1
theorem dX10_canTake_44 : decode cX10_canTake 44 = .ok (.ireturn, 1) := zd_142.2.2.2.1
theorem dX10_canTake_45 : decode cX10_canTake 45 = .ok (.iinc 4 1, 3) := zd_142.2.2.2.2.1
theorem dX10_canTake_48 : decode cX10_canTake 48 = .ok (.goto (-24), 3) := zd_142.2.2.2.2.2.1
theorem dX10_canTake_51 : decode cX10_canTake 51 = .ok (.iconst 1, 1) := zd_142.2.2.2.2.2.2.1
theorem dX10_canTake_52 : decode cX10_canTake 52 = .ok (.ireturn, 1) := zd_142.2.2.2.2.2.2.2
theorem zd_143 : (decode cX10_takenBy 0 = .ok (.iload_n 1, 1)) ∧ (decode cX10_takenBy 1 = .ok (.iconst 0, 1)) ∧ (decode cX10_takenBy 2 = .ok (.aload_n 0, 1)) ∧ (decode cX10_takenBy 3 = .ok (.getfield 49, 3)) ∧ (decode cX10_takenBy 6 = .ok (.iconst 1, 1)) ∧ (decode cX10_takenBy 7 = .ok (.isub, 1)) ∧ (decode cX10_takenBy 8 = .ok (.invokestatic 26, 3)) ∧ (decode cX10_takenBy 11 = .ok (.ifCond .ne 5, 3)) := by decide +kernel
theorem dX10_takenBy_0 : decode cX10_takenBy 0 = .ok (.iload_n 1, 1) := zd_143.1
theorem dX10_takenBy_1 : decode cX10_takenBy 1 = .ok (.iconst 0, 1) := zd_143.2.1
theorem dX10_takenBy_2 : decode cX10_takenBy 2 = .ok (.aload_n 0, 1) := zd_143.2.2.1
theorem dX10_takenBy_3 : decode cX10_takenBy 3 = .ok (.getfield 49, 3) := zd_143.2.2.2.1
theorem dX10_takenBy_6 : decode cX10_takenBy 6 = .ok (.iconst 1, 1) := zd_143.2.2.2.2.1
theorem dX10_takenBy_7 : decode cX10_takenBy 7 = .ok (.isub, 1) := zd_143.2.2.2.2.2.1
theorem dX10_takenBy_8 : decode cX10_takenBy 8 = .ok (.invokestatic 26, 3) := zd_143.2.2.2.2.2.2.1
theorem dX10_takenBy_11 : decode cX10_takenBy 11 = .ok (.ifCond .ne 5, 3) := zd_143.2.2.2.2.2.2.2
theorem zd_144 : (decode cX10_takenBy 14 = .ok (.iconst 0, 1)) ∧ (decode cX10_takenBy 15 = .ok (.ireturn, 1)) ∧ (decode cX10_takenBy 16 = .ok (.aload_n 0, 1)) ∧ (decode cX10_takenBy 17 = .ok (.getfield 60, 3)) ∧ (decode cX10_takenBy 20 = .ok (.iload_n 1, 1)) ∧ (decode cX10_takenBy 21 = .ok (.aaload, 1)) ∧ (decode cX10_takenBy 22 = .ok (.getfield 34, 3)) ∧ (decode cX10_takenBy 25 = .ok (.istore_n 2, 1)) := by decide +kernel
theorem dX10_takenBy_14 : decode cX10_takenBy 14 = .ok (.iconst 0, 1) := zd_144.1
theorem dX10_takenBy_15 : decode cX10_takenBy 15 = .ok (.ireturn, 1) := zd_144.2.1
theorem dX10_takenBy_16 : decode cX10_takenBy 16 = .ok (.aload_n 0, 1) := zd_144.2.2.1
theorem dX10_takenBy_17 : decode cX10_takenBy 17 = .ok (.getfield 60, 3) := zd_144.2.2.2.1
theorem dX10_takenBy_20 : decode cX10_takenBy 20 = .ok (.iload_n 1, 1) := zd_144.2.2.2.2.1
theorem dX10_takenBy_21 : decode cX10_takenBy 21 = .ok (.aaload, 1) := zd_144.2.2.2.2.2.1
theorem dX10_takenBy_22 : decode cX10_takenBy 22 = .ok (.getfield 34, 3) := zd_144.2.2.2.2.2.2.1
theorem dX10_takenBy_25 : decode cX10_takenBy 25 = .ok (.istore_n 2, 1) := zd_144.2.2.2.2.2.2.2
theorem zd_145 : (decode cX10_takenBy 26 = .ok (.iload_n 1, 1)) ∧ (decode cX10_takenBy 27 = .ok (.ifCond .le 29, 3)) ∧ (decode cX10_takenBy 30 = .ok (.aload_n 0, 1)) ∧ (decode cX10_takenBy 31 = .ok (.getfield 60, 3)) ∧ (decode cX10_takenBy 34 = .ok (.iload_n 1, 1)) ∧ (decode cX10_takenBy 35 = .ok (.iconst 1, 1)) ∧ (decode cX10_takenBy 36 = .ok (.isub, 1)) ∧ (decode cX10_takenBy 37 = .ok (.aaload, 1)) := by decide +kernel
theorem dX10_takenBy_26 : decode cX10_takenBy 26 = .ok (.iload_n 1, 1) := zd_145.1
theorem dX10_takenBy_27 : decode cX10_takenBy 27 = .ok (.ifCond .le 29, 3) := zd_145.2.1
theorem dX10_takenBy_30 : decode cX10_takenBy 30 = .ok (.aload_n 0, 1) := zd_145.2.2.1
theorem dX10_takenBy_31 : decode cX10_takenBy 31 = .ok (.getfield 60, 3) := zd_145.2.2.2.1
theorem dX10_takenBy_34 : decode cX10_takenBy 34 = .ok (.iload_n 1, 1) := zd_145.2.2.2.2.1
theorem dX10_takenBy_35 : decode cX10_takenBy 35 = .ok (.iconst 1, 1) := zd_145.2.2.2.2.2.1
theorem dX10_takenBy_36 : decode cX10_takenBy 36 = .ok (.isub, 1) := zd_145.2.2.2.2.2.2.1
theorem dX10_takenBy_37 : decode cX10_takenBy 37 = .ok (.aaload, 1) := zd_145.2.2.2.2.2.2.2
theorem zd_146 : (decode cX10_takenBy 38 = .ok (.getfield 42, 3)) ∧ (decode cX10_takenBy 41 = .ok (.aload_n 0, 1)) ∧ (decode cX10_takenBy 42 = .ok (.getfield 60, 3)) ∧ (decode cX10_takenBy 45 = .ok (.iload_n 1, 1)) ∧ (decode cX10_takenBy 46 = .ok (.aaload, 1)) ∧ (decode cX10_takenBy 47 = .ok (.getfield 42, 3)) ∧ (decode cX10_takenBy 50 = .ok (.if_icmp .eq 6, 3)) ∧ (decode cX10_takenBy 53 = .ok (.iinc 2 (-1), 3)) := by decide +kernel
theorem dX10_takenBy_38 : decode cX10_takenBy 38 = .ok (.getfield 42, 3) := zd_146.1
theorem dX10_takenBy_41 : decode cX10_takenBy 41 = .ok (.aload_n 0, 1) := zd_146.2.1
theorem dX10_takenBy_42 : decode cX10_takenBy 42 = .ok (.getfield 60, 3) := zd_146.2.2.1
theorem dX10_takenBy_45 : decode cX10_takenBy 45 = .ok (.iload_n 1, 1) := zd_146.2.2.2.1
theorem dX10_takenBy_46 : decode cX10_takenBy 46 = .ok (.aaload, 1) := zd_146.2.2.2.2.1
theorem dX10_takenBy_47 : decode cX10_takenBy 47 = .ok (.getfield 42, 3) := zd_146.2.2.2.2.2.1
theorem dX10_takenBy_50 : decode cX10_takenBy 50 = .ok (.if_icmp .eq 6, 3) := zd_146.2.2.2.2.2.2.1
theorem dX10_takenBy_53 : decode cX10_takenBy 53 = .ok (.iinc 2 (-1), 3) := zd_146.2.2.2.2.2.2.2
theorem zd_147 : (decode cX10_takenBy 56 = .ok (.iload_n 1, 1)) ∧ (decode cX10_takenBy 57 = .ok (.iconst 1, 1)) ∧ (decode cX10_takenBy 58 = .ok (.iadd, 1)) ∧ (decode cX10_takenBy 59 = .ok (.aload_n 0, 1)) ∧ (decode cX10_takenBy 60 = .ok (.getfield 49, 3)) ∧ (decode cX10_takenBy 63 = .ok (.if_icmp .ge 29, 3)) ∧ (decode cX10_takenBy 66 = .ok (.aload_n 0, 1)) ∧ (decode cX10_takenBy 67 = .ok (.getfield 60, 3)) := by decide +kernel
theorem dX10_takenBy_56 : decode cX10_takenBy 56 = .ok (.iload_n 1, 1) := zd_147.1
theorem dX10_takenBy_57 : decode cX10_takenBy 57 = .ok (.iconst 1, 1) := zd_147.2.1
theorem dX10_takenBy_58 : decode cX10_takenBy 58 = .ok (.iadd, 1) := zd_147.2.2.1
theorem dX10_takenBy_59 : decode cX10_takenBy 59 = .ok (.aload_n 0, 1) := zd_147.2.2.2.1
theorem dX10_takenBy_60 : decode cX10_takenBy 60 = .ok (.getfield 49, 3) := zd_147.2.2.2.2.1
theorem dX10_takenBy_63 : decode cX10_takenBy 63 = .ok (.if_icmp .ge 29, 3) := zd_147.2.2.2.2.2.1
theorem dX10_takenBy_66 : decode cX10_takenBy 66 = .ok (.aload_n 0, 1) := zd_147.2.2.2.2.2.2.1
theorem dX10_takenBy_67 : decode cX10_takenBy 67 = .ok (.getfield 60, 3) := zd_147.2.2.2.2.2.2.2
theorem zd_148 : (decode cX10_takenBy 70 = .ok (.iload_n 1, 1)) ∧ (decode cX10_takenBy 71 = .ok (.iconst 1, 1)) ∧ (decode cX10_takenBy 72 = .ok (.iadd, 1)) ∧ (decode cX10_takenBy 73 = .ok (.aaload, 1)) ∧ (decode cX10_takenBy 74 = .ok (.getfield 42, 3)) ∧ (decode cX10_takenBy 77 = .ok (.aload_n 0, 1)) ∧ (decode cX10_takenBy 78 = .ok (.getfield 60, 3)) ∧ (decode cX10_takenBy 81 = .ok (.iload_n 1, 1)) := by decide +kernel
theorem dX10_takenBy_70 : decode cX10_takenBy 70 = .ok (.iload_n 1, 1) := zd_148.1
theorem dX10_takenBy_71 : decode cX10_takenBy 71 = .ok (.iconst 1, 1) := zd_148.2.1
theorem dX10_takenBy_72 : decode cX10_takenBy 72 = .ok (.iadd, 1) := zd_148.2.2.1
theorem dX10_takenBy_73 : decode cX10_takenBy 73 = .ok (.aaload, 1) := zd_148.2.2.2.1
theorem dX10_takenBy_74 : decode cX10_takenBy 74 = .ok (.getfield 42, 3) := zd_148.2.2.2.2.1
theorem dX10_takenBy_77 : decode cX10_takenBy 77 = .ok (.aload_n 0, 1) := zd_148.2.2.2.2.2.1
theorem dX10_takenBy_78 : decode cX10_takenBy 78 = .ok (.getfield 60, 3) := zd_148.2.2.2.2.2.2.1
theorem dX10_takenBy_81 : decode cX10_takenBy 81 = .ok (.iload_n 1, 1) := zd_148.2.2.2.2.2.2.2
theorem zd_149 : (decode cX10_takenBy 82 = .ok (.aaload, 1)) ∧ (decode cX10_takenBy 83 = .ok (.getfield 42, 3)) ∧ (decode cX10_takenBy 86 = .ok (.if_icmp .eq 6, 3)) ∧ (decode cX10_takenBy 89 = .ok (.iinc 2 (-1), 3)) ∧ (decode cX10_takenBy 92 = .ok (.iload_n 2, 1)) ∧ (decode cX10_takenBy 93 = .ok (.ireturn, 1)) := by decide +kernel
theorem dX10_takenBy_82 : decode cX10_takenBy 82 = .ok (.aaload, 1) := zd_149.1
theorem dX10_takenBy_83 : decode cX10_takenBy 83 = .ok (.getfield 42, 3) := zd_149.2.1
theorem dX10_takenBy_86 : decode cX10_takenBy 86 = .ok (.if_icmp .eq 6, 3) := zd_149.2.2.1
theorem dX10_takenBy_89 : decode cX10_takenBy 89 = .ok (.iinc 2 (-1), 3) := zd_149.2.2.2.1
theorem dX10_takenBy_92 : decode cX10_takenBy 92 = .ok (.iload_n 2, 1) := zd_149.2.2.2.2.1
theorem dX10_takenBy_93 : decode cX10_takenBy 93 = .ok (.ireturn, 1) := zd_149.2.2.2.2.2
theorem zd_150 : (decode cX10_takenBefore 0 = .ok (.iconst 0, 1)) ∧ (decode cX10_takenBefore 1 = .ok (.istore_n 2, 1)) ∧ (decode cX10_takenBefore 2 = .ok (.iconst 0, 1)) ∧ (decode cX10_takenBefore 3 = .ok (.istore_n 3, 1)) ∧ (decode cX10_takenBefore 4 = .ok (.iload_n 3, 1)) ∧ (decode cX10_takenBefore 5 = .ok (.iload_n 1, 1)) ∧ (decode cX10_takenBefore 6 = .ok (.if_icmp .ge 25, 3)) ∧ (decode cX10_takenBefore 9 = .ok (.iload_n 3, 1)) := by decide +kernel
theorem dX10_takenBefore_0 : decode cX10_takenBefore 0 = .ok (.iconst 0, 1) := zd_150.1
theorem dX10_takenBefore_1 : decode cX10_takenBefore 1 = .ok (.istore_n 2, 1) := zd_150.2.1
theorem dX10_takenBefore_2 : decode cX10_takenBefore 2 = .ok (.iconst 0, 1) := zd_150.2.2.1
theorem dX10_takenBefore_3 : decode cX10_takenBefore 3 = .ok (.istore_n 3, 1) := zd_150.2.2.2.1
theorem dX10_takenBefore_4 : decode cX10_takenBefore 4 = .ok (.iload_n 3, 1) := zd_150.2.2.2.2.1
theorem dX10_takenBefore_5 : decode cX10_takenBefore 5 = .ok (.iload_n 1, 1) := zd_150.2.2.2.2.2.1
theorem dX10_takenBefore_6 : decode cX10_takenBefore 6 = .ok (.if_icmp .ge 25, 3) := zd_150.2.2.2.2.2.2.1
theorem dX10_takenBefore_9 : decode cX10_takenBefore 9 = .ok (.iload_n 3, 1) := zd_150.2.2.2.2.2.2.2
theorem zd_151 : (decode cX10_takenBefore 10 = .ok (.aload_n 0, 1)) ∧ (decode cX10_takenBefore 11 = .ok (.getfield 49, 3)) ∧ (decode cX10_takenBefore 14 = .ok (.if_icmp .ge 17, 3)) ∧ (decode cX10_takenBefore 17 = .ok (.iload_n 2, 1)) ∧ (decode cX10_takenBefore 18 = .ok (.aload_n 0, 1)) ∧ (decode cX10_takenBefore 19 = .ok (.iload_n 3, 1)) ∧ (decode cX10_takenBefore 20 = .ok (.invokevirtual 52, 3)) ∧ (decode cX10_takenBefore 23 = .ok (.iadd, 1)) := by decide +kernel
theorem dX10_takenBefore_10 : decode cX10_takenBefore 10 = .ok (.aload_n 0, 1) := zd_151.1
theorem dX10_takenBefore_11 : decode cX10_takenBefore 11 = .ok (.getfield 49, 3) := zd_151.2.1
theorem dX10_takenBefore_14 : decode cX10_takenBefore 14 = .ok (.if_icmp .ge 17, 3) := zd_151.2.2.1
theorem dX10_takenBefore_17 : decode cX10_takenBefore 17 = .ok (.iload_n 2, 1) := zd_151.2.2.2.1
theorem dX10_takenBefore_18 : decode cX10_takenBefore 18 = .ok (.aload_n 0, 1) := zd_151.2.2.2.2.1
theorem dX10_takenBefore_19 : decode cX10_takenBefore 19 = .ok (.iload_n 3, 1) := zd_151.2.2.2.2.2.1
theorem dX10_takenBefore_20 : decode cX10_takenBefore 20 = .ok (.invokevirtual 52, 3) := zd_151.2.2.2.2.2.2.1
theorem dX10_takenBefore_23 : decode cX10_takenBefore 23 = .ok (.iadd, 1) := zd_151.2.2.2.2.2.2.2
theorem zd_152 : (decode cX10_takenBefore 24 = .ok (.istore_n 2, 1)) ∧ (decode cX10_takenBefore 25 = .ok (.iinc 3 1, 3)) ∧ (decode cX10_takenBefore 28 = .ok (.goto (-24), 3)) ∧ (decode cX10_takenBefore 31 = .ok (.iload_n 2, 1)) ∧ (decode cX10_takenBefore 32 = .ok (.ireturn, 1)) := by decide +kernel
theorem dX10_takenBefore_24 : decode cX10_takenBefore 24 = .ok (.istore_n 2, 1) := zd_152.1
theorem dX10_takenBefore_25 : decode cX10_takenBefore 25 = .ok (.iinc 3 1, 3) := zd_152.2.1
theorem dX10_takenBefore_28 : decode cX10_takenBefore 28 = .ok (.goto (-24), 3) := zd_152.2.2.1
theorem dX10_takenBefore_31 : decode cX10_takenBefore 31 = .ok (.iload_n 2, 1) := zd_152.2.2.2.1
theorem dX10_takenBefore_32 : decode cX10_takenBefore 32 = .ok (.ireturn, 1) := zd_152.2.2.2.2
theorem zd_153 : (decode cX10_standing 0 = .ok (.aload_n 0, 1)) ∧ (decode cX10_standing 1 = .ok (.aload_n 0, 1)) ∧ (decode cX10_standing 2 = .ok (.getfield 49, 3)) ∧ (decode cX10_standing 5 = .ok (.invokevirtual 64, 3)) ∧ (decode cX10_standing 8 = .ok (.ireturn, 1)) := by decide +kernel
theorem dX10_standing_0 : decode cX10_standing 0 = .ok (.aload_n 0, 1) := zd_153.1
theorem dX10_standing_1 : decode cX10_standing 1 = .ok (.aload_n 0, 1) := zd_153.2.1
theorem dX10_standing_2 : decode cX10_standing 2 = .ok (.getfield 49, 3) := zd_153.2.2.1
theorem dX10_standing_5 : decode cX10_standing 5 = .ok (.invokevirtual 64, 3) := zd_153.2.2.2.1
theorem dX10_standing_8 : decode cX10_standing 8 = .ok (.ireturn, 1) := zd_153.2.2.2.2
theorem zd_154 : (decode cX11_init 0 = .ok (.aload_n 0, 1)) ∧ (decode cX11_init 1 = .ok (.invokespecial 1, 3)) ∧ (decode cX11_init 4 = .ok (.aload_n 0, 1)) ∧ (decode cX11_init 5 = .ok (.bipush 12, 2)) ∧ (decode cX11_init 7 = .ok (.anewarray 9, 3)) ∧ (decode cX11_init 10 = .ok (.putfield 11, 3)) ∧ (decode cX11_init 13 = .ok (.aload_n 0, 1)) ∧ (decode cX11_init 14 = .ok (.bipush 12, 2)) := by decide +kernel
theorem dX11_init_0 : decode cX11_init 0 = .ok (.aload_n 0, 1) := zd_154.1
theorem dX11_init_1 : decode cX11_init 1 = .ok (.invokespecial 1, 3) := zd_154.2.1
theorem dX11_init_4 : decode cX11_init 4 = .ok (.aload_n 0, 1) := zd_154.2.2.1
theorem dX11_init_5 : decode cX11_init 5 = .ok (.bipush 12, 2) := zd_154.2.2.2.1
theorem dX11_init_7 : decode cX11_init 7 = .ok (.anewarray 9, 3) := zd_154.2.2.2.2.1
theorem dX11_init_10 : decode cX11_init 10 = .ok (.putfield 11, 3) := zd_154.2.2.2.2.2.1
theorem dX11_init_13 : decode cX11_init 13 = .ok (.aload_n 0, 1) := zd_154.2.2.2.2.2.2.1
theorem dX11_init_14 : decode cX11_init 14 = .ok (.bipush 12, 2) := zd_154.2.2.2.2.2.2.2
theorem zd_155 : (decode cX11_init 16 = .ok (.anewarray 9, 3)) ∧ (decode cX11_init 19 = .ok (.putfield 15, 3)) ∧ (decode cX11_init 22 = .ok (.aload_n 0, 1)) ∧ (decode cX11_init 23 = .ok (.bipush 80, 2)) ∧ (decode cX11_init 25 = .ok (.anewarray 18, 3)) ∧ (decode cX11_init 28 = .ok (.putfield 20, 3)) ∧ (decode cX11_init 31 = .ok (.aload_n 0, 1)) ∧ (decode cX11_init 32 = .ok (.iconst 0, 1)) := by decide +kernel
theorem dX11_init_16 : decode cX11_init 16 = .ok (.anewarray 9, 3) := zd_155.1
theorem dX11_init_19 : decode cX11_init 19 = .ok (.putfield 15, 3) := zd_155.2.1
theorem dX11_init_22 : decode cX11_init 22 = .ok (.aload_n 0, 1) := zd_155.2.2.1
theorem dX11_init_23 : decode cX11_init 23 = .ok (.bipush 80, 2) := zd_155.2.2.2.1
theorem dX11_init_25 : decode cX11_init 25 = .ok (.anewarray 18, 3) := zd_155.2.2.2.2.1
theorem dX11_init_28 : decode cX11_init 28 = .ok (.putfield 20, 3) := zd_155.2.2.2.2.2.1
theorem dX11_init_31 : decode cX11_init 31 = .ok (.aload_n 0, 1) := zd_155.2.2.2.2.2.2.1
theorem dX11_init_32 : decode cX11_init 32 = .ok (.iconst 0, 1) := zd_155.2.2.2.2.2.2.2
theorem zd_156 : (decode cX11_init 33 = .ok (.putfield 24, 3)) ∧ (decode cX11_init 36 = .ok (.aload_n 0, 1)) ∧ (decode cX11_init 37 = .ok (.sipush 300, 3)) ∧ (decode cX11_init 40 = .ok (.anewarray 28, 3)) ∧ (decode cX11_init 43 = .ok (.putfield 30, 3)) ∧ (decode cX11_init 46 = .ok (.aload_n 0, 1)) ∧ (decode cX11_init 47 = .ok (.iconst 0, 1)) ∧ (decode cX11_init 48 = .ok (.putfield 34, 3)) := by decide +kernel
theorem dX11_init_33 : decode cX11_init 33 = .ok (.putfield 24, 3) := zd_156.1
theorem dX11_init_36 : decode cX11_init 36 = .ok (.aload_n 0, 1) := zd_156.2.1
theorem dX11_init_37 : decode cX11_init 37 = .ok (.sipush 300, 3) := zd_156.2.2.1
theorem dX11_init_40 : decode cX11_init 40 = .ok (.anewarray 28, 3) := zd_156.2.2.2.1
theorem dX11_init_43 : decode cX11_init 43 = .ok (.putfield 30, 3) := zd_156.2.2.2.2.1
theorem dX11_init_46 : decode cX11_init 46 = .ok (.aload_n 0, 1) := zd_156.2.2.2.2.2.1
theorem dX11_init_47 : decode cX11_init 47 = .ok (.iconst 0, 1) := zd_156.2.2.2.2.2.2.1
theorem dX11_init_48 : decode cX11_init 48 = .ok (.putfield 34, 3) := zd_156.2.2.2.2.2.2.2
theorem zd_157 : (decode cX11_init 51 = .ok (.aload_n 0, 1)) ∧ (decode cX11_init 52 = .ok (.bipush 100, 2)) ∧ (decode cX11_init 54 = .ok (.newarray .boolean, 2)) ∧ (decode cX11_init 56 = .ok (.putfield 37, 3)) ∧ (decode cX11_init 59 = .ok (.aload_n 0, 1)) ∧ (decode cX11_init 60 = .ok (.iconst 0, 1)) ∧ (decode cX11_init 61 = .ok (.putfield 41, 3)) ∧ (decode cX11_init 64 = .ok (.aload_n 0, 1)) := by decide +kernel
theorem dX11_init_51 : decode cX11_init 51 = .ok (.aload_n 0, 1) := zd_157.1
theorem dX11_init_52 : decode cX11_init 52 = .ok (.bipush 100, 2) := zd_157.2.1
theorem dX11_init_54 : decode cX11_init 54 = .ok (.newarray .boolean, 2) := zd_157.2.2.1
theorem dX11_init_56 : decode cX11_init 56 = .ok (.putfield 37, 3) := zd_157.2.2.2.1
theorem dX11_init_59 : decode cX11_init 59 = .ok (.aload_n 0, 1) := zd_157.2.2.2.2.1
theorem dX11_init_60 : decode cX11_init 60 = .ok (.iconst 0, 1) := zd_157.2.2.2.2.2.1
theorem dX11_init_61 : decode cX11_init 61 = .ok (.putfield 41, 3) := zd_157.2.2.2.2.2.2.1
theorem dX11_init_64 : decode cX11_init 64 = .ok (.aload_n 0, 1) := zd_157.2.2.2.2.2.2.2
theorem zd_158 : (decode cX11_init 65 = .ok (.iconst 0, 1)) ∧ (decode cX11_init 66 = .ok (.putfield 44, 3)) ∧ (decode cX11_init 69 = .ok (.iconst 0, 1)) ∧ (decode cX11_init 70 = .ok (.istore_n 1, 1)) ∧ (decode cX11_init 71 = .ok (.iload_n 1, 1)) ∧ (decode cX11_init 72 = .ok (.bipush 12, 2)) ∧ (decode cX11_init 74 = .ok (.if_icmp .ge 22, 3)) ∧ (decode cX11_init 77 = .ok (.aload_n 0, 1)) := by decide +kernel
theorem dX11_init_65 : decode cX11_init 65 = .ok (.iconst 0, 1) := zd_158.1
theorem dX11_init_66 : decode cX11_init 66 = .ok (.putfield 44, 3) := zd_158.2.1
theorem dX11_init_69 : decode cX11_init 69 = .ok (.iconst 0, 1) := zd_158.2.2.1
theorem dX11_init_70 : decode cX11_init 70 = .ok (.istore_n 1, 1) := zd_158.2.2.2.1
theorem dX11_init_71 : decode cX11_init 71 = .ok (.iload_n 1, 1) := zd_158.2.2.2.2.1
theorem dX11_init_72 : decode cX11_init 72 = .ok (.bipush 12, 2) := zd_158.2.2.2.2.2.1
theorem dX11_init_74 : decode cX11_init 74 = .ok (.if_icmp .ge 22, 3) := zd_158.2.2.2.2.2.2.1
theorem dX11_init_77 : decode cX11_init 77 = .ok (.aload_n 0, 1) := zd_158.2.2.2.2.2.2.2
theorem zd_159 : (decode cX11_init 78 = .ok (.getfield 11, 3)) ∧ (decode cX11_init 81 = .ok (.iload_n 1, 1)) ∧ (decode cX11_init 82 = .ok (.new 9, 3)) ∧ (decode cX11_init 85 = .ok (.dup, 1)) ∧ (decode cX11_init 86 = .ok (.invokespecial 47, 3)) ∧ (decode cX11_init 89 = .ok (.aastore, 1)) ∧ (decode cX11_init 90 = .ok (.iinc 1 1, 3)) ∧ (decode cX11_init 93 = .ok (.goto (-22), 3)) := by decide +kernel
theorem dX11_init_78 : decode cX11_init 78 = .ok (.getfield 11, 3) := zd_159.1
theorem dX11_init_81 : decode cX11_init 81 = .ok (.iload_n 1, 1) := zd_159.2.1
theorem dX11_init_82 : decode cX11_init 82 = .ok (.new 9, 3) := zd_159.2.2.1
theorem dX11_init_85 : decode cX11_init 85 = .ok (.dup, 1) := zd_159.2.2.2.1
theorem dX11_init_86 : decode cX11_init 86 = .ok (.invokespecial 47, 3) := zd_159.2.2.2.2.1
theorem dX11_init_89 : decode cX11_init 89 = .ok (.aastore, 1) := zd_159.2.2.2.2.2.1
theorem dX11_init_90 : decode cX11_init 90 = .ok (.iinc 1 1, 3) := zd_159.2.2.2.2.2.2.1
theorem dX11_init_93 : decode cX11_init 93 = .ok (.goto (-22), 3) := zd_159.2.2.2.2.2.2.2
theorem dX11_init_96 : decode cX11_init 96 = .ok (.return_, 1) := by decide +kernel
theorem zd_160 : (decode cX11_column 0 = .ok (.iload_n 1, 1)) ∧ (decode cX11_column 1 = .ok (.invokestatic 48, 3)) ∧ (decode cX11_column 4 = .ok (.ifCond .eq 27, 3)) ∧ (decode cX11_column 7 = .ok (.iload_n 2, 1)) ∧ (decode cX11_column 8 = .ok (.invokestatic 52, 3)) ∧ (decode cX11_column 11 = .ok (.ifCond .eq 20, 3)) ∧ (decode cX11_column 14 = .ok (.iload_n 3, 1)) ∧ (decode cX11_column 15 = .ok (.iconst 0, 1)) := by decide +kernel
theorem dX11_column_0 : decode cX11_column 0 = .ok (.iload_n 1, 1) := zd_160.1
theorem dX11_column_1 : decode cX11_column 1 = .ok (.invokestatic 48, 3) := zd_160.2.1
theorem dX11_column_4 : decode cX11_column 4 = .ok (.ifCond .eq 27, 3) := zd_160.2.2.1
theorem dX11_column_7 : decode cX11_column 7 = .ok (.iload_n 2, 1) := zd_160.2.2.2.1
theorem dX11_column_8 : decode cX11_column 8 = .ok (.invokestatic 52, 3) := zd_160.2.2.2.2.1
theorem dX11_column_11 : decode cX11_column 11 = .ok (.ifCond .eq 20, 3) := zd_160.2.2.2.2.2.1
theorem dX11_column_14 : decode cX11_column 14 = .ok (.iload_n 3, 1) := zd_160.2.2.2.2.2.2.1
theorem dX11_column_15 : decode cX11_column 15 = .ok (.iconst 0, 1) := zd_160.2.2.2.2.2.2.2
theorem zd_161 : (decode cX11_column 16 = .ok (.bipush 60, 2)) ∧ (decode cX11_column 18 = .ok (.invokestatic 55, 3)) ∧ (decode cX11_column 21 = .ok (.ifCond .eq 10, 3)) ∧ (decode cX11_column 24 = .ok (.aload_n 0, 1)) ∧ (decode cX11_column 25 = .ok (.getfield 34, 3)) ∧ (decode cX11_column 28 = .ok (.ifCond .le 5, 3)) ∧ (decode cX11_column 31 = .ok (.iconst 0, 1)) ∧ (decode cX11_column 32 = .ok (.ireturn, 1)) := by decide +kernel
theorem dX11_column_16 : decode cX11_column 16 = .ok (.bipush 60, 2) := zd_161.1
theorem dX11_column_18 : decode cX11_column 18 = .ok (.invokestatic 55, 3) := zd_161.2.1
theorem dX11_column_21 : decode cX11_column 21 = .ok (.ifCond .eq 10, 3) := zd_161.2.2.1
theorem dX11_column_24 : decode cX11_column 24 = .ok (.aload_n 0, 1) := zd_161.2.2.2.1
theorem dX11_column_25 : decode cX11_column 25 = .ok (.getfield 34, 3) := zd_161.2.2.2.2.1
theorem dX11_column_28 : decode cX11_column 28 = .ok (.ifCond .le 5, 3) := zd_161.2.2.2.2.2.1
theorem dX11_column_31 : decode cX11_column 31 = .ok (.iconst 0, 1) := zd_161.2.2.2.2.2.2.1
theorem dX11_column_32 : decode cX11_column 32 = .ok (.ireturn, 1) := zd_161.2.2.2.2.2.2.2
theorem zd_162 : (decode cX11_column 33 = .ok (.aload_n 0, 1)) ∧ (decode cX11_column 34 = .ok (.getfield 11, 3)) ∧ (decode cX11_column 37 = .ok (.iload_n 1, 1)) ∧ (decode cX11_column 38 = .ok (.aaload, 1)) ∧ (decode cX11_column 39 = .ok (.getfield 59, 3)) ∧ (decode cX11_column 42 = .ok (.iload_n 2, 1)) ∧ (decode cX11_column 43 = .ok (.iload_n 3, 1)) ∧ (decode cX11_column 44 = .ok (.iastore, 1)) := by decide +kernel
theorem dX11_column_33 : decode cX11_column 33 = .ok (.aload_n 0, 1) := zd_162.1
theorem dX11_column_34 : decode cX11_column 34 = .ok (.getfield 11, 3) := zd_162.2.1
theorem dX11_column_37 : decode cX11_column 37 = .ok (.iload_n 1, 1) := zd_162.2.2.1
theorem dX11_column_38 : decode cX11_column 38 = .ok (.aaload, 1) := zd_162.2.2.2.1
theorem dX11_column_39 : decode cX11_column 39 = .ok (.getfield 59, 3) := zd_162.2.2.2.2.1
theorem dX11_column_42 : decode cX11_column 42 = .ok (.iload_n 2, 1) := zd_162.2.2.2.2.2.1
theorem dX11_column_43 : decode cX11_column 43 = .ok (.iload_n 3, 1) := zd_162.2.2.2.2.2.2.1
theorem dX11_column_44 : decode cX11_column 44 = .ok (.iastore, 1) := zd_162.2.2.2.2.2.2.2
theorem zd_163 : (decode cX11_column 45 = .ok (.iconst 1, 1)) ∧ (decode cX11_column 46 = .ok (.ireturn, 1)) := by decide +kernel
theorem dX11_column_45 : decode cX11_column 45 = .ok (.iconst 1, 1) := zd_163.1
theorem dX11_column_46 : decode cX11_column 46 = .ok (.ireturn, 1) := zd_163.2
theorem zd_164 : (decode cX11_measure 0 = .ok (.iload_n 1, 1)) ∧ (decode cX11_measure 1 = .ok (.invokestatic 48, 3)) ∧ (decode cX11_measure 4 = .ok (.ifCond .eq 21, 3)) ∧ (decode cX11_measure 7 = .ok (.iload_n 2, 1)) ∧ (decode cX11_measure 8 = .ok (.iconst 1, 1)) ∧ (decode cX11_measure 9 = .ok (.sipush 200, 3)) ∧ (decode cX11_measure 12 = .ok (.invokestatic 55, 3)) ∧ (decode cX11_measure 15 = .ok (.ifCond .eq 10, 3)) := by decide +kernel
theorem dX11_measure_0 : decode cX11_measure 0 = .ok (.iload_n 1, 1) := zd_164.1
theorem dX11_measure_1 : decode cX11_measure 1 = .ok (.invokestatic 48, 3) := zd_164.2.1
theorem dX11_measure_4 : decode cX11_measure 4 = .ok (.ifCond .eq 21, 3) := zd_164.2.2.1
theorem dX11_measure_7 : decode cX11_measure 7 = .ok (.iload_n 2, 1) := zd_164.2.2.2.1
theorem dX11_measure_8 : decode cX11_measure 8 = .ok (.iconst 1, 1) := zd_164.2.2.2.2.1
theorem dX11_measure_9 : decode cX11_measure 9 = .ok (.sipush 200, 3) := zd_164.2.2.2.2.2.1
theorem dX11_measure_12 : decode cX11_measure 12 = .ok (.invokestatic 55, 3) := zd_164.2.2.2.2.2.2.1
theorem dX11_measure_15 : decode cX11_measure 15 = .ok (.ifCond .eq 10, 3) := zd_164.2.2.2.2.2.2.2
theorem zd_165 : (decode cX11_measure 18 = .ok (.aload_n 0, 1)) ∧ (decode cX11_measure 19 = .ok (.getfield 34, 3)) ∧ (decode cX11_measure 22 = .ok (.ifCond .le 5, 3)) ∧ (decode cX11_measure 25 = .ok (.iconst 0, 1)) ∧ (decode cX11_measure 26 = .ok (.ireturn, 1)) ∧ (decode cX11_measure 27 = .ok (.aload_n 0, 1)) ∧ (decode cX11_measure 28 = .ok (.getfield 11, 3)) ∧ (decode cX11_measure 31 = .ok (.iload_n 1, 1)) := by decide +kernel
theorem dX11_measure_18 : decode cX11_measure 18 = .ok (.aload_n 0, 1) := zd_165.1
theorem dX11_measure_19 : decode cX11_measure 19 = .ok (.getfield 34, 3) := zd_165.2.1
theorem dX11_measure_22 : decode cX11_measure 22 = .ok (.ifCond .le 5, 3) := zd_165.2.2.1
theorem dX11_measure_25 : decode cX11_measure 25 = .ok (.iconst 0, 1) := zd_165.2.2.2.1
theorem dX11_measure_26 : decode cX11_measure 26 = .ok (.ireturn, 1) := zd_165.2.2.2.2.1
theorem dX11_measure_27 : decode cX11_measure 27 = .ok (.aload_n 0, 1) := zd_165.2.2.2.2.2.1
theorem dX11_measure_28 : decode cX11_measure 28 = .ok (.getfield 11, 3) := zd_165.2.2.2.2.2.2.1
theorem dX11_measure_31 : decode cX11_measure 31 = .ok (.iload_n 1, 1) := zd_165.2.2.2.2.2.2.2
theorem zd_166 : (decode cX11_measure 32 = .ok (.aaload, 1)) ∧ (decode cX11_measure 33 = .ok (.iload_n 2, 1)) ∧ (decode cX11_measure 34 = .ok (.putfield 63, 3)) ∧ (decode cX11_measure 37 = .ok (.iconst 1, 1)) ∧ (decode cX11_measure 38 = .ok (.ireturn, 1)) := by decide +kernel
theorem dX11_measure_32 : decode cX11_measure 32 = .ok (.aaload, 1) := zd_166.1
theorem dX11_measure_33 : decode cX11_measure 33 = .ok (.iload_n 2, 1) := zd_166.2.1
theorem dX11_measure_34 : decode cX11_measure 34 = .ok (.putfield 63, 3) := zd_166.2.2.1
theorem dX11_measure_37 : decode cX11_measure 37 = .ok (.iconst 1, 1) := zd_166.2.2.2.1
theorem dX11_measure_38 : decode cX11_measure 38 = .ok (.ireturn, 1) := zd_166.2.2.2.2
theorem zd_167 : (decode cX11_story 0 = .ok (.iload_n 1, 1)) ∧ (decode cX11_story 1 = .ok (.iconst 1, 1)) ∧ (decode cX11_story 2 = .ok (.bipush 80, 2)) ∧ (decode cX11_story 4 = .ok (.invokestatic 55, 3)) ∧ (decode cX11_story 7 = .ok (.ifCond .ne 5, 3)) ∧ (decode cX11_story 10 = .ok (.iconst (-1), 1)) ∧ (decode cX11_story 11 = .ok (.ireturn, 1)) ∧ (decode cX11_story 12 = .ok (.aload_n 0, 1)) := by decide +kernel
theorem dX11_story_0 : decode cX11_story 0 = .ok (.iload_n 1, 1) := zd_167.1
theorem dX11_story_1 : decode cX11_story 1 = .ok (.iconst 1, 1) := zd_167.2.1
theorem dX11_story_2 : decode cX11_story 2 = .ok (.bipush 80, 2) := zd_167.2.2.1
theorem dX11_story_4 : decode cX11_story 4 = .ok (.invokestatic 55, 3) := zd_167.2.2.2.1
theorem dX11_story_7 : decode cX11_story 7 = .ok (.ifCond .ne 5, 3) := zd_167.2.2.2.2.1
theorem dX11_story_10 : decode cX11_story 10 = .ok (.iconst (-1), 1) := zd_167.2.2.2.2.2.1
theorem dX11_story_11 : decode cX11_story 11 = .ok (.ireturn, 1) := zd_167.2.2.2.2.2.2.1
theorem dX11_story_12 : decode cX11_story 12 = .ok (.aload_n 0, 1) := zd_167.2.2.2.2.2.2.2
theorem zd_168 : (decode cX11_story 13 = .ok (.new 66, 3)) ∧ (decode cX11_story 16 = .ok (.dup, 1)) ∧ (decode cX11_story 17 = .ok (.aload_n 0, 1)) ∧ (decode cX11_story 18 = .ok (.getfield 24, 3)) ∧ (decode cX11_story 21 = .ok (.iload_n 1, 1)) ∧ (decode cX11_story 22 = .ok (.invokespecial 68, 3)) ∧ (decode cX11_story 25 = .ok (.invokevirtual 71, 3)) ∧ (decode cX11_story 28 = .ok (.ireturn, 1)) := by decide +kernel
theorem dX11_story_13 : decode cX11_story 13 = .ok (.new 66, 3) := zd_168.1
theorem dX11_story_16 : decode cX11_story 16 = .ok (.dup, 1) := zd_168.2.1
theorem dX11_story_17 : decode cX11_story 17 = .ok (.aload_n 0, 1) := zd_168.2.2.1
theorem dX11_story_18 : decode cX11_story 18 = .ok (.getfield 24, 3) := zd_168.2.2.2.1
theorem dX11_story_21 : decode cX11_story 21 = .ok (.iload_n 1, 1) := zd_168.2.2.2.2.1
theorem dX11_story_22 : decode cX11_story 22 = .ok (.invokespecial 68, 3) := zd_168.2.2.2.2.2.1
theorem dX11_story_25 : decode cX11_story 25 = .ok (.invokevirtual 71, 3) := zd_168.2.2.2.2.2.2.1
theorem dX11_story_28 : decode cX11_story 28 = .ok (.ireturn, 1) := zd_168.2.2.2.2.2.2.2
theorem zd_169 : (decode cX11_line 0 = .ok (.aload_n 0, 1)) ∧ (decode cX11_line 1 = .ok (.iload_n 1, 1)) ∧ (decode cX11_line 2 = .ok (.invokevirtual 75, 3)) ∧ (decode cX11_line 5 = .ok (.astore 4, 2)) ∧ (decode cX11_line 7 = .ok (.aload 4, 2)) ∧ (decode cX11_line 9 = .ok (.instanceof 66, 3)) ∧ (decode cX11_line 12 = .ok (.ifCond .eq 20, 3)) ∧ (decode cX11_line 15 = .ok (.aload 4, 2)) := by decide +kernel
theorem dX11_line_0 : decode cX11_line 0 = .ok (.aload_n 0, 1) := zd_169.1
theorem dX11_line_1 : decode cX11_line 1 = .ok (.iload_n 1, 1) := zd_169.2.1
theorem dX11_line_2 : decode cX11_line 2 = .ok (.invokevirtual 75, 3) := zd_169.2.2.1
theorem dX11_line_5 : decode cX11_line 5 = .ok (.astore 4, 2) := zd_169.2.2.2.1
theorem dX11_line_7 : decode cX11_line 7 = .ok (.aload 4, 2) := zd_169.2.2.2.2.1
theorem dX11_line_9 : decode cX11_line 9 = .ok (.instanceof 66, 3) := zd_169.2.2.2.2.2.1
theorem dX11_line_12 : decode cX11_line 12 = .ok (.ifCond .eq 20, 3) := zd_169.2.2.2.2.2.2.1
theorem dX11_line_15 : decode cX11_line 15 = .ok (.aload 4, 2) := zd_169.2.2.2.2.2.2.2
theorem zd_170 : (decode cX11_line 17 = .ok (.checkcast 66, 3)) ∧ (decode cX11_line 20 = .ok (.astore_n 3, 1)) ∧ (decode cX11_line 21 = .ok (.iload_n 2, 1)) ∧ (decode cX11_line 22 = .ok (.iconst 1, 1)) ∧ (decode cX11_line 23 = .ok (.sipush 200, 3)) ∧ (decode cX11_line 26 = .ok (.invokestatic 55, 3)) ∧ (decode cX11_line 29 = .ok (.ifCond .ne 5, 3)) ∧ (decode cX11_line 32 = .ok (.iconst (-1), 1)) := by decide +kernel
theorem dX11_line_17 : decode cX11_line 17 = .ok (.checkcast 66, 3) := zd_170.1
theorem dX11_line_20 : decode cX11_line 20 = .ok (.astore_n 3, 1) := zd_170.2.1
theorem dX11_line_21 : decode cX11_line 21 = .ok (.iload_n 2, 1) := zd_170.2.2.1
theorem dX11_line_22 : decode cX11_line 22 = .ok (.iconst 1, 1) := zd_170.2.2.2.1
theorem dX11_line_23 : decode cX11_line 23 = .ok (.sipush 200, 3) := zd_170.2.2.2.2.1
theorem dX11_line_26 : decode cX11_line 26 = .ok (.invokestatic 55, 3) := zd_170.2.2.2.2.2.1
theorem dX11_line_29 : decode cX11_line 29 = .ok (.ifCond .ne 5, 3) := zd_170.2.2.2.2.2.2.1
theorem dX11_line_32 : decode cX11_line 32 = .ok (.iconst (-1), 1) := zd_170.2.2.2.2.2.2.2
theorem zd_171 : (decode cX11_line 33 = .ok (.ireturn, 1)) ∧ (decode cX11_line 34 = .ok (.aload_n 3, 1)) ∧ (decode cX11_line 35 = .ok (.iload_n 2, 1)) ∧ (decode cX11_line 36 = .ok (.invokevirtual 79, 3)) ∧ (decode cX11_line 39 = .ok (.ireturn, 1)) := by decide +kernel
theorem dX11_line_33 : decode cX11_line 33 = .ok (.ireturn, 1) := zd_171.1
theorem dX11_line_34 : decode cX11_line 34 = .ok (.aload_n 3, 1) := zd_171.2.1
theorem dX11_line_35 : decode cX11_line 35 = .ok (.iload_n 2, 1) := zd_171.2.2.1
theorem dX11_line_36 : decode cX11_line 36 = .ok (.invokevirtual 79, 3) := zd_171.2.2.2.1
theorem dX11_line_39 : decode cX11_line 39 = .ok (.ireturn, 1) := zd_171.2.2.2.2
theorem zd_172 : (decode cX11_head 0 = .ok (.aload_n 0, 1)) ∧ (decode cX11_head 1 = .ok (.iload_n 1, 1)) ∧ (decode cX11_head 2 = .ok (.invokevirtual 75, 3)) ∧ (decode cX11_head 5 = .ok (.astore 5, 2)) ∧ (decode cX11_head 7 = .ok (.aload 5, 2)) ∧ (decode cX11_head 9 = .ok (.instanceof 66, 3)) ∧ (decode cX11_head 12 = .ok (.ifCond .eq 30, 3)) ∧ (decode cX11_head 15 = .ok (.aload 5, 2)) := by decide +kernel
theorem dX11_head_0 : decode cX11_head 0 = .ok (.aload_n 0, 1) := zd_172.1
theorem dX11_head_1 : decode cX11_head 1 = .ok (.iload_n 1, 1) := zd_172.2.1
theorem dX11_head_2 : decode cX11_head 2 = .ok (.invokevirtual 75, 3) := zd_172.2.2.1
theorem dX11_head_5 : decode cX11_head 5 = .ok (.astore 5, 2) := zd_172.2.2.2.1
theorem dX11_head_7 : decode cX11_head 7 = .ok (.aload 5, 2) := zd_172.2.2.2.2.1
theorem dX11_head_9 : decode cX11_head 9 = .ok (.instanceof 66, 3) := zd_172.2.2.2.2.2.1
theorem dX11_head_12 : decode cX11_head 12 = .ok (.ifCond .eq 30, 3) := zd_172.2.2.2.2.2.2.1
theorem dX11_head_15 : decode cX11_head 15 = .ok (.aload 5, 2) := zd_172.2.2.2.2.2.2.2
theorem zd_173 : (decode cX11_head 17 = .ok (.checkcast 66, 3)) ∧ (decode cX11_head 20 = .ok (.astore 4, 2)) ∧ (decode cX11_head 22 = .ok (.iload_n 2, 1)) ∧ (decode cX11_head 23 = .ok (.iconst 1, 1)) ∧ (decode cX11_head 24 = .ok (.bipush 8, 2)) ∧ (decode cX11_head 26 = .ok (.invokestatic 55, 3)) ∧ (decode cX11_head 29 = .ok (.ifCond .eq 13, 3)) ∧ (decode cX11_head 32 = .ok (.iload_n 3, 1)) := by decide +kernel
theorem dX11_head_17 : decode cX11_head 17 = .ok (.checkcast 66, 3) := zd_173.1
theorem dX11_head_20 : decode cX11_head 20 = .ok (.astore 4, 2) := zd_173.2.1
theorem dX11_head_22 : decode cX11_head 22 = .ok (.iload_n 2, 1) := zd_173.2.2.1
theorem dX11_head_23 : decode cX11_head 23 = .ok (.iconst 1, 1) := zd_173.2.2.2.1
theorem dX11_head_24 : decode cX11_head 24 = .ok (.bipush 8, 2) := zd_173.2.2.2.2.1
theorem dX11_head_26 : decode cX11_head 26 = .ok (.invokestatic 55, 3) := zd_173.2.2.2.2.2.1
theorem dX11_head_29 : decode cX11_head 29 = .ok (.ifCond .eq 13, 3) := zd_173.2.2.2.2.2.2.1
theorem dX11_head_32 : decode cX11_head 32 = .ok (.iload_n 3, 1) := zd_173.2.2.2.2.2.2.2
theorem zd_174 : (decode cX11_head 33 = .ok (.iconst 1, 1)) ∧ (decode cX11_head 34 = .ok (.bipush 9, 2)) ∧ (decode cX11_head 36 = .ok (.invokestatic 55, 3)) ∧ (decode cX11_head 39 = .ok (.ifCond .ne 5, 3)) ∧ (decode cX11_head 42 = .ok (.iconst (-1), 1)) ∧ (decode cX11_head 43 = .ok (.ireturn, 1)) ∧ (decode cX11_head 44 = .ok (.aload_n 0, 1)) ∧ (decode cX11_head 45 = .ok (.new 83, 3)) := by decide +kernel
theorem dX11_head_33 : decode cX11_head 33 = .ok (.iconst 1, 1) := zd_174.1
theorem dX11_head_34 : decode cX11_head 34 = .ok (.bipush 9, 2) := zd_174.2.1
theorem dX11_head_36 : decode cX11_head 36 = .ok (.invokestatic 55, 3) := zd_174.2.2.1
theorem dX11_head_39 : decode cX11_head 39 = .ok (.ifCond .ne 5, 3) := zd_174.2.2.2.1
theorem dX11_head_42 : decode cX11_head 42 = .ok (.iconst (-1), 1) := zd_174.2.2.2.2.1
theorem dX11_head_43 : decode cX11_head 43 = .ok (.ireturn, 1) := zd_174.2.2.2.2.2.1
theorem dX11_head_44 : decode cX11_head 44 = .ok (.aload_n 0, 1) := zd_174.2.2.2.2.2.2.1
theorem dX11_head_45 : decode cX11_head 45 = .ok (.new 83, 3) := zd_174.2.2.2.2.2.2.2
theorem zd_175 : (decode cX11_head 48 = .ok (.dup, 1)) ∧ (decode cX11_head 49 = .ok (.aload_n 0, 1)) ∧ (decode cX11_head 50 = .ok (.getfield 24, 3)) ∧ (decode cX11_head 53 = .ok (.aload 4, 2)) ∧ (decode cX11_head 55 = .ok (.iload_n 2, 1)) ∧ (decode cX11_head 56 = .ok (.iload_n 3, 1)) ∧ (decode cX11_head 57 = .ok (.invokespecial 85, 3)) ∧ (decode cX11_head 60 = .ok (.invokevirtual 71, 3)) := by decide +kernel
theorem dX11_head_48 : decode cX11_head 48 = .ok (.dup, 1) := zd_175.1
theorem dX11_head_49 : decode cX11_head 49 = .ok (.aload_n 0, 1) := zd_175.2.1
theorem dX11_head_50 : decode cX11_head 50 = .ok (.getfield 24, 3) := zd_175.2.2.1
theorem dX11_head_53 : decode cX11_head 53 = .ok (.aload 4, 2) := zd_175.2.2.2.1
theorem dX11_head_55 : decode cX11_head 55 = .ok (.iload_n 2, 1) := zd_175.2.2.2.2.1
theorem dX11_head_56 : decode cX11_head 56 = .ok (.iload_n 3, 1) := zd_175.2.2.2.2.2.1
theorem dX11_head_57 : decode cX11_head 57 = .ok (.invokespecial 85, 3) := zd_175.2.2.2.2.2.2.1
theorem dX11_head_60 : decode cX11_head 60 = .ok (.invokevirtual 71, 3) := zd_175.2.2.2.2.2.2.2
theorem dX11_head_63 : decode cX11_head 63 = .ok (.ireturn, 1) := by decide +kernel
theorem zd_176 : (decode cX11_picture 0 = .ok (.aload_n 0, 1)) ∧ (decode cX11_picture 1 = .ok (.new 88, 3)) ∧ (decode cX11_picture 4 = .ok (.dup, 1)) ∧ (decode cX11_picture 5 = .ok (.aload_n 0, 1)) ∧ (decode cX11_picture 6 = .ok (.getfield 24, 3)) ∧ (decode cX11_picture 9 = .ok (.invokespecial 90, 3)) ∧ (decode cX11_picture 12 = .ok (.invokevirtual 71, 3)) ∧ (decode cX11_picture 15 = .ok (.ireturn, 1)) := by decide +kernel
theorem dX11_picture_0 : decode cX11_picture 0 = .ok (.aload_n 0, 1) := zd_176.1
theorem dX11_picture_1 : decode cX11_picture 1 = .ok (.new 88, 3) := zd_176.2.1
theorem dX11_picture_4 : decode cX11_picture 4 = .ok (.dup, 1) := zd_176.2.2.1
theorem dX11_picture_5 : decode cX11_picture 5 = .ok (.aload_n 0, 1) := zd_176.2.2.2.1
theorem dX11_picture_6 : decode cX11_picture 6 = .ok (.getfield 24, 3) := zd_176.2.2.2.2.1
theorem dX11_picture_9 : decode cX11_picture 9 = .ok (.invokespecial 90, 3) := zd_176.2.2.2.2.2.1
theorem dX11_picture_12 : decode cX11_picture 12 = .ok (.invokevirtual 71, 3) := zd_176.2.2.2.2.2.2.1
theorem dX11_picture_15 : decode cX11_picture 15 = .ok (.ireturn, 1) := zd_176.2.2.2.2.2.2.2
theorem zd_177 : (decode cX11_size 0 = .ok (.aload_n 0, 1)) ∧ (decode cX11_size 1 = .ok (.iload_n 1, 1)) ∧ (decode cX11_size 2 = .ok (.invokevirtual 75, 3)) ∧ (decode cX11_size 5 = .ok (.astore 5, 2)) ∧ (decode cX11_size 7 = .ok (.aload 5, 2)) ∧ (decode cX11_size 9 = .ok (.instanceof 88, 3)) ∧ (decode cX11_size 12 = .ok (.ifCond .eq 18, 3)) ∧ (decode cX11_size 15 = .ok (.aload 5, 2)) := by decide +kernel
theorem dX11_size_0 : decode cX11_size 0 = .ok (.aload_n 0, 1) := zd_177.1
theorem dX11_size_1 : decode cX11_size 1 = .ok (.iload_n 1, 1) := zd_177.2.1
theorem dX11_size_2 : decode cX11_size 2 = .ok (.invokevirtual 75, 3) := zd_177.2.2.1
theorem dX11_size_5 : decode cX11_size 5 = .ok (.astore 5, 2) := zd_177.2.2.2.1
theorem dX11_size_7 : decode cX11_size 7 = .ok (.aload 5, 2) := zd_177.2.2.2.2.1
theorem dX11_size_9 : decode cX11_size 9 = .ok (.instanceof 88, 3) := zd_177.2.2.2.2.2.1
theorem dX11_size_12 : decode cX11_size 12 = .ok (.ifCond .eq 18, 3) := zd_177.2.2.2.2.2.2.1
theorem dX11_size_15 : decode cX11_size 15 = .ok (.aload 5, 2) := zd_177.2.2.2.2.2.2.2
theorem zd_178 : (decode cX11_size 17 = .ok (.checkcast 88, 3)) ∧ (decode cX11_size 20 = .ok (.astore 4, 2)) ∧ (decode cX11_size 22 = .ok (.iload_n 2, 1)) ∧ (decode cX11_size 23 = .ok (.iload_n 3, 1)) ∧ (decode cX11_size 24 = .ok (.invokestatic 93, 3)) ∧ (decode cX11_size 27 = .ok (.ifCond .ne 5, 3)) ∧ (decode cX11_size 30 = .ok (.iconst (-1), 1)) ∧ (decode cX11_size 31 = .ok (.ireturn, 1)) := by decide +kernel
theorem dX11_size_17 : decode cX11_size 17 = .ok (.checkcast 88, 3) := zd_178.1
theorem dX11_size_20 : decode cX11_size 20 = .ok (.astore 4, 2) := zd_178.2.1
theorem dX11_size_22 : decode cX11_size 22 = .ok (.iload_n 2, 1) := zd_178.2.2.1
theorem dX11_size_23 : decode cX11_size 23 = .ok (.iload_n 3, 1) := zd_178.2.2.2.1
theorem dX11_size_24 : decode cX11_size 24 = .ok (.invokestatic 93, 3) := zd_178.2.2.2.2.1
theorem dX11_size_27 : decode cX11_size 27 = .ok (.ifCond .ne 5, 3) := zd_178.2.2.2.2.2.1
theorem dX11_size_30 : decode cX11_size 30 = .ok (.iconst (-1), 1) := zd_178.2.2.2.2.2.2.1
theorem dX11_size_31 : decode cX11_size 31 = .ok (.ireturn, 1) := zd_178.2.2.2.2.2.2.2
theorem zd_179 : (decode cX11_size 32 = .ok (.aload 4, 2)) ∧ (decode cX11_size 34 = .ok (.iload_n 2, 1)) ∧ (decode cX11_size 35 = .ok (.iload_n 3, 1)) ∧ (decode cX11_size 36 = .ok (.invokevirtual 97, 3)) ∧ (decode cX11_size 39 = .ok (.ireturn, 1)) := by decide +kernel
theorem dX11_size_32 : decode cX11_size 32 = .ok (.aload 4, 2) := zd_179.1
theorem dX11_size_34 : decode cX11_size 34 = .ok (.iload_n 2, 1) := zd_179.2.1
theorem dX11_size_35 : decode cX11_size 35 = .ok (.iload_n 3, 1) := zd_179.2.2.1
theorem dX11_size_36 : decode cX11_size 36 = .ok (.invokevirtual 97, 3) := zd_179.2.2.2.1
theorem dX11_size_39 : decode cX11_size 39 = .ok (.ireturn, 1) := zd_179.2.2.2.2
theorem zd_180 : (decode cX11_paid 0 = .ok (.iload_n 1, 1)) ∧ (decode cX11_paid 1 = .ok (.invokestatic 101, 3)) ∧ (decode cX11_paid 4 = .ok (.ifCond .eq 32, 3)) ∧ (decode cX11_paid 7 = .ok (.iload_n 2, 1)) ∧ (decode cX11_paid 8 = .ok (.invokestatic 48, 3)) ∧ (decode cX11_paid 11 = .ok (.ifCond .eq 25, 3)) ∧ (decode cX11_paid 14 = .ok (.iload 5, 2)) ∧ (decode cX11_paid 16 = .ok (.iload 6, 2)) := by decide +kernel
theorem dX11_paid_0 : decode cX11_paid 0 = .ok (.iload_n 1, 1) := zd_180.1
theorem dX11_paid_1 : decode cX11_paid 1 = .ok (.invokestatic 101, 3) := zd_180.2.1
theorem dX11_paid_4 : decode cX11_paid 4 = .ok (.ifCond .eq 32, 3) := zd_180.2.2.1
theorem dX11_paid_7 : decode cX11_paid 7 = .ok (.iload_n 2, 1) := zd_180.2.2.2.1
theorem dX11_paid_8 : decode cX11_paid 8 = .ok (.invokestatic 48, 3) := zd_180.2.2.2.2.1
theorem dX11_paid_11 : decode cX11_paid 11 = .ok (.ifCond .eq 25, 3) := zd_180.2.2.2.2.2.1
theorem dX11_paid_14 : decode cX11_paid 14 = .ok (.iload 5, 2) := zd_180.2.2.2.2.2.2.1
theorem dX11_paid_16 : decode cX11_paid 16 = .ok (.iload 6, 2) := zd_180.2.2.2.2.2.2.2
theorem zd_181 : (decode cX11_paid 18 = .ok (.invokestatic 93, 3)) ∧ (decode cX11_paid 21 = .ok (.ifCond .eq 15, 3)) ∧ (decode cX11_paid 24 = .ok (.iload 7, 2)) ∧ (decode cX11_paid 26 = .ok (.iconst 0, 1)) ∧ (decode cX11_paid 27 = .ok (.sipush 1000, 3)) ∧ (decode cX11_paid 30 = .ok (.invokestatic 55, 3)) ∧ (decode cX11_paid 33 = .ok (.ifCond .ne 5, 3)) ∧ (decode cX11_paid 36 = .ok (.iconst (-1), 1)) := by decide +kernel
theorem dX11_paid_18 : decode cX11_paid 18 = .ok (.invokestatic 93, 3) := zd_181.1
theorem dX11_paid_21 : decode cX11_paid 21 = .ok (.ifCond .eq 15, 3) := zd_181.2.1
theorem dX11_paid_24 : decode cX11_paid 24 = .ok (.iload 7, 2) := zd_181.2.2.1
theorem dX11_paid_26 : decode cX11_paid 26 = .ok (.iconst 0, 1) := zd_181.2.2.2.1
theorem dX11_paid_27 : decode cX11_paid 27 = .ok (.sipush 1000, 3) := zd_181.2.2.2.2.1
theorem dX11_paid_30 : decode cX11_paid 30 = .ok (.invokestatic 55, 3) := zd_181.2.2.2.2.2.1
theorem dX11_paid_33 : decode cX11_paid 33 = .ok (.ifCond .ne 5, 3) := zd_181.2.2.2.2.2.2.1
theorem dX11_paid_36 : decode cX11_paid 36 = .ok (.iconst (-1), 1) := zd_181.2.2.2.2.2.2.2
theorem zd_182 : (decode cX11_paid 37 = .ok (.ireturn, 1)) ∧ (decode cX11_paid 38 = .ok (.iload_n 3, 1)) ∧ (decode cX11_paid 39 = .ok (.iconst 0, 1)) ∧ (decode cX11_paid 40 = .ok (.bipush 8, 2)) ∧ (decode cX11_paid 42 = .ok (.iload 5, 2)) ∧ (decode cX11_paid 44 = .ok (.isub, 1)) ∧ (decode cX11_paid 45 = .ok (.invokestatic 55, 3)) ∧ (decode cX11_paid 48 = .ok (.ifCond .eq 17, 3)) := by decide +kernel
theorem dX11_paid_37 : decode cX11_paid 37 = .ok (.ireturn, 1) := zd_182.1
theorem dX11_paid_38 : decode cX11_paid 38 = .ok (.iload_n 3, 1) := zd_182.2.1
theorem dX11_paid_39 : decode cX11_paid 39 = .ok (.iconst 0, 1) := zd_182.2.2.1
theorem dX11_paid_40 : decode cX11_paid 40 = .ok (.bipush 8, 2) := zd_182.2.2.2.1
theorem dX11_paid_42 : decode cX11_paid 42 = .ok (.iload 5, 2) := zd_182.2.2.2.2.1
theorem dX11_paid_44 : decode cX11_paid 44 = .ok (.isub, 1) := zd_182.2.2.2.2.2.1
theorem dX11_paid_45 : decode cX11_paid 45 = .ok (.invokestatic 55, 3) := zd_182.2.2.2.2.2.2.1
theorem dX11_paid_48 : decode cX11_paid 48 = .ok (.ifCond .eq 17, 3) := zd_182.2.2.2.2.2.2.2
theorem zd_183 : (decode cX11_paid 51 = .ok (.iload 4, 2)) ∧ (decode cX11_paid 53 = .ok (.iconst 0, 1)) ∧ (decode cX11_paid 54 = .ok (.bipush 60, 2)) ∧ (decode cX11_paid 56 = .ok (.iload 6, 2)) ∧ (decode cX11_paid 58 = .ok (.isub, 1)) ∧ (decode cX11_paid 59 = .ok (.invokestatic 55, 3)) ∧ (decode cX11_paid 62 = .ok (.ifCond .ne 5, 3)) ∧ (decode cX11_paid 65 = .ok (.iconst (-1), 1)) := by decide +kernel
theorem dX11_paid_51 : decode cX11_paid 51 = .ok (.iload 4, 2) := zd_183.1
theorem dX11_paid_53 : decode cX11_paid 53 = .ok (.iconst 0, 1) := zd_183.2.1
theorem dX11_paid_54 : decode cX11_paid 54 = .ok (.bipush 60, 2) := zd_183.2.2.1
theorem dX11_paid_56 : decode cX11_paid 56 = .ok (.iload 6, 2) := zd_183.2.2.2.1
theorem dX11_paid_58 : decode cX11_paid 58 = .ok (.isub, 1) := zd_183.2.2.2.2.1
theorem dX11_paid_59 : decode cX11_paid 59 = .ok (.invokestatic 55, 3) := zd_183.2.2.2.2.2.1
theorem dX11_paid_62 : decode cX11_paid 62 = .ok (.ifCond .ne 5, 3) := zd_183.2.2.2.2.2.2.1
theorem dX11_paid_65 : decode cX11_paid 65 = .ok (.iconst (-1), 1) := zd_183.2.2.2.2.2.2.2
theorem zd_184 : (decode cX11_paid 66 = .ok (.ireturn, 1)) ∧ (decode cX11_paid 67 = .ok (.aload_n 0, 1)) ∧ (decode cX11_paid 68 = .ok (.new 104, 3)) ∧ (decode cX11_paid 71 = .ok (.dup, 1)) ∧ (decode cX11_paid 72 = .ok (.aload_n 0, 1)) ∧ (decode cX11_paid 73 = .ok (.getfield 24, 3)) ∧ (decode cX11_paid 76 = .ok (.iload_n 1, 1)) ∧ (decode cX11_paid 77 = .ok (.iload 7, 2)) := by decide +kernel
theorem dX11_paid_66 : decode cX11_paid 66 = .ok (.ireturn, 1) := zd_184.1
theorem dX11_paid_67 : decode cX11_paid 67 = .ok (.aload_n 0, 1) := zd_184.2.1
theorem dX11_paid_68 : decode cX11_paid 68 = .ok (.new 104, 3) := zd_184.2.2.1
theorem dX11_paid_71 : decode cX11_paid 71 = .ok (.dup, 1) := zd_184.2.2.2.1
theorem dX11_paid_72 : decode cX11_paid 72 = .ok (.aload_n 0, 1) := zd_184.2.2.2.2.1
theorem dX11_paid_73 : decode cX11_paid 73 = .ok (.getfield 24, 3) := zd_184.2.2.2.2.2.1
theorem dX11_paid_76 : decode cX11_paid 76 = .ok (.iload_n 1, 1) := zd_184.2.2.2.2.2.2.1
theorem dX11_paid_77 : decode cX11_paid 77 = .ok (.iload 7, 2) := zd_184.2.2.2.2.2.2.2
theorem zd_185 : (decode cX11_paid 79 = .ok (.new 106, 3)) ∧ (decode cX11_paid 82 = .ok (.dup, 1)) ∧ (decode cX11_paid 83 = .ok (.aconst_null, 1)) ∧ (decode cX11_paid 84 = .ok (.iload_n 2, 1)) ∧ (decode cX11_paid 85 = .ok (.iload_n 3, 1)) ∧ (decode cX11_paid 86 = .ok (.iload 4, 2)) ∧ (decode cX11_paid 88 = .ok (.iload 5, 2)) ∧ (decode cX11_paid 90 = .ok (.iload 6, 2)) := by decide +kernel
theorem dX11_paid_79 : decode cX11_paid 79 = .ok (.new 106, 3) := zd_185.1
theorem dX11_paid_82 : decode cX11_paid 82 = .ok (.dup, 1) := zd_185.2.1
theorem dX11_paid_83 : decode cX11_paid 83 = .ok (.aconst_null, 1) := zd_185.2.2.1
theorem dX11_paid_84 : decode cX11_paid 84 = .ok (.iload_n 2, 1) := zd_185.2.2.2.1
theorem dX11_paid_85 : decode cX11_paid 85 = .ok (.iload_n 3, 1) := zd_185.2.2.2.2.1
theorem dX11_paid_86 : decode cX11_paid 86 = .ok (.iload 4, 2) := zd_185.2.2.2.2.2.1
theorem dX11_paid_88 : decode cX11_paid 88 = .ok (.iload 5, 2) := zd_185.2.2.2.2.2.2.1
theorem dX11_paid_90 : decode cX11_paid 90 = .ok (.iload 6, 2) := zd_185.2.2.2.2.2.2.2
theorem zd_186 : (decode cX11_paid 92 = .ok (.invokespecial 108, 3)) ∧ (decode cX11_paid 95 = .ok (.invokespecial 111, 3)) ∧ (decode cX11_paid 98 = .ok (.invokevirtual 71, 3)) ∧ (decode cX11_paid 101 = .ok (.ireturn, 1)) := by decide +kernel
theorem dX11_paid_92 : decode cX11_paid 92 = .ok (.invokespecial 108, 3) := zd_186.1
theorem dX11_paid_95 : decode cX11_paid 95 = .ok (.invokespecial 111, 3) := zd_186.2.1
theorem dX11_paid_98 : decode cX11_paid 98 = .ok (.invokevirtual 71, 3) := zd_186.2.2.1
theorem dX11_paid_101 : decode cX11_paid 101 = .ok (.ireturn, 1) := zd_186.2.2.2
theorem zd_187 : (decode cX11_filler 0 = .ok (.iload_n 2, 1)) ∧ (decode cX11_filler 1 = .ok (.iconst 1, 1)) ∧ (decode cX11_filler 2 = .ok (.bipush 60, 2)) ∧ (decode cX11_filler 4 = .ok (.invokestatic 55, 3)) ∧ (decode cX11_filler 7 = .ok (.ifCond .eq 12, 3)) ∧ (decode cX11_filler 10 = .ok (.iload_n 1, 1)) ∧ (decode cX11_filler 11 = .ok (.iconst 1, 1)) ∧ (decode cX11_filler 12 = .ok (.iload_n 2, 1)) := by decide +kernel
theorem dX11_filler_0 : decode cX11_filler 0 = .ok (.iload_n 2, 1) := zd_187.1
theorem dX11_filler_1 : decode cX11_filler 1 = .ok (.iconst 1, 1) := zd_187.2.1
theorem dX11_filler_2 : decode cX11_filler 2 = .ok (.bipush 60, 2) := zd_187.2.2.1
theorem dX11_filler_4 : decode cX11_filler 4 = .ok (.invokestatic 55, 3) := zd_187.2.2.2.1
theorem dX11_filler_7 : decode cX11_filler 7 = .ok (.ifCond .eq 12, 3) := zd_187.2.2.2.2.1
theorem dX11_filler_10 : decode cX11_filler 10 = .ok (.iload_n 1, 1) := zd_187.2.2.2.2.2.1
theorem dX11_filler_11 : decode cX11_filler 11 = .ok (.iconst 1, 1) := zd_187.2.2.2.2.2.2.1
theorem dX11_filler_12 : decode cX11_filler 12 = .ok (.iload_n 2, 1) := zd_187.2.2.2.2.2.2.2
theorem zd_188 : (decode cX11_filler 13 = .ok (.invokestatic 55, 3)) ∧ (decode cX11_filler 16 = .ok (.ifCond .ne 5, 3)) ∧ (decode cX11_filler 19 = .ok (.iconst (-1), 1)) ∧ (decode cX11_filler 20 = .ok (.ireturn, 1)) ∧ (decode cX11_filler 21 = .ok (.aload_n 0, 1)) ∧ (decode cX11_filler 22 = .ok (.new 114, 3)) ∧ (decode cX11_filler 25 = .ok (.dup, 1)) ∧ (decode cX11_filler 26 = .ok (.aload_n 0, 1)) := by decide +kernel
theorem dX11_filler_13 : decode cX11_filler 13 = .ok (.invokestatic 55, 3) := zd_188.1
theorem dX11_filler_16 : decode cX11_filler 16 = .ok (.ifCond .ne 5, 3) := zd_188.2.1
theorem dX11_filler_19 : decode cX11_filler 19 = .ok (.iconst (-1), 1) := zd_188.2.2.1
theorem dX11_filler_20 : decode cX11_filler 20 = .ok (.ireturn, 1) := zd_188.2.2.2.1
theorem dX11_filler_21 : decode cX11_filler 21 = .ok (.aload_n 0, 1) := zd_188.2.2.2.2.1
theorem dX11_filler_22 : decode cX11_filler 22 = .ok (.new 114, 3) := zd_188.2.2.2.2.2.1
theorem dX11_filler_25 : decode cX11_filler 25 = .ok (.dup, 1) := zd_188.2.2.2.2.2.2.1
theorem dX11_filler_26 : decode cX11_filler 26 = .ok (.aload_n 0, 1) := zd_188.2.2.2.2.2.2.2
theorem zd_189 : (decode cX11_filler 27 = .ok (.getfield 24, 3)) ∧ (decode cX11_filler 30 = .ok (.iload_n 1, 1)) ∧ (decode cX11_filler 31 = .ok (.iload_n 2, 1)) ∧ (decode cX11_filler 32 = .ok (.invokespecial 116, 3)) ∧ (decode cX11_filler 35 = .ok (.invokevirtual 71, 3)) ∧ (decode cX11_filler 38 = .ok (.ireturn, 1)) := by decide +kernel
theorem dX11_filler_27 : decode cX11_filler 27 = .ok (.getfield 24, 3) := zd_189.1
theorem dX11_filler_30 : decode cX11_filler 30 = .ok (.iload_n 1, 1) := zd_189.2.1
theorem dX11_filler_31 : decode cX11_filler 31 = .ok (.iload_n 2, 1) := zd_189.2.2.1
theorem dX11_filler_32 : decode cX11_filler 32 = .ok (.invokespecial 116, 3) := zd_189.2.2.2.1
theorem dX11_filler_35 : decode cX11_filler 35 = .ok (.invokevirtual 71, 3) := zd_189.2.2.2.2.1
theorem dX11_filler_38 : decode cX11_filler 38 = .ok (.ireturn, 1) := zd_189.2.2.2.2.2
theorem zd_190 : (decode cX11_notice 0 = .ok (.aload_n 0, 1)) ∧ (decode cX11_notice 1 = .ok (.iload_n 1, 1)) ∧ (decode cX11_notice 2 = .ok (.invokevirtual 75, 3)) ∧ (decode cX11_notice 5 = .ok (.astore_n 3, 1)) ∧ (decode cX11_notice 6 = .ok (.aload_n 3, 1)) ∧ (decode cX11_notice 7 = .ok (.ifnull 20, 3)) ∧ (decode cX11_notice 10 = .ok (.aload_n 3, 1)) ∧ (decode cX11_notice 11 = .ok (.instanceof 119, 3)) := by decide +kernel
theorem dX11_notice_0 : decode cX11_notice 0 = .ok (.aload_n 0, 1) := zd_190.1
theorem dX11_notice_1 : decode cX11_notice 1 = .ok (.iload_n 1, 1) := zd_190.2.1
theorem dX11_notice_2 : decode cX11_notice 2 = .ok (.invokevirtual 75, 3) := zd_190.2.2.1
theorem dX11_notice_5 : decode cX11_notice 5 = .ok (.astore_n 3, 1) := zd_190.2.2.2.1
theorem dX11_notice_6 : decode cX11_notice 6 = .ok (.aload_n 3, 1) := zd_190.2.2.2.2.1
theorem dX11_notice_7 : decode cX11_notice 7 = .ok (.ifnull 20, 3) := zd_190.2.2.2.2.2.1
theorem dX11_notice_10 : decode cX11_notice 10 = .ok (.aload_n 3, 1) := zd_190.2.2.2.2.2.2.1
theorem dX11_notice_11 : decode cX11_notice 11 = .ok (.instanceof 119, 3) := zd_190.2.2.2.2.2.2.2
theorem zd_191 : (decode cX11_notice 14 = .ok (.ifCond .ne 13, 3)) ∧ (decode cX11_notice 17 = .ok (.iload_n 2, 1)) ∧ (decode cX11_notice 18 = .ok (.iconst 1, 1)) ∧ (decode cX11_notice 19 = .ok (.bipush 20, 2)) ∧ (decode cX11_notice 21 = .ok (.invokestatic 55, 3)) ∧ (decode cX11_notice 24 = .ok (.ifCond .ne 5, 3)) ∧ (decode cX11_notice 27 = .ok (.iconst (-1), 1)) ∧ (decode cX11_notice 28 = .ok (.ireturn, 1)) := by decide +kernel
theorem dX11_notice_14 : decode cX11_notice 14 = .ok (.ifCond .ne 13, 3) := zd_191.1
theorem dX11_notice_17 : decode cX11_notice 17 = .ok (.iload_n 2, 1) := zd_191.2.1
theorem dX11_notice_18 : decode cX11_notice 18 = .ok (.iconst 1, 1) := zd_191.2.2.1
theorem dX11_notice_19 : decode cX11_notice 19 = .ok (.bipush 20, 2) := zd_191.2.2.2.1
theorem dX11_notice_21 : decode cX11_notice 21 = .ok (.invokestatic 55, 3) := zd_191.2.2.2.2.1
theorem dX11_notice_24 : decode cX11_notice 24 = .ok (.ifCond .ne 5, 3) := zd_191.2.2.2.2.2.1
theorem dX11_notice_27 : decode cX11_notice 27 = .ok (.iconst (-1), 1) := zd_191.2.2.2.2.2.2.1
theorem dX11_notice_28 : decode cX11_notice 28 = .ok (.ireturn, 1) := zd_191.2.2.2.2.2.2.2
theorem zd_192 : (decode cX11_notice 29 = .ok (.aload_n 0, 1)) ∧ (decode cX11_notice 30 = .ok (.aload_n 3, 1)) ∧ (decode cX11_notice 31 = .ok (.iconst 0, 1)) ∧ (decode cX11_notice 32 = .ok (.invokevirtual 121, 3)) ∧ (decode cX11_notice 35 = .ok (.iconst (-1), 1)) ∧ (decode cX11_notice 36 = .ok (.if_icmp .eq 11, 3)) ∧ (decode cX11_notice 39 = .ok (.aload_n 0, 1)) ∧ (decode cX11_notice 40 = .ok (.aload_n 3, 1)) := by decide +kernel
theorem dX11_notice_29 : decode cX11_notice 29 = .ok (.aload_n 0, 1) := zd_192.1
theorem dX11_notice_30 : decode cX11_notice 30 = .ok (.aload_n 3, 1) := zd_192.2.1
theorem dX11_notice_31 : decode cX11_notice 31 = .ok (.iconst 0, 1) := zd_192.2.2.1
theorem dX11_notice_32 : decode cX11_notice 32 = .ok (.invokevirtual 121, 3) := zd_192.2.2.2.1
theorem dX11_notice_35 : decode cX11_notice 35 = .ok (.iconst (-1), 1) := zd_192.2.2.2.2.1
theorem dX11_notice_36 : decode cX11_notice 36 = .ok (.if_icmp .eq 11, 3) := zd_192.2.2.2.2.2.1
theorem dX11_notice_39 : decode cX11_notice 39 = .ok (.aload_n 0, 1) := zd_192.2.2.2.2.2.2.1
theorem dX11_notice_40 : decode cX11_notice 40 = .ok (.aload_n 3, 1) := zd_192.2.2.2.2.2.2.2
theorem zd_193 : (decode cX11_notice 41 = .ok (.invokevirtual 125, 3)) ∧ (decode cX11_notice 44 = .ok (.ifCond .eq 5, 3)) ∧ (decode cX11_notice 47 = .ok (.iconst (-1), 1)) ∧ (decode cX11_notice 48 = .ok (.ireturn, 1)) ∧ (decode cX11_notice 49 = .ok (.aload_n 0, 1)) ∧ (decode cX11_notice 50 = .ok (.new 119, 3)) ∧ (decode cX11_notice 53 = .ok (.dup, 1)) ∧ (decode cX11_notice 54 = .ok (.aload_n 0, 1)) := by decide +kernel
theorem dX11_notice_41 : decode cX11_notice 41 = .ok (.invokevirtual 125, 3) := zd_193.1
theorem dX11_notice_44 : decode cX11_notice 44 = .ok (.ifCond .eq 5, 3) := zd_193.2.1
theorem dX11_notice_47 : decode cX11_notice 47 = .ok (.iconst (-1), 1) := zd_193.2.2.1
theorem dX11_notice_48 : decode cX11_notice 48 = .ok (.ireturn, 1) := zd_193.2.2.2.1
theorem dX11_notice_49 : decode cX11_notice 49 = .ok (.aload_n 0, 1) := zd_193.2.2.2.2.1
theorem dX11_notice_50 : decode cX11_notice 50 = .ok (.new 119, 3) := zd_193.2.2.2.2.2.1
theorem dX11_notice_53 : decode cX11_notice 53 = .ok (.dup, 1) := zd_193.2.2.2.2.2.2.1
theorem dX11_notice_54 : decode cX11_notice 54 = .ok (.aload_n 0, 1) := zd_193.2.2.2.2.2.2.2
theorem zd_194 : (decode cX11_notice 55 = .ok (.getfield 24, 3)) ∧ (decode cX11_notice 58 = .ok (.aload_n 3, 1)) ∧ (decode cX11_notice 59 = .ok (.iload_n 2, 1)) ∧ (decode cX11_notice 60 = .ok (.invokespecial 129, 3)) ∧ (decode cX11_notice 63 = .ok (.invokevirtual 71, 3)) ∧ (decode cX11_notice 66 = .ok (.ireturn, 1)) := by decide +kernel
theorem dX11_notice_55 : decode cX11_notice 55 = .ok (.getfield 24, 3) := zd_194.1
theorem dX11_notice_58 : decode cX11_notice 58 = .ok (.aload_n 3, 1) := zd_194.2.1
theorem dX11_notice_59 : decode cX11_notice 59 = .ok (.iload_n 2, 1) := zd_194.2.2.1
theorem dX11_notice_60 : decode cX11_notice 60 = .ok (.invokespecial 129, 3) := zd_194.2.2.2.1
theorem dX11_notice_63 : decode cX11_notice 63 = .ok (.invokevirtual 71, 3) := zd_194.2.2.2.2.1
theorem dX11_notice_66 : decode cX11_notice 66 = .ok (.ireturn, 1) := zd_194.2.2.2.2.2
theorem zd_195 : (decode cX11_rival 0 = .ok (.iload_n 1, 1)) ∧ (decode cX11_rival 1 = .ok (.invokestatic 101, 3)) ∧ (decode cX11_rival 4 = .ok (.ifCond .eq 24, 3)) ∧ (decode cX11_rival 7 = .ok (.iload_n 2, 1)) ∧ (decode cX11_rival 8 = .ok (.invokestatic 101, 3)) ∧ (decode cX11_rival 11 = .ok (.ifCond .eq 17, 3)) ∧ (decode cX11_rival 14 = .ok (.iload_n 1, 1)) ∧ (decode cX11_rival 15 = .ok (.iload_n 2, 1)) := by decide +kernel
theorem dX11_rival_0 : decode cX11_rival 0 = .ok (.iload_n 1, 1) := zd_195.1
theorem dX11_rival_1 : decode cX11_rival 1 = .ok (.invokestatic 101, 3) := zd_195.2.1
theorem dX11_rival_4 : decode cX11_rival 4 = .ok (.ifCond .eq 24, 3) := zd_195.2.2.1
theorem dX11_rival_7 : decode cX11_rival 7 = .ok (.iload_n 2, 1) := zd_195.2.2.2.1
theorem dX11_rival_8 : decode cX11_rival 8 = .ok (.invokestatic 101, 3) := zd_195.2.2.2.2.1
theorem dX11_rival_11 : decode cX11_rival 11 = .ok (.ifCond .eq 17, 3) := zd_195.2.2.2.2.2.1
theorem dX11_rival_14 : decode cX11_rival 14 = .ok (.iload_n 1, 1) := zd_195.2.2.2.2.2.2.1
theorem dX11_rival_15 : decode cX11_rival 15 = .ok (.iload_n 2, 1) := zd_195.2.2.2.2.2.2.2
theorem zd_196 : (decode cX11_rival 16 = .ok (.if_icmp .eq 12, 3)) ∧ (decode cX11_rival 19 = .ok (.aload_n 0, 1)) ∧ (decode cX11_rival 20 = .ok (.iload_n 1, 1)) ∧ (decode cX11_rival 21 = .ok (.iload_n 2, 1)) ∧ (decode cX11_rival 22 = .ok (.invokevirtual 132, 3)) ∧ (decode cX11_rival 25 = .ok (.ifCond .eq 5, 3)) ∧ (decode cX11_rival 28 = .ok (.iconst 0, 1)) ∧ (decode cX11_rival 29 = .ok (.ireturn, 1)) := by decide +kernel
theorem dX11_rival_16 : decode cX11_rival 16 = .ok (.if_icmp .eq 12, 3) := zd_196.1
theorem dX11_rival_19 : decode cX11_rival 19 = .ok (.aload_n 0, 1) := zd_196.2.1
theorem dX11_rival_20 : decode cX11_rival 20 = .ok (.iload_n 1, 1) := zd_196.2.2.1
theorem dX11_rival_21 : decode cX11_rival 21 = .ok (.iload_n 2, 1) := zd_196.2.2.2.1
theorem dX11_rival_22 : decode cX11_rival 22 = .ok (.invokevirtual 132, 3) := zd_196.2.2.2.2.1
theorem dX11_rival_25 : decode cX11_rival 25 = .ok (.ifCond .eq 5, 3) := zd_196.2.2.2.2.2.1
theorem dX11_rival_28 : decode cX11_rival 28 = .ok (.iconst 0, 1) := zd_196.2.2.2.2.2.2.1
theorem dX11_rival_29 : decode cX11_rival 29 = .ok (.ireturn, 1) := zd_196.2.2.2.2.2.2.2
theorem zd_197 : (decode cX11_rival 30 = .ok (.aload_n 0, 1)) ∧ (decode cX11_rival 31 = .ok (.getfield 37, 3)) ∧ (decode cX11_rival 34 = .ok (.iload_n 1, 1)) ∧ (decode cX11_rival 35 = .ok (.bipush 10, 2)) ∧ (decode cX11_rival 37 = .ok (.imul, 1)) ∧ (decode cX11_rival 38 = .ok (.iload_n 2, 1)) ∧ (decode cX11_rival 39 = .ok (.iadd, 1)) ∧ (decode cX11_rival 40 = .ok (.iconst 1, 1)) := by decide +kernel
theorem dX11_rival_30 : decode cX11_rival 30 = .ok (.aload_n 0, 1) := zd_197.1
theorem dX11_rival_31 : decode cX11_rival 31 = .ok (.getfield 37, 3) := zd_197.2.1
theorem dX11_rival_34 : decode cX11_rival 34 = .ok (.iload_n 1, 1) := zd_197.2.2.1
theorem dX11_rival_35 : decode cX11_rival 35 = .ok (.bipush 10, 2) := zd_197.2.2.2.1
theorem dX11_rival_37 : decode cX11_rival 37 = .ok (.imul, 1) := zd_197.2.2.2.2.1
theorem dX11_rival_38 : decode cX11_rival 38 = .ok (.iload_n 2, 1) := zd_197.2.2.2.2.2.1
theorem dX11_rival_39 : decode cX11_rival 39 = .ok (.iadd, 1) := zd_197.2.2.2.2.2.2.1
theorem dX11_rival_40 : decode cX11_rival 40 = .ok (.iconst 1, 1) := zd_197.2.2.2.2.2.2.2
theorem zd_198 : (decode cX11_rival 41 = .ok (.bastore, 1)) ∧ (decode cX11_rival 42 = .ok (.aload_n 0, 1)) ∧ (decode cX11_rival 43 = .ok (.getfield 37, 3)) ∧ (decode cX11_rival 46 = .ok (.iload_n 2, 1)) ∧ (decode cX11_rival 47 = .ok (.bipush 10, 2)) ∧ (decode cX11_rival 49 = .ok (.imul, 1)) ∧ (decode cX11_rival 50 = .ok (.iload_n 1, 1)) ∧ (decode cX11_rival 51 = .ok (.iadd, 1)) := by decide +kernel
theorem dX11_rival_41 : decode cX11_rival 41 = .ok (.bastore, 1) := zd_198.1
theorem dX11_rival_42 : decode cX11_rival 42 = .ok (.aload_n 0, 1) := zd_198.2.1
theorem dX11_rival_43 : decode cX11_rival 43 = .ok (.getfield 37, 3) := zd_198.2.2.1
theorem dX11_rival_46 : decode cX11_rival 46 = .ok (.iload_n 2, 1) := zd_198.2.2.2.1
theorem dX11_rival_47 : decode cX11_rival 47 = .ok (.bipush 10, 2) := zd_198.2.2.2.2.1
theorem dX11_rival_49 : decode cX11_rival 49 = .ok (.imul, 1) := zd_198.2.2.2.2.2.1
theorem dX11_rival_50 : decode cX11_rival 50 = .ok (.iload_n 1, 1) := zd_198.2.2.2.2.2.2.1
theorem dX11_rival_51 : decode cX11_rival 51 = .ok (.iadd, 1) := zd_198.2.2.2.2.2.2.2
theorem zd_199 : (decode cX11_rival 52 = .ok (.iconst 1, 1)) ∧ (decode cX11_rival 53 = .ok (.bastore, 1)) ∧ (decode cX11_rival 54 = .ok (.iconst 1, 1)) ∧ (decode cX11_rival 55 = .ok (.ireturn, 1)) := by decide +kernel
theorem dX11_rival_52 : decode cX11_rival 52 = .ok (.iconst 1, 1) := zd_199.1
theorem dX11_rival_53 : decode cX11_rival 53 = .ok (.bastore, 1) := zd_199.2.1
theorem dX11_rival_54 : decode cX11_rival 54 = .ok (.iconst 1, 1) := zd_199.2.2.1
theorem dX11_rival_55 : decode cX11_rival 55 = .ok (.ireturn, 1) := zd_199.2.2.2
theorem zd_200 : (decode cX11_names 0 = .ok (.aload_n 0, 1)) ∧ (decode cX11_names 1 = .ok (.iload_n 1, 1)) ∧ (decode cX11_names 2 = .ok (.invokevirtual 75, 3)) ∧ (decode cX11_names 5 = .ok (.astore 4, 2)) ∧ (decode cX11_names 7 = .ok (.aload 4, 2)) ∧ (decode cX11_names 9 = .ok (.instanceof 66, 3)) ∧ (decode cX11_names 12 = .ok (.ifCond .eq 25, 3)) ∧ (decode cX11_names 15 = .ok (.aload 4, 2)) := by decide +kernel
theorem dX11_names_0 : decode cX11_names 0 = .ok (.aload_n 0, 1) := zd_200.1
theorem dX11_names_1 : decode cX11_names 1 = .ok (.iload_n 1, 1) := zd_200.2.1
theorem dX11_names_2 : decode cX11_names 2 = .ok (.invokevirtual 75, 3) := zd_200.2.2.1
theorem dX11_names_5 : decode cX11_names 5 = .ok (.astore 4, 2) := zd_200.2.2.2.1
theorem dX11_names_7 : decode cX11_names 7 = .ok (.aload 4, 2) := zd_200.2.2.2.2.1
theorem dX11_names_9 : decode cX11_names 9 = .ok (.instanceof 66, 3) := zd_200.2.2.2.2.2.1
theorem dX11_names_12 : decode cX11_names 12 = .ok (.ifCond .eq 25, 3) := zd_200.2.2.2.2.2.2.1
theorem dX11_names_15 : decode cX11_names 15 = .ok (.aload 4, 2) := zd_200.2.2.2.2.2.2.2
theorem zd_201 : (decode cX11_names 17 = .ok (.checkcast 66, 3)) ∧ (decode cX11_names 20 = .ok (.astore_n 3, 1)) ∧ (decode cX11_names 21 = .ok (.iload_n 2, 1)) ∧ (decode cX11_names 22 = .ok (.invokestatic 101, 3)) ∧ (decode cX11_names 25 = .ok (.ifCond .eq 12, 3)) ∧ (decode cX11_names 28 = .ok (.aload_n 3, 1)) ∧ (decode cX11_names 29 = .ok (.getfield 135, 3)) ∧ (decode cX11_names 32 = .ok (.iload_n 2, 1)) := by decide +kernel
theorem dX11_names_17 : decode cX11_names 17 = .ok (.checkcast 66, 3) := zd_201.1
theorem dX11_names_20 : decode cX11_names 20 = .ok (.astore_n 3, 1) := zd_201.2.1
theorem dX11_names_21 : decode cX11_names 21 = .ok (.iload_n 2, 1) := zd_201.2.2.1
theorem dX11_names_22 : decode cX11_names 22 = .ok (.invokestatic 101, 3) := zd_201.2.2.2.1
theorem dX11_names_25 : decode cX11_names 25 = .ok (.ifCond .eq 12, 3) := zd_201.2.2.2.2.1
theorem dX11_names_28 : decode cX11_names 28 = .ok (.aload_n 3, 1) := zd_201.2.2.2.2.2.1
theorem dX11_names_29 : decode cX11_names 29 = .ok (.getfield 135, 3) := zd_201.2.2.2.2.2.2.1
theorem dX11_names_32 : decode cX11_names 32 = .ok (.iload_n 2, 1) := zd_201.2.2.2.2.2.2.2
theorem zd_202 : (decode cX11_names 33 = .ok (.baload, 1)) ∧ (decode cX11_names 34 = .ok (.ifCond .eq 5, 3)) ∧ (decode cX11_names 37 = .ok (.iconst 0, 1)) ∧ (decode cX11_names 38 = .ok (.ireturn, 1)) ∧ (decode cX11_names 39 = .ok (.aload_n 3, 1)) ∧ (decode cX11_names 40 = .ok (.getfield 135, 3)) ∧ (decode cX11_names 43 = .ok (.iload_n 2, 1)) ∧ (decode cX11_names 44 = .ok (.iconst 1, 1)) := by decide +kernel
theorem dX11_names_33 : decode cX11_names 33 = .ok (.baload, 1) := zd_202.1
theorem dX11_names_34 : decode cX11_names 34 = .ok (.ifCond .eq 5, 3) := zd_202.2.1
theorem dX11_names_37 : decode cX11_names 37 = .ok (.iconst 0, 1) := zd_202.2.2.1
theorem dX11_names_38 : decode cX11_names 38 = .ok (.ireturn, 1) := zd_202.2.2.2.1
theorem dX11_names_39 : decode cX11_names 39 = .ok (.aload_n 3, 1) := zd_202.2.2.2.2.1
theorem dX11_names_40 : decode cX11_names 40 = .ok (.getfield 135, 3) := zd_202.2.2.2.2.2.1
theorem dX11_names_43 : decode cX11_names 43 = .ok (.iload_n 2, 1) := zd_202.2.2.2.2.2.2.1
theorem dX11_names_44 : decode cX11_names 44 = .ok (.iconst 1, 1) := zd_202.2.2.2.2.2.2.2
theorem zd_203 : (decode cX11_names 45 = .ok (.bastore, 1)) ∧ (decode cX11_names 46 = .ok (.iconst 1, 1)) ∧ (decode cX11_names 47 = .ok (.ireturn, 1)) := by decide +kernel
theorem dX11_names_45 : decode cX11_names 45 = .ok (.bastore, 1) := zd_203.1
theorem dX11_names_46 : decode cX11_names 46 = .ok (.iconst 1, 1) := zd_203.2.1
theorem dX11_names_47 : decode cX11_names 47 = .ok (.ireturn, 1) := zd_203.2.2
theorem zd_204 : (decode cX11_put 0 = .ok (.aload_n 0, 1)) ∧ (decode cX11_put 1 = .ok (.iload_n 1, 1)) ∧ (decode cX11_put 2 = .ok (.invokevirtual 75, 3)) ∧ (decode cX11_put 5 = .ok (.astore 6, 2)) ∧ (decode cX11_put 7 = .ok (.aload 6, 2)) ∧ (decode cX11_put 9 = .ok (.ifnull 17, 3)) ∧ (decode cX11_put 12 = .ok (.iload_n 2, 1)) ∧ (decode cX11_put 13 = .ok (.invokestatic 48, 3)) := by decide +kernel
theorem dX11_put_0 : decode cX11_put 0 = .ok (.aload_n 0, 1) := zd_204.1
theorem dX11_put_1 : decode cX11_put 1 = .ok (.iload_n 1, 1) := zd_204.2.1
theorem dX11_put_2 : decode cX11_put 2 = .ok (.invokevirtual 75, 3) := zd_204.2.2.1
theorem dX11_put_5 : decode cX11_put 5 = .ok (.astore 6, 2) := zd_204.2.2.2.1
theorem dX11_put_7 : decode cX11_put 7 = .ok (.aload 6, 2) := zd_204.2.2.2.2.1
theorem dX11_put_9 : decode cX11_put 9 = .ok (.ifnull 17, 3) := zd_204.2.2.2.2.2.1
theorem dX11_put_12 : decode cX11_put 12 = .ok (.iload_n 2, 1) := zd_204.2.2.2.2.2.2.1
theorem dX11_put_13 : decode cX11_put 13 = .ok (.invokestatic 48, 3) := zd_204.2.2.2.2.2.2.2
theorem zd_205 : (decode cX11_put 16 = .ok (.ifCond .eq 10, 3)) ∧ (decode cX11_put 19 = .ok (.aload_n 0, 1)) ∧ (decode cX11_put 20 = .ok (.invokevirtual 138, 3)) ∧ (decode cX11_put 23 = .ok (.ifCond .ne 5, 3)) ∧ (decode cX11_put 26 = .ok (.iconst (-1), 1)) ∧ (decode cX11_put 27 = .ok (.ireturn, 1)) ∧ (decode cX11_put 28 = .ok (.new 106, 3)) ∧ (decode cX11_put 31 = .ok (.dup, 1)) := by decide +kernel
theorem dX11_put_16 : decode cX11_put 16 = .ok (.ifCond .eq 10, 3) := zd_205.1
theorem dX11_put_19 : decode cX11_put 19 = .ok (.aload_n 0, 1) := zd_205.2.1
theorem dX11_put_20 : decode cX11_put 20 = .ok (.invokevirtual 138, 3) := zd_205.2.2.1
theorem dX11_put_23 : decode cX11_put 23 = .ok (.ifCond .ne 5, 3) := zd_205.2.2.2.1
theorem dX11_put_26 : decode cX11_put 26 = .ok (.iconst (-1), 1) := zd_205.2.2.2.2.1
theorem dX11_put_27 : decode cX11_put 27 = .ok (.ireturn, 1) := zd_205.2.2.2.2.2.1
theorem dX11_put_28 : decode cX11_put 28 = .ok (.new 106, 3) := zd_205.2.2.2.2.2.2.1
theorem dX11_put_31 : decode cX11_put 31 = .ok (.dup, 1) := zd_205.2.2.2.2.2.2.2
theorem zd_206 : (decode cX11_put 32 = .ok (.aload 6, 2)) ∧ (decode cX11_put 34 = .ok (.iload_n 2, 1)) ∧ (decode cX11_put 35 = .ok (.iload_n 3, 1)) ∧ (decode cX11_put 36 = .ok (.iload 4, 2)) ∧ (decode cX11_put 38 = .ok (.aload 6, 2)) ∧ (decode cX11_put 40 = .ok (.iload 5, 2)) ∧ (decode cX11_put 42 = .ok (.invokevirtual 142, 3)) ∧ (decode cX11_put 45 = .ok (.aload 6, 2)) := by decide +kernel
theorem dX11_put_32 : decode cX11_put 32 = .ok (.aload 6, 2) := zd_206.1
theorem dX11_put_34 : decode cX11_put 34 = .ok (.iload_n 2, 1) := zd_206.2.1
theorem dX11_put_35 : decode cX11_put 35 = .ok (.iload_n 3, 1) := zd_206.2.2.1
theorem dX11_put_36 : decode cX11_put 36 = .ok (.iload 4, 2) := zd_206.2.2.2.1
theorem dX11_put_38 : decode cX11_put 38 = .ok (.aload 6, 2) := zd_206.2.2.2.2.1
theorem dX11_put_40 : decode cX11_put 40 = .ok (.iload 5, 2) := zd_206.2.2.2.2.2.1
theorem dX11_put_42 : decode cX11_put 42 = .ok (.invokevirtual 142, 3) := zd_206.2.2.2.2.2.2.1
theorem dX11_put_45 : decode cX11_put 45 = .ok (.aload 6, 2) := zd_206.2.2.2.2.2.2.2
theorem zd_207 : (decode cX11_put 47 = .ok (.iload 5, 2)) ∧ (decode cX11_put 49 = .ok (.invokevirtual 145, 3)) ∧ (decode cX11_put 52 = .ok (.invokespecial 108, 3)) ∧ (decode cX11_put 55 = .ok (.astore 7, 2)) ∧ (decode cX11_put 57 = .ok (.aload 6, 2)) ∧ (decode cX11_put 59 = .ok (.invokevirtual 148, 3)) ∧ (decode cX11_put 62 = .ok (.ifCond .eq 40, 3)) ∧ (decode cX11_put 65 = .ok (.aload_n 0, 1)) := by decide +kernel
theorem dX11_put_47 : decode cX11_put 47 = .ok (.iload 5, 2) := zd_207.1
theorem dX11_put_49 : decode cX11_put 49 = .ok (.invokevirtual 145, 3) := zd_207.2.1
theorem dX11_put_52 : decode cX11_put 52 = .ok (.invokespecial 108, 3) := zd_207.2.2.1
theorem dX11_put_55 : decode cX11_put 55 = .ok (.astore 7, 2) := zd_207.2.2.2.1
theorem dX11_put_57 : decode cX11_put 57 = .ok (.aload 6, 2) := zd_207.2.2.2.2.1
theorem dX11_put_59 : decode cX11_put 59 = .ok (.invokevirtual 148, 3) := zd_207.2.2.2.2.2.1
theorem dX11_put_62 : decode cX11_put 62 = .ok (.ifCond .eq 40, 3) := zd_207.2.2.2.2.2.2.1
theorem dX11_put_65 : decode cX11_put 65 = .ok (.aload_n 0, 1) := zd_207.2.2.2.2.2.2.2
theorem zd_208 : (decode cX11_put 66 = .ok (.getfield 11, 3)) ∧ (decode cX11_put 69 = .ok (.iload_n 2, 1)) ∧ (decode cX11_put 70 = .ok (.aaload, 1)) ∧ (decode cX11_put 71 = .ok (.aload 7, 2)) ∧ (decode cX11_put 73 = .ok (.invokevirtual 151, 3)) ∧ (decode cX11_put 76 = .ok (.ifCond .eq 26, 3)) ∧ (decode cX11_put 79 = .ok (.aload 6, 2)) ∧ (decode cX11_put 81 = .ok (.aload 7, 2)) := by decide +kernel
theorem dX11_put_66 : decode cX11_put 66 = .ok (.getfield 11, 3) := zd_208.1
theorem dX11_put_69 : decode cX11_put 69 = .ok (.iload_n 2, 1) := zd_208.2.1
theorem dX11_put_70 : decode cX11_put 70 = .ok (.aaload, 1) := zd_208.2.2.1
theorem dX11_put_71 : decode cX11_put 71 = .ok (.aload 7, 2) := zd_208.2.2.2.1
theorem dX11_put_73 : decode cX11_put 73 = .ok (.invokevirtual 151, 3) := zd_208.2.2.2.2.1
theorem dX11_put_76 : decode cX11_put 76 = .ok (.ifCond .eq 26, 3) := zd_208.2.2.2.2.2.1
theorem dX11_put_79 : decode cX11_put 79 = .ok (.aload 6, 2) := zd_208.2.2.2.2.2.2.1
theorem dX11_put_81 : decode cX11_put 81 = .ok (.aload 7, 2) := zd_208.2.2.2.2.2.2.2
theorem zd_209 : (decode cX11_put 83 = .ok (.aload_n 0, 1)) ∧ (decode cX11_put 84 = .ok (.getfield 11, 3)) ∧ (decode cX11_put 87 = .ok (.iload_n 2, 1)) ∧ (decode cX11_put 88 = .ok (.aaload, 1)) ∧ (decode cX11_put 89 = .ok (.getfield 63, 3)) ∧ (decode cX11_put 92 = .ok (.aload_n 0, 1)) ∧ (decode cX11_put 93 = .ok (.getfield 41, 3)) ∧ (decode cX11_put 96 = .ok (.invokevirtual 155, 3)) := by decide +kernel
theorem dX11_put_83 : decode cX11_put 83 = .ok (.aload_n 0, 1) := zd_209.1
theorem dX11_put_84 : decode cX11_put 84 = .ok (.getfield 11, 3) := zd_209.2.1
theorem dX11_put_87 : decode cX11_put 87 = .ok (.iload_n 2, 1) := zd_209.2.2.1
theorem dX11_put_88 : decode cX11_put 88 = .ok (.aaload, 1) := zd_209.2.2.2.1
theorem dX11_put_89 : decode cX11_put 89 = .ok (.getfield 63, 3) := zd_209.2.2.2.2.1
theorem dX11_put_92 : decode cX11_put 92 = .ok (.aload_n 0, 1) := zd_209.2.2.2.2.2.1
theorem dX11_put_93 : decode cX11_put 93 = .ok (.getfield 41, 3) := zd_209.2.2.2.2.2.2.1
theorem dX11_put_96 : decode cX11_put 96 = .ok (.invokevirtual 155, 3) := zd_209.2.2.2.2.2.2.2
theorem zd_210 : (decode cX11_put 99 = .ok (.ifCond .ne 5, 3)) ∧ (decode cX11_put 102 = .ok (.iconst (-1), 1)) ∧ (decode cX11_put 103 = .ok (.ireturn, 1)) ∧ (decode cX11_put 104 = .ok (.aload_n 0, 1)) ∧ (decode cX11_put 105 = .ok (.aload 7, 2)) ∧ (decode cX11_put 107 = .ok (.invokevirtual 159, 3)) ∧ (decode cX11_put 110 = .ok (.aload_n 0, 1)) ∧ (decode cX11_put 111 = .ok (.new 28, 3)) := by decide +kernel
theorem dX11_put_99 : decode cX11_put 99 = .ok (.ifCond .ne 5, 3) := zd_210.1
theorem dX11_put_102 : decode cX11_put 102 = .ok (.iconst (-1), 1) := zd_210.2.1
theorem dX11_put_103 : decode cX11_put 103 = .ok (.ireturn, 1) := zd_210.2.2.1
theorem dX11_put_104 : decode cX11_put 104 = .ok (.aload_n 0, 1) := zd_210.2.2.2.1
theorem dX11_put_105 : decode cX11_put 105 = .ok (.aload 7, 2) := zd_210.2.2.2.2.1
theorem dX11_put_107 : decode cX11_put 107 = .ok (.invokevirtual 159, 3) := zd_210.2.2.2.2.2.1
theorem dX11_put_110 : decode cX11_put 110 = .ok (.aload_n 0, 1) := zd_210.2.2.2.2.2.2.1
theorem dX11_put_111 : decode cX11_put 111 = .ok (.new 28, 3) := zd_210.2.2.2.2.2.2.2
theorem zd_211 : (decode cX11_put 114 = .ok (.dup, 1)) ∧ (decode cX11_put 115 = .ok (.aload 7, 2)) ∧ (decode cX11_put 117 = .ok (.iconst 0, 1)) ∧ (decode cX11_put 118 = .ok (.aconst_null, 1)) ∧ (decode cX11_put 119 = .ok (.invokespecial 163, 3)) ∧ (decode cX11_put 122 = .ok (.invokevirtual 166, 3)) ∧ (decode cX11_put 125 = .ok (.aload 6, 2)) ∧ (decode cX11_put 127 = .ok (.getfield 170, 3)) := by decide +kernel
theorem dX11_put_114 : decode cX11_put 114 = .ok (.dup, 1) := zd_211.1
theorem dX11_put_115 : decode cX11_put 115 = .ok (.aload 7, 2) := zd_211.2.1
theorem dX11_put_117 : decode cX11_put 117 = .ok (.iconst 0, 1) := zd_211.2.2.1
theorem dX11_put_118 : decode cX11_put 118 = .ok (.aconst_null, 1) := zd_211.2.2.2.1
theorem dX11_put_119 : decode cX11_put 119 = .ok (.invokespecial 163, 3) := zd_211.2.2.2.2.1
theorem dX11_put_122 : decode cX11_put 122 = .ok (.invokevirtual 166, 3) := zd_211.2.2.2.2.2.1
theorem dX11_put_125 : decode cX11_put 125 = .ok (.aload 6, 2) := zd_211.2.2.2.2.2.2.1
theorem dX11_put_127 : decode cX11_put 127 = .ok (.getfield 170, 3) := zd_211.2.2.2.2.2.2.2
theorem dX11_put_130 : decode cX11_put 130 = .ok (.ireturn, 1) := by decide +kernel
theorem zd_212 : (decode cX11_lift 0 = .ok (.aload_n 0, 1)) ∧ (decode cX11_lift 1 = .ok (.iload_n 1, 1)) ∧ (decode cX11_lift 2 = .ok (.invokevirtual 75, 3)) ∧ (decode cX11_lift 5 = .ok (.astore_n 2, 1)) ∧ (decode cX11_lift 6 = .ok (.aload_n 2, 1)) ∧ (decode cX11_lift 7 = .ok (.ifnull 10, 3)) ∧ (decode cX11_lift 10 = .ok (.aload_n 0, 1)) ∧ (decode cX11_lift 11 = .ok (.invokevirtual 138, 3)) := by decide +kernel
theorem dX11_lift_0 : decode cX11_lift 0 = .ok (.aload_n 0, 1) := zd_212.1
theorem dX11_lift_1 : decode cX11_lift 1 = .ok (.iload_n 1, 1) := zd_212.2.1
theorem dX11_lift_2 : decode cX11_lift 2 = .ok (.invokevirtual 75, 3) := zd_212.2.2.1
theorem dX11_lift_5 : decode cX11_lift 5 = .ok (.astore_n 2, 1) := zd_212.2.2.2.1
theorem dX11_lift_6 : decode cX11_lift 6 = .ok (.aload_n 2, 1) := zd_212.2.2.2.2.1
theorem dX11_lift_7 : decode cX11_lift 7 = .ok (.ifnull 10, 3) := zd_212.2.2.2.2.2.1
theorem dX11_lift_10 : decode cX11_lift 10 = .ok (.aload_n 0, 1) := zd_212.2.2.2.2.2.2.1
theorem dX11_lift_11 : decode cX11_lift 11 = .ok (.invokevirtual 138, 3) := zd_212.2.2.2.2.2.2.2
theorem zd_213 : (decode cX11_lift 14 = .ok (.ifCond .ne 5, 3)) ∧ (decode cX11_lift 17 = .ok (.iconst (-1), 1)) ∧ (decode cX11_lift 18 = .ok (.ireturn, 1)) ∧ (decode cX11_lift 19 = .ok (.aload_n 2, 1)) ∧ (decode cX11_lift 20 = .ok (.invokevirtual 173, 3)) ∧ (decode cX11_lift 23 = .ok (.astore_n 3, 1)) ∧ (decode cX11_lift 24 = .ok (.aload_n 3, 1)) ∧ (decode cX11_lift 25 = .ok (.ifnonnull 5, 3)) := by decide +kernel
theorem dX11_lift_14 : decode cX11_lift 14 = .ok (.ifCond .ne 5, 3) := zd_213.1
theorem dX11_lift_17 : decode cX11_lift 17 = .ok (.iconst (-1), 1) := zd_213.2.1
theorem dX11_lift_18 : decode cX11_lift 18 = .ok (.ireturn, 1) := zd_213.2.2.1
theorem dX11_lift_19 : decode cX11_lift 19 = .ok (.aload_n 2, 1) := zd_213.2.2.2.1
theorem dX11_lift_20 : decode cX11_lift 20 = .ok (.invokevirtual 173, 3) := zd_213.2.2.2.2.1
theorem dX11_lift_23 : decode cX11_lift 23 = .ok (.astore_n 3, 1) := zd_213.2.2.2.2.2.1
theorem dX11_lift_24 : decode cX11_lift 24 = .ok (.aload_n 3, 1) := zd_213.2.2.2.2.2.2.1
theorem dX11_lift_25 : decode cX11_lift 25 = .ok (.ifnonnull 5, 3) := zd_213.2.2.2.2.2.2.2
theorem zd_214 : (decode cX11_lift 28 = .ok (.iconst (-1), 1)) ∧ (decode cX11_lift 29 = .ok (.ireturn, 1)) ∧ (decode cX11_lift 30 = .ok (.aload_n 0, 1)) ∧ (decode cX11_lift 31 = .ok (.aload_n 3, 1)) ∧ (decode cX11_lift 32 = .ok (.invokevirtual 177, 3)) ∧ (decode cX11_lift 35 = .ok (.aload_n 0, 1)) ∧ (decode cX11_lift 36 = .ok (.new 28, 3)) ∧ (decode cX11_lift 39 = .ok (.dup, 1)) := by decide +kernel
theorem dX11_lift_28 : decode cX11_lift 28 = .ok (.iconst (-1), 1) := zd_214.1
theorem dX11_lift_29 : decode cX11_lift 29 = .ok (.ireturn, 1) := zd_214.2.1
theorem dX11_lift_30 : decode cX11_lift 30 = .ok (.aload_n 0, 1) := zd_214.2.2.1
theorem dX11_lift_31 : decode cX11_lift 31 = .ok (.aload_n 3, 1) := zd_214.2.2.2.1
theorem dX11_lift_32 : decode cX11_lift 32 = .ok (.invokevirtual 177, 3) := zd_214.2.2.2.2.1
theorem dX11_lift_35 : decode cX11_lift 35 = .ok (.aload_n 0, 1) := zd_214.2.2.2.2.2.1
theorem dX11_lift_36 : decode cX11_lift 36 = .ok (.new 28, 3) := zd_214.2.2.2.2.2.2.1
theorem dX11_lift_39 : decode cX11_lift 39 = .ok (.dup, 1) := zd_214.2.2.2.2.2.2.2
theorem zd_215 : (decode cX11_lift 40 = .ok (.aload_n 3, 1)) ∧ (decode cX11_lift 41 = .ok (.iconst 1, 1)) ∧ (decode cX11_lift 42 = .ok (.aconst_null, 1)) ∧ (decode cX11_lift 43 = .ok (.invokespecial 163, 3)) ∧ (decode cX11_lift 46 = .ok (.invokevirtual 166, 3)) ∧ (decode cX11_lift 49 = .ok (.aload_n 2, 1)) ∧ (decode cX11_lift 50 = .ok (.getfield 170, 3)) ∧ (decode cX11_lift 53 = .ok (.ireturn, 1)) := by decide +kernel
theorem dX11_lift_40 : decode cX11_lift 40 = .ok (.aload_n 3, 1) := zd_215.1
theorem dX11_lift_41 : decode cX11_lift 41 = .ok (.iconst 1, 1) := zd_215.2.1
theorem dX11_lift_42 : decode cX11_lift 42 = .ok (.aconst_null, 1) := zd_215.2.2.1
theorem dX11_lift_43 : decode cX11_lift 43 = .ok (.invokespecial 163, 3) := zd_215.2.2.2.1
theorem dX11_lift_46 : decode cX11_lift 46 = .ok (.invokevirtual 166, 3) := zd_215.2.2.2.2.1
theorem dX11_lift_49 : decode cX11_lift 49 = .ok (.aload_n 2, 1) := zd_215.2.2.2.2.2.1
theorem dX11_lift_50 : decode cX11_lift 50 = .ok (.getfield 170, 3) := zd_215.2.2.2.2.2.2.1
theorem dX11_lift_53 : decode cX11_lift 53 = .ok (.ireturn, 1) := zd_215.2.2.2.2.2.2.2
theorem zd_216 : (decode cX11_rule 0 = .ok (.iload_n 1, 1)) ∧ (decode cX11_rule 1 = .ok (.invokestatic 48, 3)) ∧ (decode cX11_rule 4 = .ok (.ifCond .eq 10, 3)) ∧ (decode cX11_rule 7 = .ok (.aload_n 0, 1)) ∧ (decode cX11_rule 8 = .ok (.invokevirtual 138, 3)) ∧ (decode cX11_rule 11 = .ok (.ifCond .ne 5, 3)) ∧ (decode cX11_rule 14 = .ok (.iconst 0, 1)) ∧ (decode cX11_rule 15 = .ok (.ireturn, 1)) := by decide +kernel
theorem dX11_rule_0 : decode cX11_rule 0 = .ok (.iload_n 1, 1) := zd_216.1
theorem dX11_rule_1 : decode cX11_rule 1 = .ok (.invokestatic 48, 3) := zd_216.2.1
theorem dX11_rule_4 : decode cX11_rule 4 = .ok (.ifCond .eq 10, 3) := zd_216.2.2.1
theorem dX11_rule_7 : decode cX11_rule 7 = .ok (.aload_n 0, 1) := zd_216.2.2.2.1
theorem dX11_rule_8 : decode cX11_rule 8 = .ok (.invokevirtual 138, 3) := zd_216.2.2.2.2.1
theorem dX11_rule_11 : decode cX11_rule 11 = .ok (.ifCond .ne 5, 3) := zd_216.2.2.2.2.2.1
theorem dX11_rule_14 : decode cX11_rule 14 = .ok (.iconst 0, 1) := zd_216.2.2.2.2.2.2.1
theorem dX11_rule_15 : decode cX11_rule 15 = .ok (.ireturn, 1) := zd_216.2.2.2.2.2.2.2
theorem zd_217 : (decode cX11_rule 16 = .ok (.new 106, 3)) ∧ (decode cX11_rule 19 = .ok (.dup, 1)) ∧ (decode cX11_rule 20 = .ok (.aconst_null, 1)) ∧ (decode cX11_rule 21 = .ok (.iload_n 1, 1)) ∧ (decode cX11_rule 22 = .ok (.iload_n 2, 1)) ∧ (decode cX11_rule 23 = .ok (.iload_n 3, 1)) ∧ (decode cX11_rule 24 = .ok (.iconst 1, 1)) ∧ (decode cX11_rule 25 = .ok (.iconst 1, 1)) := by decide +kernel
theorem dX11_rule_16 : decode cX11_rule 16 = .ok (.new 106, 3) := zd_217.1
theorem dX11_rule_19 : decode cX11_rule 19 = .ok (.dup, 1) := zd_217.2.1
theorem dX11_rule_20 : decode cX11_rule 20 = .ok (.aconst_null, 1) := zd_217.2.2.1
theorem dX11_rule_21 : decode cX11_rule 21 = .ok (.iload_n 1, 1) := zd_217.2.2.2.1
theorem dX11_rule_22 : decode cX11_rule 22 = .ok (.iload_n 2, 1) := zd_217.2.2.2.2.1
theorem dX11_rule_23 : decode cX11_rule 23 = .ok (.iload_n 3, 1) := zd_217.2.2.2.2.2.1
theorem dX11_rule_24 : decode cX11_rule 24 = .ok (.iconst 1, 1) := zd_217.2.2.2.2.2.2.1
theorem dX11_rule_25 : decode cX11_rule 25 = .ok (.iconst 1, 1) := zd_217.2.2.2.2.2.2.2
theorem zd_218 : (decode cX11_rule 26 = .ok (.invokespecial 108, 3)) ∧ (decode cX11_rule 29 = .ok (.astore 4, 2)) ∧ (decode cX11_rule 31 = .ok (.aload_n 0, 1)) ∧ (decode cX11_rule 32 = .ok (.getfield 11, 3)) ∧ (decode cX11_rule 35 = .ok (.iload_n 1, 1)) ∧ (decode cX11_rule 36 = .ok (.aaload, 1)) ∧ (decode cX11_rule 37 = .ok (.aload 4, 2)) ∧ (decode cX11_rule 39 = .ok (.invokevirtual 151, 3)) := by decide +kernel
theorem dX11_rule_26 : decode cX11_rule 26 = .ok (.invokespecial 108, 3) := zd_218.1
theorem dX11_rule_29 : decode cX11_rule 29 = .ok (.astore 4, 2) := zd_218.2.1
theorem dX11_rule_31 : decode cX11_rule 31 = .ok (.aload_n 0, 1) := zd_218.2.2.1
theorem dX11_rule_32 : decode cX11_rule 32 = .ok (.getfield 11, 3) := zd_218.2.2.2.1
theorem dX11_rule_35 : decode cX11_rule 35 = .ok (.iload_n 1, 1) := zd_218.2.2.2.2.1
theorem dX11_rule_36 : decode cX11_rule 36 = .ok (.aaload, 1) := zd_218.2.2.2.2.2.1
theorem dX11_rule_37 : decode cX11_rule 37 = .ok (.aload 4, 2) := zd_218.2.2.2.2.2.2.1
theorem dX11_rule_39 : decode cX11_rule 39 = .ok (.invokevirtual 151, 3) := zd_218.2.2.2.2.2.2.2
theorem zd_219 : (decode cX11_rule 42 = .ok (.ifCond .ne 5, 3)) ∧ (decode cX11_rule 45 = .ok (.iconst 0, 1)) ∧ (decode cX11_rule 46 = .ok (.ireturn, 1)) ∧ (decode cX11_rule 47 = .ok (.aload_n 0, 1)) ∧ (decode cX11_rule 48 = .ok (.aload 4, 2)) ∧ (decode cX11_rule 50 = .ok (.invokevirtual 159, 3)) ∧ (decode cX11_rule 53 = .ok (.aload_n 0, 1)) ∧ (decode cX11_rule 54 = .ok (.new 28, 3)) := by decide +kernel
theorem dX11_rule_42 : decode cX11_rule 42 = .ok (.ifCond .ne 5, 3) := zd_219.1
theorem dX11_rule_45 : decode cX11_rule 45 = .ok (.iconst 0, 1) := zd_219.2.1
theorem dX11_rule_46 : decode cX11_rule 46 = .ok (.ireturn, 1) := zd_219.2.2.1
theorem dX11_rule_47 : decode cX11_rule 47 = .ok (.aload_n 0, 1) := zd_219.2.2.2.1
theorem dX11_rule_48 : decode cX11_rule 48 = .ok (.aload 4, 2) := zd_219.2.2.2.2.1
theorem dX11_rule_50 : decode cX11_rule 50 = .ok (.invokevirtual 159, 3) := zd_219.2.2.2.2.2.1
theorem dX11_rule_53 : decode cX11_rule 53 = .ok (.aload_n 0, 1) := zd_219.2.2.2.2.2.2.1
theorem dX11_rule_54 : decode cX11_rule 54 = .ok (.new 28, 3) := zd_219.2.2.2.2.2.2.2
theorem zd_220 : (decode cX11_rule 57 = .ok (.dup, 1)) ∧ (decode cX11_rule 58 = .ok (.aload 4, 2)) ∧ (decode cX11_rule 60 = .ok (.iconst 0, 1)) ∧ (decode cX11_rule 61 = .ok (.aconst_null, 1)) ∧ (decode cX11_rule 62 = .ok (.invokespecial 163, 3)) ∧ (decode cX11_rule 65 = .ok (.invokevirtual 166, 3)) ∧ (decode cX11_rule 68 = .ok (.iconst 1, 1)) ∧ (decode cX11_rule 69 = .ok (.ireturn, 1)) := by decide +kernel
theorem dX11_rule_57 : decode cX11_rule 57 = .ok (.dup, 1) := zd_220.1
theorem dX11_rule_58 : decode cX11_rule 58 = .ok (.aload 4, 2) := zd_220.2.1
theorem dX11_rule_60 : decode cX11_rule 60 = .ok (.iconst 0, 1) := zd_220.2.2.1
theorem dX11_rule_61 : decode cX11_rule 61 = .ok (.aconst_null, 1) := zd_220.2.2.2.1
theorem dX11_rule_62 : decode cX11_rule 62 = .ok (.invokespecial 163, 3) := zd_220.2.2.2.2.1
theorem dX11_rule_65 : decode cX11_rule 65 = .ok (.invokevirtual 166, 3) := zd_220.2.2.2.2.2.1
theorem dX11_rule_68 : decode cX11_rule 68 = .ok (.iconst 1, 1) := zd_220.2.2.2.2.2.2.1
theorem dX11_rule_69 : decode cX11_rule 69 = .ok (.ireturn, 1) := zd_220.2.2.2.2.2.2.2
theorem zd_221 : (decode cX11_fill 0 = .ok (.iload_n 1, 1)) ∧ (decode cX11_fill 1 = .ok (.invokestatic 48, 3)) ∧ (decode cX11_fill 4 = .ok (.ifCond .eq 10, 3)) ∧ (decode cX11_fill 7 = .ok (.aload_n 0, 1)) ∧ (decode cX11_fill 8 = .ok (.invokevirtual 138, 3)) ∧ (decode cX11_fill 11 = .ok (.ifCond .ne 5, 3)) ∧ (decode cX11_fill 14 = .ok (.iconst (-1), 1)) ∧ (decode cX11_fill 15 = .ok (.ireturn, 1)) := by decide +kernel
theorem dX11_fill_0 : decode cX11_fill 0 = .ok (.iload_n 1, 1) := zd_221.1
theorem dX11_fill_1 : decode cX11_fill 1 = .ok (.invokestatic 48, 3) := zd_221.2.1
theorem dX11_fill_4 : decode cX11_fill 4 = .ok (.ifCond .eq 10, 3) := zd_221.2.2.1
theorem dX11_fill_7 : decode cX11_fill 7 = .ok (.aload_n 0, 1) := zd_221.2.2.2.1
theorem dX11_fill_8 : decode cX11_fill 8 = .ok (.invokevirtual 138, 3) := zd_221.2.2.2.2.1
theorem dX11_fill_11 : decode cX11_fill 11 = .ok (.ifCond .ne 5, 3) := zd_221.2.2.2.2.2.1
theorem dX11_fill_14 : decode cX11_fill 14 = .ok (.iconst (-1), 1) := zd_221.2.2.2.2.2.2.1
theorem dX11_fill_15 : decode cX11_fill 15 = .ok (.ireturn, 1) := zd_221.2.2.2.2.2.2.2
theorem zd_222 : (decode cX11_fill 16 = .ok (.aconst_null, 1)) ∧ (decode cX11_fill 17 = .ok (.astore_n 2, 1)) ∧ (decode cX11_fill 18 = .ok (.iconst 0, 1)) ∧ (decode cX11_fill 19 = .ok (.istore_n 3, 1)) ∧ (decode cX11_fill 20 = .ok (.iload_n 3, 1)) ∧ (decode cX11_fill 21 = .ok (.bipush 8, 2)) ∧ (decode cX11_fill 23 = .ok (.if_icmp .ge 17, 3)) ∧ (decode cX11_fill 26 = .ok (.aload_n 0, 1)) := by decide +kernel
theorem dX11_fill_16 : decode cX11_fill 16 = .ok (.aconst_null, 1) := zd_222.1
theorem dX11_fill_17 : decode cX11_fill 17 = .ok (.astore_n 2, 1) := zd_222.2.1
theorem dX11_fill_18 : decode cX11_fill 18 = .ok (.iconst 0, 1) := zd_222.2.2.1
theorem dX11_fill_19 : decode cX11_fill 19 = .ok (.istore_n 3, 1) := zd_222.2.2.2.1
theorem dX11_fill_20 : decode cX11_fill 20 = .ok (.iload_n 3, 1) := zd_222.2.2.2.2.1
theorem dX11_fill_21 : decode cX11_fill 21 = .ok (.bipush 8, 2) := zd_222.2.2.2.2.2.1
theorem dX11_fill_23 : decode cX11_fill 23 = .ok (.if_icmp .ge 17, 3) := zd_222.2.2.2.2.2.2.1
theorem dX11_fill_26 : decode cX11_fill 26 = .ok (.aload_n 0, 1) := zd_222.2.2.2.2.2.2.2
theorem zd_223 : (decode cX11_fill 27 = .ok (.iload_n 1, 1)) ∧ (decode cX11_fill 28 = .ok (.iload_n 3, 1)) ∧ (decode cX11_fill 29 = .ok (.aload_n 2, 1)) ∧ (decode cX11_fill 30 = .ok (.invokevirtual 180, 3)) ∧ (decode cX11_fill 33 = .ok (.astore_n 2, 1)) ∧ (decode cX11_fill 34 = .ok (.iinc 3 1, 3)) ∧ (decode cX11_fill 37 = .ok (.goto (-17), 3)) ∧ (decode cX11_fill 40 = .ok (.aload_n 2, 1)) := by decide +kernel
theorem dX11_fill_27 : decode cX11_fill 27 = .ok (.iload_n 1, 1) := zd_223.1
theorem dX11_fill_28 : decode cX11_fill 28 = .ok (.iload_n 3, 1) := zd_223.2.1
theorem dX11_fill_29 : decode cX11_fill 29 = .ok (.aload_n 2, 1) := zd_223.2.2.1
theorem dX11_fill_30 : decode cX11_fill 30 = .ok (.invokevirtual 180, 3) := zd_223.2.2.2.1
theorem dX11_fill_33 : decode cX11_fill 33 = .ok (.astore_n 2, 1) := zd_223.2.2.2.2.1
theorem dX11_fill_34 : decode cX11_fill 34 = .ok (.iinc 3 1, 3) := zd_223.2.2.2.2.2.1
theorem dX11_fill_37 : decode cX11_fill 37 = .ok (.goto (-17), 3) := zd_223.2.2.2.2.2.2.1
theorem dX11_fill_40 : decode cX11_fill 40 = .ok (.aload_n 2, 1) := zd_223.2.2.2.2.2.2.2
theorem zd_224 : (decode cX11_fill 41 = .ok (.ifnonnull 5, 3)) ∧ (decode cX11_fill 44 = .ok (.iconst 0, 1)) ∧ (decode cX11_fill 45 = .ok (.ireturn, 1)) ∧ (decode cX11_fill 46 = .ok (.aload_n 0, 1)) ∧ (decode cX11_fill 47 = .ok (.aload_n 2, 1)) ∧ (decode cX11_fill 48 = .ok (.invokevirtual 166, 3)) ∧ (decode cX11_fill 51 = .ok (.aload_n 2, 1)) ∧ (decode cX11_fill 52 = .ok (.getfield 184, 3)) := by decide +kernel
theorem dX11_fill_41 : decode cX11_fill 41 = .ok (.ifnonnull 5, 3) := zd_224.1
theorem dX11_fill_44 : decode cX11_fill 44 = .ok (.iconst 0, 1) := zd_224.2.1
theorem dX11_fill_45 : decode cX11_fill 45 = .ok (.ireturn, 1) := zd_224.2.2.1
theorem dX11_fill_46 : decode cX11_fill 46 = .ok (.aload_n 0, 1) := zd_224.2.2.2.1
theorem dX11_fill_47 : decode cX11_fill 47 = .ok (.aload_n 2, 1) := zd_224.2.2.2.2.1
theorem dX11_fill_48 : decode cX11_fill 48 = .ok (.invokevirtual 166, 3) := zd_224.2.2.2.2.2.1
theorem dX11_fill_51 : decode cX11_fill 51 = .ok (.aload_n 2, 1) := zd_224.2.2.2.2.2.2.1
theorem dX11_fill_52 : decode cX11_fill 52 = .ok (.getfield 184, 3) := zd_224.2.2.2.2.2.2.2
theorem dX11_fill_55 : decode cX11_fill 55 = .ok (.ireturn, 1) := by decide +kernel
theorem zd_225 : (decode cX11_undo 0 = .ok (.aload_n 0, 1)) ∧ (decode cX11_undo 1 = .ok (.getfield 34, 3)) ∧ (decode cX11_undo 4 = .ok (.ifCond .ne 5, 3)) ∧ (decode cX11_undo 7 = .ok (.iconst (-1), 1)) ∧ (decode cX11_undo 8 = .ok (.ireturn, 1)) ∧ (decode cX11_undo 9 = .ok (.aload_n 0, 1)) ∧ (decode cX11_undo 10 = .ok (.dup, 1)) ∧ (decode cX11_undo 11 = .ok (.getfield 34, 3)) := by decide +kernel
theorem dX11_undo_0 : decode cX11_undo 0 = .ok (.aload_n 0, 1) := zd_225.1
theorem dX11_undo_1 : decode cX11_undo 1 = .ok (.getfield 34, 3) := zd_225.2.1
theorem dX11_undo_4 : decode cX11_undo 4 = .ok (.ifCond .ne 5, 3) := zd_225.2.2.1
theorem dX11_undo_7 : decode cX11_undo 7 = .ok (.iconst (-1), 1) := zd_225.2.2.2.1
theorem dX11_undo_8 : decode cX11_undo 8 = .ok (.ireturn, 1) := zd_225.2.2.2.2.1
theorem dX11_undo_9 : decode cX11_undo 9 = .ok (.aload_n 0, 1) := zd_225.2.2.2.2.2.1
theorem dX11_undo_10 : decode cX11_undo 10 = .ok (.dup, 1) := zd_225.2.2.2.2.2.2.1
theorem dX11_undo_11 : decode cX11_undo 11 = .ok (.getfield 34, 3) := zd_225.2.2.2.2.2.2.2
theorem zd_226 : (decode cX11_undo 14 = .ok (.iconst 1, 1)) ∧ (decode cX11_undo 15 = .ok (.isub, 1)) ∧ (decode cX11_undo 16 = .ok (.putfield 34, 3)) ∧ (decode cX11_undo 19 = .ok (.aload_n 0, 1)) ∧ (decode cX11_undo 20 = .ok (.aload_n 0, 1)) ∧ (decode cX11_undo 21 = .ok (.getfield 30, 3)) ∧ (decode cX11_undo 24 = .ok (.aload_n 0, 1)) ∧ (decode cX11_undo 25 = .ok (.getfield 34, 3)) := by decide +kernel
theorem dX11_undo_14 : decode cX11_undo 14 = .ok (.iconst 1, 1) := zd_226.1
theorem dX11_undo_15 : decode cX11_undo 15 = .ok (.isub, 1) := zd_226.2.1
theorem dX11_undo_16 : decode cX11_undo 16 = .ok (.putfield 34, 3) := zd_226.2.2.1
theorem dX11_undo_19 : decode cX11_undo 19 = .ok (.aload_n 0, 1) := zd_226.2.2.2.1
theorem dX11_undo_20 : decode cX11_undo 20 = .ok (.aload_n 0, 1) := zd_226.2.2.2.2.1
theorem dX11_undo_21 : decode cX11_undo 21 = .ok (.getfield 30, 3) := zd_226.2.2.2.2.2.1
theorem dX11_undo_24 : decode cX11_undo 24 = .ok (.aload_n 0, 1) := zd_226.2.2.2.2.2.2.1
theorem dX11_undo_25 : decode cX11_undo 25 = .ok (.getfield 34, 3) := zd_226.2.2.2.2.2.2.2
theorem zd_227 : (decode cX11_undo 28 = .ok (.aaload, 1)) ∧ (decode cX11_undo 29 = .ok (.invokevirtual 187, 3)) ∧ (decode cX11_undo 32 = .ok (.aload_n 0, 1)) ∧ (decode cX11_undo 33 = .ok (.getfield 30, 3)) ∧ (decode cX11_undo 36 = .ok (.aload_n 0, 1)) ∧ (decode cX11_undo 37 = .ok (.getfield 34, 3)) ∧ (decode cX11_undo 40 = .ok (.aconst_null, 1)) ∧ (decode cX11_undo 41 = .ok (.aastore, 1)) := by decide +kernel
theorem dX11_undo_28 : decode cX11_undo 28 = .ok (.aaload, 1) := zd_227.1
theorem dX11_undo_29 : decode cX11_undo 29 = .ok (.invokevirtual 187, 3) := zd_227.2.1
theorem dX11_undo_32 : decode cX11_undo 32 = .ok (.aload_n 0, 1) := zd_227.2.2.1
theorem dX11_undo_33 : decode cX11_undo 33 = .ok (.getfield 30, 3) := zd_227.2.2.2.1
theorem dX11_undo_36 : decode cX11_undo 36 = .ok (.aload_n 0, 1) := zd_227.2.2.2.2.1
theorem dX11_undo_37 : decode cX11_undo 37 = .ok (.getfield 34, 3) := zd_227.2.2.2.2.2.1
theorem dX11_undo_40 : decode cX11_undo 40 = .ok (.aconst_null, 1) := zd_227.2.2.2.2.2.2.1
theorem dX11_undo_41 : decode cX11_undo 41 = .ok (.aastore, 1) := zd_227.2.2.2.2.2.2.2
theorem zd_228 : (decode cX11_undo 42 = .ok (.aload_n 0, 1)) ∧ (decode cX11_undo 43 = .ok (.getfield 34, 3)) ∧ (decode cX11_undo 46 = .ok (.ireturn, 1)) := by decide +kernel
theorem dX11_undo_42 : decode cX11_undo 42 = .ok (.aload_n 0, 1) := zd_228.1
theorem dX11_undo_43 : decode cX11_undo 43 = .ok (.getfield 34, 3) := zd_228.2.1
theorem dX11_undo_46 : decode cX11_undo 46 = .ok (.ireturn, 1) := zd_228.2.2
theorem zd_229 : (decode cX11_plate 0 = .ok (.iload_n 1, 1)) ∧ (decode cX11_plate 1 = .ok (.invokestatic 48, 3)) ∧ (decode cX11_plate 4 = .ok (.ifCond .ne 5, 3)) ∧ (decode cX11_plate 7 = .ok (.iconst (-1), 1)) ∧ (decode cX11_plate 8 = .ok (.ireturn, 1)) ∧ (decode cX11_plate 9 = .ok (.aload_n 0, 1)) ∧ (decode cX11_plate 10 = .ok (.getfield 11, 3)) ∧ (decode cX11_plate 13 = .ok (.iload_n 1, 1)) := by decide +kernel
theorem dX11_plate_0 : decode cX11_plate 0 = .ok (.iload_n 1, 1) := zd_229.1
theorem dX11_plate_1 : decode cX11_plate 1 = .ok (.invokestatic 48, 3) := zd_229.2.1
theorem dX11_plate_4 : decode cX11_plate 4 = .ok (.ifCond .ne 5, 3) := zd_229.2.2.1
theorem dX11_plate_7 : decode cX11_plate 7 = .ok (.iconst (-1), 1) := zd_229.2.2.2.1
theorem dX11_plate_8 : decode cX11_plate 8 = .ok (.ireturn, 1) := zd_229.2.2.2.2.1
theorem dX11_plate_9 : decode cX11_plate 9 = .ok (.aload_n 0, 1) := zd_229.2.2.2.2.2.1
theorem dX11_plate_10 : decode cX11_plate 10 = .ok (.getfield 11, 3) := zd_229.2.2.2.2.2.2.1
theorem dX11_plate_13 : decode cX11_plate 13 = .ok (.iload_n 1, 1) := zd_229.2.2.2.2.2.2.2
theorem zd_230 : (decode cX11_plate 14 = .ok (.aaload, 1)) ∧ (decode cX11_plate 15 = .ok (.astore_n 2, 1)) ∧ (decode cX11_plate 16 = .ok (.aload_n 2, 1)) ∧ (decode cX11_plate 17 = .ok (.invokevirtual 190, 3)) ∧ (decode cX11_plate 20 = .ok (.istore_n 3, 1)) ∧ (decode cX11_plate 21 = .ok (.iload_n 3, 1)) ∧ (decode cX11_plate 22 = .ok (.ifCond .eq 21, 3)) ∧ (decode cX11_plate 25 = .ok (.aload_n 2, 1)) := by decide +kernel
theorem dX11_plate_14 : decode cX11_plate 14 = .ok (.aaload, 1) := zd_230.1
theorem dX11_plate_15 : decode cX11_plate 15 = .ok (.astore_n 2, 1) := zd_230.2.1
theorem dX11_plate_16 : decode cX11_plate 16 = .ok (.aload_n 2, 1) := zd_230.2.2.1
theorem dX11_plate_17 : decode cX11_plate 17 = .ok (.invokevirtual 190, 3) := zd_230.2.2.2.1
theorem dX11_plate_20 : decode cX11_plate 20 = .ok (.istore_n 3, 1) := zd_230.2.2.2.2.1
theorem dX11_plate_21 : decode cX11_plate 21 = .ok (.iload_n 3, 1) := zd_230.2.2.2.2.2.1
theorem dX11_plate_22 : decode cX11_plate 22 = .ok (.ifCond .eq 21, 3) := zd_230.2.2.2.2.2.2.1
theorem dX11_plate_25 : decode cX11_plate 25 = .ok (.aload_n 2, 1) := zd_230.2.2.2.2.2.2.2
theorem zd_231 : (decode cX11_plate 26 = .ok (.invokevirtual 194, 3)) ∧ (decode cX11_plate 29 = .ok (.ifCond .gt 14, 3)) ∧ (decode cX11_plate 32 = .ok (.aload_n 0, 1)) ∧ (decode cX11_plate 33 = .ok (.iload_n 1, 1)) ∧ (decode cX11_plate 34 = .ok (.invokevirtual 197, 3)) ∧ (decode cX11_plate 37 = .ok (.getfield 201, 3)) ∧ (decode cX11_plate 40 = .ok (.ifCond .eq 5, 3)) ∧ (decode cX11_plate 43 = .ok (.iconst (-1), 1)) := by decide +kernel
theorem dX11_plate_26 : decode cX11_plate 26 = .ok (.invokevirtual 194, 3) := zd_231.1
theorem dX11_plate_29 : decode cX11_plate 29 = .ok (.ifCond .gt 14, 3) := zd_231.2.1
theorem dX11_plate_32 : decode cX11_plate 32 = .ok (.aload_n 0, 1) := zd_231.2.2.1
theorem dX11_plate_33 : decode cX11_plate 33 = .ok (.iload_n 1, 1) := zd_231.2.2.2.1
theorem dX11_plate_34 : decode cX11_plate 34 = .ok (.invokevirtual 197, 3) := zd_231.2.2.2.2.1
theorem dX11_plate_37 : decode cX11_plate 37 = .ok (.getfield 201, 3) := zd_231.2.2.2.2.2.1
theorem dX11_plate_40 : decode cX11_plate 40 = .ok (.ifCond .eq 5, 3) := zd_231.2.2.2.2.2.2.1
theorem dX11_plate_43 : decode cX11_plate 43 = .ok (.iconst (-1), 1) := zd_231.2.2.2.2.2.2.2
theorem zd_232 : (decode cX11_plate 44 = .ok (.ireturn, 1)) ∧ (decode cX11_plate 45 = .ok (.aload_n 0, 1)) ∧ (decode cX11_plate 46 = .ok (.getfield 15, 3)) ∧ (decode cX11_plate 49 = .ok (.iload_n 1, 1)) ∧ (decode cX11_plate 50 = .ok (.aaload, 1)) ∧ (decode cX11_plate 51 = .ok (.ifnonnull 16, 3)) ∧ (decode cX11_plate 54 = .ok (.aload_n 0, 1)) ∧ (decode cX11_plate 55 = .ok (.getfield 15, 3)) := by decide +kernel
theorem dX11_plate_44 : decode cX11_plate 44 = .ok (.ireturn, 1) := zd_232.1
theorem dX11_plate_45 : decode cX11_plate 45 = .ok (.aload_n 0, 1) := zd_232.2.1
theorem dX11_plate_46 : decode cX11_plate 46 = .ok (.getfield 15, 3) := zd_232.2.2.1
theorem dX11_plate_49 : decode cX11_plate 49 = .ok (.iload_n 1, 1) := zd_232.2.2.2.1
theorem dX11_plate_50 : decode cX11_plate 50 = .ok (.aaload, 1) := zd_232.2.2.2.2.1
theorem dX11_plate_51 : decode cX11_plate 51 = .ok (.ifnonnull 16, 3) := zd_232.2.2.2.2.2.1
theorem dX11_plate_54 : decode cX11_plate 54 = .ok (.aload_n 0, 1) := zd_232.2.2.2.2.2.2.1
theorem dX11_plate_55 : decode cX11_plate 55 = .ok (.getfield 15, 3) := zd_232.2.2.2.2.2.2.2
theorem zd_233 : (decode cX11_plate 58 = .ok (.iload_n 1, 1)) ∧ (decode cX11_plate 59 = .ok (.new 9, 3)) ∧ (decode cX11_plate 62 = .ok (.dup, 1)) ∧ (decode cX11_plate 63 = .ok (.invokespecial 47, 3)) ∧ (decode cX11_plate 66 = .ok (.aastore, 1)) ∧ (decode cX11_plate 67 = .ok (.aload_n 0, 1)) ∧ (decode cX11_plate 68 = .ok (.getfield 15, 3)) ∧ (decode cX11_plate 71 = .ok (.iload_n 1, 1)) := by decide +kernel
theorem dX11_plate_58 : decode cX11_plate 58 = .ok (.iload_n 1, 1) := zd_233.1
theorem dX11_plate_59 : decode cX11_plate 59 = .ok (.new 9, 3) := zd_233.2.1
theorem dX11_plate_62 : decode cX11_plate 62 = .ok (.dup, 1) := zd_233.2.2.1
theorem dX11_plate_63 : decode cX11_plate 63 = .ok (.invokespecial 47, 3) := zd_233.2.2.2.1
theorem dX11_plate_66 : decode cX11_plate 66 = .ok (.aastore, 1) := zd_233.2.2.2.2.1
theorem dX11_plate_67 : decode cX11_plate 67 = .ok (.aload_n 0, 1) := zd_233.2.2.2.2.2.1
theorem dX11_plate_68 : decode cX11_plate 68 = .ok (.getfield 15, 3) := zd_233.2.2.2.2.2.2.1
theorem dX11_plate_71 : decode cX11_plate 71 = .ok (.iload_n 1, 1) := zd_233.2.2.2.2.2.2.2
theorem zd_234 : (decode cX11_plate 72 = .ok (.aaload, 1)) ∧ (decode cX11_plate 73 = .ok (.aload_n 2, 1)) ∧ (decode cX11_plate 74 = .ok (.invokevirtual 206, 3)) ∧ (decode cX11_plate 77 = .ok (.aload_n 0, 1)) ∧ (decode cX11_plate 78 = .ok (.getfield 15, 3)) ∧ (decode cX11_plate 81 = .ok (.iload_n 1, 1)) ∧ (decode cX11_plate 82 = .ok (.aaload, 1)) ∧ (decode cX11_plate 83 = .ok (.aload_n 0, 1)) := by decide +kernel
theorem dX11_plate_72 : decode cX11_plate 72 = .ok (.aaload, 1) := zd_234.1
theorem dX11_plate_73 : decode cX11_plate 73 = .ok (.aload_n 2, 1) := zd_234.2.1
theorem dX11_plate_74 : decode cX11_plate 74 = .ok (.invokevirtual 206, 3) := zd_234.2.2.1
theorem dX11_plate_77 : decode cX11_plate 77 = .ok (.aload_n 0, 1) := zd_234.2.2.2.1
theorem dX11_plate_78 : decode cX11_plate 78 = .ok (.getfield 15, 3) := zd_234.2.2.2.2.1
theorem dX11_plate_81 : decode cX11_plate 81 = .ok (.iload_n 1, 1) := zd_234.2.2.2.2.2.1
theorem dX11_plate_82 : decode cX11_plate 82 = .ok (.aaload, 1) := zd_234.2.2.2.2.2.2.1
theorem dX11_plate_83 : decode cX11_plate 83 = .ok (.aload_n 0, 1) := zd_234.2.2.2.2.2.2.2
theorem zd_235 : (decode cX11_plate 84 = .ok (.getfield 41, 3)) ∧ (decode cX11_plate 87 = .ok (.putfield 210, 3)) ∧ (decode cX11_plate 90 = .ok (.aload_n 0, 1)) ∧ (decode cX11_plate 91 = .ok (.getfield 15, 3)) ∧ (decode cX11_plate 94 = .ok (.iload_n 1, 1)) ∧ (decode cX11_plate 95 = .ok (.aaload, 1)) ∧ (decode cX11_plate 96 = .ok (.aload_n 0, 1)) ∧ (decode cX11_plate 97 = .ok (.getfield 44, 3)) := by decide +kernel
theorem dX11_plate_84 : decode cX11_plate 84 = .ok (.getfield 41, 3) := zd_235.1
theorem dX11_plate_87 : decode cX11_plate 87 = .ok (.putfield 210, 3) := zd_235.2.1
theorem dX11_plate_90 : decode cX11_plate 90 = .ok (.aload_n 0, 1) := zd_235.2.2.1
theorem dX11_plate_91 : decode cX11_plate 91 = .ok (.getfield 15, 3) := zd_235.2.2.2.1
theorem dX11_plate_94 : decode cX11_plate 94 = .ok (.iload_n 1, 1) := zd_235.2.2.2.2.1
theorem dX11_plate_95 : decode cX11_plate 95 = .ok (.aaload, 1) := zd_235.2.2.2.2.2.1
theorem dX11_plate_96 : decode cX11_plate 96 = .ok (.aload_n 0, 1) := zd_235.2.2.2.2.2.2.1
theorem dX11_plate_97 : decode cX11_plate 97 = .ok (.getfield 44, 3) := zd_235.2.2.2.2.2.2.2
theorem zd_236 : (decode cX11_plate 100 = .ok (.putfield 213, 3)) ∧ (decode cX11_plate 103 = .ok (.iload_n 3, 1)) ∧ (decode cX11_plate 104 = .ok (.ireturn, 1)) := by decide +kernel
theorem dX11_plate_100 : decode cX11_plate 100 = .ok (.putfield 213, 3) := zd_236.1
theorem dX11_plate_103 : decode cX11_plate 103 = .ok (.iload_n 3, 1) := zd_236.2.1
theorem dX11_plate_104 : decode cX11_plate 104 = .ok (.ireturn, 1) := zd_236.2.2
theorem zd_237 : (decode cX11_edition 0 = .ok (.aload_n 0, 1)) ∧ (decode cX11_edition 1 = .ok (.getfield 44, 3)) ∧ (decode cX11_edition 4 = .ok (.bipush 7, 2)) ∧ (decode cX11_edition 6 = .ok (.if_icmp .lt 5, 3)) ∧ (decode cX11_edition 9 = .ok (.iconst (-1), 1)) ∧ (decode cX11_edition 10 = .ok (.ireturn, 1)) ∧ (decode cX11_edition 11 = .ok (.aload_n 0, 1)) ∧ (decode cX11_edition 12 = .ok (.invokevirtual 216, 3)) := by decide +kernel
theorem dX11_edition_0 : decode cX11_edition 0 = .ok (.aload_n 0, 1) := zd_237.1
theorem dX11_edition_1 : decode cX11_edition 1 = .ok (.getfield 44, 3) := zd_237.2.1
theorem dX11_edition_4 : decode cX11_edition 4 = .ok (.bipush 7, 2) := zd_237.2.2.1
theorem dX11_edition_6 : decode cX11_edition 6 = .ok (.if_icmp .lt 5, 3) := zd_237.2.2.2.1
theorem dX11_edition_9 : decode cX11_edition 9 = .ok (.iconst (-1), 1) := zd_237.2.2.2.2.1
theorem dX11_edition_10 : decode cX11_edition 10 = .ok (.ireturn, 1) := zd_237.2.2.2.2.2.1
theorem dX11_edition_11 : decode cX11_edition 11 = .ok (.aload_n 0, 1) := zd_237.2.2.2.2.2.2.1
theorem dX11_edition_12 : decode cX11_edition 12 = .ok (.invokevirtual 216, 3) := zd_237.2.2.2.2.2.2.2
theorem zd_238 : (decode cX11_edition 15 = .ok (.aload_n 0, 1)) ∧ (decode cX11_edition 16 = .ok (.dup, 1)) ∧ (decode cX11_edition 17 = .ok (.getfield 44, 3)) ∧ (decode cX11_edition 20 = .ok (.iconst 1, 1)) ∧ (decode cX11_edition 21 = .ok (.iadd, 1)) ∧ (decode cX11_edition 22 = .ok (.putfield 44, 3)) ∧ (decode cX11_edition 25 = .ok (.aload_n 0, 1)) ∧ (decode cX11_edition 26 = .ok (.getfield 44, 3)) := by decide +kernel
theorem dX11_edition_15 : decode cX11_edition 15 = .ok (.aload_n 0, 1) := zd_238.1
theorem dX11_edition_16 : decode cX11_edition 16 = .ok (.dup, 1) := zd_238.2.1
theorem dX11_edition_17 : decode cX11_edition 17 = .ok (.getfield 44, 3) := zd_238.2.2.1
theorem dX11_edition_20 : decode cX11_edition 20 = .ok (.iconst 1, 1) := zd_238.2.2.2.1
theorem dX11_edition_21 : decode cX11_edition 21 = .ok (.iadd, 1) := zd_238.2.2.2.2.1
theorem dX11_edition_22 : decode cX11_edition 22 = .ok (.putfield 44, 3) := zd_238.2.2.2.2.2.1
theorem dX11_edition_25 : decode cX11_edition 25 = .ok (.aload_n 0, 1) := zd_238.2.2.2.2.2.2.1
theorem dX11_edition_26 : decode cX11_edition 26 = .ok (.getfield 44, 3) := zd_238.2.2.2.2.2.2.2
theorem dX11_edition_29 : decode cX11_edition 29 = .ok (.ireturn, 1) := by decide +kernel
theorem zd_239 : (decode cX11_day 0 = .ok (.aload_n 0, 1)) ∧ (decode cX11_day 1 = .ok (.getfield 41, 3)) ∧ (decode cX11_day 4 = .ok (.sipush 399, 3)) ∧ (decode cX11_day 7 = .ok (.if_icmp .lt 5, 3)) ∧ (decode cX11_day 10 = .ok (.iconst (-1), 1)) ∧ (decode cX11_day 11 = .ok (.ireturn, 1)) ∧ (decode cX11_day 12 = .ok (.aload_n 0, 1)) ∧ (decode cX11_day 13 = .ok (.invokevirtual 216, 3)) := by decide +kernel
theorem dX11_day_0 : decode cX11_day 0 = .ok (.aload_n 0, 1) := zd_239.1
theorem dX11_day_1 : decode cX11_day 1 = .ok (.getfield 41, 3) := zd_239.2.1
theorem dX11_day_4 : decode cX11_day 4 = .ok (.sipush 399, 3) := zd_239.2.2.1
theorem dX11_day_7 : decode cX11_day 7 = .ok (.if_icmp .lt 5, 3) := zd_239.2.2.2.1
theorem dX11_day_10 : decode cX11_day 10 = .ok (.iconst (-1), 1) := zd_239.2.2.2.2.1
theorem dX11_day_11 : decode cX11_day 11 = .ok (.ireturn, 1) := zd_239.2.2.2.2.2.1
theorem dX11_day_12 : decode cX11_day 12 = .ok (.aload_n 0, 1) := zd_239.2.2.2.2.2.2.1
theorem dX11_day_13 : decode cX11_day 13 = .ok (.invokevirtual 216, 3) := zd_239.2.2.2.2.2.2.2
theorem zd_240 : (decode cX11_day 16 = .ok (.aload_n 0, 1)) ∧ (decode cX11_day 17 = .ok (.invokevirtual 219, 3)) ∧ (decode cX11_day 20 = .ok (.aload_n 0, 1)) ∧ (decode cX11_day 21 = .ok (.iconst 0, 1)) ∧ (decode cX11_day 22 = .ok (.putfield 44, 3)) ∧ (decode cX11_day 25 = .ok (.aload_n 0, 1)) ∧ (decode cX11_day 26 = .ok (.dup, 1)) ∧ (decode cX11_day 27 = .ok (.getfield 41, 3)) := by decide +kernel
theorem dX11_day_16 : decode cX11_day 16 = .ok (.aload_n 0, 1) := zd_240.1
theorem dX11_day_17 : decode cX11_day 17 = .ok (.invokevirtual 219, 3) := zd_240.2.1
theorem dX11_day_20 : decode cX11_day 20 = .ok (.aload_n 0, 1) := zd_240.2.2.1
theorem dX11_day_21 : decode cX11_day 21 = .ok (.iconst 0, 1) := zd_240.2.2.2.1
theorem dX11_day_22 : decode cX11_day 22 = .ok (.putfield 44, 3) := zd_240.2.2.2.2.1
theorem dX11_day_25 : decode cX11_day 25 = .ok (.aload_n 0, 1) := zd_240.2.2.2.2.2.1
theorem dX11_day_26 : decode cX11_day 26 = .ok (.dup, 1) := zd_240.2.2.2.2.2.2.1
theorem dX11_day_27 : decode cX11_day 27 = .ok (.getfield 41, 3) := zd_240.2.2.2.2.2.2.2
theorem zd_241 : (decode cX11_day 30 = .ok (.iconst 1, 1)) ∧ (decode cX11_day 31 = .ok (.iadd, 1)) ∧ (decode cX11_day 32 = .ok (.putfield 41, 3)) ∧ (decode cX11_day 35 = .ok (.aload_n 0, 1)) ∧ (decode cX11_day 36 = .ok (.getfield 41, 3)) ∧ (decode cX11_day 39 = .ok (.ireturn, 1)) := by decide +kernel
theorem dX11_day_30 : decode cX11_day 30 = .ok (.iconst 1, 1) := zd_241.1
theorem dX11_day_31 : decode cX11_day 31 = .ok (.iadd, 1) := zd_241.2.1
theorem dX11_day_32 : decode cX11_day 32 = .ok (.putfield 41, 3) := zd_241.2.2.1
theorem dX11_day_35 : decode cX11_day 35 = .ok (.aload_n 0, 1) := zd_241.2.2.2.1
theorem dX11_day_36 : decode cX11_day 36 = .ok (.getfield 41, 3) := zd_241.2.2.2.2.1
theorem dX11_day_39 : decode cX11_day 39 = .ok (.ireturn, 1) := zd_241.2.2.2.2.2
theorem zd_242 : (decode cX11_cell 0 = .ok (.iload_n 1, 1)) ∧ (decode cX11_cell 1 = .ok (.invokestatic 48, 3)) ∧ (decode cX11_cell 4 = .ok (.ifCond .eq 17, 3)) ∧ (decode cX11_cell 7 = .ok (.aload_n 0, 1)) ∧ (decode cX11_cell 8 = .ok (.getfield 11, 3)) ∧ (decode cX11_cell 11 = .ok (.iload_n 1, 1)) ∧ (decode cX11_cell 12 = .ok (.aaload, 1)) ∧ (decode cX11_cell 13 = .ok (.iload_n 2, 1)) := by decide +kernel
theorem dX11_cell_0 : decode cX11_cell 0 = .ok (.iload_n 1, 1) := zd_242.1
theorem dX11_cell_1 : decode cX11_cell 1 = .ok (.invokestatic 48, 3) := zd_242.2.1
theorem dX11_cell_4 : decode cX11_cell 4 = .ok (.ifCond .eq 17, 3) := zd_242.2.2.1
theorem dX11_cell_7 : decode cX11_cell 7 = .ok (.aload_n 0, 1) := zd_242.2.2.2.1
theorem dX11_cell_8 : decode cX11_cell 8 = .ok (.getfield 11, 3) := zd_242.2.2.2.2.1
theorem dX11_cell_11 : decode cX11_cell 11 = .ok (.iload_n 1, 1) := zd_242.2.2.2.2.2.1
theorem dX11_cell_12 : decode cX11_cell 12 = .ok (.aaload, 1) := zd_242.2.2.2.2.2.2.1
theorem dX11_cell_13 : decode cX11_cell 13 = .ok (.iload_n 2, 1) := zd_242.2.2.2.2.2.2.2
theorem zd_243 : (decode cX11_cell 14 = .ok (.iload_n 3, 1)) ∧ (decode cX11_cell 15 = .ok (.invokevirtual 222, 3)) ∧ (decode cX11_cell 18 = .ok (.goto 4, 3)) ∧ (decode cX11_cell 21 = .ok (.iconst (-1), 1)) ∧ (decode cX11_cell 22 = .ok (.ireturn, 1)) := by decide +kernel
theorem dX11_cell_14 : decode cX11_cell 14 = .ok (.iload_n 3, 1) := zd_243.1
theorem dX11_cell_15 : decode cX11_cell 15 = .ok (.invokevirtual 222, 3) := zd_243.2.1
theorem dX11_cell_18 : decode cX11_cell 18 = .ok (.goto 4, 3) := zd_243.2.2.1
theorem dX11_cell_21 : decode cX11_cell 21 = .ok (.iconst (-1), 1) := zd_243.2.2.2.1
theorem dX11_cell_22 : decode cX11_cell 22 = .ok (.ireturn, 1) := zd_243.2.2.2.2
theorem zd_244 : (decode cX11_piece 0 = .ok (.aload_n 0, 1)) ∧ (decode cX11_piece 1 = .ok (.iload_n 1, 1)) ∧ (decode cX11_piece 2 = .ok (.invokevirtual 75, 3)) ∧ (decode cX11_piece 5 = .ok (.astore 4, 2)) ∧ (decode cX11_piece 7 = .ok (.aload 4, 2)) ∧ (decode cX11_piece 9 = .ok (.ifnull 18, 3)) ∧ (decode cX11_piece 12 = .ok (.iload_n 2, 1)) ∧ (decode cX11_piece 13 = .ok (.iconst 0, 1)) := by decide +kernel
theorem dX11_piece_0 : decode cX11_piece 0 = .ok (.aload_n 0, 1) := zd_244.1
theorem dX11_piece_1 : decode cX11_piece 1 = .ok (.iload_n 1, 1) := zd_244.2.1
theorem dX11_piece_2 : decode cX11_piece 2 = .ok (.invokevirtual 75, 3) := zd_244.2.2.1
theorem dX11_piece_5 : decode cX11_piece 5 = .ok (.astore 4, 2) := zd_244.2.2.2.1
theorem dX11_piece_7 : decode cX11_piece 7 = .ok (.aload 4, 2) := zd_244.2.2.2.2.1
theorem dX11_piece_9 : decode cX11_piece 9 = .ok (.ifnull 18, 3) := zd_244.2.2.2.2.2.1
theorem dX11_piece_12 : decode cX11_piece 12 = .ok (.iload_n 2, 1) := zd_244.2.2.2.2.2.2.1
theorem dX11_piece_13 : decode cX11_piece 13 = .ok (.iconst 0, 1) := zd_244.2.2.2.2.2.2.2
theorem zd_245 : (decode cX11_piece 14 = .ok (.aload 4, 2)) ∧ (decode cX11_piece 16 = .ok (.getfield 170, 3)) ∧ (decode cX11_piece 19 = .ok (.iconst 1, 1)) := by decide +kernel
theorem dX11_piece_14 : decode cX11_piece 14 = .ok (.aload 4, 2) := zd_245.1
theorem dX11_piece_16 : decode cX11_piece 16 = .ok (.getfield 170, 3) := zd_245.2.1
theorem dX11_piece_19 : decode cX11_piece 19 = .ok (.iconst 1, 1) := zd_245.2.2
