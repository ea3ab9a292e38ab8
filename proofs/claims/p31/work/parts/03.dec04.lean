theorem zd_489 : (decode cX12_paid 48 = .ok (.iconst 1, 1)) ∧ (decode cX12_paid 49 = .ok (.bipush 60, 2)) ∧ (decode cX12_paid 51 = .ok (.invokestatic 143, 3)) ∧ (decode cX12_paid 54 = .ok (.ifCond .eq 7, 3)) ∧ (decode cX12_paid 57 = .ok (.iconst 1, 1)) ∧ (decode cX12_paid 58 = .ok (.goto 4, 3)) ∧ (decode cX12_paid 61 = .ok (.iconst 0, 1)) ∧ (decode cX12_paid 62 = .ok (.istore 9, 2)) := by decide +kernel
theorem dX12_paid_48 : decode cX12_paid 48 = .ok (.iconst 1, 1) := zd_489.1
theorem dX12_paid_49 : decode cX12_paid 49 = .ok (.bipush 60, 2) := zd_489.2.1
theorem dX12_paid_51 : decode cX12_paid 51 = .ok (.invokestatic 143, 3) := zd_489.2.2.1
theorem dX12_paid_54 : decode cX12_paid 54 = .ok (.ifCond .eq 7, 3) := zd_489.2.2.2.1
theorem dX12_paid_57 : decode cX12_paid 57 = .ok (.iconst 1, 1) := zd_489.2.2.2.2.1
theorem dX12_paid_58 : decode cX12_paid 58 = .ok (.goto 4, 3) := zd_489.2.2.2.2.2.1
theorem dX12_paid_61 : decode cX12_paid 61 = .ok (.iconst 0, 1) := zd_489.2.2.2.2.2.2.1
theorem dX12_paid_62 : decode cX12_paid 62 = .ok (.istore 9, 2) := zd_489.2.2.2.2.2.2.2
theorem zd_490 : (decode cX12_paid 64 = .ok (.aload_n 0, 1)) ∧ (decode cX12_paid 65 = .ok (.getfield 147, 3)) ∧ (decode cX12_paid 68 = .ok (.bipush 80, 2)) ∧ (decode cX12_paid 70 = .ok (.if_icmp .eq 51, 3)) ∧ (decode cX12_paid 73 = .ok (.iload_n 1, 1)) ∧ (decode cX12_paid 74 = .ok (.invokestatic 179, 3)) ∧ (decode cX12_paid 77 = .ok (.ifCond .eq 44, 3)) ∧ (decode cX12_paid 80 = .ok (.iload 8, 2)) := by decide +kernel
theorem dX12_paid_64 : decode cX12_paid 64 = .ok (.aload_n 0, 1) := zd_490.1
theorem dX12_paid_65 : decode cX12_paid 65 = .ok (.getfield 147, 3) := zd_490.2.1
theorem dX12_paid_68 : decode cX12_paid 68 = .ok (.bipush 80, 2) := zd_490.2.2.1
theorem dX12_paid_70 : decode cX12_paid 70 = .ok (.if_icmp .eq 51, 3) := zd_490.2.2.2.1
theorem dX12_paid_73 : decode cX12_paid 73 = .ok (.iload_n 1, 1) := zd_490.2.2.2.2.1
theorem dX12_paid_74 : decode cX12_paid 74 = .ok (.invokestatic 179, 3) := zd_490.2.2.2.2.2.1
theorem dX12_paid_77 : decode cX12_paid 77 = .ok (.ifCond .eq 44, 3) := zd_490.2.2.2.2.2.2.1
theorem dX12_paid_80 : decode cX12_paid 80 = .ok (.iload 8, 2) := zd_490.2.2.2.2.2.2.2
theorem zd_491 : (decode cX12_paid 82 = .ok (.ifCond .eq 39, 3)) ∧ (decode cX12_paid 85 = .ok (.iload 9, 2)) ∧ (decode cX12_paid 87 = .ok (.ifCond .eq 34, 3)) ∧ (decode cX12_paid 90 = .ok (.iload_n 3, 1)) ∧ (decode cX12_paid 91 = .ok (.iload 5, 2)) ∧ (decode cX12_paid 93 = .ok (.iadd, 1)) ∧ (decode cX12_paid 94 = .ok (.bipush 8, 2)) ∧ (decode cX12_paid 96 = .ok (.if_icmp .gt 25, 3)) := by decide +kernel
theorem dX12_paid_82 : decode cX12_paid 82 = .ok (.ifCond .eq 39, 3) := zd_491.1
theorem dX12_paid_85 : decode cX12_paid 85 = .ok (.iload 9, 2) := zd_491.2.1
theorem dX12_paid_87 : decode cX12_paid 87 = .ok (.ifCond .eq 34, 3) := zd_491.2.2.1
theorem dX12_paid_90 : decode cX12_paid 90 = .ok (.iload_n 3, 1) := zd_491.2.2.2.1
theorem dX12_paid_91 : decode cX12_paid 91 = .ok (.iload 5, 2) := zd_491.2.2.2.2.1
theorem dX12_paid_93 : decode cX12_paid 93 = .ok (.iadd, 1) := zd_491.2.2.2.2.2.1
theorem dX12_paid_94 : decode cX12_paid 94 = .ok (.bipush 8, 2) := zd_491.2.2.2.2.2.2.1
theorem dX12_paid_96 : decode cX12_paid 96 = .ok (.if_icmp .gt 25, 3) := zd_491.2.2.2.2.2.2.2
theorem zd_492 : (decode cX12_paid 99 = .ok (.iload 4, 2)) ∧ (decode cX12_paid 101 = .ok (.iload 6, 2)) ∧ (decode cX12_paid 103 = .ok (.iadd, 1)) ∧ (decode cX12_paid 104 = .ok (.bipush 60, 2)) ∧ (decode cX12_paid 106 = .ok (.if_icmp .gt 15, 3)) ∧ (decode cX12_paid 109 = .ok (.iload 7, 2)) ∧ (decode cX12_paid 111 = .ok (.iconst 0, 1)) ∧ (decode cX12_paid 112 = .ok (.sipush 1000, 3)) := by decide +kernel
theorem dX12_paid_99 : decode cX12_paid 99 = .ok (.iload 4, 2) := zd_492.1
theorem dX12_paid_101 : decode cX12_paid 101 = .ok (.iload 6, 2) := zd_492.2.1
theorem dX12_paid_103 : decode cX12_paid 103 = .ok (.iadd, 1) := zd_492.2.2.1
theorem dX12_paid_104 : decode cX12_paid 104 = .ok (.bipush 60, 2) := zd_492.2.2.2.1
theorem dX12_paid_106 : decode cX12_paid 106 = .ok (.if_icmp .gt 15, 3) := zd_492.2.2.2.2.1
theorem dX12_paid_109 : decode cX12_paid 109 = .ok (.iload 7, 2) := zd_492.2.2.2.2.2.1
theorem dX12_paid_111 : decode cX12_paid 111 = .ok (.iconst 0, 1) := zd_492.2.2.2.2.2.2.1
theorem dX12_paid_112 : decode cX12_paid 112 = .ok (.sipush 1000, 3) := zd_492.2.2.2.2.2.2.2
theorem zd_493 : (decode cX12_paid 115 = .ok (.invokestatic 143, 3)) ∧ (decode cX12_paid 118 = .ok (.ifCond .ne 5, 3)) ∧ (decode cX12_paid 121 = .ok (.iconst (-1), 1)) ∧ (decode cX12_paid 122 = .ok (.ireturn, 1)) ∧ (decode cX12_paid 123 = .ok (.aload_n 0, 1)) ∧ (decode cX12_paid 124 = .ok (.iconst 3, 1)) ∧ (decode cX12_paid 125 = .ok (.invokevirtual 171, 3)) ∧ (decode cX12_paid 128 = .ok (.istore 10, 2)) := by decide +kernel
theorem dX12_paid_115 : decode cX12_paid 115 = .ok (.invokestatic 143, 3) := zd_493.1
theorem dX12_paid_118 : decode cX12_paid 118 = .ok (.ifCond .ne 5, 3) := zd_493.2.1
theorem dX12_paid_121 : decode cX12_paid 121 = .ok (.iconst (-1), 1) := zd_493.2.2.1
theorem dX12_paid_122 : decode cX12_paid 122 = .ok (.ireturn, 1) := zd_493.2.2.2.1
theorem dX12_paid_123 : decode cX12_paid 123 = .ok (.aload_n 0, 1) := zd_493.2.2.2.2.1
theorem dX12_paid_124 : decode cX12_paid 124 = .ok (.iconst 3, 1) := zd_493.2.2.2.2.2.1
theorem dX12_paid_125 : decode cX12_paid 125 = .ok (.invokevirtual 171, 3) := zd_493.2.2.2.2.2.2.1
theorem dX12_paid_128 : decode cX12_paid 128 = .ok (.istore 10, 2) := zd_493.2.2.2.2.2.2.2
theorem zd_494 : (decode cX12_paid 130 = .ok (.aload_n 0, 1)) ∧ (decode cX12_paid 131 = .ok (.getfield 37, 3)) ∧ (decode cX12_paid 134 = .ok (.iload 10, 2)) ∧ (decode cX12_paid 136 = .ok (.iload_n 1, 1)) ∧ (decode cX12_paid 137 = .ok (.iastore, 1)) ∧ (decode cX12_paid 138 = .ok (.aload_n 0, 1)) ∧ (decode cX12_paid 139 = .ok (.getfield 40, 3)) ∧ (decode cX12_paid 142 = .ok (.iload 10, 2)) := by decide +kernel
theorem dX12_paid_130 : decode cX12_paid 130 = .ok (.aload_n 0, 1) := zd_494.1
theorem dX12_paid_131 : decode cX12_paid 131 = .ok (.getfield 37, 3) := zd_494.2.1
theorem dX12_paid_134 : decode cX12_paid 134 = .ok (.iload 10, 2) := zd_494.2.2.1
theorem dX12_paid_136 : decode cX12_paid 136 = .ok (.iload_n 1, 1) := zd_494.2.2.2.1
theorem dX12_paid_137 : decode cX12_paid 137 = .ok (.iastore, 1) := zd_494.2.2.2.2.1
theorem dX12_paid_138 : decode cX12_paid 138 = .ok (.aload_n 0, 1) := zd_494.2.2.2.2.2.1
theorem dX12_paid_139 : decode cX12_paid 139 = .ok (.getfield 40, 3) := zd_494.2.2.2.2.2.2.1
theorem dX12_paid_142 : decode cX12_paid 142 = .ok (.iload 10, 2) := zd_494.2.2.2.2.2.2.2
theorem zd_495 : (decode cX12_paid 144 = .ok (.iload_n 2, 1)) ∧ (decode cX12_paid 145 = .ok (.iastore, 1)) ∧ (decode cX12_paid 146 = .ok (.aload_n 0, 1)) ∧ (decode cX12_paid 147 = .ok (.getfield 43, 3)) ∧ (decode cX12_paid 150 = .ok (.iload 10, 2)) ∧ (decode cX12_paid 152 = .ok (.iload_n 3, 1)) ∧ (decode cX12_paid 153 = .ok (.iastore, 1)) ∧ (decode cX12_paid 154 = .ok (.aload_n 0, 1)) := by decide +kernel
theorem dX12_paid_144 : decode cX12_paid 144 = .ok (.iload_n 2, 1) := zd_495.1
theorem dX12_paid_145 : decode cX12_paid 145 = .ok (.iastore, 1) := zd_495.2.1
theorem dX12_paid_146 : decode cX12_paid 146 = .ok (.aload_n 0, 1) := zd_495.2.2.1
theorem dX12_paid_147 : decode cX12_paid 147 = .ok (.getfield 43, 3) := zd_495.2.2.2.1
theorem dX12_paid_150 : decode cX12_paid 150 = .ok (.iload 10, 2) := zd_495.2.2.2.2.1
theorem dX12_paid_152 : decode cX12_paid 152 = .ok (.iload_n 3, 1) := zd_495.2.2.2.2.2.1
theorem dX12_paid_153 : decode cX12_paid 153 = .ok (.iastore, 1) := zd_495.2.2.2.2.2.2.1
theorem dX12_paid_154 : decode cX12_paid 154 = .ok (.aload_n 0, 1) := zd_495.2.2.2.2.2.2.2
theorem zd_496 : (decode cX12_paid 155 = .ok (.getfield 46, 3)) ∧ (decode cX12_paid 158 = .ok (.iload 10, 2)) ∧ (decode cX12_paid 160 = .ok (.iload 4, 2)) ∧ (decode cX12_paid 162 = .ok (.iastore, 1)) ∧ (decode cX12_paid 163 = .ok (.aload_n 0, 1)) ∧ (decode cX12_paid 164 = .ok (.getfield 28, 3)) ∧ (decode cX12_paid 167 = .ok (.iload 10, 2)) ∧ (decode cX12_paid 169 = .ok (.iload 5, 2)) := by decide +kernel
theorem dX12_paid_155 : decode cX12_paid 155 = .ok (.getfield 46, 3) := zd_496.1
theorem dX12_paid_158 : decode cX12_paid 158 = .ok (.iload 10, 2) := zd_496.2.1
theorem dX12_paid_160 : decode cX12_paid 160 = .ok (.iload 4, 2) := zd_496.2.2.1
theorem dX12_paid_162 : decode cX12_paid 162 = .ok (.iastore, 1) := zd_496.2.2.2.1
theorem dX12_paid_163 : decode cX12_paid 163 = .ok (.aload_n 0, 1) := zd_496.2.2.2.2.1
theorem dX12_paid_164 : decode cX12_paid 164 = .ok (.getfield 28, 3) := zd_496.2.2.2.2.2.1
theorem dX12_paid_167 : decode cX12_paid 167 = .ok (.iload 10, 2) := zd_496.2.2.2.2.2.2.1
theorem dX12_paid_169 : decode cX12_paid 169 = .ok (.iload 5, 2) := zd_496.2.2.2.2.2.2.2
theorem zd_497 : (decode cX12_paid 171 = .ok (.iastore, 1)) ∧ (decode cX12_paid 172 = .ok (.aload_n 0, 1)) ∧ (decode cX12_paid 173 = .ok (.getfield 31, 3)) ∧ (decode cX12_paid 176 = .ok (.iload 10, 2)) ∧ (decode cX12_paid 178 = .ok (.iload 6, 2)) ∧ (decode cX12_paid 180 = .ok (.iastore, 1)) ∧ (decode cX12_paid 181 = .ok (.aload_n 0, 1)) ∧ (decode cX12_paid 182 = .ok (.getfield 49, 3)) := by decide +kernel
theorem dX12_paid_171 : decode cX12_paid 171 = .ok (.iastore, 1) := zd_497.1
theorem dX12_paid_172 : decode cX12_paid 172 = .ok (.aload_n 0, 1) := zd_497.2.1
theorem dX12_paid_173 : decode cX12_paid 173 = .ok (.getfield 31, 3) := zd_497.2.2.1
theorem dX12_paid_176 : decode cX12_paid 176 = .ok (.iload 10, 2) := zd_497.2.2.2.1
theorem dX12_paid_178 : decode cX12_paid 178 = .ok (.iload 6, 2) := zd_497.2.2.2.2.1
theorem dX12_paid_180 : decode cX12_paid 180 = .ok (.iastore, 1) := zd_497.2.2.2.2.2.1
theorem dX12_paid_181 : decode cX12_paid 181 = .ok (.aload_n 0, 1) := zd_497.2.2.2.2.2.2.1
theorem dX12_paid_182 : decode cX12_paid 182 = .ok (.getfield 49, 3) := zd_497.2.2.2.2.2.2.2
theorem zd_498 : (decode cX12_paid 185 = .ok (.iload 10, 2)) ∧ (decode cX12_paid 187 = .ok (.iload 7, 2)) ∧ (decode cX12_paid 189 = .ok (.iastore, 1)) ∧ (decode cX12_paid 190 = .ok (.iload 10, 2)) ∧ (decode cX12_paid 192 = .ok (.ireturn, 1)) := by decide +kernel
theorem dX12_paid_185 : decode cX12_paid 185 = .ok (.iload 10, 2) := zd_498.1
theorem dX12_paid_187 : decode cX12_paid 187 = .ok (.iload 7, 2) := zd_498.2.1
theorem dX12_paid_189 : decode cX12_paid 189 = .ok (.iastore, 1) := zd_498.2.2.1
theorem dX12_paid_190 : decode cX12_paid 190 = .ok (.iload 10, 2) := zd_498.2.2.2.1
theorem dX12_paid_192 : decode cX12_paid 192 = .ok (.ireturn, 1) := zd_498.2.2.2.2
theorem zd_499 : (decode cX12_filler 0 = .ok (.aload_n 0, 1)) ∧ (decode cX12_filler 1 = .ok (.getfield 147, 3)) ∧ (decode cX12_filler 4 = .ok (.bipush 80, 2)) ∧ (decode cX12_filler 6 = .ok (.if_icmp .eq 23, 3)) ∧ (decode cX12_filler 9 = .ok (.iload_n 1, 1)) ∧ (decode cX12_filler 10 = .ok (.iconst 1, 1)) ∧ (decode cX12_filler 11 = .ok (.bipush 60, 2)) ∧ (decode cX12_filler 13 = .ok (.invokestatic 143, 3)) := by decide +kernel
theorem dX12_filler_0 : decode cX12_filler 0 = .ok (.aload_n 0, 1) := zd_499.1
theorem dX12_filler_1 : decode cX12_filler 1 = .ok (.getfield 147, 3) := zd_499.2.1
theorem dX12_filler_4 : decode cX12_filler 4 = .ok (.bipush 80, 2) := zd_499.2.2.1
theorem dX12_filler_6 : decode cX12_filler 6 = .ok (.if_icmp .eq 23, 3) := zd_499.2.2.2.1
theorem dX12_filler_9 : decode cX12_filler 9 = .ok (.iload_n 1, 1) := zd_499.2.2.2.2.1
theorem dX12_filler_10 : decode cX12_filler 10 = .ok (.iconst 1, 1) := zd_499.2.2.2.2.2.1
theorem dX12_filler_11 : decode cX12_filler 11 = .ok (.bipush 60, 2) := zd_499.2.2.2.2.2.2.1
theorem dX12_filler_13 : decode cX12_filler 13 = .ok (.invokestatic 143, 3) := zd_499.2.2.2.2.2.2.2
theorem zd_500 : (decode cX12_filler 16 = .ok (.ifCond .eq 13, 3)) ∧ (decode cX12_filler 19 = .ok (.iload_n 2, 1)) ∧ (decode cX12_filler 20 = .ok (.iload_n 1, 1)) ∧ (decode cX12_filler 21 = .ok (.bipush 60, 2)) ∧ (decode cX12_filler 23 = .ok (.invokestatic 143, 3)) ∧ (decode cX12_filler 26 = .ok (.ifCond .ne 5, 3)) ∧ (decode cX12_filler 29 = .ok (.iconst (-1), 1)) ∧ (decode cX12_filler 30 = .ok (.ireturn, 1)) := by decide +kernel
theorem dX12_filler_16 : decode cX12_filler 16 = .ok (.ifCond .eq 13, 3) := zd_500.1
theorem dX12_filler_19 : decode cX12_filler 19 = .ok (.iload_n 2, 1) := zd_500.2.1
theorem dX12_filler_20 : decode cX12_filler 20 = .ok (.iload_n 1, 1) := zd_500.2.2.1
theorem dX12_filler_21 : decode cX12_filler 21 = .ok (.bipush 60, 2) := zd_500.2.2.2.1
theorem dX12_filler_23 : decode cX12_filler 23 = .ok (.invokestatic 143, 3) := zd_500.2.2.2.2.1
theorem dX12_filler_26 : decode cX12_filler 26 = .ok (.ifCond .ne 5, 3) := zd_500.2.2.2.2.2.1
theorem dX12_filler_29 : decode cX12_filler 29 = .ok (.iconst (-1), 1) := zd_500.2.2.2.2.2.2.1
theorem dX12_filler_30 : decode cX12_filler 30 = .ok (.ireturn, 1) := zd_500.2.2.2.2.2.2.2
theorem zd_501 : (decode cX12_filler 31 = .ok (.aload_n 0, 1)) ∧ (decode cX12_filler 32 = .ok (.iconst 4, 1)) ∧ (decode cX12_filler 33 = .ok (.invokevirtual 171, 3)) ∧ (decode cX12_filler 36 = .ok (.istore_n 3, 1)) ∧ (decode cX12_filler 37 = .ok (.aload_n 0, 1)) ∧ (decode cX12_filler 38 = .ok (.getfield 22, 3)) ∧ (decode cX12_filler 41 = .ok (.iload_n 3, 1)) ∧ (decode cX12_filler 42 = .ok (.iload_n 1, 1)) := by decide +kernel
theorem dX12_filler_31 : decode cX12_filler 31 = .ok (.aload_n 0, 1) := zd_501.1
theorem dX12_filler_32 : decode cX12_filler 32 = .ok (.iconst 4, 1) := zd_501.2.1
theorem dX12_filler_33 : decode cX12_filler 33 = .ok (.invokevirtual 171, 3) := zd_501.2.2.1
theorem dX12_filler_36 : decode cX12_filler 36 = .ok (.istore_n 3, 1) := zd_501.2.2.2.1
theorem dX12_filler_37 : decode cX12_filler 37 = .ok (.aload_n 0, 1) := zd_501.2.2.2.2.1
theorem dX12_filler_38 : decode cX12_filler 38 = .ok (.getfield 22, 3) := zd_501.2.2.2.2.2.1
theorem dX12_filler_41 : decode cX12_filler 41 = .ok (.iload_n 3, 1) := zd_501.2.2.2.2.2.2.1
theorem dX12_filler_42 : decode cX12_filler 42 = .ok (.iload_n 1, 1) := zd_501.2.2.2.2.2.2.2
theorem zd_502 : (decode cX12_filler 43 = .ok (.iastore, 1)) ∧ (decode cX12_filler 44 = .ok (.aload_n 0, 1)) ∧ (decode cX12_filler 45 = .ok (.getfield 25, 3)) ∧ (decode cX12_filler 48 = .ok (.iload_n 3, 1)) ∧ (decode cX12_filler 49 = .ok (.iload_n 2, 1)) ∧ (decode cX12_filler 50 = .ok (.iastore, 1)) ∧ (decode cX12_filler 51 = .ok (.iload_n 3, 1)) ∧ (decode cX12_filler 52 = .ok (.ireturn, 1)) := by decide +kernel
theorem dX12_filler_43 : decode cX12_filler 43 = .ok (.iastore, 1) := zd_502.1
theorem dX12_filler_44 : decode cX12_filler 44 = .ok (.aload_n 0, 1) := zd_502.2.1
theorem dX12_filler_45 : decode cX12_filler 45 = .ok (.getfield 25, 3) := zd_502.2.2.1
theorem dX12_filler_48 : decode cX12_filler 48 = .ok (.iload_n 3, 1) := zd_502.2.2.2.1
theorem dX12_filler_49 : decode cX12_filler 49 = .ok (.iload_n 2, 1) := zd_502.2.2.2.2.1
theorem dX12_filler_50 : decode cX12_filler 50 = .ok (.iastore, 1) := zd_502.2.2.2.2.2.1
theorem dX12_filler_51 : decode cX12_filler 51 = .ok (.iload_n 3, 1) := zd_502.2.2.2.2.2.2.1
theorem dX12_filler_52 : decode cX12_filler 52 = .ok (.ireturn, 1) := zd_502.2.2.2.2.2.2.2
theorem zd_503 : (decode cX12_notice 0 = .ok (.aload_n 0, 1)) ∧ (decode cX12_notice 1 = .ok (.getfield 147, 3)) ∧ (decode cX12_notice 4 = .ok (.bipush 80, 2)) ∧ (decode cX12_notice 6 = .ok (.if_icmp .eq 40, 3)) ∧ (decode cX12_notice 9 = .ok (.aload_n 0, 1)) ∧ (decode cX12_notice 10 = .ok (.iload_n 1, 1)) ∧ (decode cX12_notice 11 = .ok (.invokevirtual 151, 3)) ∧ (decode cX12_notice 14 = .ok (.ifCond .eq 32, 3)) := by decide +kernel
theorem dX12_notice_0 : decode cX12_notice 0 = .ok (.aload_n 0, 1) := zd_503.1
theorem dX12_notice_1 : decode cX12_notice 1 = .ok (.getfield 147, 3) := zd_503.2.1
theorem dX12_notice_4 : decode cX12_notice 4 = .ok (.bipush 80, 2) := zd_503.2.2.1
theorem dX12_notice_6 : decode cX12_notice 6 = .ok (.if_icmp .eq 40, 3) := zd_503.2.2.2.1
theorem dX12_notice_9 : decode cX12_notice 9 = .ok (.aload_n 0, 1) := zd_503.2.2.2.2.1
theorem dX12_notice_10 : decode cX12_notice 10 = .ok (.iload_n 1, 1) := zd_503.2.2.2.2.2.1
theorem dX12_notice_11 : decode cX12_notice 11 = .ok (.invokevirtual 151, 3) := zd_503.2.2.2.2.2.2.1
theorem dX12_notice_14 : decode cX12_notice 14 = .ok (.ifCond .eq 32, 3) := zd_503.2.2.2.2.2.2.2
theorem zd_504 : (decode cX12_notice 17 = .ok (.iload_n 2, 1)) ∧ (decode cX12_notice 18 = .ok (.iconst 1, 1)) ∧ (decode cX12_notice 19 = .ok (.bipush 20, 2)) ∧ (decode cX12_notice 21 = .ok (.invokestatic 143, 3)) ∧ (decode cX12_notice 24 = .ok (.ifCond .eq 22, 3)) ∧ (decode cX12_notice 27 = .ok (.aload_n 0, 1)) ∧ (decode cX12_notice 28 = .ok (.getfield 19, 3)) ∧ (decode cX12_notice 31 = .ok (.iload_n 1, 1)) := by decide +kernel
theorem dX12_notice_17 : decode cX12_notice 17 = .ok (.iload_n 2, 1) := zd_504.1
theorem dX12_notice_18 : decode cX12_notice 18 = .ok (.iconst 1, 1) := zd_504.2.1
theorem dX12_notice_19 : decode cX12_notice 19 = .ok (.bipush 20, 2) := zd_504.2.2.1
theorem dX12_notice_21 : decode cX12_notice 21 = .ok (.invokestatic 143, 3) := zd_504.2.2.2.1
theorem dX12_notice_24 : decode cX12_notice 24 = .ok (.ifCond .eq 22, 3) := zd_504.2.2.2.2.1
theorem dX12_notice_27 : decode cX12_notice 27 = .ok (.aload_n 0, 1) := zd_504.2.2.2.2.2.1
theorem dX12_notice_28 : decode cX12_notice 28 = .ok (.getfield 19, 3) := zd_504.2.2.2.2.2.2.1
theorem dX12_notice_31 : decode cX12_notice 31 = .ok (.iload_n 1, 1) := zd_504.2.2.2.2.2.2.2
theorem zd_505 : (decode cX12_notice 32 = .ok (.iaload, 1)) ∧ (decode cX12_notice 33 = .ok (.iconst 5, 1)) ∧ (decode cX12_notice 34 = .ok (.if_icmp .eq 12, 3)) ∧ (decode cX12_notice 37 = .ok (.aload_n 0, 1)) ∧ (decode cX12_notice 38 = .ok (.iload_n 1, 1)) ∧ (decode cX12_notice 39 = .ok (.iconst 0, 1)) ∧ (decode cX12_notice 40 = .ok (.invokevirtual 182, 3)) ∧ (decode cX12_notice 43 = .ok (.ifCond .ge 5, 3)) := by decide +kernel
theorem dX12_notice_32 : decode cX12_notice 32 = .ok (.iaload, 1) := zd_505.1
theorem dX12_notice_33 : decode cX12_notice 33 = .ok (.iconst 5, 1) := zd_505.2.1
theorem dX12_notice_34 : decode cX12_notice 34 = .ok (.if_icmp .eq 12, 3) := zd_505.2.2.1
theorem dX12_notice_37 : decode cX12_notice 37 = .ok (.aload_n 0, 1) := zd_505.2.2.2.1
theorem dX12_notice_38 : decode cX12_notice 38 = .ok (.iload_n 1, 1) := zd_505.2.2.2.2.1
theorem dX12_notice_39 : decode cX12_notice 39 = .ok (.iconst 0, 1) := zd_505.2.2.2.2.2.1
theorem dX12_notice_40 : decode cX12_notice 40 = .ok (.invokevirtual 182, 3) := zd_505.2.2.2.2.2.2.1
theorem dX12_notice_43 : decode cX12_notice 43 = .ok (.ifCond .ge 5, 3) := zd_505.2.2.2.2.2.2.2
theorem zd_506 : (decode cX12_notice 46 = .ok (.iconst (-1), 1)) ∧ (decode cX12_notice 47 = .ok (.ireturn, 1)) ∧ (decode cX12_notice 48 = .ok (.iconst 0, 1)) ∧ (decode cX12_notice 49 = .ok (.istore_n 3, 1)) ∧ (decode cX12_notice 50 = .ok (.iload_n 3, 1)) ∧ (decode cX12_notice 51 = .ok (.aload_n 0, 1)) ∧ (decode cX12_notice 52 = .ok (.getfield 147, 3)) ∧ (decode cX12_notice 55 = .ok (.if_icmp .ge 31, 3)) := by decide +kernel
theorem dX12_notice_46 : decode cX12_notice 46 = .ok (.iconst (-1), 1) := zd_506.1
theorem dX12_notice_47 : decode cX12_notice 47 = .ok (.ireturn, 1) := zd_506.2.1
theorem dX12_notice_48 : decode cX12_notice 48 = .ok (.iconst 0, 1) := zd_506.2.2.1
theorem dX12_notice_49 : decode cX12_notice 49 = .ok (.istore_n 3, 1) := zd_506.2.2.2.1
theorem dX12_notice_50 : decode cX12_notice 50 = .ok (.iload_n 3, 1) := zd_506.2.2.2.2.1
theorem dX12_notice_51 : decode cX12_notice 51 = .ok (.aload_n 0, 1) := zd_506.2.2.2.2.2.1
theorem dX12_notice_52 : decode cX12_notice 52 = .ok (.getfield 147, 3) := zd_506.2.2.2.2.2.2.1
theorem dX12_notice_55 : decode cX12_notice 55 = .ok (.if_icmp .ge 31, 3) := zd_506.2.2.2.2.2.2.2
theorem zd_507 : (decode cX12_notice 58 = .ok (.aload_n 0, 1)) ∧ (decode cX12_notice 59 = .ok (.getfield 19, 3)) ∧ (decode cX12_notice 62 = .ok (.iload_n 3, 1)) ∧ (decode cX12_notice 63 = .ok (.iaload, 1)) ∧ (decode cX12_notice 64 = .ok (.iconst 5, 1)) ∧ (decode cX12_notice 65 = .ok (.if_icmp .ne 15, 3)) ∧ (decode cX12_notice 68 = .ok (.aload_n 0, 1)) ∧ (decode cX12_notice 69 = .ok (.getfield 34, 3)) := by decide +kernel
theorem dX12_notice_58 : decode cX12_notice 58 = .ok (.aload_n 0, 1) := zd_507.1
theorem dX12_notice_59 : decode cX12_notice 59 = .ok (.getfield 19, 3) := zd_507.2.1
theorem dX12_notice_62 : decode cX12_notice 62 = .ok (.iload_n 3, 1) := zd_507.2.2.1
theorem dX12_notice_63 : decode cX12_notice 63 = .ok (.iaload, 1) := zd_507.2.2.2.1
theorem dX12_notice_64 : decode cX12_notice 64 = .ok (.iconst 5, 1) := zd_507.2.2.2.2.1
theorem dX12_notice_65 : decode cX12_notice 65 = .ok (.if_icmp .ne 15, 3) := zd_507.2.2.2.2.2.1
theorem dX12_notice_68 : decode cX12_notice 68 = .ok (.aload_n 0, 1) := zd_507.2.2.2.2.2.2.1
theorem dX12_notice_69 : decode cX12_notice 69 = .ok (.getfield 34, 3) := zd_507.2.2.2.2.2.2.2
theorem zd_508 : (decode cX12_notice 72 = .ok (.iload_n 3, 1)) ∧ (decode cX12_notice 73 = .ok (.iaload, 1)) ∧ (decode cX12_notice 74 = .ok (.iload_n 1, 1)) ∧ (decode cX12_notice 75 = .ok (.if_icmp .ne 5, 3)) ∧ (decode cX12_notice 78 = .ok (.iconst (-1), 1)) ∧ (decode cX12_notice 79 = .ok (.ireturn, 1)) ∧ (decode cX12_notice 80 = .ok (.iinc 3 1, 3)) ∧ (decode cX12_notice 83 = .ok (.goto (-33), 3)) := by decide +kernel
theorem dX12_notice_72 : decode cX12_notice 72 = .ok (.iload_n 3, 1) := zd_508.1
theorem dX12_notice_73 : decode cX12_notice 73 = .ok (.iaload, 1) := zd_508.2.1
theorem dX12_notice_74 : decode cX12_notice 74 = .ok (.iload_n 1, 1) := zd_508.2.2.1
theorem dX12_notice_75 : decode cX12_notice 75 = .ok (.if_icmp .ne 5, 3) := zd_508.2.2.2.1
theorem dX12_notice_78 : decode cX12_notice 78 = .ok (.iconst (-1), 1) := zd_508.2.2.2.2.1
theorem dX12_notice_79 : decode cX12_notice 79 = .ok (.ireturn, 1) := zd_508.2.2.2.2.2.1
theorem dX12_notice_80 : decode cX12_notice 80 = .ok (.iinc 3 1, 3) := zd_508.2.2.2.2.2.2.1
theorem dX12_notice_83 : decode cX12_notice 83 = .ok (.goto (-33), 3) := zd_508.2.2.2.2.2.2.2
theorem zd_509 : (decode cX12_notice 86 = .ok (.aload_n 0, 1)) ∧ (decode cX12_notice 87 = .ok (.iconst 5, 1)) ∧ (decode cX12_notice 88 = .ok (.invokevirtual 171, 3)) ∧ (decode cX12_notice 91 = .ok (.istore_n 3, 1)) ∧ (decode cX12_notice 92 = .ok (.aload_n 0, 1)) ∧ (decode cX12_notice 93 = .ok (.getfield 34, 3)) ∧ (decode cX12_notice 96 = .ok (.iload_n 3, 1)) ∧ (decode cX12_notice 97 = .ok (.iload_n 1, 1)) := by decide +kernel
theorem dX12_notice_86 : decode cX12_notice 86 = .ok (.aload_n 0, 1) := zd_509.1
theorem dX12_notice_87 : decode cX12_notice 87 = .ok (.iconst 5, 1) := zd_509.2.1
theorem dX12_notice_88 : decode cX12_notice 88 = .ok (.invokevirtual 171, 3) := zd_509.2.2.1
theorem dX12_notice_91 : decode cX12_notice 91 = .ok (.istore_n 3, 1) := zd_509.2.2.2.1
theorem dX12_notice_92 : decode cX12_notice 92 = .ok (.aload_n 0, 1) := zd_509.2.2.2.2.1
theorem dX12_notice_93 : decode cX12_notice 93 = .ok (.getfield 34, 3) := zd_509.2.2.2.2.2.1
theorem dX12_notice_96 : decode cX12_notice 96 = .ok (.iload_n 3, 1) := zd_509.2.2.2.2.2.2.1
theorem dX12_notice_97 : decode cX12_notice 97 = .ok (.iload_n 1, 1) := zd_509.2.2.2.2.2.2.2
theorem zd_510 : (decode cX12_notice 98 = .ok (.iastore, 1)) ∧ (decode cX12_notice 99 = .ok (.aload_n 0, 1)) ∧ (decode cX12_notice 100 = .ok (.getfield 31, 3)) ∧ (decode cX12_notice 103 = .ok (.iload_n 3, 1)) ∧ (decode cX12_notice 104 = .ok (.iload_n 2, 1)) ∧ (decode cX12_notice 105 = .ok (.iastore, 1)) ∧ (decode cX12_notice 106 = .ok (.iload_n 3, 1)) ∧ (decode cX12_notice 107 = .ok (.ireturn, 1)) := by decide +kernel
theorem dX12_notice_98 : decode cX12_notice 98 = .ok (.iastore, 1) := zd_510.1
theorem dX12_notice_99 : decode cX12_notice 99 = .ok (.aload_n 0, 1) := zd_510.2.1
theorem dX12_notice_100 : decode cX12_notice 100 = .ok (.getfield 31, 3) := zd_510.2.2.1
theorem dX12_notice_103 : decode cX12_notice 103 = .ok (.iload_n 3, 1) := zd_510.2.2.2.1
theorem dX12_notice_104 : decode cX12_notice 104 = .ok (.iload_n 2, 1) := zd_510.2.2.2.2.1
theorem dX12_notice_105 : decode cX12_notice 105 = .ok (.iastore, 1) := zd_510.2.2.2.2.2.1
theorem dX12_notice_106 : decode cX12_notice 106 = .ok (.iload_n 3, 1) := zd_510.2.2.2.2.2.2.1
theorem dX12_notice_107 : decode cX12_notice 107 = .ok (.ireturn, 1) := zd_510.2.2.2.2.2.2.2
theorem zd_511 : (decode cX12_rival 0 = .ok (.iload_n 1, 1)) ∧ (decode cX12_rival 1 = .ok (.invokestatic 179, 3)) ∧ (decode cX12_rival 4 = .ok (.ifCond .eq 29, 3)) ∧ (decode cX12_rival 7 = .ok (.iload_n 2, 1)) ∧ (decode cX12_rival 8 = .ok (.invokestatic 179, 3)) ∧ (decode cX12_rival 11 = .ok (.ifCond .eq 22, 3)) ∧ (decode cX12_rival 14 = .ok (.iload_n 1, 1)) ∧ (decode cX12_rival 15 = .ok (.iload_n 2, 1)) := by decide +kernel
theorem dX12_rival_0 : decode cX12_rival 0 = .ok (.iload_n 1, 1) := zd_511.1
theorem dX12_rival_1 : decode cX12_rival 1 = .ok (.invokestatic 179, 3) := zd_511.2.1
theorem dX12_rival_4 : decode cX12_rival 4 = .ok (.ifCond .eq 29, 3) := zd_511.2.2.1
theorem dX12_rival_7 : decode cX12_rival 7 = .ok (.iload_n 2, 1) := zd_511.2.2.2.1
theorem dX12_rival_8 : decode cX12_rival 8 = .ok (.invokestatic 179, 3) := zd_511.2.2.2.2.1
theorem dX12_rival_11 : decode cX12_rival 11 = .ok (.ifCond .eq 22, 3) := zd_511.2.2.2.2.2.1
theorem dX12_rival_14 : decode cX12_rival 14 = .ok (.iload_n 1, 1) := zd_511.2.2.2.2.2.2.1
theorem dX12_rival_15 : decode cX12_rival 15 = .ok (.iload_n 2, 1) := zd_511.2.2.2.2.2.2.2
theorem zd_512 : (decode cX12_rival 16 = .ok (.if_icmp .eq 17, 3)) ∧ (decode cX12_rival 19 = .ok (.aload_n 0, 1)) ∧ (decode cX12_rival 20 = .ok (.getfield 67, 3)) ∧ (decode cX12_rival 23 = .ok (.bipush 10, 2)) ∧ (decode cX12_rival 25 = .ok (.iload_n 1, 1)) ∧ (decode cX12_rival 26 = .ok (.imul, 1)) ∧ (decode cX12_rival 27 = .ok (.iload_n 2, 1)) ∧ (decode cX12_rival 28 = .ok (.iadd, 1)) := by decide +kernel
theorem dX12_rival_16 : decode cX12_rival 16 = .ok (.if_icmp .eq 17, 3) := zd_512.1
theorem dX12_rival_19 : decode cX12_rival 19 = .ok (.aload_n 0, 1) := zd_512.2.1
theorem dX12_rival_20 : decode cX12_rival 20 = .ok (.getfield 67, 3) := zd_512.2.2.1
theorem dX12_rival_23 : decode cX12_rival 23 = .ok (.bipush 10, 2) := zd_512.2.2.2.1
theorem dX12_rival_25 : decode cX12_rival 25 = .ok (.iload_n 1, 1) := zd_512.2.2.2.2.1
theorem dX12_rival_26 : decode cX12_rival 26 = .ok (.imul, 1) := zd_512.2.2.2.2.2.1
theorem dX12_rival_27 : decode cX12_rival 27 = .ok (.iload_n 2, 1) := zd_512.2.2.2.2.2.2.1
theorem dX12_rival_28 : decode cX12_rival 28 = .ok (.iadd, 1) := zd_512.2.2.2.2.2.2.2
theorem zd_513 : (decode cX12_rival 29 = .ok (.baload, 1)) ∧ (decode cX12_rival 30 = .ok (.ifCond .eq 5, 3)) ∧ (decode cX12_rival 33 = .ok (.iconst 0, 1)) ∧ (decode cX12_rival 34 = .ok (.ireturn, 1)) ∧ (decode cX12_rival 35 = .ok (.aload_n 0, 1)) ∧ (decode cX12_rival 36 = .ok (.getfield 67, 3)) ∧ (decode cX12_rival 39 = .ok (.bipush 10, 2)) ∧ (decode cX12_rival 41 = .ok (.iload_n 1, 1)) := by decide +kernel
theorem dX12_rival_29 : decode cX12_rival 29 = .ok (.baload, 1) := zd_513.1
theorem dX12_rival_30 : decode cX12_rival 30 = .ok (.ifCond .eq 5, 3) := zd_513.2.1
theorem dX12_rival_33 : decode cX12_rival 33 = .ok (.iconst 0, 1) := zd_513.2.2.1
theorem dX12_rival_34 : decode cX12_rival 34 = .ok (.ireturn, 1) := zd_513.2.2.2.1
theorem dX12_rival_35 : decode cX12_rival 35 = .ok (.aload_n 0, 1) := zd_513.2.2.2.2.1
theorem dX12_rival_36 : decode cX12_rival 36 = .ok (.getfield 67, 3) := zd_513.2.2.2.2.2.1
theorem dX12_rival_39 : decode cX12_rival 39 = .ok (.bipush 10, 2) := zd_513.2.2.2.2.2.2.1
theorem dX12_rival_41 : decode cX12_rival 41 = .ok (.iload_n 1, 1) := zd_513.2.2.2.2.2.2.2
theorem zd_514 : (decode cX12_rival 42 = .ok (.imul, 1)) ∧ (decode cX12_rival 43 = .ok (.iload_n 2, 1)) ∧ (decode cX12_rival 44 = .ok (.iadd, 1)) ∧ (decode cX12_rival 45 = .ok (.iconst 1, 1)) ∧ (decode cX12_rival 46 = .ok (.bastore, 1)) ∧ (decode cX12_rival 47 = .ok (.aload_n 0, 1)) ∧ (decode cX12_rival 48 = .ok (.getfield 67, 3)) ∧ (decode cX12_rival 51 = .ok (.bipush 10, 2)) := by decide +kernel
theorem dX12_rival_42 : decode cX12_rival 42 = .ok (.imul, 1) := zd_514.1
theorem dX12_rival_43 : decode cX12_rival 43 = .ok (.iload_n 2, 1) := zd_514.2.1
theorem dX12_rival_44 : decode cX12_rival 44 = .ok (.iadd, 1) := zd_514.2.2.1
theorem dX12_rival_45 : decode cX12_rival 45 = .ok (.iconst 1, 1) := zd_514.2.2.2.1
theorem dX12_rival_46 : decode cX12_rival 46 = .ok (.bastore, 1) := zd_514.2.2.2.2.1
theorem dX12_rival_47 : decode cX12_rival 47 = .ok (.aload_n 0, 1) := zd_514.2.2.2.2.2.1
theorem dX12_rival_48 : decode cX12_rival 48 = .ok (.getfield 67, 3) := zd_514.2.2.2.2.2.2.1
theorem dX12_rival_51 : decode cX12_rival 51 = .ok (.bipush 10, 2) := zd_514.2.2.2.2.2.2.2
theorem zd_515 : (decode cX12_rival 53 = .ok (.iload_n 2, 1)) ∧ (decode cX12_rival 54 = .ok (.imul, 1)) ∧ (decode cX12_rival 55 = .ok (.iload_n 1, 1)) ∧ (decode cX12_rival 56 = .ok (.iadd, 1)) ∧ (decode cX12_rival 57 = .ok (.iconst 1, 1)) ∧ (decode cX12_rival 58 = .ok (.bastore, 1)) ∧ (decode cX12_rival 59 = .ok (.iconst 1, 1)) ∧ (decode cX12_rival 60 = .ok (.ireturn, 1)) := by decide +kernel
theorem dX12_rival_53 : decode cX12_rival 53 = .ok (.iload_n 2, 1) := zd_515.1
theorem dX12_rival_54 : decode cX12_rival 54 = .ok (.imul, 1) := zd_515.2.1
theorem dX12_rival_55 : decode cX12_rival 55 = .ok (.iload_n 1, 1) := zd_515.2.2.1
theorem dX12_rival_56 : decode cX12_rival 56 = .ok (.iadd, 1) := zd_515.2.2.2.1
theorem dX12_rival_57 : decode cX12_rival 57 = .ok (.iconst 1, 1) := zd_515.2.2.2.2.1
theorem dX12_rival_58 : decode cX12_rival 58 = .ok (.bastore, 1) := zd_515.2.2.2.2.2.1
theorem dX12_rival_59 : decode cX12_rival 59 = .ok (.iconst 1, 1) := zd_515.2.2.2.2.2.2.1
theorem dX12_rival_60 : decode cX12_rival 60 = .ok (.ireturn, 1) := zd_515.2.2.2.2.2.2.2
theorem zd_516 : (decode cX12_names 0 = .ok (.aload_n 0, 1)) ∧ (decode cX12_names 1 = .ok (.iload_n 1, 1)) ∧ (decode cX12_names 2 = .ok (.iconst 0, 1)) ∧ (decode cX12_names 3 = .ok (.invokevirtual 175, 3)) ∧ (decode cX12_names 6 = .ok (.ifCond .eq 24, 3)) ∧ (decode cX12_names 9 = .ok (.iload_n 2, 1)) ∧ (decode cX12_names 10 = .ok (.invokestatic 179, 3)) ∧ (decode cX12_names 13 = .ok (.ifCond .eq 17, 3)) := by decide +kernel
theorem dX12_names_0 : decode cX12_names 0 = .ok (.aload_n 0, 1) := zd_516.1
theorem dX12_names_1 : decode cX12_names 1 = .ok (.iload_n 1, 1) := zd_516.2.1
theorem dX12_names_2 : decode cX12_names 2 = .ok (.iconst 0, 1) := zd_516.2.2.1
theorem dX12_names_3 : decode cX12_names 3 = .ok (.invokevirtual 175, 3) := zd_516.2.2.2.1
theorem dX12_names_6 : decode cX12_names 6 = .ok (.ifCond .eq 24, 3) := zd_516.2.2.2.2.1
theorem dX12_names_9 : decode cX12_names 9 = .ok (.iload_n 2, 1) := zd_516.2.2.2.2.2.1
theorem dX12_names_10 : decode cX12_names 10 = .ok (.invokestatic 179, 3) := zd_516.2.2.2.2.2.2.1
theorem dX12_names_13 : decode cX12_names 13 = .ok (.ifCond .eq 17, 3) := zd_516.2.2.2.2.2.2.2
theorem zd_517 : (decode cX12_names 16 = .ok (.aload_n 0, 1)) ∧ (decode cX12_names 17 = .ok (.getfield 71, 3)) ∧ (decode cX12_names 20 = .ok (.bipush 10, 2)) ∧ (decode cX12_names 22 = .ok (.iload_n 1, 1)) ∧ (decode cX12_names 23 = .ok (.imul, 1)) ∧ (decode cX12_names 24 = .ok (.iload_n 2, 1)) ∧ (decode cX12_names 25 = .ok (.iadd, 1)) ∧ (decode cX12_names 26 = .ok (.baload, 1)) := by decide +kernel
theorem dX12_names_16 : decode cX12_names 16 = .ok (.aload_n 0, 1) := zd_517.1
theorem dX12_names_17 : decode cX12_names 17 = .ok (.getfield 71, 3) := zd_517.2.1
theorem dX12_names_20 : decode cX12_names 20 = .ok (.bipush 10, 2) := zd_517.2.2.1
theorem dX12_names_22 : decode cX12_names 22 = .ok (.iload_n 1, 1) := zd_517.2.2.2.1
theorem dX12_names_23 : decode cX12_names 23 = .ok (.imul, 1) := zd_517.2.2.2.2.1
theorem dX12_names_24 : decode cX12_names 24 = .ok (.iload_n 2, 1) := zd_517.2.2.2.2.2.1
theorem dX12_names_25 : decode cX12_names 25 = .ok (.iadd, 1) := zd_517.2.2.2.2.2.2.1
theorem dX12_names_26 : decode cX12_names 26 = .ok (.baload, 1) := zd_517.2.2.2.2.2.2.2
theorem zd_518 : (decode cX12_names 27 = .ok (.ifCond .eq 5, 3)) ∧ (decode cX12_names 30 = .ok (.iconst 0, 1)) ∧ (decode cX12_names 31 = .ok (.ireturn, 1)) ∧ (decode cX12_names 32 = .ok (.aload_n 0, 1)) ∧ (decode cX12_names 33 = .ok (.getfield 71, 3)) ∧ (decode cX12_names 36 = .ok (.bipush 10, 2)) ∧ (decode cX12_names 38 = .ok (.iload_n 1, 1)) ∧ (decode cX12_names 39 = .ok (.imul, 1)) := by decide +kernel
theorem dX12_names_27 : decode cX12_names 27 = .ok (.ifCond .eq 5, 3) := zd_518.1
theorem dX12_names_30 : decode cX12_names 30 = .ok (.iconst 0, 1) := zd_518.2.1
theorem dX12_names_31 : decode cX12_names 31 = .ok (.ireturn, 1) := zd_518.2.2.1
theorem dX12_names_32 : decode cX12_names 32 = .ok (.aload_n 0, 1) := zd_518.2.2.2.1
theorem dX12_names_33 : decode cX12_names 33 = .ok (.getfield 71, 3) := zd_518.2.2.2.2.1
theorem dX12_names_36 : decode cX12_names 36 = .ok (.bipush 10, 2) := zd_518.2.2.2.2.2.1
theorem dX12_names_38 : decode cX12_names 38 = .ok (.iload_n 1, 1) := zd_518.2.2.2.2.2.2.1
theorem dX12_names_39 : decode cX12_names 39 = .ok (.imul, 1) := zd_518.2.2.2.2.2.2.2
theorem zd_519 : (decode cX12_names 40 = .ok (.iload_n 2, 1)) ∧ (decode cX12_names 41 = .ok (.iadd, 1)) ∧ (decode cX12_names 42 = .ok (.iconst 1, 1)) ∧ (decode cX12_names 43 = .ok (.bastore, 1)) ∧ (decode cX12_names 44 = .ok (.iconst 1, 1)) ∧ (decode cX12_names 45 = .ok (.ireturn, 1)) := by decide +kernel
theorem dX12_names_40 : decode cX12_names 40 = .ok (.iload_n 2, 1) := zd_519.1
theorem dX12_names_41 : decode cX12_names 41 = .ok (.iadd, 1) := zd_519.2.1
theorem dX12_names_42 : decode cX12_names 42 = .ok (.iconst 1, 1) := zd_519.2.2.1
theorem dX12_names_43 : decode cX12_names 43 = .ok (.bastore, 1) := zd_519.2.2.2.1
theorem dX12_names_44 : decode cX12_names 44 = .ok (.iconst 1, 1) := zd_519.2.2.2.2.1
theorem dX12_names_45 : decode cX12_names 45 = .ok (.ireturn, 1) := zd_519.2.2.2.2.2
theorem zd_520 : (decode cX12_takes 0 = .ok (.bipush 6, 2)) ∧ (decode cX12_takes 2 = .ok (.iload_n 1, 1)) ∧ (decode cX12_takes 3 = .ok (.imul, 1)) ∧ (decode cX12_takes 4 = .ok (.iload_n 2, 1)) ∧ (decode cX12_takes 5 = .ok (.iadd, 1)) ∧ (decode cX12_takes 6 = .ok (.istore_n 3, 1)) ∧ (decode cX12_takes 7 = .ok (.aload_n 0, 1)) ∧ (decode cX12_takes 8 = .ok (.getfield 89, 3)) := by decide +kernel
theorem dX12_takes_0 : decode cX12_takes 0 = .ok (.bipush 6, 2) := zd_520.1
theorem dX12_takes_2 : decode cX12_takes 2 = .ok (.iload_n 1, 1) := zd_520.2.1
theorem dX12_takes_3 : decode cX12_takes 3 = .ok (.imul, 1) := zd_520.2.2.1
theorem dX12_takes_4 : decode cX12_takes 4 = .ok (.iload_n 2, 1) := zd_520.2.2.2.1
theorem dX12_takes_5 : decode cX12_takes 5 = .ok (.iadd, 1) := zd_520.2.2.2.2.1
theorem dX12_takes_6 : decode cX12_takes 6 = .ok (.istore_n 3, 1) := zd_520.2.2.2.2.2.1
theorem dX12_takes_7 : decode cX12_takes 7 = .ok (.aload_n 0, 1) := zd_520.2.2.2.2.2.2.1
theorem dX12_takes_8 : decode cX12_takes 8 = .ok (.getfield 89, 3) := zd_520.2.2.2.2.2.2.2
theorem zd_521 : (decode cX12_takes 11 = .ok (.iload_n 3, 1)) ∧ (decode cX12_takes 12 = .ok (.iaload, 1)) ∧ (decode cX12_takes 13 = .ok (.istore 4, 2)) ∧ (decode cX12_takes 15 = .ok (.iload_n 2, 1)) ∧ (decode cX12_takes 16 = .ok (.ifCond .le 23, 3)) ∧ (decode cX12_takes 19 = .ok (.aload_n 0, 1)) ∧ (decode cX12_takes 20 = .ok (.getfield 77, 3)) ∧ (decode cX12_takes 23 = .ok (.iload_n 3, 1)) := by decide +kernel
theorem dX12_takes_11 : decode cX12_takes 11 = .ok (.iload_n 3, 1) := zd_521.1
theorem dX12_takes_12 : decode cX12_takes 12 = .ok (.iaload, 1) := zd_521.2.1
theorem dX12_takes_13 : decode cX12_takes 13 = .ok (.istore 4, 2) := zd_521.2.2.1
theorem dX12_takes_15 : decode cX12_takes 15 = .ok (.iload_n 2, 1) := zd_521.2.2.2.1
theorem dX12_takes_16 : decode cX12_takes 16 = .ok (.ifCond .le 23, 3) := zd_521.2.2.2.2.1
theorem dX12_takes_19 : decode cX12_takes 19 = .ok (.aload_n 0, 1) := zd_521.2.2.2.2.2.1
theorem dX12_takes_20 : decode cX12_takes 20 = .ok (.getfield 77, 3) := zd_521.2.2.2.2.2.2.1
theorem dX12_takes_23 : decode cX12_takes 23 = .ok (.iload_n 3, 1) := zd_521.2.2.2.2.2.2.2
theorem zd_522 : (decode cX12_takes 24 = .ok (.iconst 1, 1)) ∧ (decode cX12_takes 25 = .ok (.isub, 1)) ∧ (decode cX12_takes 26 = .ok (.iaload, 1)) ∧ (decode cX12_takes 27 = .ok (.aload_n 0, 1)) ∧ (decode cX12_takes 28 = .ok (.getfield 77, 3)) ∧ (decode cX12_takes 31 = .ok (.iload_n 3, 1)) ∧ (decode cX12_takes 32 = .ok (.iaload, 1)) ∧ (decode cX12_takes 33 = .ok (.if_icmp .eq 6, 3)) := by decide +kernel
theorem dX12_takes_24 : decode cX12_takes 24 = .ok (.iconst 1, 1) := zd_522.1
theorem dX12_takes_25 : decode cX12_takes 25 = .ok (.isub, 1) := zd_522.2.1
theorem dX12_takes_26 : decode cX12_takes 26 = .ok (.iaload, 1) := zd_522.2.2.1
theorem dX12_takes_27 : decode cX12_takes 27 = .ok (.aload_n 0, 1) := zd_522.2.2.2.1
theorem dX12_takes_28 : decode cX12_takes 28 = .ok (.getfield 77, 3) := zd_522.2.2.2.2.1
theorem dX12_takes_31 : decode cX12_takes 31 = .ok (.iload_n 3, 1) := zd_522.2.2.2.2.2.1
theorem dX12_takes_32 : decode cX12_takes 32 = .ok (.iaload, 1) := zd_522.2.2.2.2.2.2.1
theorem dX12_takes_33 : decode cX12_takes 33 = .ok (.if_icmp .eq 6, 3) := zd_522.2.2.2.2.2.2.2
theorem zd_523 : (decode cX12_takes 36 = .ok (.iinc 4 (-1), 3)) ∧ (decode cX12_takes 39 = .ok (.iload_n 2, 1)) ∧ (decode cX12_takes 40 = .ok (.iconst 1, 1)) ∧ (decode cX12_takes 41 = .ok (.iadd, 1)) ∧ (decode cX12_takes 42 = .ok (.aload_n 0, 1)) ∧ (decode cX12_takes 43 = .ok (.getfield 74, 3)) ∧ (decode cX12_takes 46 = .ok (.iload_n 1, 1)) ∧ (decode cX12_takes 47 = .ok (.iaload, 1)) := by decide +kernel
theorem dX12_takes_36 : decode cX12_takes 36 = .ok (.iinc 4 (-1), 3) := zd_523.1
theorem dX12_takes_39 : decode cX12_takes 39 = .ok (.iload_n 2, 1) := zd_523.2.1
theorem dX12_takes_40 : decode cX12_takes 40 = .ok (.iconst 1, 1) := zd_523.2.2.1
theorem dX12_takes_41 : decode cX12_takes 41 = .ok (.iadd, 1) := zd_523.2.2.2.1
theorem dX12_takes_42 : decode cX12_takes 42 = .ok (.aload_n 0, 1) := zd_523.2.2.2.2.1
theorem dX12_takes_43 : decode cX12_takes 43 = .ok (.getfield 74, 3) := zd_523.2.2.2.2.2.1
theorem dX12_takes_46 : decode cX12_takes 46 = .ok (.iload_n 1, 1) := zd_523.2.2.2.2.2.2.1
theorem dX12_takes_47 : decode cX12_takes 47 = .ok (.iaload, 1) := zd_523.2.2.2.2.2.2.2
theorem zd_524 : (decode cX12_takes 48 = .ok (.if_icmp .ge 23, 3)) ∧ (decode cX12_takes 51 = .ok (.aload_n 0, 1)) ∧ (decode cX12_takes 52 = .ok (.getfield 77, 3)) ∧ (decode cX12_takes 55 = .ok (.iload_n 3, 1)) ∧ (decode cX12_takes 56 = .ok (.iconst 1, 1)) ∧ (decode cX12_takes 57 = .ok (.iadd, 1)) ∧ (decode cX12_takes 58 = .ok (.iaload, 1)) ∧ (decode cX12_takes 59 = .ok (.aload_n 0, 1)) := by decide +kernel
theorem dX12_takes_48 : decode cX12_takes 48 = .ok (.if_icmp .ge 23, 3) := zd_524.1
theorem dX12_takes_51 : decode cX12_takes 51 = .ok (.aload_n 0, 1) := zd_524.2.1
theorem dX12_takes_52 : decode cX12_takes 52 = .ok (.getfield 77, 3) := zd_524.2.2.1
theorem dX12_takes_55 : decode cX12_takes 55 = .ok (.iload_n 3, 1) := zd_524.2.2.2.1
theorem dX12_takes_56 : decode cX12_takes 56 = .ok (.iconst 1, 1) := zd_524.2.2.2.2.1
theorem dX12_takes_57 : decode cX12_takes 57 = .ok (.iadd, 1) := zd_524.2.2.2.2.2.1
theorem dX12_takes_58 : decode cX12_takes 58 = .ok (.iaload, 1) := zd_524.2.2.2.2.2.2.1
theorem dX12_takes_59 : decode cX12_takes 59 = .ok (.aload_n 0, 1) := zd_524.2.2.2.2.2.2.2
theorem zd_525 : (decode cX12_takes 60 = .ok (.getfield 77, 3)) ∧ (decode cX12_takes 63 = .ok (.iload_n 3, 1)) ∧ (decode cX12_takes 64 = .ok (.iaload, 1)) ∧ (decode cX12_takes 65 = .ok (.if_icmp .eq 6, 3)) ∧ (decode cX12_takes 68 = .ok (.iinc 4 (-1), 3)) ∧ (decode cX12_takes 71 = .ok (.iload 4, 2)) ∧ (decode cX12_takes 73 = .ok (.ireturn, 1)) := by decide +kernel
theorem dX12_takes_60 : decode cX12_takes 60 = .ok (.getfield 77, 3) := zd_525.1
theorem dX12_takes_63 : decode cX12_takes 63 = .ok (.iload_n 3, 1) := zd_525.2.1
theorem dX12_takes_64 : decode cX12_takes 64 = .ok (.iaload, 1) := zd_525.2.2.1
theorem dX12_takes_65 : decode cX12_takes 65 = .ok (.if_icmp .eq 6, 3) := zd_525.2.2.2.1
theorem dX12_takes_68 : decode cX12_takes 68 = .ok (.iinc 4 (-1), 3) := zd_525.2.2.2.2.1
theorem dX12_takes_71 : decode cX12_takes 71 = .ok (.iload 4, 2) := zd_525.2.2.2.2.2.1
theorem dX12_takes_73 : decode cX12_takes 73 = .ok (.ireturn, 1) := zd_525.2.2.2.2.2.2
theorem zd_526 : (decode cX12_from 0 = .ok (.iconst 0, 1)) ∧ (decode cX12_from 1 = .ok (.istore_n 3, 1)) ∧ (decode cX12_from 2 = .ok (.iconst 0, 1)) ∧ (decode cX12_from 3 = .ok (.istore 4, 2)) ∧ (decode cX12_from 5 = .ok (.iload 4, 2)) ∧ (decode cX12_from 7 = .ok (.iload_n 2, 1)) ∧ (decode cX12_from 8 = .ok (.if_icmp .ge 19, 3)) ∧ (decode cX12_from 11 = .ok (.iload_n 3, 1)) := by decide +kernel
theorem dX12_from_0 : decode cX12_from 0 = .ok (.iconst 0, 1) := zd_526.1
theorem dX12_from_1 : decode cX12_from 1 = .ok (.istore_n 3, 1) := zd_526.2.1
theorem dX12_from_2 : decode cX12_from 2 = .ok (.iconst 0, 1) := zd_526.2.2.1
theorem dX12_from_3 : decode cX12_from 3 = .ok (.istore 4, 2) := zd_526.2.2.2.1
theorem dX12_from_5 : decode cX12_from 5 = .ok (.iload 4, 2) := zd_526.2.2.2.2.1
theorem dX12_from_7 : decode cX12_from 7 = .ok (.iload_n 2, 1) := zd_526.2.2.2.2.2.1
theorem dX12_from_8 : decode cX12_from 8 = .ok (.if_icmp .ge 19, 3) := zd_526.2.2.2.2.2.2.1
theorem dX12_from_11 : decode cX12_from 11 = .ok (.iload_n 3, 1) := zd_526.2.2.2.2.2.2.2
theorem zd_527 : (decode cX12_from 12 = .ok (.aload_n 0, 1)) ∧ (decode cX12_from 13 = .ok (.iload_n 1, 1)) ∧ (decode cX12_from 14 = .ok (.iload 4, 2)) ∧ (decode cX12_from 16 = .ok (.invokevirtual 186, 3)) ∧ (decode cX12_from 19 = .ok (.iadd, 1)) ∧ (decode cX12_from 20 = .ok (.istore_n 3, 1)) ∧ (decode cX12_from 21 = .ok (.iinc 4 1, 3)) ∧ (decode cX12_from 24 = .ok (.goto (-19), 3)) := by decide +kernel
theorem dX12_from_12 : decode cX12_from 12 = .ok (.aload_n 0, 1) := zd_527.1
theorem dX12_from_13 : decode cX12_from 13 = .ok (.iload_n 1, 1) := zd_527.2.1
theorem dX12_from_14 : decode cX12_from 14 = .ok (.iload 4, 2) := zd_527.2.2.1
theorem dX12_from_16 : decode cX12_from 16 = .ok (.invokevirtual 186, 3) := zd_527.2.2.2.1
theorem dX12_from_19 : decode cX12_from 19 = .ok (.iadd, 1) := zd_527.2.2.2.2.1
theorem dX12_from_20 : decode cX12_from 20 = .ok (.istore_n 3, 1) := zd_527.2.2.2.2.2.1
theorem dX12_from_21 : decode cX12_from 21 = .ok (.iinc 4 1, 3) := zd_527.2.2.2.2.2.2.1
theorem dX12_from_24 : decode cX12_from 24 = .ok (.goto (-19), 3) := zd_527.2.2.2.2.2.2.2
theorem zd_528 : (decode cX12_from 27 = .ok (.iload_n 3, 1)) ∧ (decode cX12_from 28 = .ok (.ireturn, 1)) := by decide +kernel
theorem dX12_from_27 : decode cX12_from 27 = .ok (.iload_n 3, 1) := zd_528.1
theorem dX12_from_28 : decode cX12_from 28 = .ok (.ireturn, 1) := zd_528.2
theorem zd_529 : (decode cX12_isFree 0 = .ok (.aload_n 0, 1)) ∧ (decode cX12_isFree 1 = .ok (.iload_n 1, 1)) ∧ (decode cX12_isFree 2 = .ok (.iload_n 2, 1)) ∧ (decode cX12_isFree 3 = .ok (.iload_n 3, 1)) ∧ (decode cX12_isFree 4 = .ok (.invokevirtual 189, 3)) ∧ (decode cX12_isFree 7 = .ok (.ifCond .eq 25, 3)) ∧ (decode cX12_isFree 10 = .ok (.iload 4, 2)) ∧ (decode cX12_isFree 12 = .ok (.iconst 1, 1)) := by decide +kernel
theorem dX12_isFree_0 : decode cX12_isFree 0 = .ok (.aload_n 0, 1) := zd_529.1
theorem dX12_isFree_1 : decode cX12_isFree 1 = .ok (.iload_n 1, 1) := zd_529.2.1
theorem dX12_isFree_2 : decode cX12_isFree 2 = .ok (.iload_n 2, 1) := zd_529.2.2.1
theorem dX12_isFree_3 : decode cX12_isFree 3 = .ok (.iload_n 3, 1) := zd_529.2.2.2.1
theorem dX12_isFree_4 : decode cX12_isFree 4 = .ok (.invokevirtual 189, 3) := zd_529.2.2.2.2.1
theorem dX12_isFree_7 : decode cX12_isFree 7 = .ok (.ifCond .eq 25, 3) := zd_529.2.2.2.2.2.1
theorem dX12_isFree_10 : decode cX12_isFree 10 = .ok (.iload 4, 2) := zd_529.2.2.2.2.2.2.1
theorem dX12_isFree_12 : decode cX12_isFree 12 = .ok (.iconst 1, 1) := zd_529.2.2.2.2.2.2.2
theorem zd_530 : (decode cX12_isFree 13 = .ok (.bipush 8, 2)) ∧ (decode cX12_isFree 15 = .ok (.invokestatic 143, 3)) ∧ (decode cX12_isFree 18 = .ok (.ifCond .eq 14, 3)) ∧ (decode cX12_isFree 21 = .ok (.iload 5, 2)) ∧ (decode cX12_isFree 23 = .ok (.iconst 1, 1)) ∧ (decode cX12_isFree 24 = .ok (.bipush 60, 2)) ∧ (decode cX12_isFree 26 = .ok (.invokestatic 143, 3)) ∧ (decode cX12_isFree 29 = .ok (.ifCond .ne 5, 3)) := by decide +kernel
theorem dX12_isFree_13 : decode cX12_isFree 13 = .ok (.bipush 8, 2) := zd_530.1
theorem dX12_isFree_15 : decode cX12_isFree 15 = .ok (.invokestatic 143, 3) := zd_530.2.1
theorem dX12_isFree_18 : decode cX12_isFree 18 = .ok (.ifCond .eq 14, 3) := zd_530.2.2.1
theorem dX12_isFree_21 : decode cX12_isFree 21 = .ok (.iload 5, 2) := zd_530.2.2.2.1
theorem dX12_isFree_23 : decode cX12_isFree 23 = .ok (.iconst 1, 1) := zd_530.2.2.2.2.1
theorem dX12_isFree_24 : decode cX12_isFree 24 = .ok (.bipush 60, 2) := zd_530.2.2.2.2.2.1
theorem dX12_isFree_26 : decode cX12_isFree 26 = .ok (.invokestatic 143, 3) := zd_530.2.2.2.2.2.2.1
theorem dX12_isFree_29 : decode cX12_isFree 29 = .ok (.ifCond .ne 5, 3) := zd_530.2.2.2.2.2.2.2
theorem zd_531 : (decode cX12_isFree 32 = .ok (.iconst 0, 1)) ∧ (decode cX12_isFree 33 = .ok (.ireturn, 1)) ∧ (decode cX12_isFree 34 = .ok (.iload_n 2, 1)) ∧ (decode cX12_isFree 35 = .ok (.istore 6, 2)) ∧ (decode cX12_isFree 37 = .ok (.iload 6, 2)) ∧ (decode cX12_isFree 39 = .ok (.iload_n 2, 1)) ∧ (decode cX12_isFree 40 = .ok (.iload 4, 2)) ∧ (decode cX12_isFree 42 = .ok (.iadd, 1)) := by decide +kernel
theorem dX12_isFree_32 : decode cX12_isFree 32 = .ok (.iconst 0, 1) := zd_531.1
theorem dX12_isFree_33 : decode cX12_isFree 33 = .ok (.ireturn, 1) := zd_531.2.1
theorem dX12_isFree_34 : decode cX12_isFree 34 = .ok (.iload_n 2, 1) := zd_531.2.2.1
theorem dX12_isFree_35 : decode cX12_isFree 35 = .ok (.istore 6, 2) := zd_531.2.2.2.1
theorem dX12_isFree_37 : decode cX12_isFree 37 = .ok (.iload 6, 2) := zd_531.2.2.2.2.1
theorem dX12_isFree_39 : decode cX12_isFree 39 = .ok (.iload_n 2, 1) := zd_531.2.2.2.2.2.1
theorem dX12_isFree_40 : decode cX12_isFree 40 = .ok (.iload 4, 2) := zd_531.2.2.2.2.2.2.1
theorem dX12_isFree_42 : decode cX12_isFree 42 = .ok (.iadd, 1) := zd_531.2.2.2.2.2.2.2
theorem zd_532 : (decode cX12_isFree 43 = .ok (.if_icmp .ge 59, 3)) ∧ (decode cX12_isFree 46 = .ok (.iload_n 3, 1)) ∧ (decode cX12_isFree 47 = .ok (.istore 7, 2)) ∧ (decode cX12_isFree 49 = .ok (.iload 7, 2)) ∧ (decode cX12_isFree 51 = .ok (.iload_n 3, 1)) ∧ (decode cX12_isFree 52 = .ok (.iload 5, 2)) ∧ (decode cX12_isFree 54 = .ok (.iadd, 1)) ∧ (decode cX12_isFree 55 = .ok (.if_icmp .ge 41, 3)) := by decide +kernel
theorem dX12_isFree_43 : decode cX12_isFree 43 = .ok (.if_icmp .ge 59, 3) := zd_532.1
theorem dX12_isFree_46 : decode cX12_isFree 46 = .ok (.iload_n 3, 1) := zd_532.2.1
theorem dX12_isFree_47 : decode cX12_isFree 47 = .ok (.istore 7, 2) := zd_532.2.2.1
theorem dX12_isFree_49 : decode cX12_isFree 49 = .ok (.iload 7, 2) := zd_532.2.2.2.1
theorem dX12_isFree_51 : decode cX12_isFree 51 = .ok (.iload_n 3, 1) := zd_532.2.2.2.2.1
theorem dX12_isFree_52 : decode cX12_isFree 52 = .ok (.iload 5, 2) := zd_532.2.2.2.2.2.1
theorem dX12_isFree_54 : decode cX12_isFree 54 = .ok (.iadd, 1) := zd_532.2.2.2.2.2.2.1
theorem dX12_isFree_55 : decode cX12_isFree 55 = .ok (.if_icmp .ge 41, 3) := zd_532.2.2.2.2.2.2.2
theorem zd_533 : (decode cX12_isFree 58 = .ok (.aload_n 0, 1)) ∧ (decode cX12_isFree 59 = .ok (.iload_n 1, 1)) ∧ (decode cX12_isFree 60 = .ok (.iload 6, 2)) ∧ (decode cX12_isFree 62 = .ok (.iload 7, 2)) ∧ (decode cX12_isFree 64 = .ok (.invokevirtual 189, 3)) ∧ (decode cX12_isFree 67 = .ok (.ifCond .eq 21, 3)) ∧ (decode cX12_isFree 70 = .ok (.aload_n 0, 1)) ∧ (decode cX12_isFree 71 = .ok (.getfield 16, 3)) := by decide +kernel
theorem dX12_isFree_58 : decode cX12_isFree 58 = .ok (.aload_n 0, 1) := zd_533.1
theorem dX12_isFree_59 : decode cX12_isFree 59 = .ok (.iload_n 1, 1) := zd_533.2.1
theorem dX12_isFree_60 : decode cX12_isFree 60 = .ok (.iload 6, 2) := zd_533.2.2.1
theorem dX12_isFree_62 : decode cX12_isFree 62 = .ok (.iload 7, 2) := zd_533.2.2.2.1
theorem dX12_isFree_64 : decode cX12_isFree 64 = .ok (.invokevirtual 189, 3) := zd_533.2.2.2.2.1
theorem dX12_isFree_67 : decode cX12_isFree 67 = .ok (.ifCond .eq 21, 3) := zd_533.2.2.2.2.2.1
theorem dX12_isFree_70 : decode cX12_isFree 70 = .ok (.aload_n 0, 1) := zd_533.2.2.2.2.2.2.1
theorem dX12_isFree_71 : decode cX12_isFree 71 = .ok (.getfield 16, 3) := zd_533.2.2.2.2.2.2.2
theorem zd_534 : (decode cX12_isFree 74 = .ok (.iload_n 1, 1)) ∧ (decode cX12_isFree 75 = .ok (.iload 6, 2)) ∧ (decode cX12_isFree 77 = .ok (.iload 7, 2)) ∧ (decode cX12_isFree 79 = .ok (.invokestatic 161, 3)) ∧ (decode cX12_isFree 82 = .ok (.iaload, 1)) ∧ (decode cX12_isFree 83 = .ok (.bipush (-2), 2)) ∧ (decode cX12_isFree 85 = .ok (.if_icmp .eq 5, 3)) ∧ (decode cX12_isFree 88 = .ok (.iconst 0, 1)) := by decide +kernel
theorem dX12_isFree_74 : decode cX12_isFree 74 = .ok (.iload_n 1, 1) := zd_534.1
theorem dX12_isFree_75 : decode cX12_isFree 75 = .ok (.iload 6, 2) := zd_534.2.1
theorem dX12_isFree_77 : decode cX12_isFree 77 = .ok (.iload 7, 2) := zd_534.2.2.1
theorem dX12_isFree_79 : decode cX12_isFree 79 = .ok (.invokestatic 161, 3) := zd_534.2.2.2.1
theorem dX12_isFree_82 : decode cX12_isFree 82 = .ok (.iaload, 1) := zd_534.2.2.2.2.1
theorem dX12_isFree_83 : decode cX12_isFree 83 = .ok (.bipush (-2), 2) := zd_534.2.2.2.2.2.1
theorem dX12_isFree_85 : decode cX12_isFree 85 = .ok (.if_icmp .eq 5, 3) := zd_534.2.2.2.2.2.2.1
theorem dX12_isFree_88 : decode cX12_isFree 88 = .ok (.iconst 0, 1) := zd_534.2.2.2.2.2.2.2
theorem zd_535 : (decode cX12_isFree 89 = .ok (.ireturn, 1)) ∧ (decode cX12_isFree 90 = .ok (.iinc 7 1, 3)) ∧ (decode cX12_isFree 93 = .ok (.goto (-44), 3)) ∧ (decode cX12_isFree 96 = .ok (.iinc 6 1, 3)) ∧ (decode cX12_isFree 99 = .ok (.goto (-62), 3)) ∧ (decode cX12_isFree 102 = .ok (.iconst 1, 1)) ∧ (decode cX12_isFree 103 = .ok (.ireturn, 1)) := by decide +kernel
theorem dX12_isFree_89 : decode cX12_isFree 89 = .ok (.ireturn, 1) := zd_535.1
theorem dX12_isFree_90 : decode cX12_isFree 90 = .ok (.iinc 7 1, 3) := zd_535.2.1
theorem dX12_isFree_93 : decode cX12_isFree 93 = .ok (.goto (-44), 3) := zd_535.2.2.1
theorem dX12_isFree_96 : decode cX12_isFree 96 = .ok (.iinc 6 1, 3) := zd_535.2.2.2.1
theorem dX12_isFree_99 : decode cX12_isFree 99 = .ok (.goto (-62), 3) := zd_535.2.2.2.2.1
theorem dX12_isFree_102 : decode cX12_isFree 102 = .ok (.iconst 1, 1) := zd_535.2.2.2.2.2.1
theorem dX12_isFree_103 : decode cX12_isFree 103 = .ok (.ireturn, 1) := zd_535.2.2.2.2.2.2
theorem zd_536 : (decode cX12_sets 0 = .ok (.iload_n 2, 1)) ∧ (decode cX12_sets 1 = .ok (.istore 7, 2)) ∧ (decode cX12_sets 3 = .ok (.iload 7, 2)) ∧ (decode cX12_sets 5 = .ok (.iload_n 2, 1)) ∧ (decode cX12_sets 6 = .ok (.iload 4, 2)) ∧ (decode cX12_sets 8 = .ok (.iadd, 1)) ∧ (decode cX12_sets 9 = .ok (.if_icmp .ge 42, 3)) ∧ (decode cX12_sets 12 = .ok (.iload_n 3, 1)) := by decide +kernel
theorem dX12_sets_0 : decode cX12_sets 0 = .ok (.iload_n 2, 1) := zd_536.1
theorem dX12_sets_1 : decode cX12_sets 1 = .ok (.istore 7, 2) := zd_536.2.1
theorem dX12_sets_3 : decode cX12_sets 3 = .ok (.iload 7, 2) := zd_536.2.2.1
theorem dX12_sets_5 : decode cX12_sets 5 = .ok (.iload_n 2, 1) := zd_536.2.2.2.1
theorem dX12_sets_6 : decode cX12_sets 6 = .ok (.iload 4, 2) := zd_536.2.2.2.2.1
theorem dX12_sets_8 : decode cX12_sets 8 = .ok (.iadd, 1) := zd_536.2.2.2.2.2.1
theorem dX12_sets_9 : decode cX12_sets 9 = .ok (.if_icmp .ge 42, 3) := zd_536.2.2.2.2.2.2.1
theorem dX12_sets_12 : decode cX12_sets 12 = .ok (.iload_n 3, 1) := zd_536.2.2.2.2.2.2.2
theorem zd_537 : (decode cX12_sets 13 = .ok (.istore 8, 2)) ∧ (decode cX12_sets 15 = .ok (.iload 8, 2)) ∧ (decode cX12_sets 17 = .ok (.iload_n 3, 1)) ∧ (decode cX12_sets 18 = .ok (.iload 5, 2)) ∧ (decode cX12_sets 20 = .ok (.iadd, 1)) ∧ (decode cX12_sets 21 = .ok (.if_icmp .ge 24, 3)) ∧ (decode cX12_sets 24 = .ok (.aload_n 0, 1)) ∧ (decode cX12_sets 25 = .ok (.getfield 16, 3)) := by decide +kernel
theorem dX12_sets_13 : decode cX12_sets 13 = .ok (.istore 8, 2) := zd_537.1
theorem dX12_sets_15 : decode cX12_sets 15 = .ok (.iload 8, 2) := zd_537.2.1
theorem dX12_sets_17 : decode cX12_sets 17 = .ok (.iload_n 3, 1) := zd_537.2.2.1
theorem dX12_sets_18 : decode cX12_sets 18 = .ok (.iload 5, 2) := zd_537.2.2.2.1
theorem dX12_sets_20 : decode cX12_sets 20 = .ok (.iadd, 1) := zd_537.2.2.2.2.1
theorem dX12_sets_21 : decode cX12_sets 21 = .ok (.if_icmp .ge 24, 3) := zd_537.2.2.2.2.2.1
theorem dX12_sets_24 : decode cX12_sets 24 = .ok (.aload_n 0, 1) := zd_537.2.2.2.2.2.2.1
theorem dX12_sets_25 : decode cX12_sets 25 = .ok (.getfield 16, 3) := zd_537.2.2.2.2.2.2.2
theorem zd_538 : (decode cX12_sets 28 = .ok (.iload_n 1, 1)) ∧ (decode cX12_sets 29 = .ok (.iload 7, 2)) ∧ (decode cX12_sets 31 = .ok (.iload 8, 2)) ∧ (decode cX12_sets 33 = .ok (.invokestatic 161, 3)) ∧ (decode cX12_sets 36 = .ok (.iload 6, 2)) ∧ (decode cX12_sets 38 = .ok (.iastore, 1)) ∧ (decode cX12_sets 39 = .ok (.iinc 8 1, 3)) ∧ (decode cX12_sets 42 = .ok (.goto (-27), 3)) := by decide +kernel
theorem dX12_sets_28 : decode cX12_sets 28 = .ok (.iload_n 1, 1) := zd_538.1
theorem dX12_sets_29 : decode cX12_sets 29 = .ok (.iload 7, 2) := zd_538.2.1
theorem dX12_sets_31 : decode cX12_sets 31 = .ok (.iload 8, 2) := zd_538.2.2.1
theorem dX12_sets_33 : decode cX12_sets 33 = .ok (.invokestatic 161, 3) := zd_538.2.2.2.1
theorem dX12_sets_36 : decode cX12_sets 36 = .ok (.iload 6, 2) := zd_538.2.2.2.2.1
theorem dX12_sets_38 : decode cX12_sets 38 = .ok (.iastore, 1) := zd_538.2.2.2.2.2.1
theorem dX12_sets_39 : decode cX12_sets 39 = .ok (.iinc 8 1, 3) := zd_538.2.2.2.2.2.2.1
theorem dX12_sets_42 : decode cX12_sets 42 = .ok (.goto (-27), 3) := zd_538.2.2.2.2.2.2.2
theorem zd_539 : (decode cX12_sets 45 = .ok (.iinc 7 1, 3)) ∧ (decode cX12_sets 48 = .ok (.goto (-45), 3)) ∧ (decode cX12_sets 51 = .ok (.return_, 1)) := by decide +kernel
theorem dX12_sets_45 : decode cX12_sets 45 = .ok (.iinc 7 1, 3) := zd_539.1
theorem dX12_sets_48 : decode cX12_sets 48 = .ok (.goto (-45), 3) := zd_539.2.1
theorem dX12_sets_51 : decode cX12_sets 51 = .ok (.return_, 1) := zd_539.2.2
theorem zd_540 : (decode cX12_stand 0 = .ok (.bipush 6, 2)) ∧ (decode cX12_stand 2 = .ok (.iload_n 1, 1)) ∧ (decode cX12_stand 3 = .ok (.imul, 1)) ∧ (decode cX12_stand 4 = .ok (.aload_n 0, 1)) ∧ (decode cX12_stand 5 = .ok (.getfield 74, 3)) ∧ (decode cX12_stand 8 = .ok (.iload_n 1, 1)) ∧ (decode cX12_stand 9 = .ok (.iaload, 1)) ∧ (decode cX12_stand 10 = .ok (.iadd, 1)) := by decide +kernel
theorem dX12_stand_0 : decode cX12_stand 0 = .ok (.bipush 6, 2) := zd_540.1
theorem dX12_stand_2 : decode cX12_stand 2 = .ok (.iload_n 1, 1) := zd_540.2.1
theorem dX12_stand_3 : decode cX12_stand 3 = .ok (.imul, 1) := zd_540.2.2.1
theorem dX12_stand_4 : decode cX12_stand 4 = .ok (.aload_n 0, 1) := zd_540.2.2.2.1
theorem dX12_stand_5 : decode cX12_stand 5 = .ok (.getfield 74, 3) := zd_540.2.2.2.2.1
theorem dX12_stand_8 : decode cX12_stand 8 = .ok (.iload_n 1, 1) := zd_540.2.2.2.2.2.1
theorem dX12_stand_9 : decode cX12_stand 9 = .ok (.iaload, 1) := zd_540.2.2.2.2.2.2.1
theorem dX12_stand_10 : decode cX12_stand 10 = .ok (.iadd, 1) := zd_540.2.2.2.2.2.2.2
theorem zd_541 : (decode cX12_stand 11 = .ok (.istore 7, 2)) ∧ (decode cX12_stand 13 = .ok (.aload_n 0, 1)) ∧ (decode cX12_stand 14 = .ok (.getfield 77, 3)) ∧ (decode cX12_stand 17 = .ok (.iload 7, 2)) ∧ (decode cX12_stand 19 = .ok (.iload_n 2, 1)) ∧ (decode cX12_stand 20 = .ok (.iastore, 1)) ∧ (decode cX12_stand 21 = .ok (.aload_n 0, 1)) ∧ (decode cX12_stand 22 = .ok (.getfield 80, 3)) := by decide +kernel
theorem dX12_stand_11 : decode cX12_stand 11 = .ok (.istore 7, 2) := zd_541.1
theorem dX12_stand_13 : decode cX12_stand 13 = .ok (.aload_n 0, 1) := zd_541.2.1
theorem dX12_stand_14 : decode cX12_stand 14 = .ok (.getfield 77, 3) := zd_541.2.2.1
theorem dX12_stand_17 : decode cX12_stand 17 = .ok (.iload 7, 2) := zd_541.2.2.2.1
theorem dX12_stand_19 : decode cX12_stand 19 = .ok (.iload_n 2, 1) := zd_541.2.2.2.2.1
theorem dX12_stand_20 : decode cX12_stand 20 = .ok (.iastore, 1) := zd_541.2.2.2.2.2.1
theorem dX12_stand_21 : decode cX12_stand 21 = .ok (.aload_n 0, 1) := zd_541.2.2.2.2.2.2.1
theorem dX12_stand_22 : decode cX12_stand 22 = .ok (.getfield 80, 3) := zd_541.2.2.2.2.2.2.2
theorem zd_542 : (decode cX12_stand 25 = .ok (.iload 7, 2)) ∧ (decode cX12_stand 27 = .ok (.iload_n 3, 1)) ∧ (decode cX12_stand 28 = .ok (.iastore, 1)) ∧ (decode cX12_stand 29 = .ok (.aload_n 0, 1)) ∧ (decode cX12_stand 30 = .ok (.getfield 83, 3)) ∧ (decode cX12_stand 33 = .ok (.iload 7, 2)) ∧ (decode cX12_stand 35 = .ok (.iload 4, 2)) ∧ (decode cX12_stand 37 = .ok (.iastore, 1)) := by decide +kernel
theorem dX12_stand_25 : decode cX12_stand 25 = .ok (.iload 7, 2) := zd_542.1
theorem dX12_stand_27 : decode cX12_stand 27 = .ok (.iload_n 3, 1) := zd_542.2.1
theorem dX12_stand_28 : decode cX12_stand 28 = .ok (.iastore, 1) := zd_542.2.2.1
theorem dX12_stand_29 : decode cX12_stand 29 = .ok (.aload_n 0, 1) := zd_542.2.2.2.1
theorem dX12_stand_30 : decode cX12_stand 30 = .ok (.getfield 83, 3) := zd_542.2.2.2.2.1
theorem dX12_stand_33 : decode cX12_stand 33 = .ok (.iload 7, 2) := zd_542.2.2.2.2.2.1
theorem dX12_stand_35 : decode cX12_stand 35 = .ok (.iload 4, 2) := zd_542.2.2.2.2.2.2.1
theorem dX12_stand_37 : decode cX12_stand 37 = .ok (.iastore, 1) := zd_542.2.2.2.2.2.2.2
theorem zd_543 : (decode cX12_stand 38 = .ok (.aload_n 0, 1)) ∧ (decode cX12_stand 39 = .ok (.getfield 86, 3)) ∧ (decode cX12_stand 42 = .ok (.iload 7, 2)) ∧ (decode cX12_stand 44 = .ok (.iload 5, 2)) ∧ (decode cX12_stand 46 = .ok (.iastore, 1)) ∧ (decode cX12_stand 47 = .ok (.aload_n 0, 1)) ∧ (decode cX12_stand 48 = .ok (.getfield 89, 3)) ∧ (decode cX12_stand 51 = .ok (.iload 7, 2)) := by decide +kernel
theorem dX12_stand_38 : decode cX12_stand 38 = .ok (.aload_n 0, 1) := zd_543.1
theorem dX12_stand_39 : decode cX12_stand 39 = .ok (.getfield 86, 3) := zd_543.2.1
theorem dX12_stand_42 : decode cX12_stand 42 = .ok (.iload 7, 2) := zd_543.2.2.1
theorem dX12_stand_44 : decode cX12_stand 44 = .ok (.iload 5, 2) := zd_543.2.2.2.1
theorem dX12_stand_46 : decode cX12_stand 46 = .ok (.iastore, 1) := zd_543.2.2.2.2.1
theorem dX12_stand_47 : decode cX12_stand 47 = .ok (.aload_n 0, 1) := zd_543.2.2.2.2.2.1
theorem dX12_stand_48 : decode cX12_stand 48 = .ok (.getfield 89, 3) := zd_543.2.2.2.2.2.2.1
theorem dX12_stand_51 : decode cX12_stand 51 = .ok (.iload 7, 2) := zd_543.2.2.2.2.2.2.2
theorem zd_544 : (decode cX12_stand 53 = .ok (.iload 6, 2)) ∧ (decode cX12_stand 55 = .ok (.iastore, 1)) ∧ (decode cX12_stand 56 = .ok (.aload_n 0, 1)) ∧ (decode cX12_stand 57 = .ok (.getfield 74, 3)) ∧ (decode cX12_stand 60 = .ok (.iload_n 1, 1)) ∧ (decode cX12_stand 61 = .ok (.dup2, 1)) ∧ (decode cX12_stand 62 = .ok (.iaload, 1)) ∧ (decode cX12_stand 63 = .ok (.iconst 1, 1)) := by decide +kernel
theorem dX12_stand_53 : decode cX12_stand 53 = .ok (.iload 6, 2) := zd_544.1
theorem dX12_stand_55 : decode cX12_stand 55 = .ok (.iastore, 1) := zd_544.2.1
theorem dX12_stand_56 : decode cX12_stand 56 = .ok (.aload_n 0, 1) := zd_544.2.2.1
theorem dX12_stand_57 : decode cX12_stand 57 = .ok (.getfield 74, 3) := zd_544.2.2.2.1
theorem dX12_stand_60 : decode cX12_stand 60 = .ok (.iload_n 1, 1) := zd_544.2.2.2.2.1
theorem dX12_stand_61 : decode cX12_stand 61 = .ok (.dup2, 1) := zd_544.2.2.2.2.2.1
theorem dX12_stand_62 : decode cX12_stand 62 = .ok (.iaload, 1) := zd_544.2.2.2.2.2.2.1
theorem dX12_stand_63 : decode cX12_stand 63 = .ok (.iconst 1, 1) := zd_544.2.2.2.2.2.2.2
theorem zd_545 : (decode cX12_stand 64 = .ok (.iadd, 1)) ∧ (decode cX12_stand 65 = .ok (.iastore, 1)) ∧ (decode cX12_stand 66 = .ok (.aload_n 0, 1)) ∧ (decode cX12_stand 67 = .ok (.iload_n 2, 1)) ∧ (decode cX12_stand 68 = .ok (.iload_n 3, 1)) ∧ (decode cX12_stand 69 = .ok (.iload 4, 2)) ∧ (decode cX12_stand 71 = .ok (.iload 5, 2)) ∧ (decode cX12_stand 73 = .ok (.iload 6, 2)) := by decide +kernel
theorem dX12_stand_64 : decode cX12_stand 64 = .ok (.iadd, 1) := zd_545.1
theorem dX12_stand_65 : decode cX12_stand 65 = .ok (.iastore, 1) := zd_545.2.1
theorem dX12_stand_66 : decode cX12_stand 66 = .ok (.aload_n 0, 1) := zd_545.2.2.1
theorem dX12_stand_67 : decode cX12_stand 67 = .ok (.iload_n 2, 1) := zd_545.2.2.2.1
theorem dX12_stand_68 : decode cX12_stand 68 = .ok (.iload_n 3, 1) := zd_545.2.2.2.2.1
theorem dX12_stand_69 : decode cX12_stand 69 = .ok (.iload 4, 2) := zd_545.2.2.2.2.2.1
theorem dX12_stand_71 : decode cX12_stand 71 = .ok (.iload 5, 2) := zd_545.2.2.2.2.2.2.1
theorem dX12_stand_73 : decode cX12_stand 73 = .ok (.iload 6, 2) := zd_545.2.2.2.2.2.2.2
theorem zd_546 : (decode cX12_stand 75 = .ok (.iload_n 1, 1)) ∧ (decode cX12_stand 76 = .ok (.invokevirtual 192, 3)) ∧ (decode cX12_stand 79 = .ok (.return_, 1)) := by decide +kernel
theorem dX12_stand_75 : decode cX12_stand 75 = .ok (.iload_n 1, 1) := zd_546.1
theorem dX12_stand_76 : decode cX12_stand 76 = .ok (.invokevirtual 192, 3) := zd_546.2.1
theorem dX12_stand_79 : decode cX12_stand 79 = .ok (.return_, 1) := zd_546.2.2
theorem zd_547 : (decode cX12_unstand 0 = .ok (.aload_n 0, 1)) ∧ (decode cX12_unstand 1 = .ok (.getfield 74, 3)) ∧ (decode cX12_unstand 4 = .ok (.iload_n 1, 1)) ∧ (decode cX12_unstand 5 = .ok (.dup2, 1)) ∧ (decode cX12_unstand 6 = .ok (.iaload, 1)) ∧ (decode cX12_unstand 7 = .ok (.iconst 1, 1)) ∧ (decode cX12_unstand 8 = .ok (.isub, 1)) ∧ (decode cX12_unstand 9 = .ok (.iastore, 1)) := by decide +kernel
theorem dX12_unstand_0 : decode cX12_unstand 0 = .ok (.aload_n 0, 1) := zd_547.1
theorem dX12_unstand_1 : decode cX12_unstand 1 = .ok (.getfield 74, 3) := zd_547.2.1
theorem dX12_unstand_4 : decode cX12_unstand 4 = .ok (.iload_n 1, 1) := zd_547.2.2.1
theorem dX12_unstand_5 : decode cX12_unstand 5 = .ok (.dup2, 1) := zd_547.2.2.2.1
theorem dX12_unstand_6 : decode cX12_unstand 6 = .ok (.iaload, 1) := zd_547.2.2.2.2.1
theorem dX12_unstand_7 : decode cX12_unstand 7 = .ok (.iconst 1, 1) := zd_547.2.2.2.2.2.1
theorem dX12_unstand_8 : decode cX12_unstand 8 = .ok (.isub, 1) := zd_547.2.2.2.2.2.2.1
theorem dX12_unstand_9 : decode cX12_unstand 9 = .ok (.iastore, 1) := zd_547.2.2.2.2.2.2.2
theorem zd_548 : (decode cX12_unstand 10 = .ok (.bipush 6, 2)) ∧ (decode cX12_unstand 12 = .ok (.iload_n 1, 1)) ∧ (decode cX12_unstand 13 = .ok (.imul, 1)) ∧ (decode cX12_unstand 14 = .ok (.aload_n 0, 1)) ∧ (decode cX12_unstand 15 = .ok (.getfield 74, 3)) ∧ (decode cX12_unstand 18 = .ok (.iload_n 1, 1)) ∧ (decode cX12_unstand 19 = .ok (.iaload, 1)) ∧ (decode cX12_unstand 20 = .ok (.iadd, 1)) := by decide +kernel
theorem dX12_unstand_10 : decode cX12_unstand 10 = .ok (.bipush 6, 2) := zd_548.1
theorem dX12_unstand_12 : decode cX12_unstand 12 = .ok (.iload_n 1, 1) := zd_548.2.1
theorem dX12_unstand_13 : decode cX12_unstand 13 = .ok (.imul, 1) := zd_548.2.2.1
theorem dX12_unstand_14 : decode cX12_unstand 14 = .ok (.aload_n 0, 1) := zd_548.2.2.2.1
theorem dX12_unstand_15 : decode cX12_unstand 15 = .ok (.getfield 74, 3) := zd_548.2.2.2.2.1
theorem dX12_unstand_18 : decode cX12_unstand 18 = .ok (.iload_n 1, 1) := zd_548.2.2.2.2.2.1
theorem dX12_unstand_19 : decode cX12_unstand 19 = .ok (.iaload, 1) := zd_548.2.2.2.2.2.2.1
theorem dX12_unstand_20 : decode cX12_unstand 20 = .ok (.iadd, 1) := zd_548.2.2.2.2.2.2.2
theorem zd_549 : (decode cX12_unstand 21 = .ok (.istore_n 2, 1)) ∧ (decode cX12_unstand 22 = .ok (.aload_n 0, 1)) ∧ (decode cX12_unstand 23 = .ok (.aload_n 0, 1)) ∧ (decode cX12_unstand 24 = .ok (.getfield 77, 3)) ∧ (decode cX12_unstand 27 = .ok (.iload_n 2, 1)) ∧ (decode cX12_unstand 28 = .ok (.iaload, 1)) ∧ (decode cX12_unstand 29 = .ok (.aload_n 0, 1)) ∧ (decode cX12_unstand 30 = .ok (.getfield 80, 3)) := by decide +kernel
theorem dX12_unstand_21 : decode cX12_unstand 21 = .ok (.istore_n 2, 1) := zd_549.1
theorem dX12_unstand_22 : decode cX12_unstand 22 = .ok (.aload_n 0, 1) := zd_549.2.1
theorem dX12_unstand_23 : decode cX12_unstand 23 = .ok (.aload_n 0, 1) := zd_549.2.2.1
theorem dX12_unstand_24 : decode cX12_unstand 24 = .ok (.getfield 77, 3) := zd_549.2.2.2.1
theorem dX12_unstand_27 : decode cX12_unstand 27 = .ok (.iload_n 2, 1) := zd_549.2.2.2.2.1
theorem dX12_unstand_28 : decode cX12_unstand 28 = .ok (.iaload, 1) := zd_549.2.2.2.2.2.1
theorem dX12_unstand_29 : decode cX12_unstand 29 = .ok (.aload_n 0, 1) := zd_549.2.2.2.2.2.2.1
theorem dX12_unstand_30 : decode cX12_unstand 30 = .ok (.getfield 80, 3) := zd_549.2.2.2.2.2.2.2
theorem zd_550 : (decode cX12_unstand 33 = .ok (.iload_n 2, 1)) ∧ (decode cX12_unstand 34 = .ok (.iaload, 1)) ∧ (decode cX12_unstand 35 = .ok (.aload_n 0, 1)) ∧ (decode cX12_unstand 36 = .ok (.getfield 83, 3)) ∧ (decode cX12_unstand 39 = .ok (.iload_n 2, 1)) ∧ (decode cX12_unstand 40 = .ok (.iaload, 1)) ∧ (decode cX12_unstand 41 = .ok (.aload_n 0, 1)) ∧ (decode cX12_unstand 42 = .ok (.getfield 86, 3)) := by decide +kernel
theorem dX12_unstand_33 : decode cX12_unstand 33 = .ok (.iload_n 2, 1) := zd_550.1
theorem dX12_unstand_34 : decode cX12_unstand 34 = .ok (.iaload, 1) := zd_550.2.1
theorem dX12_unstand_35 : decode cX12_unstand 35 = .ok (.aload_n 0, 1) := zd_550.2.2.1
theorem dX12_unstand_36 : decode cX12_unstand 36 = .ok (.getfield 83, 3) := zd_550.2.2.2.1
theorem dX12_unstand_39 : decode cX12_unstand 39 = .ok (.iload_n 2, 1) := zd_550.2.2.2.2.1
theorem dX12_unstand_40 : decode cX12_unstand 40 = .ok (.iaload, 1) := zd_550.2.2.2.2.2.1
theorem dX12_unstand_41 : decode cX12_unstand 41 = .ok (.aload_n 0, 1) := zd_550.2.2.2.2.2.2.1
theorem dX12_unstand_42 : decode cX12_unstand 42 = .ok (.getfield 86, 3) := zd_550.2.2.2.2.2.2.2
theorem zd_551 : (decode cX12_unstand 45 = .ok (.iload_n 2, 1)) ∧ (decode cX12_unstand 46 = .ok (.iaload, 1)) ∧ (decode cX12_unstand 47 = .ok (.aload_n 0, 1)) ∧ (decode cX12_unstand 48 = .ok (.getfield 89, 3)) ∧ (decode cX12_unstand 51 = .ok (.iload_n 2, 1)) ∧ (decode cX12_unstand 52 = .ok (.iaload, 1)) ∧ (decode cX12_unstand 53 = .ok (.bipush (-2), 2)) ∧ (decode cX12_unstand 55 = .ok (.invokevirtual 192, 3)) := by decide +kernel
theorem dX12_unstand_45 : decode cX12_unstand 45 = .ok (.iload_n 2, 1) := zd_551.1
theorem dX12_unstand_46 : decode cX12_unstand 46 = .ok (.iaload, 1) := zd_551.2.1
theorem dX12_unstand_47 : decode cX12_unstand 47 = .ok (.aload_n 0, 1) := zd_551.2.2.1
theorem dX12_unstand_48 : decode cX12_unstand 48 = .ok (.getfield 89, 3) := zd_551.2.2.2.1
theorem dX12_unstand_51 : decode cX12_unstand 51 = .ok (.iload_n 2, 1) := zd_551.2.2.2.2.1
theorem dX12_unstand_52 : decode cX12_unstand 52 = .ok (.iaload, 1) := zd_551.2.2.2.2.2.1
theorem dX12_unstand_53 : decode cX12_unstand 53 = .ok (.bipush (-2), 2) := zd_551.2.2.2.2.2.2.1
theorem dX12_unstand_55 : decode cX12_unstand 55 = .ok (.invokevirtual 192, 3) := zd_551.2.2.2.2.2.2.2
theorem dX12_unstand_58 : decode cX12_unstand 58 = .ok (.return_, 1) := by decide +kernel
theorem zd_552 : (decode cX12_mayRun 0 = .ok (.aload_n 0, 1)) ∧ (decode cX12_mayRun 1 = .ok (.getfield 74, 3)) ∧ (decode cX12_mayRun 4 = .ok (.iload_n 1, 1)) ∧ (decode cX12_mayRun 5 = .ok (.iaload, 1)) ∧ (decode cX12_mayRun 6 = .ok (.bipush 6, 2)) ∧ (decode cX12_mayRun 8 = .ok (.if_icmp .ne 5, 3)) ∧ (decode cX12_mayRun 11 = .ok (.iconst 0, 1)) ∧ (decode cX12_mayRun 12 = .ok (.ireturn, 1)) := by decide +kernel
theorem dX12_mayRun_0 : decode cX12_mayRun 0 = .ok (.aload_n 0, 1) := zd_552.1
theorem dX12_mayRun_1 : decode cX12_mayRun 1 = .ok (.getfield 74, 3) := zd_552.2.1
theorem dX12_mayRun_4 : decode cX12_mayRun 4 = .ok (.iload_n 1, 1) := zd_552.2.2.1
theorem dX12_mayRun_5 : decode cX12_mayRun 5 = .ok (.iaload, 1) := zd_552.2.2.2.1
theorem dX12_mayRun_6 : decode cX12_mayRun 6 = .ok (.bipush 6, 2) := zd_552.2.2.2.2.1
theorem dX12_mayRun_8 : decode cX12_mayRun 8 = .ok (.if_icmp .ne 5, 3) := zd_552.2.2.2.2.2.1
theorem dX12_mayRun_11 : decode cX12_mayRun 11 = .ok (.iconst 0, 1) := zd_552.2.2.2.2.2.2.1
theorem dX12_mayRun_12 : decode cX12_mayRun 12 = .ok (.ireturn, 1) := zd_552.2.2.2.2.2.2.2
theorem zd_553 : (decode cX12_mayRun 13 = .ok (.aload_n 0, 1)) ∧ (decode cX12_mayRun 14 = .ok (.getfield 74, 3)) ∧ (decode cX12_mayRun 17 = .ok (.iload_n 1, 1)) ∧ (decode cX12_mayRun 18 = .ok (.iaload, 1)) ∧ (decode cX12_mayRun 19 = .ok (.ifCond .le 96, 3)) ∧ (decode cX12_mayRun 22 = .ok (.bipush 6, 2)) ∧ (decode cX12_mayRun 24 = .ok (.iload_n 1, 1)) ∧ (decode cX12_mayRun 25 = .ok (.imul, 1)) := by decide +kernel
theorem dX12_mayRun_13 : decode cX12_mayRun 13 = .ok (.aload_n 0, 1) := zd_553.1
theorem dX12_mayRun_14 : decode cX12_mayRun 14 = .ok (.getfield 74, 3) := zd_553.2.1
theorem dX12_mayRun_17 : decode cX12_mayRun 17 = .ok (.iload_n 1, 1) := zd_553.2.2.1
theorem dX12_mayRun_18 : decode cX12_mayRun 18 = .ok (.iaload, 1) := zd_553.2.2.2.1
theorem dX12_mayRun_19 : decode cX12_mayRun 19 = .ok (.ifCond .le 96, 3) := zd_553.2.2.2.2.1
theorem dX12_mayRun_22 : decode cX12_mayRun 22 = .ok (.bipush 6, 2) := zd_553.2.2.2.2.2.1
theorem dX12_mayRun_24 : decode cX12_mayRun 24 = .ok (.iload_n 1, 1) := zd_553.2.2.2.2.2.2.1
theorem dX12_mayRun_25 : decode cX12_mayRun 25 = .ok (.imul, 1) := zd_553.2.2.2.2.2.2.2
theorem zd_554 : (decode cX12_mayRun 26 = .ok (.aload_n 0, 1)) ∧ (decode cX12_mayRun 27 = .ok (.getfield 74, 3)) ∧ (decode cX12_mayRun 30 = .ok (.iload_n 1, 1)) ∧ (decode cX12_mayRun 31 = .ok (.iaload, 1)) ∧ (decode cX12_mayRun 32 = .ok (.iadd, 1)) ∧ (decode cX12_mayRun 33 = .ok (.iconst 1, 1)) ∧ (decode cX12_mayRun 34 = .ok (.isub, 1)) ∧ (decode cX12_mayRun 35 = .ok (.istore 6, 2)) := by decide +kernel
theorem dX12_mayRun_26 : decode cX12_mayRun 26 = .ok (.aload_n 0, 1) := zd_554.1
theorem dX12_mayRun_27 : decode cX12_mayRun 27 = .ok (.getfield 74, 3) := zd_554.2.1
theorem dX12_mayRun_30 : decode cX12_mayRun 30 = .ok (.iload_n 1, 1) := zd_554.2.2.1
theorem dX12_mayRun_31 : decode cX12_mayRun 31 = .ok (.iaload, 1) := zd_554.2.2.2.1
theorem dX12_mayRun_32 : decode cX12_mayRun 32 = .ok (.iadd, 1) := zd_554.2.2.2.2.1
theorem dX12_mayRun_33 : decode cX12_mayRun 33 = .ok (.iconst 1, 1) := zd_554.2.2.2.2.2.1
theorem dX12_mayRun_34 : decode cX12_mayRun 34 = .ok (.isub, 1) := zd_554.2.2.2.2.2.2.1
theorem dX12_mayRun_35 : decode cX12_mayRun 35 = .ok (.istore 6, 2) := zd_554.2.2.2.2.2.2.2
theorem zd_555 : (decode cX12_mayRun 37 = .ok (.iload_n 2, 1)) ∧ (decode cX12_mayRun 38 = .ok (.aload_n 0, 1)) ∧ (decode cX12_mayRun 39 = .ok (.getfield 77, 3)) ∧ (decode cX12_mayRun 42 = .ok (.iload 6, 2)) ∧ (decode cX12_mayRun 44 = .ok (.iaload, 1)) ∧ (decode cX12_mayRun 45 = .ok (.if_icmp .gt 56, 3)) ∧ (decode cX12_mayRun 48 = .ok (.iload_n 2, 1)) ∧ (decode cX12_mayRun 49 = .ok (.aload_n 0, 1)) := by decide +kernel
theorem dX12_mayRun_37 : decode cX12_mayRun 37 = .ok (.iload_n 2, 1) := zd_555.1
theorem dX12_mayRun_38 : decode cX12_mayRun 38 = .ok (.aload_n 0, 1) := zd_555.2.1
theorem dX12_mayRun_39 : decode cX12_mayRun 39 = .ok (.getfield 77, 3) := zd_555.2.2.1
theorem dX12_mayRun_42 : decode cX12_mayRun 42 = .ok (.iload 6, 2) := zd_555.2.2.2.1
theorem dX12_mayRun_44 : decode cX12_mayRun 44 = .ok (.iaload, 1) := zd_555.2.2.2.2.1
theorem dX12_mayRun_45 : decode cX12_mayRun 45 = .ok (.if_icmp .gt 56, 3) := zd_555.2.2.2.2.2.1
theorem dX12_mayRun_48 : decode cX12_mayRun 48 = .ok (.iload_n 2, 1) := zd_555.2.2.2.2.2.2.1
theorem dX12_mayRun_49 : decode cX12_mayRun 49 = .ok (.aload_n 0, 1) := zd_555.2.2.2.2.2.2.2
theorem zd_556 : (decode cX12_mayRun 50 = .ok (.getfield 77, 3)) ∧ (decode cX12_mayRun 53 = .ok (.iload 6, 2)) ∧ (decode cX12_mayRun 55 = .ok (.iaload, 1)) ∧ (decode cX12_mayRun 56 = .ok (.if_icmp .ne 49, 3)) ∧ (decode cX12_mayRun 59 = .ok (.iload_n 3, 1)) ∧ (decode cX12_mayRun 60 = .ok (.aload_n 0, 1)) ∧ (decode cX12_mayRun 61 = .ok (.getfield 80, 3)) ∧ (decode cX12_mayRun 64 = .ok (.iload 6, 2)) := by decide +kernel
theorem dX12_mayRun_50 : decode cX12_mayRun 50 = .ok (.getfield 77, 3) := zd_556.1
theorem dX12_mayRun_53 : decode cX12_mayRun 53 = .ok (.iload 6, 2) := zd_556.2.1
theorem dX12_mayRun_55 : decode cX12_mayRun 55 = .ok (.iaload, 1) := zd_556.2.2.1
theorem dX12_mayRun_56 : decode cX12_mayRun 56 = .ok (.if_icmp .ne 49, 3) := zd_556.2.2.2.1
theorem dX12_mayRun_59 : decode cX12_mayRun 59 = .ok (.iload_n 3, 1) := zd_556.2.2.2.2.1
theorem dX12_mayRun_60 : decode cX12_mayRun 60 = .ok (.aload_n 0, 1) := zd_556.2.2.2.2.2.1
theorem dX12_mayRun_61 : decode cX12_mayRun 61 = .ok (.getfield 80, 3) := zd_556.2.2.2.2.2.2.1
theorem dX12_mayRun_64 : decode cX12_mayRun 64 = .ok (.iload 6, 2) := zd_556.2.2.2.2.2.2.2
theorem zd_557 : (decode cX12_mayRun 66 = .ok (.iaload, 1)) ∧ (decode cX12_mayRun 67 = .ok (.if_icmp .gt 34, 3)) ∧ (decode cX12_mayRun 70 = .ok (.iload_n 3, 1)) ∧ (decode cX12_mayRun 71 = .ok (.aload_n 0, 1)) ∧ (decode cX12_mayRun 72 = .ok (.getfield 80, 3)) ∧ (decode cX12_mayRun 75 = .ok (.iload 6, 2)) ∧ (decode cX12_mayRun 77 = .ok (.iaload, 1)) ∧ (decode cX12_mayRun 78 = .ok (.if_icmp .ne 27, 3)) := by decide +kernel
theorem dX12_mayRun_66 : decode cX12_mayRun 66 = .ok (.iaload, 1) := zd_557.1
theorem dX12_mayRun_67 : decode cX12_mayRun 67 = .ok (.if_icmp .gt 34, 3) := zd_557.2.1
theorem dX12_mayRun_70 : decode cX12_mayRun 70 = .ok (.iload_n 3, 1) := zd_557.2.2.1
theorem dX12_mayRun_71 : decode cX12_mayRun 71 = .ok (.aload_n 0, 1) := zd_557.2.2.2.1
theorem dX12_mayRun_72 : decode cX12_mayRun 72 = .ok (.getfield 80, 3) := zd_557.2.2.2.2.1
theorem dX12_mayRun_75 : decode cX12_mayRun 75 = .ok (.iload 6, 2) := zd_557.2.2.2.2.2.1
theorem dX12_mayRun_77 : decode cX12_mayRun 77 = .ok (.iaload, 1) := zd_557.2.2.2.2.2.2.1
theorem dX12_mayRun_78 : decode cX12_mayRun 78 = .ok (.if_icmp .ne 27, 3) := zd_557.2.2.2.2.2.2.2
theorem zd_558 : (decode cX12_mayRun 81 = .ok (.iload 4, 2)) ∧ (decode cX12_mayRun 83 = .ok (.aload_n 0, 1)) ∧ (decode cX12_mayRun 84 = .ok (.getfield 83, 3)) ∧ (decode cX12_mayRun 87 = .ok (.iload 6, 2)) ∧ (decode cX12_mayRun 89 = .ok (.iaload, 1)) ∧ (decode cX12_mayRun 90 = .ok (.aload_n 0, 1)) ∧ (decode cX12_mayRun 91 = .ok (.getfield 89, 3)) ∧ (decode cX12_mayRun 94 = .ok (.iload 6, 2)) := by decide +kernel
theorem dX12_mayRun_81 : decode cX12_mayRun 81 = .ok (.iload 4, 2) := zd_558.1
theorem dX12_mayRun_83 : decode cX12_mayRun 83 = .ok (.aload_n 0, 1) := zd_558.2.1
theorem dX12_mayRun_84 : decode cX12_mayRun 84 = .ok (.getfield 83, 3) := zd_558.2.2.1
theorem dX12_mayRun_87 : decode cX12_mayRun 87 = .ok (.iload 6, 2) := zd_558.2.2.2.1
theorem dX12_mayRun_89 : decode cX12_mayRun 89 = .ok (.iaload, 1) := zd_558.2.2.2.2.1
theorem dX12_mayRun_90 : decode cX12_mayRun 90 = .ok (.aload_n 0, 1) := zd_558.2.2.2.2.2.1
theorem dX12_mayRun_91 : decode cX12_mayRun 91 = .ok (.getfield 89, 3) := zd_558.2.2.2.2.2.2.1
theorem dX12_mayRun_94 : decode cX12_mayRun 94 = .ok (.iload 6, 2) := zd_558.2.2.2.2.2.2.2
theorem zd_559 : (decode cX12_mayRun 96 = .ok (.iaload, 1)) ∧ (decode cX12_mayRun 97 = .ok (.iadd, 1)) ∧ (decode cX12_mayRun 98 = .ok (.if_icmp .lt 7, 3)) ∧ (decode cX12_mayRun 101 = .ok (.iconst 1, 1)) ∧ (decode cX12_mayRun 102 = .ok (.goto 4, 3)) ∧ (decode cX12_mayRun 105 = .ok (.iconst 0, 1)) ∧ (decode cX12_mayRun 106 = .ok (.istore 7, 2)) ∧ (decode cX12_mayRun 108 = .ok (.iload 7, 2)) := by decide +kernel
theorem dX12_mayRun_96 : decode cX12_mayRun 96 = .ok (.iaload, 1) := zd_559.1
theorem dX12_mayRun_97 : decode cX12_mayRun 97 = .ok (.iadd, 1) := zd_559.2.1
theorem dX12_mayRun_98 : decode cX12_mayRun 98 = .ok (.if_icmp .lt 7, 3) := zd_559.2.2.1
theorem dX12_mayRun_101 : decode cX12_mayRun 101 = .ok (.iconst 1, 1) := zd_559.2.2.2.1
theorem dX12_mayRun_102 : decode cX12_mayRun 102 = .ok (.goto 4, 3) := zd_559.2.2.2.2.1
theorem dX12_mayRun_105 : decode cX12_mayRun 105 = .ok (.iconst 0, 1) := zd_559.2.2.2.2.2.1
theorem dX12_mayRun_106 : decode cX12_mayRun 106 = .ok (.istore 7, 2) := zd_559.2.2.2.2.2.2.1
theorem dX12_mayRun_108 : decode cX12_mayRun 108 = .ok (.iload 7, 2) := zd_559.2.2.2.2.2.2.2
theorem zd_560 : (decode cX12_mayRun 110 = .ok (.ifCond .ne 5, 3)) ∧ (decode cX12_mayRun 113 = .ok (.iconst 0, 1)) ∧ (decode cX12_mayRun 114 = .ok (.ireturn, 1)) ∧ (decode cX12_mayRun 115 = .ok (.aload_n 0, 1)) ∧ (decode cX12_mayRun 116 = .ok (.iload_n 1, 1)) ∧ (decode cX12_mayRun 117 = .ok (.iload_n 2, 1)) ∧ (decode cX12_mayRun 118 = .ok (.iload_n 3, 1)) ∧ (decode cX12_mayRun 119 = .ok (.iload 4, 2)) := by decide +kernel
theorem dX12_mayRun_110 : decode cX12_mayRun 110 = .ok (.ifCond .ne 5, 3) := zd_560.1
theorem dX12_mayRun_113 : decode cX12_mayRun 113 = .ok (.iconst 0, 1) := zd_560.2.1
theorem dX12_mayRun_114 : decode cX12_mayRun 114 = .ok (.ireturn, 1) := zd_560.2.2.1
theorem dX12_mayRun_115 : decode cX12_mayRun 115 = .ok (.aload_n 0, 1) := zd_560.2.2.2.1
theorem dX12_mayRun_116 : decode cX12_mayRun 116 = .ok (.iload_n 1, 1) := zd_560.2.2.2.2.1
theorem dX12_mayRun_117 : decode cX12_mayRun 117 = .ok (.iload_n 2, 1) := zd_560.2.2.2.2.2.1
theorem dX12_mayRun_118 : decode cX12_mayRun 118 = .ok (.iload_n 3, 1) := zd_560.2.2.2.2.2.2.1
theorem dX12_mayRun_119 : decode cX12_mayRun 119 = .ok (.iload 4, 2) := zd_560.2.2.2.2.2.2.2
theorem zd_561 : (decode cX12_mayRun 121 = .ok (.iconst 1, 1)) ∧ (decode cX12_mayRun 122 = .ok (.iload 5, 2)) ∧ (decode cX12_mayRun 124 = .ok (.invokevirtual 196, 3)) ∧ (decode cX12_mayRun 127 = .ok (.aload_n 0, 1)) ∧ (decode cX12_mayRun 128 = .ok (.getfield 74, 3)) ∧ (decode cX12_mayRun 131 = .ok (.iload_n 1, 1)) ∧ (decode cX12_mayRun 132 = .ok (.iaload, 1)) ∧ (decode cX12_mayRun 133 = .ok (.iconst 1, 1)) := by decide +kernel
theorem dX12_mayRun_121 : decode cX12_mayRun 121 = .ok (.iconst 1, 1) := zd_561.1
theorem dX12_mayRun_122 : decode cX12_mayRun 122 = .ok (.iload 5, 2) := zd_561.2.1
theorem dX12_mayRun_124 : decode cX12_mayRun 124 = .ok (.invokevirtual 196, 3) := zd_561.2.2.1
theorem dX12_mayRun_127 : decode cX12_mayRun 127 = .ok (.aload_n 0, 1) := zd_561.2.2.2.1
theorem dX12_mayRun_128 : decode cX12_mayRun 128 = .ok (.getfield 74, 3) := zd_561.2.2.2.2.1
theorem dX12_mayRun_131 : decode cX12_mayRun 131 = .ok (.iload_n 1, 1) := zd_561.2.2.2.2.2.1
theorem dX12_mayRun_132 : decode cX12_mayRun 132 = .ok (.iaload, 1) := zd_561.2.2.2.2.2.2.1
theorem dX12_mayRun_133 : decode cX12_mayRun 133 = .ok (.iconst 1, 1) := zd_561.2.2.2.2.2.2.2
theorem zd_562 : (decode cX12_mayRun 134 = .ok (.isub, 1)) ∧ (decode cX12_mayRun 135 = .ok (.istore 6, 2)) ∧ (decode cX12_mayRun 137 = .ok (.aload_n 0, 1)) ∧ (decode cX12_mayRun 138 = .ok (.iload_n 1, 1)) ∧ (decode cX12_mayRun 139 = .ok (.iload 6, 2)) ∧ (decode cX12_mayRun 141 = .ok (.invokevirtual 186, 3)) ∧ (decode cX12_mayRun 144 = .ok (.iconst 1, 1)) ∧ (decode cX12_mayRun 145 = .ok (.if_icmp .lt 25, 3)) := by decide +kernel
theorem dX12_mayRun_134 : decode cX12_mayRun 134 = .ok (.isub, 1) := zd_562.1
theorem dX12_mayRun_135 : decode cX12_mayRun 135 = .ok (.istore 6, 2) := zd_562.2.1
theorem dX12_mayRun_137 : decode cX12_mayRun 137 = .ok (.aload_n 0, 1) := zd_562.2.2.1
theorem dX12_mayRun_138 : decode cX12_mayRun 138 = .ok (.iload_n 1, 1) := zd_562.2.2.2.1
theorem dX12_mayRun_139 : decode cX12_mayRun 139 = .ok (.iload 6, 2) := zd_562.2.2.2.2.1
theorem dX12_mayRun_141 : decode cX12_mayRun 141 = .ok (.invokevirtual 186, 3) := zd_562.2.2.2.2.2.1
theorem dX12_mayRun_144 : decode cX12_mayRun 144 = .ok (.iconst 1, 1) := zd_562.2.2.2.2.2.2.1
theorem dX12_mayRun_145 : decode cX12_mayRun 145 = .ok (.if_icmp .lt 25, 3) := zd_562.2.2.2.2.2.2.2
theorem zd_563 : (decode cX12_mayRun 148 = .ok (.iload 6, 2)) ∧ (decode cX12_mayRun 150 = .ok (.ifCond .eq 16, 3)) ∧ (decode cX12_mayRun 153 = .ok (.aload_n 0, 1)) ∧ (decode cX12_mayRun 154 = .ok (.iload_n 1, 1)) ∧ (decode cX12_mayRun 155 = .ok (.iload 6, 2)) ∧ (decode cX12_mayRun 157 = .ok (.iconst 1, 1)) ∧ (decode cX12_mayRun 158 = .ok (.isub, 1)) ∧ (decode cX12_mayRun 159 = .ok (.invokevirtual 186, 3)) := by decide +kernel
theorem dX12_mayRun_148 : decode cX12_mayRun 148 = .ok (.iload 6, 2) := zd_563.1
theorem dX12_mayRun_150 : decode cX12_mayRun 150 = .ok (.ifCond .eq 16, 3) := zd_563.2.1
theorem dX12_mayRun_153 : decode cX12_mayRun 153 = .ok (.aload_n 0, 1) := zd_563.2.2.1
theorem dX12_mayRun_154 : decode cX12_mayRun 154 = .ok (.iload_n 1, 1) := zd_563.2.2.2.1
theorem dX12_mayRun_155 : decode cX12_mayRun 155 = .ok (.iload 6, 2) := zd_563.2.2.2.2.1
theorem dX12_mayRun_157 : decode cX12_mayRun 157 = .ok (.iconst 1, 1) := zd_563.2.2.2.2.2.1
theorem dX12_mayRun_158 : decode cX12_mayRun 158 = .ok (.isub, 1) := zd_563.2.2.2.2.2.2.1
theorem dX12_mayRun_159 : decode cX12_mayRun 159 = .ok (.invokevirtual 186, 3) := zd_563.2.2.2.2.2.2.2
theorem zd_564 : (decode cX12_mayRun 162 = .ok (.iconst 1, 1)) ∧ (decode cX12_mayRun 163 = .ok (.if_icmp .lt 7, 3)) ∧ (decode cX12_mayRun 166 = .ok (.iconst 1, 1)) ∧ (decode cX12_mayRun 167 = .ok (.goto 4, 3)) ∧ (decode cX12_mayRun 170 = .ok (.iconst 0, 1)) ∧ (decode cX12_mayRun 171 = .ok (.istore 7, 2)) ∧ (decode cX12_mayRun 173 = .ok (.aload_n 0, 1)) ∧ (decode cX12_mayRun 174 = .ok (.iload_n 1, 1)) := by decide +kernel
theorem dX12_mayRun_162 : decode cX12_mayRun 162 = .ok (.iconst 1, 1) := zd_564.1
theorem dX12_mayRun_163 : decode cX12_mayRun 163 = .ok (.if_icmp .lt 7, 3) := zd_564.2.1
theorem dX12_mayRun_166 : decode cX12_mayRun 166 = .ok (.iconst 1, 1) := zd_564.2.2.1
theorem dX12_mayRun_167 : decode cX12_mayRun 167 = .ok (.goto 4, 3) := zd_564.2.2.2.1
theorem dX12_mayRun_170 : decode cX12_mayRun 170 = .ok (.iconst 0, 1) := zd_564.2.2.2.2.1
theorem dX12_mayRun_171 : decode cX12_mayRun 171 = .ok (.istore 7, 2) := zd_564.2.2.2.2.2.1
theorem dX12_mayRun_173 : decode cX12_mayRun 173 = .ok (.aload_n 0, 1) := zd_564.2.2.2.2.2.2.1
theorem dX12_mayRun_174 : decode cX12_mayRun 174 = .ok (.iload_n 1, 1) := zd_564.2.2.2.2.2.2.2
theorem zd_565 : (decode cX12_mayRun 175 = .ok (.iload 6, 2)) ∧ (decode cX12_mayRun 177 = .ok (.invokevirtual 199, 3)) ∧ (decode cX12_mayRun 180 = .ok (.istore 8, 2)) ∧ (decode cX12_mayRun 182 = .ok (.iload 7, 2)) ∧ (decode cX12_mayRun 184 = .ok (.ifCond .eq 26, 3)) ∧ (decode cX12_mayRun 187 = .ok (.iload 8, 2)) ∧ (decode cX12_mayRun 189 = .ok (.aload_n 0, 1)) ∧ (decode cX12_mayRun 190 = .ok (.iload_n 1, 1)) := by decide +kernel
theorem dX12_mayRun_175 : decode cX12_mayRun 175 = .ok (.iload 6, 2) := zd_565.1
theorem dX12_mayRun_177 : decode cX12_mayRun 177 = .ok (.invokevirtual 199, 3) := zd_565.2.1
theorem dX12_mayRun_180 : decode cX12_mayRun 180 = .ok (.istore 8, 2) := zd_565.2.2.1
theorem dX12_mayRun_182 : decode cX12_mayRun 182 = .ok (.iload 7, 2) := zd_565.2.2.2.1
theorem dX12_mayRun_184 : decode cX12_mayRun 184 = .ok (.ifCond .eq 26, 3) := zd_565.2.2.2.2.1
theorem dX12_mayRun_187 : decode cX12_mayRun 187 = .ok (.iload 8, 2) := zd_565.2.2.2.2.2.1
theorem dX12_mayRun_189 : decode cX12_mayRun 189 = .ok (.aload_n 0, 1) := zd_565.2.2.2.2.2.2.1
theorem dX12_mayRun_190 : decode cX12_mayRun 190 = .ok (.iload_n 1, 1) := zd_565.2.2.2.2.2.2.2
theorem zd_566 : (decode cX12_mayRun 191 = .ok (.iload 6, 2)) ∧ (decode cX12_mayRun 193 = .ok (.invokevirtual 186, 3)) ∧ (decode cX12_mayRun 196 = .ok (.iadd, 1)) ∧ (decode cX12_mayRun 197 = .ok (.aload_n 0, 1)) ∧ (decode cX12_mayRun 198 = .ok (.getfield 52, 3)) ∧ (decode cX12_mayRun 201 = .ok (.iload_n 1, 1)) ∧ (decode cX12_mayRun 202 = .ok (.iaload, 1)) ∧ (decode cX12_mayRun 203 = .ok (.if_icmp .gt 7, 3)) := by decide +kernel
theorem dX12_mayRun_191 : decode cX12_mayRun 191 = .ok (.iload 6, 2) := zd_566.1
theorem dX12_mayRun_193 : decode cX12_mayRun 193 = .ok (.invokevirtual 186, 3) := zd_566.2.1
theorem dX12_mayRun_196 : decode cX12_mayRun 196 = .ok (.iadd, 1) := zd_566.2.2.1
theorem dX12_mayRun_197 : decode cX12_mayRun 197 = .ok (.aload_n 0, 1) := zd_566.2.2.2.1
theorem dX12_mayRun_198 : decode cX12_mayRun 198 = .ok (.getfield 52, 3) := zd_566.2.2.2.2.1
theorem dX12_mayRun_201 : decode cX12_mayRun 201 = .ok (.iload_n 1, 1) := zd_566.2.2.2.2.2.1
theorem dX12_mayRun_202 : decode cX12_mayRun 202 = .ok (.iaload, 1) := zd_566.2.2.2.2.2.2.1
theorem dX12_mayRun_203 : decode cX12_mayRun 203 = .ok (.if_icmp .gt 7, 3) := zd_566.2.2.2.2.2.2.2
theorem zd_567 : (decode cX12_mayRun 206 = .ok (.iconst 1, 1)) ∧ (decode cX12_mayRun 207 = .ok (.goto 4, 3)) ∧ (decode cX12_mayRun 210 = .ok (.iconst 0, 1)) ∧ (decode cX12_mayRun 211 = .ok (.istore 7, 2)) ∧ (decode cX12_mayRun 213 = .ok (.iload 8, 2)) ∧ (decode cX12_mayRun 215 = .ok (.istore 9, 2)) ∧ (decode cX12_mayRun 217 = .ok (.iload 9, 2)) ∧ (decode cX12_mayRun 219 = .ok (.iload 8, 2)) := by decide +kernel
theorem dX12_mayRun_206 : decode cX12_mayRun 206 = .ok (.iconst 1, 1) := zd_567.1
theorem dX12_mayRun_207 : decode cX12_mayRun 207 = .ok (.goto 4, 3) := zd_567.2.1
theorem dX12_mayRun_210 : decode cX12_mayRun 210 = .ok (.iconst 0, 1) := zd_567.2.2.1
theorem dX12_mayRun_211 : decode cX12_mayRun 211 = .ok (.istore 7, 2) := zd_567.2.2.2.1
theorem dX12_mayRun_213 : decode cX12_mayRun 213 = .ok (.iload 8, 2) := zd_567.2.2.2.2.1
theorem dX12_mayRun_215 : decode cX12_mayRun 215 = .ok (.istore 9, 2) := zd_567.2.2.2.2.2.1
theorem dX12_mayRun_217 : decode cX12_mayRun 217 = .ok (.iload 9, 2) := zd_567.2.2.2.2.2.2.1
theorem dX12_mayRun_219 : decode cX12_mayRun 219 = .ok (.iload 8, 2) := zd_567.2.2.2.2.2.2.2
theorem zd_568 : (decode cX12_mayRun 221 = .ok (.aload_n 0, 1)) ∧ (decode cX12_mayRun 222 = .ok (.iload_n 1, 1)) ∧ (decode cX12_mayRun 223 = .ok (.iload 6, 2)) ∧ (decode cX12_mayRun 225 = .ok (.invokevirtual 186, 3)) ∧ (decode cX12_mayRun 228 = .ok (.iadd, 1)) ∧ (decode cX12_mayRun 229 = .ok (.if_icmp .ge 42, 3)) ∧ (decode cX12_mayRun 232 = .ok (.iload 7, 2)) ∧ (decode cX12_mayRun 234 = .ok (.ifCond .eq 37, 3)) := by decide +kernel
theorem dX12_mayRun_221 : decode cX12_mayRun 221 = .ok (.aload_n 0, 1) := zd_568.1
theorem dX12_mayRun_222 : decode cX12_mayRun 222 = .ok (.iload_n 1, 1) := zd_568.2.1
theorem dX12_mayRun_223 : decode cX12_mayRun 223 = .ok (.iload 6, 2) := zd_568.2.2.1
theorem dX12_mayRun_225 : decode cX12_mayRun 225 = .ok (.invokevirtual 186, 3) := zd_568.2.2.2.1
theorem dX12_mayRun_228 : decode cX12_mayRun 228 = .ok (.iadd, 1) := zd_568.2.2.2.2.1
theorem dX12_mayRun_229 : decode cX12_mayRun 229 = .ok (.if_icmp .ge 42, 3) := zd_568.2.2.2.2.2.1
theorem dX12_mayRun_232 : decode cX12_mayRun 232 = .ok (.iload 7, 2) := zd_568.2.2.2.2.2.2.1
theorem dX12_mayRun_234 : decode cX12_mayRun 234 = .ok (.ifCond .eq 37, 3) := zd_568.2.2.2.2.2.2.2
theorem zd_569 : (decode cX12_mayRun 237 = .ok (.aload_n 0, 1)) ∧ (decode cX12_mayRun 238 = .ok (.getfield 55, 3)) ∧ (decode cX12_mayRun 241 = .ok (.bipush 80, 2)) ∧ (decode cX12_mayRun 243 = .ok (.iload_n 1, 1)) ∧ (decode cX12_mayRun 244 = .ok (.imul, 1)) ∧ (decode cX12_mayRun 245 = .ok (.iload 9, 2)) ∧ (decode cX12_mayRun 247 = .ok (.iadd, 1)) ∧ (decode cX12_mayRun 248 = .ok (.iaload, 1)) := by decide +kernel
theorem dX12_mayRun_237 : decode cX12_mayRun 237 = .ok (.aload_n 0, 1) := zd_569.1
theorem dX12_mayRun_238 : decode cX12_mayRun 238 = .ok (.getfield 55, 3) := zd_569.2.1
theorem dX12_mayRun_241 : decode cX12_mayRun 241 = .ok (.bipush 80, 2) := zd_569.2.2.1
theorem dX12_mayRun_243 : decode cX12_mayRun 243 = .ok (.iload_n 1, 1) := zd_569.2.2.2.1
theorem dX12_mayRun_244 : decode cX12_mayRun 244 = .ok (.imul, 1) := zd_569.2.2.2.2.1
theorem dX12_mayRun_245 : decode cX12_mayRun 245 = .ok (.iload 9, 2) := zd_569.2.2.2.2.2.1
theorem dX12_mayRun_247 : decode cX12_mayRun 247 = .ok (.iadd, 1) := zd_569.2.2.2.2.2.2.1
theorem dX12_mayRun_248 : decode cX12_mayRun 248 = .ok (.iaload, 1) := zd_569.2.2.2.2.2.2.2
theorem zd_570 : (decode cX12_mayRun 249 = .ok (.aload_n 0, 1)) ∧ (decode cX12_mayRun 250 = .ok (.getfield 13, 3)) ∧ (decode cX12_mayRun 253 = .ok (.iload_n 2, 1)) ∧ (decode cX12_mayRun 254 = .ok (.iaload, 1)) ∧ (decode cX12_mayRun 255 = .ok (.if_icmp .gt 7, 3)) ∧ (decode cX12_mayRun 258 = .ok (.iconst 1, 1)) ∧ (decode cX12_mayRun 259 = .ok (.goto 4, 3)) ∧ (decode cX12_mayRun 262 = .ok (.iconst 0, 1)) := by decide +kernel
theorem dX12_mayRun_249 : decode cX12_mayRun 249 = .ok (.aload_n 0, 1) := zd_570.1
theorem dX12_mayRun_250 : decode cX12_mayRun 250 = .ok (.getfield 13, 3) := zd_570.2.1
theorem dX12_mayRun_253 : decode cX12_mayRun 253 = .ok (.iload_n 2, 1) := zd_570.2.2.1
theorem dX12_mayRun_254 : decode cX12_mayRun 254 = .ok (.iaload, 1) := zd_570.2.2.2.1
theorem dX12_mayRun_255 : decode cX12_mayRun 255 = .ok (.if_icmp .gt 7, 3) := zd_570.2.2.2.2.1
theorem dX12_mayRun_258 : decode cX12_mayRun 258 = .ok (.iconst 1, 1) := zd_570.2.2.2.2.2.1
theorem dX12_mayRun_259 : decode cX12_mayRun 259 = .ok (.goto 4, 3) := zd_570.2.2.2.2.2.2.1
theorem dX12_mayRun_262 : decode cX12_mayRun 262 = .ok (.iconst 0, 1) := zd_570.2.2.2.2.2.2.2
theorem zd_571 : (decode cX12_mayRun 263 = .ok (.istore 7, 2)) ∧ (decode cX12_mayRun 265 = .ok (.iinc 9 1, 3)) ∧ (decode cX12_mayRun 268 = .ok (.goto (-51), 3)) ∧ (decode cX12_mayRun 271 = .ok (.aload_n 0, 1)) ∧ (decode cX12_mayRun 272 = .ok (.iload_n 1, 1)) ∧ (decode cX12_mayRun 273 = .ok (.invokevirtual 202, 3)) ∧ (decode cX12_mayRun 276 = .ok (.iload 7, 2)) ∧ (decode cX12_mayRun 278 = .ok (.ireturn, 1)) := by decide +kernel
theorem dX12_mayRun_263 : decode cX12_mayRun 263 = .ok (.istore 7, 2) := zd_571.1
theorem dX12_mayRun_265 : decode cX12_mayRun 265 = .ok (.iinc 9 1, 3) := zd_571.2.1
theorem dX12_mayRun_268 : decode cX12_mayRun 268 = .ok (.goto (-51), 3) := zd_571.2.2.1
theorem dX12_mayRun_271 : decode cX12_mayRun 271 = .ok (.aload_n 0, 1) := zd_571.2.2.2.1
theorem dX12_mayRun_272 : decode cX12_mayRun 272 = .ok (.iload_n 1, 1) := zd_571.2.2.2.2.1
theorem dX12_mayRun_273 : decode cX12_mayRun 273 = .ok (.invokevirtual 202, 3) := zd_571.2.2.2.2.2.1
theorem dX12_mayRun_276 : decode cX12_mayRun 276 = .ok (.iload 7, 2) := zd_571.2.2.2.2.2.2.1
theorem dX12_mayRun_278 : decode cX12_mayRun 278 = .ok (.ireturn, 1) := zd_571.2.2.2.2.2.2.2
theorem zd_572 : (decode cX12_wasPrintedAhead 0 = .ok (.iconst 0, 1)) ∧ (decode cX12_wasPrintedAhead 1 = .ok (.istore_n 2, 1)) ∧ (decode cX12_wasPrintedAhead 2 = .ok (.iconst 0, 1)) ∧ (decode cX12_wasPrintedAhead 3 = .ok (.istore_n 3, 1)) ∧ (decode cX12_wasPrintedAhead 4 = .ok (.iload_n 3, 1)) ∧ (decode cX12_wasPrintedAhead 5 = .ok (.aload_n 0, 1)) ∧ (decode cX12_wasPrintedAhead 6 = .ok (.getfield 206, 3)) ∧ (decode cX12_wasPrintedAhead 9 = .ok (.if_icmp .ge 33, 3)) := by decide +kernel
theorem dX12_wasPrintedAhead_0 : decode cX12_wasPrintedAhead 0 = .ok (.iconst 0, 1) := zd_572.1
theorem dX12_wasPrintedAhead_1 : decode cX12_wasPrintedAhead 1 = .ok (.istore_n 2, 1) := zd_572.2.1
theorem dX12_wasPrintedAhead_2 : decode cX12_wasPrintedAhead 2 = .ok (.iconst 0, 1) := zd_572.2.2.1
theorem dX12_wasPrintedAhead_3 : decode cX12_wasPrintedAhead 3 = .ok (.istore_n 3, 1) := zd_572.2.2.2.1
theorem dX12_wasPrintedAhead_4 : decode cX12_wasPrintedAhead 4 = .ok (.iload_n 3, 1) := zd_572.2.2.2.2.1
theorem dX12_wasPrintedAhead_5 : decode cX12_wasPrintedAhead 5 = .ok (.aload_n 0, 1) := zd_572.2.2.2.2.2.1
theorem dX12_wasPrintedAhead_6 : decode cX12_wasPrintedAhead 6 = .ok (.getfield 206, 3) := zd_572.2.2.2.2.2.2.1
theorem dX12_wasPrintedAhead_9 : decode cX12_wasPrintedAhead 9 = .ok (.if_icmp .ge 33, 3) := zd_572.2.2.2.2.2.2.2
theorem zd_573 : (decode cX12_wasPrintedAhead 12 = .ok (.iload_n 2, 1)) ∧ (decode cX12_wasPrintedAhead 13 = .ok (.ifCond .ne 17, 3)) ∧ (decode cX12_wasPrintedAhead 16 = .ok (.aload_n 0, 1)) ∧ (decode cX12_wasPrintedAhead 17 = .ok (.getfield 140, 3)) ∧ (decode cX12_wasPrintedAhead 20 = .ok (.bipush 80, 2)) ∧ (decode cX12_wasPrintedAhead 22 = .ok (.iload_n 3, 1)) ∧ (decode cX12_wasPrintedAhead 23 = .ok (.imul, 1)) ∧ (decode cX12_wasPrintedAhead 24 = .ok (.iload_n 1, 1)) := by decide +kernel
theorem dX12_wasPrintedAhead_12 : decode cX12_wasPrintedAhead 12 = .ok (.iload_n 2, 1) := zd_573.1
theorem dX12_wasPrintedAhead_13 : decode cX12_wasPrintedAhead 13 = .ok (.ifCond .ne 17, 3) := zd_573.2.1
theorem dX12_wasPrintedAhead_16 : decode cX12_wasPrintedAhead 16 = .ok (.aload_n 0, 1) := zd_573.2.2.1
theorem dX12_wasPrintedAhead_17 : decode cX12_wasPrintedAhead 17 = .ok (.getfield 140, 3) := zd_573.2.2.2.1
theorem dX12_wasPrintedAhead_20 : decode cX12_wasPrintedAhead 20 = .ok (.bipush 80, 2) := zd_573.2.2.2.2.1
theorem dX12_wasPrintedAhead_22 : decode cX12_wasPrintedAhead 22 = .ok (.iload_n 3, 1) := zd_573.2.2.2.2.2.1
theorem dX12_wasPrintedAhead_23 : decode cX12_wasPrintedAhead 23 = .ok (.imul, 1) := zd_573.2.2.2.2.2.2.1
theorem dX12_wasPrintedAhead_24 : decode cX12_wasPrintedAhead 24 = .ok (.iload_n 1, 1) := zd_573.2.2.2.2.2.2.2
theorem zd_574 : (decode cX12_wasPrintedAhead 25 = .ok (.iadd, 1)) ∧ (decode cX12_wasPrintedAhead 26 = .ok (.baload, 1)) ∧ (decode cX12_wasPrintedAhead 27 = .ok (.ifCond .eq 7, 3)) ∧ (decode cX12_wasPrintedAhead 30 = .ok (.iconst 1, 1)) ∧ (decode cX12_wasPrintedAhead 31 = .ok (.goto 4, 3)) ∧ (decode cX12_wasPrintedAhead 34 = .ok (.iconst 0, 1)) ∧ (decode cX12_wasPrintedAhead 35 = .ok (.istore_n 2, 1)) ∧ (decode cX12_wasPrintedAhead 36 = .ok (.iinc 3 1, 3)) := by decide +kernel
theorem dX12_wasPrintedAhead_25 : decode cX12_wasPrintedAhead 25 = .ok (.iadd, 1) := zd_574.1
theorem dX12_wasPrintedAhead_26 : decode cX12_wasPrintedAhead 26 = .ok (.baload, 1) := zd_574.2.1
theorem dX12_wasPrintedAhead_27 : decode cX12_wasPrintedAhead 27 = .ok (.ifCond .eq 7, 3) := zd_574.2.2.1
theorem dX12_wasPrintedAhead_30 : decode cX12_wasPrintedAhead 30 = .ok (.iconst 1, 1) := zd_574.2.2.2.1
theorem dX12_wasPrintedAhead_31 : decode cX12_wasPrintedAhead 31 = .ok (.goto 4, 3) := zd_574.2.2.2.2.1
theorem dX12_wasPrintedAhead_34 : decode cX12_wasPrintedAhead 34 = .ok (.iconst 0, 1) := zd_574.2.2.2.2.2.1
theorem dX12_wasPrintedAhead_35 : decode cX12_wasPrintedAhead 35 = .ok (.istore_n 2, 1) := zd_574.2.2.2.2.2.2.1
theorem dX12_wasPrintedAhead_36 : decode cX12_wasPrintedAhead 36 = .ok (.iinc 3 1, 3) := zd_574.2.2.2.2.2.2.2
theorem zd_575 : (decode cX12_wasPrintedAhead 39 = .ok (.goto (-35), 3)) ∧ (decode cX12_wasPrintedAhead 42 = .ok (.iload_n 2, 1)) ∧ (decode cX12_wasPrintedAhead 43 = .ok (.ireturn, 1)) := by decide +kernel
theorem dX12_wasPrintedAhead_39 : decode cX12_wasPrintedAhead 39 = .ok (.goto (-35), 3) := zd_575.1
theorem dX12_wasPrintedAhead_42 : decode cX12_wasPrintedAhead 42 = .ok (.iload_n 2, 1) := zd_575.2.1
theorem dX12_wasPrintedAhead_43 : decode cX12_wasPrintedAhead 43 = .ok (.ireturn, 1) := zd_575.2.2
theorem zd_576 : (decode cX12_mayMend 0 = .ok (.aload_n 0, 1)) ∧ (decode cX12_mayMend 1 = .ok (.aload_n 0, 1)) ∧ (decode cX12_mayMend 2 = .ok (.getfield 34, 3)) ∧ (decode cX12_mayMend 5 = .ok (.iload_n 1, 1)) ∧ (decode cX12_mayMend 6 = .ok (.iaload, 1)) ∧ (decode cX12_mayMend 7 = .ok (.iconst 0, 1)) ∧ (decode cX12_mayMend 8 = .ok (.invokevirtual 182, 3)) ∧ (decode cX12_mayMend 11 = .ok (.istore 4, 2)) := by decide +kernel
theorem dX12_mayMend_0 : decode cX12_mayMend 0 = .ok (.aload_n 0, 1) := zd_576.1
theorem dX12_mayMend_1 : decode cX12_mayMend 1 = .ok (.aload_n 0, 1) := zd_576.2.1
theorem dX12_mayMend_2 : decode cX12_mayMend 2 = .ok (.getfield 34, 3) := zd_576.2.2.1
theorem dX12_mayMend_5 : decode cX12_mayMend 5 = .ok (.iload_n 1, 1) := zd_576.2.2.2.1
theorem dX12_mayMend_6 : decode cX12_mayMend 6 = .ok (.iaload, 1) := zd_576.2.2.2.2.1
theorem dX12_mayMend_7 : decode cX12_mayMend 7 = .ok (.iconst 0, 1) := zd_576.2.2.2.2.2.1
theorem dX12_mayMend_8 : decode cX12_mayMend 8 = .ok (.invokevirtual 182, 3) := zd_576.2.2.2.2.2.2.1
theorem dX12_mayMend_11 : decode cX12_mayMend 11 = .ok (.istore 4, 2) := zd_576.2.2.2.2.2.2.2
theorem zd_577 : (decode cX12_mayMend 13 = .ok (.iload 4, 2)) ∧ (decode cX12_mayMend 15 = .ok (.ifCond .lt 20, 3)) ∧ (decode cX12_mayMend 18 = .ok (.iload 4, 2)) ∧ (decode cX12_mayMend 20 = .ok (.aload_n 0, 1)) ∧ (decode cX12_mayMend 21 = .ok (.getfield 206, 3)) ∧ (decode cX12_mayMend 24 = .ok (.if_icmp .ge 11, 3)) ∧ (decode cX12_mayMend 27 = .ok (.aload_n 0, 1)) ∧ (decode cX12_mayMend 28 = .ok (.iload_n 1, 1)) := by decide +kernel
theorem dX12_mayMend_13 : decode cX12_mayMend 13 = .ok (.iload 4, 2) := zd_577.1
theorem dX12_mayMend_15 : decode cX12_mayMend 15 = .ok (.ifCond .lt 20, 3) := zd_577.2.1
theorem dX12_mayMend_18 : decode cX12_mayMend 18 = .ok (.iload 4, 2) := zd_577.2.2.1
theorem dX12_mayMend_20 : decode cX12_mayMend 20 = .ok (.aload_n 0, 1) := zd_577.2.2.2.1
theorem dX12_mayMend_21 : decode cX12_mayMend 21 = .ok (.getfield 206, 3) := zd_577.2.2.2.2.1
theorem dX12_mayMend_24 : decode cX12_mayMend 24 = .ok (.if_icmp .ge 11, 3) := zd_577.2.2.2.2.2.1
theorem dX12_mayMend_27 : decode cX12_mayMend 27 = .ok (.aload_n 0, 1) := zd_577.2.2.2.2.2.2.1
theorem dX12_mayMend_28 : decode cX12_mayMend 28 = .ok (.iload_n 1, 1) := zd_577.2.2.2.2.2.2.2
theorem zd_578 : (decode cX12_mayMend 29 = .ok (.invokevirtual 209, 3)) ∧ (decode cX12_mayMend 32 = .ok (.ifCond .eq 5, 3)) ∧ (decode cX12_mayMend 35 = .ok (.iconst 0, 1)) ∧ (decode cX12_mayMend 36 = .ok (.ireturn, 1)) ∧ (decode cX12_mayMend 37 = .ok (.aload_n 0, 1)) ∧ (decode cX12_mayMend 38 = .ok (.aload_n 0, 1)) ∧ (decode cX12_mayMend 39 = .ok (.getfield 34, 3)) ∧ (decode cX12_mayMend 42 = .ok (.iload_n 1, 1)) := by decide +kernel
theorem dX12_mayMend_29 : decode cX12_mayMend 29 = .ok (.invokevirtual 209, 3) := zd_578.1
theorem dX12_mayMend_32 : decode cX12_mayMend 32 = .ok (.ifCond .eq 5, 3) := zd_578.2.1
theorem dX12_mayMend_35 : decode cX12_mayMend 35 = .ok (.iconst 0, 1) := zd_578.2.2.1
theorem dX12_mayMend_36 : decode cX12_mayMend 36 = .ok (.ireturn, 1) := zd_578.2.2.2.1
theorem dX12_mayMend_37 : decode cX12_mayMend 37 = .ok (.aload_n 0, 1) := zd_578.2.2.2.2.1
theorem dX12_mayMend_38 : decode cX12_mayMend 38 = .ok (.aload_n 0, 1) := zd_578.2.2.2.2.2.1
theorem dX12_mayMend_39 : decode cX12_mayMend 39 = .ok (.getfield 34, 3) := zd_578.2.2.2.2.2.2.1
theorem dX12_mayMend_42 : decode cX12_mayMend 42 = .ok (.iload_n 1, 1) := zd_578.2.2.2.2.2.2.2
theorem zd_579 : (decode cX12_mayMend 43 = .ok (.iaload, 1)) ∧ (decode cX12_mayMend 44 = .ok (.iconst 2, 1)) ∧ (decode cX12_mayMend 45 = .ok (.invokevirtual 182, 3)) ∧ (decode cX12_mayMend 48 = .ok (.istore 5, 2)) ∧ (decode cX12_mayMend 50 = .ok (.iload_n 2, 1)) ∧ (decode cX12_mayMend 51 = .ok (.iload 5, 2)) ∧ (decode cX12_mayMend 53 = .ok (.if_icmp .gt 24, 3)) ∧ (decode cX12_mayMend 56 = .ok (.iload_n 2, 1)) := by decide +kernel
theorem dX12_mayMend_43 : decode cX12_mayMend 43 = .ok (.iaload, 1) := zd_579.1
theorem dX12_mayMend_44 : decode cX12_mayMend 44 = .ok (.iconst 2, 1) := zd_579.2.1
theorem dX12_mayMend_45 : decode cX12_mayMend 45 = .ok (.invokevirtual 182, 3) := zd_579.2.2.1
theorem dX12_mayMend_48 : decode cX12_mayMend 48 = .ok (.istore 5, 2) := zd_579.2.2.2.1
theorem dX12_mayMend_50 : decode cX12_mayMend 50 = .ok (.iload_n 2, 1) := zd_579.2.2.2.2.1
theorem dX12_mayMend_51 : decode cX12_mayMend 51 = .ok (.iload 5, 2) := zd_579.2.2.2.2.2.1
theorem dX12_mayMend_53 : decode cX12_mayMend 53 = .ok (.if_icmp .gt 24, 3) := zd_579.2.2.2.2.2.2.1
theorem dX12_mayMend_56 : decode cX12_mayMend 56 = .ok (.iload_n 2, 1) := zd_579.2.2.2.2.2.2.2
theorem zd_580 : (decode cX12_mayMend 57 = .ok (.iload 5, 2)) ∧ (decode cX12_mayMend 59 = .ok (.if_icmp .ne 22, 3)) ∧ (decode cX12_mayMend 62 = .ok (.iload_n 3, 1)) ∧ (decode cX12_mayMend 63 = .ok (.aload_n 0, 1)) ∧ (decode cX12_mayMend 64 = .ok (.aload_n 0, 1)) ∧ (decode cX12_mayMend 65 = .ok (.getfield 34, 3)) ∧ (decode cX12_mayMend 68 = .ok (.iload_n 1, 1)) ∧ (decode cX12_mayMend 69 = .ok (.iaload, 1)) := by decide +kernel
theorem dX12_mayMend_57 : decode cX12_mayMend 57 = .ok (.iload 5, 2) := zd_580.1
theorem dX12_mayMend_59 : decode cX12_mayMend 59 = .ok (.if_icmp .ne 22, 3) := zd_580.2.1
theorem dX12_mayMend_62 : decode cX12_mayMend 62 = .ok (.iload_n 3, 1) := zd_580.2.2.1
theorem dX12_mayMend_63 : decode cX12_mayMend 63 = .ok (.aload_n 0, 1) := zd_580.2.2.2.1
theorem dX12_mayMend_64 : decode cX12_mayMend 64 = .ok (.aload_n 0, 1) := zd_580.2.2.2.2.1
theorem dX12_mayMend_65 : decode cX12_mayMend 65 = .ok (.getfield 34, 3) := zd_580.2.2.2.2.2.1
theorem dX12_mayMend_68 : decode cX12_mayMend 68 = .ok (.iload_n 1, 1) := zd_580.2.2.2.2.2.2.1
theorem dX12_mayMend_69 : decode cX12_mayMend 69 = .ok (.iaload, 1) := zd_580.2.2.2.2.2.2.2
theorem zd_581 : (decode cX12_mayMend 70 = .ok (.iconst 3, 1)) ∧ (decode cX12_mayMend 71 = .ok (.invokevirtual 182, 3)) ∧ (decode cX12_mayMend 74 = .ok (.if_icmp .lt 7, 3)) ∧ (decode cX12_mayMend 77 = .ok (.iconst 1, 1)) ∧ (decode cX12_mayMend 78 = .ok (.goto 4, 3)) ∧ (decode cX12_mayMend 81 = .ok (.iconst 0, 1)) ∧ (decode cX12_mayMend 82 = .ok (.ireturn, 1)) := by decide +kernel
theorem dX12_mayMend_70 : decode cX12_mayMend 70 = .ok (.iconst 3, 1) := zd_581.1
theorem dX12_mayMend_71 : decode cX12_mayMend 71 = .ok (.invokevirtual 182, 3) := zd_581.2.1
theorem dX12_mayMend_74 : decode cX12_mayMend 74 = .ok (.if_icmp .lt 7, 3) := zd_581.2.2.1
theorem dX12_mayMend_77 : decode cX12_mayMend 77 = .ok (.iconst 1, 1) := zd_581.2.2.2.1
theorem dX12_mayMend_78 : decode cX12_mayMend 78 = .ok (.goto 4, 3) := zd_581.2.2.2.2.1
theorem dX12_mayMend_81 : decode cX12_mayMend 81 = .ok (.iconst 0, 1) := zd_581.2.2.2.2.2.1
theorem dX12_mayMend_82 : decode cX12_mayMend 82 = .ok (.ireturn, 1) := zd_581.2.2.2.2.2.2
theorem zd_582 : (decode cX12_put 0 = .ok (.aload_n 0, 1)) ∧ (decode cX12_put 1 = .ok (.iload_n 1, 1)) ∧ (decode cX12_put 2 = .ok (.invokevirtual 151, 3)) ∧ (decode cX12_put 5 = .ok (.ifCond .eq 13, 3)) ∧ (decode cX12_put 8 = .ok (.aload_n 0, 1)) ∧ (decode cX12_put 9 = .ok (.getfield 158, 3)) ∧ (decode cX12_put 12 = .ok (.sipush 300, 3)) ∧ (decode cX12_put 15 = .ok (.if_icmp .ne 5, 3)) := by decide +kernel
theorem dX12_put_0 : decode cX12_put 0 = .ok (.aload_n 0, 1) := zd_582.1
theorem dX12_put_1 : decode cX12_put 1 = .ok (.iload_n 1, 1) := zd_582.2.1
theorem dX12_put_2 : decode cX12_put 2 = .ok (.invokevirtual 151, 3) := zd_582.2.2.1
theorem dX12_put_5 : decode cX12_put 5 = .ok (.ifCond .eq 13, 3) := zd_582.2.2.2.1
theorem dX12_put_8 : decode cX12_put 8 = .ok (.aload_n 0, 1) := zd_582.2.2.2.2.1
theorem dX12_put_9 : decode cX12_put 9 = .ok (.getfield 158, 3) := zd_582.2.2.2.2.2.1
theorem dX12_put_12 : decode cX12_put 12 = .ok (.sipush 300, 3) := zd_582.2.2.2.2.2.2.1
theorem dX12_put_15 : decode cX12_put 15 = .ok (.if_icmp .ne 5, 3) := zd_582.2.2.2.2.2.2.2
theorem zd_583 : (decode cX12_put 18 = .ok (.iconst (-1), 1)) ∧ (decode cX12_put 19 = .ok (.ireturn, 1)) ∧ (decode cX12_put 20 = .ok (.aload_n 0, 1)) ∧ (decode cX12_put 21 = .ok (.getfield 19, 3)) ∧ (decode cX12_put 24 = .ok (.iload_n 1, 1)) ∧ (decode cX12_put 25 = .ok (.iaload, 1)) ∧ (decode cX12_put 26 = .ok (.istore 6, 2)) ∧ (decode cX12_put 28 = .ok (.iload 6, 2)) := by decide +kernel
theorem dX12_put_18 : decode cX12_put 18 = .ok (.iconst (-1), 1) := zd_583.1
theorem dX12_put_19 : decode cX12_put 19 = .ok (.ireturn, 1) := zd_583.2.1
theorem dX12_put_20 : decode cX12_put 20 = .ok (.aload_n 0, 1) := zd_583.2.2.1
theorem dX12_put_21 : decode cX12_put 21 = .ok (.getfield 19, 3) := zd_583.2.2.2.1
theorem dX12_put_24 : decode cX12_put 24 = .ok (.iload_n 1, 1) := zd_583.2.2.2.2.1
theorem dX12_put_25 : decode cX12_put 25 = .ok (.iaload, 1) := zd_583.2.2.2.2.2.1
theorem dX12_put_26 : decode cX12_put 26 = .ok (.istore 6, 2) := zd_583.2.2.2.2.2.2.1
theorem dX12_put_28 : decode cX12_put 28 = .ok (.iload 6, 2) := zd_583.2.2.2.2.2.2.2
theorem zd_584 : (decode cX12_put 30 = .ok (.iconst 1, 1)) ∧ (decode cX12_put 31 = .ok (.if_icmp .eq 9, 3)) ∧ (decode cX12_put 34 = .ok (.iload 6, 2)) ∧ (decode cX12_put 36 = .ok (.iconst 3, 1)) ∧ (decode cX12_put 37 = .ok (.if_icmp .ne 12, 3)) ∧ (decode cX12_put 40 = .ok (.aload_n 0, 1)) ∧ (decode cX12_put 41 = .ok (.getfield 28, 3)) ∧ (decode cX12_put 44 = .ok (.iload_n 1, 1)) := by decide +kernel
theorem dX12_put_30 : decode cX12_put 30 = .ok (.iconst 1, 1) := zd_584.1
theorem dX12_put_31 : decode cX12_put 31 = .ok (.if_icmp .eq 9, 3) := zd_584.2.1
theorem dX12_put_34 : decode cX12_put 34 = .ok (.iload 6, 2) := zd_584.2.2.1
theorem dX12_put_36 : decode cX12_put 36 = .ok (.iconst 3, 1) := zd_584.2.2.2.1
theorem dX12_put_37 : decode cX12_put 37 = .ok (.if_icmp .ne 12, 3) := zd_584.2.2.2.2.1
theorem dX12_put_40 : decode cX12_put 40 = .ok (.aload_n 0, 1) := zd_584.2.2.2.2.2.1
theorem dX12_put_41 : decode cX12_put 41 = .ok (.getfield 28, 3) := zd_584.2.2.2.2.2.2.1
theorem dX12_put_44 : decode cX12_put 44 = .ok (.iload_n 1, 1) := zd_584.2.2.2.2.2.2.2
theorem zd_585 : (decode cX12_put 45 = .ok (.iaload, 1)) ∧ (decode cX12_put 46 = .ok (.goto 4, 3)) ∧ (decode cX12_put 49 = .ok (.iconst 1, 1)) ∧ (decode cX12_put 50 = .ok (.istore 7, 2)) ∧ (decode cX12_put 52 = .ok (.iload 6, 2)) ∧ (decode cX12_put 54 = .ok (.ifCond .eq 9, 3)) ∧ (decode cX12_put 57 = .ok (.iload 6, 2)) ∧ (decode cX12_put 59 = .ok (.iconst 4, 1)) := by decide +kernel
theorem dX12_put_45 : decode cX12_put 45 = .ok (.iaload, 1) := zd_585.1
theorem dX12_put_46 : decode cX12_put 46 = .ok (.goto 4, 3) := zd_585.2.1
theorem dX12_put_49 : decode cX12_put 49 = .ok (.iconst 1, 1) := zd_585.2.2.1
theorem dX12_put_50 : decode cX12_put 50 = .ok (.istore 7, 2) := zd_585.2.2.2.1
theorem dX12_put_52 : decode cX12_put 52 = .ok (.iload 6, 2) := zd_585.2.2.2.2.1
theorem dX12_put_54 : decode cX12_put 54 = .ok (.ifCond .eq 9, 3) := zd_585.2.2.2.2.2.1
theorem dX12_put_57 : decode cX12_put 57 = .ok (.iload 6, 2) := zd_585.2.2.2.2.2.2.1
theorem dX12_put_59 : decode cX12_put 59 = .ok (.iconst 4, 1) := zd_585.2.2.2.2.2.2.2
theorem zd_586 : (decode cX12_put 60 = .ok (.if_icmp .ne 8, 3)) ∧ (decode cX12_put 63 = .ok (.iload 5, 2)) ∧ (decode cX12_put 65 = .ok (.goto 9, 3)) ∧ (decode cX12_put 68 = .ok (.aload_n 0, 1)) ∧ (decode cX12_put 69 = .ok (.getfield 31, 3)) ∧ (decode cX12_put 72 = .ok (.iload_n 1, 1)) ∧ (decode cX12_put 73 = .ok (.iaload, 1)) ∧ (decode cX12_put 74 = .ok (.istore 8, 2)) := by decide +kernel
theorem dX12_put_60 : decode cX12_put 60 = .ok (.if_icmp .ne 8, 3) := zd_586.1
theorem dX12_put_63 : decode cX12_put 63 = .ok (.iload 5, 2) := zd_586.2.1
theorem dX12_put_65 : decode cX12_put 65 = .ok (.goto 9, 3) := zd_586.2.2.1
theorem dX12_put_68 : decode cX12_put 68 = .ok (.aload_n 0, 1) := zd_586.2.2.2.1
theorem dX12_put_69 : decode cX12_put 69 = .ok (.getfield 31, 3) := zd_586.2.2.2.2.1
theorem dX12_put_72 : decode cX12_put 72 = .ok (.iload_n 1, 1) := zd_586.2.2.2.2.2.1
theorem dX12_put_73 : decode cX12_put 73 = .ok (.iaload, 1) := zd_586.2.2.2.2.2.2.1
theorem dX12_put_74 : decode cX12_put 74 = .ok (.istore 8, 2) := zd_586.2.2.2.2.2.2.2
theorem zd_587 : (decode cX12_put 76 = .ok (.iload 6, 2)) ∧ (decode cX12_put 78 = .ok (.iconst 2, 1)) ∧ (decode cX12_put 79 = .ok (.if_icmp .ne 48, 3)) ∧ (decode cX12_put 82 = .ok (.iload 5, 2)) ∧ (decode cX12_put 84 = .ok (.iconst 0, 1)) ∧ (decode cX12_put 85 = .ok (.aload_n 0, 1)) ∧ (decode cX12_put 86 = .ok (.getfield 58, 3)) ∧ (decode cX12_put 89 = .ok (.iload_n 1, 1)) := by decide +kernel
theorem dX12_put_76 : decode cX12_put 76 = .ok (.iload 6, 2) := zd_587.1
theorem dX12_put_78 : decode cX12_put 78 = .ok (.iconst 2, 1) := zd_587.2.1
theorem dX12_put_79 : decode cX12_put 79 = .ok (.if_icmp .ne 48, 3) := zd_587.2.2.1
theorem dX12_put_82 : decode cX12_put 82 = .ok (.iload 5, 2) := zd_587.2.2.2.1
theorem dX12_put_84 : decode cX12_put 84 = .ok (.iconst 0, 1) := zd_587.2.2.2.2.1
theorem dX12_put_85 : decode cX12_put 85 = .ok (.aload_n 0, 1) := zd_587.2.2.2.2.2.1
theorem dX12_put_86 : decode cX12_put 86 = .ok (.getfield 58, 3) := zd_587.2.2.2.2.2.2.1
theorem dX12_put_89 : decode cX12_put 89 = .ok (.iload_n 1, 1) := zd_587.2.2.2.2.2.2.2
theorem zd_588 : (decode cX12_put 90 = .ok (.iaload, 1)) ∧ (decode cX12_put 91 = .ok (.iconst 1, 1)) ∧ (decode cX12_put 92 = .ok (.isub, 1)) ∧ (decode cX12_put 93 = .ok (.invokestatic 143, 3)) ∧ (decode cX12_put 96 = .ok (.ifCond .ne 5, 3)) ∧ (decode cX12_put 99 = .ok (.iconst (-1), 1)) ∧ (decode cX12_put 100 = .ok (.ireturn, 1)) ∧ (decode cX12_put 101 = .ok (.aload_n 0, 1)) := by decide +kernel
theorem dX12_put_90 : decode cX12_put 90 = .ok (.iaload, 1) := zd_588.1
theorem dX12_put_91 : decode cX12_put 91 = .ok (.iconst 1, 1) := zd_588.2.1
theorem dX12_put_92 : decode cX12_put 92 = .ok (.isub, 1) := zd_588.2.2.1
theorem dX12_put_93 : decode cX12_put 93 = .ok (.invokestatic 143, 3) := zd_588.2.2.2.1
theorem dX12_put_96 : decode cX12_put 96 = .ok (.ifCond .ne 5, 3) := zd_588.2.2.2.2.1
theorem dX12_put_99 : decode cX12_put 99 = .ok (.iconst (-1), 1) := zd_588.2.2.2.2.2.1
theorem dX12_put_100 : decode cX12_put 100 = .ok (.ireturn, 1) := zd_588.2.2.2.2.2.2.1
theorem dX12_put_101 : decode cX12_put 101 = .ok (.aload_n 0, 1) := zd_588.2.2.2.2.2.2.2
theorem zd_589 : (decode cX12_put 102 = .ok (.getfield 61, 3)) ∧ (decode cX12_put 105 = .ok (.iconst 4, 1)) ∧ (decode cX12_put 106 = .ok (.iload_n 1, 1)) ∧ (decode cX12_put 107 = .ok (.imul, 1)) ∧ (decode cX12_put 108 = .ok (.iload 5, 2)) ∧ (decode cX12_put 110 = .ok (.iadd, 1)) ∧ (decode cX12_put 111 = .ok (.iaload, 1)) ∧ (decode cX12_put 112 = .ok (.istore 7, 2)) := by decide +kernel
theorem dX12_put_102 : decode cX12_put 102 = .ok (.getfield 61, 3) := zd_589.1
theorem dX12_put_105 : decode cX12_put 105 = .ok (.iconst 4, 1) := zd_589.2.1
theorem dX12_put_106 : decode cX12_put 106 = .ok (.iload_n 1, 1) := zd_589.2.2.1
theorem dX12_put_107 : decode cX12_put 107 = .ok (.imul, 1) := zd_589.2.2.2.1
theorem dX12_put_108 : decode cX12_put 108 = .ok (.iload 5, 2) := zd_589.2.2.2.2.1
theorem dX12_put_110 : decode cX12_put 110 = .ok (.iadd, 1) := zd_589.2.2.2.2.2.1
theorem dX12_put_111 : decode cX12_put 111 = .ok (.iaload, 1) := zd_589.2.2.2.2.2.2.1
theorem dX12_put_112 : decode cX12_put 112 = .ok (.istore 7, 2) := zd_589.2.2.2.2.2.2.2
theorem zd_590 : (decode cX12_put 114 = .ok (.aload_n 0, 1)) ∧ (decode cX12_put 115 = .ok (.getfield 64, 3)) ∧ (decode cX12_put 118 = .ok (.iconst 4, 1)) ∧ (decode cX12_put 119 = .ok (.iload_n 1, 1)) ∧ (decode cX12_put 120 = .ok (.imul, 1)) ∧ (decode cX12_put 121 = .ok (.iload 5, 2)) ∧ (decode cX12_put 123 = .ok (.iadd, 1)) ∧ (decode cX12_put 124 = .ok (.iaload, 1)) := by decide +kernel
theorem dX12_put_114 : decode cX12_put 114 = .ok (.aload_n 0, 1) := zd_590.1
theorem dX12_put_115 : decode cX12_put 115 = .ok (.getfield 64, 3) := zd_590.2.1
theorem dX12_put_118 : decode cX12_put 118 = .ok (.iconst 4, 1) := zd_590.2.2.1
theorem dX12_put_119 : decode cX12_put 119 = .ok (.iload_n 1, 1) := zd_590.2.2.2.1
theorem dX12_put_120 : decode cX12_put 120 = .ok (.imul, 1) := zd_590.2.2.2.2.1
theorem dX12_put_121 : decode cX12_put 121 = .ok (.iload 5, 2) := zd_590.2.2.2.2.2.1
theorem dX12_put_123 : decode cX12_put 123 = .ok (.iadd, 1) := zd_590.2.2.2.2.2.2.1
theorem dX12_put_124 : decode cX12_put 124 = .ok (.iaload, 1) := zd_590.2.2.2.2.2.2.2
theorem zd_591 : (decode cX12_put 125 = .ok (.istore 8, 2)) ∧ (decode cX12_put 127 = .ok (.iload 6, 2)) ∧ (decode cX12_put 129 = .ok (.ifCond .eq 20, 3)) ∧ (decode cX12_put 132 = .ok (.iload 6, 2)) ∧ (decode cX12_put 134 = .ok (.iconst 4, 1)) ∧ (decode cX12_put 135 = .ok (.if_icmp .eq 14, 3)) ∧ (decode cX12_put 138 = .ok (.iload 6, 2)) ∧ (decode cX12_put 140 = .ok (.iconst 2, 1)) := by decide +kernel
theorem dX12_put_125 : decode cX12_put 125 = .ok (.istore 8, 2) := zd_591.1
theorem dX12_put_127 : decode cX12_put 127 = .ok (.iload 6, 2) := zd_591.2.1
theorem dX12_put_129 : decode cX12_put 129 = .ok (.ifCond .eq 20, 3) := zd_591.2.2.1
theorem dX12_put_132 : decode cX12_put 132 = .ok (.iload 6, 2) := zd_591.2.2.2.1
theorem dX12_put_134 : decode cX12_put 134 = .ok (.iconst 4, 1) := zd_591.2.2.2.2.1
theorem dX12_put_135 : decode cX12_put 135 = .ok (.if_icmp .eq 14, 3) := zd_591.2.2.2.2.2.1
theorem dX12_put_138 : decode cX12_put 138 = .ok (.iload 6, 2) := zd_591.2.2.2.2.2.2.1
theorem dX12_put_140 : decode cX12_put 140 = .ok (.iconst 2, 1) := zd_591.2.2.2.2.2.2.2
theorem zd_592 : (decode cX12_put 141 = .ok (.if_icmp .eq 8, 3)) ∧ (decode cX12_put 144 = .ok (.iload 5, 2)) ∧ (decode cX12_put 146 = .ok (.ifCond .ne 7, 3)) ∧ (decode cX12_put 149 = .ok (.iconst 1, 1)) ∧ (decode cX12_put 150 = .ok (.goto 4, 3)) ∧ (decode cX12_put 153 = .ok (.iconst 0, 1)) ∧ (decode cX12_put 154 = .ok (.istore 9, 2)) ∧ (decode cX12_put 156 = .ok (.iload 9, 2)) := by decide +kernel
theorem dX12_put_141 : decode cX12_put 141 = .ok (.if_icmp .eq 8, 3) := zd_592.1
theorem dX12_put_144 : decode cX12_put 144 = .ok (.iload 5, 2) := zd_592.2.1
theorem dX12_put_146 : decode cX12_put 146 = .ok (.ifCond .ne 7, 3) := zd_592.2.2.1
theorem dX12_put_149 : decode cX12_put 149 = .ok (.iconst 1, 1) := zd_592.2.2.2.1
theorem dX12_put_150 : decode cX12_put 150 = .ok (.goto 4, 3) := zd_592.2.2.2.2.1
theorem dX12_put_153 : decode cX12_put 153 = .ok (.iconst 0, 1) := zd_592.2.2.2.2.2.1
theorem dX12_put_154 : decode cX12_put 154 = .ok (.istore 9, 2) := zd_592.2.2.2.2.2.2.1
theorem dX12_put_156 : decode cX12_put 156 = .ok (.iload 9, 2) := zd_592.2.2.2.2.2.2.2
theorem zd_593 : (decode cX12_put 158 = .ok (.ifCond .eq 42, 3)) ∧ (decode cX12_put 161 = .ok (.iload 8, 2)) ∧ (decode cX12_put 163 = .ok (.iconst 1, 1)) ∧ (decode cX12_put 164 = .ok (.if_icmp .lt 36, 3)) ∧ (decode cX12_put 167 = .ok (.iload 6, 2)) ∧ (decode cX12_put 169 = .ok (.ifCond .eq 12, 3)) ∧ (decode cX12_put 172 = .ok (.aload_n 0, 1)) ∧ (decode cX12_put 173 = .ok (.getfield 74, 3)) := by decide +kernel
theorem dX12_put_158 : decode cX12_put 158 = .ok (.ifCond .eq 42, 3) := zd_593.1
theorem dX12_put_161 : decode cX12_put 161 = .ok (.iload 8, 2) := zd_593.2.1
theorem dX12_put_163 : decode cX12_put 163 = .ok (.iconst 1, 1) := zd_593.2.2.1
theorem dX12_put_164 : decode cX12_put 164 = .ok (.if_icmp .lt 36, 3) := zd_593.2.2.2.1
theorem dX12_put_167 : decode cX12_put 167 = .ok (.iload 6, 2) := zd_593.2.2.2.2.1
theorem dX12_put_169 : decode cX12_put 169 = .ok (.ifCond .eq 12, 3) := zd_593.2.2.2.2.2.1
theorem dX12_put_172 : decode cX12_put 172 = .ok (.aload_n 0, 1) := zd_593.2.2.2.2.2.2.1
theorem dX12_put_173 : decode cX12_put 173 = .ok (.getfield 74, 3) := zd_593.2.2.2.2.2.2.2
theorem zd_594 : (decode cX12_put 176 = .ok (.iload_n 1, 1)) ∧ (decode cX12_put 177 = .ok (.iaload, 1)) ∧ (decode cX12_put 178 = .ok (.ifCond .ne 22, 3)) ∧ (decode cX12_put 181 = .ok (.aload_n 0, 1)) ∧ (decode cX12_put 182 = .ok (.iload_n 2, 1)) ∧ (decode cX12_put 183 = .ok (.iload_n 3, 1)) ∧ (decode cX12_put 184 = .ok (.iload 4, 2)) ∧ (decode cX12_put 186 = .ok (.iload 7, 2)) := by decide +kernel
theorem dX12_put_176 : decode cX12_put 176 = .ok (.iload_n 1, 1) := zd_594.1
theorem dX12_put_177 : decode cX12_put 177 = .ok (.iaload, 1) := zd_594.2.1
theorem dX12_put_178 : decode cX12_put 178 = .ok (.ifCond .ne 22, 3) := zd_594.2.2.1
theorem dX12_put_181 : decode cX12_put 181 = .ok (.aload_n 0, 1) := zd_594.2.2.2.1
theorem dX12_put_182 : decode cX12_put 182 = .ok (.iload_n 2, 1) := zd_594.2.2.2.2.1
theorem dX12_put_183 : decode cX12_put 183 = .ok (.iload_n 3, 1) := zd_594.2.2.2.2.2.1
theorem dX12_put_184 : decode cX12_put 184 = .ok (.iload 4, 2) := zd_594.2.2.2.2.2.2.1
theorem dX12_put_186 : decode cX12_put 186 = .ok (.iload 7, 2) := zd_594.2.2.2.2.2.2.2
theorem zd_595 : (decode cX12_put 188 = .ok (.iload 8, 2)) ∧ (decode cX12_put 190 = .ok (.invokevirtual 212, 3)) ∧ (decode cX12_put 193 = .ok (.ifCond .eq 7, 3)) ∧ (decode cX12_put 196 = .ok (.iconst 1, 1)) ∧ (decode cX12_put 197 = .ok (.goto 4, 3)) ∧ (decode cX12_put 200 = .ok (.iconst 0, 1)) ∧ (decode cX12_put 201 = .ok (.istore 9, 2)) ∧ (decode cX12_put 203 = .ok (.iload 9, 2)) := by decide +kernel
theorem dX12_put_188 : decode cX12_put 188 = .ok (.iload 8, 2) := zd_595.1
theorem dX12_put_190 : decode cX12_put 190 = .ok (.invokevirtual 212, 3) := zd_595.2.1
theorem dX12_put_193 : decode cX12_put 193 = .ok (.ifCond .eq 7, 3) := zd_595.2.2.1
theorem dX12_put_196 : decode cX12_put 196 = .ok (.iconst 1, 1) := zd_595.2.2.2.1
theorem dX12_put_197 : decode cX12_put 197 = .ok (.goto 4, 3) := zd_595.2.2.2.2.1
theorem dX12_put_200 : decode cX12_put 200 = .ok (.iconst 0, 1) := zd_595.2.2.2.2.2.1
theorem dX12_put_201 : decode cX12_put 201 = .ok (.istore 9, 2) := zd_595.2.2.2.2.2.2.1
theorem dX12_put_203 : decode cX12_put 203 = .ok (.iload 9, 2) := zd_595.2.2.2.2.2.2.2
theorem zd_596 : (decode cX12_put 205 = .ok (.ifCond .ne 5, 3)) ∧ (decode cX12_put 208 = .ok (.iconst (-1), 1)) ∧ (decode cX12_put 209 = .ok (.ireturn, 1)) ∧ (decode cX12_put 210 = .ok (.iload 6, 2)) ∧ (decode cX12_put 212 = .ok (.tableswitch 131 0 5 #[40, 131, 131, 56, 97, 119], 40)) ∧ (decode cX12_put 252 = .ok (.aload_n 0, 1)) ∧ (decode cX12_put 253 = .ok (.iload_n 1, 1)) ∧ (decode cX12_put 254 = .ok (.iload_n 2, 1)) := by decide +kernel
theorem dX12_put_205 : decode cX12_put 205 = .ok (.ifCond .ne 5, 3) := zd_596.1
theorem dX12_put_208 : decode cX12_put 208 = .ok (.iconst (-1), 1) := zd_596.2.1
theorem dX12_put_209 : decode cX12_put 209 = .ok (.ireturn, 1) := zd_596.2.2.1
theorem dX12_put_210 : decode cX12_put 210 = .ok (.iload 6, 2) := zd_596.2.2.2.1
theorem dX12_put_212 : decode cX12_put 212 = .ok (.tableswitch 131 0 5 #[40, 131, 131, 56, 97, 119], 40) := zd_596.2.2.2.2.1
theorem dX12_put_252 : decode cX12_put 252 = .ok (.aload_n 0, 1) := zd_596.2.2.2.2.2.1
theorem dX12_put_253 : decode cX12_put 253 = .ok (.iload_n 1, 1) := zd_596.2.2.2.2.2.2.1
theorem dX12_put_254 : decode cX12_put 254 = .ok (.iload_n 2, 1) := zd_596.2.2.2.2.2.2.2
theorem zd_597 : (decode cX12_put 255 = .ok (.iload_n 3, 1)) ∧ (decode cX12_put 256 = .ok (.iload 4, 2)) ∧ (decode cX12_put 258 = .ok (.iload 8, 2)) ∧ (decode cX12_put 260 = .ok (.invokevirtual 216, 3)) ∧ (decode cX12_put 263 = .ok (.istore 9, 2)) ∧ (decode cX12_put 265 = .ok (.goto 78, 3)) ∧ (decode cX12_put 268 = .ok (.iload_n 2, 1)) ∧ (decode cX12_put 269 = .ok (.aload_n 0, 1)) := by decide +kernel
theorem dX12_put_255 : decode cX12_put 255 = .ok (.iload_n 3, 1) := zd_597.1
theorem dX12_put_256 : decode cX12_put 256 = .ok (.iload 4, 2) := zd_597.2.1
theorem dX12_put_258 : decode cX12_put 258 = .ok (.iload 8, 2) := zd_597.2.2.1
theorem dX12_put_260 : decode cX12_put 260 = .ok (.invokevirtual 216, 3) := zd_597.2.2.2.1
theorem dX12_put_263 : decode cX12_put 263 = .ok (.istore 9, 2) := zd_597.2.2.2.2.1
theorem dX12_put_265 : decode cX12_put 265 = .ok (.goto 78, 3) := zd_597.2.2.2.2.2.1
theorem dX12_put_268 : decode cX12_put 268 = .ok (.iload_n 2, 1) := zd_597.2.2.2.2.2.2.1
theorem dX12_put_269 : decode cX12_put 269 = .ok (.aload_n 0, 1) := zd_597.2.2.2.2.2.2.2
theorem zd_598 : (decode cX12_put 270 = .ok (.getfield 40, 3)) ∧ (decode cX12_put 273 = .ok (.iload_n 1, 1)) ∧ (decode cX12_put 274 = .ok (.iaload, 1)) ∧ (decode cX12_put 275 = .ok (.if_icmp .ne 28, 3)) ∧ (decode cX12_put 278 = .ok (.iload_n 3, 1)) ∧ (decode cX12_put 279 = .ok (.aload_n 0, 1)) ∧ (decode cX12_put 280 = .ok (.getfield 43, 3)) ∧ (decode cX12_put 283 = .ok (.iload_n 1, 1)) := by decide +kernel
theorem dX12_put_270 : decode cX12_put 270 = .ok (.getfield 40, 3) := zd_598.1
theorem dX12_put_273 : decode cX12_put 273 = .ok (.iload_n 1, 1) := zd_598.2.1
theorem dX12_put_274 : decode cX12_put 274 = .ok (.iaload, 1) := zd_598.2.2.1
theorem dX12_put_275 : decode cX12_put 275 = .ok (.if_icmp .ne 28, 3) := zd_598.2.2.2.1
theorem dX12_put_278 : decode cX12_put 278 = .ok (.iload_n 3, 1) := zd_598.2.2.2.2.1
theorem dX12_put_279 : decode cX12_put 279 = .ok (.aload_n 0, 1) := zd_598.2.2.2.2.2.1
theorem dX12_put_280 : decode cX12_put 280 = .ok (.getfield 43, 3) := zd_598.2.2.2.2.2.2.1
theorem dX12_put_283 : decode cX12_put 283 = .ok (.iload_n 1, 1) := zd_598.2.2.2.2.2.2.2
theorem zd_599 : (decode cX12_put 284 = .ok (.iaload, 1)) ∧ (decode cX12_put 285 = .ok (.if_icmp .ne 18, 3)) ∧ (decode cX12_put 288 = .ok (.iload 4, 2)) ∧ (decode cX12_put 290 = .ok (.aload_n 0, 1)) ∧ (decode cX12_put 291 = .ok (.getfield 46, 3)) ∧ (decode cX12_put 294 = .ok (.iload_n 1, 1)) ∧ (decode cX12_put 295 = .ok (.iaload, 1)) ∧ (decode cX12_put 296 = .ok (.if_icmp .ne 7, 3)) := by decide +kernel
theorem dX12_put_284 : decode cX12_put 284 = .ok (.iaload, 1) := zd_599.1
theorem dX12_put_285 : decode cX12_put 285 = .ok (.if_icmp .ne 18, 3) := zd_599.2.1
theorem dX12_put_288 : decode cX12_put 288 = .ok (.iload 4, 2) := zd_599.2.2.1
theorem dX12_put_290 : decode cX12_put 290 = .ok (.aload_n 0, 1) := zd_599.2.2.2.1
theorem dX12_put_291 : decode cX12_put 291 = .ok (.getfield 46, 3) := zd_599.2.2.2.2.1
theorem dX12_put_294 : decode cX12_put 294 = .ok (.iload_n 1, 1) := zd_599.2.2.2.2.2.1
theorem dX12_put_295 : decode cX12_put 295 = .ok (.iaload, 1) := zd_599.2.2.2.2.2.2.1
theorem dX12_put_296 : decode cX12_put 296 = .ok (.if_icmp .ne 7, 3) := zd_599.2.2.2.2.2.2.2
theorem zd_600 : (decode cX12_put 299 = .ok (.iconst 1, 1)) ∧ (decode cX12_put 300 = .ok (.goto 4, 3)) ∧ (decode cX12_put 303 = .ok (.iconst 0, 1)) ∧ (decode cX12_put 304 = .ok (.istore 9, 2)) ∧ (decode cX12_put 306 = .ok (.goto 37, 3)) ∧ (decode cX12_put 309 = .ok (.iload 8, 2)) ∧ (decode cX12_put 311 = .ok (.aload_n 0, 1)) ∧ (decode cX12_put 312 = .ok (.getfield 22, 3)) := by decide +kernel
theorem dX12_put_299 : decode cX12_put 299 = .ok (.iconst 1, 1) := zd_600.1
theorem dX12_put_300 : decode cX12_put 300 = .ok (.goto 4, 3) := zd_600.2.1
theorem dX12_put_303 : decode cX12_put 303 = .ok (.iconst 0, 1) := zd_600.2.2.1
theorem dX12_put_304 : decode cX12_put 304 = .ok (.istore 9, 2) := zd_600.2.2.2.1
theorem dX12_put_306 : decode cX12_put 306 = .ok (.goto 37, 3) := zd_600.2.2.2.2.1
theorem dX12_put_309 : decode cX12_put 309 = .ok (.iload 8, 2) := zd_600.2.2.2.2.2.1
theorem dX12_put_311 : decode cX12_put 311 = .ok (.aload_n 0, 1) := zd_600.2.2.2.2.2.2.1
theorem dX12_put_312 : decode cX12_put 312 = .ok (.getfield 22, 3) := zd_600.2.2.2.2.2.2.2
theorem zd_601 : (decode cX12_put 315 = .ok (.iload_n 1, 1)) ∧ (decode cX12_put 316 = .ok (.iaload, 1)) ∧ (decode cX12_put 317 = .ok (.aload_n 0, 1)) ∧ (decode cX12_put 318 = .ok (.getfield 25, 3)) ∧ (decode cX12_put 321 = .ok (.iload_n 1, 1)) ∧ (decode cX12_put 322 = .ok (.iaload, 1)) ∧ (decode cX12_put 323 = .ok (.invokestatic 143, 3)) ∧ (decode cX12_put 326 = .ok (.istore 9, 2)) := by decide +kernel
theorem dX12_put_315 : decode cX12_put 315 = .ok (.iload_n 1, 1) := zd_601.1
theorem dX12_put_316 : decode cX12_put 316 = .ok (.iaload, 1) := zd_601.2.1
theorem dX12_put_317 : decode cX12_put 317 = .ok (.aload_n 0, 1) := zd_601.2.2.1
theorem dX12_put_318 : decode cX12_put 318 = .ok (.getfield 25, 3) := zd_601.2.2.2.1
theorem dX12_put_321 : decode cX12_put 321 = .ok (.iload_n 1, 1) := zd_601.2.2.2.2.1
theorem dX12_put_322 : decode cX12_put 322 = .ok (.iaload, 1) := zd_601.2.2.2.2.2.1
theorem dX12_put_323 : decode cX12_put 323 = .ok (.invokestatic 143, 3) := zd_601.2.2.2.2.2.2.1
theorem dX12_put_326 : decode cX12_put 326 = .ok (.istore 9, 2) := zd_601.2.2.2.2.2.2.2
theorem zd_602 : (decode cX12_put 328 = .ok (.goto 15, 3)) ∧ (decode cX12_put 331 = .ok (.aload_n 0, 1)) ∧ (decode cX12_put 332 = .ok (.iload_n 1, 1)) ∧ (decode cX12_put 333 = .ok (.iload_n 2, 1)) ∧ (decode cX12_put 334 = .ok (.iload_n 3, 1)) ∧ (decode cX12_put 335 = .ok (.invokevirtual 219, 3)) ∧ (decode cX12_put 338 = .ok (.istore 9, 2)) ∧ (decode cX12_put 340 = .ok (.goto 3, 3)) := by decide +kernel
theorem dX12_put_328 : decode cX12_put 328 = .ok (.goto 15, 3) := zd_602.1
theorem dX12_put_331 : decode cX12_put 331 = .ok (.aload_n 0, 1) := zd_602.2.1
theorem dX12_put_332 : decode cX12_put 332 = .ok (.iload_n 1, 1) := zd_602.2.2.1
theorem dX12_put_333 : decode cX12_put 333 = .ok (.iload_n 2, 1) := zd_602.2.2.2.1
theorem dX12_put_334 : decode cX12_put 334 = .ok (.iload_n 3, 1) := zd_602.2.2.2.2.1
theorem dX12_put_335 : decode cX12_put 335 = .ok (.invokevirtual 219, 3) := zd_602.2.2.2.2.2.1
theorem dX12_put_338 : decode cX12_put 338 = .ok (.istore 9, 2) := zd_602.2.2.2.2.2.2.1
theorem dX12_put_340 : decode cX12_put 340 = .ok (.goto 3, 3) := zd_602.2.2.2.2.2.2.2
theorem zd_603 : (decode cX12_put 343 = .ok (.iload 9, 2)) ∧ (decode cX12_put 345 = .ok (.ifCond .ne 5, 3)) ∧ (decode cX12_put 348 = .ok (.iconst (-1), 1)) ∧ (decode cX12_put 349 = .ok (.ireturn, 1)) ∧ (decode cX12_put 350 = .ok (.aload_n 0, 1)) ∧ (decode cX12_put 351 = .ok (.iload_n 1, 1)) ∧ (decode cX12_put 352 = .ok (.iload_n 2, 1)) ∧ (decode cX12_put 353 = .ok (.iload_n 3, 1)) := by decide +kernel
theorem dX12_put_343 : decode cX12_put 343 = .ok (.iload 9, 2) := zd_603.1
theorem dX12_put_345 : decode cX12_put 345 = .ok (.ifCond .ne 5, 3) := zd_603.2.1
theorem dX12_put_348 : decode cX12_put 348 = .ok (.iconst (-1), 1) := zd_603.2.2.1
theorem dX12_put_349 : decode cX12_put 349 = .ok (.ireturn, 1) := zd_603.2.2.2.1
theorem dX12_put_350 : decode cX12_put 350 = .ok (.aload_n 0, 1) := zd_603.2.2.2.2.1
theorem dX12_put_351 : decode cX12_put 351 = .ok (.iload_n 1, 1) := zd_603.2.2.2.2.2.1
theorem dX12_put_352 : decode cX12_put 352 = .ok (.iload_n 2, 1) := zd_603.2.2.2.2.2.2.1
theorem dX12_put_353 : decode cX12_put 353 = .ok (.iload_n 3, 1) := zd_603.2.2.2.2.2.2.2
theorem zd_604 : (decode cX12_put 354 = .ok (.iload 4, 2)) ∧ (decode cX12_put 356 = .ok (.iload 7, 2)) ∧ (decode cX12_put 358 = .ok (.iload 8, 2)) ∧ (decode cX12_put 360 = .ok (.invokevirtual 196, 3)) ∧ (decode cX12_put 363 = .ok (.aload_n 0, 1)) ∧ (decode cX12_put 364 = .ok (.iconst 0, 1)) ∧ (decode cX12_put 365 = .ok (.iload_n 1, 1)) ∧ (decode cX12_put 366 = .ok (.iconst 0, 1)) := by decide +kernel
theorem dX12_put_354 : decode cX12_put 354 = .ok (.iload 4, 2) := zd_604.1
theorem dX12_put_356 : decode cX12_put 356 = .ok (.iload 7, 2) := zd_604.2.1
theorem dX12_put_358 : decode cX12_put 358 = .ok (.iload 8, 2) := zd_604.2.2.1
theorem dX12_put_360 : decode cX12_put 360 = .ok (.invokevirtual 196, 3) := zd_604.2.2.2.1
theorem dX12_put_363 : decode cX12_put 363 = .ok (.aload_n 0, 1) := zd_604.2.2.2.2.1
theorem dX12_put_364 : decode cX12_put 364 = .ok (.iconst 0, 1) := zd_604.2.2.2.2.2.1
theorem dX12_put_365 : decode cX12_put 365 = .ok (.iload_n 1, 1) := zd_604.2.2.2.2.2.2.1
theorem dX12_put_366 : decode cX12_put 366 = .ok (.iconst 0, 1) := zd_604.2.2.2.2.2.2.2
