theorem zd_246 : (decode cX11_piece 20 = .ok (.isub, 1)) ∧ (decode cX11_piece 21 = .ok (.invokestatic 55, 3)) ∧ (decode cX11_piece 24 = .ok (.ifCond .ne 5, 3)) ∧ (decode cX11_piece 27 = .ok (.iconst (-1), 1)) ∧ (decode cX11_piece 28 = .ok (.ireturn, 1)) ∧ (decode cX11_piece 29 = .ok (.aload 4, 2)) ∧ (decode cX11_piece 31 = .ok (.getfield 225, 3)) ∧ (decode cX11_piece 34 = .ok (.iload_n 2, 1)) := by decide +kernel
theorem dX11_piece_20 : decode cX11_piece 20 = .ok (.isub, 1) := zd_246.1
theorem dX11_piece_21 : decode cX11_piece 21 = .ok (.invokestatic 55, 3) := zd_246.2.1
theorem dX11_piece_24 : decode cX11_piece 24 = .ok (.ifCond .ne 5, 3) := zd_246.2.2.1
theorem dX11_piece_27 : decode cX11_piece 27 = .ok (.iconst (-1), 1) := zd_246.2.2.2.1
theorem dX11_piece_28 : decode cX11_piece 28 = .ok (.ireturn, 1) := zd_246.2.2.2.2.1
theorem dX11_piece_29 : decode cX11_piece 29 = .ok (.aload 4, 2) := zd_246.2.2.2.2.2.1
theorem dX11_piece_31 : decode cX11_piece 31 = .ok (.getfield 225, 3) := zd_246.2.2.2.2.2.2.1
theorem dX11_piece_34 : decode cX11_piece 34 = .ok (.iload_n 2, 1) := zd_246.2.2.2.2.2.2.2
theorem zd_247 : (decode cX11_piece 35 = .ok (.aaload, 1)) ∧ (decode cX11_piece 36 = .ok (.astore 5, 2)) ∧ (decode cX11_piece 38 = .ok (.iload_n 3, 1)) ∧ (decode cX11_piece 39 = .ok (.tableswitch 123 0 6 #[41, 47, 53, 59, 65, 71, 97], 41)) ∧ (decode cX11_piece 80 = .ok (.aload 5, 2)) ∧ (decode cX11_piece 82 = .ok (.getfield 229, 3)) ∧ (decode cX11_piece 85 = .ok (.ireturn, 1)) ∧ (decode cX11_piece 86 = .ok (.aload 5, 2)) := by decide +kernel
theorem dX11_piece_35 : decode cX11_piece 35 = .ok (.aaload, 1) := zd_247.1
theorem dX11_piece_36 : decode cX11_piece 36 = .ok (.astore 5, 2) := zd_247.2.1
theorem dX11_piece_38 : decode cX11_piece 38 = .ok (.iload_n 3, 1) := zd_247.2.2.1
theorem dX11_piece_39 : decode cX11_piece 39 = .ok (.tableswitch 123 0 6 #[41, 47, 53, 59, 65, 71, 97], 41) := zd_247.2.2.2.1
theorem dX11_piece_80 : decode cX11_piece 80 = .ok (.aload 5, 2) := zd_247.2.2.2.2.1
theorem dX11_piece_82 : decode cX11_piece 82 = .ok (.getfield 229, 3) := zd_247.2.2.2.2.2.1
theorem dX11_piece_85 : decode cX11_piece 85 = .ok (.ireturn, 1) := zd_247.2.2.2.2.2.2.1
theorem dX11_piece_86 : decode cX11_piece 86 = .ok (.aload 5, 2) := zd_247.2.2.2.2.2.2.2
theorem zd_248 : (decode cX11_piece 88 = .ok (.getfield 232, 3)) ∧ (decode cX11_piece 91 = .ok (.ireturn, 1)) ∧ (decode cX11_piece 92 = .ok (.aload 5, 2)) ∧ (decode cX11_piece 94 = .ok (.getfield 235, 3)) ∧ (decode cX11_piece 97 = .ok (.ireturn, 1)) ∧ (decode cX11_piece 98 = .ok (.aload 5, 2)) ∧ (decode cX11_piece 100 = .ok (.getfield 238, 3)) ∧ (decode cX11_piece 103 = .ok (.ireturn, 1)) := by decide +kernel
theorem dX11_piece_88 : decode cX11_piece 88 = .ok (.getfield 232, 3) := zd_248.1
theorem dX11_piece_91 : decode cX11_piece 91 = .ok (.ireturn, 1) := zd_248.2.1
theorem dX11_piece_92 : decode cX11_piece 92 = .ok (.aload 5, 2) := zd_248.2.2.1
theorem dX11_piece_94 : decode cX11_piece 94 = .ok (.getfield 235, 3) := zd_248.2.2.2.1
theorem dX11_piece_97 : decode cX11_piece 97 = .ok (.ireturn, 1) := zd_248.2.2.2.2.1
theorem dX11_piece_98 : decode cX11_piece 98 = .ok (.aload 5, 2) := zd_248.2.2.2.2.2.1
theorem dX11_piece_100 : decode cX11_piece 100 = .ok (.getfield 238, 3) := zd_248.2.2.2.2.2.2.1
theorem dX11_piece_103 : decode cX11_piece 103 = .ok (.ireturn, 1) := zd_248.2.2.2.2.2.2.2
theorem zd_249 : (decode cX11_piece 104 = .ok (.aload 5, 2)) ∧ (decode cX11_piece 106 = .ok (.getfield 241, 3)) ∧ (decode cX11_piece 109 = .ok (.ireturn, 1)) ∧ (decode cX11_piece 110 = .ok (.aload 4, 2)) ∧ (decode cX11_piece 112 = .ok (.instanceof 66, 3)) ∧ (decode cX11_piece 115 = .ok (.ifCond .eq 19, 3)) ∧ (decode cX11_piece 118 = .ok (.aload 4, 2)) ∧ (decode cX11_piece 120 = .ok (.checkcast 66, 3)) := by decide +kernel
theorem dX11_piece_104 : decode cX11_piece 104 = .ok (.aload 5, 2) := zd_249.1
theorem dX11_piece_106 : decode cX11_piece 106 = .ok (.getfield 241, 3) := zd_249.2.1
theorem dX11_piece_109 : decode cX11_piece 109 = .ok (.ireturn, 1) := zd_249.2.2.1
theorem dX11_piece_110 : decode cX11_piece 110 = .ok (.aload 4, 2) := zd_249.2.2.2.1
theorem dX11_piece_112 : decode cX11_piece 112 = .ok (.instanceof 66, 3) := zd_249.2.2.2.2.1
theorem dX11_piece_115 : decode cX11_piece 115 = .ok (.ifCond .eq 19, 3) := zd_249.2.2.2.2.2.1
theorem dX11_piece_118 : decode cX11_piece 118 = .ok (.aload 4, 2) := zd_249.2.2.2.2.2.2.1
theorem dX11_piece_120 : decode cX11_piece 120 = .ok (.checkcast 66, 3) := zd_249.2.2.2.2.2.2.2
theorem zd_250 : (decode cX11_piece 123 = .ok (.astore 6, 2)) ∧ (decode cX11_piece 125 = .ok (.aload 6, 2)) ∧ (decode cX11_piece 127 = .ok (.iload_n 2, 1)) ∧ (decode cX11_piece 128 = .ok (.invokevirtual 244, 3)) ∧ (decode cX11_piece 131 = .ok (.goto 4, 3)) ∧ (decode cX11_piece 134 = .ok (.iconst 0, 1)) ∧ (decode cX11_piece 135 = .ok (.ireturn, 1)) ∧ (decode cX11_piece 136 = .ok (.aload 4, 2)) := by decide +kernel
theorem dX11_piece_123 : decode cX11_piece 123 = .ok (.astore 6, 2) := zd_250.1
theorem dX11_piece_125 : decode cX11_piece 125 = .ok (.aload 6, 2) := zd_250.2.1
theorem dX11_piece_127 : decode cX11_piece 127 = .ok (.iload_n 2, 1) := zd_250.2.2.1
theorem dX11_piece_128 : decode cX11_piece 128 = .ok (.invokevirtual 244, 3) := zd_250.2.2.2.1
theorem dX11_piece_131 : decode cX11_piece 131 = .ok (.goto 4, 3) := zd_250.2.2.2.2.1
theorem dX11_piece_134 : decode cX11_piece 134 = .ok (.iconst 0, 1) := zd_250.2.2.2.2.2.1
theorem dX11_piece_135 : decode cX11_piece 135 = .ok (.ireturn, 1) := zd_250.2.2.2.2.2.2.1
theorem dX11_piece_136 : decode cX11_piece 136 = .ok (.aload 4, 2) := zd_250.2.2.2.2.2.2.2
theorem zd_251 : (decode cX11_piece 138 = .ok (.instanceof 66, 3)) ∧ (decode cX11_piece 141 = .ok (.ifCond .eq 19, 3)) ∧ (decode cX11_piece 144 = .ok (.aload 4, 2)) ∧ (decode cX11_piece 146 = .ok (.checkcast 66, 3)) ∧ (decode cX11_piece 149 = .ok (.astore 6, 2)) ∧ (decode cX11_piece 151 = .ok (.aload 6, 2)) ∧ (decode cX11_piece 153 = .ok (.iload_n 2, 1)) ∧ (decode cX11_piece 154 = .ok (.invokevirtual 247, 3)) := by decide +kernel
theorem dX11_piece_138 : decode cX11_piece 138 = .ok (.instanceof 66, 3) := zd_251.1
theorem dX11_piece_141 : decode cX11_piece 141 = .ok (.ifCond .eq 19, 3) := zd_251.2.1
theorem dX11_piece_144 : decode cX11_piece 144 = .ok (.aload 4, 2) := zd_251.2.2.1
theorem dX11_piece_146 : decode cX11_piece 146 = .ok (.checkcast 66, 3) := zd_251.2.2.2.1
theorem dX11_piece_149 : decode cX11_piece 149 = .ok (.astore 6, 2) := zd_251.2.2.2.2.1
theorem dX11_piece_151 : decode cX11_piece 151 = .ok (.aload 6, 2) := zd_251.2.2.2.2.2.1
theorem dX11_piece_153 : decode cX11_piece 153 = .ok (.iload_n 2, 1) := zd_251.2.2.2.2.2.2.1
theorem dX11_piece_154 : decode cX11_piece 154 = .ok (.invokevirtual 247, 3) := zd_251.2.2.2.2.2.2.2
theorem zd_252 : (decode cX11_piece 157 = .ok (.goto 4, 3)) ∧ (decode cX11_piece 160 = .ok (.iconst 0, 1)) ∧ (decode cX11_piece 161 = .ok (.ireturn, 1)) ∧ (decode cX11_piece 162 = .ok (.iconst (-1), 1)) ∧ (decode cX11_piece 163 = .ok (.ireturn, 1)) := by decide +kernel
theorem dX11_piece_157 : decode cX11_piece 157 = .ok (.goto 4, 3) := zd_252.1
theorem dX11_piece_160 : decode cX11_piece 160 = .ok (.iconst 0, 1) := zd_252.2.1
theorem dX11_piece_161 : decode cX11_piece 161 = .ok (.ireturn, 1) := zd_252.2.2.1
theorem dX11_piece_162 : decode cX11_piece 162 = .ok (.iconst (-1), 1) := zd_252.2.2.2.1
theorem dX11_piece_163 : decode cX11_piece 163 = .ok (.ireturn, 1) := zd_252.2.2.2.2
theorem zd_253 : (decode cX11_item 0 = .ok (.aload_n 0, 1)) ∧ (decode cX11_item 1 = .ok (.iload_n 1, 1)) ∧ (decode cX11_item 2 = .ok (.invokevirtual 75, 3)) ∧ (decode cX11_item 5 = .ok (.astore_n 3, 1)) ∧ (decode cX11_item 6 = .ok (.aload_n 3, 1)) ∧ (decode cX11_item 7 = .ok (.ifnonnull 5, 3)) ∧ (decode cX11_item 10 = .ok (.iconst (-1), 1)) ∧ (decode cX11_item 11 = .ok (.ireturn, 1)) := by decide +kernel
theorem dX11_item_0 : decode cX11_item 0 = .ok (.aload_n 0, 1) := zd_253.1
theorem dX11_item_1 : decode cX11_item 1 = .ok (.iload_n 1, 1) := zd_253.2.1
theorem dX11_item_2 : decode cX11_item 2 = .ok (.invokevirtual 75, 3) := zd_253.2.2.1
theorem dX11_item_5 : decode cX11_item 5 = .ok (.astore_n 3, 1) := zd_253.2.2.2.1
theorem dX11_item_6 : decode cX11_item 6 = .ok (.aload_n 3, 1) := zd_253.2.2.2.2.1
theorem dX11_item_7 : decode cX11_item 7 = .ok (.ifnonnull 5, 3) := zd_253.2.2.2.2.2.1
theorem dX11_item_10 : decode cX11_item 10 = .ok (.iconst (-1), 1) := zd_253.2.2.2.2.2.2.1
theorem dX11_item_11 : decode cX11_item 11 = .ok (.ireturn, 1) := zd_253.2.2.2.2.2.2.2
theorem zd_254 : (decode cX11_item 12 = .ok (.iload_n 2, 1)) ∧ (decode cX11_item 13 = .ok (.tableswitch 124 0 5 #[39, 44, 49, 72, 95, 101], 39)) ∧ (decode cX11_item 52 = .ok (.aload_n 3, 1)) ∧ (decode cX11_item 53 = .ok (.getfield 250, 3)) ∧ (decode cX11_item 56 = .ok (.ireturn, 1)) ∧ (decode cX11_item 57 = .ok (.aload_n 3, 1)) ∧ (decode cX11_item 58 = .ok (.getfield 170, 3)) ∧ (decode cX11_item 61 = .ok (.ireturn, 1)) := by decide +kernel
theorem dX11_item_12 : decode cX11_item 12 = .ok (.iload_n 2, 1) := zd_254.1
theorem dX11_item_13 : decode cX11_item 13 = .ok (.tableswitch 124 0 5 #[39, 44, 49, 72, 95, 101], 39) := zd_254.2.1
theorem dX11_item_52 : decode cX11_item 52 = .ok (.aload_n 3, 1) := zd_254.2.2.1
theorem dX11_item_53 : decode cX11_item 53 = .ok (.getfield 250, 3) := zd_254.2.2.2.1
theorem dX11_item_56 : decode cX11_item 56 = .ok (.ireturn, 1) := zd_254.2.2.2.2.1
theorem dX11_item_57 : decode cX11_item 57 = .ok (.aload_n 3, 1) := zd_254.2.2.2.2.2.1
theorem dX11_item_58 : decode cX11_item 58 = .ok (.getfield 170, 3) := zd_254.2.2.2.2.2.2.1
theorem dX11_item_61 : decode cX11_item 61 = .ok (.ireturn, 1) := zd_254.2.2.2.2.2.2.2
theorem zd_255 : (decode cX11_item 62 = .ok (.aload_n 3, 1)) ∧ (decode cX11_item 63 = .ok (.instanceof 66, 3)) ∧ (decode cX11_item 66 = .ok (.ifCond .eq 17, 3)) ∧ (decode cX11_item 69 = .ok (.aload_n 3, 1)) ∧ (decode cX11_item 70 = .ok (.checkcast 66, 3)) ∧ (decode cX11_item 73 = .ok (.astore 4, 2)) ∧ (decode cX11_item 75 = .ok (.aload 4, 2)) ∧ (decode cX11_item 77 = .ok (.getfield 251, 3)) := by decide +kernel
theorem dX11_item_62 : decode cX11_item 62 = .ok (.aload_n 3, 1) := zd_255.1
theorem dX11_item_63 : decode cX11_item 63 = .ok (.instanceof 66, 3) := zd_255.2.1
theorem dX11_item_66 : decode cX11_item 66 = .ok (.ifCond .eq 17, 3) := zd_255.2.2.1
theorem dX11_item_69 : decode cX11_item 69 = .ok (.aload_n 3, 1) := zd_255.2.2.2.1
theorem dX11_item_70 : decode cX11_item 70 = .ok (.checkcast 66, 3) := zd_255.2.2.2.2.1
theorem dX11_item_73 : decode cX11_item 73 = .ok (.astore 4, 2) := zd_255.2.2.2.2.2.1
theorem dX11_item_75 : decode cX11_item 75 = .ok (.aload 4, 2) := zd_255.2.2.2.2.2.2.1
theorem dX11_item_77 : decode cX11_item 77 = .ok (.getfield 251, 3) := zd_255.2.2.2.2.2.2.2
theorem zd_256 : (decode cX11_item 80 = .ok (.goto 4, 3)) ∧ (decode cX11_item 83 = .ok (.iconst (-1), 1)) ∧ (decode cX11_item 84 = .ok (.ireturn, 1)) ∧ (decode cX11_item 85 = .ok (.aload_n 3, 1)) ∧ (decode cX11_item 86 = .ok (.instanceof 66, 3)) ∧ (decode cX11_item 89 = .ok (.ifCond .eq 17, 3)) ∧ (decode cX11_item 92 = .ok (.aload_n 3, 1)) ∧ (decode cX11_item 93 = .ok (.checkcast 66, 3)) := by decide +kernel
theorem dX11_item_80 : decode cX11_item 80 = .ok (.goto 4, 3) := zd_256.1
theorem dX11_item_83 : decode cX11_item 83 = .ok (.iconst (-1), 1) := zd_256.2.1
theorem dX11_item_84 : decode cX11_item 84 = .ok (.ireturn, 1) := zd_256.2.2.1
theorem dX11_item_85 : decode cX11_item 85 = .ok (.aload_n 3, 1) := zd_256.2.2.2.1
theorem dX11_item_86 : decode cX11_item 86 = .ok (.instanceof 66, 3) := zd_256.2.2.2.2.1
theorem dX11_item_89 : decode cX11_item 89 = .ok (.ifCond .eq 17, 3) := zd_256.2.2.2.2.2.1
theorem dX11_item_92 : decode cX11_item 92 = .ok (.aload_n 3, 1) := zd_256.2.2.2.2.2.2.1
theorem dX11_item_93 : decode cX11_item 93 = .ok (.checkcast 66, 3) := zd_256.2.2.2.2.2.2.2
theorem zd_257 : (decode cX11_item 96 = .ok (.astore 4, 2)) ∧ (decode cX11_item 98 = .ok (.aload 4, 2)) ∧ (decode cX11_item 100 = .ok (.invokevirtual 254, 3)) ∧ (decode cX11_item 103 = .ok (.goto 4, 3)) ∧ (decode cX11_item 106 = .ok (.iconst (-1), 1)) ∧ (decode cX11_item 107 = .ok (.ireturn, 1)) ∧ (decode cX11_item 108 = .ok (.aload_n 0, 1)) ∧ (decode cX11_item 109 = .ok (.aload_n 3, 1)) := by decide +kernel
theorem dX11_item_96 : decode cX11_item 96 = .ok (.astore 4, 2) := zd_257.1
theorem dX11_item_98 : decode cX11_item 98 = .ok (.aload 4, 2) := zd_257.2.1
theorem dX11_item_100 : decode cX11_item 100 = .ok (.invokevirtual 254, 3) := zd_257.2.2.1
theorem dX11_item_103 : decode cX11_item 103 = .ok (.goto 4, 3) := zd_257.2.2.2.1
theorem dX11_item_106 : decode cX11_item 106 = .ok (.iconst (-1), 1) := zd_257.2.2.2.2.1
theorem dX11_item_107 : decode cX11_item 107 = .ok (.ireturn, 1) := zd_257.2.2.2.2.2.1
theorem dX11_item_108 : decode cX11_item 108 = .ok (.aload_n 0, 1) := zd_257.2.2.2.2.2.2.1
theorem dX11_item_109 : decode cX11_item 109 = .ok (.aload_n 3, 1) := zd_257.2.2.2.2.2.2.2
theorem zd_258 : (decode cX11_item 110 = .ok (.invokevirtual 257, 3)) ∧ (decode cX11_item 113 = .ok (.ireturn, 1)) ∧ (decode cX11_item 114 = .ok (.aload_n 3, 1)) ∧ (decode cX11_item 115 = .ok (.instanceof 104, 3)) ∧ (decode cX11_item 118 = .ok (.ifCond .eq 17, 3)) ∧ (decode cX11_item 121 = .ok (.aload_n 3, 1)) ∧ (decode cX11_item 122 = .ok (.checkcast 104, 3)) ∧ (decode cX11_item 125 = .ok (.astore 4, 2)) := by decide +kernel
theorem dX11_item_110 : decode cX11_item 110 = .ok (.invokevirtual 257, 3) := zd_258.1
theorem dX11_item_113 : decode cX11_item 113 = .ok (.ireturn, 1) := zd_258.2.1
theorem dX11_item_114 : decode cX11_item 114 = .ok (.aload_n 3, 1) := zd_258.2.2.1
theorem dX11_item_115 : decode cX11_item 115 = .ok (.instanceof 104, 3) := zd_258.2.2.2.1
theorem dX11_item_118 : decode cX11_item 118 = .ok (.ifCond .eq 17, 3) := zd_258.2.2.2.2.1
theorem dX11_item_121 : decode cX11_item 121 = .ok (.aload_n 3, 1) := zd_258.2.2.2.2.2.1
theorem dX11_item_122 : decode cX11_item 122 = .ok (.checkcast 104, 3) := zd_258.2.2.2.2.2.2.1
theorem dX11_item_125 : decode cX11_item 125 = .ok (.astore 4, 2) := zd_258.2.2.2.2.2.2.2
theorem zd_259 : (decode cX11_item 127 = .ok (.aload 4, 2)) ∧ (decode cX11_item 129 = .ok (.getfield 260, 3)) ∧ (decode cX11_item 132 = .ok (.goto 4, 3)) ∧ (decode cX11_item 135 = .ok (.iconst (-1), 1)) ∧ (decode cX11_item 136 = .ok (.ireturn, 1)) ∧ (decode cX11_item 137 = .ok (.iconst (-1), 1)) ∧ (decode cX11_item 138 = .ok (.ireturn, 1)) := by decide +kernel
theorem dX11_item_127 : decode cX11_item 127 = .ok (.aload 4, 2) := zd_259.1
theorem dX11_item_129 : decode cX11_item 129 = .ok (.getfield 260, 3) := zd_259.2.1
theorem dX11_item_132 : decode cX11_item 132 = .ok (.goto 4, 3) := zd_259.2.2.1
theorem dX11_item_135 : decode cX11_item 135 = .ok (.iconst (-1), 1) := zd_259.2.2.2.1
theorem dX11_item_136 : decode cX11_item 136 = .ok (.ireturn, 1) := zd_259.2.2.2.2.1
theorem dX11_item_137 : decode cX11_item 137 = .ok (.iconst (-1), 1) := zd_259.2.2.2.2.2.1
theorem dX11_item_138 : decode cX11_item 138 = .ok (.ireturn, 1) := zd_259.2.2.2.2.2.2
theorem zd_260 : (decode cX11_shortOf 0 = .ok (.iload_n 1, 1)) ∧ (decode cX11_shortOf 1 = .ok (.invokestatic 48, 3)) ∧ (decode cX11_shortOf 4 = .ok (.ifCond .eq 23, 3)) ∧ (decode cX11_shortOf 7 = .ok (.iload_n 2, 1)) ∧ (decode cX11_shortOf 8 = .ok (.invokestatic 52, 3)) ∧ (decode cX11_shortOf 11 = .ok (.ifCond .eq 16, 3)) ∧ (decode cX11_shortOf 14 = .ok (.aload_n 0, 1)) ∧ (decode cX11_shortOf 15 = .ok (.getfield 11, 3)) := by decide +kernel
theorem dX11_shortOf_0 : decode cX11_shortOf 0 = .ok (.iload_n 1, 1) := zd_260.1
theorem dX11_shortOf_1 : decode cX11_shortOf 1 = .ok (.invokestatic 48, 3) := zd_260.2.1
theorem dX11_shortOf_4 : decode cX11_shortOf 4 = .ok (.ifCond .eq 23, 3) := zd_260.2.2.1
theorem dX11_shortOf_7 : decode cX11_shortOf 7 = .ok (.iload_n 2, 1) := zd_260.2.2.2.1
theorem dX11_shortOf_8 : decode cX11_shortOf 8 = .ok (.invokestatic 52, 3) := zd_260.2.2.2.2.1
theorem dX11_shortOf_11 : decode cX11_shortOf 11 = .ok (.ifCond .eq 16, 3) := zd_260.2.2.2.2.2.1
theorem dX11_shortOf_14 : decode cX11_shortOf 14 = .ok (.aload_n 0, 1) := zd_260.2.2.2.2.2.2.1
theorem dX11_shortOf_15 : decode cX11_shortOf 15 = .ok (.getfield 11, 3) := zd_260.2.2.2.2.2.2.2
theorem zd_261 : (decode cX11_shortOf 18 = .ok (.iload_n 1, 1)) ∧ (decode cX11_shortOf 19 = .ok (.aaload, 1)) ∧ (decode cX11_shortOf 20 = .ok (.iload_n 2, 1)) ∧ (decode cX11_shortOf 21 = .ok (.invokevirtual 263, 3)) ∧ (decode cX11_shortOf 24 = .ok (.goto 4, 3)) ∧ (decode cX11_shortOf 27 = .ok (.iconst (-1), 1)) ∧ (decode cX11_shortOf 28 = .ok (.ireturn, 1)) := by decide +kernel
theorem dX11_shortOf_18 : decode cX11_shortOf 18 = .ok (.iload_n 1, 1) := zd_261.1
theorem dX11_shortOf_19 : decode cX11_shortOf 19 = .ok (.aaload, 1) := zd_261.2.1
theorem dX11_shortOf_20 : decode cX11_shortOf 20 = .ok (.iload_n 2, 1) := zd_261.2.2.1
theorem dX11_shortOf_21 : decode cX11_shortOf 21 = .ok (.invokevirtual 263, 3) := zd_261.2.2.2.1
theorem dX11_shortOf_24 : decode cX11_shortOf 24 = .ok (.goto 4, 3) := zd_261.2.2.2.2.1
theorem dX11_shortOf_27 : decode cX11_shortOf 27 = .ok (.iconst (-1), 1) := zd_261.2.2.2.2.2.1
theorem dX11_shortOf_28 : decode cX11_shortOf 28 = .ok (.ireturn, 1) := zd_261.2.2.2.2.2.2
theorem zd_262 : (decode cX11_broken 0 = .ok (.iload_n 1, 1)) ∧ (decode cX11_broken 1 = .ok (.invokestatic 48, 3)) ∧ (decode cX11_broken 4 = .ok (.ifCond .eq 12, 3)) ∧ (decode cX11_broken 7 = .ok (.iload_n 2, 1)) ∧ (decode cX11_broken 8 = .ok (.iconst 0, 1)) ∧ (decode cX11_broken 9 = .ok (.iconst 2, 1)) ∧ (decode cX11_broken 10 = .ok (.invokestatic 55, 3)) ∧ (decode cX11_broken 13 = .ok (.ifCond .ne 5, 3)) := by decide +kernel
theorem dX11_broken_0 : decode cX11_broken 0 = .ok (.iload_n 1, 1) := zd_262.1
theorem dX11_broken_1 : decode cX11_broken 1 = .ok (.invokestatic 48, 3) := zd_262.2.1
theorem dX11_broken_4 : decode cX11_broken 4 = .ok (.ifCond .eq 12, 3) := zd_262.2.2.1
theorem dX11_broken_7 : decode cX11_broken 7 = .ok (.iload_n 2, 1) := zd_262.2.2.2.1
theorem dX11_broken_8 : decode cX11_broken 8 = .ok (.iconst 0, 1) := zd_262.2.2.2.2.1
theorem dX11_broken_9 : decode cX11_broken 9 = .ok (.iconst 2, 1) := zd_262.2.2.2.2.2.1
theorem dX11_broken_10 : decode cX11_broken 10 = .ok (.invokestatic 55, 3) := zd_262.2.2.2.2.2.2.1
theorem dX11_broken_13 : decode cX11_broken 13 = .ok (.ifCond .ne 5, 3) := zd_262.2.2.2.2.2.2.2
theorem zd_263 : (decode cX11_broken 16 = .ok (.iconst (-1), 1)) ∧ (decode cX11_broken 17 = .ok (.ireturn, 1)) ∧ (decode cX11_broken 18 = .ok (.aload_n 0, 1)) ∧ (decode cX11_broken 19 = .ok (.iload_n 1, 1)) ∧ (decode cX11_broken 20 = .ok (.invokevirtual 197, 3)) ∧ (decode cX11_broken 23 = .ok (.astore_n 3, 1)) ∧ (decode cX11_broken 24 = .ok (.iload_n 2, 1)) ∧ (decode cX11_broken 25 = .ok (.ifCond .ne 8, 3)) := by decide +kernel
theorem dX11_broken_16 : decode cX11_broken 16 = .ok (.iconst (-1), 1) := zd_263.1
theorem dX11_broken_17 : decode cX11_broken 17 = .ok (.ireturn, 1) := zd_263.2.1
theorem dX11_broken_18 : decode cX11_broken 18 = .ok (.aload_n 0, 1) := zd_263.2.2.1
theorem dX11_broken_19 : decode cX11_broken 19 = .ok (.iload_n 1, 1) := zd_263.2.2.2.1
theorem dX11_broken_20 : decode cX11_broken 20 = .ok (.invokevirtual 197, 3) := zd_263.2.2.2.2.1
theorem dX11_broken_23 : decode cX11_broken 23 = .ok (.astore_n 3, 1) := zd_263.2.2.2.2.2.1
theorem dX11_broken_24 : decode cX11_broken 24 = .ok (.iload_n 2, 1) := zd_263.2.2.2.2.2.2.1
theorem dX11_broken_25 : decode cX11_broken 25 = .ok (.ifCond .ne 8, 3) := zd_263.2.2.2.2.2.2.2
theorem zd_264 : (decode cX11_broken 28 = .ok (.aload_n 3, 1)) ∧ (decode cX11_broken 29 = .ok (.getfield 201, 3)) ∧ (decode cX11_broken 32 = .ok (.ireturn, 1)) ∧ (decode cX11_broken 33 = .ok (.iload_n 2, 1)) ∧ (decode cX11_broken 34 = .ok (.iconst 1, 1)) ∧ (decode cX11_broken 35 = .ok (.if_icmp .ne 10, 3)) ∧ (decode cX11_broken 38 = .ok (.aload_n 3, 1)) ∧ (decode cX11_broken 39 = .ok (.getfield 266, 3)) := by decide +kernel
theorem dX11_broken_28 : decode cX11_broken 28 = .ok (.aload_n 3, 1) := zd_264.1
theorem dX11_broken_29 : decode cX11_broken 29 = .ok (.getfield 201, 3) := zd_264.2.1
theorem dX11_broken_32 : decode cX11_broken 32 = .ok (.ireturn, 1) := zd_264.2.2.1
theorem dX11_broken_33 : decode cX11_broken 33 = .ok (.iload_n 2, 1) := zd_264.2.2.2.1
theorem dX11_broken_34 : decode cX11_broken 34 = .ok (.iconst 1, 1) := zd_264.2.2.2.2.1
theorem dX11_broken_35 : decode cX11_broken 35 = .ok (.if_icmp .ne 10, 3) := zd_264.2.2.2.2.2.1
theorem dX11_broken_38 : decode cX11_broken 38 = .ok (.aload_n 3, 1) := zd_264.2.2.2.2.2.2.1
theorem dX11_broken_39 : decode cX11_broken 39 = .ok (.getfield 266, 3) := zd_264.2.2.2.2.2.2.2
theorem zd_265 : (decode cX11_broken 42 = .ok (.goto 7, 3)) ∧ (decode cX11_broken 45 = .ok (.aload_n 3, 1)) ∧ (decode cX11_broken 46 = .ok (.getfield 269, 3)) ∧ (decode cX11_broken 49 = .ok (.ireturn, 1)) := by decide +kernel
theorem dX11_broken_42 : decode cX11_broken 42 = .ok (.goto 7, 3) := zd_265.1
theorem dX11_broken_45 : decode cX11_broken 45 = .ok (.aload_n 3, 1) := zd_265.2.1
theorem dX11_broken_46 : decode cX11_broken 46 = .ok (.getfield 269, 3) := zd_265.2.2.1
theorem dX11_broken_49 : decode cX11_broken 49 = .ok (.ireturn, 1) := zd_265.2.2.2
theorem zd_266 : (decode cX11_printed 0 = .ok (.aload_n 0, 1)) ∧ (decode cX11_printed 1 = .ok (.iload_n 1, 1)) ∧ (decode cX11_printed 2 = .ok (.invokevirtual 75, 3)) ∧ (decode cX11_printed 5 = .ok (.astore_n 3, 1)) ∧ (decode cX11_printed 6 = .ok (.aload_n 3, 1)) ∧ (decode cX11_printed 7 = .ok (.ifnonnull 7, 3)) ∧ (decode cX11_printed 10 = .ok (.iconst (-1), 1)) ∧ (decode cX11_printed 11 = .ok (.goto 9, 3)) := by decide +kernel
theorem dX11_printed_0 : decode cX11_printed 0 = .ok (.aload_n 0, 1) := zd_266.1
theorem dX11_printed_1 : decode cX11_printed 1 = .ok (.iload_n 1, 1) := zd_266.2.1
theorem dX11_printed_2 : decode cX11_printed 2 = .ok (.invokevirtual 75, 3) := zd_266.2.2.1
theorem dX11_printed_5 : decode cX11_printed 5 = .ok (.astore_n 3, 1) := zd_266.2.2.2.1
theorem dX11_printed_6 : decode cX11_printed 6 = .ok (.aload_n 3, 1) := zd_266.2.2.2.2.1
theorem dX11_printed_7 : decode cX11_printed 7 = .ok (.ifnonnull 7, 3) := zd_266.2.2.2.2.2.1
theorem dX11_printed_10 : decode cX11_printed 10 = .ok (.iconst (-1), 1) := zd_266.2.2.2.2.2.2.1
theorem dX11_printed_11 : decode cX11_printed 11 = .ok (.goto 9, 3) := zd_266.2.2.2.2.2.2.2
theorem zd_267 : (decode cX11_printed 14 = .ok (.aload_n 0, 1)) ∧ (decode cX11_printed 15 = .ok (.aload_n 3, 1)) ∧ (decode cX11_printed 16 = .ok (.iload_n 2, 1)) ∧ (decode cX11_printed 17 = .ok (.invokevirtual 121, 3)) ∧ (decode cX11_printed 20 = .ok (.ireturn, 1)) := by decide +kernel
theorem dX11_printed_14 : decode cX11_printed 14 = .ok (.aload_n 0, 1) := zd_267.1
theorem dX11_printed_15 : decode cX11_printed 15 = .ok (.aload_n 3, 1) := zd_267.2.1
theorem dX11_printed_16 : decode cX11_printed 16 = .ok (.iload_n 2, 1) := zd_267.2.2.1
theorem dX11_printed_17 : decode cX11_printed 17 = .ok (.invokevirtual 121, 3) := zd_267.2.2.2.1
theorem dX11_printed_20 : decode cX11_printed 20 = .ok (.ireturn, 1) := zd_267.2.2.2.2
theorem zd_268 : (decode cX11_plated 0 = .ok (.aload_n 0, 1)) ∧ (decode cX11_plated 1 = .ok (.iload_n 1, 1)) ∧ (decode cX11_plated 2 = .ok (.invokevirtual 272, 3)) ∧ (decode cX11_plated 5 = .ok (.ifCond .eq 17, 3)) ∧ (decode cX11_plated 8 = .ok (.aload_n 0, 1)) ∧ (decode cX11_plated 9 = .ok (.getfield 15, 3)) ∧ (decode cX11_plated 12 = .ok (.iload_n 1, 1)) ∧ (decode cX11_plated 13 = .ok (.aaload, 1)) := by decide +kernel
theorem dX11_plated_0 : decode cX11_plated 0 = .ok (.aload_n 0, 1) := zd_268.1
theorem dX11_plated_1 : decode cX11_plated 1 = .ok (.iload_n 1, 1) := zd_268.2.1
theorem dX11_plated_2 : decode cX11_plated 2 = .ok (.invokevirtual 272, 3) := zd_268.2.2.1
theorem dX11_plated_5 : decode cX11_plated 5 = .ok (.ifCond .eq 17, 3) := zd_268.2.2.2.1
theorem dX11_plated_8 : decode cX11_plated 8 = .ok (.aload_n 0, 1) := zd_268.2.2.2.2.1
theorem dX11_plated_9 : decode cX11_plated 9 = .ok (.getfield 15, 3) := zd_268.2.2.2.2.2.1
theorem dX11_plated_12 : decode cX11_plated 12 = .ok (.iload_n 1, 1) := zd_268.2.2.2.2.2.2.1
theorem dX11_plated_13 : decode cX11_plated 13 = .ok (.aaload, 1) := zd_268.2.2.2.2.2.2.2
theorem zd_269 : (decode cX11_plated 14 = .ok (.iload_n 2, 1)) ∧ (decode cX11_plated 15 = .ok (.iload_n 3, 1)) ∧ (decode cX11_plated 16 = .ok (.invokevirtual 222, 3)) ∧ (decode cX11_plated 19 = .ok (.goto 4, 3)) ∧ (decode cX11_plated 22 = .ok (.iconst (-1), 1)) ∧ (decode cX11_plated 23 = .ok (.ireturn, 1)) := by decide +kernel
theorem dX11_plated_14 : decode cX11_plated 14 = .ok (.iload_n 2, 1) := zd_269.1
theorem dX11_plated_15 : decode cX11_plated 15 = .ok (.iload_n 3, 1) := zd_269.2.1
theorem dX11_plated_16 : decode cX11_plated 16 = .ok (.invokevirtual 222, 3) := zd_269.2.2.1
theorem dX11_plated_19 : decode cX11_plated 19 = .ok (.goto 4, 3) := zd_269.2.2.2.1
theorem dX11_plated_22 : decode cX11_plated 22 = .ok (.iconst (-1), 1) := zd_269.2.2.2.2.1
theorem dX11_plated_23 : decode cX11_plated 23 = .ok (.ireturn, 1) := zd_269.2.2.2.2.2
theorem zd_270 : (decode cX11_plateOf 0 = .ok (.aload_n 0, 1)) ∧ (decode cX11_plateOf 1 = .ok (.iload_n 1, 1)) ∧ (decode cX11_plateOf 2 = .ok (.invokevirtual 272, 3)) ∧ (decode cX11_plateOf 5 = .ok (.ifCond .ne 5, 3)) ∧ (decode cX11_plateOf 8 = .ok (.iconst (-1), 1)) ∧ (decode cX11_plateOf 9 = .ok (.ireturn, 1)) ∧ (decode cX11_plateOf 10 = .ok (.iload_n 2, 1)) ∧ (decode cX11_plateOf 11 = .ok (.lookupswitch 45 #[(0, 25), (1, 35)], 25)) := by decide +kernel
theorem dX11_plateOf_0 : decode cX11_plateOf 0 = .ok (.aload_n 0, 1) := zd_270.1
theorem dX11_plateOf_1 : decode cX11_plateOf 1 = .ok (.iload_n 1, 1) := zd_270.2.1
theorem dX11_plateOf_2 : decode cX11_plateOf 2 = .ok (.invokevirtual 272, 3) := zd_270.2.2.1
theorem dX11_plateOf_5 : decode cX11_plateOf 5 = .ok (.ifCond .ne 5, 3) := zd_270.2.2.2.1
theorem dX11_plateOf_8 : decode cX11_plateOf 8 = .ok (.iconst (-1), 1) := zd_270.2.2.2.2.1
theorem dX11_plateOf_9 : decode cX11_plateOf 9 = .ok (.ireturn, 1) := zd_270.2.2.2.2.2.1
theorem dX11_plateOf_10 : decode cX11_plateOf 10 = .ok (.iload_n 2, 1) := zd_270.2.2.2.2.2.2.1
theorem dX11_plateOf_11 : decode cX11_plateOf 11 = .ok (.lookupswitch 45 #[(0, 25), (1, 35)], 25) := zd_270.2.2.2.2.2.2.2
theorem zd_271 : (decode cX11_plateOf 36 = .ok (.aload_n 0, 1)) ∧ (decode cX11_plateOf 37 = .ok (.getfield 15, 3)) ∧ (decode cX11_plateOf 40 = .ok (.iload_n 1, 1)) ∧ (decode cX11_plateOf 41 = .ok (.aaload, 1)) ∧ (decode cX11_plateOf 42 = .ok (.getfield 210, 3)) ∧ (decode cX11_plateOf 45 = .ok (.ireturn, 1)) ∧ (decode cX11_plateOf 46 = .ok (.aload_n 0, 1)) ∧ (decode cX11_plateOf 47 = .ok (.getfield 15, 3)) := by decide +kernel
theorem dX11_plateOf_36 : decode cX11_plateOf 36 = .ok (.aload_n 0, 1) := zd_271.1
theorem dX11_plateOf_37 : decode cX11_plateOf 37 = .ok (.getfield 15, 3) := zd_271.2.1
theorem dX11_plateOf_40 : decode cX11_plateOf 40 = .ok (.iload_n 1, 1) := zd_271.2.2.1
theorem dX11_plateOf_41 : decode cX11_plateOf 41 = .ok (.aaload, 1) := zd_271.2.2.2.1
theorem dX11_plateOf_42 : decode cX11_plateOf 42 = .ok (.getfield 210, 3) := zd_271.2.2.2.2.1
theorem dX11_plateOf_45 : decode cX11_plateOf 45 = .ok (.ireturn, 1) := zd_271.2.2.2.2.2.1
theorem dX11_plateOf_46 : decode cX11_plateOf 46 = .ok (.aload_n 0, 1) := zd_271.2.2.2.2.2.2.1
theorem dX11_plateOf_47 : decode cX11_plateOf 47 = .ok (.getfield 15, 3) := zd_271.2.2.2.2.2.2.2
theorem zd_272 : (decode cX11_plateOf 50 = .ok (.iload_n 1, 1)) ∧ (decode cX11_plateOf 51 = .ok (.aaload, 1)) ∧ (decode cX11_plateOf 52 = .ok (.getfield 213, 3)) ∧ (decode cX11_plateOf 55 = .ok (.ireturn, 1)) ∧ (decode cX11_plateOf 56 = .ok (.iconst (-1), 1)) ∧ (decode cX11_plateOf 57 = .ok (.ireturn, 1)) := by decide +kernel
theorem dX11_plateOf_50 : decode cX11_plateOf 50 = .ok (.iload_n 1, 1) := zd_272.1
theorem dX11_plateOf_51 : decode cX11_plateOf 51 = .ok (.aaload, 1) := zd_272.2.1
theorem dX11_plateOf_52 : decode cX11_plateOf 52 = .ok (.getfield 213, 3) := zd_272.2.2.1
theorem dX11_plateOf_55 : decode cX11_plateOf 55 = .ok (.ireturn, 1) := zd_272.2.2.2.1
theorem dX11_plateOf_56 : decode cX11_plateOf 56 = .ok (.iconst (-1), 1) := zd_272.2.2.2.2.1
theorem dX11_plateOf_57 : decode cX11_plateOf 57 = .ok (.ireturn, 1) := zd_272.2.2.2.2.2
theorem zd_273 : (decode cX11_bill 0 = .ok (.iload_n 1, 1)) ∧ (decode cX11_bill 1 = .ok (.invokestatic 101, 3)) ∧ (decode cX11_bill 4 = .ok (.ifCond .eq 15, 3)) ∧ (decode cX11_bill 7 = .ok (.iload_n 2, 1)) ∧ (decode cX11_bill 8 = .ok (.iconst 0, 1)) ∧ (decode cX11_bill 9 = .ok (.aload_n 0, 1)) ∧ (decode cX11_bill 10 = .ok (.getfield 41, 3)) ∧ (decode cX11_bill 13 = .ok (.invokestatic 55, 3)) := by decide +kernel
theorem dX11_bill_0 : decode cX11_bill 0 = .ok (.iload_n 1, 1) := zd_273.1
theorem dX11_bill_1 : decode cX11_bill 1 = .ok (.invokestatic 101, 3) := zd_273.2.1
theorem dX11_bill_4 : decode cX11_bill 4 = .ok (.ifCond .eq 15, 3) := zd_273.2.2.1
theorem dX11_bill_7 : decode cX11_bill 7 = .ok (.iload_n 2, 1) := zd_273.2.2.2.1
theorem dX11_bill_8 : decode cX11_bill 8 = .ok (.iconst 0, 1) := zd_273.2.2.2.2.1
theorem dX11_bill_9 : decode cX11_bill 9 = .ok (.aload_n 0, 1) := zd_273.2.2.2.2.2.1
theorem dX11_bill_10 : decode cX11_bill 10 = .ok (.getfield 41, 3) := zd_273.2.2.2.2.2.2.1
theorem dX11_bill_13 : decode cX11_bill 13 = .ok (.invokestatic 55, 3) := zd_273.2.2.2.2.2.2.2
theorem zd_274 : (decode cX11_bill 16 = .ok (.ifCond .ne 5, 3)) ∧ (decode cX11_bill 19 = .ok (.iconst (-1), 1)) ∧ (decode cX11_bill 20 = .ok (.ireturn, 1)) ∧ (decode cX11_bill 21 = .ok (.iconst 0, 1)) ∧ (decode cX11_bill 22 = .ok (.istore_n 3, 1)) ∧ (decode cX11_bill 23 = .ok (.iconst 0, 1)) ∧ (decode cX11_bill 24 = .ok (.istore 4, 2)) ∧ (decode cX11_bill 26 = .ok (.iload 4, 2)) := by decide +kernel
theorem dX11_bill_16 : decode cX11_bill 16 = .ok (.ifCond .ne 5, 3) := zd_274.1
theorem dX11_bill_19 : decode cX11_bill 19 = .ok (.iconst (-1), 1) := zd_274.2.1
theorem dX11_bill_20 : decode cX11_bill 20 = .ok (.ireturn, 1) := zd_274.2.2.1
theorem dX11_bill_21 : decode cX11_bill 21 = .ok (.iconst 0, 1) := zd_274.2.2.2.1
theorem dX11_bill_22 : decode cX11_bill 22 = .ok (.istore_n 3, 1) := zd_274.2.2.2.2.1
theorem dX11_bill_23 : decode cX11_bill 23 = .ok (.iconst 0, 1) := zd_274.2.2.2.2.2.1
theorem dX11_bill_24 : decode cX11_bill 24 = .ok (.istore 4, 2) := zd_274.2.2.2.2.2.2.1
theorem dX11_bill_26 : decode cX11_bill 26 = .ok (.iload 4, 2) := zd_274.2.2.2.2.2.2.2
theorem zd_275 : (decode cX11_bill 28 = .ok (.aload_n 0, 1)) ∧ (decode cX11_bill 29 = .ok (.getfield 24, 3)) ∧ (decode cX11_bill 32 = .ok (.if_icmp .ge 60, 3)) ∧ (decode cX11_bill 35 = .ok (.aload_n 0, 1)) ∧ (decode cX11_bill 36 = .ok (.getfield 20, 3)) ∧ (decode cX11_bill 39 = .ok (.iload 4, 2)) ∧ (decode cX11_bill 41 = .ok (.aaload, 1)) ∧ (decode cX11_bill 42 = .ok (.astore 6, 2)) := by decide +kernel
theorem dX11_bill_28 : decode cX11_bill 28 = .ok (.aload_n 0, 1) := zd_275.1
theorem dX11_bill_29 : decode cX11_bill 29 = .ok (.getfield 24, 3) := zd_275.2.1
theorem dX11_bill_32 : decode cX11_bill 32 = .ok (.if_icmp .ge 60, 3) := zd_275.2.2.1
theorem dX11_bill_35 : decode cX11_bill 35 = .ok (.aload_n 0, 1) := zd_275.2.2.2.1
theorem dX11_bill_36 : decode cX11_bill 36 = .ok (.getfield 20, 3) := zd_275.2.2.2.2.1
theorem dX11_bill_39 : decode cX11_bill 39 = .ok (.iload 4, 2) := zd_275.2.2.2.2.2.1
theorem dX11_bill_41 : decode cX11_bill 41 = .ok (.aaload, 1) := zd_275.2.2.2.2.2.2.1
theorem dX11_bill_42 : decode cX11_bill 42 = .ok (.astore 6, 2) := zd_275.2.2.2.2.2.2.2
theorem zd_276 : (decode cX11_bill 44 = .ok (.aload 6, 2)) ∧ (decode cX11_bill 46 = .ok (.instanceof 104, 3)) ∧ (decode cX11_bill 49 = .ok (.ifCond .eq 37, 3)) ∧ (decode cX11_bill 52 = .ok (.aload 6, 2)) ∧ (decode cX11_bill 54 = .ok (.checkcast 104, 3)) ∧ (decode cX11_bill 57 = .ok (.astore 5, 2)) ∧ (decode cX11_bill 59 = .ok (.aload 5, 2)) ∧ (decode cX11_bill 61 = .ok (.getfield 260, 3)) := by decide +kernel
theorem dX11_bill_44 : decode cX11_bill 44 = .ok (.aload 6, 2) := zd_276.1
theorem dX11_bill_46 : decode cX11_bill 46 = .ok (.instanceof 104, 3) := zd_276.2.1
theorem dX11_bill_49 : decode cX11_bill 49 = .ok (.ifCond .eq 37, 3) := zd_276.2.2.1
theorem dX11_bill_52 : decode cX11_bill 52 = .ok (.aload 6, 2) := zd_276.2.2.2.1
theorem dX11_bill_54 : decode cX11_bill 54 = .ok (.checkcast 104, 3) := zd_276.2.2.2.2.1
theorem dX11_bill_57 : decode cX11_bill 57 = .ok (.astore 5, 2) := zd_276.2.2.2.2.2.1
theorem dX11_bill_59 : decode cX11_bill 59 = .ok (.aload 5, 2) := zd_276.2.2.2.2.2.2.1
theorem dX11_bill_61 : decode cX11_bill 61 = .ok (.getfield 260, 3) := zd_276.2.2.2.2.2.2.2
theorem zd_277 : (decode cX11_bill 64 = .ok (.iload_n 1, 1)) ∧ (decode cX11_bill 65 = .ok (.if_icmp .ne 21, 3)) ∧ (decode cX11_bill 68 = .ok (.aload_n 0, 1)) ∧ (decode cX11_bill 69 = .ok (.aload 5, 2)) ∧ (decode cX11_bill 71 = .ok (.iload_n 2, 1)) ∧ (decode cX11_bill 72 = .ok (.invokevirtual 275, 3)) ∧ (decode cX11_bill 75 = .ok (.ifCond .eq 11, 3)) ∧ (decode cX11_bill 78 = .ok (.iload_n 3, 1)) := by decide +kernel
theorem dX11_bill_64 : decode cX11_bill 64 = .ok (.iload_n 1, 1) := zd_277.1
theorem dX11_bill_65 : decode cX11_bill 65 = .ok (.if_icmp .ne 21, 3) := zd_277.2.1
theorem dX11_bill_68 : decode cX11_bill 68 = .ok (.aload_n 0, 1) := zd_277.2.2.1
theorem dX11_bill_69 : decode cX11_bill 69 = .ok (.aload 5, 2) := zd_277.2.2.2.1
theorem dX11_bill_71 : decode cX11_bill 71 = .ok (.iload_n 2, 1) := zd_277.2.2.2.2.1
theorem dX11_bill_72 : decode cX11_bill 72 = .ok (.invokevirtual 275, 3) := zd_277.2.2.2.2.2.1
theorem dX11_bill_75 : decode cX11_bill 75 = .ok (.ifCond .eq 11, 3) := zd_277.2.2.2.2.2.2.1
theorem dX11_bill_78 : decode cX11_bill 78 = .ok (.iload_n 3, 1) := zd_277.2.2.2.2.2.2.2
theorem zd_278 : (decode cX11_bill 79 = .ok (.aload 5, 2)) ∧ (decode cX11_bill 81 = .ok (.invokevirtual 279, 3)) ∧ (decode cX11_bill 84 = .ok (.iadd, 1)) ∧ (decode cX11_bill 85 = .ok (.istore_n 3, 1)) ∧ (decode cX11_bill 86 = .ok (.iinc 4 1, 3)) ∧ (decode cX11_bill 89 = .ok (.goto (-63), 3)) ∧ (decode cX11_bill 92 = .ok (.iload_n 3, 1)) ∧ (decode cX11_bill 93 = .ok (.ireturn, 1)) := by decide +kernel
theorem dX11_bill_79 : decode cX11_bill 79 = .ok (.aload 5, 2) := zd_278.1
theorem dX11_bill_81 : decode cX11_bill 81 = .ok (.invokevirtual 279, 3) := zd_278.2.1
theorem dX11_bill_84 : decode cX11_bill 84 = .ok (.iadd, 1) := zd_278.2.2.1
theorem dX11_bill_85 : decode cX11_bill 85 = .ok (.istore_n 3, 1) := zd_278.2.2.2.1
theorem dX11_bill_86 : decode cX11_bill 86 = .ok (.iinc 4 1, 3) := zd_278.2.2.2.2.1
theorem dX11_bill_89 : decode cX11_bill 89 = .ok (.goto (-63), 3) := zd_278.2.2.2.2.2.1
theorem dX11_bill_92 : decode cX11_bill 92 = .ok (.iload_n 3, 1) := zd_278.2.2.2.2.2.2.1
theorem dX11_bill_93 : decode cX11_bill 93 = .ok (.ireturn, 1) := zd_278.2.2.2.2.2.2.2
theorem zd_279 : (decode cX11_about 0 = .ok (.iload_n 1, 1)) ∧ (decode cX11_about 1 = .ok (.tableswitch 60 0 4 #[35, 40, 45, 50, 55], 35)) ∧ (decode cX11_about 36 = .ok (.aload_n 0, 1)) ∧ (decode cX11_about 37 = .ok (.getfield 41, 3)) ∧ (decode cX11_about 40 = .ok (.ireturn, 1)) ∧ (decode cX11_about 41 = .ok (.aload_n 0, 1)) ∧ (decode cX11_about 42 = .ok (.getfield 44, 3)) ∧ (decode cX11_about 45 = .ok (.ireturn, 1)) := by decide +kernel
theorem dX11_about_0 : decode cX11_about 0 = .ok (.iload_n 1, 1) := zd_279.1
theorem dX11_about_1 : decode cX11_about 1 = .ok (.tableswitch 60 0 4 #[35, 40, 45, 50, 55], 35) := zd_279.2.1
theorem dX11_about_36 : decode cX11_about 36 = .ok (.aload_n 0, 1) := zd_279.2.2.1
theorem dX11_about_37 : decode cX11_about 37 = .ok (.getfield 41, 3) := zd_279.2.2.2.1
theorem dX11_about_40 : decode cX11_about 40 = .ok (.ireturn, 1) := zd_279.2.2.2.2.1
theorem dX11_about_41 : decode cX11_about 41 = .ok (.aload_n 0, 1) := zd_279.2.2.2.2.2.1
theorem dX11_about_42 : decode cX11_about 42 = .ok (.getfield 44, 3) := zd_279.2.2.2.2.2.2.1
theorem dX11_about_45 : decode cX11_about 45 = .ok (.ireturn, 1) := zd_279.2.2.2.2.2.2.2
theorem zd_280 : (decode cX11_about 46 = .ok (.aload_n 0, 1)) ∧ (decode cX11_about 47 = .ok (.getfield 24, 3)) ∧ (decode cX11_about 50 = .ok (.ireturn, 1)) ∧ (decode cX11_about 51 = .ok (.aload_n 0, 1)) ∧ (decode cX11_about 52 = .ok (.getfield 34, 3)) ∧ (decode cX11_about 55 = .ok (.ireturn, 1)) ∧ (decode cX11_about 56 = .ok (.aload_n 0, 1)) ∧ (decode cX11_about 57 = .ok (.invokevirtual 282, 3)) := by decide +kernel
theorem dX11_about_46 : decode cX11_about 46 = .ok (.aload_n 0, 1) := zd_280.1
theorem dX11_about_47 : decode cX11_about 47 = .ok (.getfield 24, 3) := zd_280.2.1
theorem dX11_about_50 : decode cX11_about 50 = .ok (.ireturn, 1) := zd_280.2.2.1
theorem dX11_about_51 : decode cX11_about 51 = .ok (.aload_n 0, 1) := zd_280.2.2.2.1
theorem dX11_about_52 : decode cX11_about 52 = .ok (.getfield 34, 3) := zd_280.2.2.2.2.1
theorem dX11_about_55 : decode cX11_about 55 = .ok (.ireturn, 1) := zd_280.2.2.2.2.2.1
theorem dX11_about_56 : decode cX11_about 56 = .ok (.aload_n 0, 1) := zd_280.2.2.2.2.2.2.1
theorem dX11_about_57 : decode cX11_about 57 = .ok (.invokevirtual 282, 3) := zd_280.2.2.2.2.2.2.2
theorem zd_281 : (decode cX11_about 60 = .ok (.ireturn, 1)) ∧ (decode cX11_about 61 = .ok (.iconst (-1), 1)) ∧ (decode cX11_about 62 = .ok (.ireturn, 1)) := by decide +kernel
theorem dX11_about_60 : decode cX11_about 60 = .ok (.ireturn, 1) := zd_281.1
theorem dX11_about_61 : decode cX11_about 61 = .ok (.iconst (-1), 1) := zd_281.2.1
theorem dX11_about_62 : decode cX11_about 62 = .ok (.ireturn, 1) := zd_281.2.2
theorem zd_282 : (decode cX11_isWithin 0 = .ok (.iload_n 0, 1)) ∧ (decode cX11_isWithin 1 = .ok (.iload_n 1, 1)) ∧ (decode cX11_isWithin 2 = .ok (.if_icmp .lt 12, 3)) ∧ (decode cX11_isWithin 5 = .ok (.iload_n 0, 1)) ∧ (decode cX11_isWithin 6 = .ok (.iload_n 2, 1)) ∧ (decode cX11_isWithin 7 = .ok (.if_icmp .gt 7, 3)) ∧ (decode cX11_isWithin 10 = .ok (.iconst 1, 1)) ∧ (decode cX11_isWithin 11 = .ok (.goto 4, 3)) := by decide +kernel
theorem dX11_isWithin_0 : decode cX11_isWithin 0 = .ok (.iload_n 0, 1) := zd_282.1
theorem dX11_isWithin_1 : decode cX11_isWithin 1 = .ok (.iload_n 1, 1) := zd_282.2.1
theorem dX11_isWithin_2 : decode cX11_isWithin 2 = .ok (.if_icmp .lt 12, 3) := zd_282.2.2.1
theorem dX11_isWithin_5 : decode cX11_isWithin 5 = .ok (.iload_n 0, 1) := zd_282.2.2.2.1
theorem dX11_isWithin_6 : decode cX11_isWithin 6 = .ok (.iload_n 2, 1) := zd_282.2.2.2.2.1
theorem dX11_isWithin_7 : decode cX11_isWithin 7 = .ok (.if_icmp .gt 7, 3) := zd_282.2.2.2.2.2.1
theorem dX11_isWithin_10 : decode cX11_isWithin 10 = .ok (.iconst 1, 1) := zd_282.2.2.2.2.2.2.1
theorem dX11_isWithin_11 : decode cX11_isWithin 11 = .ok (.goto 4, 3) := zd_282.2.2.2.2.2.2.2
theorem zd_283 : (decode cX11_isWithin 14 = .ok (.iconst 0, 1)) ∧ (decode cX11_isWithin 15 = .ok (.ireturn, 1)) := by decide +kernel
theorem dX11_isWithin_14 : decode cX11_isWithin 14 = .ok (.iconst 0, 1) := zd_283.1
theorem dX11_isWithin_15 : decode cX11_isWithin 15 = .ok (.ireturn, 1) := zd_283.2
theorem zd_284 : (decode cX11_isPage 0 = .ok (.iload_n 0, 1)) ∧ (decode cX11_isPage 1 = .ok (.iconst 0, 1)) ∧ (decode cX11_isPage 2 = .ok (.bipush 11, 2)) ∧ (decode cX11_isPage 4 = .ok (.invokestatic 55, 3)) ∧ (decode cX11_isPage 7 = .ok (.ireturn, 1)) := by decide +kernel
theorem dX11_isPage_0 : decode cX11_isPage 0 = .ok (.iload_n 0, 1) := zd_284.1
theorem dX11_isPage_1 : decode cX11_isPage 1 = .ok (.iconst 0, 1) := zd_284.2.1
theorem dX11_isPage_2 : decode cX11_isPage 2 = .ok (.bipush 11, 2) := zd_284.2.2.1
theorem dX11_isPage_4 : decode cX11_isPage 4 = .ok (.invokestatic 55, 3) := zd_284.2.2.2.1
theorem dX11_isPage_7 : decode cX11_isPage 7 = .ok (.ireturn, 1) := zd_284.2.2.2.2
theorem zd_285 : (decode cX11_isColumn 0 = .ok (.iload_n 0, 1)) ∧ (decode cX11_isColumn 1 = .ok (.iconst 0, 1)) ∧ (decode cX11_isColumn 2 = .ok (.bipush 7, 2)) ∧ (decode cX11_isColumn 4 = .ok (.invokestatic 55, 3)) ∧ (decode cX11_isColumn 7 = .ok (.ireturn, 1)) := by decide +kernel
theorem dX11_isColumn_0 : decode cX11_isColumn 0 = .ok (.iload_n 0, 1) := zd_285.1
theorem dX11_isColumn_1 : decode cX11_isColumn 1 = .ok (.iconst 0, 1) := zd_285.2.1
theorem dX11_isColumn_2 : decode cX11_isColumn 2 = .ok (.bipush 7, 2) := zd_285.2.2.1
theorem dX11_isColumn_4 : decode cX11_isColumn 4 = .ok (.invokestatic 55, 3) := zd_285.2.2.2.1
theorem dX11_isColumn_7 : decode cX11_isColumn 7 = .ok (.ireturn, 1) := zd_285.2.2.2.2
theorem zd_286 : (decode cX11_isBuyer 0 = .ok (.iload_n 0, 1)) ∧ (decode cX11_isBuyer 1 = .ok (.iconst 0, 1)) ∧ (decode cX11_isBuyer 2 = .ok (.bipush 9, 2)) ∧ (decode cX11_isBuyer 4 = .ok (.invokestatic 55, 3)) ∧ (decode cX11_isBuyer 7 = .ok (.ireturn, 1)) := by decide +kernel
theorem dX11_isBuyer_0 : decode cX11_isBuyer 0 = .ok (.iload_n 0, 1) := zd_286.1
theorem dX11_isBuyer_1 : decode cX11_isBuyer 1 = .ok (.iconst 0, 1) := zd_286.2.1
theorem dX11_isBuyer_2 : decode cX11_isBuyer 2 = .ok (.bipush 9, 2) := zd_286.2.2.1
theorem dX11_isBuyer_4 : decode cX11_isBuyer 4 = .ok (.invokestatic 55, 3) := zd_286.2.2.2.1
theorem dX11_isBuyer_7 : decode cX11_isBuyer 7 = .ok (.ireturn, 1) := zd_286.2.2.2.2
theorem zd_287 : (decode cX11_isSquare 0 = .ok (.iload_n 0, 1)) ∧ (decode cX11_isSquare 1 = .ok (.iconst 1, 1)) ∧ (decode cX11_isSquare 2 = .ok (.bipush 8, 2)) ∧ (decode cX11_isSquare 4 = .ok (.invokestatic 55, 3)) ∧ (decode cX11_isSquare 7 = .ok (.ifCond .eq 17, 3)) ∧ (decode cX11_isSquare 10 = .ok (.iload_n 1, 1)) ∧ (decode cX11_isSquare 11 = .ok (.iconst 1, 1)) ∧ (decode cX11_isSquare 12 = .ok (.bipush 60, 2)) := by decide +kernel
theorem dX11_isSquare_0 : decode cX11_isSquare 0 = .ok (.iload_n 0, 1) := zd_287.1
theorem dX11_isSquare_1 : decode cX11_isSquare 1 = .ok (.iconst 1, 1) := zd_287.2.1
theorem dX11_isSquare_2 : decode cX11_isSquare 2 = .ok (.bipush 8, 2) := zd_287.2.2.1
theorem dX11_isSquare_4 : decode cX11_isSquare 4 = .ok (.invokestatic 55, 3) := zd_287.2.2.2.1
theorem dX11_isSquare_7 : decode cX11_isSquare 7 = .ok (.ifCond .eq 17, 3) := zd_287.2.2.2.2.1
theorem dX11_isSquare_10 : decode cX11_isSquare 10 = .ok (.iload_n 1, 1) := zd_287.2.2.2.2.2.1
theorem dX11_isSquare_11 : decode cX11_isSquare 11 = .ok (.iconst 1, 1) := zd_287.2.2.2.2.2.2.1
theorem dX11_isSquare_12 : decode cX11_isSquare 12 = .ok (.bipush 60, 2) := zd_287.2.2.2.2.2.2.2
theorem zd_288 : (decode cX11_isSquare 14 = .ok (.invokestatic 55, 3)) ∧ (decode cX11_isSquare 17 = .ok (.ifCond .eq 7, 3)) ∧ (decode cX11_isSquare 20 = .ok (.iconst 1, 1)) ∧ (decode cX11_isSquare 21 = .ok (.goto 4, 3)) ∧ (decode cX11_isSquare 24 = .ok (.iconst 0, 1)) ∧ (decode cX11_isSquare 25 = .ok (.ireturn, 1)) := by decide +kernel
theorem dX11_isSquare_14 : decode cX11_isSquare 14 = .ok (.invokestatic 55, 3) := zd_288.1
theorem dX11_isSquare_17 : decode cX11_isSquare 17 = .ok (.ifCond .eq 7, 3) := zd_288.2.1
theorem dX11_isSquare_20 : decode cX11_isSquare 20 = .ok (.iconst 1, 1) := zd_288.2.2.1
theorem dX11_isSquare_21 : decode cX11_isSquare 21 = .ok (.goto 4, 3) := zd_288.2.2.2.1
theorem dX11_isSquare_24 : decode cX11_isSquare 24 = .ok (.iconst 0, 1) := zd_288.2.2.2.2.1
theorem dX11_isSquare_25 : decode cX11_isSquare 25 = .ok (.ireturn, 1) := zd_288.2.2.2.2.2
theorem zd_289 : (decode cX11_itemOf 0 = .ok (.iload_n 1, 1)) ∧ (decode cX11_itemOf 1 = .ok (.iconst 0, 1)) ∧ (decode cX11_itemOf 2 = .ok (.aload_n 0, 1)) ∧ (decode cX11_itemOf 3 = .ok (.getfield 24, 3)) ∧ (decode cX11_itemOf 6 = .ok (.iconst 1, 1)) ∧ (decode cX11_itemOf 7 = .ok (.isub, 1)) ∧ (decode cX11_itemOf 8 = .ok (.invokestatic 55, 3)) ∧ (decode cX11_itemOf 11 = .ok (.ifCond .eq 12, 3)) := by decide +kernel
theorem dX11_itemOf_0 : decode cX11_itemOf 0 = .ok (.iload_n 1, 1) := zd_289.1
theorem dX11_itemOf_1 : decode cX11_itemOf 1 = .ok (.iconst 0, 1) := zd_289.2.1
theorem dX11_itemOf_2 : decode cX11_itemOf 2 = .ok (.aload_n 0, 1) := zd_289.2.2.1
theorem dX11_itemOf_3 : decode cX11_itemOf 3 = .ok (.getfield 24, 3) := zd_289.2.2.2.1
theorem dX11_itemOf_6 : decode cX11_itemOf 6 = .ok (.iconst 1, 1) := zd_289.2.2.2.2.1
theorem dX11_itemOf_7 : decode cX11_itemOf 7 = .ok (.isub, 1) := zd_289.2.2.2.2.2.1
theorem dX11_itemOf_8 : decode cX11_itemOf 8 = .ok (.invokestatic 55, 3) := zd_289.2.2.2.2.2.2.1
theorem dX11_itemOf_11 : decode cX11_itemOf 11 = .ok (.ifCond .eq 12, 3) := zd_289.2.2.2.2.2.2.2
theorem zd_290 : (decode cX11_itemOf 14 = .ok (.aload_n 0, 1)) ∧ (decode cX11_itemOf 15 = .ok (.getfield 20, 3)) ∧ (decode cX11_itemOf 18 = .ok (.iload_n 1, 1)) ∧ (decode cX11_itemOf 19 = .ok (.aaload, 1)) ∧ (decode cX11_itemOf 20 = .ok (.goto 4, 3)) ∧ (decode cX11_itemOf 23 = .ok (.aconst_null, 1)) ∧ (decode cX11_itemOf 24 = .ok (.areturn, 1)) := by decide +kernel
theorem dX11_itemOf_14 : decode cX11_itemOf 14 = .ok (.aload_n 0, 1) := zd_290.1
theorem dX11_itemOf_15 : decode cX11_itemOf 15 = .ok (.getfield 20, 3) := zd_290.2.1
theorem dX11_itemOf_18 : decode cX11_itemOf 18 = .ok (.iload_n 1, 1) := zd_290.2.2.1
theorem dX11_itemOf_19 : decode cX11_itemOf 19 = .ok (.aaload, 1) := zd_290.2.2.2.1
theorem dX11_itemOf_20 : decode cX11_itemOf 20 = .ok (.goto 4, 3) := zd_290.2.2.2.2.1
theorem dX11_itemOf_23 : decode cX11_itemOf 23 = .ok (.aconst_null, 1) := zd_290.2.2.2.2.2.1
theorem dX11_itemOf_24 : decode cX11_itemOf 24 = .ok (.areturn, 1) := zd_290.2.2.2.2.2.2
theorem zd_291 : (decode cX11_enter 0 = .ok (.aload_n 0, 1)) ∧ (decode cX11_enter 1 = .ok (.getfield 24, 3)) ∧ (decode cX11_enter 4 = .ok (.bipush 80, 2)) ∧ (decode cX11_enter 6 = .ok (.if_icmp .lt 5, 3)) ∧ (decode cX11_enter 9 = .ok (.iconst (-1), 1)) ∧ (decode cX11_enter 10 = .ok (.ireturn, 1)) ∧ (decode cX11_enter 11 = .ok (.aload_n 0, 1)) ∧ (decode cX11_enter 12 = .ok (.getfield 20, 3)) := by decide +kernel
theorem dX11_enter_0 : decode cX11_enter 0 = .ok (.aload_n 0, 1) := zd_291.1
theorem dX11_enter_1 : decode cX11_enter 1 = .ok (.getfield 24, 3) := zd_291.2.1
theorem dX11_enter_4 : decode cX11_enter 4 = .ok (.bipush 80, 2) := zd_291.2.2.1
theorem dX11_enter_6 : decode cX11_enter 6 = .ok (.if_icmp .lt 5, 3) := zd_291.2.2.2.1
theorem dX11_enter_9 : decode cX11_enter 9 = .ok (.iconst (-1), 1) := zd_291.2.2.2.2.1
theorem dX11_enter_10 : decode cX11_enter 10 = .ok (.ireturn, 1) := zd_291.2.2.2.2.2.1
theorem dX11_enter_11 : decode cX11_enter 11 = .ok (.aload_n 0, 1) := zd_291.2.2.2.2.2.2.1
theorem dX11_enter_12 : decode cX11_enter 12 = .ok (.getfield 20, 3) := zd_291.2.2.2.2.2.2.2
theorem zd_292 : (decode cX11_enter 15 = .ok (.aload_n 0, 1)) ∧ (decode cX11_enter 16 = .ok (.getfield 24, 3)) ∧ (decode cX11_enter 19 = .ok (.aload_n 1, 1)) ∧ (decode cX11_enter 20 = .ok (.aastore, 1)) ∧ (decode cX11_enter 21 = .ok (.aload_n 0, 1)) ∧ (decode cX11_enter 22 = .ok (.dup, 1)) ∧ (decode cX11_enter 23 = .ok (.getfield 24, 3)) ∧ (decode cX11_enter 26 = .ok (.iconst 1, 1)) := by decide +kernel
theorem dX11_enter_15 : decode cX11_enter 15 = .ok (.aload_n 0, 1) := zd_292.1
theorem dX11_enter_16 : decode cX11_enter 16 = .ok (.getfield 24, 3) := zd_292.2.1
theorem dX11_enter_19 : decode cX11_enter 19 = .ok (.aload_n 1, 1) := zd_292.2.2.1
theorem dX11_enter_20 : decode cX11_enter 20 = .ok (.aastore, 1) := zd_292.2.2.2.1
theorem dX11_enter_21 : decode cX11_enter 21 = .ok (.aload_n 0, 1) := zd_292.2.2.2.2.1
theorem dX11_enter_22 : decode cX11_enter 22 = .ok (.dup, 1) := zd_292.2.2.2.2.2.1
theorem dX11_enter_23 : decode cX11_enter 23 = .ok (.getfield 24, 3) := zd_292.2.2.2.2.2.2.1
theorem dX11_enter_26 : decode cX11_enter 26 = .ok (.iconst 1, 1) := zd_292.2.2.2.2.2.2.2
theorem zd_293 : (decode cX11_enter 27 = .ok (.iadd, 1)) ∧ (decode cX11_enter 28 = .ok (.putfield 24, 3)) ∧ (decode cX11_enter 31 = .ok (.aload_n 1, 1)) ∧ (decode cX11_enter 32 = .ok (.getfield 285, 3)) ∧ (decode cX11_enter 35 = .ok (.ireturn, 1)) := by decide +kernel
theorem dX11_enter_27 : decode cX11_enter 27 = .ok (.iadd, 1) := zd_293.1
theorem dX11_enter_28 : decode cX11_enter 28 = .ok (.putfield 24, 3) := zd_293.2.1
theorem dX11_enter_31 : decode cX11_enter 31 = .ok (.aload_n 1, 1) := zd_293.2.2.1
theorem dX11_enter_32 : decode cX11_enter 32 = .ok (.getfield 285, 3) := zd_293.2.2.2.1
theorem dX11_enter_35 : decode cX11_enter 35 = .ok (.ireturn, 1) := zd_293.2.2.2.2
theorem zd_294 : (decode cX11_areRivals 0 = .ok (.aload_n 0, 1)) ∧ (decode cX11_areRivals 1 = .ok (.getfield 37, 3)) ∧ (decode cX11_areRivals 4 = .ok (.iload_n 1, 1)) ∧ (decode cX11_areRivals 5 = .ok (.bipush 10, 2)) ∧ (decode cX11_areRivals 7 = .ok (.imul, 1)) ∧ (decode cX11_areRivals 8 = .ok (.iload_n 2, 1)) ∧ (decode cX11_areRivals 9 = .ok (.iadd, 1)) ∧ (decode cX11_areRivals 10 = .ok (.baload, 1)) := by decide +kernel
theorem dX11_areRivals_0 : decode cX11_areRivals 0 = .ok (.aload_n 0, 1) := zd_294.1
theorem dX11_areRivals_1 : decode cX11_areRivals 1 = .ok (.getfield 37, 3) := zd_294.2.1
theorem dX11_areRivals_4 : decode cX11_areRivals 4 = .ok (.iload_n 1, 1) := zd_294.2.2.1
theorem dX11_areRivals_5 : decode cX11_areRivals 5 = .ok (.bipush 10, 2) := zd_294.2.2.2.1
theorem dX11_areRivals_7 : decode cX11_areRivals 7 = .ok (.imul, 1) := zd_294.2.2.2.2.1
theorem dX11_areRivals_8 : decode cX11_areRivals 8 = .ok (.iload_n 2, 1) := zd_294.2.2.2.2.2.1
theorem dX11_areRivals_9 : decode cX11_areRivals 9 = .ok (.iadd, 1) := zd_294.2.2.2.2.2.2.1
theorem dX11_areRivals_10 : decode cX11_areRivals 10 = .ok (.baload, 1) := zd_294.2.2.2.2.2.2.2
theorem dX11_areRivals_11 : decode cX11_areRivals 11 = .ok (.ireturn, 1) := by decide +kernel
theorem zd_295 : (decode cX11_hasNotice 0 = .ok (.iconst 0, 1)) ∧ (decode cX11_hasNotice 1 = .ok (.istore_n 2, 1)) ∧ (decode cX11_hasNotice 2 = .ok (.iload_n 2, 1)) ∧ (decode cX11_hasNotice 3 = .ok (.aload_n 0, 1)) ∧ (decode cX11_hasNotice 4 = .ok (.getfield 24, 3)) ∧ (decode cX11_hasNotice 7 = .ok (.if_icmp .ge 41, 3)) ∧ (decode cX11_hasNotice 10 = .ok (.aload_n 0, 1)) ∧ (decode cX11_hasNotice 11 = .ok (.getfield 20, 3)) := by decide +kernel
theorem dX11_hasNotice_0 : decode cX11_hasNotice 0 = .ok (.iconst 0, 1) := zd_295.1
theorem dX11_hasNotice_1 : decode cX11_hasNotice 1 = .ok (.istore_n 2, 1) := zd_295.2.1
theorem dX11_hasNotice_2 : decode cX11_hasNotice 2 = .ok (.iload_n 2, 1) := zd_295.2.2.1
theorem dX11_hasNotice_3 : decode cX11_hasNotice 3 = .ok (.aload_n 0, 1) := zd_295.2.2.2.1
theorem dX11_hasNotice_4 : decode cX11_hasNotice 4 = .ok (.getfield 24, 3) := zd_295.2.2.2.2.1
theorem dX11_hasNotice_7 : decode cX11_hasNotice 7 = .ok (.if_icmp .ge 41, 3) := zd_295.2.2.2.2.2.1
theorem dX11_hasNotice_10 : decode cX11_hasNotice 10 = .ok (.aload_n 0, 1) := zd_295.2.2.2.2.2.2.1
theorem dX11_hasNotice_11 : decode cX11_hasNotice 11 = .ok (.getfield 20, 3) := zd_295.2.2.2.2.2.2.2
theorem zd_296 : (decode cX11_hasNotice 14 = .ok (.iload_n 2, 1)) ∧ (decode cX11_hasNotice 15 = .ok (.aaload, 1)) ∧ (decode cX11_hasNotice 16 = .ok (.astore 4, 2)) ∧ (decode cX11_hasNotice 18 = .ok (.aload 4, 2)) ∧ (decode cX11_hasNotice 20 = .ok (.instanceof 119, 3)) ∧ (decode cX11_hasNotice 23 = .ok (.ifCond .eq 19, 3)) ∧ (decode cX11_hasNotice 26 = .ok (.aload 4, 2)) ∧ (decode cX11_hasNotice 28 = .ok (.checkcast 119, 3)) := by decide +kernel
theorem dX11_hasNotice_14 : decode cX11_hasNotice 14 = .ok (.iload_n 2, 1) := zd_296.1
theorem dX11_hasNotice_15 : decode cX11_hasNotice 15 = .ok (.aaload, 1) := zd_296.2.1
theorem dX11_hasNotice_16 : decode cX11_hasNotice 16 = .ok (.astore 4, 2) := zd_296.2.2.1
theorem dX11_hasNotice_18 : decode cX11_hasNotice 18 = .ok (.aload 4, 2) := zd_296.2.2.2.1
theorem dX11_hasNotice_20 : decode cX11_hasNotice 20 = .ok (.instanceof 119, 3) := zd_296.2.2.2.2.1
theorem dX11_hasNotice_23 : decode cX11_hasNotice 23 = .ok (.ifCond .eq 19, 3) := zd_296.2.2.2.2.2.1
theorem dX11_hasNotice_26 : decode cX11_hasNotice 26 = .ok (.aload 4, 2) := zd_296.2.2.2.2.2.2.1
theorem dX11_hasNotice_28 : decode cX11_hasNotice 28 = .ok (.checkcast 119, 3) := zd_296.2.2.2.2.2.2.2
theorem zd_297 : (decode cX11_hasNotice 31 = .ok (.astore_n 3, 1)) ∧ (decode cX11_hasNotice 32 = .ok (.aload_n 3, 1)) ∧ (decode cX11_hasNotice 33 = .ok (.getfield 288, 3)) ∧ (decode cX11_hasNotice 36 = .ok (.aload_n 1, 1)) ∧ (decode cX11_hasNotice 37 = .ok (.if_acmp .ne 5, 3)) ∧ (decode cX11_hasNotice 40 = .ok (.iconst 1, 1)) ∧ (decode cX11_hasNotice 41 = .ok (.ireturn, 1)) ∧ (decode cX11_hasNotice 42 = .ok (.iinc 2 1, 3)) := by decide +kernel
theorem dX11_hasNotice_31 : decode cX11_hasNotice 31 = .ok (.astore_n 3, 1) := zd_297.1
theorem dX11_hasNotice_32 : decode cX11_hasNotice 32 = .ok (.aload_n 3, 1) := zd_297.2.1
theorem dX11_hasNotice_33 : decode cX11_hasNotice 33 = .ok (.getfield 288, 3) := zd_297.2.2.1
theorem dX11_hasNotice_36 : decode cX11_hasNotice 36 = .ok (.aload_n 1, 1) := zd_297.2.2.2.1
theorem dX11_hasNotice_37 : decode cX11_hasNotice 37 = .ok (.if_acmp .ne 5, 3) := zd_297.2.2.2.2.1
theorem dX11_hasNotice_40 : decode cX11_hasNotice 40 = .ok (.iconst 1, 1) := zd_297.2.2.2.2.2.1
theorem dX11_hasNotice_41 : decode cX11_hasNotice 41 = .ok (.ireturn, 1) := zd_297.2.2.2.2.2.2.1
theorem dX11_hasNotice_42 : decode cX11_hasNotice 42 = .ok (.iinc 2 1, 3) := zd_297.2.2.2.2.2.2.2
theorem zd_298 : (decode cX11_hasNotice 45 = .ok (.goto (-43), 3)) ∧ (decode cX11_hasNotice 48 = .ok (.iconst 0, 1)) ∧ (decode cX11_hasNotice 49 = .ok (.ireturn, 1)) := by decide +kernel
theorem dX11_hasNotice_45 : decode cX11_hasNotice 45 = .ok (.goto (-43), 3) := zd_298.1
theorem dX11_hasNotice_48 : decode cX11_hasNotice 48 = .ok (.iconst 0, 1) := zd_298.2.1
theorem dX11_hasNotice_49 : decode cX11_hasNotice 49 = .ok (.ireturn, 1) := zd_298.2.2
theorem zd_299 : (decode cX11_ownerOf 0 = .ok (.aload_n 1, 1)) ∧ (decode cX11_ownerOf 1 = .ok (.instanceof 83, 3)) ∧ (decode cX11_ownerOf 4 = .ok (.ifCond .eq 16, 3)) ∧ (decode cX11_ownerOf 7 = .ok (.aload_n 1, 1)) ∧ (decode cX11_ownerOf 8 = .ok (.checkcast 83, 3)) ∧ (decode cX11_ownerOf 11 = .ok (.astore_n 2, 1)) ∧ (decode cX11_ownerOf 12 = .ok (.aload_n 2, 1)) ∧ (decode cX11_ownerOf 13 = .ok (.getfield 292, 3)) := by decide +kernel
theorem dX11_ownerOf_0 : decode cX11_ownerOf 0 = .ok (.aload_n 1, 1) := zd_299.1
theorem dX11_ownerOf_1 : decode cX11_ownerOf 1 = .ok (.instanceof 83, 3) := zd_299.2.1
theorem dX11_ownerOf_4 : decode cX11_ownerOf 4 = .ok (.ifCond .eq 16, 3) := zd_299.2.2.1
theorem dX11_ownerOf_7 : decode cX11_ownerOf 7 = .ok (.aload_n 1, 1) := zd_299.2.2.2.1
theorem dX11_ownerOf_8 : decode cX11_ownerOf 8 = .ok (.checkcast 83, 3) := zd_299.2.2.2.2.1
theorem dX11_ownerOf_11 : decode cX11_ownerOf 11 = .ok (.astore_n 2, 1) := zd_299.2.2.2.2.2.1
theorem dX11_ownerOf_12 : decode cX11_ownerOf 12 = .ok (.aload_n 2, 1) := zd_299.2.2.2.2.2.2.1
theorem dX11_ownerOf_13 : decode cX11_ownerOf 13 = .ok (.getfield 292, 3) := zd_299.2.2.2.2.2.2.2
theorem zd_300 : (decode cX11_ownerOf 16 = .ok (.getfield 296, 3)) ∧ (decode cX11_ownerOf 19 = .ok (.ireturn, 1)) ∧ (decode cX11_ownerOf 20 = .ok (.aload_n 1, 1)) ∧ (decode cX11_ownerOf 21 = .ok (.instanceof 119, 3)) ∧ (decode cX11_ownerOf 24 = .ok (.ifCond .eq 18, 3)) ∧ (decode cX11_ownerOf 27 = .ok (.aload_n 1, 1)) ∧ (decode cX11_ownerOf 28 = .ok (.checkcast 119, 3)) ∧ (decode cX11_ownerOf 31 = .ok (.astore_n 2, 1)) := by decide +kernel
theorem dX11_ownerOf_16 : decode cX11_ownerOf 16 = .ok (.getfield 296, 3) := zd_300.1
theorem dX11_ownerOf_19 : decode cX11_ownerOf 19 = .ok (.ireturn, 1) := zd_300.2.1
theorem dX11_ownerOf_20 : decode cX11_ownerOf 20 = .ok (.aload_n 1, 1) := zd_300.2.2.1
theorem dX11_ownerOf_21 : decode cX11_ownerOf 21 = .ok (.instanceof 119, 3) := zd_300.2.2.2.1
theorem dX11_ownerOf_24 : decode cX11_ownerOf 24 = .ok (.ifCond .eq 18, 3) := zd_300.2.2.2.2.1
theorem dX11_ownerOf_27 : decode cX11_ownerOf 27 = .ok (.aload_n 1, 1) := zd_300.2.2.2.2.2.1
theorem dX11_ownerOf_28 : decode cX11_ownerOf 28 = .ok (.checkcast 119, 3) := zd_300.2.2.2.2.2.2.1
theorem dX11_ownerOf_31 : decode cX11_ownerOf 31 = .ok (.astore_n 2, 1) := zd_300.2.2.2.2.2.2.2
theorem zd_301 : (decode cX11_ownerOf 32 = .ok (.aload_n 2, 1)) ∧ (decode cX11_ownerOf 33 = .ok (.getfield 288, 3)) ∧ (decode cX11_ownerOf 36 = .ok (.getfield 285, 3)) ∧ (decode cX11_ownerOf 39 = .ok (.goto 4, 3)) ∧ (decode cX11_ownerOf 42 = .ok (.iconst (-1), 1)) ∧ (decode cX11_ownerOf 43 = .ok (.ireturn, 1)) := by decide +kernel
theorem dX11_ownerOf_32 : decode cX11_ownerOf 32 = .ok (.aload_n 2, 1) := zd_301.1
theorem dX11_ownerOf_33 : decode cX11_ownerOf 33 = .ok (.getfield 288, 3) := zd_301.2.1
theorem dX11_ownerOf_36 : decode cX11_ownerOf 36 = .ok (.getfield 285, 3) := zd_301.2.2.1
theorem dX11_ownerOf_39 : decode cX11_ownerOf 39 = .ok (.goto 4, 3) := zd_301.2.2.2.1
theorem dX11_ownerOf_42 : decode cX11_ownerOf 42 = .ok (.iconst (-1), 1) := zd_301.2.2.2.2.1
theorem dX11_ownerOf_43 : decode cX11_ownerOf 43 = .ok (.ireturn, 1) := zd_301.2.2.2.2.2
theorem zd_302 : (decode cX11_canAct 0 = .ok (.aload_n 0, 1)) ∧ (decode cX11_canAct 1 = .ok (.getfield 34, 3)) ∧ (decode cX11_canAct 4 = .ok (.sipush 300, 3)) ∧ (decode cX11_canAct 7 = .ok (.if_icmp .ge 7, 3)) ∧ (decode cX11_canAct 10 = .ok (.iconst 1, 1)) ∧ (decode cX11_canAct 11 = .ok (.goto 4, 3)) ∧ (decode cX11_canAct 14 = .ok (.iconst 0, 1)) ∧ (decode cX11_canAct 15 = .ok (.ireturn, 1)) := by decide +kernel
theorem dX11_canAct_0 : decode cX11_canAct 0 = .ok (.aload_n 0, 1) := zd_302.1
theorem dX11_canAct_1 : decode cX11_canAct 1 = .ok (.getfield 34, 3) := zd_302.2.1
theorem dX11_canAct_4 : decode cX11_canAct 4 = .ok (.sipush 300, 3) := zd_302.2.2.1
theorem dX11_canAct_7 : decode cX11_canAct 7 = .ok (.if_icmp .ge 7, 3) := zd_302.2.2.2.1
theorem dX11_canAct_10 : decode cX11_canAct 10 = .ok (.iconst 1, 1) := zd_302.2.2.2.2.1
theorem dX11_canAct_11 : decode cX11_canAct 11 = .ok (.goto 4, 3) := zd_302.2.2.2.2.2.1
theorem dX11_canAct_14 : decode cX11_canAct 14 = .ok (.iconst 0, 1) := zd_302.2.2.2.2.2.2.1
theorem dX11_canAct_15 : decode cX11_canAct 15 = .ok (.ireturn, 1) := zd_302.2.2.2.2.2.2.2
theorem zd_303 : (decode cX11_keep 0 = .ok (.aload_n 0, 1)) ∧ (decode cX11_keep 1 = .ok (.invokevirtual 138, 3)) ∧ (decode cX11_keep 4 = .ok (.ifCond .eq 23, 3)) ∧ (decode cX11_keep 7 = .ok (.aload_n 0, 1)) ∧ (decode cX11_keep 8 = .ok (.getfield 30, 3)) ∧ (decode cX11_keep 11 = .ok (.aload_n 0, 1)) ∧ (decode cX11_keep 12 = .ok (.getfield 34, 3)) ∧ (decode cX11_keep 15 = .ok (.aload_n 1, 1)) := by decide +kernel
theorem dX11_keep_0 : decode cX11_keep 0 = .ok (.aload_n 0, 1) := zd_303.1
theorem dX11_keep_1 : decode cX11_keep 1 = .ok (.invokevirtual 138, 3) := zd_303.2.1
theorem dX11_keep_4 : decode cX11_keep 4 = .ok (.ifCond .eq 23, 3) := zd_303.2.2.1
theorem dX11_keep_7 : decode cX11_keep 7 = .ok (.aload_n 0, 1) := zd_303.2.2.2.1
theorem dX11_keep_8 : decode cX11_keep 8 = .ok (.getfield 30, 3) := zd_303.2.2.2.2.1
theorem dX11_keep_11 : decode cX11_keep 11 = .ok (.aload_n 0, 1) := zd_303.2.2.2.2.2.1
theorem dX11_keep_12 : decode cX11_keep 12 = .ok (.getfield 34, 3) := zd_303.2.2.2.2.2.2.1
theorem dX11_keep_15 : decode cX11_keep 15 = .ok (.aload_n 1, 1) := zd_303.2.2.2.2.2.2.2
theorem zd_304 : (decode cX11_keep 16 = .ok (.aastore, 1)) ∧ (decode cX11_keep 17 = .ok (.aload_n 0, 1)) ∧ (decode cX11_keep 18 = .ok (.dup, 1)) ∧ (decode cX11_keep 19 = .ok (.getfield 34, 3)) ∧ (decode cX11_keep 22 = .ok (.iconst 1, 1)) ∧ (decode cX11_keep 23 = .ok (.iadd, 1)) ∧ (decode cX11_keep 24 = .ok (.putfield 34, 3)) ∧ (decode cX11_keep 27 = .ok (.return_, 1)) := by decide +kernel
theorem dX11_keep_16 : decode cX11_keep 16 = .ok (.aastore, 1) := zd_304.1
theorem dX11_keep_17 : decode cX11_keep 17 = .ok (.aload_n 0, 1) := zd_304.2.1
theorem dX11_keep_18 : decode cX11_keep 18 = .ok (.dup, 1) := zd_304.2.2.1
theorem dX11_keep_19 : decode cX11_keep 19 = .ok (.getfield 34, 3) := zd_304.2.2.2.1
theorem dX11_keep_22 : decode cX11_keep 22 = .ok (.iconst 1, 1) := zd_304.2.2.2.2.1
theorem dX11_keep_23 : decode cX11_keep 23 = .ok (.iadd, 1) := zd_304.2.2.2.2.2.1
theorem dX11_keep_24 : decode cX11_keep 24 = .ok (.putfield 34, 3) := zd_304.2.2.2.2.2.2.1
theorem dX11_keep_27 : decode cX11_keep 27 = .ok (.return_, 1) := zd_304.2.2.2.2.2.2.2
theorem zd_305 : (decode cX11_stand 0 = .ok (.aload_n 0, 1)) ∧ (decode cX11_stand 1 = .ok (.getfield 11, 3)) ∧ (decode cX11_stand 4 = .ok (.aload_n 1, 1)) ∧ (decode cX11_stand 5 = .ok (.getfield 229, 3)) ∧ (decode cX11_stand 8 = .ok (.aaload, 1)) ∧ (decode cX11_stand 9 = .ok (.aload_n 1, 1)) ∧ (decode cX11_stand 10 = .ok (.aload_n 1, 1)) ∧ (decode cX11_stand 11 = .ok (.invokevirtual 297, 3)) := by decide +kernel
theorem dX11_stand_0 : decode cX11_stand 0 = .ok (.aload_n 0, 1) := zd_305.1
theorem dX11_stand_1 : decode cX11_stand 1 = .ok (.getfield 11, 3) := zd_305.2.1
theorem dX11_stand_4 : decode cX11_stand 4 = .ok (.aload_n 1, 1) := zd_305.2.2.1
theorem dX11_stand_5 : decode cX11_stand 5 = .ok (.getfield 229, 3) := zd_305.2.2.2.1
theorem dX11_stand_8 : decode cX11_stand 8 = .ok (.aaload, 1) := zd_305.2.2.2.2.1
theorem dX11_stand_9 : decode cX11_stand 9 = .ok (.aload_n 1, 1) := zd_305.2.2.2.2.2.1
theorem dX11_stand_10 : decode cX11_stand 10 = .ok (.aload_n 1, 1) := zd_305.2.2.2.2.2.2.1
theorem dX11_stand_11 : decode cX11_stand 11 = .ok (.invokevirtual 297, 3) := zd_305.2.2.2.2.2.2.2
theorem zd_306 : (decode cX11_stand 14 = .ok (.invokevirtual 300, 3)) ∧ (decode cX11_stand 17 = .ok (.aload_n 1, 1)) ∧ (decode cX11_stand 18 = .ok (.getfield 304, 3)) ∧ (decode cX11_stand 21 = .ok (.ifnull 11, 3)) ∧ (decode cX11_stand 24 = .ok (.aload_n 1, 1)) ∧ (decode cX11_stand 25 = .ok (.getfield 304, 3)) ∧ (decode cX11_stand 28 = .ok (.aload_n 1, 1)) ∧ (decode cX11_stand 29 = .ok (.invokevirtual 307, 3)) := by decide +kernel
theorem dX11_stand_14 : decode cX11_stand 14 = .ok (.invokevirtual 300, 3) := zd_306.1
theorem dX11_stand_17 : decode cX11_stand 17 = .ok (.aload_n 1, 1) := zd_306.2.1
theorem dX11_stand_18 : decode cX11_stand 18 = .ok (.getfield 304, 3) := zd_306.2.2.1
theorem dX11_stand_21 : decode cX11_stand 21 = .ok (.ifnull 11, 3) := zd_306.2.2.2.1
theorem dX11_stand_24 : decode cX11_stand 24 = .ok (.aload_n 1, 1) := zd_306.2.2.2.2.1
theorem dX11_stand_25 : decode cX11_stand 25 = .ok (.getfield 304, 3) := zd_306.2.2.2.2.2.1
theorem dX11_stand_28 : decode cX11_stand 28 = .ok (.aload_n 1, 1) := zd_306.2.2.2.2.2.2.1
theorem dX11_stand_29 : decode cX11_stand 29 = .ok (.invokevirtual 307, 3) := zd_306.2.2.2.2.2.2.2
theorem dX11_stand_32 : decode cX11_stand 32 = .ok (.return_, 1) := by decide +kernel
theorem zd_307 : (decode cX11_takeOff 0 = .ok (.aload_n 0, 1)) ∧ (decode cX11_takeOff 1 = .ok (.getfield 11, 3)) ∧ (decode cX11_takeOff 4 = .ok (.aload_n 1, 1)) ∧ (decode cX11_takeOff 5 = .ok (.getfield 229, 3)) ∧ (decode cX11_takeOff 8 = .ok (.aaload, 1)) ∧ (decode cX11_takeOff 9 = .ok (.aload_n 1, 1)) ∧ (decode cX11_takeOff 10 = .ok (.bipush (-2), 2)) ∧ (decode cX11_takeOff 12 = .ok (.invokevirtual 300, 3)) := by decide +kernel
theorem dX11_takeOff_0 : decode cX11_takeOff 0 = .ok (.aload_n 0, 1) := zd_307.1
theorem dX11_takeOff_1 : decode cX11_takeOff 1 = .ok (.getfield 11, 3) := zd_307.2.1
theorem dX11_takeOff_4 : decode cX11_takeOff 4 = .ok (.aload_n 1, 1) := zd_307.2.2.1
theorem dX11_takeOff_5 : decode cX11_takeOff 5 = .ok (.getfield 229, 3) := zd_307.2.2.2.1
theorem dX11_takeOff_8 : decode cX11_takeOff 8 = .ok (.aaload, 1) := zd_307.2.2.2.2.1
theorem dX11_takeOff_9 : decode cX11_takeOff 9 = .ok (.aload_n 1, 1) := zd_307.2.2.2.2.2.1
theorem dX11_takeOff_10 : decode cX11_takeOff 10 = .ok (.bipush (-2), 2) := zd_307.2.2.2.2.2.2.1
theorem dX11_takeOff_12 : decode cX11_takeOff 12 = .ok (.invokevirtual 300, 3) := zd_307.2.2.2.2.2.2.2
theorem zd_308 : (decode cX11_takeOff 15 = .ok (.aload_n 1, 1)) ∧ (decode cX11_takeOff 16 = .ok (.getfield 304, 3)) ∧ (decode cX11_takeOff 19 = .ok (.ifnull 10, 3)) ∧ (decode cX11_takeOff 22 = .ok (.aload_n 1, 1)) ∧ (decode cX11_takeOff 23 = .ok (.getfield 304, 3)) ∧ (decode cX11_takeOff 26 = .ok (.invokevirtual 310, 3)) ∧ (decode cX11_takeOff 29 = .ok (.return_, 1)) := by decide +kernel
theorem dX11_takeOff_15 : decode cX11_takeOff 15 = .ok (.aload_n 1, 1) := zd_308.1
theorem dX11_takeOff_16 : decode cX11_takeOff 16 = .ok (.getfield 304, 3) := zd_308.2.1
theorem dX11_takeOff_19 : decode cX11_takeOff 19 = .ok (.ifnull 10, 3) := zd_308.2.2.1
theorem dX11_takeOff_22 : decode cX11_takeOff 22 = .ok (.aload_n 1, 1) := zd_308.2.2.2.1
theorem dX11_takeOff_23 : decode cX11_takeOff 23 = .ok (.getfield 304, 3) := zd_308.2.2.2.2.1
theorem dX11_takeOff_26 : decode cX11_takeOff 26 = .ok (.invokevirtual 310, 3) := zd_308.2.2.2.2.2.1
theorem dX11_takeOff_29 : decode cX11_takeOff 29 = .ok (.return_, 1) := zd_308.2.2.2.2.2.2
theorem zd_309 : (decode cX11_takeBack 0 = .ok (.aload_n 1, 1)) ∧ (decode cX11_takeBack 1 = .ok (.astore_n 2, 1)) ∧ (decode cX11_takeBack 2 = .ok (.aload_n 2, 1)) ∧ (decode cX11_takeBack 3 = .ok (.ifnull 37, 3)) ∧ (decode cX11_takeBack 6 = .ok (.aload_n 2, 1)) ∧ (decode cX11_takeBack 7 = .ok (.getfield 313, 3)) ∧ (decode cX11_takeBack 10 = .ok (.ifCond .eq 14, 3)) ∧ (decode cX11_takeBack 13 = .ok (.aload_n 0, 1)) := by decide +kernel
theorem dX11_takeBack_0 : decode cX11_takeBack 0 = .ok (.aload_n 1, 1) := zd_309.1
theorem dX11_takeBack_1 : decode cX11_takeBack 1 = .ok (.astore_n 2, 1) := zd_309.2.1
theorem dX11_takeBack_2 : decode cX11_takeBack 2 = .ok (.aload_n 2, 1) := zd_309.2.2.1
theorem dX11_takeBack_3 : decode cX11_takeBack 3 = .ok (.ifnull 37, 3) := zd_309.2.2.2.1
theorem dX11_takeBack_6 : decode cX11_takeBack 6 = .ok (.aload_n 2, 1) := zd_309.2.2.2.2.1
theorem dX11_takeBack_7 : decode cX11_takeBack 7 = .ok (.getfield 313, 3) := zd_309.2.2.2.2.2.1
theorem dX11_takeBack_10 : decode cX11_takeBack 10 = .ok (.ifCond .eq 14, 3) := zd_309.2.2.2.2.2.2.1
theorem dX11_takeBack_13 : decode cX11_takeBack 13 = .ok (.aload_n 0, 1) := zd_309.2.2.2.2.2.2.2
theorem zd_310 : (decode cX11_takeBack 14 = .ok (.aload_n 2, 1)) ∧ (decode cX11_takeBack 15 = .ok (.getfield 317, 3)) ∧ (decode cX11_takeBack 18 = .ok (.invokevirtual 159, 3)) ∧ (decode cX11_takeBack 21 = .ok (.goto 11, 3)) ∧ (decode cX11_takeBack 24 = .ok (.aload_n 0, 1)) ∧ (decode cX11_takeBack 25 = .ok (.aload_n 2, 1)) ∧ (decode cX11_takeBack 26 = .ok (.getfield 317, 3)) ∧ (decode cX11_takeBack 29 = .ok (.invokevirtual 177, 3)) := by decide +kernel
theorem dX11_takeBack_14 : decode cX11_takeBack 14 = .ok (.aload_n 2, 1) := zd_310.1
theorem dX11_takeBack_15 : decode cX11_takeBack 15 = .ok (.getfield 317, 3) := zd_310.2.1
theorem dX11_takeBack_18 : decode cX11_takeBack 18 = .ok (.invokevirtual 159, 3) := zd_310.2.2.1
theorem dX11_takeBack_21 : decode cX11_takeBack 21 = .ok (.goto 11, 3) := zd_310.2.2.2.1
theorem dX11_takeBack_24 : decode cX11_takeBack 24 = .ok (.aload_n 0, 1) := zd_310.2.2.2.2.1
theorem dX11_takeBack_25 : decode cX11_takeBack 25 = .ok (.aload_n 2, 1) := zd_310.2.2.2.2.2.1
theorem dX11_takeBack_26 : decode cX11_takeBack 26 = .ok (.getfield 317, 3) := zd_310.2.2.2.2.2.2.1
theorem dX11_takeBack_29 : decode cX11_takeBack 29 = .ok (.invokevirtual 177, 3) := zd_310.2.2.2.2.2.2.2
theorem zd_311 : (decode cX11_takeBack 32 = .ok (.aload_n 2, 1)) ∧ (decode cX11_takeBack 33 = .ok (.getfield 321, 3)) ∧ (decode cX11_takeBack 36 = .ok (.astore_n 2, 1)) ∧ (decode cX11_takeBack 37 = .ok (.goto (-35), 3)) ∧ (decode cX11_takeBack 40 = .ok (.return_, 1)) := by decide +kernel
theorem dX11_takeBack_32 : decode cX11_takeBack 32 = .ok (.aload_n 2, 1) := zd_311.1
theorem dX11_takeBack_33 : decode cX11_takeBack 33 = .ok (.getfield 321, 3) := zd_311.2.1
theorem dX11_takeBack_36 : decode cX11_takeBack 36 = .ok (.astore_n 2, 1) := zd_311.2.2.1
theorem dX11_takeBack_37 : decode cX11_takeBack 37 = .ok (.goto (-35), 3) := zd_311.2.2.2.1
theorem dX11_takeBack_40 : decode cX11_takeBack 40 = .ok (.return_, 1) := zd_311.2.2.2.2
theorem zd_312 : (decode cX11_fillColumn 0 = .ok (.aload_n 0, 1)) ∧ (decode cX11_fillColumn 1 = .ok (.getfield 11, 3)) ∧ (decode cX11_fillColumn 4 = .ok (.iload_n 1, 1)) ∧ (decode cX11_fillColumn 5 = .ok (.aaload, 1)) ∧ (decode cX11_fillColumn 6 = .ok (.astore 4, 2)) ∧ (decode cX11_fillColumn 8 = .ok (.aload_n 3, 1)) ∧ (decode cX11_fillColumn 9 = .ok (.astore 5, 2)) ∧ (decode cX11_fillColumn 11 = .ok (.iconst 0, 1)) := by decide +kernel
theorem dX11_fillColumn_0 : decode cX11_fillColumn 0 = .ok (.aload_n 0, 1) := zd_312.1
theorem dX11_fillColumn_1 : decode cX11_fillColumn 1 = .ok (.getfield 11, 3) := zd_312.2.1
theorem dX11_fillColumn_4 : decode cX11_fillColumn 4 = .ok (.iload_n 1, 1) := zd_312.2.2.1
theorem dX11_fillColumn_5 : decode cX11_fillColumn 5 = .ok (.aaload, 1) := zd_312.2.2.2.1
theorem dX11_fillColumn_6 : decode cX11_fillColumn 6 = .ok (.astore 4, 2) := zd_312.2.2.2.2.1
theorem dX11_fillColumn_8 : decode cX11_fillColumn 8 = .ok (.aload_n 3, 1) := zd_312.2.2.2.2.2.1
theorem dX11_fillColumn_9 : decode cX11_fillColumn 9 = .ok (.astore 5, 2) := zd_312.2.2.2.2.2.2.1
theorem dX11_fillColumn_11 : decode cX11_fillColumn 11 = .ok (.iconst 0, 1) := zd_312.2.2.2.2.2.2.2
theorem zd_313 : (decode cX11_fillColumn 12 = .ok (.istore 6, 2)) ∧ (decode cX11_fillColumn 14 = .ok (.iconst 0, 1)) ∧ (decode cX11_fillColumn 15 = .ok (.istore 7, 2)) ∧ (decode cX11_fillColumn 17 = .ok (.iload 7, 2)) ∧ (decode cX11_fillColumn 19 = .ok (.aload 4, 2)) ∧ (decode cX11_fillColumn 21 = .ok (.getfield 59, 3)) ∧ (decode cX11_fillColumn 24 = .ok (.iload_n 2, 1)) ∧ (decode cX11_fillColumn 25 = .ok (.iaload, 1)) := by decide +kernel
theorem dX11_fillColumn_12 : decode cX11_fillColumn 12 = .ok (.istore 6, 2) := zd_313.1
theorem dX11_fillColumn_14 : decode cX11_fillColumn 14 = .ok (.iconst 0, 1) := zd_313.2.1
theorem dX11_fillColumn_15 : decode cX11_fillColumn 15 = .ok (.istore 7, 2) := zd_313.2.2.1
theorem dX11_fillColumn_17 : decode cX11_fillColumn 17 = .ok (.iload 7, 2) := zd_313.2.2.2.1
theorem dX11_fillColumn_19 : decode cX11_fillColumn 19 = .ok (.aload 4, 2) := zd_313.2.2.2.2.1
theorem dX11_fillColumn_21 : decode cX11_fillColumn 21 = .ok (.getfield 59, 3) := zd_313.2.2.2.2.2.1
theorem dX11_fillColumn_24 : decode cX11_fillColumn 24 = .ok (.iload_n 2, 1) := zd_313.2.2.2.2.2.2.1
theorem dX11_fillColumn_25 : decode cX11_fillColumn 25 = .ok (.iaload, 1) := zd_313.2.2.2.2.2.2.2
theorem zd_314 : (decode cX11_fillColumn 26 = .ok (.if_icmp .gt 94, 3)) ∧ (decode cX11_fillColumn 29 = .ok (.aload 4, 2)) ∧ (decode cX11_fillColumn 31 = .ok (.iload_n 2, 1)) ∧ (decode cX11_fillColumn 32 = .ok (.iload 7, 2)) ∧ (decode cX11_fillColumn 34 = .ok (.invokevirtual 222, 3)) ∧ (decode cX11_fillColumn 37 = .ok (.bipush (-2), 2)) ∧ (decode cX11_fillColumn 39 = .ok (.if_icmp .ne 9, 3)) ∧ (decode cX11_fillColumn 42 = .ok (.iinc 6 1, 3)) := by decide +kernel
theorem dX11_fillColumn_26 : decode cX11_fillColumn 26 = .ok (.if_icmp .gt 94, 3) := zd_314.1
theorem dX11_fillColumn_29 : decode cX11_fillColumn 29 = .ok (.aload 4, 2) := zd_314.2.1
theorem dX11_fillColumn_31 : decode cX11_fillColumn 31 = .ok (.iload_n 2, 1) := zd_314.2.2.1
theorem dX11_fillColumn_32 : decode cX11_fillColumn 32 = .ok (.iload 7, 2) := zd_314.2.2.2.1
theorem dX11_fillColumn_34 : decode cX11_fillColumn 34 = .ok (.invokevirtual 222, 3) := zd_314.2.2.2.2.1
theorem dX11_fillColumn_37 : decode cX11_fillColumn 37 = .ok (.bipush (-2), 2) := zd_314.2.2.2.2.2.1
theorem dX11_fillColumn_39 : decode cX11_fillColumn 39 = .ok (.if_icmp .ne 9, 3) := zd_314.2.2.2.2.2.2.1
theorem dX11_fillColumn_42 : decode cX11_fillColumn 42 = .ok (.iinc 6 1, 3) := zd_314.2.2.2.2.2.2.2
theorem zd_315 : (decode cX11_fillColumn 45 = .ok (.goto 69, 3)) ∧ (decode cX11_fillColumn 48 = .ok (.iload 6, 2)) ∧ (decode cX11_fillColumn 50 = .ok (.ifCond .le 12, 3)) ∧ (decode cX11_fillColumn 53 = .ok (.aload_n 0, 1)) ∧ (decode cX11_fillColumn 54 = .ok (.iload 6, 2)) ∧ (decode cX11_fillColumn 56 = .ok (.invokevirtual 325, 3)) ∧ (decode cX11_fillColumn 59 = .ok (.goto 4, 3)) ∧ (decode cX11_fillColumn 62 = .ok (.aconst_null, 1)) := by decide +kernel
theorem dX11_fillColumn_45 : decode cX11_fillColumn 45 = .ok (.goto 69, 3) := zd_315.1
theorem dX11_fillColumn_48 : decode cX11_fillColumn 48 = .ok (.iload 6, 2) := zd_315.2.1
theorem dX11_fillColumn_50 : decode cX11_fillColumn 50 = .ok (.ifCond .le 12, 3) := zd_315.2.2.1
theorem dX11_fillColumn_53 : decode cX11_fillColumn 53 = .ok (.aload_n 0, 1) := zd_315.2.2.2.1
theorem dX11_fillColumn_54 : decode cX11_fillColumn 54 = .ok (.iload 6, 2) := zd_315.2.2.2.2.1
theorem dX11_fillColumn_56 : decode cX11_fillColumn 56 = .ok (.invokevirtual 325, 3) := zd_315.2.2.2.2.2.1
theorem dX11_fillColumn_59 : decode cX11_fillColumn 59 = .ok (.goto 4, 3) := zd_315.2.2.2.2.2.2.1
theorem dX11_fillColumn_62 : decode cX11_fillColumn 62 = .ok (.aconst_null, 1) := zd_315.2.2.2.2.2.2.2
theorem zd_316 : (decode cX11_fillColumn 63 = .ok (.astore 8, 2)) ∧ (decode cX11_fillColumn 65 = .ok (.aload 8, 2)) ∧ (decode cX11_fillColumn 67 = .ok (.ifnull 44, 3)) ∧ (decode cX11_fillColumn 70 = .ok (.new 106, 3)) ∧ (decode cX11_fillColumn 73 = .ok (.dup, 1)) ∧ (decode cX11_fillColumn 74 = .ok (.aload 8, 2)) ∧ (decode cX11_fillColumn 76 = .ok (.iload_n 1, 1)) ∧ (decode cX11_fillColumn 77 = .ok (.iload_n 2, 1)) := by decide +kernel
theorem dX11_fillColumn_63 : decode cX11_fillColumn 63 = .ok (.astore 8, 2) := zd_316.1
theorem dX11_fillColumn_65 : decode cX11_fillColumn 65 = .ok (.aload 8, 2) := zd_316.2.1
theorem dX11_fillColumn_67 : decode cX11_fillColumn 67 = .ok (.ifnull 44, 3) := zd_316.2.2.1
theorem dX11_fillColumn_70 : decode cX11_fillColumn 70 = .ok (.new 106, 3) := zd_316.2.2.2.1
theorem dX11_fillColumn_73 : decode cX11_fillColumn 73 = .ok (.dup, 1) := zd_316.2.2.2.2.1
theorem dX11_fillColumn_74 : decode cX11_fillColumn 74 = .ok (.aload 8, 2) := zd_316.2.2.2.2.2.1
theorem dX11_fillColumn_76 : decode cX11_fillColumn 76 = .ok (.iload_n 1, 1) := zd_316.2.2.2.2.2.2.1
theorem dX11_fillColumn_77 : decode cX11_fillColumn 77 = .ok (.iload_n 2, 1) := zd_316.2.2.2.2.2.2.2
theorem zd_317 : (decode cX11_fillColumn 78 = .ok (.iload 7, 2)) ∧ (decode cX11_fillColumn 80 = .ok (.iload 6, 2)) ∧ (decode cX11_fillColumn 82 = .ok (.isub, 1)) ∧ (decode cX11_fillColumn 83 = .ok (.iconst 1, 1)) ∧ (decode cX11_fillColumn 84 = .ok (.iload 6, 2)) ∧ (decode cX11_fillColumn 86 = .ok (.invokespecial 108, 3)) ∧ (decode cX11_fillColumn 89 = .ok (.astore 9, 2)) ∧ (decode cX11_fillColumn 91 = .ok (.aload_n 0, 1)) := by decide +kernel
theorem dX11_fillColumn_78 : decode cX11_fillColumn 78 = .ok (.iload 7, 2) := zd_317.1
theorem dX11_fillColumn_80 : decode cX11_fillColumn 80 = .ok (.iload 6, 2) := zd_317.2.1
theorem dX11_fillColumn_82 : decode cX11_fillColumn 82 = .ok (.isub, 1) := zd_317.2.2.1
theorem dX11_fillColumn_83 : decode cX11_fillColumn 83 = .ok (.iconst 1, 1) := zd_317.2.2.2.1
theorem dX11_fillColumn_84 : decode cX11_fillColumn 84 = .ok (.iload 6, 2) := zd_317.2.2.2.2.1
theorem dX11_fillColumn_86 : decode cX11_fillColumn 86 = .ok (.invokespecial 108, 3) := zd_317.2.2.2.2.2.1
theorem dX11_fillColumn_89 : decode cX11_fillColumn 89 = .ok (.astore 9, 2) := zd_317.2.2.2.2.2.2.1
theorem dX11_fillColumn_91 : decode cX11_fillColumn 91 = .ok (.aload_n 0, 1) := zd_317.2.2.2.2.2.2.2
theorem zd_318 : (decode cX11_fillColumn 92 = .ok (.aload 9, 2)) ∧ (decode cX11_fillColumn 94 = .ok (.invokevirtual 159, 3)) ∧ (decode cX11_fillColumn 97 = .ok (.new 28, 3)) ∧ (decode cX11_fillColumn 100 = .ok (.dup, 1)) ∧ (decode cX11_fillColumn 101 = .ok (.aload 9, 2)) ∧ (decode cX11_fillColumn 103 = .ok (.iconst 0, 1)) ∧ (decode cX11_fillColumn 104 = .ok (.aload 5, 2)) ∧ (decode cX11_fillColumn 106 = .ok (.invokespecial 163, 3)) := by decide +kernel
theorem dX11_fillColumn_92 : decode cX11_fillColumn 92 = .ok (.aload 9, 2) := zd_318.1
theorem dX11_fillColumn_94 : decode cX11_fillColumn 94 = .ok (.invokevirtual 159, 3) := zd_318.2.1
theorem dX11_fillColumn_97 : decode cX11_fillColumn 97 = .ok (.new 28, 3) := zd_318.2.2.1
theorem dX11_fillColumn_100 : decode cX11_fillColumn 100 = .ok (.dup, 1) := zd_318.2.2.2.1
theorem dX11_fillColumn_101 : decode cX11_fillColumn 101 = .ok (.aload 9, 2) := zd_318.2.2.2.2.1
theorem dX11_fillColumn_103 : decode cX11_fillColumn 103 = .ok (.iconst 0, 1) := zd_318.2.2.2.2.2.1
theorem dX11_fillColumn_104 : decode cX11_fillColumn 104 = .ok (.aload 5, 2) := zd_318.2.2.2.2.2.2.1
theorem dX11_fillColumn_106 : decode cX11_fillColumn 106 = .ok (.invokespecial 163, 3) := zd_318.2.2.2.2.2.2.2
theorem zd_319 : (decode cX11_fillColumn 109 = .ok (.astore 5, 2)) ∧ (decode cX11_fillColumn 111 = .ok (.iconst 0, 1)) ∧ (decode cX11_fillColumn 112 = .ok (.istore 6, 2)) ∧ (decode cX11_fillColumn 114 = .ok (.iinc 7 1, 3)) ∧ (decode cX11_fillColumn 117 = .ok (.goto (-100), 3)) ∧ (decode cX11_fillColumn 120 = .ok (.aload 5, 2)) ∧ (decode cX11_fillColumn 122 = .ok (.areturn, 1)) := by decide +kernel
theorem dX11_fillColumn_109 : decode cX11_fillColumn 109 = .ok (.astore 5, 2) := zd_319.1
theorem dX11_fillColumn_111 : decode cX11_fillColumn 111 = .ok (.iconst 0, 1) := zd_319.2.1
theorem dX11_fillColumn_112 : decode cX11_fillColumn 112 = .ok (.istore 6, 2) := zd_319.2.2.1
theorem dX11_fillColumn_114 : decode cX11_fillColumn 114 = .ok (.iinc 7 1, 3) := zd_319.2.2.2.1
theorem dX11_fillColumn_117 : decode cX11_fillColumn 117 = .ok (.goto (-100), 3) := zd_319.2.2.2.2.1
theorem dX11_fillColumn_120 : decode cX11_fillColumn 120 = .ok (.aload 5, 2) := zd_319.2.2.2.2.2.1
theorem dX11_fillColumn_122 : decode cX11_fillColumn 122 = .ok (.areturn, 1) := zd_319.2.2.2.2.2.2
theorem zd_320 : (decode cX11_fillerFor 0 = .ok (.iconst 0, 1)) ∧ (decode cX11_fillerFor 1 = .ok (.istore_n 2, 1)) ∧ (decode cX11_fillerFor 2 = .ok (.iload_n 2, 1)) ∧ (decode cX11_fillerFor 3 = .ok (.aload_n 0, 1)) ∧ (decode cX11_fillerFor 4 = .ok (.getfield 24, 3)) ∧ (decode cX11_fillerFor 7 = .ok (.if_icmp .ge 55, 3)) ∧ (decode cX11_fillerFor 10 = .ok (.aload_n 0, 1)) ∧ (decode cX11_fillerFor 11 = .ok (.getfield 20, 3)) := by decide +kernel
theorem dX11_fillerFor_0 : decode cX11_fillerFor 0 = .ok (.iconst 0, 1) := zd_320.1
theorem dX11_fillerFor_1 : decode cX11_fillerFor 1 = .ok (.istore_n 2, 1) := zd_320.2.1
theorem dX11_fillerFor_2 : decode cX11_fillerFor 2 = .ok (.iload_n 2, 1) := zd_320.2.2.1
theorem dX11_fillerFor_3 : decode cX11_fillerFor 3 = .ok (.aload_n 0, 1) := zd_320.2.2.2.1
theorem dX11_fillerFor_4 : decode cX11_fillerFor 4 = .ok (.getfield 24, 3) := zd_320.2.2.2.2.1
theorem dX11_fillerFor_7 : decode cX11_fillerFor 7 = .ok (.if_icmp .ge 55, 3) := zd_320.2.2.2.2.2.1
theorem dX11_fillerFor_10 : decode cX11_fillerFor 10 = .ok (.aload_n 0, 1) := zd_320.2.2.2.2.2.2.1
theorem dX11_fillerFor_11 : decode cX11_fillerFor 11 = .ok (.getfield 20, 3) := zd_320.2.2.2.2.2.2.2
theorem zd_321 : (decode cX11_fillerFor 14 = .ok (.iload_n 2, 1)) ∧ (decode cX11_fillerFor 15 = .ok (.aaload, 1)) ∧ (decode cX11_fillerFor 16 = .ok (.astore 4, 2)) ∧ (decode cX11_fillerFor 18 = .ok (.aload 4, 2)) ∧ (decode cX11_fillerFor 20 = .ok (.instanceof 114, 3)) ∧ (decode cX11_fillerFor 23 = .ok (.ifCond .eq 33, 3)) ∧ (decode cX11_fillerFor 26 = .ok (.aload 4, 2)) ∧ (decode cX11_fillerFor 28 = .ok (.checkcast 114, 3)) := by decide +kernel
theorem dX11_fillerFor_14 : decode cX11_fillerFor 14 = .ok (.iload_n 2, 1) := zd_321.1
theorem dX11_fillerFor_15 : decode cX11_fillerFor 15 = .ok (.aaload, 1) := zd_321.2.1
theorem dX11_fillerFor_16 : decode cX11_fillerFor 16 = .ok (.astore 4, 2) := zd_321.2.2.1
theorem dX11_fillerFor_18 : decode cX11_fillerFor 18 = .ok (.aload 4, 2) := zd_321.2.2.2.1
theorem dX11_fillerFor_20 : decode cX11_fillerFor 20 = .ok (.instanceof 114, 3) := zd_321.2.2.2.2.1
theorem dX11_fillerFor_23 : decode cX11_fillerFor 23 = .ok (.ifCond .eq 33, 3) := zd_321.2.2.2.2.2.1
theorem dX11_fillerFor_26 : decode cX11_fillerFor 26 = .ok (.aload 4, 2) := zd_321.2.2.2.2.2.2.1
theorem dX11_fillerFor_28 : decode cX11_fillerFor 28 = .ok (.checkcast 114, 3) := zd_321.2.2.2.2.2.2.2
theorem zd_322 : (decode cX11_fillerFor 31 = .ok (.astore_n 3, 1)) ∧ (decode cX11_fillerFor 32 = .ok (.aload_n 3, 1)) ∧ (decode cX11_fillerFor 33 = .ok (.invokevirtual 329, 3)) ∧ (decode cX11_fillerFor 36 = .ok (.ifCond .eq 20, 3)) ∧ (decode cX11_fillerFor 39 = .ok (.iload_n 1, 1)) ∧ (decode cX11_fillerFor 40 = .ok (.aload_n 3, 1)) ∧ (decode cX11_fillerFor 41 = .ok (.getfield 330, 3)) ∧ (decode cX11_fillerFor 44 = .ok (.aload_n 3, 1)) := by decide +kernel
theorem dX11_fillerFor_31 : decode cX11_fillerFor 31 = .ok (.astore_n 3, 1) := zd_322.1
theorem dX11_fillerFor_32 : decode cX11_fillerFor 32 = .ok (.aload_n 3, 1) := zd_322.2.1
theorem dX11_fillerFor_33 : decode cX11_fillerFor 33 = .ok (.invokevirtual 329, 3) := zd_322.2.2.1
theorem dX11_fillerFor_36 : decode cX11_fillerFor 36 = .ok (.ifCond .eq 20, 3) := zd_322.2.2.2.1
theorem dX11_fillerFor_39 : decode cX11_fillerFor 39 = .ok (.iload_n 1, 1) := zd_322.2.2.2.2.1
theorem dX11_fillerFor_40 : decode cX11_fillerFor 40 = .ok (.aload_n 3, 1) := zd_322.2.2.2.2.2.1
theorem dX11_fillerFor_41 : decode cX11_fillerFor 41 = .ok (.getfield 330, 3) := zd_322.2.2.2.2.2.2.1
theorem dX11_fillerFor_44 : decode cX11_fillerFor 44 = .ok (.aload_n 3, 1) := zd_322.2.2.2.2.2.2.2
theorem zd_323 : (decode cX11_fillerFor 45 = .ok (.getfield 333, 3)) ∧ (decode cX11_fillerFor 48 = .ok (.invokestatic 55, 3)) ∧ (decode cX11_fillerFor 51 = .ok (.ifCond .eq 5, 3)) ∧ (decode cX11_fillerFor 54 = .ok (.aload_n 3, 1)) ∧ (decode cX11_fillerFor 55 = .ok (.areturn, 1)) ∧ (decode cX11_fillerFor 56 = .ok (.iinc 2 1, 3)) ∧ (decode cX11_fillerFor 59 = .ok (.goto (-57), 3)) ∧ (decode cX11_fillerFor 62 = .ok (.aconst_null, 1)) := by decide +kernel
theorem dX11_fillerFor_45 : decode cX11_fillerFor 45 = .ok (.getfield 333, 3) := zd_323.1
theorem dX11_fillerFor_48 : decode cX11_fillerFor 48 = .ok (.invokestatic 55, 3) := zd_323.2.1
theorem dX11_fillerFor_51 : decode cX11_fillerFor 51 = .ok (.ifCond .eq 5, 3) := zd_323.2.2.1
theorem dX11_fillerFor_54 : decode cX11_fillerFor 54 = .ok (.aload_n 3, 1) := zd_323.2.2.2.1
theorem dX11_fillerFor_55 : decode cX11_fillerFor 55 = .ok (.areturn, 1) := zd_323.2.2.2.2.1
theorem dX11_fillerFor_56 : decode cX11_fillerFor 56 = .ok (.iinc 2 1, 3) := zd_323.2.2.2.2.2.1
theorem dX11_fillerFor_59 : decode cX11_fillerFor 59 = .ok (.goto (-57), 3) := zd_323.2.2.2.2.2.2.1
theorem dX11_fillerFor_62 : decode cX11_fillerFor 62 = .ok (.aconst_null, 1) := zd_323.2.2.2.2.2.2.2
theorem dX11_fillerFor_63 : decode cX11_fillerFor 63 = .ok (.areturn, 1) := by decide +kernel
theorem zd_324 : (decode cX11_clearDesk 0 = .ok (.iconst 0, 1)) ∧ (decode cX11_clearDesk 1 = .ok (.istore_n 1, 1)) ∧ (decode cX11_clearDesk 2 = .ok (.iload_n 1, 1)) ∧ (decode cX11_clearDesk 3 = .ok (.aload_n 0, 1)) ∧ (decode cX11_clearDesk 4 = .ok (.getfield 24, 3)) ∧ (decode cX11_clearDesk 7 = .ok (.if_icmp .ge 18, 3)) ∧ (decode cX11_clearDesk 10 = .ok (.aload_n 0, 1)) ∧ (decode cX11_clearDesk 11 = .ok (.getfield 20, 3)) := by decide +kernel
theorem dX11_clearDesk_0 : decode cX11_clearDesk 0 = .ok (.iconst 0, 1) := zd_324.1
theorem dX11_clearDesk_1 : decode cX11_clearDesk 1 = .ok (.istore_n 1, 1) := zd_324.2.1
theorem dX11_clearDesk_2 : decode cX11_clearDesk 2 = .ok (.iload_n 1, 1) := zd_324.2.2.1
theorem dX11_clearDesk_3 : decode cX11_clearDesk 3 = .ok (.aload_n 0, 1) := zd_324.2.2.2.1
theorem dX11_clearDesk_4 : decode cX11_clearDesk 4 = .ok (.getfield 24, 3) := zd_324.2.2.2.2.1
theorem dX11_clearDesk_7 : decode cX11_clearDesk 7 = .ok (.if_icmp .ge 18, 3) := zd_324.2.2.2.2.2.1
theorem dX11_clearDesk_10 : decode cX11_clearDesk 10 = .ok (.aload_n 0, 1) := zd_324.2.2.2.2.2.2.1
theorem dX11_clearDesk_11 : decode cX11_clearDesk 11 = .ok (.getfield 20, 3) := zd_324.2.2.2.2.2.2.2
theorem zd_325 : (decode cX11_clearDesk 14 = .ok (.iload_n 1, 1)) ∧ (decode cX11_clearDesk 15 = .ok (.aaload, 1)) ∧ (decode cX11_clearDesk 16 = .ok (.invokevirtual 336, 3)) ∧ (decode cX11_clearDesk 19 = .ok (.iinc 1 1, 3)) ∧ (decode cX11_clearDesk 22 = .ok (.goto (-20), 3)) ∧ (decode cX11_clearDesk 25 = .ok (.iconst 0, 1)) ∧ (decode cX11_clearDesk 26 = .ok (.istore_n 1, 1)) ∧ (decode cX11_clearDesk 27 = .ok (.iload_n 1, 1)) := by decide +kernel
theorem dX11_clearDesk_14 : decode cX11_clearDesk 14 = .ok (.iload_n 1, 1) := zd_325.1
theorem dX11_clearDesk_15 : decode cX11_clearDesk 15 = .ok (.aaload, 1) := zd_325.2.1
theorem dX11_clearDesk_16 : decode cX11_clearDesk 16 = .ok (.invokevirtual 336, 3) := zd_325.2.2.1
theorem dX11_clearDesk_19 : decode cX11_clearDesk 19 = .ok (.iinc 1 1, 3) := zd_325.2.2.2.1
theorem dX11_clearDesk_22 : decode cX11_clearDesk 22 = .ok (.goto (-20), 3) := zd_325.2.2.2.2.1
theorem dX11_clearDesk_25 : decode cX11_clearDesk 25 = .ok (.iconst 0, 1) := zd_325.2.2.2.2.2.1
theorem dX11_clearDesk_26 : decode cX11_clearDesk 26 = .ok (.istore_n 1, 1) := zd_325.2.2.2.2.2.2.1
theorem dX11_clearDesk_27 : decode cX11_clearDesk 27 = .ok (.iload_n 1, 1) := zd_325.2.2.2.2.2.2.2
theorem zd_326 : (decode cX11_clearDesk 28 = .ok (.bipush 12, 2)) ∧ (decode cX11_clearDesk 30 = .ok (.if_icmp .ge 18, 3)) ∧ (decode cX11_clearDesk 33 = .ok (.aload_n 0, 1)) ∧ (decode cX11_clearDesk 34 = .ok (.getfield 11, 3)) ∧ (decode cX11_clearDesk 37 = .ok (.iload_n 1, 1)) ∧ (decode cX11_clearDesk 38 = .ok (.aaload, 1)) ∧ (decode cX11_clearDesk 39 = .ok (.invokevirtual 339, 3)) ∧ (decode cX11_clearDesk 42 = .ok (.iinc 1 1, 3)) := by decide +kernel
theorem dX11_clearDesk_28 : decode cX11_clearDesk 28 = .ok (.bipush 12, 2) := zd_326.1
theorem dX11_clearDesk_30 : decode cX11_clearDesk 30 = .ok (.if_icmp .ge 18, 3) := zd_326.2.1
theorem dX11_clearDesk_33 : decode cX11_clearDesk 33 = .ok (.aload_n 0, 1) := zd_326.2.2.1
theorem dX11_clearDesk_34 : decode cX11_clearDesk 34 = .ok (.getfield 11, 3) := zd_326.2.2.2.1
theorem dX11_clearDesk_37 : decode cX11_clearDesk 37 = .ok (.iload_n 1, 1) := zd_326.2.2.2.2.1
theorem dX11_clearDesk_38 : decode cX11_clearDesk 38 = .ok (.aaload, 1) := zd_326.2.2.2.2.2.1
theorem dX11_clearDesk_39 : decode cX11_clearDesk 39 = .ok (.invokevirtual 339, 3) := zd_326.2.2.2.2.2.2.1
theorem dX11_clearDesk_42 : decode cX11_clearDesk 42 = .ok (.iinc 1 1, 3) := zd_326.2.2.2.2.2.2.2
theorem zd_327 : (decode cX11_clearDesk 45 = .ok (.goto (-18), 3)) ∧ (decode cX11_clearDesk 48 = .ok (.iconst 0, 1)) ∧ (decode cX11_clearDesk 49 = .ok (.istore_n 1, 1)) ∧ (decode cX11_clearDesk 50 = .ok (.iload_n 1, 1)) ∧ (decode cX11_clearDesk 51 = .ok (.aload_n 0, 1)) ∧ (decode cX11_clearDesk 52 = .ok (.getfield 34, 3)) ∧ (decode cX11_clearDesk 55 = .ok (.if_icmp .ge 16, 3)) ∧ (decode cX11_clearDesk 58 = .ok (.aload_n 0, 1)) := by decide +kernel
theorem dX11_clearDesk_45 : decode cX11_clearDesk 45 = .ok (.goto (-18), 3) := zd_327.1
theorem dX11_clearDesk_48 : decode cX11_clearDesk 48 = .ok (.iconst 0, 1) := zd_327.2.1
theorem dX11_clearDesk_49 : decode cX11_clearDesk 49 = .ok (.istore_n 1, 1) := zd_327.2.2.1
theorem dX11_clearDesk_50 : decode cX11_clearDesk 50 = .ok (.iload_n 1, 1) := zd_327.2.2.2.1
theorem dX11_clearDesk_51 : decode cX11_clearDesk 51 = .ok (.aload_n 0, 1) := zd_327.2.2.2.2.1
theorem dX11_clearDesk_52 : decode cX11_clearDesk 52 = .ok (.getfield 34, 3) := zd_327.2.2.2.2.2.1
theorem dX11_clearDesk_55 : decode cX11_clearDesk 55 = .ok (.if_icmp .ge 16, 3) := zd_327.2.2.2.2.2.2.1
theorem dX11_clearDesk_58 : decode cX11_clearDesk 58 = .ok (.aload_n 0, 1) := zd_327.2.2.2.2.2.2.2
theorem zd_328 : (decode cX11_clearDesk 59 = .ok (.getfield 30, 3)) ∧ (decode cX11_clearDesk 62 = .ok (.iload_n 1, 1)) ∧ (decode cX11_clearDesk 63 = .ok (.aconst_null, 1)) ∧ (decode cX11_clearDesk 64 = .ok (.aastore, 1)) ∧ (decode cX11_clearDesk 65 = .ok (.iinc 1 1, 3)) ∧ (decode cX11_clearDesk 68 = .ok (.goto (-18), 3)) ∧ (decode cX11_clearDesk 71 = .ok (.aload_n 0, 1)) ∧ (decode cX11_clearDesk 72 = .ok (.iconst 0, 1)) := by decide +kernel
theorem dX11_clearDesk_59 : decode cX11_clearDesk 59 = .ok (.getfield 30, 3) := zd_328.1
theorem dX11_clearDesk_62 : decode cX11_clearDesk 62 = .ok (.iload_n 1, 1) := zd_328.2.1
theorem dX11_clearDesk_63 : decode cX11_clearDesk 63 = .ok (.aconst_null, 1) := zd_328.2.2.1
theorem dX11_clearDesk_64 : decode cX11_clearDesk 64 = .ok (.aastore, 1) := zd_328.2.2.2.1
theorem dX11_clearDesk_65 : decode cX11_clearDesk 65 = .ok (.iinc 1 1, 3) := zd_328.2.2.2.2.1
theorem dX11_clearDesk_68 : decode cX11_clearDesk 68 = .ok (.goto (-18), 3) := zd_328.2.2.2.2.2.1
theorem dX11_clearDesk_71 : decode cX11_clearDesk 71 = .ok (.aload_n 0, 1) := zd_328.2.2.2.2.2.2.1
theorem dX11_clearDesk_72 : decode cX11_clearDesk 72 = .ok (.iconst 0, 1) := zd_328.2.2.2.2.2.2.2
theorem zd_329 : (decode cX11_clearDesk 73 = .ok (.putfield 34, 3)) ∧ (decode cX11_clearDesk 76 = .ok (.return_, 1)) := by decide +kernel
theorem dX11_clearDesk_73 : decode cX11_clearDesk 73 = .ok (.putfield 34, 3) := zd_329.1
theorem dX11_clearDesk_76 : decode cX11_clearDesk 76 = .ok (.return_, 1) := zd_329.2
theorem zd_330 : (decode cX11_breachOn 0 = .ok (.iconst 1, 1)) ∧ (decode cX11_breachOn 1 = .ok (.istore_n 2, 1)) ∧ (decode cX11_breachOn 2 = .ok (.iload_n 2, 1)) ∧ (decode cX11_breachOn 3 = .ok (.iconst 3, 1)) ∧ (decode cX11_breachOn 4 = .ok (.if_icmp .gt 22, 3)) ∧ (decode cX11_breachOn 7 = .ok (.aload_n 0, 1)) ∧ (decode cX11_breachOn 8 = .ok (.iload_n 1, 1)) ∧ (decode cX11_breachOn 9 = .ok (.iload_n 2, 1)) := by decide +kernel
theorem dX11_breachOn_0 : decode cX11_breachOn 0 = .ok (.iconst 1, 1) := zd_330.1
theorem dX11_breachOn_1 : decode cX11_breachOn 1 = .ok (.istore_n 2, 1) := zd_330.2.1
theorem dX11_breachOn_2 : decode cX11_breachOn 2 = .ok (.iload_n 2, 1) := zd_330.2.2.1
theorem dX11_breachOn_3 : decode cX11_breachOn 3 = .ok (.iconst 3, 1) := zd_330.2.2.2.1
theorem dX11_breachOn_4 : decode cX11_breachOn 4 = .ok (.if_icmp .gt 22, 3) := zd_330.2.2.2.2.1
theorem dX11_breachOn_7 : decode cX11_breachOn 7 = .ok (.aload_n 0, 1) := zd_330.2.2.2.2.2.1
theorem dX11_breachOn_8 : decode cX11_breachOn 8 = .ok (.iload_n 1, 1) := zd_330.2.2.2.2.2.2.1
theorem dX11_breachOn_9 : decode cX11_breachOn 9 = .ok (.iload_n 2, 1) := zd_330.2.2.2.2.2.2.2
theorem zd_331 : (decode cX11_breachOn 10 = .ok (.invokevirtual 342, 3)) ∧ (decode cX11_breachOn 13 = .ok (.astore_n 3, 1)) ∧ (decode cX11_breachOn 14 = .ok (.aload_n 3, 1)) ∧ (decode cX11_breachOn 15 = .ok (.ifnull 5, 3)) ∧ (decode cX11_breachOn 18 = .ok (.aload_n 3, 1)) ∧ (decode cX11_breachOn 19 = .ok (.areturn, 1)) ∧ (decode cX11_breachOn 20 = .ok (.iinc 2 1, 3)) ∧ (decode cX11_breachOn 23 = .ok (.goto (-21), 3)) := by decide +kernel
theorem dX11_breachOn_10 : decode cX11_breachOn 10 = .ok (.invokevirtual 342, 3) := zd_331.1
theorem dX11_breachOn_13 : decode cX11_breachOn 13 = .ok (.astore_n 3, 1) := zd_331.2.1
theorem dX11_breachOn_14 : decode cX11_breachOn 14 = .ok (.aload_n 3, 1) := zd_331.2.2.1
theorem dX11_breachOn_15 : decode cX11_breachOn 15 = .ok (.ifnull 5, 3) := zd_331.2.2.2.1
theorem dX11_breachOn_18 : decode cX11_breachOn 18 = .ok (.aload_n 3, 1) := zd_331.2.2.2.2.1
theorem dX11_breachOn_19 : decode cX11_breachOn 19 = .ok (.areturn, 1) := zd_331.2.2.2.2.2.1
theorem dX11_breachOn_20 : decode cX11_breachOn 20 = .ok (.iinc 2 1, 3) := zd_331.2.2.2.2.2.2.1
theorem dX11_breachOn_23 : decode cX11_breachOn 23 = .ok (.goto (-21), 3) := zd_331.2.2.2.2.2.2.2
theorem zd_332 : (decode cX11_breachOn 26 = .ok (.iconst 4, 1)) ∧ (decode cX11_breachOn 27 = .ok (.istore_n 2, 1)) ∧ (decode cX11_breachOn 28 = .ok (.iload_n 2, 1)) ∧ (decode cX11_breachOn 29 = .ok (.iconst 5, 1)) ∧ (decode cX11_breachOn 30 = .ok (.if_icmp .gt 63, 3)) ∧ (decode cX11_breachOn 33 = .ok (.iconst 0, 1)) ∧ (decode cX11_breachOn 34 = .ok (.istore_n 3, 1)) ∧ (decode cX11_breachOn 35 = .ok (.iload_n 3, 1)) := by decide +kernel
theorem dX11_breachOn_26 : decode cX11_breachOn 26 = .ok (.iconst 4, 1) := zd_332.1
theorem dX11_breachOn_27 : decode cX11_breachOn 27 = .ok (.istore_n 2, 1) := zd_332.2.1
theorem dX11_breachOn_28 : decode cX11_breachOn 28 = .ok (.iload_n 2, 1) := zd_332.2.2.1
theorem dX11_breachOn_29 : decode cX11_breachOn 29 = .ok (.iconst 5, 1) := zd_332.2.2.2.1
theorem dX11_breachOn_30 : decode cX11_breachOn 30 = .ok (.if_icmp .gt 63, 3) := zd_332.2.2.2.2.1
theorem dX11_breachOn_33 : decode cX11_breachOn 33 = .ok (.iconst 0, 1) := zd_332.2.2.2.2.2.1
theorem dX11_breachOn_34 : decode cX11_breachOn 34 = .ok (.istore_n 3, 1) := zd_332.2.2.2.2.2.2.1
theorem dX11_breachOn_35 : decode cX11_breachOn 35 = .ok (.iload_n 3, 1) := zd_332.2.2.2.2.2.2.2
theorem zd_333 : (decode cX11_breachOn 36 = .ok (.aload_n 0, 1)) ∧ (decode cX11_breachOn 37 = .ok (.getfield 24, 3)) ∧ (decode cX11_breachOn 40 = .ok (.if_icmp .ge 47, 3)) ∧ (decode cX11_breachOn 43 = .ok (.aload_n 0, 1)) ∧ (decode cX11_breachOn 44 = .ok (.getfield 20, 3)) ∧ (decode cX11_breachOn 47 = .ok (.iload_n 3, 1)) ∧ (decode cX11_breachOn 48 = .ok (.aaload, 1)) ∧ (decode cX11_breachOn 49 = .ok (.iload_n 1, 1)) := by decide +kernel
theorem dX11_breachOn_36 : decode cX11_breachOn 36 = .ok (.aload_n 0, 1) := zd_333.1
theorem dX11_breachOn_37 : decode cX11_breachOn 37 = .ok (.getfield 24, 3) := zd_333.2.1
theorem dX11_breachOn_40 : decode cX11_breachOn 40 = .ok (.if_icmp .ge 47, 3) := zd_333.2.2.1
theorem dX11_breachOn_43 : decode cX11_breachOn 43 = .ok (.aload_n 0, 1) := zd_333.2.2.2.1
theorem dX11_breachOn_44 : decode cX11_breachOn 44 = .ok (.getfield 20, 3) := zd_333.2.2.2.2.1
theorem dX11_breachOn_47 : decode cX11_breachOn 47 = .ok (.iload_n 3, 1) := zd_333.2.2.2.2.2.1
theorem dX11_breachOn_48 : decode cX11_breachOn 48 = .ok (.aaload, 1) := zd_333.2.2.2.2.2.2.1
theorem dX11_breachOn_49 : decode cX11_breachOn 49 = .ok (.iload_n 1, 1) := zd_333.2.2.2.2.2.2.2
theorem zd_334 : (decode cX11_breachOn 50 = .ok (.invokevirtual 346, 3)) ∧ (decode cX11_breachOn 53 = .ok (.ifCond .eq 28, 3)) ∧ (decode cX11_breachOn 56 = .ok (.aload_n 0, 1)) ∧ (decode cX11_breachOn 57 = .ok (.aload_n 0, 1)) ∧ (decode cX11_breachOn 58 = .ok (.getfield 20, 3)) ∧ (decode cX11_breachOn 61 = .ok (.iload_n 3, 1)) ∧ (decode cX11_breachOn 62 = .ok (.aaload, 1)) ∧ (decode cX11_breachOn 63 = .ok (.iload_n 2, 1)) := by decide +kernel
theorem dX11_breachOn_50 : decode cX11_breachOn 50 = .ok (.invokevirtual 346, 3) := zd_334.1
theorem dX11_breachOn_53 : decode cX11_breachOn 53 = .ok (.ifCond .eq 28, 3) := zd_334.2.1
theorem dX11_breachOn_56 : decode cX11_breachOn 56 = .ok (.aload_n 0, 1) := zd_334.2.2.1
theorem dX11_breachOn_57 : decode cX11_breachOn 57 = .ok (.aload_n 0, 1) := zd_334.2.2.2.1
theorem dX11_breachOn_58 : decode cX11_breachOn 58 = .ok (.getfield 20, 3) := zd_334.2.2.2.2.1
theorem dX11_breachOn_61 : decode cX11_breachOn 61 = .ok (.iload_n 3, 1) := zd_334.2.2.2.2.2.1
theorem dX11_breachOn_62 : decode cX11_breachOn 62 = .ok (.aaload, 1) := zd_334.2.2.2.2.2.2.1
theorem dX11_breachOn_63 : decode cX11_breachOn 63 = .ok (.iload_n 2, 1) := zd_334.2.2.2.2.2.2.2
theorem zd_335 : (decode cX11_breachOn 64 = .ok (.invokevirtual 349, 3)) ∧ (decode cX11_breachOn 67 = .ok (.ifCond .eq 14, 3)) ∧ (decode cX11_breachOn 70 = .ok (.new 202, 3)) ∧ (decode cX11_breachOn 73 = .ok (.dup, 1)) ∧ (decode cX11_breachOn 74 = .ok (.iload_n 2, 1)) ∧ (decode cX11_breachOn 75 = .ok (.iload_n 3, 1)) ∧ (decode cX11_breachOn 76 = .ok (.iconst (-1), 1)) ∧ (decode cX11_breachOn 77 = .ok (.invokespecial 353, 3)) := by decide +kernel
theorem dX11_breachOn_64 : decode cX11_breachOn 64 = .ok (.invokevirtual 349, 3) := zd_335.1
theorem dX11_breachOn_67 : decode cX11_breachOn 67 = .ok (.ifCond .eq 14, 3) := zd_335.2.1
theorem dX11_breachOn_70 : decode cX11_breachOn 70 = .ok (.new 202, 3) := zd_335.2.2.1
theorem dX11_breachOn_73 : decode cX11_breachOn 73 = .ok (.dup, 1) := zd_335.2.2.2.1
theorem dX11_breachOn_74 : decode cX11_breachOn 74 = .ok (.iload_n 2, 1) := zd_335.2.2.2.2.1
theorem dX11_breachOn_75 : decode cX11_breachOn 75 = .ok (.iload_n 3, 1) := zd_335.2.2.2.2.2.1
theorem dX11_breachOn_76 : decode cX11_breachOn 76 = .ok (.iconst (-1), 1) := zd_335.2.2.2.2.2.2.1
theorem dX11_breachOn_77 : decode cX11_breachOn 77 = .ok (.invokespecial 353, 3) := zd_335.2.2.2.2.2.2.2
theorem zd_336 : (decode cX11_breachOn 80 = .ok (.areturn, 1)) ∧ (decode cX11_breachOn 81 = .ok (.iinc 3 1, 3)) ∧ (decode cX11_breachOn 84 = .ok (.goto (-49), 3)) ∧ (decode cX11_breachOn 87 = .ok (.iinc 2 1, 3)) ∧ (decode cX11_breachOn 90 = .ok (.goto (-62), 3)) ∧ (decode cX11_breachOn 93 = .ok (.new 202, 3)) ∧ (decode cX11_breachOn 96 = .ok (.dup, 1)) ∧ (decode cX11_breachOn 97 = .ok (.iconst 0, 1)) := by decide +kernel
theorem dX11_breachOn_80 : decode cX11_breachOn 80 = .ok (.areturn, 1) := zd_336.1
theorem dX11_breachOn_81 : decode cX11_breachOn 81 = .ok (.iinc 3 1, 3) := zd_336.2.1
theorem dX11_breachOn_84 : decode cX11_breachOn 84 = .ok (.goto (-49), 3) := zd_336.2.2.1
theorem dX11_breachOn_87 : decode cX11_breachOn 87 = .ok (.iinc 2 1, 3) := zd_336.2.2.2.1
theorem dX11_breachOn_90 : decode cX11_breachOn 90 = .ok (.goto (-62), 3) := zd_336.2.2.2.2.1
theorem dX11_breachOn_93 : decode cX11_breachOn 93 = .ok (.new 202, 3) := zd_336.2.2.2.2.2.1
theorem dX11_breachOn_96 : decode cX11_breachOn 96 = .ok (.dup, 1) := zd_336.2.2.2.2.2.2.1
theorem dX11_breachOn_97 : decode cX11_breachOn 97 = .ok (.iconst 0, 1) := zd_336.2.2.2.2.2.2.2
theorem zd_337 : (decode cX11_breachOn 98 = .ok (.iconst (-1), 1)) ∧ (decode cX11_breachOn 99 = .ok (.iconst (-1), 1)) ∧ (decode cX11_breachOn 100 = .ok (.invokespecial 353, 3)) ∧ (decode cX11_breachOn 103 = .ok (.areturn, 1)) := by decide +kernel
theorem dX11_breachOn_98 : decode cX11_breachOn 98 = .ok (.iconst (-1), 1) := zd_337.1
theorem dX11_breachOn_99 : decode cX11_breachOn 99 = .ok (.iconst (-1), 1) := zd_337.2.1
theorem dX11_breachOn_100 : decode cX11_breachOn 100 = .ok (.invokespecial 353, 3) := zd_337.2.2.1
theorem dX11_breachOn_103 : decode cX11_breachOn 103 = .ok (.areturn, 1) := zd_337.2.2.2
theorem zd_338 : (decode cX11_leastPair 0 = .ok (.iconst 0, 1)) ∧ (decode cX11_leastPair 1 = .ok (.istore_n 3, 1)) ∧ (decode cX11_leastPair 2 = .ok (.iload_n 3, 1)) ∧ (decode cX11_leastPair 3 = .ok (.aload_n 0, 1)) ∧ (decode cX11_leastPair 4 = .ok (.getfield 24, 3)) ∧ (decode cX11_leastPair 7 = .ok (.if_icmp .ge 108, 3)) ∧ (decode cX11_leastPair 10 = .ok (.aload_n 0, 1)) ∧ (decode cX11_leastPair 11 = .ok (.getfield 20, 3)) := by decide +kernel
theorem dX11_leastPair_0 : decode cX11_leastPair 0 = .ok (.iconst 0, 1) := zd_338.1
theorem dX11_leastPair_1 : decode cX11_leastPair 1 = .ok (.istore_n 3, 1) := zd_338.2.1
theorem dX11_leastPair_2 : decode cX11_leastPair 2 = .ok (.iload_n 3, 1) := zd_338.2.2.1
theorem dX11_leastPair_3 : decode cX11_leastPair 3 = .ok (.aload_n 0, 1) := zd_338.2.2.2.1
theorem dX11_leastPair_4 : decode cX11_leastPair 4 = .ok (.getfield 24, 3) := zd_338.2.2.2.2.1
theorem dX11_leastPair_7 : decode cX11_leastPair 7 = .ok (.if_icmp .ge 108, 3) := zd_338.2.2.2.2.2.1
theorem dX11_leastPair_10 : decode cX11_leastPair 10 = .ok (.aload_n 0, 1) := zd_338.2.2.2.2.2.2.1
theorem dX11_leastPair_11 : decode cX11_leastPair 11 = .ok (.getfield 20, 3) := zd_338.2.2.2.2.2.2.2
theorem zd_339 : (decode cX11_leastPair 14 = .ok (.iload_n 3, 1)) ∧ (decode cX11_leastPair 15 = .ok (.aaload, 1)) ∧ (decode cX11_leastPair 16 = .ok (.iload_n 1, 1)) ∧ (decode cX11_leastPair 17 = .ok (.invokevirtual 346, 3)) ∧ (decode cX11_leastPair 20 = .ok (.ifCond .ne 6, 3)) ∧ (decode cX11_leastPair 23 = .ok (.goto 86, 3)) ∧ (decode cX11_leastPair 26 = .ok (.iload_n 3, 1)) ∧ (decode cX11_leastPair 27 = .ok (.iconst 1, 1)) := by decide +kernel
theorem dX11_leastPair_14 : decode cX11_leastPair 14 = .ok (.iload_n 3, 1) := zd_339.1
theorem dX11_leastPair_15 : decode cX11_leastPair 15 = .ok (.aaload, 1) := zd_339.2.1
theorem dX11_leastPair_16 : decode cX11_leastPair 16 = .ok (.iload_n 1, 1) := zd_339.2.2.1
theorem dX11_leastPair_17 : decode cX11_leastPair 17 = .ok (.invokevirtual 346, 3) := zd_339.2.2.2.1
theorem dX11_leastPair_20 : decode cX11_leastPair 20 = .ok (.ifCond .ne 6, 3) := zd_339.2.2.2.2.1
theorem dX11_leastPair_23 : decode cX11_leastPair 23 = .ok (.goto 86, 3) := zd_339.2.2.2.2.2.1
theorem dX11_leastPair_26 : decode cX11_leastPair 26 = .ok (.iload_n 3, 1) := zd_339.2.2.2.2.2.2.1
theorem dX11_leastPair_27 : decode cX11_leastPair 27 = .ok (.iconst 1, 1) := zd_339.2.2.2.2.2.2.2
theorem zd_340 : (decode cX11_leastPair 28 = .ok (.iadd, 1)) ∧ (decode cX11_leastPair 29 = .ok (.istore 4, 2)) ∧ (decode cX11_leastPair 31 = .ok (.iload 4, 2)) ∧ (decode cX11_leastPair 33 = .ok (.aload_n 0, 1)) ∧ (decode cX11_leastPair 34 = .ok (.getfield 24, 3)) ∧ (decode cX11_leastPair 37 = .ok (.if_icmp .ge 72, 3)) ∧ (decode cX11_leastPair 40 = .ok (.aload_n 0, 1)) ∧ (decode cX11_leastPair 41 = .ok (.aload_n 0, 1)) := by decide +kernel
theorem dX11_leastPair_28 : decode cX11_leastPair 28 = .ok (.iadd, 1) := zd_340.1
theorem dX11_leastPair_29 : decode cX11_leastPair 29 = .ok (.istore 4, 2) := zd_340.2.1
theorem dX11_leastPair_31 : decode cX11_leastPair 31 = .ok (.iload 4, 2) := zd_340.2.2.1
theorem dX11_leastPair_33 : decode cX11_leastPair 33 = .ok (.aload_n 0, 1) := zd_340.2.2.2.1
theorem dX11_leastPair_34 : decode cX11_leastPair 34 = .ok (.getfield 24, 3) := zd_340.2.2.2.2.1
theorem dX11_leastPair_37 : decode cX11_leastPair 37 = .ok (.if_icmp .ge 72, 3) := zd_340.2.2.2.2.2.1
theorem dX11_leastPair_40 : decode cX11_leastPair 40 = .ok (.aload_n 0, 1) := zd_340.2.2.2.2.2.2.1
theorem dX11_leastPair_41 : decode cX11_leastPair 41 = .ok (.aload_n 0, 1) := zd_340.2.2.2.2.2.2.2
theorem zd_341 : (decode cX11_leastPair 42 = .ok (.getfield 20, 3)) ∧ (decode cX11_leastPair 45 = .ok (.iload_n 3, 1)) ∧ (decode cX11_leastPair 46 = .ok (.aaload, 1)) ∧ (decode cX11_leastPair 47 = .ok (.aload_n 0, 1)) ∧ (decode cX11_leastPair 48 = .ok (.getfield 20, 3)) ∧ (decode cX11_leastPair 51 = .ok (.iload 4, 2)) ∧ (decode cX11_leastPair 53 = .ok (.aaload, 1)) ∧ (decode cX11_leastPair 54 = .ok (.iload_n 2, 1)) := by decide +kernel
theorem dX11_leastPair_42 : decode cX11_leastPair 42 = .ok (.getfield 20, 3) := zd_341.1
theorem dX11_leastPair_45 : decode cX11_leastPair 45 = .ok (.iload_n 3, 1) := zd_341.2.1
theorem dX11_leastPair_46 : decode cX11_leastPair 46 = .ok (.aaload, 1) := zd_341.2.2.1
theorem dX11_leastPair_47 : decode cX11_leastPair 47 = .ok (.aload_n 0, 1) := zd_341.2.2.2.1
theorem dX11_leastPair_48 : decode cX11_leastPair 48 = .ok (.getfield 20, 3) := zd_341.2.2.2.2.1
theorem dX11_leastPair_51 : decode cX11_leastPair 51 = .ok (.iload 4, 2) := zd_341.2.2.2.2.2.1
theorem dX11_leastPair_53 : decode cX11_leastPair 53 = .ok (.aaload, 1) := zd_341.2.2.2.2.2.2.1
theorem dX11_leastPair_54 : decode cX11_leastPair 54 = .ok (.iload_n 2, 1) := zd_341.2.2.2.2.2.2.2
theorem zd_342 : (decode cX11_leastPair 55 = .ok (.invokevirtual 354, 3)) ∧ (decode cX11_leastPair 58 = .ok (.ifCond .eq 45, 3)) ∧ (decode cX11_leastPair 61 = .ok (.aload_n 0, 1)) ∧ (decode cX11_leastPair 62 = .ok (.getfield 20, 3)) ∧ (decode cX11_leastPair 65 = .ok (.iload_n 3, 1)) ∧ (decode cX11_leastPair 66 = .ok (.aaload, 1)) ∧ (decode cX11_leastPair 67 = .ok (.aload_n 0, 1)) ∧ (decode cX11_leastPair 68 = .ok (.getfield 20, 3)) := by decide +kernel
theorem dX11_leastPair_55 : decode cX11_leastPair 55 = .ok (.invokevirtual 354, 3) := zd_342.1
theorem dX11_leastPair_58 : decode cX11_leastPair 58 = .ok (.ifCond .eq 45, 3) := zd_342.2.1
theorem dX11_leastPair_61 : decode cX11_leastPair 61 = .ok (.aload_n 0, 1) := zd_342.2.2.1
theorem dX11_leastPair_62 : decode cX11_leastPair 62 = .ok (.getfield 20, 3) := zd_342.2.2.2.1
theorem dX11_leastPair_65 : decode cX11_leastPair 65 = .ok (.iload_n 3, 1) := zd_342.2.2.2.2.1
theorem dX11_leastPair_66 : decode cX11_leastPair 66 = .ok (.aaload, 1) := zd_342.2.2.2.2.2.1
theorem dX11_leastPair_67 : decode cX11_leastPair 67 = .ok (.aload_n 0, 1) := zd_342.2.2.2.2.2.2.1
theorem dX11_leastPair_68 : decode cX11_leastPair 68 = .ok (.getfield 20, 3) := zd_342.2.2.2.2.2.2.2
theorem zd_343 : (decode cX11_leastPair 71 = .ok (.iload 4, 2)) ∧ (decode cX11_leastPair 73 = .ok (.aaload, 1)) ∧ (decode cX11_leastPair 74 = .ok (.iload_n 1, 1)) ∧ (decode cX11_leastPair 75 = .ok (.iload_n 2, 1)) ∧ (decode cX11_leastPair 76 = .ok (.iconst 3, 1)) ∧ (decode cX11_leastPair 77 = .ok (.if_icmp .ne 7, 3)) ∧ (decode cX11_leastPair 80 = .ok (.iconst 1, 1)) ∧ (decode cX11_leastPair 81 = .ok (.goto 4, 3)) := by decide +kernel
theorem dX11_leastPair_71 : decode cX11_leastPair 71 = .ok (.iload 4, 2) := zd_343.1
theorem dX11_leastPair_73 : decode cX11_leastPair 73 = .ok (.aaload, 1) := zd_343.2.1
theorem dX11_leastPair_74 : decode cX11_leastPair 74 = .ok (.iload_n 1, 1) := zd_343.2.2.1
theorem dX11_leastPair_75 : decode cX11_leastPair 75 = .ok (.iload_n 2, 1) := zd_343.2.2.2.1
theorem dX11_leastPair_76 : decode cX11_leastPair 76 = .ok (.iconst 3, 1) := zd_343.2.2.2.2.1
theorem dX11_leastPair_77 : decode cX11_leastPair 77 = .ok (.if_icmp .ne 7, 3) := zd_343.2.2.2.2.2.1
theorem dX11_leastPair_80 : decode cX11_leastPair 80 = .ok (.iconst 1, 1) := zd_343.2.2.2.2.2.2.1
theorem dX11_leastPair_81 : decode cX11_leastPair 81 = .ok (.goto 4, 3) := zd_343.2.2.2.2.2.2.2
theorem zd_344 : (decode cX11_leastPair 84 = .ok (.iconst 0, 1)) ∧ (decode cX11_leastPair 85 = .ok (.invokevirtual 358, 3)) ∧ (decode cX11_leastPair 88 = .ok (.ifCond .eq 15, 3)) ∧ (decode cX11_leastPair 91 = .ok (.new 202, 3)) ∧ (decode cX11_leastPair 94 = .ok (.dup, 1)) ∧ (decode cX11_leastPair 95 = .ok (.iload_n 2, 1)) ∧ (decode cX11_leastPair 96 = .ok (.iload_n 3, 1)) ∧ (decode cX11_leastPair 97 = .ok (.iload 4, 2)) := by decide +kernel
theorem dX11_leastPair_84 : decode cX11_leastPair 84 = .ok (.iconst 0, 1) := zd_344.1
theorem dX11_leastPair_85 : decode cX11_leastPair 85 = .ok (.invokevirtual 358, 3) := zd_344.2.1
theorem dX11_leastPair_88 : decode cX11_leastPair 88 = .ok (.ifCond .eq 15, 3) := zd_344.2.2.1
theorem dX11_leastPair_91 : decode cX11_leastPair 91 = .ok (.new 202, 3) := zd_344.2.2.2.1
theorem dX11_leastPair_94 : decode cX11_leastPair 94 = .ok (.dup, 1) := zd_344.2.2.2.2.1
theorem dX11_leastPair_95 : decode cX11_leastPair 95 = .ok (.iload_n 2, 1) := zd_344.2.2.2.2.2.1
theorem dX11_leastPair_96 : decode cX11_leastPair 96 = .ok (.iload_n 3, 1) := zd_344.2.2.2.2.2.2.1
theorem dX11_leastPair_97 : decode cX11_leastPair 97 = .ok (.iload 4, 2) := zd_344.2.2.2.2.2.2.2
theorem zd_345 : (decode cX11_leastPair 99 = .ok (.invokespecial 353, 3)) ∧ (decode cX11_leastPair 102 = .ok (.areturn, 1)) ∧ (decode cX11_leastPair 103 = .ok (.iinc 4 1, 3)) ∧ (decode cX11_leastPair 106 = .ok (.goto (-75), 3)) ∧ (decode cX11_leastPair 109 = .ok (.iinc 3 1, 3)) ∧ (decode cX11_leastPair 112 = .ok (.goto (-110), 3)) ∧ (decode cX11_leastPair 115 = .ok (.aconst_null, 1)) ∧ (decode cX11_leastPair 116 = .ok (.areturn, 1)) := by decide +kernel
theorem dX11_leastPair_99 : decode cX11_leastPair 99 = .ok (.invokespecial 353, 3) := zd_345.1
theorem dX11_leastPair_102 : decode cX11_leastPair 102 = .ok (.areturn, 1) := zd_345.2.1
theorem dX11_leastPair_103 : decode cX11_leastPair 103 = .ok (.iinc 4 1, 3) := zd_345.2.2.1
theorem dX11_leastPair_106 : decode cX11_leastPair 106 = .ok (.goto (-75), 3) := zd_345.2.2.2.1
theorem dX11_leastPair_109 : decode cX11_leastPair 109 = .ok (.iinc 3 1, 3) := zd_345.2.2.2.2.1
theorem dX11_leastPair_112 : decode cX11_leastPair 112 = .ok (.goto (-110), 3) := zd_345.2.2.2.2.2.1
theorem dX11_leastPair_115 : decode cX11_leastPair 115 = .ok (.aconst_null, 1) := zd_345.2.2.2.2.2.2.1
theorem dX11_leastPair_116 : decode cX11_leastPair 116 = .ok (.areturn, 1) := zd_345.2.2.2.2.2.2.2
theorem zd_346 : (decode cX11_mayNotMeet 0 = .ok (.iload_n 3, 1)) ∧ (decode cX11_mayNotMeet 1 = .ok (.tableswitch 118 1 3 #[27, 76, 98], 27)) ∧ (decode cX11_mayNotMeet 28 = .ok (.aload_n 1, 1)) ∧ (decode cX11_mayNotMeet 29 = .ok (.instanceof 104, 3)) ∧ (decode cX11_mayNotMeet 32 = .ok (.ifCond .eq 43, 3)) ∧ (decode cX11_mayNotMeet 35 = .ok (.aload_n 1, 1)) ∧ (decode cX11_mayNotMeet 36 = .ok (.checkcast 104, 3)) ∧ (decode cX11_mayNotMeet 39 = .ok (.astore 5, 2)) := by decide +kernel
theorem dX11_mayNotMeet_0 : decode cX11_mayNotMeet 0 = .ok (.iload_n 3, 1) := zd_346.1
theorem dX11_mayNotMeet_1 : decode cX11_mayNotMeet 1 = .ok (.tableswitch 118 1 3 #[27, 76, 98], 27) := zd_346.2.1
theorem dX11_mayNotMeet_28 : decode cX11_mayNotMeet 28 = .ok (.aload_n 1, 1) := zd_346.2.2.1
theorem dX11_mayNotMeet_29 : decode cX11_mayNotMeet 29 = .ok (.instanceof 104, 3) := zd_346.2.2.2.1
theorem dX11_mayNotMeet_32 : decode cX11_mayNotMeet 32 = .ok (.ifCond .eq 43, 3) := zd_346.2.2.2.2.1
theorem dX11_mayNotMeet_35 : decode cX11_mayNotMeet 35 = .ok (.aload_n 1, 1) := zd_346.2.2.2.2.2.1
theorem dX11_mayNotMeet_36 : decode cX11_mayNotMeet 36 = .ok (.checkcast 104, 3) := zd_346.2.2.2.2.2.2.1
theorem dX11_mayNotMeet_39 : decode cX11_mayNotMeet 39 = .ok (.astore 5, 2) := zd_346.2.2.2.2.2.2.2
theorem zd_347 : (decode cX11_mayNotMeet 41 = .ok (.aload_n 2, 1)) ∧ (decode cX11_mayNotMeet 42 = .ok (.instanceof 104, 3)) ∧ (decode cX11_mayNotMeet 45 = .ok (.ifCond .eq 30, 3)) ∧ (decode cX11_mayNotMeet 48 = .ok (.aload_n 2, 1)) ∧ (decode cX11_mayNotMeet 49 = .ok (.checkcast 104, 3)) ∧ (decode cX11_mayNotMeet 52 = .ok (.astore 4, 2)) ∧ (decode cX11_mayNotMeet 54 = .ok (.aload_n 0, 1)) ∧ (decode cX11_mayNotMeet 55 = .ok (.aload 5, 2)) := by decide +kernel
theorem dX11_mayNotMeet_41 : decode cX11_mayNotMeet 41 = .ok (.aload_n 2, 1) := zd_347.1
theorem dX11_mayNotMeet_42 : decode cX11_mayNotMeet 42 = .ok (.instanceof 104, 3) := zd_347.2.1
theorem dX11_mayNotMeet_45 : decode cX11_mayNotMeet 45 = .ok (.ifCond .eq 30, 3) := zd_347.2.2.1
theorem dX11_mayNotMeet_48 : decode cX11_mayNotMeet 48 = .ok (.aload_n 2, 1) := zd_347.2.2.2.1
theorem dX11_mayNotMeet_49 : decode cX11_mayNotMeet 49 = .ok (.checkcast 104, 3) := zd_347.2.2.2.2.1
theorem dX11_mayNotMeet_52 : decode cX11_mayNotMeet 52 = .ok (.astore 4, 2) := zd_347.2.2.2.2.2.1
theorem dX11_mayNotMeet_54 : decode cX11_mayNotMeet 54 = .ok (.aload_n 0, 1) := zd_347.2.2.2.2.2.2.1
theorem dX11_mayNotMeet_55 : decode cX11_mayNotMeet 55 = .ok (.aload 5, 2) := zd_347.2.2.2.2.2.2.2
theorem zd_348 : (decode cX11_mayNotMeet 57 = .ok (.getfield 260, 3)) ∧ (decode cX11_mayNotMeet 60 = .ok (.aload 4, 2)) ∧ (decode cX11_mayNotMeet 62 = .ok (.getfield 260, 3)) ∧ (decode cX11_mayNotMeet 65 = .ok (.invokevirtual 132, 3)) ∧ (decode cX11_mayNotMeet 68 = .ok (.ifCond .eq 7, 3)) ∧ (decode cX11_mayNotMeet 71 = .ok (.iconst 1, 1)) ∧ (decode cX11_mayNotMeet 72 = .ok (.goto 4, 3)) ∧ (decode cX11_mayNotMeet 75 = .ok (.iconst 0, 1)) := by decide +kernel
theorem dX11_mayNotMeet_57 : decode cX11_mayNotMeet 57 = .ok (.getfield 260, 3) := zd_348.1
theorem dX11_mayNotMeet_60 : decode cX11_mayNotMeet 60 = .ok (.aload 4, 2) := zd_348.2.1
theorem dX11_mayNotMeet_62 : decode cX11_mayNotMeet 62 = .ok (.getfield 260, 3) := zd_348.2.2.1
theorem dX11_mayNotMeet_65 : decode cX11_mayNotMeet 65 = .ok (.invokevirtual 132, 3) := zd_348.2.2.2.1
theorem dX11_mayNotMeet_68 : decode cX11_mayNotMeet 68 = .ok (.ifCond .eq 7, 3) := zd_348.2.2.2.2.1
theorem dX11_mayNotMeet_71 : decode cX11_mayNotMeet 71 = .ok (.iconst 1, 1) := zd_348.2.2.2.2.2.1
theorem dX11_mayNotMeet_72 : decode cX11_mayNotMeet 72 = .ok (.goto 4, 3) := zd_348.2.2.2.2.2.2.1
theorem dX11_mayNotMeet_75 : decode cX11_mayNotMeet 75 = .ok (.iconst 0, 1) := zd_348.2.2.2.2.2.2.2
theorem zd_349 : (decode cX11_mayNotMeet 76 = .ok (.ireturn, 1)) ∧ (decode cX11_mayNotMeet 77 = .ok (.aload_n 1, 1)) ∧ (decode cX11_mayNotMeet 78 = .ok (.aload_n 2, 1)) ∧ (decode cX11_mayNotMeet 79 = .ok (.invokestatic 362, 3)) ∧ (decode cX11_mayNotMeet 82 = .ok (.ifCond .ne 11, 3)) ∧ (decode cX11_mayNotMeet 85 = .ok (.aload_n 2, 1)) ∧ (decode cX11_mayNotMeet 86 = .ok (.aload_n 1, 1)) ∧ (decode cX11_mayNotMeet 87 = .ok (.invokestatic 362, 3)) := by decide +kernel
theorem dX11_mayNotMeet_76 : decode cX11_mayNotMeet 76 = .ok (.ireturn, 1) := zd_349.1
theorem dX11_mayNotMeet_77 : decode cX11_mayNotMeet 77 = .ok (.aload_n 1, 1) := zd_349.2.1
theorem dX11_mayNotMeet_78 : decode cX11_mayNotMeet 78 = .ok (.aload_n 2, 1) := zd_349.2.2.1
theorem dX11_mayNotMeet_79 : decode cX11_mayNotMeet 79 = .ok (.invokestatic 362, 3) := zd_349.2.2.2.1
theorem dX11_mayNotMeet_82 : decode cX11_mayNotMeet 82 = .ok (.ifCond .ne 11, 3) := zd_349.2.2.2.2.1
theorem dX11_mayNotMeet_85 : decode cX11_mayNotMeet 85 = .ok (.aload_n 2, 1) := zd_349.2.2.2.2.2.1
theorem dX11_mayNotMeet_86 : decode cX11_mayNotMeet 86 = .ok (.aload_n 1, 1) := zd_349.2.2.2.2.2.2.1
theorem dX11_mayNotMeet_87 : decode cX11_mayNotMeet 87 = .ok (.invokestatic 362, 3) := zd_349.2.2.2.2.2.2.2
theorem zd_350 : (decode cX11_mayNotMeet 90 = .ok (.ifCond .eq 7, 3)) ∧ (decode cX11_mayNotMeet 93 = .ok (.iconst 1, 1)) ∧ (decode cX11_mayNotMeet 94 = .ok (.goto 4, 3)) ∧ (decode cX11_mayNotMeet 97 = .ok (.iconst 0, 1)) ∧ (decode cX11_mayNotMeet 98 = .ok (.ireturn, 1)) ∧ (decode cX11_mayNotMeet 99 = .ok (.aload_n 1, 1)) ∧ (decode cX11_mayNotMeet 100 = .ok (.instanceof 83, 3)) ∧ (decode cX11_mayNotMeet 103 = .ok (.ifCond .eq 14, 3)) := by decide +kernel
theorem dX11_mayNotMeet_90 : decode cX11_mayNotMeet 90 = .ok (.ifCond .eq 7, 3) := zd_350.1
theorem dX11_mayNotMeet_93 : decode cX11_mayNotMeet 93 = .ok (.iconst 1, 1) := zd_350.2.1
theorem dX11_mayNotMeet_94 : decode cX11_mayNotMeet 94 = .ok (.goto 4, 3) := zd_350.2.2.1
theorem dX11_mayNotMeet_97 : decode cX11_mayNotMeet 97 = .ok (.iconst 0, 1) := zd_350.2.2.2.1
theorem dX11_mayNotMeet_98 : decode cX11_mayNotMeet 98 = .ok (.ireturn, 1) := zd_350.2.2.2.2.1
theorem dX11_mayNotMeet_99 : decode cX11_mayNotMeet 99 = .ok (.aload_n 1, 1) := zd_350.2.2.2.2.2.1
theorem dX11_mayNotMeet_100 : decode cX11_mayNotMeet 100 = .ok (.instanceof 83, 3) := zd_350.2.2.2.2.2.2.1
theorem dX11_mayNotMeet_103 : decode cX11_mayNotMeet 103 = .ok (.ifCond .eq 14, 3) := zd_350.2.2.2.2.2.2.2
theorem zd_351 : (decode cX11_mayNotMeet 106 = .ok (.aload_n 2, 1)) ∧ (decode cX11_mayNotMeet 107 = .ok (.instanceof 83, 3)) ∧ (decode cX11_mayNotMeet 110 = .ok (.ifCond .eq 7, 3)) ∧ (decode cX11_mayNotMeet 113 = .ok (.iconst 1, 1)) ∧ (decode cX11_mayNotMeet 114 = .ok (.goto 4, 3)) ∧ (decode cX11_mayNotMeet 117 = .ok (.iconst 0, 1)) ∧ (decode cX11_mayNotMeet 118 = .ok (.ireturn, 1)) ∧ (decode cX11_mayNotMeet 119 = .ok (.iconst 0, 1)) := by decide +kernel
theorem dX11_mayNotMeet_106 : decode cX11_mayNotMeet 106 = .ok (.aload_n 2, 1) := zd_351.1
theorem dX11_mayNotMeet_107 : decode cX11_mayNotMeet 107 = .ok (.instanceof 83, 3) := zd_351.2.1
theorem dX11_mayNotMeet_110 : decode cX11_mayNotMeet 110 = .ok (.ifCond .eq 7, 3) := zd_351.2.2.1
theorem dX11_mayNotMeet_113 : decode cX11_mayNotMeet 113 = .ok (.iconst 1, 1) := zd_351.2.2.2.1
theorem dX11_mayNotMeet_114 : decode cX11_mayNotMeet 114 = .ok (.goto 4, 3) := zd_351.2.2.2.2.1
theorem dX11_mayNotMeet_117 : decode cX11_mayNotMeet 117 = .ok (.iconst 0, 1) := zd_351.2.2.2.2.2.1
theorem dX11_mayNotMeet_118 : decode cX11_mayNotMeet 118 = .ok (.ireturn, 1) := zd_351.2.2.2.2.2.2.1
theorem dX11_mayNotMeet_119 : decode cX11_mayNotMeet 119 = .ok (.iconst 0, 1) := zd_351.2.2.2.2.2.2.2
theorem dX11_mayNotMeet_120 : decode cX11_mayNotMeet 120 = .ok (.ireturn, 1) := by decide +kernel
theorem zd_352 : (decode cX11_isNamedIn 0 = .ok (.aload_n 0, 1)) ∧ (decode cX11_isNamedIn 1 = .ok (.instanceof 104, 3)) ∧ (decode cX11_isNamedIn 4 = .ok (.ifCond .eq 36, 3)) ∧ (decode cX11_isNamedIn 7 = .ok (.aload_n 0, 1)) ∧ (decode cX11_isNamedIn 8 = .ok (.checkcast 104, 3)) ∧ (decode cX11_isNamedIn 11 = .ok (.astore_n 3, 1)) ∧ (decode cX11_isNamedIn 12 = .ok (.aload_n 1, 1)) ∧ (decode cX11_isNamedIn 13 = .ok (.instanceof 66, 3)) := by decide +kernel
theorem dX11_isNamedIn_0 : decode cX11_isNamedIn 0 = .ok (.aload_n 0, 1) := zd_352.1
theorem dX11_isNamedIn_1 : decode cX11_isNamedIn 1 = .ok (.instanceof 104, 3) := zd_352.2.1
theorem dX11_isNamedIn_4 : decode cX11_isNamedIn 4 = .ok (.ifCond .eq 36, 3) := zd_352.2.2.1
theorem dX11_isNamedIn_7 : decode cX11_isNamedIn 7 = .ok (.aload_n 0, 1) := zd_352.2.2.2.1
theorem dX11_isNamedIn_8 : decode cX11_isNamedIn 8 = .ok (.checkcast 104, 3) := zd_352.2.2.2.2.1
theorem dX11_isNamedIn_11 : decode cX11_isNamedIn 11 = .ok (.astore_n 3, 1) := zd_352.2.2.2.2.2.1
theorem dX11_isNamedIn_12 : decode cX11_isNamedIn 12 = .ok (.aload_n 1, 1) := zd_352.2.2.2.2.2.2.1
theorem dX11_isNamedIn_13 : decode cX11_isNamedIn 13 = .ok (.instanceof 66, 3) := zd_352.2.2.2.2.2.2.2
theorem zd_353 : (decode cX11_isNamedIn 16 = .ok (.ifCond .eq 24, 3)) ∧ (decode cX11_isNamedIn 19 = .ok (.aload_n 1, 1)) ∧ (decode cX11_isNamedIn 20 = .ok (.checkcast 66, 3)) ∧ (decode cX11_isNamedIn 23 = .ok (.astore_n 2, 1)) ∧ (decode cX11_isNamedIn 24 = .ok (.aload_n 2, 1)) ∧ (decode cX11_isNamedIn 25 = .ok (.getfield 135, 3)) ∧ (decode cX11_isNamedIn 28 = .ok (.aload_n 3, 1)) ∧ (decode cX11_isNamedIn 29 = .ok (.getfield 260, 3)) := by decide +kernel
theorem dX11_isNamedIn_16 : decode cX11_isNamedIn 16 = .ok (.ifCond .eq 24, 3) := zd_353.1
theorem dX11_isNamedIn_19 : decode cX11_isNamedIn 19 = .ok (.aload_n 1, 1) := zd_353.2.1
theorem dX11_isNamedIn_20 : decode cX11_isNamedIn 20 = .ok (.checkcast 66, 3) := zd_353.2.2.1
theorem dX11_isNamedIn_23 : decode cX11_isNamedIn 23 = .ok (.astore_n 2, 1) := zd_353.2.2.2.1
theorem dX11_isNamedIn_24 : decode cX11_isNamedIn 24 = .ok (.aload_n 2, 1) := zd_353.2.2.2.2.1
theorem dX11_isNamedIn_25 : decode cX11_isNamedIn 25 = .ok (.getfield 135, 3) := zd_353.2.2.2.2.2.1
theorem dX11_isNamedIn_28 : decode cX11_isNamedIn 28 = .ok (.aload_n 3, 1) := zd_353.2.2.2.2.2.2.1
theorem dX11_isNamedIn_29 : decode cX11_isNamedIn 29 = .ok (.getfield 260, 3) := zd_353.2.2.2.2.2.2.2
theorem zd_354 : (decode cX11_isNamedIn 32 = .ok (.baload, 1)) ∧ (decode cX11_isNamedIn 33 = .ok (.ifCond .eq 7, 3)) ∧ (decode cX11_isNamedIn 36 = .ok (.iconst 1, 1)) ∧ (decode cX11_isNamedIn 37 = .ok (.goto 4, 3)) ∧ (decode cX11_isNamedIn 40 = .ok (.iconst 0, 1)) ∧ (decode cX11_isNamedIn 41 = .ok (.ireturn, 1)) := by decide +kernel
theorem dX11_isNamedIn_32 : decode cX11_isNamedIn 32 = .ok (.baload, 1) := zd_354.1
theorem dX11_isNamedIn_33 : decode cX11_isNamedIn 33 = .ok (.ifCond .eq 7, 3) := zd_354.2.1
theorem dX11_isNamedIn_36 : decode cX11_isNamedIn 36 = .ok (.iconst 1, 1) := zd_354.2.2.1
theorem dX11_isNamedIn_37 : decode cX11_isNamedIn 37 = .ok (.goto 4, 3) := zd_354.2.2.2.1
theorem dX11_isNamedIn_40 : decode cX11_isNamedIn 40 = .ok (.iconst 0, 1) := zd_354.2.2.2.2.1
theorem dX11_isNamedIn_41 : decode cX11_isNamedIn 41 = .ok (.ireturn, 1) := zd_354.2.2.2.2.2
theorem zd_355 : (decode cX11_failsAlone 0 = .ok (.iload_n 2, 1)) ∧ (decode cX11_failsAlone 1 = .ok (.iconst 4, 1)) ∧ (decode cX11_failsAlone 2 = .ok (.if_icmp .ne 32, 3)) ∧ (decode cX11_failsAlone 5 = .ok (.aload_n 1, 1)) ∧ (decode cX11_failsAlone 6 = .ok (.instanceof 66, 3)) ∧ (decode cX11_failsAlone 9 = .ok (.ifCond .eq 23, 3)) ∧ (decode cX11_failsAlone 12 = .ok (.aload_n 1, 1)) ∧ (decode cX11_failsAlone 13 = .ok (.checkcast 66, 3)) := by decide +kernel
theorem dX11_failsAlone_0 : decode cX11_failsAlone 0 = .ok (.iload_n 2, 1) := zd_355.1
theorem dX11_failsAlone_1 : decode cX11_failsAlone 1 = .ok (.iconst 4, 1) := zd_355.2.1
theorem dX11_failsAlone_2 : decode cX11_failsAlone 2 = .ok (.if_icmp .ne 32, 3) := zd_355.2.2.1
theorem dX11_failsAlone_5 : decode cX11_failsAlone 5 = .ok (.aload_n 1, 1) := zd_355.2.2.2.1
theorem dX11_failsAlone_6 : decode cX11_failsAlone 6 = .ok (.instanceof 66, 3) := zd_355.2.2.2.2.1
theorem dX11_failsAlone_9 : decode cX11_failsAlone 9 = .ok (.ifCond .eq 23, 3) := zd_355.2.2.2.2.2.1
theorem dX11_failsAlone_12 : decode cX11_failsAlone 12 = .ok (.aload_n 1, 1) := zd_355.2.2.2.2.2.2.1
theorem dX11_failsAlone_13 : decode cX11_failsAlone 13 = .ok (.checkcast 66, 3) := zd_355.2.2.2.2.2.2.2
theorem zd_356 : (decode cX11_failsAlone 16 = .ok (.astore_n 3, 1)) ∧ (decode cX11_failsAlone 17 = .ok (.aload_n 3, 1)) ∧ (decode cX11_failsAlone 18 = .ok (.invokevirtual 254, 3)) ∧ (decode cX11_failsAlone 21 = .ok (.aload_n 3, 1)) ∧ (decode cX11_failsAlone 22 = .ok (.getfield 366, 3)) ∧ (decode cX11_failsAlone 25 = .ok (.if_icmp .ge 7, 3)) ∧ (decode cX11_failsAlone 28 = .ok (.iconst 1, 1)) ∧ (decode cX11_failsAlone 29 = .ok (.goto 4, 3)) := by decide +kernel
theorem dX11_failsAlone_16 : decode cX11_failsAlone 16 = .ok (.astore_n 3, 1) := zd_356.1
theorem dX11_failsAlone_17 : decode cX11_failsAlone 17 = .ok (.aload_n 3, 1) := zd_356.2.1
theorem dX11_failsAlone_18 : decode cX11_failsAlone 18 = .ok (.invokevirtual 254, 3) := zd_356.2.2.1
theorem dX11_failsAlone_21 : decode cX11_failsAlone 21 = .ok (.aload_n 3, 1) := zd_356.2.2.2.1
theorem dX11_failsAlone_22 : decode cX11_failsAlone 22 = .ok (.getfield 366, 3) := zd_356.2.2.2.2.1
theorem dX11_failsAlone_25 : decode cX11_failsAlone 25 = .ok (.if_icmp .ge 7, 3) := zd_356.2.2.2.2.2.1
theorem dX11_failsAlone_28 : decode cX11_failsAlone 28 = .ok (.iconst 1, 1) := zd_356.2.2.2.2.2.2.1
theorem dX11_failsAlone_29 : decode cX11_failsAlone 29 = .ok (.goto 4, 3) := zd_356.2.2.2.2.2.2.2
theorem zd_357 : (decode cX11_failsAlone 32 = .ok (.iconst 0, 1)) ∧ (decode cX11_failsAlone 33 = .ok (.ireturn, 1)) ∧ (decode cX11_failsAlone 34 = .ok (.aload_n 1, 1)) ∧ (decode cX11_failsAlone 35 = .ok (.instanceof 83, 3)) ∧ (decode cX11_failsAlone 38 = .ok (.ifCond .eq 20, 3)) ∧ (decode cX11_failsAlone 41 = .ok (.aload_n 1, 1)) ∧ (decode cX11_failsAlone 42 = .ok (.checkcast 83, 3)) ∧ (decode cX11_failsAlone 45 = .ok (.astore_n 3, 1)) := by decide +kernel
theorem dX11_failsAlone_32 : decode cX11_failsAlone 32 = .ok (.iconst 0, 1) := zd_357.1
theorem dX11_failsAlone_33 : decode cX11_failsAlone 33 = .ok (.ireturn, 1) := zd_357.2.1
theorem dX11_failsAlone_34 : decode cX11_failsAlone 34 = .ok (.aload_n 1, 1) := zd_357.2.2.1
theorem dX11_failsAlone_35 : decode cX11_failsAlone 35 = .ok (.instanceof 83, 3) := zd_357.2.2.2.1
theorem dX11_failsAlone_38 : decode cX11_failsAlone 38 = .ok (.ifCond .eq 20, 3) := zd_357.2.2.2.2.1
theorem dX11_failsAlone_41 : decode cX11_failsAlone 41 = .ok (.aload_n 1, 1) := zd_357.2.2.2.2.2.1
theorem dX11_failsAlone_42 : decode cX11_failsAlone 42 = .ok (.checkcast 83, 3) := zd_357.2.2.2.2.2.2.1
theorem dX11_failsAlone_45 : decode cX11_failsAlone 45 = .ok (.astore_n 3, 1) := zd_357.2.2.2.2.2.2.2
theorem zd_358 : (decode cX11_failsAlone 46 = .ok (.aload_n 0, 1)) ∧ (decode cX11_failsAlone 47 = .ok (.aload_n 3, 1)) ∧ (decode cX11_failsAlone 48 = .ok (.invokevirtual 367, 3)) ∧ (decode cX11_failsAlone 51 = .ok (.ifCond .ne 7, 3)) ∧ (decode cX11_failsAlone 54 = .ok (.iconst 1, 1)) ∧ (decode cX11_failsAlone 55 = .ok (.goto 4, 3)) ∧ (decode cX11_failsAlone 58 = .ok (.iconst 0, 1)) ∧ (decode cX11_failsAlone 59 = .ok (.ireturn, 1)) := by decide +kernel
theorem dX11_failsAlone_46 : decode cX11_failsAlone 46 = .ok (.aload_n 0, 1) := zd_358.1
theorem dX11_failsAlone_47 : decode cX11_failsAlone 47 = .ok (.aload_n 3, 1) := zd_358.2.1
theorem dX11_failsAlone_48 : decode cX11_failsAlone 48 = .ok (.invokevirtual 367, 3) := zd_358.2.2.1
theorem dX11_failsAlone_51 : decode cX11_failsAlone 51 = .ok (.ifCond .ne 7, 3) := zd_358.2.2.2.1
theorem dX11_failsAlone_54 : decode cX11_failsAlone 54 = .ok (.iconst 1, 1) := zd_358.2.2.2.2.1
theorem dX11_failsAlone_55 : decode cX11_failsAlone 55 = .ok (.goto 4, 3) := zd_358.2.2.2.2.2.1
theorem dX11_failsAlone_58 : decode cX11_failsAlone 58 = .ok (.iconst 0, 1) := zd_358.2.2.2.2.2.2.1
theorem dX11_failsAlone_59 : decode cX11_failsAlone 59 = .ok (.ireturn, 1) := zd_358.2.2.2.2.2.2.2
theorem zd_359 : (decode cX11_standsOverStory 0 = .ok (.aload_n 1, 1)) ∧ (decode cX11_standsOverStory 1 = .ok (.invokevirtual 371, 3)) ∧ (decode cX11_standsOverStory 4 = .ok (.astore_n 2, 1)) ∧ (decode cX11_standsOverStory 5 = .ok (.aload_n 2, 1)) ∧ (decode cX11_standsOverStory 6 = .ok (.ifnonnull 5, 3)) ∧ (decode cX11_standsOverStory 9 = .ok (.iconst 0, 1)) ∧ (decode cX11_standsOverStory 10 = .ok (.ireturn, 1)) ∧ (decode cX11_standsOverStory 11 = .ok (.aload_n 2, 1)) := by decide +kernel
theorem dX11_standsOverStory_0 : decode cX11_standsOverStory 0 = .ok (.aload_n 1, 1) := zd_359.1
theorem dX11_standsOverStory_1 : decode cX11_standsOverStory 1 = .ok (.invokevirtual 371, 3) := zd_359.2.1
theorem dX11_standsOverStory_4 : decode cX11_standsOverStory 4 = .ok (.astore_n 2, 1) := zd_359.2.2.1
theorem dX11_standsOverStory_5 : decode cX11_standsOverStory 5 = .ok (.aload_n 2, 1) := zd_359.2.2.2.1
theorem dX11_standsOverStory_6 : decode cX11_standsOverStory 6 = .ok (.ifnonnull 5, 3) := zd_359.2.2.2.2.1
theorem dX11_standsOverStory_9 : decode cX11_standsOverStory 9 = .ok (.iconst 0, 1) := zd_359.2.2.2.2.2.1
theorem dX11_standsOverStory_10 : decode cX11_standsOverStory 10 = .ok (.ireturn, 1) := zd_359.2.2.2.2.2.2.1
theorem dX11_standsOverStory_11 : decode cX11_standsOverStory 11 = .ok (.aload_n 2, 1) := zd_359.2.2.2.2.2.2.2
theorem zd_360 : (decode cX11_standsOverStory 12 = .ok (.getfield 232, 3)) ∧ (decode cX11_standsOverStory 15 = .ok (.istore_n 3, 1)) ∧ (decode cX11_standsOverStory 16 = .ok (.iload_n 3, 1)) ∧ (decode cX11_standsOverStory 17 = .ok (.aload_n 2, 1)) ∧ (decode cX11_standsOverStory 18 = .ok (.getfield 232, 3)) ∧ (decode cX11_standsOverStory 21 = .ok (.aload_n 2, 1)) ∧ (decode cX11_standsOverStory 22 = .ok (.getfield 238, 3)) ∧ (decode cX11_standsOverStory 25 = .ok (.iadd, 1)) := by decide +kernel
theorem dX11_standsOverStory_12 : decode cX11_standsOverStory 12 = .ok (.getfield 232, 3) := zd_360.1
theorem dX11_standsOverStory_15 : decode cX11_standsOverStory 15 = .ok (.istore_n 3, 1) := zd_360.2.1
theorem dX11_standsOverStory_16 : decode cX11_standsOverStory 16 = .ok (.iload_n 3, 1) := zd_360.2.2.1
theorem dX11_standsOverStory_17 : decode cX11_standsOverStory 17 = .ok (.aload_n 2, 1) := zd_360.2.2.2.1
theorem dX11_standsOverStory_18 : decode cX11_standsOverStory 18 = .ok (.getfield 232, 3) := zd_360.2.2.2.2.1
theorem dX11_standsOverStory_21 : decode cX11_standsOverStory 21 = .ok (.aload_n 2, 1) := zd_360.2.2.2.2.2.1
theorem dX11_standsOverStory_22 : decode cX11_standsOverStory 22 = .ok (.getfield 238, 3) := zd_360.2.2.2.2.2.2.1
theorem dX11_standsOverStory_25 : decode cX11_standsOverStory 25 = .ok (.iadd, 1) := zd_360.2.2.2.2.2.2.2
theorem zd_361 : (decode cX11_standsOverStory 26 = .ok (.if_icmp .ge 43, 3)) ∧ (decode cX11_standsOverStory 29 = .ok (.aload_n 0, 1)) ∧ (decode cX11_standsOverStory 30 = .ok (.getfield 11, 3)) ∧ (decode cX11_standsOverStory 33 = .ok (.aload_n 2, 1)) ∧ (decode cX11_standsOverStory 34 = .ok (.getfield 229, 3)) ∧ (decode cX11_standsOverStory 37 = .ok (.aaload, 1)) ∧ (decode cX11_standsOverStory 38 = .ok (.iload_n 3, 1)) ∧ (decode cX11_standsOverStory 39 = .ok (.aload_n 2, 1)) := by decide +kernel
theorem dX11_standsOverStory_26 : decode cX11_standsOverStory 26 = .ok (.if_icmp .ge 43, 3) := zd_361.1
theorem dX11_standsOverStory_29 : decode cX11_standsOverStory 29 = .ok (.aload_n 0, 1) := zd_361.2.1
theorem dX11_standsOverStory_30 : decode cX11_standsOverStory 30 = .ok (.getfield 11, 3) := zd_361.2.2.1
theorem dX11_standsOverStory_33 : decode cX11_standsOverStory 33 = .ok (.aload_n 2, 1) := zd_361.2.2.2.1
theorem dX11_standsOverStory_34 : decode cX11_standsOverStory 34 = .ok (.getfield 229, 3) := zd_361.2.2.2.2.1
theorem dX11_standsOverStory_37 : decode cX11_standsOverStory 37 = .ok (.aaload, 1) := zd_361.2.2.2.2.2.1
theorem dX11_standsOverStory_38 : decode cX11_standsOverStory 38 = .ok (.iload_n 3, 1) := zd_361.2.2.2.2.2.2.1
theorem dX11_standsOverStory_39 : decode cX11_standsOverStory 39 = .ok (.aload_n 2, 1) := zd_361.2.2.2.2.2.2.2
theorem zd_362 : (decode cX11_standsOverStory 40 = .ok (.getfield 235, 3)) ∧ (decode cX11_standsOverStory 43 = .ok (.aload_n 2, 1)) ∧ (decode cX11_standsOverStory 44 = .ok (.getfield 241, 3)) ∧ (decode cX11_standsOverStory 47 = .ok (.iadd, 1)) ∧ (decode cX11_standsOverStory 48 = .ok (.invokevirtual 222, 3)) ∧ (decode cX11_standsOverStory 51 = .ok (.aload_n 1, 1)) ∧ (decode cX11_standsOverStory 52 = .ok (.getfield 292, 3)) ∧ (decode cX11_standsOverStory 55 = .ok (.getfield 296, 3)) := by decide +kernel
theorem dX11_standsOverStory_40 : decode cX11_standsOverStory 40 = .ok (.getfield 235, 3) := zd_362.1
theorem dX11_standsOverStory_43 : decode cX11_standsOverStory 43 = .ok (.aload_n 2, 1) := zd_362.2.1
theorem dX11_standsOverStory_44 : decode cX11_standsOverStory 44 = .ok (.getfield 241, 3) := zd_362.2.2.1
theorem dX11_standsOverStory_47 : decode cX11_standsOverStory 47 = .ok (.iadd, 1) := zd_362.2.2.2.1
theorem dX11_standsOverStory_48 : decode cX11_standsOverStory 48 = .ok (.invokevirtual 222, 3) := zd_362.2.2.2.2.1
theorem dX11_standsOverStory_51 : decode cX11_standsOverStory 51 = .ok (.aload_n 1, 1) := zd_362.2.2.2.2.2.1
theorem dX11_standsOverStory_52 : decode cX11_standsOverStory 52 = .ok (.getfield 292, 3) := zd_362.2.2.2.2.2.2.1
theorem dX11_standsOverStory_55 : decode cX11_standsOverStory 55 = .ok (.getfield 296, 3) := zd_362.2.2.2.2.2.2.2
theorem zd_363 : (decode cX11_standsOverStory 58 = .ok (.if_icmp .ne 5, 3)) ∧ (decode cX11_standsOverStory 61 = .ok (.iconst 1, 1)) ∧ (decode cX11_standsOverStory 62 = .ok (.ireturn, 1)) ∧ (decode cX11_standsOverStory 63 = .ok (.iinc 3 1, 3)) ∧ (decode cX11_standsOverStory 66 = .ok (.goto (-50), 3)) ∧ (decode cX11_standsOverStory 69 = .ok (.iconst 0, 1)) ∧ (decode cX11_standsOverStory 70 = .ok (.ireturn, 1)) := by decide +kernel
theorem dX11_standsOverStory_58 : decode cX11_standsOverStory 58 = .ok (.if_icmp .ne 5, 3) := zd_363.1
theorem dX11_standsOverStory_61 : decode cX11_standsOverStory 61 = .ok (.iconst 1, 1) := zd_363.2.1
theorem dX11_standsOverStory_62 : decode cX11_standsOverStory 62 = .ok (.ireturn, 1) := zd_363.2.2.1
theorem dX11_standsOverStory_63 : decode cX11_standsOverStory 63 = .ok (.iinc 3 1, 3) := zd_363.2.2.2.1
theorem dX11_standsOverStory_66 : decode cX11_standsOverStory 66 = .ok (.goto (-50), 3) := zd_363.2.2.2.2.1
theorem dX11_standsOverStory_69 : decode cX11_standsOverStory 69 = .ok (.iconst 0, 1) := zd_363.2.2.2.2.2.1
theorem dX11_standsOverStory_70 : decode cX11_standsOverStory 70 = .ok (.ireturn, 1) := zd_363.2.2.2.2.2.2
theorem zd_364 : (decode cX11_hasPlate 0 = .ok (.iload_n 1, 1)) ∧ (decode cX11_hasPlate 1 = .ok (.invokestatic 48, 3)) ∧ (decode cX11_hasPlate 4 = .ok (.ifCond .eq 16, 3)) ∧ (decode cX11_hasPlate 7 = .ok (.aload_n 0, 1)) ∧ (decode cX11_hasPlate 8 = .ok (.getfield 15, 3)) ∧ (decode cX11_hasPlate 11 = .ok (.iload_n 1, 1)) ∧ (decode cX11_hasPlate 12 = .ok (.aaload, 1)) ∧ (decode cX11_hasPlate 13 = .ok (.ifnull 7, 3)) := by decide +kernel
theorem dX11_hasPlate_0 : decode cX11_hasPlate 0 = .ok (.iload_n 1, 1) := zd_364.1
theorem dX11_hasPlate_1 : decode cX11_hasPlate 1 = .ok (.invokestatic 48, 3) := zd_364.2.1
theorem dX11_hasPlate_4 : decode cX11_hasPlate 4 = .ok (.ifCond .eq 16, 3) := zd_364.2.2.1
theorem dX11_hasPlate_7 : decode cX11_hasPlate 7 = .ok (.aload_n 0, 1) := zd_364.2.2.2.1
theorem dX11_hasPlate_8 : decode cX11_hasPlate 8 = .ok (.getfield 15, 3) := zd_364.2.2.2.2.1
theorem dX11_hasPlate_11 : decode cX11_hasPlate 11 = .ok (.iload_n 1, 1) := zd_364.2.2.2.2.2.1
theorem dX11_hasPlate_12 : decode cX11_hasPlate 12 = .ok (.aaload, 1) := zd_364.2.2.2.2.2.2.1
theorem dX11_hasPlate_13 : decode cX11_hasPlate 13 = .ok (.ifnull 7, 3) := zd_364.2.2.2.2.2.2.2
theorem zd_365 : (decode cX11_hasPlate 16 = .ok (.iconst 1, 1)) ∧ (decode cX11_hasPlate 17 = .ok (.goto 4, 3)) ∧ (decode cX11_hasPlate 20 = .ok (.iconst 0, 1)) ∧ (decode cX11_hasPlate 21 = .ok (.ireturn, 1)) := by decide +kernel
theorem dX11_hasPlate_16 : decode cX11_hasPlate 16 = .ok (.iconst 1, 1) := zd_365.1
theorem dX11_hasPlate_17 : decode cX11_hasPlate 17 = .ok (.goto 4, 3) := zd_365.2.1
theorem dX11_hasPlate_20 : decode cX11_hasPlate 20 = .ok (.iconst 0, 1) := zd_365.2.2.1
theorem dX11_hasPlate_21 : decode cX11_hasPlate 21 = .ok (.ireturn, 1) := zd_365.2.2.2
theorem zd_366 : (decode cX11_isFresh 0 = .ok (.aload_n 0, 1)) ∧ (decode cX11_isFresh 1 = .ok (.iload_n 1, 1)) ∧ (decode cX11_isFresh 2 = .ok (.invokevirtual 272, 3)) ∧ (decode cX11_isFresh 5 = .ok (.ifCond .eq 39, 3)) ∧ (decode cX11_isFresh 8 = .ok (.aload_n 0, 1)) ∧ (decode cX11_isFresh 9 = .ok (.getfield 15, 3)) ∧ (decode cX11_isFresh 12 = .ok (.iload_n 1, 1)) := by decide +kernel
theorem dX11_isFresh_0 : decode cX11_isFresh 0 = .ok (.aload_n 0, 1) := zd_366.1
theorem dX11_isFresh_1 : decode cX11_isFresh 1 = .ok (.iload_n 1, 1) := zd_366.2.1
theorem dX11_isFresh_2 : decode cX11_isFresh 2 = .ok (.invokevirtual 272, 3) := zd_366.2.2.1
theorem dX11_isFresh_5 : decode cX11_isFresh 5 = .ok (.ifCond .eq 39, 3) := zd_366.2.2.2.1
theorem dX11_isFresh_8 : decode cX11_isFresh 8 = .ok (.aload_n 0, 1) := zd_366.2.2.2.2.1
theorem dX11_isFresh_9 : decode cX11_isFresh 9 = .ok (.getfield 15, 3) := zd_366.2.2.2.2.2.1
theorem dX11_isFresh_12 : decode cX11_isFresh 12 = .ok (.iload_n 1, 1) := zd_366.2.2.2.2.2.2
