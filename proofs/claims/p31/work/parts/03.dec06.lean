theorem zd_723 : (decode cX12_plate 108 = .ok (.getfield 122, 3)) ∧ (decode cX12_plate 111 = .ok (.iload_n 1, 1)) ∧ (decode cX12_plate 112 = .ok (.aload_n 0, 1)) ∧ (decode cX12_plate 113 = .ok (.getfield 257, 3)) ∧ (decode cX12_plate 116 = .ok (.iastore, 1)) ∧ (decode cX12_plate 117 = .ok (.iconst 0, 1)) ∧ (decode cX12_plate 118 = .ok (.istore_n 3, 1)) ∧ (decode cX12_plate 119 = .ok (.iload_n 3, 1)) := by decide +kernel
theorem dX12_plate_108 : decode cX12_plate 108 = .ok (.getfield 122, 3) := zd_723.1
theorem dX12_plate_111 : decode cX12_plate 111 = .ok (.iload_n 1, 1) := zd_723.2.1
theorem dX12_plate_112 : decode cX12_plate 112 = .ok (.aload_n 0, 1) := zd_723.2.2.1
theorem dX12_plate_113 : decode cX12_plate 113 = .ok (.getfield 257, 3) := zd_723.2.2.2.1
theorem dX12_plate_116 : decode cX12_plate 116 = .ok (.iastore, 1) := zd_723.2.2.2.2.1
theorem dX12_plate_117 : decode cX12_plate 117 = .ok (.iconst 0, 1) := zd_723.2.2.2.2.2.1
theorem dX12_plate_118 : decode cX12_plate 118 = .ok (.istore_n 3, 1) := zd_723.2.2.2.2.2.2.1
theorem dX12_plate_119 : decode cX12_plate 119 = .ok (.iload_n 3, 1) := zd_723.2.2.2.2.2.2.2
theorem zd_724 : (decode cX12_plate 120 = .ok (.sipush 480, 3)) ∧ (decode cX12_plate 123 = .ok (.if_icmp .ge 33, 3)) ∧ (decode cX12_plate 126 = .ok (.aload_n 0, 1)) ∧ (decode cX12_plate 127 = .ok (.getfield 128, 3)) ∧ (decode cX12_plate 130 = .ok (.sipush 480, 3)) ∧ (decode cX12_plate 133 = .ok (.iload_n 1, 1)) ∧ (decode cX12_plate 134 = .ok (.imul, 1)) ∧ (decode cX12_plate 135 = .ok (.iload_n 3, 1)) := by decide +kernel
theorem dX12_plate_120 : decode cX12_plate 120 = .ok (.sipush 480, 3) := zd_724.1
theorem dX12_plate_123 : decode cX12_plate 123 = .ok (.if_icmp .ge 33, 3) := zd_724.2.1
theorem dX12_plate_126 : decode cX12_plate 126 = .ok (.aload_n 0, 1) := zd_724.2.2.1
theorem dX12_plate_127 : decode cX12_plate 127 = .ok (.getfield 128, 3) := zd_724.2.2.2.1
theorem dX12_plate_130 : decode cX12_plate 130 = .ok (.sipush 480, 3) := zd_724.2.2.2.2.1
theorem dX12_plate_133 : decode cX12_plate 133 = .ok (.iload_n 1, 1) := zd_724.2.2.2.2.2.1
theorem dX12_plate_134 : decode cX12_plate 134 = .ok (.imul, 1) := zd_724.2.2.2.2.2.2.1
theorem dX12_plate_135 : decode cX12_plate 135 = .ok (.iload_n 3, 1) := zd_724.2.2.2.2.2.2.2
theorem zd_725 : (decode cX12_plate 136 = .ok (.iadd, 1)) ∧ (decode cX12_plate 137 = .ok (.aload_n 0, 1)) ∧ (decode cX12_plate 138 = .ok (.getfield 16, 3)) ∧ (decode cX12_plate 141 = .ok (.sipush 480, 3)) ∧ (decode cX12_plate 144 = .ok (.iload_n 1, 1)) ∧ (decode cX12_plate 145 = .ok (.imul, 1)) ∧ (decode cX12_plate 146 = .ok (.iload_n 3, 1)) ∧ (decode cX12_plate 147 = .ok (.iadd, 1)) := by decide +kernel
theorem dX12_plate_136 : decode cX12_plate 136 = .ok (.iadd, 1) := zd_725.1
theorem dX12_plate_137 : decode cX12_plate 137 = .ok (.aload_n 0, 1) := zd_725.2.1
theorem dX12_plate_138 : decode cX12_plate 138 = .ok (.getfield 16, 3) := zd_725.2.2.1
theorem dX12_plate_141 : decode cX12_plate 141 = .ok (.sipush 480, 3) := zd_725.2.2.2.1
theorem dX12_plate_144 : decode cX12_plate 144 = .ok (.iload_n 1, 1) := zd_725.2.2.2.2.1
theorem dX12_plate_145 : decode cX12_plate 145 = .ok (.imul, 1) := zd_725.2.2.2.2.2.1
theorem dX12_plate_146 : decode cX12_plate 146 = .ok (.iload_n 3, 1) := zd_725.2.2.2.2.2.2.1
theorem dX12_plate_147 : decode cX12_plate 147 = .ok (.iadd, 1) := zd_725.2.2.2.2.2.2.2
theorem zd_726 : (decode cX12_plate 148 = .ok (.iaload, 1)) ∧ (decode cX12_plate 149 = .ok (.iastore, 1)) ∧ (decode cX12_plate 150 = .ok (.iinc 3 1, 3)) ∧ (decode cX12_plate 153 = .ok (.goto (-34), 3)) ∧ (decode cX12_plate 156 = .ok (.iconst 0, 1)) ∧ (decode cX12_plate 157 = .ok (.istore_n 3, 1)) ∧ (decode cX12_plate 158 = .ok (.iload_n 3, 1)) ∧ (decode cX12_plate 159 = .ok (.bipush 8, 2)) := by decide +kernel
theorem dX12_plate_148 : decode cX12_plate 148 = .ok (.iaload, 1) := zd_726.1
theorem dX12_plate_149 : decode cX12_plate 149 = .ok (.iastore, 1) := zd_726.2.1
theorem dX12_plate_150 : decode cX12_plate 150 = .ok (.iinc 3 1, 3) := zd_726.2.2.1
theorem dX12_plate_153 : decode cX12_plate 153 = .ok (.goto (-34), 3) := zd_726.2.2.2.1
theorem dX12_plate_156 : decode cX12_plate 156 = .ok (.iconst 0, 1) := zd_726.2.2.2.2.1
theorem dX12_plate_157 : decode cX12_plate 157 = .ok (.istore_n 3, 1) := zd_726.2.2.2.2.2.1
theorem dX12_plate_158 : decode cX12_plate 158 = .ok (.iload_n 3, 1) := zd_726.2.2.2.2.2.2.1
theorem dX12_plate_159 : decode cX12_plate 159 = .ok (.bipush 8, 2) := zd_726.2.2.2.2.2.2.2
theorem zd_727 : (decode cX12_plate 161 = .ok (.if_icmp .ge 31, 3)) ∧ (decode cX12_plate 164 = .ok (.aload_n 0, 1)) ∧ (decode cX12_plate 165 = .ok (.getfield 125, 3)) ∧ (decode cX12_plate 168 = .ok (.bipush 8, 2)) ∧ (decode cX12_plate 170 = .ok (.iload_n 1, 1)) ∧ (decode cX12_plate 171 = .ok (.imul, 1)) ∧ (decode cX12_plate 172 = .ok (.iload_n 3, 1)) ∧ (decode cX12_plate 173 = .ok (.iadd, 1)) := by decide +kernel
theorem dX12_plate_161 : decode cX12_plate 161 = .ok (.if_icmp .ge 31, 3) := zd_727.1
theorem dX12_plate_164 : decode cX12_plate 164 = .ok (.aload_n 0, 1) := zd_727.2.1
theorem dX12_plate_165 : decode cX12_plate 165 = .ok (.getfield 125, 3) := zd_727.2.2.1
theorem dX12_plate_168 : decode cX12_plate 168 = .ok (.bipush 8, 2) := zd_727.2.2.2.1
theorem dX12_plate_170 : decode cX12_plate 170 = .ok (.iload_n 1, 1) := zd_727.2.2.2.2.1
theorem dX12_plate_171 : decode cX12_plate 171 = .ok (.imul, 1) := zd_727.2.2.2.2.2.1
theorem dX12_plate_172 : decode cX12_plate 172 = .ok (.iload_n 3, 1) := zd_727.2.2.2.2.2.2.1
theorem dX12_plate_173 : decode cX12_plate 173 = .ok (.iadd, 1) := zd_727.2.2.2.2.2.2.2
theorem zd_728 : (decode cX12_plate 174 = .ok (.aload_n 0, 1)) ∧ (decode cX12_plate 175 = .ok (.getfield 7, 3)) ∧ (decode cX12_plate 178 = .ok (.bipush 8, 2)) ∧ (decode cX12_plate 180 = .ok (.iload_n 1, 1)) ∧ (decode cX12_plate 181 = .ok (.imul, 1)) ∧ (decode cX12_plate 182 = .ok (.iload_n 3, 1)) ∧ (decode cX12_plate 183 = .ok (.iadd, 1)) ∧ (decode cX12_plate 184 = .ok (.iaload, 1)) := by decide +kernel
theorem dX12_plate_174 : decode cX12_plate 174 = .ok (.aload_n 0, 1) := zd_728.1
theorem dX12_plate_175 : decode cX12_plate 175 = .ok (.getfield 7, 3) := zd_728.2.1
theorem dX12_plate_178 : decode cX12_plate 178 = .ok (.bipush 8, 2) := zd_728.2.2.1
theorem dX12_plate_180 : decode cX12_plate 180 = .ok (.iload_n 1, 1) := zd_728.2.2.2.1
theorem dX12_plate_181 : decode cX12_plate 181 = .ok (.imul, 1) := zd_728.2.2.2.2.1
theorem dX12_plate_182 : decode cX12_plate 182 = .ok (.iload_n 3, 1) := zd_728.2.2.2.2.2.1
theorem dX12_plate_183 : decode cX12_plate 183 = .ok (.iadd, 1) := zd_728.2.2.2.2.2.2.1
theorem dX12_plate_184 : decode cX12_plate 184 = .ok (.iaload, 1) := zd_728.2.2.2.2.2.2.2
theorem zd_729 : (decode cX12_plate 185 = .ok (.iastore, 1)) ∧ (decode cX12_plate 186 = .ok (.iinc 3 1, 3)) ∧ (decode cX12_plate 189 = .ok (.goto (-31), 3)) ∧ (decode cX12_plate 192 = .ok (.iconst 0, 1)) ∧ (decode cX12_plate 193 = .ok (.istore_n 3, 1)) ∧ (decode cX12_plate 194 = .ok (.iload_n 3, 1)) ∧ (decode cX12_plate 195 = .ok (.bipush 80, 2)) ∧ (decode cX12_plate 197 = .ok (.if_icmp .ge 116, 3)) := by decide +kernel
theorem dX12_plate_185 : decode cX12_plate 185 = .ok (.iastore, 1) := zd_729.1
theorem dX12_plate_186 : decode cX12_plate 186 = .ok (.iinc 3 1, 3) := zd_729.2.1
theorem dX12_plate_189 : decode cX12_plate 189 = .ok (.goto (-31), 3) := zd_729.2.2.1
theorem dX12_plate_192 : decode cX12_plate 192 = .ok (.iconst 0, 1) := zd_729.2.2.2.1
theorem dX12_plate_193 : decode cX12_plate 193 = .ok (.istore_n 3, 1) := zd_729.2.2.2.2.1
theorem dX12_plate_194 : decode cX12_plate 194 = .ok (.iload_n 3, 1) := zd_729.2.2.2.2.2.1
theorem dX12_plate_195 : decode cX12_plate 195 = .ok (.bipush 80, 2) := zd_729.2.2.2.2.2.2.1
theorem dX12_plate_197 : decode cX12_plate 197 = .ok (.if_icmp .ge 116, 3) := zd_729.2.2.2.2.2.2.2
theorem zd_730 : (decode cX12_plate 200 = .ok (.aload_n 0, 1)) ∧ (decode cX12_plate 201 = .ok (.getfield 131, 3)) ∧ (decode cX12_plate 204 = .ok (.bipush 80, 2)) ∧ (decode cX12_plate 206 = .ok (.iload_n 1, 1)) ∧ (decode cX12_plate 207 = .ok (.imul, 1)) ∧ (decode cX12_plate 208 = .ok (.iload_n 3, 1)) ∧ (decode cX12_plate 209 = .ok (.iadd, 1)) ∧ (decode cX12_plate 210 = .ok (.iconst (-1), 1)) := by decide +kernel
theorem dX12_plate_200 : decode cX12_plate 200 = .ok (.aload_n 0, 1) := zd_730.1
theorem dX12_plate_201 : decode cX12_plate 201 = .ok (.getfield 131, 3) := zd_730.2.1
theorem dX12_plate_204 : decode cX12_plate 204 = .ok (.bipush 80, 2) := zd_730.2.2.1
theorem dX12_plate_206 : decode cX12_plate 206 = .ok (.iload_n 1, 1) := zd_730.2.2.2.1
theorem dX12_plate_207 : decode cX12_plate 207 = .ok (.imul, 1) := zd_730.2.2.2.2.1
theorem dX12_plate_208 : decode cX12_plate 208 = .ok (.iload_n 3, 1) := zd_730.2.2.2.2.2.1
theorem dX12_plate_209 : decode cX12_plate 209 = .ok (.iadd, 1) := zd_730.2.2.2.2.2.2.1
theorem dX12_plate_210 : decode cX12_plate 210 = .ok (.iconst (-1), 1) := zd_730.2.2.2.2.2.2.2
theorem zd_731 : (decode cX12_plate 211 = .ok (.iastore, 1)) ∧ (decode cX12_plate 212 = .ok (.iload_n 3, 1)) ∧ (decode cX12_plate 213 = .ok (.aload_n 0, 1)) ∧ (decode cX12_plate 214 = .ok (.getfield 147, 3)) ∧ (decode cX12_plate 217 = .ok (.if_icmp .ge 12, 3)) ∧ (decode cX12_plate 220 = .ok (.aload_n 0, 1)) ∧ (decode cX12_plate 221 = .ok (.getfield 74, 3)) ∧ (decode cX12_plate 224 = .ok (.iload_n 3, 1)) := by decide +kernel
theorem dX12_plate_211 : decode cX12_plate 211 = .ok (.iastore, 1) := zd_731.1
theorem dX12_plate_212 : decode cX12_plate 212 = .ok (.iload_n 3, 1) := zd_731.2.1
theorem dX12_plate_213 : decode cX12_plate 213 = .ok (.aload_n 0, 1) := zd_731.2.2.1
theorem dX12_plate_214 : decode cX12_plate 214 = .ok (.getfield 147, 3) := zd_731.2.2.2.1
theorem dX12_plate_217 : decode cX12_plate 217 = .ok (.if_icmp .ge 12, 3) := zd_731.2.2.2.2.1
theorem dX12_plate_220 : decode cX12_plate 220 = .ok (.aload_n 0, 1) := zd_731.2.2.2.2.2.1
theorem dX12_plate_221 : decode cX12_plate 221 = .ok (.getfield 74, 3) := zd_731.2.2.2.2.2.2.1
theorem dX12_plate_224 : decode cX12_plate 224 = .ok (.iload_n 3, 1) := zd_731.2.2.2.2.2.2.2
theorem zd_732 : (decode cX12_plate 225 = .ok (.iaload, 1)) ∧ (decode cX12_plate 226 = .ok (.goto 4, 3)) ∧ (decode cX12_plate 229 = .ok (.iconst 0, 1)) ∧ (decode cX12_plate 230 = .ok (.iconst 1, 1)) ∧ (decode cX12_plate 231 = .ok (.isub, 1)) ∧ (decode cX12_plate 232 = .ok (.istore 4, 2)) ∧ (decode cX12_plate 234 = .ok (.iload 4, 2)) ∧ (decode cX12_plate 236 = .ok (.ifCond .lt 71, 3)) := by decide +kernel
theorem dX12_plate_225 : decode cX12_plate 225 = .ok (.iaload, 1) := zd_732.1
theorem dX12_plate_226 : decode cX12_plate 226 = .ok (.goto 4, 3) := zd_732.2.1
theorem dX12_plate_229 : decode cX12_plate 229 = .ok (.iconst 0, 1) := zd_732.2.2.1
theorem dX12_plate_230 : decode cX12_plate 230 = .ok (.iconst 1, 1) := zd_732.2.2.2.1
theorem dX12_plate_231 : decode cX12_plate 231 = .ok (.isub, 1) := zd_732.2.2.2.2.1
theorem dX12_plate_232 : decode cX12_plate 232 = .ok (.istore 4, 2) := zd_732.2.2.2.2.2.1
theorem dX12_plate_234 : decode cX12_plate 234 = .ok (.iload 4, 2) := zd_732.2.2.2.2.2.2.1
theorem dX12_plate_236 : decode cX12_plate 236 = .ok (.ifCond .lt 71, 3) := zd_732.2.2.2.2.2.2.2
theorem zd_733 : (decode cX12_plate 239 = .ok (.aload_n 0, 1)) ∧ (decode cX12_plate 240 = .ok (.getfield 77, 3)) ∧ (decode cX12_plate 243 = .ok (.bipush 6, 2)) ∧ (decode cX12_plate 245 = .ok (.iload_n 3, 1)) ∧ (decode cX12_plate 246 = .ok (.imul, 1)) ∧ (decode cX12_plate 247 = .ok (.iload 4, 2)) ∧ (decode cX12_plate 249 = .ok (.iadd, 1)) ∧ (decode cX12_plate 250 = .ok (.iaload, 1)) := by decide +kernel
theorem dX12_plate_239 : decode cX12_plate 239 = .ok (.aload_n 0, 1) := zd_733.1
theorem dX12_plate_240 : decode cX12_plate 240 = .ok (.getfield 77, 3) := zd_733.2.1
theorem dX12_plate_243 : decode cX12_plate 243 = .ok (.bipush 6, 2) := zd_733.2.2.1
theorem dX12_plate_245 : decode cX12_plate 245 = .ok (.iload_n 3, 1) := zd_733.2.2.2.1
theorem dX12_plate_246 : decode cX12_plate 246 = .ok (.imul, 1) := zd_733.2.2.2.2.1
theorem dX12_plate_247 : decode cX12_plate 247 = .ok (.iload 4, 2) := zd_733.2.2.2.2.2.1
theorem dX12_plate_249 : decode cX12_plate 249 = .ok (.iadd, 1) := zd_733.2.2.2.2.2.2.1
theorem dX12_plate_250 : decode cX12_plate 250 = .ok (.iaload, 1) := zd_733.2.2.2.2.2.2.2
theorem zd_734 : (decode cX12_plate 251 = .ok (.iload_n 1, 1)) ∧ (decode cX12_plate 252 = .ok (.if_icmp .ne 49, 3)) ∧ (decode cX12_plate 255 = .ok (.aload_n 0, 1)) ∧ (decode cX12_plate 256 = .ok (.getfield 131, 3)) ∧ (decode cX12_plate 259 = .ok (.bipush 80, 2)) ∧ (decode cX12_plate 261 = .ok (.iload_n 1, 1)) ∧ (decode cX12_plate 262 = .ok (.imul, 1)) ∧ (decode cX12_plate 263 = .ok (.iload_n 3, 1)) := by decide +kernel
theorem dX12_plate_251 : decode cX12_plate 251 = .ok (.iload_n 1, 1) := zd_734.1
theorem dX12_plate_252 : decode cX12_plate 252 = .ok (.if_icmp .ne 49, 3) := zd_734.2.1
theorem dX12_plate_255 : decode cX12_plate 255 = .ok (.aload_n 0, 1) := zd_734.2.2.1
theorem dX12_plate_256 : decode cX12_plate 256 = .ok (.getfield 131, 3) := zd_734.2.2.2.1
theorem dX12_plate_259 : decode cX12_plate 259 = .ok (.bipush 80, 2) := zd_734.2.2.2.2.1
theorem dX12_plate_261 : decode cX12_plate 261 = .ok (.iload_n 1, 1) := zd_734.2.2.2.2.2.1
theorem dX12_plate_262 : decode cX12_plate 262 = .ok (.imul, 1) := zd_734.2.2.2.2.2.2.1
theorem dX12_plate_263 : decode cX12_plate 263 = .ok (.iload_n 3, 1) := zd_734.2.2.2.2.2.2.2
theorem zd_735 : (decode cX12_plate 264 = .ok (.iadd, 1)) ∧ (decode cX12_plate 265 = .ok (.aload_n 0, 1)) ∧ (decode cX12_plate 266 = .ok (.getfield 80, 3)) ∧ (decode cX12_plate 269 = .ok (.bipush 6, 2)) ∧ (decode cX12_plate 271 = .ok (.iload_n 3, 1)) ∧ (decode cX12_plate 272 = .ok (.imul, 1)) ∧ (decode cX12_plate 273 = .ok (.iload 4, 2)) ∧ (decode cX12_plate 275 = .ok (.iadd, 1)) := by decide +kernel
theorem dX12_plate_264 : decode cX12_plate 264 = .ok (.iadd, 1) := zd_735.1
theorem dX12_plate_265 : decode cX12_plate 265 = .ok (.aload_n 0, 1) := zd_735.2.1
theorem dX12_plate_266 : decode cX12_plate 266 = .ok (.getfield 80, 3) := zd_735.2.2.1
theorem dX12_plate_269 : decode cX12_plate 269 = .ok (.bipush 6, 2) := zd_735.2.2.2.1
theorem dX12_plate_271 : decode cX12_plate 271 = .ok (.iload_n 3, 1) := zd_735.2.2.2.2.1
theorem dX12_plate_272 : decode cX12_plate 272 = .ok (.imul, 1) := zd_735.2.2.2.2.2.1
theorem dX12_plate_273 : decode cX12_plate 273 = .ok (.iload 4, 2) := zd_735.2.2.2.2.2.2.1
theorem dX12_plate_275 : decode cX12_plate 275 = .ok (.iadd, 1) := zd_735.2.2.2.2.2.2.2
theorem zd_736 : (decode cX12_plate 276 = .ok (.iaload, 1)) ∧ (decode cX12_plate 277 = .ok (.iastore, 1)) ∧ (decode cX12_plate 278 = .ok (.aload_n 0, 1)) ∧ (decode cX12_plate 279 = .ok (.getfield 134, 3)) ∧ (decode cX12_plate 282 = .ok (.bipush 80, 2)) ∧ (decode cX12_plate 284 = .ok (.iload_n 1, 1)) ∧ (decode cX12_plate 285 = .ok (.imul, 1)) ∧ (decode cX12_plate 286 = .ok (.iload_n 3, 1)) := by decide +kernel
theorem dX12_plate_276 : decode cX12_plate 276 = .ok (.iaload, 1) := zd_736.1
theorem dX12_plate_277 : decode cX12_plate 277 = .ok (.iastore, 1) := zd_736.2.1
theorem dX12_plate_278 : decode cX12_plate 278 = .ok (.aload_n 0, 1) := zd_736.2.2.1
theorem dX12_plate_279 : decode cX12_plate 279 = .ok (.getfield 134, 3) := zd_736.2.2.2.1
theorem dX12_plate_282 : decode cX12_plate 282 = .ok (.bipush 80, 2) := zd_736.2.2.2.2.1
theorem dX12_plate_284 : decode cX12_plate 284 = .ok (.iload_n 1, 1) := zd_736.2.2.2.2.2.1
theorem dX12_plate_285 : decode cX12_plate 285 = .ok (.imul, 1) := zd_736.2.2.2.2.2.2.1
theorem dX12_plate_286 : decode cX12_plate 286 = .ok (.iload_n 3, 1) := zd_736.2.2.2.2.2.2.2
theorem zd_737 : (decode cX12_plate 287 = .ok (.iadd, 1)) ∧ (decode cX12_plate 288 = .ok (.aload_n 0, 1)) ∧ (decode cX12_plate 289 = .ok (.getfield 83, 3)) ∧ (decode cX12_plate 292 = .ok (.bipush 6, 2)) ∧ (decode cX12_plate 294 = .ok (.iload_n 3, 1)) ∧ (decode cX12_plate 295 = .ok (.imul, 1)) ∧ (decode cX12_plate 296 = .ok (.iload 4, 2)) ∧ (decode cX12_plate 298 = .ok (.iadd, 1)) := by decide +kernel
theorem dX12_plate_287 : decode cX12_plate 287 = .ok (.iadd, 1) := zd_737.1
theorem dX12_plate_288 : decode cX12_plate 288 = .ok (.aload_n 0, 1) := zd_737.2.1
theorem dX12_plate_289 : decode cX12_plate 289 = .ok (.getfield 83, 3) := zd_737.2.2.1
theorem dX12_plate_292 : decode cX12_plate 292 = .ok (.bipush 6, 2) := zd_737.2.2.2.1
theorem dX12_plate_294 : decode cX12_plate 294 = .ok (.iload_n 3, 1) := zd_737.2.2.2.2.1
theorem dX12_plate_295 : decode cX12_plate 295 = .ok (.imul, 1) := zd_737.2.2.2.2.2.1
theorem dX12_plate_296 : decode cX12_plate 296 = .ok (.iload 4, 2) := zd_737.2.2.2.2.2.2.1
theorem dX12_plate_298 : decode cX12_plate 298 = .ok (.iadd, 1) := zd_737.2.2.2.2.2.2.2
theorem zd_738 : (decode cX12_plate 299 = .ok (.iaload, 1)) ∧ (decode cX12_plate 300 = .ok (.iastore, 1)) ∧ (decode cX12_plate 301 = .ok (.iinc 4 (-1), 3)) ∧ (decode cX12_plate 304 = .ok (.goto (-70), 3)) ∧ (decode cX12_plate 307 = .ok (.iinc 3 1, 3)) ∧ (decode cX12_plate 310 = .ok (.goto (-116), 3)) ∧ (decode cX12_plate 313 = .ok (.iload_n 2, 1)) ∧ (decode cX12_plate 314 = .ok (.ireturn, 1)) := by decide +kernel
theorem dX12_plate_299 : decode cX12_plate 299 = .ok (.iaload, 1) := zd_738.1
theorem dX12_plate_300 : decode cX12_plate 300 = .ok (.iastore, 1) := zd_738.2.1
theorem dX12_plate_301 : decode cX12_plate 301 = .ok (.iinc 4 (-1), 3) := zd_738.2.2.1
theorem dX12_plate_304 : decode cX12_plate 304 = .ok (.goto (-70), 3) := zd_738.2.2.2.1
theorem dX12_plate_307 : decode cX12_plate 307 = .ok (.iinc 3 1, 3) := zd_738.2.2.2.2.1
theorem dX12_plate_310 : decode cX12_plate 310 = .ok (.goto (-116), 3) := zd_738.2.2.2.2.2.1
theorem dX12_plate_313 : decode cX12_plate 313 = .ok (.iload_n 2, 1) := zd_738.2.2.2.2.2.2.1
theorem dX12_plate_314 : decode cX12_plate 314 = .ok (.ireturn, 1) := zd_738.2.2.2.2.2.2.2
theorem zd_739 : (decode cX12_isNow 0 = .ok (.aload_n 0, 1)) ∧ (decode cX12_isNow 1 = .ok (.getfield 116, 3)) ∧ (decode cX12_isNow 4 = .ok (.iload_n 1, 1)) ∧ (decode cX12_isNow 5 = .ok (.baload, 1)) ∧ (decode cX12_isNow 6 = .ok (.ifCond .eq 33, 3)) ∧ (decode cX12_isNow 9 = .ok (.aload_n 0, 1)) ∧ (decode cX12_isNow 10 = .ok (.getfield 119, 3)) ∧ (decode cX12_isNow 13 = .ok (.iload_n 1, 1)) := by decide +kernel
theorem dX12_isNow_0 : decode cX12_isNow 0 = .ok (.aload_n 0, 1) := zd_739.1
theorem dX12_isNow_1 : decode cX12_isNow 1 = .ok (.getfield 116, 3) := zd_739.2.1
theorem dX12_isNow_4 : decode cX12_isNow 4 = .ok (.iload_n 1, 1) := zd_739.2.2.1
theorem dX12_isNow_5 : decode cX12_isNow 5 = .ok (.baload, 1) := zd_739.2.2.2.1
theorem dX12_isNow_6 : decode cX12_isNow 6 = .ok (.ifCond .eq 33, 3) := zd_739.2.2.2.2.1
theorem dX12_isNow_9 : decode cX12_isNow 9 = .ok (.aload_n 0, 1) := zd_739.2.2.2.2.2.1
theorem dX12_isNow_10 : decode cX12_isNow 10 = .ok (.getfield 119, 3) := zd_739.2.2.2.2.2.2.1
theorem dX12_isNow_13 : decode cX12_isNow 13 = .ok (.iload_n 1, 1) := zd_739.2.2.2.2.2.2.2
theorem zd_740 : (decode cX12_isNow 14 = .ok (.iaload, 1)) ∧ (decode cX12_isNow 15 = .ok (.aload_n 0, 1)) ∧ (decode cX12_isNow 16 = .ok (.getfield 206, 3)) ∧ (decode cX12_isNow 19 = .ok (.if_icmp .ne 20, 3)) ∧ (decode cX12_isNow 22 = .ok (.aload_n 0, 1)) ∧ (decode cX12_isNow 23 = .ok (.getfield 122, 3)) ∧ (decode cX12_isNow 26 = .ok (.iload_n 1, 1)) ∧ (decode cX12_isNow 27 = .ok (.iaload, 1)) := by decide +kernel
theorem dX12_isNow_14 : decode cX12_isNow 14 = .ok (.iaload, 1) := zd_740.1
theorem dX12_isNow_15 : decode cX12_isNow 15 = .ok (.aload_n 0, 1) := zd_740.2.1
theorem dX12_isNow_16 : decode cX12_isNow 16 = .ok (.getfield 206, 3) := zd_740.2.2.1
theorem dX12_isNow_19 : decode cX12_isNow 19 = .ok (.if_icmp .ne 20, 3) := zd_740.2.2.2.1
theorem dX12_isNow_22 : decode cX12_isNow 22 = .ok (.aload_n 0, 1) := zd_740.2.2.2.2.1
theorem dX12_isNow_23 : decode cX12_isNow 23 = .ok (.getfield 122, 3) := zd_740.2.2.2.2.2.1
theorem dX12_isNow_26 : decode cX12_isNow 26 = .ok (.iload_n 1, 1) := zd_740.2.2.2.2.2.2.1
theorem dX12_isNow_27 : decode cX12_isNow 27 = .ok (.iaload, 1) := zd_740.2.2.2.2.2.2.2
theorem zd_741 : (decode cX12_isNow 28 = .ok (.aload_n 0, 1)) ∧ (decode cX12_isNow 29 = .ok (.getfield 257, 3)) ∧ (decode cX12_isNow 32 = .ok (.if_icmp .ne 7, 3)) ∧ (decode cX12_isNow 35 = .ok (.iconst 1, 1)) ∧ (decode cX12_isNow 36 = .ok (.goto 4, 3)) ∧ (decode cX12_isNow 39 = .ok (.iconst 0, 1)) ∧ (decode cX12_isNow 40 = .ok (.ireturn, 1)) := by decide +kernel
theorem dX12_isNow_28 : decode cX12_isNow 28 = .ok (.aload_n 0, 1) := zd_741.1
theorem dX12_isNow_29 : decode cX12_isNow 29 = .ok (.getfield 257, 3) := zd_741.2.1
theorem dX12_isNow_32 : decode cX12_isNow 32 = .ok (.if_icmp .ne 7, 3) := zd_741.2.2.1
theorem dX12_isNow_35 : decode cX12_isNow 35 = .ok (.iconst 1, 1) := zd_741.2.2.2.1
theorem dX12_isNow_36 : decode cX12_isNow 36 = .ok (.goto 4, 3) := zd_741.2.2.2.2.1
theorem dX12_isNow_39 : decode cX12_isNow 39 = .ok (.iconst 0, 1) := zd_741.2.2.2.2.2.1
theorem dX12_isNow_40 : decode cX12_isNow 40 = .ok (.ireturn, 1) := zd_741.2.2.2.2.2.2
theorem zd_742 : (decode cX12_ends 0 = .ok (.iconst 0, 1)) ∧ (decode cX12_ends 1 = .ok (.istore_n 1, 1)) ∧ (decode cX12_ends 2 = .ok (.iload_n 1, 1)) ∧ (decode cX12_ends 3 = .ok (.bipush 12, 2)) ∧ (decode cX12_ends 5 = .ok (.if_icmp .ge 155, 3)) ∧ (decode cX12_ends 8 = .ok (.iconst 0, 1)) ∧ (decode cX12_ends 9 = .ok (.istore_n 2, 1)) ∧ (decode cX12_ends 10 = .ok (.iload_n 2, 1)) := by decide +kernel
theorem dX12_ends_0 : decode cX12_ends 0 = .ok (.iconst 0, 1) := zd_742.1
theorem dX12_ends_1 : decode cX12_ends 1 = .ok (.istore_n 1, 1) := zd_742.2.1
theorem dX12_ends_2 : decode cX12_ends 2 = .ok (.iload_n 1, 1) := zd_742.2.2.1
theorem dX12_ends_3 : decode cX12_ends 3 = .ok (.bipush 12, 2) := zd_742.2.2.2.1
theorem dX12_ends_5 : decode cX12_ends 5 = .ok (.if_icmp .ge 155, 3) := zd_742.2.2.2.2.1
theorem dX12_ends_8 : decode cX12_ends 8 = .ok (.iconst 0, 1) := zd_742.2.2.2.2.2.1
theorem dX12_ends_9 : decode cX12_ends 9 = .ok (.istore_n 2, 1) := zd_742.2.2.2.2.2.2.1
theorem dX12_ends_10 : decode cX12_ends 10 = .ok (.iload_n 2, 1) := zd_742.2.2.2.2.2.2.2
theorem zd_743 : (decode cX12_ends 11 = .ok (.aload_n 0, 1)) ∧ (decode cX12_ends 12 = .ok (.getfield 147, 3)) ∧ (decode cX12_ends 15 = .ok (.if_icmp .ge 139, 3)) ∧ (decode cX12_ends 18 = .ok (.aload_n 0, 1)) ∧ (decode cX12_ends 19 = .ok (.iload_n 1, 1)) ∧ (decode cX12_ends 20 = .ok (.invokevirtual 260, 3)) ∧ (decode cX12_ends 23 = .ok (.ifCond .eq 131, 3)) ∧ (decode cX12_ends 26 = .ok (.aload_n 0, 1)) := by decide +kernel
theorem dX12_ends_11 : decode cX12_ends 11 = .ok (.aload_n 0, 1) := zd_743.1
theorem dX12_ends_12 : decode cX12_ends 12 = .ok (.getfield 147, 3) := zd_743.2.1
theorem dX12_ends_15 : decode cX12_ends 15 = .ok (.if_icmp .ge 139, 3) := zd_743.2.2.1
theorem dX12_ends_18 : decode cX12_ends 18 = .ok (.aload_n 0, 1) := zd_743.2.2.2.1
theorem dX12_ends_19 : decode cX12_ends 19 = .ok (.iload_n 1, 1) := zd_743.2.2.2.2.1
theorem dX12_ends_20 : decode cX12_ends 20 = .ok (.invokevirtual 260, 3) := zd_743.2.2.2.2.2.1
theorem dX12_ends_23 : decode cX12_ends 23 = .ok (.ifCond .eq 131, 3) := zd_743.2.2.2.2.2.2.1
theorem dX12_ends_26 : decode cX12_ends 26 = .ok (.aload_n 0, 1) := zd_743.2.2.2.2.2.2.2
theorem zd_744 : (decode cX12_ends 27 = .ok (.getfield 131, 3)) ∧ (decode cX12_ends 30 = .ok (.bipush 80, 2)) ∧ (decode cX12_ends 32 = .ok (.iload_n 1, 1)) ∧ (decode cX12_ends 33 = .ok (.imul, 1)) ∧ (decode cX12_ends 34 = .ok (.iload_n 2, 1)) ∧ (decode cX12_ends 35 = .ok (.iadd, 1)) ∧ (decode cX12_ends 36 = .ok (.iaload, 1)) ∧ (decode cX12_ends 37 = .ok (.ifCond .ge 6, 3)) := by decide +kernel
theorem dX12_ends_27 : decode cX12_ends 27 = .ok (.getfield 131, 3) := zd_744.1
theorem dX12_ends_30 : decode cX12_ends 30 = .ok (.bipush 80, 2) := zd_744.2.1
theorem dX12_ends_32 : decode cX12_ends 32 = .ok (.iload_n 1, 1) := zd_744.2.2.1
theorem dX12_ends_33 : decode cX12_ends 33 = .ok (.imul, 1) := zd_744.2.2.2.1
theorem dX12_ends_34 : decode cX12_ends 34 = .ok (.iload_n 2, 1) := zd_744.2.2.2.2.1
theorem dX12_ends_35 : decode cX12_ends 35 = .ok (.iadd, 1) := zd_744.2.2.2.2.2.1
theorem dX12_ends_36 : decode cX12_ends 36 = .ok (.iaload, 1) := zd_744.2.2.2.2.2.2.1
theorem dX12_ends_37 : decode cX12_ends 37 = .ok (.ifCond .ge 6, 3) := zd_744.2.2.2.2.2.2.2
theorem zd_745 : (decode cX12_ends 40 = .ok (.goto 108, 3)) ∧ (decode cX12_ends 43 = .ok (.aload_n 0, 1)) ∧ (decode cX12_ends 44 = .ok (.getfield 140, 3)) ∧ (decode cX12_ends 47 = .ok (.bipush 80, 2)) ∧ (decode cX12_ends 49 = .ok (.aload_n 0, 1)) ∧ (decode cX12_ends 50 = .ok (.getfield 206, 3)) ∧ (decode cX12_ends 53 = .ok (.imul, 1)) ∧ (decode cX12_ends 54 = .ok (.iload_n 2, 1)) := by decide +kernel
theorem dX12_ends_40 : decode cX12_ends 40 = .ok (.goto 108, 3) := zd_745.1
theorem dX12_ends_43 : decode cX12_ends 43 = .ok (.aload_n 0, 1) := zd_745.2.1
theorem dX12_ends_44 : decode cX12_ends 44 = .ok (.getfield 140, 3) := zd_745.2.2.1
theorem dX12_ends_47 : decode cX12_ends 47 = .ok (.bipush 80, 2) := zd_745.2.2.2.1
theorem dX12_ends_49 : decode cX12_ends 49 = .ok (.aload_n 0, 1) := zd_745.2.2.2.2.1
theorem dX12_ends_50 : decode cX12_ends 50 = .ok (.getfield 206, 3) := zd_745.2.2.2.2.2.1
theorem dX12_ends_53 : decode cX12_ends 53 = .ok (.imul, 1) := zd_745.2.2.2.2.2.2.1
theorem dX12_ends_54 : decode cX12_ends 54 = .ok (.iload_n 2, 1) := zd_745.2.2.2.2.2.2.2
theorem zd_746 : (decode cX12_ends 55 = .ok (.iadd, 1)) ∧ (decode cX12_ends 56 = .ok (.iconst 1, 1)) ∧ (decode cX12_ends 57 = .ok (.bastore, 1)) ∧ (decode cX12_ends 58 = .ok (.aload_n 0, 1)) ∧ (decode cX12_ends 59 = .ok (.getfield 137, 3)) ∧ (decode cX12_ends 62 = .ok (.iconst 5, 1)) ∧ (decode cX12_ends 63 = .ok (.iload_n 2, 1)) ∧ (decode cX12_ends 64 = .ok (.imul, 1)) := by decide +kernel
theorem dX12_ends_55 : decode cX12_ends 55 = .ok (.iadd, 1) := zd_746.1
theorem dX12_ends_56 : decode cX12_ends 56 = .ok (.iconst 1, 1) := zd_746.2.1
theorem dX12_ends_57 : decode cX12_ends 57 = .ok (.bastore, 1) := zd_746.2.2.1
theorem dX12_ends_58 : decode cX12_ends 58 = .ok (.aload_n 0, 1) := zd_746.2.2.2.1
theorem dX12_ends_59 : decode cX12_ends 59 = .ok (.getfield 137, 3) := zd_746.2.2.2.2.1
theorem dX12_ends_62 : decode cX12_ends 62 = .ok (.iconst 5, 1) := zd_746.2.2.2.2.2.1
theorem dX12_ends_63 : decode cX12_ends 63 = .ok (.iload_n 2, 1) := zd_746.2.2.2.2.2.2.1
theorem dX12_ends_64 : decode cX12_ends 64 = .ok (.imul, 1) := zd_746.2.2.2.2.2.2.2
theorem zd_747 : (decode cX12_ends 65 = .ok (.iaload, 1)) ∧ (decode cX12_ends 66 = .ok (.ifCond .ge 82, 3)) ∧ (decode cX12_ends 69 = .ok (.aload_n 0, 1)) ∧ (decode cX12_ends 70 = .ok (.getfield 137, 3)) ∧ (decode cX12_ends 73 = .ok (.iconst 5, 1)) ∧ (decode cX12_ends 74 = .ok (.iload_n 2, 1)) ∧ (decode cX12_ends 75 = .ok (.imul, 1)) ∧ (decode cX12_ends 76 = .ok (.aload_n 0, 1)) := by decide +kernel
theorem dX12_ends_65 : decode cX12_ends 65 = .ok (.iaload, 1) := zd_747.1
theorem dX12_ends_66 : decode cX12_ends 66 = .ok (.ifCond .ge 82, 3) := zd_747.2.1
theorem dX12_ends_69 : decode cX12_ends 69 = .ok (.aload_n 0, 1) := zd_747.2.2.1
theorem dX12_ends_70 : decode cX12_ends 70 = .ok (.getfield 137, 3) := zd_747.2.2.2.1
theorem dX12_ends_73 : decode cX12_ends 73 = .ok (.iconst 5, 1) := zd_747.2.2.2.2.1
theorem dX12_ends_74 : decode cX12_ends 74 = .ok (.iload_n 2, 1) := zd_747.2.2.2.2.2.1
theorem dX12_ends_75 : decode cX12_ends 75 = .ok (.imul, 1) := zd_747.2.2.2.2.2.2.1
theorem dX12_ends_76 : decode cX12_ends 76 = .ok (.aload_n 0, 1) := zd_747.2.2.2.2.2.2.2
theorem zd_748 : (decode cX12_ends 77 = .ok (.getfield 206, 3)) ∧ (decode cX12_ends 80 = .ok (.iastore, 1)) ∧ (decode cX12_ends 81 = .ok (.aload_n 0, 1)) ∧ (decode cX12_ends 82 = .ok (.getfield 137, 3)) ∧ (decode cX12_ends 85 = .ok (.iconst 5, 1)) ∧ (decode cX12_ends 86 = .ok (.iload_n 2, 1)) ∧ (decode cX12_ends 87 = .ok (.imul, 1)) ∧ (decode cX12_ends 88 = .ok (.iconst 1, 1)) := by decide +kernel
theorem dX12_ends_77 : decode cX12_ends 77 = .ok (.getfield 206, 3) := zd_748.1
theorem dX12_ends_80 : decode cX12_ends 80 = .ok (.iastore, 1) := zd_748.2.1
theorem dX12_ends_81 : decode cX12_ends 81 = .ok (.aload_n 0, 1) := zd_748.2.2.1
theorem dX12_ends_82 : decode cX12_ends 82 = .ok (.getfield 137, 3) := zd_748.2.2.2.1
theorem dX12_ends_85 : decode cX12_ends 85 = .ok (.iconst 5, 1) := zd_748.2.2.2.2.1
theorem dX12_ends_86 : decode cX12_ends 86 = .ok (.iload_n 2, 1) := zd_748.2.2.2.2.2.1
theorem dX12_ends_87 : decode cX12_ends 87 = .ok (.imul, 1) := zd_748.2.2.2.2.2.2.1
theorem dX12_ends_88 : decode cX12_ends 88 = .ok (.iconst 1, 1) := zd_748.2.2.2.2.2.2.2
theorem zd_749 : (decode cX12_ends 89 = .ok (.iadd, 1)) ∧ (decode cX12_ends 90 = .ok (.aload_n 0, 1)) ∧ (decode cX12_ends 91 = .ok (.getfield 257, 3)) ∧ (decode cX12_ends 94 = .ok (.iastore, 1)) ∧ (decode cX12_ends 95 = .ok (.aload_n 0, 1)) ∧ (decode cX12_ends 96 = .ok (.getfield 137, 3)) ∧ (decode cX12_ends 99 = .ok (.iconst 5, 1)) ∧ (decode cX12_ends 100 = .ok (.iload_n 2, 1)) := by decide +kernel
theorem dX12_ends_89 : decode cX12_ends 89 = .ok (.iadd, 1) := zd_749.1
theorem dX12_ends_90 : decode cX12_ends 90 = .ok (.aload_n 0, 1) := zd_749.2.1
theorem dX12_ends_91 : decode cX12_ends 91 = .ok (.getfield 257, 3) := zd_749.2.2.1
theorem dX12_ends_94 : decode cX12_ends 94 = .ok (.iastore, 1) := zd_749.2.2.2.1
theorem dX12_ends_95 : decode cX12_ends 95 = .ok (.aload_n 0, 1) := zd_749.2.2.2.2.1
theorem dX12_ends_96 : decode cX12_ends 96 = .ok (.getfield 137, 3) := zd_749.2.2.2.2.2.1
theorem dX12_ends_99 : decode cX12_ends 99 = .ok (.iconst 5, 1) := zd_749.2.2.2.2.2.2.1
theorem dX12_ends_100 : decode cX12_ends 100 = .ok (.iload_n 2, 1) := zd_749.2.2.2.2.2.2.2
theorem zd_750 : (decode cX12_ends 101 = .ok (.imul, 1)) ∧ (decode cX12_ends 102 = .ok (.iconst 2, 1)) ∧ (decode cX12_ends 103 = .ok (.iadd, 1)) ∧ (decode cX12_ends 104 = .ok (.iload_n 1, 1)) ∧ (decode cX12_ends 105 = .ok (.iastore, 1)) ∧ (decode cX12_ends 106 = .ok (.aload_n 0, 1)) ∧ (decode cX12_ends 107 = .ok (.getfield 137, 3)) ∧ (decode cX12_ends 110 = .ok (.iconst 5, 1)) := by decide +kernel
theorem dX12_ends_101 : decode cX12_ends 101 = .ok (.imul, 1) := zd_750.1
theorem dX12_ends_102 : decode cX12_ends 102 = .ok (.iconst 2, 1) := zd_750.2.1
theorem dX12_ends_103 : decode cX12_ends 103 = .ok (.iadd, 1) := zd_750.2.2.1
theorem dX12_ends_104 : decode cX12_ends 104 = .ok (.iload_n 1, 1) := zd_750.2.2.2.1
theorem dX12_ends_105 : decode cX12_ends 105 = .ok (.iastore, 1) := zd_750.2.2.2.2.1
theorem dX12_ends_106 : decode cX12_ends 106 = .ok (.aload_n 0, 1) := zd_750.2.2.2.2.2.1
theorem dX12_ends_107 : decode cX12_ends 107 = .ok (.getfield 137, 3) := zd_750.2.2.2.2.2.2.1
theorem dX12_ends_110 : decode cX12_ends 110 = .ok (.iconst 5, 1) := zd_750.2.2.2.2.2.2.2
theorem zd_751 : (decode cX12_ends 111 = .ok (.iload_n 2, 1)) ∧ (decode cX12_ends 112 = .ok (.imul, 1)) ∧ (decode cX12_ends 113 = .ok (.iconst 3, 1)) ∧ (decode cX12_ends 114 = .ok (.iadd, 1)) ∧ (decode cX12_ends 115 = .ok (.aload_n 0, 1)) ∧ (decode cX12_ends 116 = .ok (.getfield 131, 3)) ∧ (decode cX12_ends 119 = .ok (.bipush 80, 2)) ∧ (decode cX12_ends 121 = .ok (.iload_n 1, 1)) := by decide +kernel
theorem dX12_ends_111 : decode cX12_ends 111 = .ok (.iload_n 2, 1) := zd_751.1
theorem dX12_ends_112 : decode cX12_ends 112 = .ok (.imul, 1) := zd_751.2.1
theorem dX12_ends_113 : decode cX12_ends 113 = .ok (.iconst 3, 1) := zd_751.2.2.1
theorem dX12_ends_114 : decode cX12_ends 114 = .ok (.iadd, 1) := zd_751.2.2.2.1
theorem dX12_ends_115 : decode cX12_ends 115 = .ok (.aload_n 0, 1) := zd_751.2.2.2.2.1
theorem dX12_ends_116 : decode cX12_ends 116 = .ok (.getfield 131, 3) := zd_751.2.2.2.2.2.1
theorem dX12_ends_119 : decode cX12_ends 119 = .ok (.bipush 80, 2) := zd_751.2.2.2.2.2.2.1
theorem dX12_ends_121 : decode cX12_ends 121 = .ok (.iload_n 1, 1) := zd_751.2.2.2.2.2.2.2
theorem zd_752 : (decode cX12_ends 122 = .ok (.imul, 1)) ∧ (decode cX12_ends 123 = .ok (.iload_n 2, 1)) ∧ (decode cX12_ends 124 = .ok (.iadd, 1)) ∧ (decode cX12_ends 125 = .ok (.iaload, 1)) ∧ (decode cX12_ends 126 = .ok (.iastore, 1)) ∧ (decode cX12_ends 127 = .ok (.aload_n 0, 1)) ∧ (decode cX12_ends 128 = .ok (.getfield 137, 3)) ∧ (decode cX12_ends 131 = .ok (.iconst 5, 1)) := by decide +kernel
theorem dX12_ends_122 : decode cX12_ends 122 = .ok (.imul, 1) := zd_752.1
theorem dX12_ends_123 : decode cX12_ends 123 = .ok (.iload_n 2, 1) := zd_752.2.1
theorem dX12_ends_124 : decode cX12_ends 124 = .ok (.iadd, 1) := zd_752.2.2.1
theorem dX12_ends_125 : decode cX12_ends 125 = .ok (.iaload, 1) := zd_752.2.2.2.1
theorem dX12_ends_126 : decode cX12_ends 126 = .ok (.iastore, 1) := zd_752.2.2.2.2.1
theorem dX12_ends_127 : decode cX12_ends 127 = .ok (.aload_n 0, 1) := zd_752.2.2.2.2.2.1
theorem dX12_ends_128 : decode cX12_ends 128 = .ok (.getfield 137, 3) := zd_752.2.2.2.2.2.2.1
theorem dX12_ends_131 : decode cX12_ends 131 = .ok (.iconst 5, 1) := zd_752.2.2.2.2.2.2.2
theorem zd_753 : (decode cX12_ends 132 = .ok (.iload_n 2, 1)) ∧ (decode cX12_ends 133 = .ok (.imul, 1)) ∧ (decode cX12_ends 134 = .ok (.iconst 4, 1)) ∧ (decode cX12_ends 135 = .ok (.iadd, 1)) ∧ (decode cX12_ends 136 = .ok (.aload_n 0, 1)) ∧ (decode cX12_ends 137 = .ok (.getfield 134, 3)) ∧ (decode cX12_ends 140 = .ok (.bipush 80, 2)) ∧ (decode cX12_ends 142 = .ok (.iload_n 1, 1)) := by decide +kernel
theorem dX12_ends_132 : decode cX12_ends 132 = .ok (.iload_n 2, 1) := zd_753.1
theorem dX12_ends_133 : decode cX12_ends 133 = .ok (.imul, 1) := zd_753.2.1
theorem dX12_ends_134 : decode cX12_ends 134 = .ok (.iconst 4, 1) := zd_753.2.2.1
theorem dX12_ends_135 : decode cX12_ends 135 = .ok (.iadd, 1) := zd_753.2.2.2.1
theorem dX12_ends_136 : decode cX12_ends 136 = .ok (.aload_n 0, 1) := zd_753.2.2.2.2.1
theorem dX12_ends_137 : decode cX12_ends 137 = .ok (.getfield 134, 3) := zd_753.2.2.2.2.2.1
theorem dX12_ends_140 : decode cX12_ends 140 = .ok (.bipush 80, 2) := zd_753.2.2.2.2.2.2.1
theorem dX12_ends_142 : decode cX12_ends 142 = .ok (.iload_n 1, 1) := zd_753.2.2.2.2.2.2.2
theorem zd_754 : (decode cX12_ends 143 = .ok (.imul, 1)) ∧ (decode cX12_ends 144 = .ok (.iload_n 2, 1)) ∧ (decode cX12_ends 145 = .ok (.iadd, 1)) ∧ (decode cX12_ends 146 = .ok (.iaload, 1)) ∧ (decode cX12_ends 147 = .ok (.iastore, 1)) ∧ (decode cX12_ends 148 = .ok (.iinc 2 1, 3)) ∧ (decode cX12_ends 151 = .ok (.goto (-141), 3)) ∧ (decode cX12_ends 154 = .ok (.iinc 1 1, 3)) := by decide +kernel
theorem dX12_ends_143 : decode cX12_ends 143 = .ok (.imul, 1) := zd_754.1
theorem dX12_ends_144 : decode cX12_ends 144 = .ok (.iload_n 2, 1) := zd_754.2.1
theorem dX12_ends_145 : decode cX12_ends 145 = .ok (.iadd, 1) := zd_754.2.2.1
theorem dX12_ends_146 : decode cX12_ends 146 = .ok (.iaload, 1) := zd_754.2.2.2.1
theorem dX12_ends_147 : decode cX12_ends 147 = .ok (.iastore, 1) := zd_754.2.2.2.2.1
theorem dX12_ends_148 : decode cX12_ends 148 = .ok (.iinc 2 1, 3) := zd_754.2.2.2.2.2.1
theorem dX12_ends_151 : decode cX12_ends 151 = .ok (.goto (-141), 3) := zd_754.2.2.2.2.2.2.1
theorem dX12_ends_154 : decode cX12_ends 154 = .ok (.iinc 1 1, 3) := zd_754.2.2.2.2.2.2.2
theorem zd_755 : (decode cX12_ends 157 = .ok (.goto (-155), 3)) ∧ (decode cX12_ends 160 = .ok (.return_, 1)) := by decide +kernel
theorem dX12_ends_157 : decode cX12_ends 157 = .ok (.goto (-155), 3) := zd_755.1
theorem dX12_ends_160 : decode cX12_ends 160 = .ok (.return_, 1) := zd_755.2
theorem zd_756 : (decode cX12_edition 0 = .ok (.aload_n 0, 1)) ∧ (decode cX12_edition 1 = .ok (.getfield 257, 3)) ∧ (decode cX12_edition 4 = .ok (.bipush 7, 2)) ∧ (decode cX12_edition 6 = .ok (.if_icmp .ne 5, 3)) ∧ (decode cX12_edition 9 = .ok (.iconst (-1), 1)) ∧ (decode cX12_edition 10 = .ok (.ireturn, 1)) ∧ (decode cX12_edition 11 = .ok (.aload_n 0, 1)) ∧ (decode cX12_edition 12 = .ok (.invokevirtual 263, 3)) := by decide +kernel
theorem dX12_edition_0 : decode cX12_edition 0 = .ok (.aload_n 0, 1) := zd_756.1
theorem dX12_edition_1 : decode cX12_edition 1 = .ok (.getfield 257, 3) := zd_756.2.1
theorem dX12_edition_4 : decode cX12_edition 4 = .ok (.bipush 7, 2) := zd_756.2.2.1
theorem dX12_edition_6 : decode cX12_edition 6 = .ok (.if_icmp .ne 5, 3) := zd_756.2.2.2.1
theorem dX12_edition_9 : decode cX12_edition 9 = .ok (.iconst (-1), 1) := zd_756.2.2.2.2.1
theorem dX12_edition_10 : decode cX12_edition 10 = .ok (.ireturn, 1) := zd_756.2.2.2.2.2.1
theorem dX12_edition_11 : decode cX12_edition 11 = .ok (.aload_n 0, 1) := zd_756.2.2.2.2.2.2.1
theorem dX12_edition_12 : decode cX12_edition 12 = .ok (.invokevirtual 263, 3) := zd_756.2.2.2.2.2.2.2
theorem zd_757 : (decode cX12_edition 15 = .ok (.aload_n 0, 1)) ∧ (decode cX12_edition 16 = .ok (.dup, 1)) ∧ (decode cX12_edition 17 = .ok (.getfield 257, 3)) ∧ (decode cX12_edition 20 = .ok (.iconst 1, 1)) ∧ (decode cX12_edition 21 = .ok (.iadd, 1)) ∧ (decode cX12_edition 22 = .ok (.putfield 257, 3)) ∧ (decode cX12_edition 25 = .ok (.aload_n 0, 1)) ∧ (decode cX12_edition 26 = .ok (.getfield 257, 3)) := by decide +kernel
theorem dX12_edition_15 : decode cX12_edition 15 = .ok (.aload_n 0, 1) := zd_757.1
theorem dX12_edition_16 : decode cX12_edition 16 = .ok (.dup, 1) := zd_757.2.1
theorem dX12_edition_17 : decode cX12_edition 17 = .ok (.getfield 257, 3) := zd_757.2.2.1
theorem dX12_edition_20 : decode cX12_edition 20 = .ok (.iconst 1, 1) := zd_757.2.2.2.1
theorem dX12_edition_21 : decode cX12_edition 21 = .ok (.iadd, 1) := zd_757.2.2.2.2.1
theorem dX12_edition_22 : decode cX12_edition 22 = .ok (.putfield 257, 3) := zd_757.2.2.2.2.2.1
theorem dX12_edition_25 : decode cX12_edition 25 = .ok (.aload_n 0, 1) := zd_757.2.2.2.2.2.2.1
theorem dX12_edition_26 : decode cX12_edition 26 = .ok (.getfield 257, 3) := zd_757.2.2.2.2.2.2.2
theorem dX12_edition_29 : decode cX12_edition 29 = .ok (.ireturn, 1) := by decide +kernel
theorem zd_758 : (decode cX12_day 0 = .ok (.aload_n 0, 1)) ∧ (decode cX12_day 1 = .ok (.getfield 206, 3)) ∧ (decode cX12_day 4 = .ok (.sipush 399, 3)) ∧ (decode cX12_day 7 = .ok (.if_icmp .ne 5, 3)) ∧ (decode cX12_day 10 = .ok (.iconst (-1), 1)) ∧ (decode cX12_day 11 = .ok (.ireturn, 1)) ∧ (decode cX12_day 12 = .ok (.aload_n 0, 1)) ∧ (decode cX12_day 13 = .ok (.invokevirtual 263, 3)) := by decide +kernel
theorem dX12_day_0 : decode cX12_day 0 = .ok (.aload_n 0, 1) := zd_758.1
theorem dX12_day_1 : decode cX12_day 1 = .ok (.getfield 206, 3) := zd_758.2.1
theorem dX12_day_4 : decode cX12_day 4 = .ok (.sipush 399, 3) := zd_758.2.2.1
theorem dX12_day_7 : decode cX12_day 7 = .ok (.if_icmp .ne 5, 3) := zd_758.2.2.2.1
theorem dX12_day_10 : decode cX12_day 10 = .ok (.iconst (-1), 1) := zd_758.2.2.2.2.1
theorem dX12_day_11 : decode cX12_day 11 = .ok (.ireturn, 1) := zd_758.2.2.2.2.2.1
theorem dX12_day_12 : decode cX12_day 12 = .ok (.aload_n 0, 1) := zd_758.2.2.2.2.2.2.1
theorem dX12_day_13 : decode cX12_day 13 = .ok (.invokevirtual 263, 3) := zd_758.2.2.2.2.2.2.2
theorem zd_759 : (decode cX12_day 16 = .ok (.aload_n 0, 1)) ∧ (decode cX12_day 17 = .ok (.dup, 1)) ∧ (decode cX12_day 18 = .ok (.getfield 206, 3)) ∧ (decode cX12_day 21 = .ok (.iconst 1, 1)) ∧ (decode cX12_day 22 = .ok (.iadd, 1)) ∧ (decode cX12_day 23 = .ok (.putfield 206, 3)) ∧ (decode cX12_day 26 = .ok (.aload_n 0, 1)) ∧ (decode cX12_day 27 = .ok (.iconst 0, 1)) := by decide +kernel
theorem dX12_day_16 : decode cX12_day 16 = .ok (.aload_n 0, 1) := zd_759.1
theorem dX12_day_17 : decode cX12_day 17 = .ok (.dup, 1) := zd_759.2.1
theorem dX12_day_18 : decode cX12_day 18 = .ok (.getfield 206, 3) := zd_759.2.2.1
theorem dX12_day_21 : decode cX12_day 21 = .ok (.iconst 1, 1) := zd_759.2.2.2.1
theorem dX12_day_22 : decode cX12_day 22 = .ok (.iadd, 1) := zd_759.2.2.2.2.1
theorem dX12_day_23 : decode cX12_day 23 = .ok (.putfield 206, 3) := zd_759.2.2.2.2.2.1
theorem dX12_day_26 : decode cX12_day 26 = .ok (.aload_n 0, 1) := zd_759.2.2.2.2.2.2.1
theorem dX12_day_27 : decode cX12_day 27 = .ok (.iconst 0, 1) := zd_759.2.2.2.2.2.2.2
theorem zd_760 : (decode cX12_day 28 = .ok (.putfield 257, 3)) ∧ (decode cX12_day 31 = .ok (.iconst 0, 1)) ∧ (decode cX12_day 32 = .ok (.istore_n 1, 1)) ∧ (decode cX12_day 33 = .ok (.iload_n 1, 1)) ∧ (decode cX12_day 34 = .ok (.sipush 5760, 3)) ∧ (decode cX12_day 37 = .ok (.if_icmp .ge 17, 3)) ∧ (decode cX12_day 40 = .ok (.aload_n 0, 1)) ∧ (decode cX12_day 41 = .ok (.getfield 16, 3)) := by decide +kernel
theorem dX12_day_28 : decode cX12_day 28 = .ok (.putfield 257, 3) := zd_760.1
theorem dX12_day_31 : decode cX12_day 31 = .ok (.iconst 0, 1) := zd_760.2.1
theorem dX12_day_32 : decode cX12_day 32 = .ok (.istore_n 1, 1) := zd_760.2.2.1
theorem dX12_day_33 : decode cX12_day 33 = .ok (.iload_n 1, 1) := zd_760.2.2.2.1
theorem dX12_day_34 : decode cX12_day 34 = .ok (.sipush 5760, 3) := zd_760.2.2.2.2.1
theorem dX12_day_37 : decode cX12_day 37 = .ok (.if_icmp .ge 17, 3) := zd_760.2.2.2.2.2.1
theorem dX12_day_40 : decode cX12_day 40 = .ok (.aload_n 0, 1) := zd_760.2.2.2.2.2.2.1
theorem dX12_day_41 : decode cX12_day 41 = .ok (.getfield 16, 3) := zd_760.2.2.2.2.2.2.2
theorem zd_761 : (decode cX12_day 44 = .ok (.iload_n 1, 1)) ∧ (decode cX12_day 45 = .ok (.bipush (-2), 2)) ∧ (decode cX12_day 47 = .ok (.iastore, 1)) ∧ (decode cX12_day 48 = .ok (.iinc 1 1, 3)) ∧ (decode cX12_day 51 = .ok (.goto (-18), 3)) ∧ (decode cX12_day 54 = .ok (.iconst 0, 1)) ∧ (decode cX12_day 55 = .ok (.istore_n 1, 1)) ∧ (decode cX12_day 56 = .ok (.iload_n 1, 1)) := by decide +kernel
theorem dX12_day_44 : decode cX12_day 44 = .ok (.iload_n 1, 1) := zd_761.1
theorem dX12_day_45 : decode cX12_day 45 = .ok (.bipush (-2), 2) := zd_761.2.1
theorem dX12_day_47 : decode cX12_day 47 = .ok (.iastore, 1) := zd_761.2.2.1
theorem dX12_day_48 : decode cX12_day 48 = .ok (.iinc 1 1, 3) := zd_761.2.2.2.1
theorem dX12_day_51 : decode cX12_day 51 = .ok (.goto (-18), 3) := zd_761.2.2.2.2.1
theorem dX12_day_54 : decode cX12_day 54 = .ok (.iconst 0, 1) := zd_761.2.2.2.2.2.1
theorem dX12_day_55 : decode cX12_day 55 = .ok (.istore_n 1, 1) := zd_761.2.2.2.2.2.2.1
theorem dX12_day_56 : decode cX12_day 56 = .ok (.iload_n 1, 1) := zd_761.2.2.2.2.2.2.2
theorem zd_762 : (decode cX12_day 57 = .ok (.aload_n 0, 1)) ∧ (decode cX12_day 58 = .ok (.getfield 147, 3)) ∧ (decode cX12_day 61 = .ok (.if_icmp .ge 16, 3)) ∧ (decode cX12_day 64 = .ok (.aload_n 0, 1)) ∧ (decode cX12_day 65 = .ok (.getfield 74, 3)) ∧ (decode cX12_day 68 = .ok (.iload_n 1, 1)) ∧ (decode cX12_day 69 = .ok (.iconst 0, 1)) ∧ (decode cX12_day 70 = .ok (.iastore, 1)) := by decide +kernel
theorem dX12_day_57 : decode cX12_day 57 = .ok (.aload_n 0, 1) := zd_762.1
theorem dX12_day_58 : decode cX12_day 58 = .ok (.getfield 147, 3) := zd_762.2.1
theorem dX12_day_61 : decode cX12_day 61 = .ok (.if_icmp .ge 16, 3) := zd_762.2.2.1
theorem dX12_day_64 : decode cX12_day 64 = .ok (.aload_n 0, 1) := zd_762.2.2.2.1
theorem dX12_day_65 : decode cX12_day 65 = .ok (.getfield 74, 3) := zd_762.2.2.2.2.1
theorem dX12_day_68 : decode cX12_day 68 = .ok (.iload_n 1, 1) := zd_762.2.2.2.2.2.1
theorem dX12_day_69 : decode cX12_day 69 = .ok (.iconst 0, 1) := zd_762.2.2.2.2.2.2.1
theorem dX12_day_70 : decode cX12_day 70 = .ok (.iastore, 1) := zd_762.2.2.2.2.2.2.2
theorem zd_763 : (decode cX12_day 71 = .ok (.iinc 1 1, 3)) ∧ (decode cX12_day 74 = .ok (.goto (-18), 3)) ∧ (decode cX12_day 77 = .ok (.aload_n 0, 1)) ∧ (decode cX12_day 78 = .ok (.invokevirtual 266, 3)) ∧ (decode cX12_day 81 = .ok (.aload_n 0, 1)) ∧ (decode cX12_day 82 = .ok (.getfield 206, 3)) ∧ (decode cX12_day 85 = .ok (.ireturn, 1)) := by decide +kernel
theorem dX12_day_71 : decode cX12_day 71 = .ok (.iinc 1 1, 3) := zd_763.1
theorem dX12_day_74 : decode cX12_day 74 = .ok (.goto (-18), 3) := zd_763.2.1
theorem dX12_day_77 : decode cX12_day 77 = .ok (.aload_n 0, 1) := zd_763.2.2.1
theorem dX12_day_78 : decode cX12_day 78 = .ok (.invokevirtual 266, 3) := zd_763.2.2.2.1
theorem dX12_day_81 : decode cX12_day 81 = .ok (.aload_n 0, 1) := zd_763.2.2.2.2.1
theorem dX12_day_82 : decode cX12_day 82 = .ok (.getfield 206, 3) := zd_763.2.2.2.2.2.1
theorem dX12_day_85 : decode cX12_day 85 = .ok (.ireturn, 1) := zd_763.2.2.2.2.2.2
theorem zd_764 : (decode cX12_cell 0 = .ok (.aload_n 0, 1)) ∧ (decode cX12_cell 1 = .ok (.iload_n 1, 1)) ∧ (decode cX12_cell 2 = .ok (.iload_n 2, 1)) ∧ (decode cX12_cell 3 = .ok (.iload_n 3, 1)) ∧ (decode cX12_cell 4 = .ok (.invokevirtual 189, 3)) ∧ (decode cX12_cell 7 = .ok (.ifCond .eq 17, 3)) ∧ (decode cX12_cell 10 = .ok (.aload_n 0, 1)) ∧ (decode cX12_cell 11 = .ok (.getfield 16, 3)) := by decide +kernel
theorem dX12_cell_0 : decode cX12_cell 0 = .ok (.aload_n 0, 1) := zd_764.1
theorem dX12_cell_1 : decode cX12_cell 1 = .ok (.iload_n 1, 1) := zd_764.2.1
theorem dX12_cell_2 : decode cX12_cell 2 = .ok (.iload_n 2, 1) := zd_764.2.2.1
theorem dX12_cell_3 : decode cX12_cell 3 = .ok (.iload_n 3, 1) := zd_764.2.2.2.1
theorem dX12_cell_4 : decode cX12_cell 4 = .ok (.invokevirtual 189, 3) := zd_764.2.2.2.2.1
theorem dX12_cell_7 : decode cX12_cell 7 = .ok (.ifCond .eq 17, 3) := zd_764.2.2.2.2.2.1
theorem dX12_cell_10 : decode cX12_cell 10 = .ok (.aload_n 0, 1) := zd_764.2.2.2.2.2.2.1
theorem dX12_cell_11 : decode cX12_cell 11 = .ok (.getfield 16, 3) := zd_764.2.2.2.2.2.2.2
theorem zd_765 : (decode cX12_cell 14 = .ok (.iload_n 1, 1)) ∧ (decode cX12_cell 15 = .ok (.iload_n 2, 1)) ∧ (decode cX12_cell 16 = .ok (.iload_n 3, 1)) ∧ (decode cX12_cell 17 = .ok (.invokestatic 161, 3)) ∧ (decode cX12_cell 20 = .ok (.iaload, 1)) ∧ (decode cX12_cell 21 = .ok (.goto 4, 3)) ∧ (decode cX12_cell 24 = .ok (.iconst (-1), 1)) ∧ (decode cX12_cell 25 = .ok (.ireturn, 1)) := by decide +kernel
theorem dX12_cell_14 : decode cX12_cell 14 = .ok (.iload_n 1, 1) := zd_765.1
theorem dX12_cell_15 : decode cX12_cell 15 = .ok (.iload_n 2, 1) := zd_765.2.1
theorem dX12_cell_16 : decode cX12_cell 16 = .ok (.iload_n 3, 1) := zd_765.2.2.1
theorem dX12_cell_17 : decode cX12_cell 17 = .ok (.invokestatic 161, 3) := zd_765.2.2.2.1
theorem dX12_cell_20 : decode cX12_cell 20 = .ok (.iaload, 1) := zd_765.2.2.2.2.1
theorem dX12_cell_21 : decode cX12_cell 21 = .ok (.goto 4, 3) := zd_765.2.2.2.2.2.1
theorem dX12_cell_24 : decode cX12_cell 24 = .ok (.iconst (-1), 1) := zd_765.2.2.2.2.2.2.1
theorem dX12_cell_25 : decode cX12_cell 25 = .ok (.ireturn, 1) := zd_765.2.2.2.2.2.2.2
theorem zd_766 : (decode cX12_piece 0 = .ok (.aload_n 0, 1)) ∧ (decode cX12_piece 1 = .ok (.iload_n 1, 1)) ∧ (decode cX12_piece 2 = .ok (.invokevirtual 151, 3)) ∧ (decode cX12_piece 5 = .ok (.ifCond .eq 19, 3)) ∧ (decode cX12_piece 8 = .ok (.iload_n 2, 1)) ∧ (decode cX12_piece 9 = .ok (.iconst 0, 1)) ∧ (decode cX12_piece 10 = .ok (.aload_n 0, 1)) ∧ (decode cX12_piece 11 = .ok (.getfield 74, 3)) := by decide +kernel
theorem dX12_piece_0 : decode cX12_piece 0 = .ok (.aload_n 0, 1) := zd_766.1
theorem dX12_piece_1 : decode cX12_piece 1 = .ok (.iload_n 1, 1) := zd_766.2.1
theorem dX12_piece_2 : decode cX12_piece 2 = .ok (.invokevirtual 151, 3) := zd_766.2.2.1
theorem dX12_piece_5 : decode cX12_piece 5 = .ok (.ifCond .eq 19, 3) := zd_766.2.2.2.1
theorem dX12_piece_8 : decode cX12_piece 8 = .ok (.iload_n 2, 1) := zd_766.2.2.2.2.1
theorem dX12_piece_9 : decode cX12_piece 9 = .ok (.iconst 0, 1) := zd_766.2.2.2.2.2.1
theorem dX12_piece_10 : decode cX12_piece 10 = .ok (.aload_n 0, 1) := zd_766.2.2.2.2.2.2.1
theorem dX12_piece_11 : decode cX12_piece 11 = .ok (.getfield 74, 3) := zd_766.2.2.2.2.2.2.2
theorem zd_767 : (decode cX12_piece 14 = .ok (.iload_n 1, 1)) ∧ (decode cX12_piece 15 = .ok (.iaload, 1)) ∧ (decode cX12_piece 16 = .ok (.iconst 1, 1)) ∧ (decode cX12_piece 17 = .ok (.isub, 1)) ∧ (decode cX12_piece 18 = .ok (.invokestatic 143, 3)) ∧ (decode cX12_piece 21 = .ok (.ifCond .ne 5, 3)) ∧ (decode cX12_piece 24 = .ok (.iconst (-1), 1)) ∧ (decode cX12_piece 25 = .ok (.ireturn, 1)) := by decide +kernel
theorem dX12_piece_14 : decode cX12_piece 14 = .ok (.iload_n 1, 1) := zd_767.1
theorem dX12_piece_15 : decode cX12_piece 15 = .ok (.iaload, 1) := zd_767.2.1
theorem dX12_piece_16 : decode cX12_piece 16 = .ok (.iconst 1, 1) := zd_767.2.2.1
theorem dX12_piece_17 : decode cX12_piece 17 = .ok (.isub, 1) := zd_767.2.2.2.1
theorem dX12_piece_18 : decode cX12_piece 18 = .ok (.invokestatic 143, 3) := zd_767.2.2.2.2.1
theorem dX12_piece_21 : decode cX12_piece 21 = .ok (.ifCond .ne 5, 3) := zd_767.2.2.2.2.2.1
theorem dX12_piece_24 : decode cX12_piece 24 = .ok (.iconst (-1), 1) := zd_767.2.2.2.2.2.2.1
theorem dX12_piece_25 : decode cX12_piece 25 = .ok (.ireturn, 1) := zd_767.2.2.2.2.2.2.2
theorem zd_768 : (decode cX12_piece 26 = .ok (.bipush 6, 2)) ∧ (decode cX12_piece 28 = .ok (.iload_n 1, 1)) ∧ (decode cX12_piece 29 = .ok (.imul, 1)) ∧ (decode cX12_piece 30 = .ok (.iload_n 2, 1)) ∧ (decode cX12_piece 31 = .ok (.iadd, 1)) ∧ (decode cX12_piece 32 = .ok (.istore 4, 2)) ∧ (decode cX12_piece 34 = .ok (.iload_n 3, 1)) ∧ (decode cX12_piece 35 = .ok (.tableswitch 121 0 6 #[41, 49, 57, 65, 73, 81, 101], 41)) := by decide +kernel
theorem dX12_piece_26 : decode cX12_piece 26 = .ok (.bipush 6, 2) := zd_768.1
theorem dX12_piece_28 : decode cX12_piece 28 = .ok (.iload_n 1, 1) := zd_768.2.1
theorem dX12_piece_29 : decode cX12_piece 29 = .ok (.imul, 1) := zd_768.2.2.1
theorem dX12_piece_30 : decode cX12_piece 30 = .ok (.iload_n 2, 1) := zd_768.2.2.2.1
theorem dX12_piece_31 : decode cX12_piece 31 = .ok (.iadd, 1) := zd_768.2.2.2.2.1
theorem dX12_piece_32 : decode cX12_piece 32 = .ok (.istore 4, 2) := zd_768.2.2.2.2.2.1
theorem dX12_piece_34 : decode cX12_piece 34 = .ok (.iload_n 3, 1) := zd_768.2.2.2.2.2.2.1
theorem dX12_piece_35 : decode cX12_piece 35 = .ok (.tableswitch 121 0 6 #[41, 49, 57, 65, 73, 81, 101], 41) := zd_768.2.2.2.2.2.2.2
theorem zd_769 : (decode cX12_piece 76 = .ok (.aload_n 0, 1)) ∧ (decode cX12_piece 77 = .ok (.getfield 77, 3)) ∧ (decode cX12_piece 80 = .ok (.iload 4, 2)) ∧ (decode cX12_piece 82 = .ok (.iaload, 1)) ∧ (decode cX12_piece 83 = .ok (.ireturn, 1)) ∧ (decode cX12_piece 84 = .ok (.aload_n 0, 1)) ∧ (decode cX12_piece 85 = .ok (.getfield 80, 3)) ∧ (decode cX12_piece 88 = .ok (.iload 4, 2)) := by decide +kernel
theorem dX12_piece_76 : decode cX12_piece 76 = .ok (.aload_n 0, 1) := zd_769.1
theorem dX12_piece_77 : decode cX12_piece 77 = .ok (.getfield 77, 3) := zd_769.2.1
theorem dX12_piece_80 : decode cX12_piece 80 = .ok (.iload 4, 2) := zd_769.2.2.1
theorem dX12_piece_82 : decode cX12_piece 82 = .ok (.iaload, 1) := zd_769.2.2.2.1
theorem dX12_piece_83 : decode cX12_piece 83 = .ok (.ireturn, 1) := zd_769.2.2.2.2.1
theorem dX12_piece_84 : decode cX12_piece 84 = .ok (.aload_n 0, 1) := zd_769.2.2.2.2.2.1
theorem dX12_piece_85 : decode cX12_piece 85 = .ok (.getfield 80, 3) := zd_769.2.2.2.2.2.2.1
theorem dX12_piece_88 : decode cX12_piece 88 = .ok (.iload 4, 2) := zd_769.2.2.2.2.2.2.2
theorem zd_770 : (decode cX12_piece 90 = .ok (.iaload, 1)) ∧ (decode cX12_piece 91 = .ok (.ireturn, 1)) ∧ (decode cX12_piece 92 = .ok (.aload_n 0, 1)) ∧ (decode cX12_piece 93 = .ok (.getfield 83, 3)) ∧ (decode cX12_piece 96 = .ok (.iload 4, 2)) ∧ (decode cX12_piece 98 = .ok (.iaload, 1)) ∧ (decode cX12_piece 99 = .ok (.ireturn, 1)) ∧ (decode cX12_piece 100 = .ok (.aload_n 0, 1)) := by decide +kernel
theorem dX12_piece_90 : decode cX12_piece 90 = .ok (.iaload, 1) := zd_770.1
theorem dX12_piece_91 : decode cX12_piece 91 = .ok (.ireturn, 1) := zd_770.2.1
theorem dX12_piece_92 : decode cX12_piece 92 = .ok (.aload_n 0, 1) := zd_770.2.2.1
theorem dX12_piece_93 : decode cX12_piece 93 = .ok (.getfield 83, 3) := zd_770.2.2.2.1
theorem dX12_piece_96 : decode cX12_piece 96 = .ok (.iload 4, 2) := zd_770.2.2.2.2.1
theorem dX12_piece_98 : decode cX12_piece 98 = .ok (.iaload, 1) := zd_770.2.2.2.2.2.1
theorem dX12_piece_99 : decode cX12_piece 99 = .ok (.ireturn, 1) := zd_770.2.2.2.2.2.2.1
theorem dX12_piece_100 : decode cX12_piece 100 = .ok (.aload_n 0, 1) := zd_770.2.2.2.2.2.2.2
theorem zd_771 : (decode cX12_piece 101 = .ok (.getfield 86, 3)) ∧ (decode cX12_piece 104 = .ok (.iload 4, 2)) ∧ (decode cX12_piece 106 = .ok (.iaload, 1)) ∧ (decode cX12_piece 107 = .ok (.ireturn, 1)) ∧ (decode cX12_piece 108 = .ok (.aload_n 0, 1)) ∧ (decode cX12_piece 109 = .ok (.getfield 89, 3)) ∧ (decode cX12_piece 112 = .ok (.iload 4, 2)) ∧ (decode cX12_piece 114 = .ok (.iaload, 1)) := by decide +kernel
theorem dX12_piece_101 : decode cX12_piece 101 = .ok (.getfield 86, 3) := zd_771.1
theorem dX12_piece_104 : decode cX12_piece 104 = .ok (.iload 4, 2) := zd_771.2.1
theorem dX12_piece_106 : decode cX12_piece 106 = .ok (.iaload, 1) := zd_771.2.2.1
theorem dX12_piece_107 : decode cX12_piece 107 = .ok (.ireturn, 1) := zd_771.2.2.2.1
theorem dX12_piece_108 : decode cX12_piece 108 = .ok (.aload_n 0, 1) := zd_771.2.2.2.2.1
theorem dX12_piece_109 : decode cX12_piece 109 = .ok (.getfield 89, 3) := zd_771.2.2.2.2.2.1
theorem dX12_piece_112 : decode cX12_piece 112 = .ok (.iload 4, 2) := zd_771.2.2.2.2.2.2.1
theorem dX12_piece_114 : decode cX12_piece 114 = .ok (.iaload, 1) := zd_771.2.2.2.2.2.2.2
theorem zd_772 : (decode cX12_piece 115 = .ok (.ireturn, 1)) ∧ (decode cX12_piece 116 = .ok (.aload_n 0, 1)) ∧ (decode cX12_piece 117 = .ok (.getfield 19, 3)) ∧ (decode cX12_piece 120 = .ok (.iload_n 1, 1)) ∧ (decode cX12_piece 121 = .ok (.iaload, 1)) ∧ (decode cX12_piece 122 = .ok (.ifCond .ne 12, 3)) ∧ (decode cX12_piece 125 = .ok (.aload_n 0, 1)) ∧ (decode cX12_piece 126 = .ok (.iload_n 1, 1)) := by decide +kernel
theorem dX12_piece_115 : decode cX12_piece 115 = .ok (.ireturn, 1) := zd_772.1
theorem dX12_piece_116 : decode cX12_piece 116 = .ok (.aload_n 0, 1) := zd_772.2.1
theorem dX12_piece_117 : decode cX12_piece 117 = .ok (.getfield 19, 3) := zd_772.2.2.1
theorem dX12_piece_120 : decode cX12_piece 120 = .ok (.iload_n 1, 1) := zd_772.2.2.2.1
theorem dX12_piece_121 : decode cX12_piece 121 = .ok (.iaload, 1) := zd_772.2.2.2.2.1
theorem dX12_piece_122 : decode cX12_piece 122 = .ok (.ifCond .ne 12, 3) := zd_772.2.2.2.2.2.1
theorem dX12_piece_125 : decode cX12_piece 125 = .ok (.aload_n 0, 1) := zd_772.2.2.2.2.2.2.1
theorem dX12_piece_126 : decode cX12_piece 126 = .ok (.iload_n 1, 1) := zd_772.2.2.2.2.2.2.2
theorem zd_773 : (decode cX12_piece 127 = .ok (.iload_n 2, 1)) ∧ (decode cX12_piece 128 = .ok (.invokevirtual 199, 3)) ∧ (decode cX12_piece 131 = .ok (.goto 4, 3)) ∧ (decode cX12_piece 134 = .ok (.iconst 0, 1)) ∧ (decode cX12_piece 135 = .ok (.ireturn, 1)) ∧ (decode cX12_piece 136 = .ok (.aload_n 0, 1)) ∧ (decode cX12_piece 137 = .ok (.getfield 19, 3)) ∧ (decode cX12_piece 140 = .ok (.iload_n 1, 1)) := by decide +kernel
theorem dX12_piece_127 : decode cX12_piece 127 = .ok (.iload_n 2, 1) := zd_773.1
theorem dX12_piece_128 : decode cX12_piece 128 = .ok (.invokevirtual 199, 3) := zd_773.2.1
theorem dX12_piece_131 : decode cX12_piece 131 = .ok (.goto 4, 3) := zd_773.2.2.1
theorem dX12_piece_134 : decode cX12_piece 134 = .ok (.iconst 0, 1) := zd_773.2.2.2.1
theorem dX12_piece_135 : decode cX12_piece 135 = .ok (.ireturn, 1) := zd_773.2.2.2.2.1
theorem dX12_piece_136 : decode cX12_piece 136 = .ok (.aload_n 0, 1) := zd_773.2.2.2.2.2.1
theorem dX12_piece_137 : decode cX12_piece 137 = .ok (.getfield 19, 3) := zd_773.2.2.2.2.2.2.1
theorem dX12_piece_140 : decode cX12_piece 140 = .ok (.iload_n 1, 1) := zd_773.2.2.2.2.2.2.2
theorem zd_774 : (decode cX12_piece 141 = .ok (.iaload, 1)) ∧ (decode cX12_piece 142 = .ok (.ifCond .ne 12, 3)) ∧ (decode cX12_piece 145 = .ok (.aload_n 0, 1)) ∧ (decode cX12_piece 146 = .ok (.iload_n 1, 1)) ∧ (decode cX12_piece 147 = .ok (.iload_n 2, 1)) ∧ (decode cX12_piece 148 = .ok (.invokevirtual 186, 3)) ∧ (decode cX12_piece 151 = .ok (.goto 4, 3)) ∧ (decode cX12_piece 154 = .ok (.iconst 0, 1)) := by decide +kernel
theorem dX12_piece_141 : decode cX12_piece 141 = .ok (.iaload, 1) := zd_774.1
theorem dX12_piece_142 : decode cX12_piece 142 = .ok (.ifCond .ne 12, 3) := zd_774.2.1
theorem dX12_piece_145 : decode cX12_piece 145 = .ok (.aload_n 0, 1) := zd_774.2.2.1
theorem dX12_piece_146 : decode cX12_piece 146 = .ok (.iload_n 1, 1) := zd_774.2.2.2.1
theorem dX12_piece_147 : decode cX12_piece 147 = .ok (.iload_n 2, 1) := zd_774.2.2.2.2.1
theorem dX12_piece_148 : decode cX12_piece 148 = .ok (.invokevirtual 186, 3) := zd_774.2.2.2.2.2.1
theorem dX12_piece_151 : decode cX12_piece 151 = .ok (.goto 4, 3) := zd_774.2.2.2.2.2.2.1
theorem dX12_piece_154 : decode cX12_piece 154 = .ok (.iconst 0, 1) := zd_774.2.2.2.2.2.2.2
theorem zd_775 : (decode cX12_piece 155 = .ok (.ireturn, 1)) ∧ (decode cX12_piece 156 = .ok (.iconst (-1), 1)) ∧ (decode cX12_piece 157 = .ok (.ireturn, 1)) := by decide +kernel
theorem dX12_piece_155 : decode cX12_piece 155 = .ok (.ireturn, 1) := zd_775.1
theorem dX12_piece_156 : decode cX12_piece 156 = .ok (.iconst (-1), 1) := zd_775.2.1
theorem dX12_piece_157 : decode cX12_piece 157 = .ok (.ireturn, 1) := zd_775.2.2
theorem zd_776 : (decode cX12_item 0 = .ok (.aload_n 0, 1)) ∧ (decode cX12_item 1 = .ok (.iload_n 1, 1)) ∧ (decode cX12_item 2 = .ok (.invokevirtual 151, 3)) ∧ (decode cX12_item 5 = .ok (.ifCond .ne 5, 3)) ∧ (decode cX12_item 8 = .ok (.iconst (-1), 1)) ∧ (decode cX12_item 9 = .ok (.ireturn, 1)) ∧ (decode cX12_item 10 = .ok (.iload_n 2, 1)) ∧ (decode cX12_item 11 = .ok (.tableswitch 91 0 5 #[37, 44, 51, 58, 77, 84], 37)) := by decide +kernel
theorem dX12_item_0 : decode cX12_item 0 = .ok (.aload_n 0, 1) := zd_776.1
theorem dX12_item_1 : decode cX12_item 1 = .ok (.iload_n 1, 1) := zd_776.2.1
theorem dX12_item_2 : decode cX12_item 2 = .ok (.invokevirtual 151, 3) := zd_776.2.2.1
theorem dX12_item_5 : decode cX12_item 5 = .ok (.ifCond .ne 5, 3) := zd_776.2.2.2.1
theorem dX12_item_8 : decode cX12_item 8 = .ok (.iconst (-1), 1) := zd_776.2.2.2.2.1
theorem dX12_item_9 : decode cX12_item 9 = .ok (.ireturn, 1) := zd_776.2.2.2.2.2.1
theorem dX12_item_10 : decode cX12_item 10 = .ok (.iload_n 2, 1) := zd_776.2.2.2.2.2.2.1
theorem dX12_item_11 : decode cX12_item 11 = .ok (.tableswitch 91 0 5 #[37, 44, 51, 58, 77, 84], 37) := zd_776.2.2.2.2.2.2.2
theorem zd_777 : (decode cX12_item 48 = .ok (.aload_n 0, 1)) ∧ (decode cX12_item 49 = .ok (.getfield 19, 3)) ∧ (decode cX12_item 52 = .ok (.iload_n 1, 1)) ∧ (decode cX12_item 53 = .ok (.iaload, 1)) ∧ (decode cX12_item 54 = .ok (.ireturn, 1)) ∧ (decode cX12_item 55 = .ok (.aload_n 0, 1)) ∧ (decode cX12_item 56 = .ok (.getfield 74, 3)) ∧ (decode cX12_item 59 = .ok (.iload_n 1, 1)) := by decide +kernel
theorem dX12_item_48 : decode cX12_item 48 = .ok (.aload_n 0, 1) := zd_777.1
theorem dX12_item_49 : decode cX12_item 49 = .ok (.getfield 19, 3) := zd_777.2.1
theorem dX12_item_52 : decode cX12_item 52 = .ok (.iload_n 1, 1) := zd_777.2.2.1
theorem dX12_item_53 : decode cX12_item 53 = .ok (.iaload, 1) := zd_777.2.2.2.1
theorem dX12_item_54 : decode cX12_item 54 = .ok (.ireturn, 1) := zd_777.2.2.2.2.1
theorem dX12_item_55 : decode cX12_item 55 = .ok (.aload_n 0, 1) := zd_777.2.2.2.2.2.1
theorem dX12_item_56 : decode cX12_item 56 = .ok (.getfield 74, 3) := zd_777.2.2.2.2.2.2.1
theorem dX12_item_59 : decode cX12_item 59 = .ok (.iload_n 1, 1) := zd_777.2.2.2.2.2.2.2
theorem zd_778 : (decode cX12_item 60 = .ok (.iaload, 1)) ∧ (decode cX12_item 61 = .ok (.ireturn, 1)) ∧ (decode cX12_item 62 = .ok (.aload_n 0, 1)) ∧ (decode cX12_item 63 = .ok (.getfield 52, 3)) ∧ (decode cX12_item 66 = .ok (.iload_n 1, 1)) ∧ (decode cX12_item 67 = .ok (.iaload, 1)) ∧ (decode cX12_item 68 = .ok (.ireturn, 1)) ∧ (decode cX12_item 69 = .ok (.aload_n 0, 1)) := by decide +kernel
theorem dX12_item_60 : decode cX12_item 60 = .ok (.iaload, 1) := zd_778.1
theorem dX12_item_61 : decode cX12_item 61 = .ok (.ireturn, 1) := zd_778.2.1
theorem dX12_item_62 : decode cX12_item 62 = .ok (.aload_n 0, 1) := zd_778.2.2.1
theorem dX12_item_63 : decode cX12_item 63 = .ok (.getfield 52, 3) := zd_778.2.2.2.1
theorem dX12_item_66 : decode cX12_item 66 = .ok (.iload_n 1, 1) := zd_778.2.2.2.2.1
theorem dX12_item_67 : decode cX12_item 67 = .ok (.iaload, 1) := zd_778.2.2.2.2.2.1
theorem dX12_item_68 : decode cX12_item 68 = .ok (.ireturn, 1) := zd_778.2.2.2.2.2.2.1
theorem dX12_item_69 : decode cX12_item 69 = .ok (.aload_n 0, 1) := zd_778.2.2.2.2.2.2.2
theorem zd_779 : (decode cX12_item 70 = .ok (.getfield 19, 3)) ∧ (decode cX12_item 73 = .ok (.iload_n 1, 1)) ∧ (decode cX12_item 74 = .ok (.iaload, 1)) ∧ (decode cX12_item 75 = .ok (.ifCond .ne 11, 3)) ∧ (decode cX12_item 78 = .ok (.aload_n 0, 1)) ∧ (decode cX12_item 79 = .ok (.iload_n 1, 1)) ∧ (decode cX12_item 80 = .ok (.invokevirtual 248, 3)) ∧ (decode cX12_item 83 = .ok (.goto 4, 3)) := by decide +kernel
theorem dX12_item_70 : decode cX12_item 70 = .ok (.getfield 19, 3) := zd_779.1
theorem dX12_item_73 : decode cX12_item 73 = .ok (.iload_n 1, 1) := zd_779.2.1
theorem dX12_item_74 : decode cX12_item 74 = .ok (.iaload, 1) := zd_779.2.2.1
theorem dX12_item_75 : decode cX12_item 75 = .ok (.ifCond .ne 11, 3) := zd_779.2.2.2.1
theorem dX12_item_78 : decode cX12_item 78 = .ok (.aload_n 0, 1) := zd_779.2.2.2.2.1
theorem dX12_item_79 : decode cX12_item 79 = .ok (.iload_n 1, 1) := zd_779.2.2.2.2.2.1
theorem dX12_item_80 : decode cX12_item 80 = .ok (.invokevirtual 248, 3) := zd_779.2.2.2.2.2.2.1
theorem dX12_item_83 : decode cX12_item 83 = .ok (.goto 4, 3) := zd_779.2.2.2.2.2.2.2
theorem zd_780 : (decode cX12_item 86 = .ok (.iconst 0, 1)) ∧ (decode cX12_item 87 = .ok (.ireturn, 1)) ∧ (decode cX12_item 88 = .ok (.aload_n 0, 1)) ∧ (decode cX12_item 89 = .ok (.getfield 34, 3)) ∧ (decode cX12_item 92 = .ok (.iload_n 1, 1)) ∧ (decode cX12_item 93 = .ok (.iaload, 1)) ∧ (decode cX12_item 94 = .ok (.ireturn, 1)) ∧ (decode cX12_item 95 = .ok (.aload_n 0, 1)) := by decide +kernel
theorem dX12_item_86 : decode cX12_item 86 = .ok (.iconst 0, 1) := zd_780.1
theorem dX12_item_87 : decode cX12_item 87 = .ok (.ireturn, 1) := zd_780.2.1
theorem dX12_item_88 : decode cX12_item 88 = .ok (.aload_n 0, 1) := zd_780.2.2.1
theorem dX12_item_89 : decode cX12_item 89 = .ok (.getfield 34, 3) := zd_780.2.2.2.1
theorem dX12_item_92 : decode cX12_item 92 = .ok (.iload_n 1, 1) := zd_780.2.2.2.2.1
theorem dX12_item_93 : decode cX12_item 93 = .ok (.iaload, 1) := zd_780.2.2.2.2.2.1
theorem dX12_item_94 : decode cX12_item 94 = .ok (.ireturn, 1) := zd_780.2.2.2.2.2.2.1
theorem dX12_item_95 : decode cX12_item 95 = .ok (.aload_n 0, 1) := zd_780.2.2.2.2.2.2.2
theorem zd_781 : (decode cX12_item 96 = .ok (.getfield 37, 3)) ∧ (decode cX12_item 99 = .ok (.iload_n 1, 1)) ∧ (decode cX12_item 100 = .ok (.iaload, 1)) ∧ (decode cX12_item 101 = .ok (.ireturn, 1)) ∧ (decode cX12_item 102 = .ok (.iconst (-1), 1)) ∧ (decode cX12_item 103 = .ok (.ireturn, 1)) := by decide +kernel
theorem dX12_item_96 : decode cX12_item 96 = .ok (.getfield 37, 3) := zd_781.1
theorem dX12_item_99 : decode cX12_item 99 = .ok (.iload_n 1, 1) := zd_781.2.1
theorem dX12_item_100 : decode cX12_item 100 = .ok (.iaload, 1) := zd_781.2.2.1
theorem dX12_item_101 : decode cX12_item 101 = .ok (.ireturn, 1) := zd_781.2.2.2.1
theorem dX12_item_102 : decode cX12_item 102 = .ok (.iconst (-1), 1) := zd_781.2.2.2.2.1
theorem dX12_item_103 : decode cX12_item 103 = .ok (.ireturn, 1) := zd_781.2.2.2.2.2
theorem zd_782 : (decode cX12_shortOf 0 = .ok (.iload_n 1, 1)) ∧ (decode cX12_shortOf 1 = .ok (.invokestatic 155, 3)) ∧ (decode cX12_shortOf 4 = .ok (.ifCond .eq 13, 3)) ∧ (decode cX12_shortOf 7 = .ok (.iload_n 2, 1)) ∧ (decode cX12_shortOf 8 = .ok (.iconst 0, 1)) ∧ (decode cX12_shortOf 9 = .ok (.bipush 7, 2)) ∧ (decode cX12_shortOf 11 = .ok (.invokestatic 143, 3)) ∧ (decode cX12_shortOf 14 = .ok (.ifCond .ne 5, 3)) := by decide +kernel
theorem dX12_shortOf_0 : decode cX12_shortOf 0 = .ok (.iload_n 1, 1) := zd_782.1
theorem dX12_shortOf_1 : decode cX12_shortOf 1 = .ok (.invokestatic 155, 3) := zd_782.2.1
theorem dX12_shortOf_4 : decode cX12_shortOf 4 = .ok (.ifCond .eq 13, 3) := zd_782.2.2.1
theorem dX12_shortOf_7 : decode cX12_shortOf 7 = .ok (.iload_n 2, 1) := zd_782.2.2.2.1
theorem dX12_shortOf_8 : decode cX12_shortOf 8 = .ok (.iconst 0, 1) := zd_782.2.2.2.2.1
theorem dX12_shortOf_9 : decode cX12_shortOf 9 = .ok (.bipush 7, 2) := zd_782.2.2.2.2.2.1
theorem dX12_shortOf_11 : decode cX12_shortOf 11 = .ok (.invokestatic 143, 3) := zd_782.2.2.2.2.2.2.1
theorem dX12_shortOf_14 : decode cX12_shortOf 14 = .ok (.ifCond .ne 5, 3) := zd_782.2.2.2.2.2.2.2
theorem zd_783 : (decode cX12_shortOf 17 = .ok (.iconst (-1), 1)) ∧ (decode cX12_shortOf 18 = .ok (.ireturn, 1)) ∧ (decode cX12_shortOf 19 = .ok (.iconst 0, 1)) ∧ (decode cX12_shortOf 20 = .ok (.istore_n 3, 1)) ∧ (decode cX12_shortOf 21 = .ok (.iconst 0, 1)) ∧ (decode cX12_shortOf 22 = .ok (.istore 4, 2)) ∧ (decode cX12_shortOf 24 = .ok (.iload 4, 2)) ∧ (decode cX12_shortOf 26 = .ok (.aload_n 0, 1)) := by decide +kernel
theorem dX12_shortOf_17 : decode cX12_shortOf 17 = .ok (.iconst (-1), 1) := zd_783.1
theorem dX12_shortOf_18 : decode cX12_shortOf 18 = .ok (.ireturn, 1) := zd_783.2.1
theorem dX12_shortOf_19 : decode cX12_shortOf 19 = .ok (.iconst 0, 1) := zd_783.2.2.1
theorem dX12_shortOf_20 : decode cX12_shortOf 20 = .ok (.istore_n 3, 1) := zd_783.2.2.2.1
theorem dX12_shortOf_21 : decode cX12_shortOf 21 = .ok (.iconst 0, 1) := zd_783.2.2.2.2.1
theorem dX12_shortOf_22 : decode cX12_shortOf 22 = .ok (.istore 4, 2) := zd_783.2.2.2.2.2.1
theorem dX12_shortOf_24 : decode cX12_shortOf 24 = .ok (.iload 4, 2) := zd_783.2.2.2.2.2.2.1
theorem dX12_shortOf_26 : decode cX12_shortOf 26 = .ok (.aload_n 0, 1) := zd_783.2.2.2.2.2.2.2
theorem zd_784 : (decode cX12_shortOf 27 = .ok (.getfield 7, 3)) ∧ (decode cX12_shortOf 30 = .ok (.bipush 8, 2)) ∧ (decode cX12_shortOf 32 = .ok (.iload_n 1, 1)) ∧ (decode cX12_shortOf 33 = .ok (.imul, 1)) ∧ (decode cX12_shortOf 34 = .ok (.iload_n 2, 1)) ∧ (decode cX12_shortOf 35 = .ok (.iadd, 1)) ∧ (decode cX12_shortOf 36 = .ok (.iaload, 1)) ∧ (decode cX12_shortOf 37 = .ok (.if_icmp .ge 34, 3)) := by decide +kernel
theorem dX12_shortOf_27 : decode cX12_shortOf 27 = .ok (.getfield 7, 3) := zd_784.1
theorem dX12_shortOf_30 : decode cX12_shortOf 30 = .ok (.bipush 8, 2) := zd_784.2.1
theorem dX12_shortOf_32 : decode cX12_shortOf 32 = .ok (.iload_n 1, 1) := zd_784.2.2.1
theorem dX12_shortOf_33 : decode cX12_shortOf 33 = .ok (.imul, 1) := zd_784.2.2.2.1
theorem dX12_shortOf_34 : decode cX12_shortOf 34 = .ok (.iload_n 2, 1) := zd_784.2.2.2.2.1
theorem dX12_shortOf_35 : decode cX12_shortOf 35 = .ok (.iadd, 1) := zd_784.2.2.2.2.2.1
theorem dX12_shortOf_36 : decode cX12_shortOf 36 = .ok (.iaload, 1) := zd_784.2.2.2.2.2.2.1
theorem dX12_shortOf_37 : decode cX12_shortOf 37 = .ok (.if_icmp .ge 34, 3) := zd_784.2.2.2.2.2.2.2
theorem zd_785 : (decode cX12_shortOf 40 = .ok (.iload_n 3, 1)) ∧ (decode cX12_shortOf 41 = .ok (.aload_n 0, 1)) ∧ (decode cX12_shortOf 42 = .ok (.getfield 16, 3)) ∧ (decode cX12_shortOf 45 = .ok (.iload_n 1, 1)) ∧ (decode cX12_shortOf 46 = .ok (.iload_n 2, 1)) ∧ (decode cX12_shortOf 47 = .ok (.iload 4, 2)) ∧ (decode cX12_shortOf 49 = .ok (.invokestatic 161, 3)) ∧ (decode cX12_shortOf 52 = .ok (.iaload, 1)) := by decide +kernel
theorem dX12_shortOf_40 : decode cX12_shortOf 40 = .ok (.iload_n 3, 1) := zd_785.1
theorem dX12_shortOf_41 : decode cX12_shortOf 41 = .ok (.aload_n 0, 1) := zd_785.2.1
theorem dX12_shortOf_42 : decode cX12_shortOf 42 = .ok (.getfield 16, 3) := zd_785.2.2.1
theorem dX12_shortOf_45 : decode cX12_shortOf 45 = .ok (.iload_n 1, 1) := zd_785.2.2.2.1
theorem dX12_shortOf_46 : decode cX12_shortOf 46 = .ok (.iload_n 2, 1) := zd_785.2.2.2.2.1
theorem dX12_shortOf_47 : decode cX12_shortOf 47 = .ok (.iload 4, 2) := zd_785.2.2.2.2.2.1
theorem dX12_shortOf_49 : decode cX12_shortOf 49 = .ok (.invokestatic 161, 3) := zd_785.2.2.2.2.2.2.1
theorem dX12_shortOf_52 : decode cX12_shortOf 52 = .ok (.iaload, 1) := zd_785.2.2.2.2.2.2.2
theorem zd_786 : (decode cX12_shortOf 53 = .ok (.bipush (-2), 2)) ∧ (decode cX12_shortOf 55 = .ok (.if_icmp .ne 7, 3)) ∧ (decode cX12_shortOf 58 = .ok (.iconst 1, 1)) ∧ (decode cX12_shortOf 59 = .ok (.goto 4, 3)) ∧ (decode cX12_shortOf 62 = .ok (.iconst 0, 1)) ∧ (decode cX12_shortOf 63 = .ok (.iadd, 1)) ∧ (decode cX12_shortOf 64 = .ok (.istore_n 3, 1)) ∧ (decode cX12_shortOf 65 = .ok (.iinc 4 1, 3)) := by decide +kernel
theorem dX12_shortOf_53 : decode cX12_shortOf 53 = .ok (.bipush (-2), 2) := zd_786.1
theorem dX12_shortOf_55 : decode cX12_shortOf 55 = .ok (.if_icmp .ne 7, 3) := zd_786.2.1
theorem dX12_shortOf_58 : decode cX12_shortOf 58 = .ok (.iconst 1, 1) := zd_786.2.2.1
theorem dX12_shortOf_59 : decode cX12_shortOf 59 = .ok (.goto 4, 3) := zd_786.2.2.2.1
theorem dX12_shortOf_62 : decode cX12_shortOf 62 = .ok (.iconst 0, 1) := zd_786.2.2.2.2.1
theorem dX12_shortOf_63 : decode cX12_shortOf 63 = .ok (.iadd, 1) := zd_786.2.2.2.2.2.1
theorem dX12_shortOf_64 : decode cX12_shortOf 64 = .ok (.istore_n 3, 1) := zd_786.2.2.2.2.2.2.1
theorem dX12_shortOf_65 : decode cX12_shortOf 65 = .ok (.iinc 4 1, 3) := zd_786.2.2.2.2.2.2.2
theorem zd_787 : (decode cX12_shortOf 68 = .ok (.goto (-44), 3)) ∧ (decode cX12_shortOf 71 = .ok (.iload_n 3, 1)) ∧ (decode cX12_shortOf 72 = .ok (.ireturn, 1)) := by decide +kernel
theorem dX12_shortOf_68 : decode cX12_shortOf 68 = .ok (.goto (-44), 3) := zd_787.1
theorem dX12_shortOf_71 : decode cX12_shortOf 71 = .ok (.iload_n 3, 1) := zd_787.2.1
theorem dX12_shortOf_72 : decode cX12_shortOf 72 = .ok (.ireturn, 1) := zd_787.2.2
theorem zd_788 : (decode cX12_printed 0 = .ok (.aload_n 0, 1)) ∧ (decode cX12_printed 1 = .ok (.iload_n 1, 1)) ∧ (decode cX12_printed 2 = .ok (.invokevirtual 151, 3)) ∧ (decode cX12_printed 5 = .ok (.ifCond .eq 12, 3)) ∧ (decode cX12_printed 8 = .ok (.iload_n 2, 1)) ∧ (decode cX12_printed 9 = .ok (.iconst 0, 1)) ∧ (decode cX12_printed 10 = .ok (.iconst 4, 1)) ∧ (decode cX12_printed 11 = .ok (.invokestatic 143, 3)) := by decide +kernel
theorem dX12_printed_0 : decode cX12_printed 0 = .ok (.aload_n 0, 1) := zd_788.1
theorem dX12_printed_1 : decode cX12_printed 1 = .ok (.iload_n 1, 1) := zd_788.2.1
theorem dX12_printed_2 : decode cX12_printed 2 = .ok (.invokevirtual 151, 3) := zd_788.2.2.1
theorem dX12_printed_5 : decode cX12_printed 5 = .ok (.ifCond .eq 12, 3) := zd_788.2.2.2.1
theorem dX12_printed_8 : decode cX12_printed 8 = .ok (.iload_n 2, 1) := zd_788.2.2.2.2.1
theorem dX12_printed_9 : decode cX12_printed 9 = .ok (.iconst 0, 1) := zd_788.2.2.2.2.2.1
theorem dX12_printed_10 : decode cX12_printed 10 = .ok (.iconst 4, 1) := zd_788.2.2.2.2.2.2.1
theorem dX12_printed_11 : decode cX12_printed 11 = .ok (.invokestatic 143, 3) := zd_788.2.2.2.2.2.2.2
theorem zd_789 : (decode cX12_printed 14 = .ok (.ifCond .ne 5, 3)) ∧ (decode cX12_printed 17 = .ok (.iconst (-1), 1)) ∧ (decode cX12_printed 18 = .ok (.ireturn, 1)) ∧ (decode cX12_printed 19 = .ok (.aload_n 0, 1)) ∧ (decode cX12_printed 20 = .ok (.getfield 137, 3)) ∧ (decode cX12_printed 23 = .ok (.iconst 5, 1)) ∧ (decode cX12_printed 24 = .ok (.iload_n 1, 1)) ∧ (decode cX12_printed 25 = .ok (.imul, 1)) := by decide +kernel
theorem dX12_printed_14 : decode cX12_printed 14 = .ok (.ifCond .ne 5, 3) := zd_789.1
theorem dX12_printed_17 : decode cX12_printed 17 = .ok (.iconst (-1), 1) := zd_789.2.1
theorem dX12_printed_18 : decode cX12_printed 18 = .ok (.ireturn, 1) := zd_789.2.2.1
theorem dX12_printed_19 : decode cX12_printed 19 = .ok (.aload_n 0, 1) := zd_789.2.2.2.1
theorem dX12_printed_20 : decode cX12_printed 20 = .ok (.getfield 137, 3) := zd_789.2.2.2.2.1
theorem dX12_printed_23 : decode cX12_printed 23 = .ok (.iconst 5, 1) := zd_789.2.2.2.2.2.1
theorem dX12_printed_24 : decode cX12_printed 24 = .ok (.iload_n 1, 1) := zd_789.2.2.2.2.2.2.1
theorem dX12_printed_25 : decode cX12_printed 25 = .ok (.imul, 1) := zd_789.2.2.2.2.2.2.2
theorem zd_790 : (decode cX12_printed 26 = .ok (.iaload, 1)) ∧ (decode cX12_printed 27 = .ok (.ifCond .lt 14, 3)) ∧ (decode cX12_printed 30 = .ok (.aload_n 0, 1)) ∧ (decode cX12_printed 31 = .ok (.getfield 137, 3)) ∧ (decode cX12_printed 34 = .ok (.iconst 5, 1)) ∧ (decode cX12_printed 35 = .ok (.iload_n 1, 1)) ∧ (decode cX12_printed 36 = .ok (.imul, 1)) ∧ (decode cX12_printed 37 = .ok (.iload_n 2, 1)) := by decide +kernel
theorem dX12_printed_26 : decode cX12_printed 26 = .ok (.iaload, 1) := zd_790.1
theorem dX12_printed_27 : decode cX12_printed 27 = .ok (.ifCond .lt 14, 3) := zd_790.2.1
theorem dX12_printed_30 : decode cX12_printed 30 = .ok (.aload_n 0, 1) := zd_790.2.2.1
theorem dX12_printed_31 : decode cX12_printed 31 = .ok (.getfield 137, 3) := zd_790.2.2.2.1
theorem dX12_printed_34 : decode cX12_printed 34 = .ok (.iconst 5, 1) := zd_790.2.2.2.2.1
theorem dX12_printed_35 : decode cX12_printed 35 = .ok (.iload_n 1, 1) := zd_790.2.2.2.2.2.1
theorem dX12_printed_36 : decode cX12_printed 36 = .ok (.imul, 1) := zd_790.2.2.2.2.2.2.1
theorem dX12_printed_37 : decode cX12_printed 37 = .ok (.iload_n 2, 1) := zd_790.2.2.2.2.2.2.2
theorem zd_791 : (decode cX12_printed 38 = .ok (.iadd, 1)) ∧ (decode cX12_printed 39 = .ok (.iaload, 1)) ∧ (decode cX12_printed 40 = .ok (.ireturn, 1)) ∧ (decode cX12_printed 41 = .ok (.iconst 0, 1)) ∧ (decode cX12_printed 42 = .ok (.istore_n 3, 1)) ∧ (decode cX12_printed 43 = .ok (.iload_n 3, 1)) ∧ (decode cX12_printed 44 = .ok (.bipush 12, 2)) ∧ (decode cX12_printed 46 = .ok (.if_icmp .ge 94, 3)) := by decide +kernel
theorem dX12_printed_38 : decode cX12_printed 38 = .ok (.iadd, 1) := zd_791.1
theorem dX12_printed_39 : decode cX12_printed 39 = .ok (.iaload, 1) := zd_791.2.1
theorem dX12_printed_40 : decode cX12_printed 40 = .ok (.ireturn, 1) := zd_791.2.2.1
theorem dX12_printed_41 : decode cX12_printed 41 = .ok (.iconst 0, 1) := zd_791.2.2.2.1
theorem dX12_printed_42 : decode cX12_printed 42 = .ok (.istore_n 3, 1) := zd_791.2.2.2.2.1
theorem dX12_printed_43 : decode cX12_printed 43 = .ok (.iload_n 3, 1) := zd_791.2.2.2.2.2.1
theorem dX12_printed_44 : decode cX12_printed 44 = .ok (.bipush 12, 2) := zd_791.2.2.2.2.2.2.1
theorem dX12_printed_46 : decode cX12_printed 46 = .ok (.if_icmp .ge 94, 3) := zd_791.2.2.2.2.2.2.2
theorem zd_792 : (decode cX12_printed 49 = .ok (.aload_n 0, 1)) ∧ (decode cX12_printed 50 = .ok (.iload_n 3, 1)) ∧ (decode cX12_printed 51 = .ok (.invokevirtual 260, 3)) ∧ (decode cX12_printed 54 = .ok (.ifCond .eq 80, 3)) ∧ (decode cX12_printed 57 = .ok (.aload_n 0, 1)) ∧ (decode cX12_printed 58 = .ok (.getfield 131, 3)) ∧ (decode cX12_printed 61 = .ok (.bipush 80, 2)) ∧ (decode cX12_printed 63 = .ok (.iload_n 3, 1)) := by decide +kernel
theorem dX12_printed_49 : decode cX12_printed 49 = .ok (.aload_n 0, 1) := zd_792.1
theorem dX12_printed_50 : decode cX12_printed 50 = .ok (.iload_n 3, 1) := zd_792.2.1
theorem dX12_printed_51 : decode cX12_printed 51 = .ok (.invokevirtual 260, 3) := zd_792.2.2.1
theorem dX12_printed_54 : decode cX12_printed 54 = .ok (.ifCond .eq 80, 3) := zd_792.2.2.2.1
theorem dX12_printed_57 : decode cX12_printed 57 = .ok (.aload_n 0, 1) := zd_792.2.2.2.2.1
theorem dX12_printed_58 : decode cX12_printed 58 = .ok (.getfield 131, 3) := zd_792.2.2.2.2.2.1
theorem dX12_printed_61 : decode cX12_printed 61 = .ok (.bipush 80, 2) := zd_792.2.2.2.2.2.2.1
theorem dX12_printed_63 : decode cX12_printed 63 = .ok (.iload_n 3, 1) := zd_792.2.2.2.2.2.2.2
theorem zd_793 : (decode cX12_printed 64 = .ok (.imul, 1)) ∧ (decode cX12_printed 65 = .ok (.iload_n 1, 1)) ∧ (decode cX12_printed 66 = .ok (.iadd, 1)) ∧ (decode cX12_printed 67 = .ok (.iaload, 1)) ∧ (decode cX12_printed 68 = .ok (.ifCond .lt 66, 3)) ∧ (decode cX12_printed 71 = .ok (.iload_n 2, 1)) ∧ (decode cX12_printed 72 = .ok (.ifCond .ne 10, 3)) ∧ (decode cX12_printed 75 = .ok (.aload_n 0, 1)) := by decide +kernel
theorem dX12_printed_64 : decode cX12_printed 64 = .ok (.imul, 1) := zd_793.1
theorem dX12_printed_65 : decode cX12_printed 65 = .ok (.iload_n 1, 1) := zd_793.2.1
theorem dX12_printed_66 : decode cX12_printed 66 = .ok (.iadd, 1) := zd_793.2.2.1
theorem dX12_printed_67 : decode cX12_printed 67 = .ok (.iaload, 1) := zd_793.2.2.2.1
theorem dX12_printed_68 : decode cX12_printed 68 = .ok (.ifCond .lt 66, 3) := zd_793.2.2.2.2.1
theorem dX12_printed_71 : decode cX12_printed 71 = .ok (.iload_n 2, 1) := zd_793.2.2.2.2.2.1
theorem dX12_printed_72 : decode cX12_printed 72 = .ok (.ifCond .ne 10, 3) := zd_793.2.2.2.2.2.2.1
theorem dX12_printed_75 : decode cX12_printed 75 = .ok (.aload_n 0, 1) := zd_793.2.2.2.2.2.2.2
theorem zd_794 : (decode cX12_printed 76 = .ok (.getfield 206, 3)) ∧ (decode cX12_printed 79 = .ok (.goto 54, 3)) ∧ (decode cX12_printed 82 = .ok (.iload_n 2, 1)) ∧ (decode cX12_printed 83 = .ok (.iconst 1, 1)) ∧ (decode cX12_printed 84 = .ok (.if_icmp .ne 10, 3)) ∧ (decode cX12_printed 87 = .ok (.aload_n 0, 1)) ∧ (decode cX12_printed 88 = .ok (.getfield 257, 3)) ∧ (decode cX12_printed 91 = .ok (.goto 42, 3)) := by decide +kernel
theorem dX12_printed_76 : decode cX12_printed 76 = .ok (.getfield 206, 3) := zd_794.1
theorem dX12_printed_79 : decode cX12_printed 79 = .ok (.goto 54, 3) := zd_794.2.1
theorem dX12_printed_82 : decode cX12_printed 82 = .ok (.iload_n 2, 1) := zd_794.2.2.1
theorem dX12_printed_83 : decode cX12_printed 83 = .ok (.iconst 1, 1) := zd_794.2.2.2.1
theorem dX12_printed_84 : decode cX12_printed 84 = .ok (.if_icmp .ne 10, 3) := zd_794.2.2.2.2.1
theorem dX12_printed_87 : decode cX12_printed 87 = .ok (.aload_n 0, 1) := zd_794.2.2.2.2.2.1
theorem dX12_printed_88 : decode cX12_printed 88 = .ok (.getfield 257, 3) := zd_794.2.2.2.2.2.2.1
theorem dX12_printed_91 : decode cX12_printed 91 = .ok (.goto 42, 3) := zd_794.2.2.2.2.2.2.2
theorem zd_795 : (decode cX12_printed 94 = .ok (.iload_n 2, 1)) ∧ (decode cX12_printed 95 = .ok (.iconst 2, 1)) ∧ (decode cX12_printed 96 = .ok (.if_icmp .ne 7, 3)) ∧ (decode cX12_printed 99 = .ok (.iload_n 3, 1)) ∧ (decode cX12_printed 100 = .ok (.goto 33, 3)) ∧ (decode cX12_printed 103 = .ok (.iload_n 2, 1)) ∧ (decode cX12_printed 104 = .ok (.iconst 3, 1)) ∧ (decode cX12_printed 105 = .ok (.if_icmp .ne 17, 3)) := by decide +kernel
theorem dX12_printed_94 : decode cX12_printed 94 = .ok (.iload_n 2, 1) := zd_795.1
theorem dX12_printed_95 : decode cX12_printed 95 = .ok (.iconst 2, 1) := zd_795.2.1
theorem dX12_printed_96 : decode cX12_printed 96 = .ok (.if_icmp .ne 7, 3) := zd_795.2.2.1
theorem dX12_printed_99 : decode cX12_printed 99 = .ok (.iload_n 3, 1) := zd_795.2.2.2.1
theorem dX12_printed_100 : decode cX12_printed 100 = .ok (.goto 33, 3) := zd_795.2.2.2.2.1
theorem dX12_printed_103 : decode cX12_printed 103 = .ok (.iload_n 2, 1) := zd_795.2.2.2.2.2.1
theorem dX12_printed_104 : decode cX12_printed 104 = .ok (.iconst 3, 1) := zd_795.2.2.2.2.2.2.1
theorem dX12_printed_105 : decode cX12_printed 105 = .ok (.if_icmp .ne 17, 3) := zd_795.2.2.2.2.2.2.2
theorem zd_796 : (decode cX12_printed 108 = .ok (.aload_n 0, 1)) ∧ (decode cX12_printed 109 = .ok (.getfield 131, 3)) ∧ (decode cX12_printed 112 = .ok (.bipush 80, 2)) ∧ (decode cX12_printed 114 = .ok (.iload_n 3, 1)) ∧ (decode cX12_printed 115 = .ok (.imul, 1)) ∧ (decode cX12_printed 116 = .ok (.iload_n 1, 1)) ∧ (decode cX12_printed 117 = .ok (.iadd, 1)) ∧ (decode cX12_printed 118 = .ok (.iaload, 1)) := by decide +kernel
theorem dX12_printed_108 : decode cX12_printed 108 = .ok (.aload_n 0, 1) := zd_796.1
theorem dX12_printed_109 : decode cX12_printed 109 = .ok (.getfield 131, 3) := zd_796.2.1
theorem dX12_printed_112 : decode cX12_printed 112 = .ok (.bipush 80, 2) := zd_796.2.2.1
theorem dX12_printed_114 : decode cX12_printed 114 = .ok (.iload_n 3, 1) := zd_796.2.2.2.1
theorem dX12_printed_115 : decode cX12_printed 115 = .ok (.imul, 1) := zd_796.2.2.2.2.1
theorem dX12_printed_116 : decode cX12_printed 116 = .ok (.iload_n 1, 1) := zd_796.2.2.2.2.2.1
theorem dX12_printed_117 : decode cX12_printed 117 = .ok (.iadd, 1) := zd_796.2.2.2.2.2.2.1
theorem dX12_printed_118 : decode cX12_printed 118 = .ok (.iaload, 1) := zd_796.2.2.2.2.2.2.2
theorem zd_797 : (decode cX12_printed 119 = .ok (.goto 14, 3)) ∧ (decode cX12_printed 122 = .ok (.aload_n 0, 1)) ∧ (decode cX12_printed 123 = .ok (.getfield 134, 3)) ∧ (decode cX12_printed 126 = .ok (.bipush 80, 2)) ∧ (decode cX12_printed 128 = .ok (.iload_n 3, 1)) ∧ (decode cX12_printed 129 = .ok (.imul, 1)) ∧ (decode cX12_printed 130 = .ok (.iload_n 1, 1)) ∧ (decode cX12_printed 131 = .ok (.iadd, 1)) := by decide +kernel
theorem dX12_printed_119 : decode cX12_printed 119 = .ok (.goto 14, 3) := zd_797.1
theorem dX12_printed_122 : decode cX12_printed 122 = .ok (.aload_n 0, 1) := zd_797.2.1
theorem dX12_printed_123 : decode cX12_printed 123 = .ok (.getfield 134, 3) := zd_797.2.2.1
theorem dX12_printed_126 : decode cX12_printed 126 = .ok (.bipush 80, 2) := zd_797.2.2.2.1
theorem dX12_printed_128 : decode cX12_printed 128 = .ok (.iload_n 3, 1) := zd_797.2.2.2.2.1
theorem dX12_printed_129 : decode cX12_printed 129 = .ok (.imul, 1) := zd_797.2.2.2.2.2.1
theorem dX12_printed_130 : decode cX12_printed 130 = .ok (.iload_n 1, 1) := zd_797.2.2.2.2.2.2.1
theorem dX12_printed_131 : decode cX12_printed 131 = .ok (.iadd, 1) := zd_797.2.2.2.2.2.2.2
theorem zd_798 : (decode cX12_printed 132 = .ok (.iaload, 1)) ∧ (decode cX12_printed 133 = .ok (.ireturn, 1)) ∧ (decode cX12_printed 134 = .ok (.iinc 3 1, 3)) ∧ (decode cX12_printed 137 = .ok (.goto (-94), 3)) ∧ (decode cX12_printed 140 = .ok (.iconst (-1), 1)) ∧ (decode cX12_printed 141 = .ok (.ireturn, 1)) := by decide +kernel
theorem dX12_printed_132 : decode cX12_printed 132 = .ok (.iaload, 1) := zd_798.1
theorem dX12_printed_133 : decode cX12_printed 133 = .ok (.ireturn, 1) := zd_798.2.1
theorem dX12_printed_134 : decode cX12_printed 134 = .ok (.iinc 3 1, 3) := zd_798.2.2.1
theorem dX12_printed_137 : decode cX12_printed 137 = .ok (.goto (-94), 3) := zd_798.2.2.2.1
theorem dX12_printed_140 : decode cX12_printed 140 = .ok (.iconst (-1), 1) := zd_798.2.2.2.2.1
theorem dX12_printed_141 : decode cX12_printed 141 = .ok (.ireturn, 1) := zd_798.2.2.2.2.2
theorem zd_799 : (decode cX12_plated 0 = .ok (.iload_n 1, 1)) ∧ (decode cX12_plated 1 = .ok (.invokestatic 155, 3)) ∧ (decode cX12_plated 4 = .ok (.ifCond .eq 57, 3)) ∧ (decode cX12_plated 7 = .ok (.aload_n 0, 1)) ∧ (decode cX12_plated 8 = .ok (.getfield 116, 3)) ∧ (decode cX12_plated 11 = .ok (.iload_n 1, 1)) ∧ (decode cX12_plated 12 = .ok (.baload, 1)) ∧ (decode cX12_plated 13 = .ok (.ifCond .eq 48, 3)) := by decide +kernel
theorem dX12_plated_0 : decode cX12_plated 0 = .ok (.iload_n 1, 1) := zd_799.1
theorem dX12_plated_1 : decode cX12_plated 1 = .ok (.invokestatic 155, 3) := zd_799.2.1
theorem dX12_plated_4 : decode cX12_plated 4 = .ok (.ifCond .eq 57, 3) := zd_799.2.2.1
theorem dX12_plated_7 : decode cX12_plated 7 = .ok (.aload_n 0, 1) := zd_799.2.2.2.1
theorem dX12_plated_8 : decode cX12_plated 8 = .ok (.getfield 116, 3) := zd_799.2.2.2.2.1
theorem dX12_plated_11 : decode cX12_plated 11 = .ok (.iload_n 1, 1) := zd_799.2.2.2.2.2.1
theorem dX12_plated_12 : decode cX12_plated 12 = .ok (.baload, 1) := zd_799.2.2.2.2.2.2.1
theorem dX12_plated_13 : decode cX12_plated 13 = .ok (.ifCond .eq 48, 3) := zd_799.2.2.2.2.2.2.2
theorem zd_800 : (decode cX12_plated 16 = .ok (.iload_n 2, 1)) ∧ (decode cX12_plated 17 = .ok (.iconst 0, 1)) ∧ (decode cX12_plated 18 = .ok (.bipush 7, 2)) ∧ (decode cX12_plated 20 = .ok (.invokestatic 143, 3)) ∧ (decode cX12_plated 23 = .ok (.ifCond .eq 38, 3)) ∧ (decode cX12_plated 26 = .ok (.iload_n 3, 1)) ∧ (decode cX12_plated 27 = .ok (.iconst 0, 1)) ∧ (decode cX12_plated 28 = .ok (.aload_n 0, 1)) := by decide +kernel
theorem dX12_plated_16 : decode cX12_plated 16 = .ok (.iload_n 2, 1) := zd_800.1
theorem dX12_plated_17 : decode cX12_plated 17 = .ok (.iconst 0, 1) := zd_800.2.1
theorem dX12_plated_18 : decode cX12_plated 18 = .ok (.bipush 7, 2) := zd_800.2.2.1
theorem dX12_plated_20 : decode cX12_plated 20 = .ok (.invokestatic 143, 3) := zd_800.2.2.2.1
theorem dX12_plated_23 : decode cX12_plated 23 = .ok (.ifCond .eq 38, 3) := zd_800.2.2.2.2.1
theorem dX12_plated_26 : decode cX12_plated 26 = .ok (.iload_n 3, 1) := zd_800.2.2.2.2.2.1
theorem dX12_plated_27 : decode cX12_plated 27 = .ok (.iconst 0, 1) := zd_800.2.2.2.2.2.2.1
theorem dX12_plated_28 : decode cX12_plated 28 = .ok (.aload_n 0, 1) := zd_800.2.2.2.2.2.2.2
theorem zd_801 : (decode cX12_plated 29 = .ok (.getfield 125, 3)) ∧ (decode cX12_plated 32 = .ok (.bipush 8, 2)) ∧ (decode cX12_plated 34 = .ok (.iload_n 1, 1)) ∧ (decode cX12_plated 35 = .ok (.imul, 1)) ∧ (decode cX12_plated 36 = .ok (.iload_n 2, 1)) ∧ (decode cX12_plated 37 = .ok (.iadd, 1)) ∧ (decode cX12_plated 38 = .ok (.iaload, 1)) ∧ (decode cX12_plated 39 = .ok (.iconst 1, 1)) := by decide +kernel
theorem dX12_plated_29 : decode cX12_plated 29 = .ok (.getfield 125, 3) := zd_801.1
theorem dX12_plated_32 : decode cX12_plated 32 = .ok (.bipush 8, 2) := zd_801.2.1
theorem dX12_plated_34 : decode cX12_plated 34 = .ok (.iload_n 1, 1) := zd_801.2.2.1
theorem dX12_plated_35 : decode cX12_plated 35 = .ok (.imul, 1) := zd_801.2.2.2.1
theorem dX12_plated_36 : decode cX12_plated 36 = .ok (.iload_n 2, 1) := zd_801.2.2.2.2.1
theorem dX12_plated_37 : decode cX12_plated 37 = .ok (.iadd, 1) := zd_801.2.2.2.2.2.1
theorem dX12_plated_38 : decode cX12_plated 38 = .ok (.iaload, 1) := zd_801.2.2.2.2.2.2.1
theorem dX12_plated_39 : decode cX12_plated 39 = .ok (.iconst 1, 1) := zd_801.2.2.2.2.2.2.2
theorem zd_802 : (decode cX12_plated 40 = .ok (.isub, 1)) ∧ (decode cX12_plated 41 = .ok (.invokestatic 143, 3)) ∧ (decode cX12_plated 44 = .ok (.ifCond .eq 17, 3)) ∧ (decode cX12_plated 47 = .ok (.aload_n 0, 1)) ∧ (decode cX12_plated 48 = .ok (.getfield 128, 3)) ∧ (decode cX12_plated 51 = .ok (.iload_n 1, 1)) ∧ (decode cX12_plated 52 = .ok (.iload_n 2, 1)) ∧ (decode cX12_plated 53 = .ok (.iload_n 3, 1)) := by decide +kernel
theorem dX12_plated_40 : decode cX12_plated 40 = .ok (.isub, 1) := zd_802.1
theorem dX12_plated_41 : decode cX12_plated 41 = .ok (.invokestatic 143, 3) := zd_802.2.1
theorem dX12_plated_44 : decode cX12_plated 44 = .ok (.ifCond .eq 17, 3) := zd_802.2.2.1
theorem dX12_plated_47 : decode cX12_plated 47 = .ok (.aload_n 0, 1) := zd_802.2.2.2.1
theorem dX12_plated_48 : decode cX12_plated 48 = .ok (.getfield 128, 3) := zd_802.2.2.2.2.1
theorem dX12_plated_51 : decode cX12_plated 51 = .ok (.iload_n 1, 1) := zd_802.2.2.2.2.2.1
theorem dX12_plated_52 : decode cX12_plated 52 = .ok (.iload_n 2, 1) := zd_802.2.2.2.2.2.2.1
theorem dX12_plated_53 : decode cX12_plated 53 = .ok (.iload_n 3, 1) := zd_802.2.2.2.2.2.2.2
theorem zd_803 : (decode cX12_plated 54 = .ok (.invokestatic 161, 3)) ∧ (decode cX12_plated 57 = .ok (.iaload, 1)) ∧ (decode cX12_plated 58 = .ok (.goto 4, 3)) ∧ (decode cX12_plated 61 = .ok (.iconst (-1), 1)) ∧ (decode cX12_plated 62 = .ok (.ireturn, 1)) := by decide +kernel
theorem dX12_plated_54 : decode cX12_plated 54 = .ok (.invokestatic 161, 3) := zd_803.1
theorem dX12_plated_57 : decode cX12_plated 57 = .ok (.iaload, 1) := zd_803.2.1
theorem dX12_plated_58 : decode cX12_plated 58 = .ok (.goto 4, 3) := zd_803.2.2.1
theorem dX12_plated_61 : decode cX12_plated 61 = .ok (.iconst (-1), 1) := zd_803.2.2.2.1
theorem dX12_plated_62 : decode cX12_plated 62 = .ok (.ireturn, 1) := zd_803.2.2.2.2
theorem zd_804 : (decode cX12_plateOf 0 = .ok (.iload_n 1, 1)) ∧ (decode cX12_plateOf 1 = .ok (.invokestatic 155, 3)) ∧ (decode cX12_plateOf 4 = .ok (.ifCond .eq 12, 3)) ∧ (decode cX12_plateOf 7 = .ok (.aload_n 0, 1)) ∧ (decode cX12_plateOf 8 = .ok (.getfield 116, 3)) ∧ (decode cX12_plateOf 11 = .ok (.iload_n 1, 1)) ∧ (decode cX12_plateOf 12 = .ok (.baload, 1)) ∧ (decode cX12_plateOf 13 = .ok (.ifCond .ne 5, 3)) := by decide +kernel
theorem dX12_plateOf_0 : decode cX12_plateOf 0 = .ok (.iload_n 1, 1) := zd_804.1
theorem dX12_plateOf_1 : decode cX12_plateOf 1 = .ok (.invokestatic 155, 3) := zd_804.2.1
theorem dX12_plateOf_4 : decode cX12_plateOf 4 = .ok (.ifCond .eq 12, 3) := zd_804.2.2.1
theorem dX12_plateOf_7 : decode cX12_plateOf 7 = .ok (.aload_n 0, 1) := zd_804.2.2.2.1
theorem dX12_plateOf_8 : decode cX12_plateOf 8 = .ok (.getfield 116, 3) := zd_804.2.2.2.2.1
theorem dX12_plateOf_11 : decode cX12_plateOf 11 = .ok (.iload_n 1, 1) := zd_804.2.2.2.2.2.1
theorem dX12_plateOf_12 : decode cX12_plateOf 12 = .ok (.baload, 1) := zd_804.2.2.2.2.2.2.1
theorem dX12_plateOf_13 : decode cX12_plateOf 13 = .ok (.ifCond .ne 5, 3) := zd_804.2.2.2.2.2.2.2
theorem zd_805 : (decode cX12_plateOf 16 = .ok (.iconst (-1), 1)) ∧ (decode cX12_plateOf 17 = .ok (.ireturn, 1)) ∧ (decode cX12_plateOf 18 = .ok (.iload_n 2, 1)) ∧ (decode cX12_plateOf 19 = .ok (.ifCond .ne 12, 3)) ∧ (decode cX12_plateOf 22 = .ok (.aload_n 0, 1)) ∧ (decode cX12_plateOf 23 = .ok (.getfield 119, 3)) ∧ (decode cX12_plateOf 26 = .ok (.iload_n 1, 1)) ∧ (decode cX12_plateOf 27 = .ok (.iaload, 1)) := by decide +kernel
theorem dX12_plateOf_16 : decode cX12_plateOf 16 = .ok (.iconst (-1), 1) := zd_805.1
theorem dX12_plateOf_17 : decode cX12_plateOf 17 = .ok (.ireturn, 1) := zd_805.2.1
theorem dX12_plateOf_18 : decode cX12_plateOf 18 = .ok (.iload_n 2, 1) := zd_805.2.2.1
theorem dX12_plateOf_19 : decode cX12_plateOf 19 = .ok (.ifCond .ne 12, 3) := zd_805.2.2.2.1
theorem dX12_plateOf_22 : decode cX12_plateOf 22 = .ok (.aload_n 0, 1) := zd_805.2.2.2.2.1
theorem dX12_plateOf_23 : decode cX12_plateOf 23 = .ok (.getfield 119, 3) := zd_805.2.2.2.2.2.1
theorem dX12_plateOf_26 : decode cX12_plateOf 26 = .ok (.iload_n 1, 1) := zd_805.2.2.2.2.2.2.1
theorem dX12_plateOf_27 : decode cX12_plateOf 27 = .ok (.iaload, 1) := zd_805.2.2.2.2.2.2.2
theorem zd_806 : (decode cX12_plateOf 28 = .ok (.goto 18, 3)) ∧ (decode cX12_plateOf 31 = .ok (.iload_n 2, 1)) ∧ (decode cX12_plateOf 32 = .ok (.iconst 1, 1)) ∧ (decode cX12_plateOf 33 = .ok (.if_icmp .ne 12, 3)) ∧ (decode cX12_plateOf 36 = .ok (.aload_n 0, 1)) ∧ (decode cX12_plateOf 37 = .ok (.getfield 122, 3)) ∧ (decode cX12_plateOf 40 = .ok (.iload_n 1, 1)) ∧ (decode cX12_plateOf 41 = .ok (.iaload, 1)) := by decide +kernel
theorem dX12_plateOf_28 : decode cX12_plateOf 28 = .ok (.goto 18, 3) := zd_806.1
theorem dX12_plateOf_31 : decode cX12_plateOf 31 = .ok (.iload_n 2, 1) := zd_806.2.1
theorem dX12_plateOf_32 : decode cX12_plateOf 32 = .ok (.iconst 1, 1) := zd_806.2.2.1
theorem dX12_plateOf_33 : decode cX12_plateOf 33 = .ok (.if_icmp .ne 12, 3) := zd_806.2.2.2.1
theorem dX12_plateOf_36 : decode cX12_plateOf 36 = .ok (.aload_n 0, 1) := zd_806.2.2.2.2.1
theorem dX12_plateOf_37 : decode cX12_plateOf 37 = .ok (.getfield 122, 3) := zd_806.2.2.2.2.2.1
theorem dX12_plateOf_40 : decode cX12_plateOf 40 = .ok (.iload_n 1, 1) := zd_806.2.2.2.2.2.2.1
theorem dX12_plateOf_41 : decode cX12_plateOf 41 = .ok (.iaload, 1) := zd_806.2.2.2.2.2.2.2
theorem zd_807 : (decode cX12_plateOf 42 = .ok (.goto 4, 3)) ∧ (decode cX12_plateOf 45 = .ok (.iconst (-1), 1)) ∧ (decode cX12_plateOf 46 = .ok (.ireturn, 1)) := by decide +kernel
theorem dX12_plateOf_42 : decode cX12_plateOf 42 = .ok (.goto 4, 3) := zd_807.1
theorem dX12_plateOf_45 : decode cX12_plateOf 45 = .ok (.iconst (-1), 1) := zd_807.2.1
theorem dX12_plateOf_46 : decode cX12_plateOf 46 = .ok (.ireturn, 1) := zd_807.2.2
theorem zd_808 : (decode cX12_bill 0 = .ok (.iload_n 1, 1)) ∧ (decode cX12_bill 1 = .ok (.invokestatic 179, 3)) ∧ (decode cX12_bill 4 = .ok (.ifCond .eq 15, 3)) ∧ (decode cX12_bill 7 = .ok (.iload_n 2, 1)) ∧ (decode cX12_bill 8 = .ok (.iconst 0, 1)) ∧ (decode cX12_bill 9 = .ok (.aload_n 0, 1)) ∧ (decode cX12_bill 10 = .ok (.getfield 206, 3)) ∧ (decode cX12_bill 13 = .ok (.invokestatic 143, 3)) := by decide +kernel
theorem dX12_bill_0 : decode cX12_bill 0 = .ok (.iload_n 1, 1) := zd_808.1
theorem dX12_bill_1 : decode cX12_bill 1 = .ok (.invokestatic 179, 3) := zd_808.2.1
theorem dX12_bill_4 : decode cX12_bill 4 = .ok (.ifCond .eq 15, 3) := zd_808.2.2.1
theorem dX12_bill_7 : decode cX12_bill 7 = .ok (.iload_n 2, 1) := zd_808.2.2.2.1
theorem dX12_bill_8 : decode cX12_bill 8 = .ok (.iconst 0, 1) := zd_808.2.2.2.2.1
theorem dX12_bill_9 : decode cX12_bill 9 = .ok (.aload_n 0, 1) := zd_808.2.2.2.2.2.1
theorem dX12_bill_10 : decode cX12_bill 10 = .ok (.getfield 206, 3) := zd_808.2.2.2.2.2.2.1
theorem dX12_bill_13 : decode cX12_bill 13 = .ok (.invokestatic 143, 3) := zd_808.2.2.2.2.2.2.2
theorem zd_809 : (decode cX12_bill 16 = .ok (.ifCond .ne 5, 3)) ∧ (decode cX12_bill 19 = .ok (.iconst (-1), 1)) ∧ (decode cX12_bill 20 = .ok (.ireturn, 1)) ∧ (decode cX12_bill 21 = .ok (.iconst 0, 1)) ∧ (decode cX12_bill 22 = .ok (.istore_n 3, 1)) ∧ (decode cX12_bill 23 = .ok (.iconst 0, 1)) ∧ (decode cX12_bill 24 = .ok (.istore 4, 2)) ∧ (decode cX12_bill 26 = .ok (.iload 4, 2)) := by decide +kernel
theorem dX12_bill_16 : decode cX12_bill 16 = .ok (.ifCond .ne 5, 3) := zd_809.1
theorem dX12_bill_19 : decode cX12_bill 19 = .ok (.iconst (-1), 1) := zd_809.2.1
theorem dX12_bill_20 : decode cX12_bill 20 = .ok (.ireturn, 1) := zd_809.2.2.1
theorem dX12_bill_21 : decode cX12_bill 21 = .ok (.iconst 0, 1) := zd_809.2.2.2.1
theorem dX12_bill_22 : decode cX12_bill 22 = .ok (.istore_n 3, 1) := zd_809.2.2.2.2.1
theorem dX12_bill_23 : decode cX12_bill 23 = .ok (.iconst 0, 1) := zd_809.2.2.2.2.2.1
theorem dX12_bill_24 : decode cX12_bill 24 = .ok (.istore 4, 2) := zd_809.2.2.2.2.2.2.1
theorem dX12_bill_26 : decode cX12_bill 26 = .ok (.iload 4, 2) := zd_809.2.2.2.2.2.2.2
theorem zd_810 : (decode cX12_bill 28 = .ok (.aload_n 0, 1)) ∧ (decode cX12_bill 29 = .ok (.getfield 147, 3)) ∧ (decode cX12_bill 32 = .ok (.if_icmp .ge 141, 3)) ∧ (decode cX12_bill 35 = .ok (.aload_n 0, 1)) ∧ (decode cX12_bill 36 = .ok (.getfield 140, 3)) ∧ (decode cX12_bill 39 = .ok (.bipush 80, 2)) ∧ (decode cX12_bill 41 = .ok (.iload_n 2, 1)) ∧ (decode cX12_bill 42 = .ok (.imul, 1)) := by decide +kernel
theorem dX12_bill_28 : decode cX12_bill 28 = .ok (.aload_n 0, 1) := zd_810.1
theorem dX12_bill_29 : decode cX12_bill 29 = .ok (.getfield 147, 3) := zd_810.2.1
theorem dX12_bill_32 : decode cX12_bill 32 = .ok (.if_icmp .ge 141, 3) := zd_810.2.2.1
theorem dX12_bill_35 : decode cX12_bill 35 = .ok (.aload_n 0, 1) := zd_810.2.2.2.1
theorem dX12_bill_36 : decode cX12_bill 36 = .ok (.getfield 140, 3) := zd_810.2.2.2.2.1
theorem dX12_bill_39 : decode cX12_bill 39 = .ok (.bipush 80, 2) := zd_810.2.2.2.2.2.1
theorem dX12_bill_41 : decode cX12_bill 41 = .ok (.iload_n 2, 1) := zd_810.2.2.2.2.2.2.1
theorem dX12_bill_42 : decode cX12_bill 42 = .ok (.imul, 1) := zd_810.2.2.2.2.2.2.2
theorem zd_811 : (decode cX12_bill 43 = .ok (.iload 4, 2)) ∧ (decode cX12_bill 45 = .ok (.iadd, 1)) ∧ (decode cX12_bill 46 = .ok (.baload, 1)) ∧ (decode cX12_bill 47 = .ok (.istore 5, 2)) ∧ (decode cX12_bill 49 = .ok (.iconst 0, 1)) ∧ (decode cX12_bill 50 = .ok (.istore 6, 2)) ∧ (decode cX12_bill 52 = .ok (.iload 6, 2)) ∧ (decode cX12_bill 54 = .ok (.bipush 12, 2)) := by decide +kernel
theorem dX12_bill_43 : decode cX12_bill 43 = .ok (.iload 4, 2) := zd_811.1
theorem dX12_bill_45 : decode cX12_bill 45 = .ok (.iadd, 1) := zd_811.2.1
theorem dX12_bill_46 : decode cX12_bill 46 = .ok (.baload, 1) := zd_811.2.2.1
theorem dX12_bill_47 : decode cX12_bill 47 = .ok (.istore 5, 2) := zd_811.2.2.2.1
theorem dX12_bill_49 : decode cX12_bill 49 = .ok (.iconst 0, 1) := zd_811.2.2.2.2.1
theorem dX12_bill_50 : decode cX12_bill 50 = .ok (.istore 6, 2) := zd_811.2.2.2.2.2.1
theorem dX12_bill_52 : decode cX12_bill 52 = .ok (.iload 6, 2) := zd_811.2.2.2.2.2.2.1
theorem dX12_bill_54 : decode cX12_bill 54 = .ok (.bipush 12, 2) := zd_811.2.2.2.2.2.2.2
theorem zd_812 : (decode cX12_bill 56 = .ok (.if_icmp .ge 54, 3)) ∧ (decode cX12_bill 59 = .ok (.iload_n 2, 1)) ∧ (decode cX12_bill 60 = .ok (.aload_n 0, 1)) ∧ (decode cX12_bill 61 = .ok (.getfield 206, 3)) ∧ (decode cX12_bill 64 = .ok (.if_icmp .ne 46, 3)) ∧ (decode cX12_bill 67 = .ok (.iload 5, 2)) ∧ (decode cX12_bill 69 = .ok (.ifCond .ne 28, 3)) ∧ (decode cX12_bill 72 = .ok (.aload_n 0, 1)) := by decide +kernel
theorem dX12_bill_56 : decode cX12_bill 56 = .ok (.if_icmp .ge 54, 3) := zd_812.1
theorem dX12_bill_59 : decode cX12_bill 59 = .ok (.iload_n 2, 1) := zd_812.2.1
theorem dX12_bill_60 : decode cX12_bill 60 = .ok (.aload_n 0, 1) := zd_812.2.2.1
theorem dX12_bill_61 : decode cX12_bill 61 = .ok (.getfield 206, 3) := zd_812.2.2.2.1
theorem dX12_bill_64 : decode cX12_bill 64 = .ok (.if_icmp .ne 46, 3) := zd_812.2.2.2.2.1
theorem dX12_bill_67 : decode cX12_bill 67 = .ok (.iload 5, 2) := zd_812.2.2.2.2.2.1
theorem dX12_bill_69 : decode cX12_bill 69 = .ok (.ifCond .ne 28, 3) := zd_812.2.2.2.2.2.2.1
theorem dX12_bill_72 : decode cX12_bill 72 = .ok (.aload_n 0, 1) := zd_812.2.2.2.2.2.2.2
theorem zd_813 : (decode cX12_bill 73 = .ok (.iload 6, 2)) ∧ (decode cX12_bill 75 = .ok (.invokevirtual 260, 3)) ∧ (decode cX12_bill 78 = .ok (.ifCond .eq 23, 3)) ∧ (decode cX12_bill 81 = .ok (.aload_n 0, 1)) ∧ (decode cX12_bill 82 = .ok (.getfield 131, 3)) ∧ (decode cX12_bill 85 = .ok (.bipush 80, 2)) ∧ (decode cX12_bill 87 = .ok (.iload 6, 2)) ∧ (decode cX12_bill 89 = .ok (.imul, 1)) := by decide +kernel
theorem dX12_bill_73 : decode cX12_bill 73 = .ok (.iload 6, 2) := zd_813.1
theorem dX12_bill_75 : decode cX12_bill 75 = .ok (.invokevirtual 260, 3) := zd_813.2.1
theorem dX12_bill_78 : decode cX12_bill 78 = .ok (.ifCond .eq 23, 3) := zd_813.2.2.1
theorem dX12_bill_81 : decode cX12_bill 81 = .ok (.aload_n 0, 1) := zd_813.2.2.2.1
theorem dX12_bill_82 : decode cX12_bill 82 = .ok (.getfield 131, 3) := zd_813.2.2.2.2.1
theorem dX12_bill_85 : decode cX12_bill 85 = .ok (.bipush 80, 2) := zd_813.2.2.2.2.2.1
theorem dX12_bill_87 : decode cX12_bill 87 = .ok (.iload 6, 2) := zd_813.2.2.2.2.2.2.1
theorem dX12_bill_89 : decode cX12_bill 89 = .ok (.imul, 1) := zd_813.2.2.2.2.2.2.2
theorem zd_814 : (decode cX12_bill 90 = .ok (.iload 4, 2)) ∧ (decode cX12_bill 92 = .ok (.iadd, 1)) ∧ (decode cX12_bill 93 = .ok (.iaload, 1)) ∧ (decode cX12_bill 94 = .ok (.ifCond .lt 7, 3)) ∧ (decode cX12_bill 97 = .ok (.iconst 1, 1)) ∧ (decode cX12_bill 98 = .ok (.goto 4, 3)) ∧ (decode cX12_bill 101 = .ok (.iconst 0, 1)) ∧ (decode cX12_bill 102 = .ok (.istore 5, 2)) := by decide +kernel
theorem dX12_bill_90 : decode cX12_bill 90 = .ok (.iload 4, 2) := zd_814.1
theorem dX12_bill_92 : decode cX12_bill 92 = .ok (.iadd, 1) := zd_814.2.1
theorem dX12_bill_93 : decode cX12_bill 93 = .ok (.iaload, 1) := zd_814.2.2.1
theorem dX12_bill_94 : decode cX12_bill 94 = .ok (.ifCond .lt 7, 3) := zd_814.2.2.2.1
theorem dX12_bill_97 : decode cX12_bill 97 = .ok (.iconst 1, 1) := zd_814.2.2.2.2.1
theorem dX12_bill_98 : decode cX12_bill 98 = .ok (.goto 4, 3) := zd_814.2.2.2.2.2.1
theorem dX12_bill_101 : decode cX12_bill 101 = .ok (.iconst 0, 1) := zd_814.2.2.2.2.2.2.1
theorem dX12_bill_102 : decode cX12_bill 102 = .ok (.istore 5, 2) := zd_814.2.2.2.2.2.2.2
theorem zd_815 : (decode cX12_bill 104 = .ok (.iinc 6 1, 3)) ∧ (decode cX12_bill 107 = .ok (.goto (-55), 3)) ∧ (decode cX12_bill 110 = .ok (.iload_n 3, 1)) ∧ (decode cX12_bill 111 = .ok (.aload_n 0, 1)) ∧ (decode cX12_bill 112 = .ok (.getfield 19, 3)) ∧ (decode cX12_bill 115 = .ok (.iload 4, 2)) ∧ (decode cX12_bill 117 = .ok (.iaload, 1)) ∧ (decode cX12_bill 118 = .ok (.iconst 3, 1)) := by decide +kernel
theorem dX12_bill_104 : decode cX12_bill 104 = .ok (.iinc 6 1, 3) := zd_815.1
theorem dX12_bill_107 : decode cX12_bill 107 = .ok (.goto (-55), 3) := zd_815.2.1
theorem dX12_bill_110 : decode cX12_bill 110 = .ok (.iload_n 3, 1) := zd_815.2.2.1
theorem dX12_bill_111 : decode cX12_bill 111 = .ok (.aload_n 0, 1) := zd_815.2.2.2.1
theorem dX12_bill_112 : decode cX12_bill 112 = .ok (.getfield 19, 3) := zd_815.2.2.2.2.1
theorem dX12_bill_115 : decode cX12_bill 115 = .ok (.iload 4, 2) := zd_815.2.2.2.2.2.1
theorem dX12_bill_117 : decode cX12_bill 117 = .ok (.iaload, 1) := zd_815.2.2.2.2.2.2.1
theorem dX12_bill_118 : decode cX12_bill 118 = .ok (.iconst 3, 1) := zd_815.2.2.2.2.2.2.2
theorem zd_816 : (decode cX12_bill 119 = .ok (.if_icmp .ne 45, 3)) ∧ (decode cX12_bill 122 = .ok (.aload_n 0, 1)) ∧ (decode cX12_bill 123 = .ok (.getfield 37, 3)) ∧ (decode cX12_bill 126 = .ok (.iload 4, 2)) ∧ (decode cX12_bill 128 = .ok (.iaload, 1)) ∧ (decode cX12_bill 129 = .ok (.iload_n 1, 1)) ∧ (decode cX12_bill 130 = .ok (.if_icmp .ne 34, 3)) ∧ (decode cX12_bill 133 = .ok (.iload 5, 2)) := by decide +kernel
theorem dX12_bill_119 : decode cX12_bill 119 = .ok (.if_icmp .ne 45, 3) := zd_816.1
theorem dX12_bill_122 : decode cX12_bill 122 = .ok (.aload_n 0, 1) := zd_816.2.1
theorem dX12_bill_123 : decode cX12_bill 123 = .ok (.getfield 37, 3) := zd_816.2.2.1
theorem dX12_bill_126 : decode cX12_bill 126 = .ok (.iload 4, 2) := zd_816.2.2.2.1
theorem dX12_bill_128 : decode cX12_bill 128 = .ok (.iaload, 1) := zd_816.2.2.2.2.1
theorem dX12_bill_129 : decode cX12_bill 129 = .ok (.iload_n 1, 1) := zd_816.2.2.2.2.2.1
theorem dX12_bill_130 : decode cX12_bill 130 = .ok (.if_icmp .ne 34, 3) := zd_816.2.2.2.2.2.2.1
theorem dX12_bill_133 : decode cX12_bill 133 = .ok (.iload 5, 2) := zd_816.2.2.2.2.2.2.2
theorem zd_817 : (decode cX12_bill 135 = .ok (.ifCond .eq 29, 3)) ∧ (decode cX12_bill 138 = .ok (.aload_n 0, 1)) ∧ (decode cX12_bill 139 = .ok (.getfield 28, 3)) ∧ (decode cX12_bill 142 = .ok (.iload 4, 2)) ∧ (decode cX12_bill 144 = .ok (.iaload, 1)) ∧ (decode cX12_bill 145 = .ok (.aload_n 0, 1)) ∧ (decode cX12_bill 146 = .ok (.getfield 31, 3)) ∧ (decode cX12_bill 149 = .ok (.iload 4, 2)) := by decide +kernel
theorem dX12_bill_135 : decode cX12_bill 135 = .ok (.ifCond .eq 29, 3) := zd_817.1
theorem dX12_bill_138 : decode cX12_bill 138 = .ok (.aload_n 0, 1) := zd_817.2.1
theorem dX12_bill_139 : decode cX12_bill 139 = .ok (.getfield 28, 3) := zd_817.2.2.1
theorem dX12_bill_142 : decode cX12_bill 142 = .ok (.iload 4, 2) := zd_817.2.2.2.1
theorem dX12_bill_144 : decode cX12_bill 144 = .ok (.iaload, 1) := zd_817.2.2.2.2.1
theorem dX12_bill_145 : decode cX12_bill 145 = .ok (.aload_n 0, 1) := zd_817.2.2.2.2.2.1
theorem dX12_bill_146 : decode cX12_bill 146 = .ok (.getfield 31, 3) := zd_817.2.2.2.2.2.2.1
theorem dX12_bill_149 : decode cX12_bill 149 = .ok (.iload 4, 2) := zd_817.2.2.2.2.2.2.2
theorem zd_818 : (decode cX12_bill 151 = .ok (.iaload, 1)) ∧ (decode cX12_bill 152 = .ok (.imul, 1)) ∧ (decode cX12_bill 153 = .ok (.aload_n 0, 1)) ∧ (decode cX12_bill 154 = .ok (.getfield 49, 3)) ∧ (decode cX12_bill 157 = .ok (.iload 4, 2)) ∧ (decode cX12_bill 159 = .ok (.iaload, 1)) ∧ (decode cX12_bill 160 = .ok (.imul, 1)) ∧ (decode cX12_bill 161 = .ok (.goto 4, 3)) := by decide +kernel
theorem dX12_bill_151 : decode cX12_bill 151 = .ok (.iaload, 1) := zd_818.1
theorem dX12_bill_152 : decode cX12_bill 152 = .ok (.imul, 1) := zd_818.2.1
theorem dX12_bill_153 : decode cX12_bill 153 = .ok (.aload_n 0, 1) := zd_818.2.2.1
theorem dX12_bill_154 : decode cX12_bill 154 = .ok (.getfield 49, 3) := zd_818.2.2.2.1
theorem dX12_bill_157 : decode cX12_bill 157 = .ok (.iload 4, 2) := zd_818.2.2.2.2.1
theorem dX12_bill_159 : decode cX12_bill 159 = .ok (.iaload, 1) := zd_818.2.2.2.2.2.1
theorem dX12_bill_160 : decode cX12_bill 160 = .ok (.imul, 1) := zd_818.2.2.2.2.2.2.1
theorem dX12_bill_161 : decode cX12_bill 161 = .ok (.goto 4, 3) := zd_818.2.2.2.2.2.2.2
theorem zd_819 : (decode cX12_bill 164 = .ok (.iconst 0, 1)) ∧ (decode cX12_bill 165 = .ok (.iadd, 1)) ∧ (decode cX12_bill 166 = .ok (.istore_n 3, 1)) ∧ (decode cX12_bill 167 = .ok (.iinc 4 1, 3)) ∧ (decode cX12_bill 170 = .ok (.goto (-144), 3)) ∧ (decode cX12_bill 173 = .ok (.iload_n 3, 1)) ∧ (decode cX12_bill 174 = .ok (.ireturn, 1)) := by decide +kernel
theorem dX12_bill_164 : decode cX12_bill 164 = .ok (.iconst 0, 1) := zd_819.1
theorem dX12_bill_165 : decode cX12_bill 165 = .ok (.iadd, 1) := zd_819.2.1
theorem dX12_bill_166 : decode cX12_bill 166 = .ok (.istore_n 3, 1) := zd_819.2.2.1
theorem dX12_bill_167 : decode cX12_bill 167 = .ok (.iinc 4 1, 3) := zd_819.2.2.2.1
theorem dX12_bill_170 : decode cX12_bill 170 = .ok (.goto (-144), 3) := zd_819.2.2.2.2.1
theorem dX12_bill_173 : decode cX12_bill 173 = .ok (.iload_n 3, 1) := zd_819.2.2.2.2.2.1
theorem dX12_bill_174 : decode cX12_bill 174 = .ok (.ireturn, 1) := zd_819.2.2.2.2.2.2
theorem zd_820 : (decode cX12_about 0 = .ok (.iload_n 1, 1)) ∧ (decode cX12_about 1 = .ok (.tableswitch 89 0 4 #[35, 40, 45, 50, 55], 35)) ∧ (decode cX12_about 36 = .ok (.aload_n 0, 1)) ∧ (decode cX12_about 37 = .ok (.getfield 206, 3)) ∧ (decode cX12_about 40 = .ok (.ireturn, 1)) ∧ (decode cX12_about 41 = .ok (.aload_n 0, 1)) ∧ (decode cX12_about 42 = .ok (.getfield 257, 3)) ∧ (decode cX12_about 45 = .ok (.ireturn, 1)) := by decide +kernel
theorem dX12_about_0 : decode cX12_about 0 = .ok (.iload_n 1, 1) := zd_820.1
theorem dX12_about_1 : decode cX12_about 1 = .ok (.tableswitch 89 0 4 #[35, 40, 45, 50, 55], 35) := zd_820.2.1
theorem dX12_about_36 : decode cX12_about 36 = .ok (.aload_n 0, 1) := zd_820.2.2.1
theorem dX12_about_37 : decode cX12_about 37 = .ok (.getfield 206, 3) := zd_820.2.2.2.1
theorem dX12_about_40 : decode cX12_about 40 = .ok (.ireturn, 1) := zd_820.2.2.2.2.1
theorem dX12_about_41 : decode cX12_about 41 = .ok (.aload_n 0, 1) := zd_820.2.2.2.2.2.1
theorem dX12_about_42 : decode cX12_about 42 = .ok (.getfield 257, 3) := zd_820.2.2.2.2.2.2.1
theorem dX12_about_45 : decode cX12_about 45 = .ok (.ireturn, 1) := zd_820.2.2.2.2.2.2.2
theorem zd_821 : (decode cX12_about 46 = .ok (.aload_n 0, 1)) ∧ (decode cX12_about 47 = .ok (.getfield 147, 3)) ∧ (decode cX12_about 50 = .ok (.ireturn, 1)) ∧ (decode cX12_about 51 = .ok (.aload_n 0, 1)) ∧ (decode cX12_about 52 = .ok (.getfield 158, 3)) ∧ (decode cX12_about 55 = .ok (.ireturn, 1)) ∧ (decode cX12_about 56 = .ok (.iconst 0, 1)) ∧ (decode cX12_about 57 = .ok (.istore_n 2, 1)) := by decide +kernel
theorem dX12_about_46 : decode cX12_about 46 = .ok (.aload_n 0, 1) := zd_821.1
theorem dX12_about_47 : decode cX12_about 47 = .ok (.getfield 147, 3) := zd_821.2.1
theorem dX12_about_50 : decode cX12_about 50 = .ok (.ireturn, 1) := zd_821.2.2.1
theorem dX12_about_51 : decode cX12_about 51 = .ok (.aload_n 0, 1) := zd_821.2.2.2.1
theorem dX12_about_52 : decode cX12_about 52 = .ok (.getfield 158, 3) := zd_821.2.2.2.2.1
theorem dX12_about_55 : decode cX12_about 55 = .ok (.ireturn, 1) := zd_821.2.2.2.2.2.1
theorem dX12_about_56 : decode cX12_about 56 = .ok (.iconst 0, 1) := zd_821.2.2.2.2.2.2.1
theorem dX12_about_57 : decode cX12_about 57 = .ok (.istore_n 2, 1) := zd_821.2.2.2.2.2.2.2
theorem zd_822 : (decode cX12_about 58 = .ok (.iconst 0, 1)) ∧ (decode cX12_about 59 = .ok (.istore_n 3, 1)) ∧ (decode cX12_about 60 = .ok (.iload_n 3, 1)) ∧ (decode cX12_about 61 = .ok (.bipush 12, 2)) ∧ (decode cX12_about 63 = .ok (.if_icmp .ge 25, 3)) ∧ (decode cX12_about 66 = .ok (.iload_n 2, 1)) ∧ (decode cX12_about 67 = .ok (.aload_n 0, 1)) ∧ (decode cX12_about 68 = .ok (.iload_n 3, 1)) := by decide +kernel
theorem dX12_about_58 : decode cX12_about 58 = .ok (.iconst 0, 1) := zd_822.1
theorem dX12_about_59 : decode cX12_about 59 = .ok (.istore_n 3, 1) := zd_822.2.1
theorem dX12_about_60 : decode cX12_about 60 = .ok (.iload_n 3, 1) := zd_822.2.2.1
theorem dX12_about_61 : decode cX12_about 61 = .ok (.bipush 12, 2) := zd_822.2.2.2.1
theorem dX12_about_63 : decode cX12_about 63 = .ok (.if_icmp .ge 25, 3) := zd_822.2.2.2.2.1
theorem dX12_about_66 : decode cX12_about 66 = .ok (.iload_n 2, 1) := zd_822.2.2.2.2.2.1
theorem dX12_about_67 : decode cX12_about 67 = .ok (.aload_n 0, 1) := zd_822.2.2.2.2.2.2.1
theorem dX12_about_68 : decode cX12_about 68 = .ok (.iload_n 3, 1) := zd_822.2.2.2.2.2.2.2
theorem zd_823 : (decode cX12_about 69 = .ok (.invokevirtual 260, 3)) ∧ (decode cX12_about 72 = .ok (.ifCond .eq 7, 3)) ∧ (decode cX12_about 75 = .ok (.iconst 1, 1)) ∧ (decode cX12_about 76 = .ok (.goto 4, 3)) ∧ (decode cX12_about 79 = .ok (.iconst 0, 1)) ∧ (decode cX12_about 80 = .ok (.iadd, 1)) ∧ (decode cX12_about 81 = .ok (.istore_n 2, 1)) ∧ (decode cX12_about 82 = .ok (.iinc 3 1, 3)) := by decide +kernel
theorem dX12_about_69 : decode cX12_about 69 = .ok (.invokevirtual 260, 3) := zd_823.1
theorem dX12_about_72 : decode cX12_about 72 = .ok (.ifCond .eq 7, 3) := zd_823.2.1
theorem dX12_about_75 : decode cX12_about 75 = .ok (.iconst 1, 1) := zd_823.2.2.1
theorem dX12_about_76 : decode cX12_about 76 = .ok (.goto 4, 3) := zd_823.2.2.2.1
theorem dX12_about_79 : decode cX12_about 79 = .ok (.iconst 0, 1) := zd_823.2.2.2.2.1
theorem dX12_about_80 : decode cX12_about 80 = .ok (.iadd, 1) := zd_823.2.2.2.2.2.1
theorem dX12_about_81 : decode cX12_about 81 = .ok (.istore_n 2, 1) := zd_823.2.2.2.2.2.2.1
theorem dX12_about_82 : decode cX12_about 82 = .ok (.iinc 3 1, 3) := zd_823.2.2.2.2.2.2.2
theorem zd_824 : (decode cX12_about 85 = .ok (.goto (-25), 3)) ∧ (decode cX12_about 88 = .ok (.iload_n 2, 1)) ∧ (decode cX12_about 89 = .ok (.ireturn, 1)) ∧ (decode cX12_about 90 = .ok (.iconst (-1), 1)) ∧ (decode cX12_about 91 = .ok (.ireturn, 1)) := by decide +kernel
theorem dX12_about_85 : decode cX12_about 85 = .ok (.goto (-25), 3) := zd_824.1
theorem dX12_about_88 : decode cX12_about 88 = .ok (.iload_n 2, 1) := zd_824.2.1
theorem dX12_about_89 : decode cX12_about 89 = .ok (.ireturn, 1) := zd_824.2.2.1
theorem dX12_about_90 : decode cX12_about 90 = .ok (.iconst (-1), 1) := zd_824.2.2.2.1
theorem dX12_about_91 : decode cX12_about 91 = .ok (.ireturn, 1) := zd_824.2.2.2.2
theorem zd_825 : (decode cJ7_fill_53178 0 = .ok (.iconst 0, 1)) ∧ (decode cJ7_fill_53178 1 = .ok (.istore_n 2, 1)) ∧ (decode cJ7_fill_53178 2 = .ok (.aload_n 0, 1)) ∧ (decode cJ7_fill_53178 3 = .ok (.arraylength, 1)) ∧ (decode cJ7_fill_53178 4 = .ok (.istore_n 3, 1)) ∧ (decode cJ7_fill_53178 5 = .ok (.iload_n 2, 1)) ∧ (decode cJ7_fill_53178 6 = .ok (.iload_n 3, 1)) ∧ (decode cJ7_fill_53178 7 = .ok (.if_icmp .ge 13, 3)) := by decide +kernel
theorem dJ7_fill_53178_0 : decode cJ7_fill_53178 0 = .ok (.iconst 0, 1) := zd_825.1
theorem dJ7_fill_53178_1 : decode cJ7_fill_53178 1 = .ok (.istore_n 2, 1) := zd_825.2.1
theorem dJ7_fill_53178_2 : decode cJ7_fill_53178 2 = .ok (.aload_n 0, 1) := zd_825.2.2.1
theorem dJ7_fill_53178_3 : decode cJ7_fill_53178 3 = .ok (.arraylength, 1) := zd_825.2.2.2.1
theorem dJ7_fill_53178_4 : decode cJ7_fill_53178 4 = .ok (.istore_n 3, 1) := zd_825.2.2.2.2.1
theorem dJ7_fill_53178_5 : decode cJ7_fill_53178 5 = .ok (.iload_n 2, 1) := zd_825.2.2.2.2.2.1
theorem dJ7_fill_53178_6 : decode cJ7_fill_53178 6 = .ok (.iload_n 3, 1) := zd_825.2.2.2.2.2.2.1
theorem dJ7_fill_53178_7 : decode cJ7_fill_53178 7 = .ok (.if_icmp .ge 13, 3) := zd_825.2.2.2.2.2.2.2
theorem zd_826 : (decode cJ7_fill_53178 10 = .ok (.aload_n 0, 1)) ∧ (decode cJ7_fill_53178 11 = .ok (.iload_n 2, 1)) ∧ (decode cJ7_fill_53178 12 = .ok (.iload_n 1, 1)) ∧ (decode cJ7_fill_53178 13 = .ok (.iastore, 1)) ∧ (decode cJ7_fill_53178 14 = .ok (.iinc 2 1, 3)) ∧ (decode cJ7_fill_53178 17 = .ok (.goto (-12), 3)) ∧ (decode cJ7_fill_53178 20 = .ok (.return_, 1)) := by decide +kernel
theorem dJ7_fill_53178_10 : decode cJ7_fill_53178 10 = .ok (.aload_n 0, 1) := zd_826.1
theorem dJ7_fill_53178_11 : decode cJ7_fill_53178 11 = .ok (.iload_n 2, 1) := zd_826.2.1
theorem dJ7_fill_53178_12 : decode cJ7_fill_53178 12 = .ok (.iload_n 1, 1) := zd_826.2.2.1
theorem dJ7_fill_53178_13 : decode cJ7_fill_53178 13 = .ok (.iastore, 1) := zd_826.2.2.2.1
theorem dJ7_fill_53178_14 : decode cJ7_fill_53178 14 = .ok (.iinc 2 1, 3) := zd_826.2.2.2.2.1
theorem dJ7_fill_53178_17 : decode cJ7_fill_53178 17 = .ok (.goto (-12), 3) := zd_826.2.2.2.2.2.1
theorem dJ7_fill_53178_20 : decode cJ7_fill_53178 20 = .ok (.return_, 1) := zd_826.2.2.2.2.2.2
theorem zd_827 : ∀ x, x ∈ ([(0, .new 7, 3), (3, .dup, 1), (4, .invokespecial 9, 3), (7, .astore_n 1, 1), (8, .new 10, 3), (11, .dup, 1), (12, .invokespecial 12, 3), (15, .astore_n 2, 1), (16, .iconst 0, 1), (17, .istore_n 3, 1), (18, .iload_n 3, 1), (19, .aload_n 0, 1), (20, .arraylength, 1), (21, .bipush 8, 2), (23, .isub, 1), (24, .if_icmp .gt 1164, 3), (27, .aload_n 0, 1), (28, .iload_n 3, 1), (29, .iaload, 1), (30, .bipush 31, 2), (32, .iand, 1), (33, .tableswitch 1149 0 29 #[135, 178, 211, 234, 267, 310, 323, 366, 453, 486, 519, 552, 585, 648, 671, 714, 737, 750, 773, 786, 799, 842, 885, 918, 951, 984, 1017, 1060, 1093, 1126], 135), (168, .aload_n 1, 1), (169, .aload_n 0, 1), (170, .iload_n 3, 1), (171, .iconst 1, 1), (172, .iadd, 1), (173, .iaload, 1), (174, .aload_n 0, 1), (175, .iload_n 3, 1), (176, .iconst 2, 1), (177, .iadd, 1), (178, .iaload, 1), (179, .aload_n 0, 1), (180, .iload_n 3, 1), (181, .iconst 3, 1), (182, .iadd, 1), (183, .iaload, 1), (184, .invokevirtual 13, 3), (187, .pop, 1)] : List (Nat × Instr × Nat)) → decode cL_law x.1 = .ok x.2 := by decide +kernel
theorem dL_law_0 : decode cL_law 0 = .ok (.new 7, 3) := zd_827 (0, .new 7, 3) (List.mem_of_getElem? (i := 0) rfl)
theorem dL_law_3 : decode cL_law 3 = .ok (.dup, 1) := zd_827 (3, .dup, 1) (List.mem_of_getElem? (i := 1) rfl)
theorem dL_law_4 : decode cL_law 4 = .ok (.invokespecial 9, 3) := zd_827 (4, .invokespecial 9, 3) (List.mem_of_getElem? (i := 2) rfl)
theorem dL_law_7 : decode cL_law 7 = .ok (.astore_n 1, 1) := zd_827 (7, .astore_n 1, 1) (List.mem_of_getElem? (i := 3) rfl)
theorem dL_law_8 : decode cL_law 8 = .ok (.new 10, 3) := zd_827 (8, .new 10, 3) (List.mem_of_getElem? (i := 4) rfl)
theorem dL_law_11 : decode cL_law 11 = .ok (.dup, 1) := zd_827 (11, .dup, 1) (List.mem_of_getElem? (i := 5) rfl)
theorem dL_law_12 : decode cL_law 12 = .ok (.invokespecial 12, 3) := zd_827 (12, .invokespecial 12, 3) (List.mem_of_getElem? (i := 6) rfl)
theorem dL_law_15 : decode cL_law 15 = .ok (.astore_n 2, 1) := zd_827 (15, .astore_n 2, 1) (List.mem_of_getElem? (i := 7) rfl)
theorem dL_law_16 : decode cL_law 16 = .ok (.iconst 0, 1) := zd_827 (16, .iconst 0, 1) (List.mem_of_getElem? (i := 8) rfl)
theorem dL_law_17 : decode cL_law 17 = .ok (.istore_n 3, 1) := zd_827 (17, .istore_n 3, 1) (List.mem_of_getElem? (i := 9) rfl)
theorem dL_law_18 : decode cL_law 18 = .ok (.iload_n 3, 1) := zd_827 (18, .iload_n 3, 1) (List.mem_of_getElem? (i := 10) rfl)
theorem dL_law_19 : decode cL_law 19 = .ok (.aload_n 0, 1) := zd_827 (19, .aload_n 0, 1) (List.mem_of_getElem? (i := 11) rfl)
theorem dL_law_20 : decode cL_law 20 = .ok (.arraylength, 1) := zd_827 (20, .arraylength, 1) (List.mem_of_getElem? (i := 12) rfl)
theorem dL_law_21 : decode cL_law 21 = .ok (.bipush 8, 2) := zd_827 (21, .bipush 8, 2) (List.mem_of_getElem? (i := 13) rfl)
theorem dL_law_23 : decode cL_law 23 = .ok (.isub, 1) := zd_827 (23, .isub, 1) (List.mem_of_getElem? (i := 14) rfl)
theorem dL_law_24 : decode cL_law 24 = .ok (.if_icmp .gt 1164, 3) := zd_827 (24, .if_icmp .gt 1164, 3) (List.mem_of_getElem? (i := 15) rfl)
theorem dL_law_27 : decode cL_law 27 = .ok (.aload_n 0, 1) := zd_827 (27, .aload_n 0, 1) (List.mem_of_getElem? (i := 16) rfl)
theorem dL_law_28 : decode cL_law 28 = .ok (.iload_n 3, 1) := zd_827 (28, .iload_n 3, 1) (List.mem_of_getElem? (i := 17) rfl)
theorem dL_law_29 : decode cL_law 29 = .ok (.iaload, 1) := zd_827 (29, .iaload, 1) (List.mem_of_getElem? (i := 18) rfl)
theorem dL_law_30 : decode cL_law 30 = .ok (.bipush 31, 2) := zd_827 (30, .bipush 31, 2) (List.mem_of_getElem? (i := 19) rfl)
theorem dL_law_32 : decode cL_law 32 = .ok (.iand, 1) := zd_827 (32, .iand, 1) (List.mem_of_getElem? (i := 20) rfl)
theorem dL_law_33 : decode cL_law 33 = .ok (.tableswitch 1149 0 29 #[135, 178, 211, 234, 267, 310, 323, 366, 453, 486, 519, 552, 585, 648, 671, 714, 737, 750, 773, 786, 799, 842, 885, 918, 951, 984, 1017, 1060, 1093, 1126], 135) := zd_827 (33, .tableswitch 1149 0 29 #[135, 178, 211, 234, 267, 310, 323, 366, 453, 486, 519, 552, 585, 648, 671, 714, 737, 750, 773, 786, 799, 842, 885, 918, 951, 984, 1017, 1060, 1093, 1126], 135) (List.mem_of_getElem? (i := 21) rfl)
theorem dL_law_168 : decode cL_law 168 = .ok (.aload_n 1, 1) := zd_827 (168, .aload_n 1, 1) (List.mem_of_getElem? (i := 22) rfl)
theorem dL_law_169 : decode cL_law 169 = .ok (.aload_n 0, 1) := zd_827 (169, .aload_n 0, 1) (List.mem_of_getElem? (i := 23) rfl)
theorem dL_law_170 : decode cL_law 170 = .ok (.iload_n 3, 1) := zd_827 (170, .iload_n 3, 1) (List.mem_of_getElem? (i := 24) rfl)
theorem dL_law_171 : decode cL_law 171 = .ok (.iconst 1, 1) := zd_827 (171, .iconst 1, 1) (List.mem_of_getElem? (i := 25) rfl)
theorem dL_law_172 : decode cL_law 172 = .ok (.iadd, 1) := zd_827 (172, .iadd, 1) (List.mem_of_getElem? (i := 26) rfl)
theorem dL_law_173 : decode cL_law 173 = .ok (.iaload, 1) := zd_827 (173, .iaload, 1) (List.mem_of_getElem? (i := 27) rfl)
theorem dL_law_174 : decode cL_law 174 = .ok (.aload_n 0, 1) := zd_827 (174, .aload_n 0, 1) (List.mem_of_getElem? (i := 28) rfl)
theorem dL_law_175 : decode cL_law 175 = .ok (.iload_n 3, 1) := zd_827 (175, .iload_n 3, 1) (List.mem_of_getElem? (i := 29) rfl)
theorem dL_law_176 : decode cL_law 176 = .ok (.iconst 2, 1) := zd_827 (176, .iconst 2, 1) (List.mem_of_getElem? (i := 30) rfl)
theorem dL_law_177 : decode cL_law 177 = .ok (.iadd, 1) := zd_827 (177, .iadd, 1) (List.mem_of_getElem? (i := 31) rfl)
theorem dL_law_178 : decode cL_law 178 = .ok (.iaload, 1) := zd_827 (178, .iaload, 1) (List.mem_of_getElem? (i := 32) rfl)
theorem dL_law_179 : decode cL_law 179 = .ok (.aload_n 0, 1) := zd_827 (179, .aload_n 0, 1) (List.mem_of_getElem? (i := 33) rfl)
theorem dL_law_180 : decode cL_law 180 = .ok (.iload_n 3, 1) := zd_827 (180, .iload_n 3, 1) (List.mem_of_getElem? (i := 34) rfl)
theorem dL_law_181 : decode cL_law 181 = .ok (.iconst 3, 1) := zd_827 (181, .iconst 3, 1) (List.mem_of_getElem? (i := 35) rfl)
theorem dL_law_182 : decode cL_law 182 = .ok (.iadd, 1) := zd_827 (182, .iadd, 1) (List.mem_of_getElem? (i := 36) rfl)
theorem dL_law_183 : decode cL_law 183 = .ok (.iaload, 1) := zd_827 (183, .iaload, 1) (List.mem_of_getElem? (i := 37) rfl)
theorem dL_law_184 : decode cL_law 184 = .ok (.invokevirtual 13, 3) := zd_827 (184, .invokevirtual 13, 3) (List.mem_of_getElem? (i := 38) rfl)
theorem dL_law_187 : decode cL_law 187 = .ok (.pop, 1) := zd_827 (187, .pop, 1) (List.mem_of_getElem? (i := 39) rfl)
theorem zd_828 : ∀ x, x ∈ ([(188, .aload_n 2, 1), (189, .aload_n 0, 1), (190, .iload_n 3, 1), (191, .iconst 1, 1), (192, .iadd, 1), (193, .iaload, 1), (194, .aload_n 0, 1), (195, .iload_n 3, 1), (196, .iconst 2, 1), (197, .iadd, 1), (198, .iaload, 1), (199, .aload_n 0, 1), (200, .iload_n 3, 1), (201, .iconst 3, 1), (202, .iadd, 1), (203, .iaload, 1), (204, .invokevirtual 17, 3), (207, .pop, 1), (208, .goto 974, 3), (211, .aload_n 1, 1), (212, .aload_n 0, 1), (213, .iload_n 3, 1), (214, .iconst 1, 1), (215, .iadd, 1), (216, .iaload, 1), (217, .aload_n 0, 1), (218, .iload_n 3, 1), (219, .iconst 2, 1), (220, .iadd, 1), (221, .iaload, 1), (222, .invokevirtual 18, 3), (225, .pop, 1), (226, .aload_n 2, 1), (227, .aload_n 0, 1), (228, .iload_n 3, 1), (229, .iconst 1, 1), (230, .iadd, 1), (231, .iaload, 1), (232, .aload_n 0, 1), (233, .iload_n 3, 1)] : List (Nat × Instr × Nat)) → decode cL_law x.1 = .ok x.2 := by decide +kernel
theorem dL_law_188 : decode cL_law 188 = .ok (.aload_n 2, 1) := zd_828 (188, .aload_n 2, 1) (List.mem_of_getElem? (i := 0) rfl)
theorem dL_law_189 : decode cL_law 189 = .ok (.aload_n 0, 1) := zd_828 (189, .aload_n 0, 1) (List.mem_of_getElem? (i := 1) rfl)
theorem dL_law_190 : decode cL_law 190 = .ok (.iload_n 3, 1) := zd_828 (190, .iload_n 3, 1) (List.mem_of_getElem? (i := 2) rfl)
theorem dL_law_191 : decode cL_law 191 = .ok (.iconst 1, 1) := zd_828 (191, .iconst 1, 1) (List.mem_of_getElem? (i := 3) rfl)
theorem dL_law_192 : decode cL_law 192 = .ok (.iadd, 1) := zd_828 (192, .iadd, 1) (List.mem_of_getElem? (i := 4) rfl)
theorem dL_law_193 : decode cL_law 193 = .ok (.iaload, 1) := zd_828 (193, .iaload, 1) (List.mem_of_getElem? (i := 5) rfl)
theorem dL_law_194 : decode cL_law 194 = .ok (.aload_n 0, 1) := zd_828 (194, .aload_n 0, 1) (List.mem_of_getElem? (i := 6) rfl)
theorem dL_law_195 : decode cL_law 195 = .ok (.iload_n 3, 1) := zd_828 (195, .iload_n 3, 1) (List.mem_of_getElem? (i := 7) rfl)
theorem dL_law_196 : decode cL_law 196 = .ok (.iconst 2, 1) := zd_828 (196, .iconst 2, 1) (List.mem_of_getElem? (i := 8) rfl)
theorem dL_law_197 : decode cL_law 197 = .ok (.iadd, 1) := zd_828 (197, .iadd, 1) (List.mem_of_getElem? (i := 9) rfl)
theorem dL_law_198 : decode cL_law 198 = .ok (.iaload, 1) := zd_828 (198, .iaload, 1) (List.mem_of_getElem? (i := 10) rfl)
theorem dL_law_199 : decode cL_law 199 = .ok (.aload_n 0, 1) := zd_828 (199, .aload_n 0, 1) (List.mem_of_getElem? (i := 11) rfl)
theorem dL_law_200 : decode cL_law 200 = .ok (.iload_n 3, 1) := zd_828 (200, .iload_n 3, 1) (List.mem_of_getElem? (i := 12) rfl)
theorem dL_law_201 : decode cL_law 201 = .ok (.iconst 3, 1) := zd_828 (201, .iconst 3, 1) (List.mem_of_getElem? (i := 13) rfl)
theorem dL_law_202 : decode cL_law 202 = .ok (.iadd, 1) := zd_828 (202, .iadd, 1) (List.mem_of_getElem? (i := 14) rfl)
theorem dL_law_203 : decode cL_law 203 = .ok (.iaload, 1) := zd_828 (203, .iaload, 1) (List.mem_of_getElem? (i := 15) rfl)
theorem dL_law_204 : decode cL_law 204 = .ok (.invokevirtual 17, 3) := zd_828 (204, .invokevirtual 17, 3) (List.mem_of_getElem? (i := 16) rfl)
theorem dL_law_207 : decode cL_law 207 = .ok (.pop, 1) := zd_828 (207, .pop, 1) (List.mem_of_getElem? (i := 17) rfl)
theorem dL_law_208 : decode cL_law 208 = .ok (.goto 974, 3) := zd_828 (208, .goto 974, 3) (List.mem_of_getElem? (i := 18) rfl)
theorem dL_law_211 : decode cL_law 211 = .ok (.aload_n 1, 1) := zd_828 (211, .aload_n 1, 1) (List.mem_of_getElem? (i := 19) rfl)
theorem dL_law_212 : decode cL_law 212 = .ok (.aload_n 0, 1) := zd_828 (212, .aload_n 0, 1) (List.mem_of_getElem? (i := 20) rfl)
theorem dL_law_213 : decode cL_law 213 = .ok (.iload_n 3, 1) := zd_828 (213, .iload_n 3, 1) (List.mem_of_getElem? (i := 21) rfl)
theorem dL_law_214 : decode cL_law 214 = .ok (.iconst 1, 1) := zd_828 (214, .iconst 1, 1) (List.mem_of_getElem? (i := 22) rfl)
theorem dL_law_215 : decode cL_law 215 = .ok (.iadd, 1) := zd_828 (215, .iadd, 1) (List.mem_of_getElem? (i := 23) rfl)
theorem dL_law_216 : decode cL_law 216 = .ok (.iaload, 1) := zd_828 (216, .iaload, 1) (List.mem_of_getElem? (i := 24) rfl)
theorem dL_law_217 : decode cL_law 217 = .ok (.aload_n 0, 1) := zd_828 (217, .aload_n 0, 1) (List.mem_of_getElem? (i := 25) rfl)
theorem dL_law_218 : decode cL_law 218 = .ok (.iload_n 3, 1) := zd_828 (218, .iload_n 3, 1) (List.mem_of_getElem? (i := 26) rfl)
theorem dL_law_219 : decode cL_law 219 = .ok (.iconst 2, 1) := zd_828 (219, .iconst 2, 1) (List.mem_of_getElem? (i := 27) rfl)
theorem dL_law_220 : decode cL_law 220 = .ok (.iadd, 1) := zd_828 (220, .iadd, 1) (List.mem_of_getElem? (i := 28) rfl)
theorem dL_law_221 : decode cL_law 221 = .ok (.iaload, 1) := zd_828 (221, .iaload, 1) (List.mem_of_getElem? (i := 29) rfl)
theorem dL_law_222 : decode cL_law 222 = .ok (.invokevirtual 18, 3) := zd_828 (222, .invokevirtual 18, 3) (List.mem_of_getElem? (i := 30) rfl)
theorem dL_law_225 : decode cL_law 225 = .ok (.pop, 1) := zd_828 (225, .pop, 1) (List.mem_of_getElem? (i := 31) rfl)
theorem dL_law_226 : decode cL_law 226 = .ok (.aload_n 2, 1) := zd_828 (226, .aload_n 2, 1) (List.mem_of_getElem? (i := 32) rfl)
theorem dL_law_227 : decode cL_law 227 = .ok (.aload_n 0, 1) := zd_828 (227, .aload_n 0, 1) (List.mem_of_getElem? (i := 33) rfl)
theorem dL_law_228 : decode cL_law 228 = .ok (.iload_n 3, 1) := zd_828 (228, .iload_n 3, 1) (List.mem_of_getElem? (i := 34) rfl)
theorem dL_law_229 : decode cL_law 229 = .ok (.iconst 1, 1) := zd_828 (229, .iconst 1, 1) (List.mem_of_getElem? (i := 35) rfl)
theorem dL_law_230 : decode cL_law 230 = .ok (.iadd, 1) := zd_828 (230, .iadd, 1) (List.mem_of_getElem? (i := 36) rfl)
theorem dL_law_231 : decode cL_law 231 = .ok (.iaload, 1) := zd_828 (231, .iaload, 1) (List.mem_of_getElem? (i := 37) rfl)
theorem dL_law_232 : decode cL_law 232 = .ok (.aload_n 0, 1) := zd_828 (232, .aload_n 0, 1) (List.mem_of_getElem? (i := 38) rfl)
theorem dL_law_233 : decode cL_law 233 = .ok (.iload_n 3, 1) := zd_828 (233, .iload_n 3, 1) (List.mem_of_getElem? (i := 39) rfl)
theorem zd_829 : ∀ x, x ∈ ([(234, .iconst 2, 1), (235, .iadd, 1), (236, .iaload, 1), (237, .invokevirtual 22, 3), (240, .pop, 1), (241, .goto 941, 3), (244, .aload_n 1, 1), (245, .aload_n 0, 1), (246, .iload_n 3, 1), (247, .iconst 1, 1), (248, .iadd, 1), (249, .iaload, 1), (250, .invokevirtual 23, 3), (253, .pop, 1), (254, .aload_n 2, 1), (255, .aload_n 0, 1), (256, .iload_n 3, 1), (257, .iconst 1, 1), (258, .iadd, 1), (259, .iaload, 1), (260, .invokevirtual 27, 3), (263, .pop, 1)] : List (Nat × Instr × Nat)) → decode cL_law x.1 = .ok x.2 := by decide +kernel
theorem dL_law_234 : decode cL_law 234 = .ok (.iconst 2, 1) := zd_829 (234, .iconst 2, 1) (List.mem_of_getElem? (i := 0) rfl)
theorem dL_law_235 : decode cL_law 235 = .ok (.iadd, 1) := zd_829 (235, .iadd, 1) (List.mem_of_getElem? (i := 1) rfl)
theorem dL_law_236 : decode cL_law 236 = .ok (.iaload, 1) := zd_829 (236, .iaload, 1) (List.mem_of_getElem? (i := 2) rfl)
theorem dL_law_237 : decode cL_law 237 = .ok (.invokevirtual 22, 3) := zd_829 (237, .invokevirtual 22, 3) (List.mem_of_getElem? (i := 3) rfl)
theorem dL_law_240 : decode cL_law 240 = .ok (.pop, 1) := zd_829 (240, .pop, 1) (List.mem_of_getElem? (i := 4) rfl)
theorem dL_law_241 : decode cL_law 241 = .ok (.goto 941, 3) := zd_829 (241, .goto 941, 3) (List.mem_of_getElem? (i := 5) rfl)
theorem dL_law_244 : decode cL_law 244 = .ok (.aload_n 1, 1) := zd_829 (244, .aload_n 1, 1) (List.mem_of_getElem? (i := 6) rfl)
theorem dL_law_245 : decode cL_law 245 = .ok (.aload_n 0, 1) := zd_829 (245, .aload_n 0, 1) (List.mem_of_getElem? (i := 7) rfl)
theorem dL_law_246 : decode cL_law 246 = .ok (.iload_n 3, 1) := zd_829 (246, .iload_n 3, 1) (List.mem_of_getElem? (i := 8) rfl)
theorem dL_law_247 : decode cL_law 247 = .ok (.iconst 1, 1) := zd_829 (247, .iconst 1, 1) (List.mem_of_getElem? (i := 9) rfl)
theorem dL_law_248 : decode cL_law 248 = .ok (.iadd, 1) := zd_829 (248, .iadd, 1) (List.mem_of_getElem? (i := 10) rfl)
theorem dL_law_249 : decode cL_law 249 = .ok (.iaload, 1) := zd_829 (249, .iaload, 1) (List.mem_of_getElem? (i := 11) rfl)
theorem dL_law_250 : decode cL_law 250 = .ok (.invokevirtual 23, 3) := zd_829 (250, .invokevirtual 23, 3) (List.mem_of_getElem? (i := 12) rfl)
theorem dL_law_253 : decode cL_law 253 = .ok (.pop, 1) := zd_829 (253, .pop, 1) (List.mem_of_getElem? (i := 13) rfl)
theorem dL_law_254 : decode cL_law 254 = .ok (.aload_n 2, 1) := zd_829 (254, .aload_n 2, 1) (List.mem_of_getElem? (i := 14) rfl)
theorem dL_law_255 : decode cL_law 255 = .ok (.aload_n 0, 1) := zd_829 (255, .aload_n 0, 1) (List.mem_of_getElem? (i := 15) rfl)
theorem dL_law_256 : decode cL_law 256 = .ok (.iload_n 3, 1) := zd_829 (256, .iload_n 3, 1) (List.mem_of_getElem? (i := 16) rfl)
theorem dL_law_257 : decode cL_law 257 = .ok (.iconst 1, 1) := zd_829 (257, .iconst 1, 1) (List.mem_of_getElem? (i := 17) rfl)
theorem dL_law_258 : decode cL_law 258 = .ok (.iadd, 1) := zd_829 (258, .iadd, 1) (List.mem_of_getElem? (i := 18) rfl)
theorem dL_law_259 : decode cL_law 259 = .ok (.iaload, 1) := zd_829 (259, .iaload, 1) (List.mem_of_getElem? (i := 19) rfl)
theorem dL_law_260 : decode cL_law 260 = .ok (.invokevirtual 27, 3) := zd_829 (260, .invokevirtual 27, 3) (List.mem_of_getElem? (i := 20) rfl)
theorem dL_law_263 : decode cL_law 263 = .ok (.pop, 1) := zd_829 (263, .pop, 1) (List.mem_of_getElem? (i := 21) rfl)
