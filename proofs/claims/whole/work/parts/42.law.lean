abbrev b_Law_law : ByteArray := code
theorem d_Law_cell_0 : decode b_Law_cell 0 = .ok (.iload_n 1, 1) := by decide +kernel
theorem d_Law_cell_1 : decode b_Law_cell 1 = .ok (.aload_n 0, 1) := by decide +kernel
theorem d_Law_cell_2 : decode b_Law_cell 2 = .ok (.arraylength, 1) := by decide +kernel
theorem d_Law_cell_3 : decode b_Law_cell 3 = .ok (.if_icmp .ge 9, 3) := by decide +kernel
theorem d_Law_cell_6 : decode b_Law_cell 6 = .ok (.aload_n 0, 1) := by decide +kernel
theorem d_Law_cell_7 : decode b_Law_cell 7 = .ok (.iload_n 1, 1) := by decide +kernel
theorem d_Law_cell_8 : decode b_Law_cell 8 = .ok (.iaload, 1) := by decide +kernel
theorem d_Law_cell_9 : decode b_Law_cell 9 = .ok (.goto 4, 3) := by decide +kernel
theorem d_Law_cell_12 : decode b_Law_cell 12 = .ok (.iconst 0, 1) := by decide +kernel
theorem d_Law_cell_13 : decode b_Law_cell 13 = .ok (.ireturn, 1) := by decide +kernel
theorem d_Law_law_0 : decode b_Law_law 0 = .ok (.new 7, 3) := by decide +kernel
theorem d_Law_law_3 : decode b_Law_law 3 = .ok (.dup, 1) := by decide +kernel
theorem d_Law_law_4 : decode b_Law_law 4 = .ok (.aload_n 0, 1) := by decide +kernel
theorem d_Law_law_5 : decode b_Law_law 5 = .ok (.iconst 0, 1) := by decide +kernel
theorem d_Law_law_6 : decode b_Law_law 6 = .ok (.invokestatic 9, 3) := by decide +kernel
theorem d_Law_law_9 : decode b_Law_law 9 = .ok (.invokespecial 15, 3) := by decide +kernel
theorem d_Law_law_12 : decode b_Law_law 12 = .ok (.astore_n 1, 1) := by decide +kernel
theorem d_Law_law_13 : decode b_Law_law 13 = .ok (.new 18, 3) := by decide +kernel
theorem d_Law_law_16 : decode b_Law_law 16 = .ok (.dup, 1) := by decide +kernel
theorem d_Law_law_17 : decode b_Law_law 17 = .ok (.aload_n 0, 1) := by decide +kernel
theorem d_Law_law_18 : decode b_Law_law 18 = .ok (.iconst 0, 1) := by decide +kernel
theorem d_Law_law_19 : decode b_Law_law 19 = .ok (.invokestatic 9, 3) := by decide +kernel
theorem d_Law_law_22 : decode b_Law_law 22 = .ok (.invokespecial 20, 3) := by decide +kernel
theorem d_Law_law_25 : decode b_Law_law 25 = .ok (.astore_n 2, 1) := by decide +kernel
theorem d_Law_law_26 : decode b_Law_law 26 = .ok (.iconst 1, 1) := by decide +kernel
theorem d_Law_law_27 : decode b_Law_law 27 = .ok (.istore_n 3, 1) := by decide +kernel
theorem d_Law_law_28 : decode b_Law_law 28 = .ok (.iload_n 3, 1) := by decide +kernel
theorem d_Law_law_29 : decode b_Law_law 29 = .ok (.aload_n 0, 1) := by decide +kernel
theorem d_Law_law_30 : decode b_Law_law 30 = .ok (.arraylength, 1) := by decide +kernel
theorem d_Law_law_31 : decode b_Law_law 31 = .ok (.iconst 4, 1) := by decide +kernel
theorem d_Law_law_32 : decode b_Law_law 32 = .ok (.isub, 1) := by decide +kernel
theorem d_Law_law_33 : decode b_Law_law 33 = .ok (.if_icmp .gt 280, 3) := by decide +kernel
theorem d_Law_law_36 : decode b_Law_law 36 = .ok (.aload_n 0, 1) := by decide +kernel
theorem d_Law_law_37 : decode b_Law_law 37 = .ok (.iload_n 3, 1) := by decide +kernel
theorem d_Law_law_38 : decode b_Law_law 38 = .ok (.iaload, 1) := by decide +kernel
theorem d_Law_law_39 : decode b_Law_law 39 = .ok (.bipush 15, 2) := by decide +kernel
theorem d_Law_law_41 : decode b_Law_law 41 = .ok (.iand, 1) := by decide +kernel
theorem d_Law_law_42 : decode b_Law_law 42 = .ok (.tableswitch 265 0 9 #[54, 87, 100, 113, 126, 149, 192, 205, 218, 231], 54) := by decide +kernel
theorem d_Law_law_96 : decode b_Law_law 96 = .ok (.aload_n 1, 1) := by decide +kernel
theorem d_Law_law_97 : decode b_Law_law 97 = .ok (.aload_n 0, 1) := by decide +kernel
theorem d_Law_law_98 : decode b_Law_law 98 = .ok (.iload_n 3, 1) := by decide +kernel
theorem d_Law_law_99 : decode b_Law_law 99 = .ok (.iconst 1, 1) := by decide +kernel
theorem d_Law_law_100 : decode b_Law_law 100 = .ok (.iadd, 1) := by decide +kernel
theorem d_Law_law_101 : decode b_Law_law 101 = .ok (.iaload, 1) := by decide +kernel
theorem d_Law_law_102 : decode b_Law_law 102 = .ok (.aload_n 0, 1) := by decide +kernel
theorem d_Law_law_103 : decode b_Law_law 103 = .ok (.iload_n 3, 1) := by decide +kernel
theorem d_Law_law_104 : decode b_Law_law 104 = .ok (.iconst 2, 1) := by decide +kernel
theorem d_Law_law_105 : decode b_Law_law 105 = .ok (.iadd, 1) := by decide +kernel
theorem d_Law_law_106 : decode b_Law_law 106 = .ok (.iaload, 1) := by decide +kernel
theorem d_Law_law_107 : decode b_Law_law 107 = .ok (.invokevirtual 21, 3) := by decide +kernel
theorem d_Law_law_110 : decode b_Law_law 110 = .ok (.aload_n 2, 1) := by decide +kernel
theorem d_Law_law_111 : decode b_Law_law 111 = .ok (.aload_n 0, 1) := by decide +kernel
theorem d_Law_law_112 : decode b_Law_law 112 = .ok (.iload_n 3, 1) := by decide +kernel
theorem d_Law_law_113 : decode b_Law_law 113 = .ok (.iconst 1, 1) := by decide +kernel
theorem d_Law_law_114 : decode b_Law_law 114 = .ok (.iadd, 1) := by decide +kernel
theorem d_Law_law_115 : decode b_Law_law 115 = .ok (.iaload, 1) := by decide +kernel
theorem d_Law_law_116 : decode b_Law_law 116 = .ok (.aload_n 0, 1) := by decide +kernel
theorem d_Law_law_117 : decode b_Law_law 117 = .ok (.iload_n 3, 1) := by decide +kernel
theorem d_Law_law_118 : decode b_Law_law 118 = .ok (.iconst 2, 1) := by decide +kernel
theorem d_Law_law_119 : decode b_Law_law 119 = .ok (.iadd, 1) := by decide +kernel
theorem d_Law_law_120 : decode b_Law_law 120 = .ok (.iaload, 1) := by decide +kernel
theorem d_Law_law_121 : decode b_Law_law 121 = .ok (.invokevirtual 25, 3) := by decide +kernel
theorem d_Law_law_124 : decode b_Law_law 124 = .ok (.if_icmp .eq 183, 3) := by decide +kernel
theorem d_Law_law_127 : decode b_Law_law 127 = .ok (.iconst 0, 1) := by decide +kernel
theorem d_Law_law_128 : decode b_Law_law 128 = .ok (.ireturn, 1) := by decide +kernel
theorem d_Law_law_129 : decode b_Law_law 129 = .ok (.aload_n 1, 1) := by decide +kernel
theorem d_Law_law_130 : decode b_Law_law 130 = .ok (.invokevirtual 26, 3) := by decide +kernel
theorem d_Law_law_133 : decode b_Law_law 133 = .ok (.aload_n 2, 1) := by decide +kernel
theorem d_Law_law_134 : decode b_Law_law 134 = .ok (.invokevirtual 30, 3) := by decide +kernel
theorem d_Law_law_137 : decode b_Law_law 137 = .ok (.if_icmp .eq 170, 3) := by decide +kernel
theorem d_Law_law_140 : decode b_Law_law 140 = .ok (.iconst 0, 1) := by decide +kernel
theorem d_Law_law_141 : decode b_Law_law 141 = .ok (.ireturn, 1) := by decide +kernel
theorem d_Law_law_142 : decode b_Law_law 142 = .ok (.aload_n 1, 1) := by decide +kernel
theorem d_Law_law_143 : decode b_Law_law 143 = .ok (.invokevirtual 31, 3) := by decide +kernel
theorem d_Law_law_146 : decode b_Law_law 146 = .ok (.aload_n 2, 1) := by decide +kernel
theorem d_Law_law_147 : decode b_Law_law 147 = .ok (.invokevirtual 34, 3) := by decide +kernel
theorem d_Law_law_150 : decode b_Law_law 150 = .ok (.if_icmp .eq 157, 3) := by decide +kernel
theorem d_Law_law_153 : decode b_Law_law 153 = .ok (.iconst 0, 1) := by decide +kernel
theorem d_Law_law_154 : decode b_Law_law 154 = .ok (.ireturn, 1) := by decide +kernel
theorem d_Law_law_155 : decode b_Law_law 155 = .ok (.aload_n 1, 1) := by decide +kernel
theorem d_Law_law_156 : decode b_Law_law 156 = .ok (.invokevirtual 35, 3) := by decide +kernel
theorem d_Law_law_159 : decode b_Law_law 159 = .ok (.aload_n 2, 1) := by decide +kernel
theorem d_Law_law_160 : decode b_Law_law 160 = .ok (.invokevirtual 38, 3) := by decide +kernel
theorem d_Law_law_163 : decode b_Law_law 163 = .ok (.if_icmp .eq 144, 3) := by decide +kernel
theorem d_Law_law_166 : decode b_Law_law 166 = .ok (.iconst 0, 1) := by decide +kernel
theorem d_Law_law_167 : decode b_Law_law 167 = .ok (.ireturn, 1) := by decide +kernel
theorem d_Law_law_168 : decode b_Law_law 168 = .ok (.aload_n 1, 1) := by decide +kernel
theorem d_Law_law_169 : decode b_Law_law 169 = .ok (.aload_n 0, 1) := by decide +kernel
theorem d_Law_law_170 : decode b_Law_law 170 = .ok (.iload_n 3, 1) := by decide +kernel
theorem d_Law_law_171 : decode b_Law_law 171 = .ok (.iconst 1, 1) := by decide +kernel
theorem d_Law_law_172 : decode b_Law_law 172 = .ok (.iadd, 1) := by decide +kernel
theorem d_Law_law_173 : decode b_Law_law 173 = .ok (.iaload, 1) := by decide +kernel
theorem d_Law_law_174 : decode b_Law_law 174 = .ok (.invokevirtual 39, 3) := by decide +kernel
theorem d_Law_law_177 : decode b_Law_law 177 = .ok (.aload_n 2, 1) := by decide +kernel
theorem d_Law_law_178 : decode b_Law_law 178 = .ok (.aload_n 0, 1) := by decide +kernel
theorem d_Law_law_179 : decode b_Law_law 179 = .ok (.iload_n 3, 1) := by decide +kernel
theorem d_Law_law_180 : decode b_Law_law 180 = .ok (.iconst 1, 1) := by decide +kernel
theorem d_Law_law_181 : decode b_Law_law 181 = .ok (.iadd, 1) := by decide +kernel
theorem d_Law_law_182 : decode b_Law_law 182 = .ok (.iaload, 1) := by decide +kernel
theorem d_Law_law_183 : decode b_Law_law 183 = .ok (.invokevirtual 43, 3) := by decide +kernel
theorem d_Law_law_186 : decode b_Law_law 186 = .ok (.if_icmp .eq 121, 3) := by decide +kernel
theorem d_Law_law_189 : decode b_Law_law 189 = .ok (.iconst 0, 1) := by decide +kernel
theorem d_Law_law_190 : decode b_Law_law 190 = .ok (.ireturn, 1) := by decide +kernel
theorem d_Law_law_191 : decode b_Law_law 191 = .ok (.aload_n 1, 1) := by decide +kernel
theorem d_Law_law_192 : decode b_Law_law 192 = .ok (.aload_n 0, 1) := by decide +kernel
theorem d_Law_law_193 : decode b_Law_law 193 = .ok (.iload_n 3, 1) := by decide +kernel
theorem d_Law_law_194 : decode b_Law_law 194 = .ok (.iconst 1, 1) := by decide +kernel
theorem d_Law_law_195 : decode b_Law_law 195 = .ok (.iadd, 1) := by decide +kernel
theorem d_Law_law_196 : decode b_Law_law 196 = .ok (.iaload, 1) := by decide +kernel
theorem d_Law_law_197 : decode b_Law_law 197 = .ok (.aload_n 0, 1) := by decide +kernel
theorem d_Law_law_198 : decode b_Law_law 198 = .ok (.iload_n 3, 1) := by decide +kernel
theorem d_Law_law_199 : decode b_Law_law 199 = .ok (.iconst 2, 1) := by decide +kernel
theorem d_Law_law_200 : decode b_Law_law 200 = .ok (.iadd, 1) := by decide +kernel
theorem d_Law_law_201 : decode b_Law_law 201 = .ok (.iaload, 1) := by decide +kernel
theorem d_Law_law_202 : decode b_Law_law 202 = .ok (.aload_n 0, 1) := by decide +kernel
theorem d_Law_law_203 : decode b_Law_law 203 = .ok (.iload_n 3, 1) := by decide +kernel
theorem d_Law_law_204 : decode b_Law_law 204 = .ok (.iconst 3, 1) := by decide +kernel
theorem d_Law_law_205 : decode b_Law_law 205 = .ok (.iadd, 1) := by decide +kernel
theorem d_Law_law_206 : decode b_Law_law 206 = .ok (.iaload, 1) := by decide +kernel
theorem d_Law_law_207 : decode b_Law_law 207 = .ok (.invokevirtual 44, 3) := by decide +kernel
theorem d_Law_law_210 : decode b_Law_law 210 = .ok (.aload_n 2, 1) := by decide +kernel
theorem d_Law_law_211 : decode b_Law_law 211 = .ok (.aload_n 0, 1) := by decide +kernel
theorem d_Law_law_212 : decode b_Law_law 212 = .ok (.iload_n 3, 1) := by decide +kernel
theorem d_Law_law_213 : decode b_Law_law 213 = .ok (.iconst 1, 1) := by decide +kernel
theorem d_Law_law_214 : decode b_Law_law 214 = .ok (.iadd, 1) := by decide +kernel
theorem d_Law_law_215 : decode b_Law_law 215 = .ok (.iaload, 1) := by decide +kernel
theorem d_Law_law_216 : decode b_Law_law 216 = .ok (.aload_n 0, 1) := by decide +kernel
theorem d_Law_law_217 : decode b_Law_law 217 = .ok (.iload_n 3, 1) := by decide +kernel
theorem d_Law_law_218 : decode b_Law_law 218 = .ok (.iconst 2, 1) := by decide +kernel
theorem d_Law_law_219 : decode b_Law_law 219 = .ok (.iadd, 1) := by decide +kernel
theorem d_Law_law_220 : decode b_Law_law 220 = .ok (.iaload, 1) := by decide +kernel
theorem d_Law_law_221 : decode b_Law_law 221 = .ok (.aload_n 0, 1) := by decide +kernel
theorem d_Law_law_222 : decode b_Law_law 222 = .ok (.iload_n 3, 1) := by decide +kernel
theorem d_Law_law_223 : decode b_Law_law 223 = .ok (.iconst 3, 1) := by decide +kernel
theorem d_Law_law_224 : decode b_Law_law 224 = .ok (.iadd, 1) := by decide +kernel
theorem d_Law_law_225 : decode b_Law_law 225 = .ok (.iaload, 1) := by decide +kernel
theorem d_Law_law_226 : decode b_Law_law 226 = .ok (.invokevirtual 48, 3) := by decide +kernel
theorem d_Law_law_229 : decode b_Law_law 229 = .ok (.if_icmp .eq 78, 3) := by decide +kernel
theorem d_Law_law_232 : decode b_Law_law 232 = .ok (.iconst 0, 1) := by decide +kernel
theorem d_Law_law_233 : decode b_Law_law 233 = .ok (.ireturn, 1) := by decide +kernel
theorem d_Law_law_234 : decode b_Law_law 234 = .ok (.aload_n 1, 1) := by decide +kernel
theorem d_Law_law_235 : decode b_Law_law 235 = .ok (.invokevirtual 49, 3) := by decide +kernel
theorem d_Law_law_238 : decode b_Law_law 238 = .ok (.aload_n 2, 1) := by decide +kernel
theorem d_Law_law_239 : decode b_Law_law 239 = .ok (.invokevirtual 52, 3) := by decide +kernel
theorem d_Law_law_242 : decode b_Law_law 242 = .ok (.if_icmp .eq 65, 3) := by decide +kernel
theorem d_Law_law_245 : decode b_Law_law 245 = .ok (.iconst 0, 1) := by decide +kernel
theorem d_Law_law_246 : decode b_Law_law 246 = .ok (.ireturn, 1) := by decide +kernel
theorem d_Law_law_247 : decode b_Law_law 247 = .ok (.aload_n 1, 1) := by decide +kernel
theorem d_Law_law_248 : decode b_Law_law 248 = .ok (.invokevirtual 53, 3) := by decide +kernel
theorem d_Law_law_251 : decode b_Law_law 251 = .ok (.aload_n 2, 1) := by decide +kernel
theorem d_Law_law_252 : decode b_Law_law 252 = .ok (.invokevirtual 56, 3) := by decide +kernel
theorem d_Law_law_255 : decode b_Law_law 255 = .ok (.if_icmp .eq 52, 3) := by decide +kernel
theorem d_Law_law_258 : decode b_Law_law 258 = .ok (.iconst 0, 1) := by decide +kernel
theorem d_Law_law_259 : decode b_Law_law 259 = .ok (.ireturn, 1) := by decide +kernel
theorem d_Law_law_260 : decode b_Law_law 260 = .ok (.aload_n 1, 1) := by decide +kernel
theorem d_Law_law_261 : decode b_Law_law 261 = .ok (.invokevirtual 57, 3) := by decide +kernel
theorem d_Law_law_264 : decode b_Law_law 264 = .ok (.aload_n 2, 1) := by decide +kernel
theorem d_Law_law_265 : decode b_Law_law 265 = .ok (.invokevirtual 60, 3) := by decide +kernel
theorem d_Law_law_268 : decode b_Law_law 268 = .ok (.if_icmp .eq 39, 3) := by decide +kernel
theorem d_Law_law_271 : decode b_Law_law 271 = .ok (.iconst 0, 1) := by decide +kernel
theorem d_Law_law_272 : decode b_Law_law 272 = .ok (.ireturn, 1) := by decide +kernel
theorem d_Law_law_273 : decode b_Law_law 273 = .ok (.aload_n 1, 1) := by decide +kernel
theorem d_Law_law_274 : decode b_Law_law 274 = .ok (.aload_n 0, 1) := by decide +kernel
theorem d_Law_law_275 : decode b_Law_law 275 = .ok (.iload_n 3, 1) := by decide +kernel
theorem d_Law_law_276 : decode b_Law_law 276 = .ok (.iconst 1, 1) := by decide +kernel
theorem d_Law_law_277 : decode b_Law_law 277 = .ok (.iadd, 1) := by decide +kernel
theorem d_Law_law_278 : decode b_Law_law 278 = .ok (.iaload, 1) := by decide +kernel
theorem d_Law_law_279 : decode b_Law_law 279 = .ok (.aload_n 0, 1) := by decide +kernel
theorem d_Law_law_280 : decode b_Law_law 280 = .ok (.iload_n 3, 1) := by decide +kernel
theorem d_Law_law_281 : decode b_Law_law 281 = .ok (.iconst 2, 1) := by decide +kernel
theorem d_Law_law_282 : decode b_Law_law 282 = .ok (.iadd, 1) := by decide +kernel
theorem d_Law_law_283 : decode b_Law_law 283 = .ok (.iaload, 1) := by decide +kernel
theorem d_Law_law_284 : decode b_Law_law 284 = .ok (.invokevirtual 61, 3) := by decide +kernel
theorem d_Law_law_287 : decode b_Law_law 287 = .ok (.aload_n 2, 1) := by decide +kernel
theorem d_Law_law_288 : decode b_Law_law 288 = .ok (.aload_n 0, 1) := by decide +kernel
theorem d_Law_law_289 : decode b_Law_law 289 = .ok (.iload_n 3, 1) := by decide +kernel
theorem d_Law_law_290 : decode b_Law_law 290 = .ok (.iconst 1, 1) := by decide +kernel
theorem d_Law_law_291 : decode b_Law_law 291 = .ok (.iadd, 1) := by decide +kernel
theorem d_Law_law_292 : decode b_Law_law 292 = .ok (.iaload, 1) := by decide +kernel
theorem d_Law_law_293 : decode b_Law_law 293 = .ok (.aload_n 0, 1) := by decide +kernel
theorem d_Law_law_294 : decode b_Law_law 294 = .ok (.iload_n 3, 1) := by decide +kernel
theorem d_Law_law_295 : decode b_Law_law 295 = .ok (.iconst 2, 1) := by decide +kernel
theorem d_Law_law_296 : decode b_Law_law 296 = .ok (.iadd, 1) := by decide +kernel
theorem d_Law_law_297 : decode b_Law_law 297 = .ok (.iaload, 1) := by decide +kernel
theorem d_Law_law_298 : decode b_Law_law 298 = .ok (.invokevirtual 65, 3) := by decide +kernel
theorem d_Law_law_301 : decode b_Law_law 301 = .ok (.lcmp, 1) := by decide +kernel
theorem d_Law_law_302 : decode b_Law_law 302 = .ok (.ifCond .eq 5, 3) := by decide +kernel
theorem d_Law_law_305 : decode b_Law_law 305 = .ok (.iconst 0, 1) := by decide +kernel
theorem d_Law_law_306 : decode b_Law_law 306 = .ok (.ireturn, 1) := by decide +kernel
theorem d_Law_law_307 : decode b_Law_law 307 = .ok (.iinc 3 4, 3) := by decide +kernel
theorem d_Law_law_310 : decode b_Law_law 310 = .ok (.goto (-282), 3) := by decide +kernel
theorem d_Law_law_313 : decode b_Law_law 313 = .ok (.iconst 1, 1) := by decide +kernel
theorem d_Law_law_314 : decode b_Law_law 314 = .ok (.ireturn, 1) := by decide +kernel
set_option maxHeartbeats 4000000 in
set_option maxRecDepth 100000 in
theorem c_Law_cell (l : Launch) (a L : Nat) (xs : Nat → Int32) (hn : L < 2 ^ 31) : Met l y_Law_cell w_Law_cell (rmk 0) (va_Pc [.ref a, .int 0] (RP a L xs)) (vp_Si (fun r => r = q_cell xs L)) 0 0 (fun _ => False) := by
  refine Met.ofW (cc := b_Law_cell) (maxL := 2) (ret := (some .int)) (by decide) rfl ?_
  intro p e s m args below meth c s₁ B hml hv
  obtain ⟨rfl, hT⟩ := hv
  have hx := B.exec
  have hb := B.bytes
  have hr := B.returns
  have hlocks := B.notSynchronized
  have hS : va_S (fun _ => False) s.heap s.heap [] := va_S.rf
  have hT : va_T .int a L (fun j => .int (xs j)) (fun _ => False) s s.heap := hT
  have hl := lv_entry ([.ref a, .int 0]) (n := 2) (Nat.le_of_ble_eq_true rfl)
  rw [lg_entry_eq]
  generalize (lg_sl ([.ref a, .int 0]) ++ List.replicate (2 - (lg_sl ([.ref a, .int 0])).length) Slot.unset).toArray = ls at hl ⊢
  have hl : lv_has ls 2 [(0, .ref a), (1, .int 0)] := hl
  refine lv_iload_n hx hb d_Law_cell_0 rfl (lv_at hl 1 rfl) ?_
  refine lv_aload_n hx hb d_Law_cell_1 rfl (lv_at hl 0 rfl) ?_
  refine va_tlen (v := nI L) hx hb hT hS rfl d_Law_cell_2 ?_
  refine lv_icmp_ge (tgt := 12) hx hb d_Law_cell_3 (by decide) (fun h2 => ?_) (fun h2 => ?_)
  · refine lv_iconst (v := 0) hx hb d_Law_cell_12 (by decide) ?_
    refine W.iret hx hb hr (fun t ht hW => ⟨_, rfl, ?_, ht⟩) (fun q h => by cases h) d_Law_cell_13
    show 0 = q_cell xs L
    simp only [q_cell, h2, if_true]
  · refine lv_aload_n hx hb d_Law_cell_6 rfl (lv_at hl 0 rfl) ?_
    refine lv_iload_n hx hb d_Law_cell_7 rfl (lv_at hl 1 rfl) ?_
    refine va_ti (v := .int (xs (0 : Int32).toNatClampNeg)) hx hb hT hS (nI_inr hn (by decide) h2) rfl d_Law_cell_8 ?_
    refine lv_goto (tgt := 13) hx hb d_Law_cell_9 (by decide) ?_
    refine W.iret hx hb hr (fun t ht hW => ⟨_, rfl, ?_, ht⟩) (fun q h => by cases h) d_Law_cell_13
    show xs (0 : Int32).toNatClampNeg = q_cell xs L
    simp only [q_cell, h2, if_false]
/-! THE CLAIM OUT OF ONE WALK OF THE LAW'S BODY. Your part is whole_start (and what it stands on); all else here is the same for every law, but numbers. -/
def R_law : String := "StackJudgeLaw"
def lw_P (b : Addr) (xs : List Int32) (args : Array Value) (s : State) : Prop := args = #[.ref b] ∧ s.IntsAt b xs ∧ xs.length ≤ 2049 ∧ (Jvm.Cond.and given_1 narrow_1).before args s = true
def lw_Q (_ : Array Value) (s : State) (o : Outcome) (t : State) : Prop := o = .returned (some (.int 1)) ∧ Framed s o t [] 22 1677
def lw_Z (below : List Frame) (a : Array Value) (s : State) : State → Prop := fun t => ∃ o, t.status = .running ∧ Ended t below o ∧ lw_Q a s o t
/-- the law's own end, with 1 on the stack, nothing written that was there before, its room as the claim has it -/
theorem lw_ret {p : Program} {l : Launch} {e : Env} {s : State} {m : MethodId} {below : List Frame} {meth : Method} {c : Code} {b : Nat} (hx : p.tables.exec = Jvm.exec) (hb : c.code = code) (hr : meth.sig.returnType = ret) (hlocks : meth.locks = false) {pc : Nat} {H : Heap} {ls : Array Slot} (hdg : decode code pc = .ok (.ireturn, 1)) : W p l e room_1 s m #[Value.ref b] below meth c H [] 22 1677 (lw_Z below #[Value.ref b] s) (F0 m pc ls [.int 1]) := by
  intro T hT X
  obtain ⟨fs, hret, hrun, hended, hW, hframe⟩ := X.leave (v := some (.int 1)) (hlocks := hlocks) (fun h => by rw [hr] at h; cases h)
  have hmeth' : T.vm.method? m = some meth := X.method'
  refine ⟨T.setFrames fs, ?_, .returned (some (.int 1)), hrun, hended, rfl, ⟨_, rfl⟩, hW, hframe⟩
  jvm_step X.here [X.here.top, hx, hb, hdg, hmeth', hr, ret, narrow_b1]
  (try refine ⟨rfl, ?_⟩); (try refine ⟨rfl, ?_⟩)
  first | (intro acts; rw [hret _ acts rfl rfl rfl]) | rw [hret _ _ rfl rfl rfl]
  exact Steps.refl _
/-- what holds at the law's entry: the machine, the code, the tables' words (any of lw_tbl by 'hts w (by decide +kernel)'), the script of L ints xs at the cell b, what the Statement gives of the start (any of its parts by flat_of_before) -/
def lw_At (p : Program) (s : State) (m : MethodId) (meth : Method) (c : Code) (b L : Nat) (xs : Nat → Int32) : Prop :=
  p.tables.exec = Jvm.exec ∧ c.code = code ∧ meth.sig.returnType = ret ∧ c.maxLocals = 4 ∧ s.vm.findClass R_law = some m.cls ∧ (∀ w ∈ lw_tbl, w.before #[Value.ref b] s = true) ∧ va_X b L xs s s.heap ∧ b < s.heap.size ∧ meth.locks = false ∧ (Jvm.Cond.and given_1 narrow_1).before #[Value.ref b] s = true
-- ===== YOUR PART BEGINS =====
