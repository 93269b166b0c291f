/-! The model's constructor. Printed by wip/whole/gen_mo.py. -/
def mo_iv (k j : Nat) : Int32 := if k = 1 then (if j < 3 then nI j else 4) else if k = 3 then (if j < 3 then 0 else 1) else if k = 4 then 1 else if k = 5 then 1 else 0
def mo_jv (k j : Nat) : Int64 := if k = 6 then (if j < 3 then 0 else 94 + (nI j).toInt64) else 0
def mo_i0 (n : Nat) (k j : Nat) : Int32 := if j < n then mo_iv k j else 0
def mo_j0 (n : Nat) (k j : Nat) : Int64 := if j < n then mo_jv k j else 0
theorem mo_i0_step (i k : Nat) : mo_i0 (i + 1) k = upd (mo_i0 i k) i (mo_iv k i) := by
  funext j
  by_cases h : j = i
  · subst h; rw [pk_us]; simp [mo_i0]
  · rw [pk_un h]
    by_cases h2 : j < i
    · rw [mo_i0, mo_i0, if_pos h2, if_pos (by omega)]
    · rw [mo_i0, mo_i0, if_neg h2, if_neg (by omega)]
theorem mo_j0_step (i k : Nat) : mo_j0 (i + 1) k = vp_updL (mo_j0 i k) i (mo_jv k i) := by
  funext j
  by_cases h : j = i
  · subst h; rw [pk_uLs]; simp [mo_j0]
  · rw [pk_uLn h]
    by_cases h2 : j < i
    · rw [mo_j0, mo_j0, if_pos h2, if_pos (by omega)]
    · rw [mo_j0, mo_j0, if_neg h2, if_neg (by omega)]
theorem mo_upd0 {f : Nat → Int32} {i : Nat} (h : f i = 0) : upd f i 0 = f := by
  funext j
  by_cases hj : j = i
  · subst hj; rw [pk_us, h]
  · rw [pk_un hj]
theorem mo_upL0 {f : Nat → Int64} {i : Nat} (h : f i = 0) : vp_updL f i 0 = f := by
  funext j
  by_cases hj : j = i
  · subst hj; rw [pk_uLs, h]
  · rw [pk_uLn hj]
theorem mo_i0_at {i : Nat} {x y : Int32} (hx : mo_iv 1 i = x) (hy : mo_iv 3 i = y) : va_up (va_up (va_up (va_up (mo_i0 i) 1 (upd (mo_i0 i 1) i x)) 3 (upd ((va_up (mo_i0 i) 1 (upd (mo_i0 i 1) i x)) 3) i y)) 4 (upd ((va_up (va_up (mo_i0 i) 1 (upd (mo_i0 i 1) i x)) 3 (upd ((va_up (mo_i0 i) 1 (upd (mo_i0 i 1) i x)) 3) i y)) 4) i 1)) 5 (upd ((va_up (va_up (va_up (mo_i0 i) 1 (upd (mo_i0 i 1) i x)) 3 (upd ((va_up (mo_i0 i) 1 (upd (mo_i0 i 1) i x)) 3) i y)) 4 (upd ((va_up (va_up (mo_i0 i) 1 (upd (mo_i0 i 1) i x)) 3 (upd ((va_up (mo_i0 i) 1 (upd (mo_i0 i 1) i x)) 3) i y)) 4) i 1)) 5) i 1) = mo_i0 (i + 1) := by
  subst hx hy
  funext k
  rw [mo_i0_step]
  by_cases h5 : k = 5
  · subst h5; simp [va_up, mo_iv]
  · by_cases h4 : k = 4
    · subst h4; simp [va_up, mo_iv]
    · by_cases h3 : k = 3
      · subst h3; simp [va_up]
      · by_cases h1 : k = 1
        · subst h1; simp [va_up]
        · rw [va_up_n h5, va_up_n h4, va_up_n h3, va_up_n h1, show mo_iv k i = 0 by simp [mo_iv, h1, h3, h4, h5], mo_upd0 (by simp [mo_i0])]
theorem mo_j0_at {i : Nat} {x : Int64} (hx : mo_jv 6 i = x) : va_up (mo_j0 i) 6 (vp_updL (mo_j0 i 6) i x) = mo_j0 (i + 1) := by
  subst hx
  funext k
  rw [mo_j0_step]
  by_cases h6 : k = 6
  · subst h6; rw [va_up_s]
  · rw [va_up_n h6, show mo_jv k i = 0 by simp [mo_jv, h6], mo_upL0 (by simp [mo_j0])]
def mo_s0 (k : Nat) : Int32 := if k = 18 then -1 else if k = 49 then -1 else 0
theorem mo_i0_0 : mo_i0 0 = fun _ _ => 0 := by funext k j; simp [mo_i0]
theorem mo_j0_0 : mo_j0 0 = fun _ _ => 0 := by funext k j; simp [mo_j0]
theorem d_Mo_init_0 : decode b_Mo_init 0 = .ok (.aload_n 0, 1) := by decide +kernel
theorem d_Mo_init_1 : decode b_Mo_init 1 = .ok (.invokespecial 1, 3) := by decide +kernel
theorem d_Mo_init_4 : decode b_Mo_init 4 = .ok (.aload_n 0, 1) := by decide +kernel
theorem d_Mo_init_5 : decode b_Mo_init 5 = .ok (.sipush 760, 3) := by decide +kernel
theorem d_Mo_init_8 : decode b_Mo_init 8 = .ok (.newarray .int, 2) := by decide +kernel
theorem d_Mo_init_10 : decode b_Mo_init 10 = .ok (.putfield 7, 3) := by decide +kernel
theorem d_Mo_init_13 : decode b_Mo_init 13 = .ok (.aload_n 0, 1) := by decide +kernel
theorem d_Mo_init_14 : decode b_Mo_init 14 = .ok (.sipush 760, 3) := by decide +kernel
theorem d_Mo_init_17 : decode b_Mo_init 17 = .ok (.newarray .long, 2) := by decide +kernel
theorem d_Mo_init_19 : decode b_Mo_init 19 = .ok (.putfield 13, 3) := by decide +kernel
theorem d_Mo_init_22 : decode b_Mo_init 22 = .ok (.aload_n 0, 1) := by decide +kernel
theorem d_Mo_init_23 : decode b_Mo_init 23 = .ok (.sipush 760, 3) := by decide +kernel
theorem d_Mo_init_26 : decode b_Mo_init 26 = .ok (.newarray .int, 2) := by decide +kernel
theorem d_Mo_init_28 : decode b_Mo_init 28 = .ok (.putfield 17, 3) := by decide +kernel
theorem d_Mo_init_31 : decode b_Mo_init 31 = .ok (.aload_n 0, 1) := by decide +kernel
theorem d_Mo_init_32 : decode b_Mo_init 32 = .ok (.sipush 760, 3) := by decide +kernel
theorem d_Mo_init_35 : decode b_Mo_init 35 = .ok (.newarray .int, 2) := by decide +kernel
theorem d_Mo_init_37 : decode b_Mo_init 37 = .ok (.putfield 20, 3) := by decide +kernel
theorem d_Mo_init_40 : decode b_Mo_init 40 = .ok (.aload_n 0, 1) := by decide +kernel
theorem d_Mo_init_41 : decode b_Mo_init 41 = .ok (.sipush 760, 3) := by decide +kernel
theorem d_Mo_init_44 : decode b_Mo_init 44 = .ok (.newarray .int, 2) := by decide +kernel
theorem d_Mo_init_46 : decode b_Mo_init 46 = .ok (.putfield 23, 3) := by decide +kernel
theorem d_Mo_init_49 : decode b_Mo_init 49 = .ok (.aload_n 0, 1) := by decide +kernel
theorem d_Mo_init_50 : decode b_Mo_init 50 = .ok (.sipush 760, 3) := by decide +kernel
theorem d_Mo_init_53 : decode b_Mo_init 53 = .ok (.newarray .long, 2) := by decide +kernel
theorem d_Mo_init_55 : decode b_Mo_init 55 = .ok (.putfield 26, 3) := by decide +kernel
theorem d_Mo_init_58 : decode b_Mo_init 58 = .ok (.aload_n 0, 1) := by decide +kernel
theorem d_Mo_init_59 : decode b_Mo_init 59 = .ok (.sipush 760, 3) := by decide +kernel
theorem d_Mo_init_62 : decode b_Mo_init 62 = .ok (.newarray .long, 2) := by decide +kernel
theorem d_Mo_init_64 : decode b_Mo_init 64 = .ok (.putfield 29, 3) := by decide +kernel
theorem d_Mo_init_67 : decode b_Mo_init 67 = .ok (.aload_n 0, 1) := by decide +kernel
theorem d_Mo_init_68 : decode b_Mo_init 68 = .ok (.sipush 760, 3) := by decide +kernel
theorem d_Mo_init_71 : decode b_Mo_init 71 = .ok (.newarray .long, 2) := by decide +kernel
theorem d_Mo_init_73 : decode b_Mo_init 73 = .ok (.putfield 32, 3) := by decide +kernel
theorem d_Mo_init_76 : decode b_Mo_init 76 = .ok (.aload_n 0, 1) := by decide +kernel
theorem d_Mo_init_77 : decode b_Mo_init 77 = .ok (.sipush 760, 3) := by decide +kernel
theorem d_Mo_init_80 : decode b_Mo_init 80 = .ok (.newarray .int, 2) := by decide +kernel
theorem d_Mo_init_82 : decode b_Mo_init 82 = .ok (.putfield 35, 3) := by decide +kernel
theorem d_Mo_init_85 : decode b_Mo_init 85 = .ok (.aload_n 0, 1) := by decide +kernel
theorem d_Mo_init_86 : decode b_Mo_init 86 = .ok (.sipush 8800, 3) := by decide +kernel
theorem d_Mo_init_89 : decode b_Mo_init 89 = .ok (.newarray .int, 2) := by decide +kernel
theorem d_Mo_init_91 : decode b_Mo_init 91 = .ok (.putfield 38, 3) := by decide +kernel
theorem d_Mo_init_94 : decode b_Mo_init 94 = .ok (.aload_n 0, 1) := by decide +kernel
theorem d_Mo_init_95 : decode b_Mo_init 95 = .ok (.sipush 240, 3) := by decide +kernel
theorem d_Mo_init_98 : decode b_Mo_init 98 = .ok (.newarray .int, 2) := by decide +kernel
theorem d_Mo_init_100 : decode b_Mo_init 100 = .ok (.putfield 41, 3) := by decide +kernel
theorem d_Mo_init_103 : decode b_Mo_init 103 = .ok (.aload_n 0, 1) := by decide +kernel
theorem d_Mo_init_104 : decode b_Mo_init 104 = .ok (.bipush 32, 2) := by decide +kernel
theorem d_Mo_init_106 : decode b_Mo_init 106 = .ok (.newarray .int, 2) := by decide +kernel
theorem d_Mo_init_108 : decode b_Mo_init 108 = .ok (.putfield 44, 3) := by decide +kernel
theorem d_Mo_init_111 : decode b_Mo_init 111 = .ok (.aload_n 0, 1) := by decide +kernel
theorem d_Mo_init_112 : decode b_Mo_init 112 = .ok (.bipush 32, 2) := by decide +kernel
theorem d_Mo_init_114 : decode b_Mo_init 114 = .ok (.newarray .int, 2) := by decide +kernel
theorem d_Mo_init_116 : decode b_Mo_init 116 = .ok (.putfield 47, 3) := by decide +kernel
theorem d_Mo_init_119 : decode b_Mo_init 119 = .ok (.aload_n 0, 1) := by decide +kernel
theorem d_Mo_init_120 : decode b_Mo_init 120 = .ok (.iconst (-1), 1) := by decide +kernel
theorem d_Mo_init_121 : decode b_Mo_init 121 = .ok (.putfield 50, 3) := by decide +kernel
theorem d_Mo_init_124 : decode b_Mo_init 124 = .ok (.aload_n 0, 1) := by decide +kernel
theorem d_Mo_init_125 : decode b_Mo_init 125 = .ok (.bipush 120, 2) := by decide +kernel
theorem d_Mo_init_127 : decode b_Mo_init 127 = .ok (.newarray .int, 2) := by decide +kernel
theorem d_Mo_init_129 : decode b_Mo_init 129 = .ok (.putfield 54, 3) := by decide +kernel
theorem d_Mo_init_132 : decode b_Mo_init 132 = .ok (.aload_n 0, 1) := by decide +kernel
theorem d_Mo_init_133 : decode b_Mo_init 133 = .ok (.sipush 128, 3) := by decide +kernel
theorem d_Mo_init_136 : decode b_Mo_init 136 = .ok (.newarray .int, 2) := by decide +kernel
theorem d_Mo_init_138 : decode b_Mo_init 138 = .ok (.putfield 57, 3) := by decide +kernel
theorem d_Mo_init_141 : decode b_Mo_init 141 = .ok (.aload_n 0, 1) := by decide +kernel
theorem d_Mo_init_142 : decode b_Mo_init 142 = .ok (.sipush 128, 3) := by decide +kernel
theorem d_Mo_init_145 : decode b_Mo_init 145 = .ok (.newarray .int, 2) := by decide +kernel
theorem d_Mo_init_147 : decode b_Mo_init 147 = .ok (.putfield 60, 3) := by decide +kernel
theorem d_Mo_init_150 : decode b_Mo_init 150 = .ok (.aload_n 0, 1) := by decide +kernel
theorem d_Mo_init_151 : decode b_Mo_init 151 = .ok (.bipush 8, 2) := by decide +kernel
theorem d_Mo_init_153 : decode b_Mo_init 153 = .ok (.newarray .int, 2) := by decide +kernel
theorem d_Mo_init_155 : decode b_Mo_init 155 = .ok (.putfield 63, 3) := by decide +kernel
theorem d_Mo_init_158 : decode b_Mo_init 158 = .ok (.aload_n 0, 1) := by decide +kernel
theorem d_Mo_init_159 : decode b_Mo_init 159 = .ok (.bipush 8, 2) := by decide +kernel
theorem d_Mo_init_161 : decode b_Mo_init 161 = .ok (.newarray .int, 2) := by decide +kernel
theorem d_Mo_init_163 : decode b_Mo_init 163 = .ok (.putfield 66, 3) := by decide +kernel
theorem d_Mo_init_166 : decode b_Mo_init 166 = .ok (.aload_n 0, 1) := by decide +kernel
theorem d_Mo_init_167 : decode b_Mo_init 167 = .ok (.bipush 8, 2) := by decide +kernel
theorem d_Mo_init_169 : decode b_Mo_init 169 = .ok (.newarray .boolean, 2) := by decide +kernel
theorem d_Mo_init_171 : decode b_Mo_init 171 = .ok (.putfield 69, 3) := by decide +kernel
theorem d_Mo_init_174 : decode b_Mo_init 174 = .ok (.aload_n 0, 1) := by decide +kernel
theorem d_Mo_init_175 : decode b_Mo_init 175 = .ok (.bipush 60, 2) := by decide +kernel
theorem d_Mo_init_177 : decode b_Mo_init 177 = .ok (.newarray .int, 2) := by decide +kernel
theorem d_Mo_init_179 : decode b_Mo_init 179 = .ok (.putfield 73, 3) := by decide +kernel
theorem d_Mo_init_182 : decode b_Mo_init 182 = .ok (.aload_n 0, 1) := by decide +kernel
theorem d_Mo_init_183 : decode b_Mo_init 183 = .ok (.sipush 180, 3) := by decide +kernel
theorem d_Mo_init_186 : decode b_Mo_init 186 = .ok (.newarray .int, 2) := by decide +kernel
theorem d_Mo_init_188 : decode b_Mo_init 188 = .ok (.putfield 76, 3) := by decide +kernel
theorem d_Mo_init_191 : decode b_Mo_init 191 = .ok (.aload_n 0, 1) := by decide +kernel
theorem d_Mo_init_192 : decode b_Mo_init 192 = .ok (.bipush 80, 2) := by decide +kernel
theorem d_Mo_init_194 : decode b_Mo_init 194 = .ok (.newarray .int, 2) := by decide +kernel
theorem d_Mo_init_196 : decode b_Mo_init 196 = .ok (.putfield 79, 3) := by decide +kernel
theorem d_Mo_init_199 : decode b_Mo_init 199 = .ok (.aload_n 0, 1) := by decide +kernel
theorem d_Mo_init_200 : decode b_Mo_init 200 = .ok (.bipush 60, 2) := by decide +kernel
theorem d_Mo_init_202 : decode b_Mo_init 202 = .ok (.newarray .int, 2) := by decide +kernel
theorem d_Mo_init_204 : decode b_Mo_init 204 = .ok (.putfield 82, 3) := by decide +kernel
theorem d_Mo_init_207 : decode b_Mo_init 207 = .ok (.aload_n 0, 1) := by decide +kernel
theorem d_Mo_init_208 : decode b_Mo_init 208 = .ok (.sipush 180, 3) := by decide +kernel
theorem d_Mo_init_211 : decode b_Mo_init 211 = .ok (.newarray .int, 2) := by decide +kernel
theorem d_Mo_init_213 : decode b_Mo_init 213 = .ok (.putfield 85, 3) := by decide +kernel
theorem d_Mo_init_216 : decode b_Mo_init 216 = .ok (.aload_n 0, 1) := by decide +kernel
theorem d_Mo_init_217 : decode b_Mo_init 217 = .ok (.bipush 60, 2) := by decide +kernel
theorem d_Mo_init_219 : decode b_Mo_init 219 = .ok (.newarray .int, 2) := by decide +kernel
theorem d_Mo_init_221 : decode b_Mo_init 221 = .ok (.putfield 88, 3) := by decide +kernel
theorem d_Mo_init_224 : decode b_Mo_init 224 = .ok (.aload_n 0, 1) := by decide +kernel
theorem d_Mo_init_225 : decode b_Mo_init 225 = .ok (.bipush 60, 2) := by decide +kernel
theorem d_Mo_init_227 : decode b_Mo_init 227 = .ok (.newarray .int, 2) := by decide +kernel
theorem d_Mo_init_229 : decode b_Mo_init 229 = .ok (.putfield 91, 3) := by decide +kernel
theorem d_Mo_init_232 : decode b_Mo_init 232 = .ok (.aload_n 0, 1) := by decide +kernel
theorem d_Mo_init_233 : decode b_Mo_init 233 = .ok (.bipush 60, 2) := by decide +kernel
theorem d_Mo_init_235 : decode b_Mo_init 235 = .ok (.newarray .int, 2) := by decide +kernel
theorem d_Mo_init_237 : decode b_Mo_init 237 = .ok (.putfield 94, 3) := by decide +kernel
theorem d_Mo_init_240 : decode b_Mo_init 240 = .ok (.aload_n 0, 1) := by decide +kernel
theorem d_Mo_init_241 : decode b_Mo_init 241 = .ok (.bipush 60, 2) := by decide +kernel
theorem d_Mo_init_243 : decode b_Mo_init 243 = .ok (.newarray .int, 2) := by decide +kernel
theorem d_Mo_init_245 : decode b_Mo_init 245 = .ok (.putfield 97, 3) := by decide +kernel
theorem d_Mo_init_248 : decode b_Mo_init 248 = .ok (.aload_n 0, 1) := by decide +kernel
theorem d_Mo_init_249 : decode b_Mo_init 249 = .ok (.bipush 60, 2) := by decide +kernel
theorem d_Mo_init_251 : decode b_Mo_init 251 = .ok (.newarray .int, 2) := by decide +kernel
theorem d_Mo_init_253 : decode b_Mo_init 253 = .ok (.putfield 100, 3) := by decide +kernel
theorem d_Mo_init_256 : decode b_Mo_init 256 = .ok (.aload_n 0, 1) := by decide +kernel
theorem d_Mo_init_257 : decode b_Mo_init 257 = .ok (.bipush 60, 2) := by decide +kernel
theorem d_Mo_init_259 : decode b_Mo_init 259 = .ok (.newarray .int, 2) := by decide +kernel
theorem d_Mo_init_261 : decode b_Mo_init 261 = .ok (.putfield 103, 3) := by decide +kernel
theorem d_Mo_init_264 : decode b_Mo_init 264 = .ok (.aload_n 0, 1) := by decide +kernel
theorem d_Mo_init_265 : decode b_Mo_init 265 = .ok (.sipush 960, 3) := by decide +kernel
theorem d_Mo_init_268 : decode b_Mo_init 268 = .ok (.newarray .int, 2) := by decide +kernel
theorem d_Mo_init_270 : decode b_Mo_init 270 = .ok (.putfield 106, 3) := by decide +kernel
theorem d_Mo_init_273 : decode b_Mo_init 273 = .ok (.aload_n 0, 1) := by decide +kernel
theorem d_Mo_init_274 : decode b_Mo_init 274 = .ok (.sipush 540, 3) := by decide +kernel
theorem d_Mo_init_277 : decode b_Mo_init 277 = .ok (.newarray .int, 2) := by decide +kernel
theorem d_Mo_init_279 : decode b_Mo_init 279 = .ok (.putfield 109, 3) := by decide +kernel
theorem d_Mo_init_282 : decode b_Mo_init 282 = .ok (.aload_n 0, 1) := by decide +kernel
theorem d_Mo_init_283 : decode b_Mo_init 283 = .ok (.sipush 540, 3) := by decide +kernel
theorem d_Mo_init_286 : decode b_Mo_init 286 = .ok (.newarray .int, 2) := by decide +kernel
theorem d_Mo_init_288 : decode b_Mo_init 288 = .ok (.putfield 112, 3) := by decide +kernel
theorem d_Mo_init_291 : decode b_Mo_init 291 = .ok (.aload_n 0, 1) := by decide +kernel
theorem d_Mo_init_292 : decode b_Mo_init 292 = .ok (.bipush 16, 2) := by decide +kernel
theorem d_Mo_init_294 : decode b_Mo_init 294 = .ok (.newarray .int, 2) := by decide +kernel
theorem d_Mo_init_296 : decode b_Mo_init 296 = .ok (.putfield 115, 3) := by decide +kernel
theorem d_Mo_init_299 : decode b_Mo_init 299 = .ok (.aload_n 0, 1) := by decide +kernel
theorem d_Mo_init_300 : decode b_Mo_init 300 = .ok (.iconst (-1), 1) := by decide +kernel
theorem d_Mo_init_301 : decode b_Mo_init 301 = .ok (.putfield 118, 3) := by decide +kernel
theorem d_Mo_init_304 : decode b_Mo_init 304 = .ok (.aload_n 0, 1) := by decide +kernel
theorem d_Mo_init_305 : decode b_Mo_init 305 = .ok (.bipush 16, 2) := by decide +kernel
theorem d_Mo_init_307 : decode b_Mo_init 307 = .ok (.newarray .int, 2) := by decide +kernel
theorem d_Mo_init_309 : decode b_Mo_init 309 = .ok (.putfield 121, 3) := by decide +kernel
theorem d_Mo_init_312 : decode b_Mo_init 312 = .ok (.aload_n 0, 1) := by decide +kernel
theorem d_Mo_init_313 : decode b_Mo_init 313 = .ok (.bipush 10, 2) := by decide +kernel
theorem d_Mo_init_315 : decode b_Mo_init 315 = .ok (.newarray .int, 2) := by decide +kernel
theorem d_Mo_init_317 : decode b_Mo_init 317 = .ok (.putfield 124, 3) := by decide +kernel
theorem d_Mo_init_320 : decode b_Mo_init 320 = .ok (.aload_n 0, 1) := by decide +kernel
theorem d_Mo_init_321 : decode b_Mo_init 321 = .ok (.bipush 10, 2) := by decide +kernel
theorem d_Mo_init_323 : decode b_Mo_init 323 = .ok (.newarray .int, 2) := by decide +kernel
theorem d_Mo_init_325 : decode b_Mo_init 325 = .ok (.putfield 127, 3) := by decide +kernel
theorem d_Mo_init_328 : decode b_Mo_init 328 = .ok (.aload_n 0, 1) := by decide +kernel
theorem d_Mo_init_329 : decode b_Mo_init 329 = .ok (.sipush 160, 3) := by decide +kernel
theorem d_Mo_init_332 : decode b_Mo_init 332 = .ok (.newarray .int, 2) := by decide +kernel
theorem d_Mo_init_334 : decode b_Mo_init 334 = .ok (.putfield 130, 3) := by decide +kernel
theorem d_Mo_init_337 : decode b_Mo_init 337 = .ok (.aload_n 0, 1) := by decide +kernel
theorem d_Mo_init_338 : decode b_Mo_init 338 = .ok (.sipush 160, 3) := by decide +kernel
theorem d_Mo_init_341 : decode b_Mo_init 341 = .ok (.newarray .int, 2) := by decide +kernel
theorem d_Mo_init_343 : decode b_Mo_init 343 = .ok (.putfield 133, 3) := by decide +kernel
theorem d_Mo_init_346 : decode b_Mo_init 346 = .ok (.iconst 0, 1) := by decide +kernel
theorem d_Mo_init_347 : decode b_Mo_init 347 = .ok (.istore_n 1, 1) := by decide +kernel
theorem d_Mo_init_348 : decode b_Mo_init 348 = .ok (.iload_n 1, 1) := by decide +kernel
theorem d_Mo_init_349 : decode b_Mo_init 349 = .ok (.bipush 29, 2) := by decide +kernel
theorem d_Mo_init_351 : decode b_Mo_init 351 = .ok (.if_icmp .ge 76, 3) := by decide +kernel
theorem d_Mo_init_354 : decode b_Mo_init 354 = .ok (.aload_n 0, 1) := by decide +kernel
theorem d_Mo_init_355 : decode b_Mo_init 355 = .ok (.getfield 7, 3) := by decide +kernel
theorem d_Mo_init_358 : decode b_Mo_init 358 = .ok (.iload_n 1, 1) := by decide +kernel
theorem d_Mo_init_359 : decode b_Mo_init 359 = .ok (.iload_n 1, 1) := by decide +kernel
theorem d_Mo_init_360 : decode b_Mo_init 360 = .ok (.iconst 3, 1) := by decide +kernel
theorem d_Mo_init_361 : decode b_Mo_init 361 = .ok (.if_icmp .ge 7, 3) := by decide +kernel
theorem d_Mo_init_364 : decode b_Mo_init 364 = .ok (.iload_n 1, 1) := by decide +kernel
theorem d_Mo_init_365 : decode b_Mo_init 365 = .ok (.goto 4, 3) := by decide +kernel
theorem d_Mo_init_368 : decode b_Mo_init 368 = .ok (.iconst 4, 1) := by decide +kernel
theorem d_Mo_init_369 : decode b_Mo_init 369 = .ok (.iastore, 1) := by decide +kernel
theorem d_Mo_init_370 : decode b_Mo_init 370 = .ok (.aload_n 0, 1) := by decide +kernel
theorem d_Mo_init_371 : decode b_Mo_init 371 = .ok (.getfield 17, 3) := by decide +kernel
theorem d_Mo_init_374 : decode b_Mo_init 374 = .ok (.iload_n 1, 1) := by decide +kernel
theorem d_Mo_init_375 : decode b_Mo_init 375 = .ok (.iload_n 1, 1) := by decide +kernel
theorem d_Mo_init_376 : decode b_Mo_init 376 = .ok (.iconst 3, 1) := by decide +kernel
theorem d_Mo_init_377 : decode b_Mo_init 377 = .ok (.if_icmp .ge 7, 3) := by decide +kernel
theorem d_Mo_init_380 : decode b_Mo_init 380 = .ok (.iconst 0, 1) := by decide +kernel
theorem d_Mo_init_381 : decode b_Mo_init 381 = .ok (.goto 4, 3) := by decide +kernel
theorem d_Mo_init_384 : decode b_Mo_init 384 = .ok (.iconst 1, 1) := by decide +kernel
theorem d_Mo_init_385 : decode b_Mo_init 385 = .ok (.iastore, 1) := by decide +kernel
theorem d_Mo_init_386 : decode b_Mo_init 386 = .ok (.aload_n 0, 1) := by decide +kernel
theorem d_Mo_init_387 : decode b_Mo_init 387 = .ok (.getfield 26, 3) := by decide +kernel
theorem d_Mo_init_390 : decode b_Mo_init 390 = .ok (.iload_n 1, 1) := by decide +kernel
theorem d_Mo_init_391 : decode b_Mo_init 391 = .ok (.iload_n 1, 1) := by decide +kernel
theorem d_Mo_init_392 : decode b_Mo_init 392 = .ok (.iconst 3, 1) := by decide +kernel
theorem d_Mo_init_393 : decode b_Mo_init 393 = .ok (.if_icmp .ge 7, 3) := by decide +kernel
theorem d_Mo_init_396 : decode b_Mo_init 396 = .ok (.lconst 0, 1) := by decide +kernel
theorem d_Mo_init_397 : decode b_Mo_init 397 = .ok (.goto 9, 3) := by decide +kernel
theorem d_Mo_init_400 : decode b_Mo_init 400 = .ok (.ldc2_w 136, 3) := by decide +kernel
theorem d_Mo_init_403 : decode b_Mo_init 403 = .ok (.iload_n 1, 1) := by decide +kernel
theorem d_Mo_init_404 : decode b_Mo_init 404 = .ok (.i2l, 1) := by decide +kernel
theorem d_Mo_init_405 : decode b_Mo_init 405 = .ok (.ladd, 1) := by decide +kernel
theorem d_Mo_init_406 : decode b_Mo_init 406 = .ok (.lastore, 1) := by decide +kernel
theorem d_Mo_init_407 : decode b_Mo_init 407 = .ok (.aload_n 0, 1) := by decide +kernel
theorem d_Mo_init_408 : decode b_Mo_init 408 = .ok (.getfield 20, 3) := by decide +kernel
theorem d_Mo_init_411 : decode b_Mo_init 411 = .ok (.iload_n 1, 1) := by decide +kernel
theorem d_Mo_init_412 : decode b_Mo_init 412 = .ok (.iconst 1, 1) := by decide +kernel
theorem d_Mo_init_413 : decode b_Mo_init 413 = .ok (.iastore, 1) := by decide +kernel
theorem d_Mo_init_414 : decode b_Mo_init 414 = .ok (.aload_n 0, 1) := by decide +kernel
theorem d_Mo_init_415 : decode b_Mo_init 415 = .ok (.getfield 23, 3) := by decide +kernel
theorem d_Mo_init_418 : decode b_Mo_init 418 = .ok (.iload_n 1, 1) := by decide +kernel
theorem d_Mo_init_419 : decode b_Mo_init 419 = .ok (.iconst 1, 1) := by decide +kernel
theorem d_Mo_init_420 : decode b_Mo_init 420 = .ok (.iastore, 1) := by decide +kernel
theorem d_Mo_init_421 : decode b_Mo_init 421 = .ok (.iinc 1 1, 3) := by decide +kernel
theorem d_Mo_init_424 : decode b_Mo_init 424 = .ok (.goto (-76), 3) := by decide +kernel
theorem d_Mo_init_427 : decode b_Mo_init 427 = .ok (.return_, 1) := by decide +kernel
theorem mo_c94 : Cond.constantLong R_Mo 136 94 ∈ g_tbl := g_in 954 (by decide +kernel) (by decide +kernel)
set_option maxHeartbeats 4000000 in
set_option maxRecDepth 100000 in
theorem c_Mo_init (l : Launch) (E : gh_E) (sz : Nat) (f : gh_F) (a : Nat) (ad0 : Nat → Nat) (ha : f a = some (.inr (9, (List.range 60).map (mo_f0 ad0 (fun _ => 0) 0)))) : gh_M l y_Mo_init b_Mo_init 2 none E sz [.ref a] f { frames := 2, cells := 39, slots := 19676, locals := 60 } (fun r g => r = none ∧ ∃ ad : Nat → Nat, mo_R E g a ad mo_s0 (mo_i0 29) (mo_j0 29) ∧ (∀ k, k < 60 → mo_K k < 8 → f (ad k) = none) ∧ gh_fr f g (fun b => b ∈ ([a] : List Nat))) := by
  refine gh_open (by decide) (Nat.le_of_ble_eq_true rfl) ?_
  intro p e s m args below meth c A ls hAe C V hr hlocks hname hl
  have hx := C.1
  have hb := C.2.1
  have hini : meth.name = "<init>" := hname
  have hl : lv_has ls 2 [(0, .ref a)] := hl
  refine lv_aload_n hx hb d_Mo_init_0 rfl (lv_at hl 0 rfl) ?_
  refine gh_obj C hl.1 o_Mo_1 (by decide) (by decide) d_Mo_init_1 ?_
  have X : mo_R0 E f a ad0 (fun _ => 0) 0 ∧ gh_fr f f (fun b => b ∈ ([a] : List Nat)) := ⟨⟨ha, fun k h => absurd h (Nat.not_lt_zero k), fun j k h => absurd h (Nat.not_lt_zero j)⟩, gh_fr.rf⟩
  have N : ∀ k, k < 0 → mo_K k < 8 → f (ad0 k) = none := fun k h => absurd h (Nat.not_lt_zero k)
  refine lv_aload_n hx hb d_Mo_init_4 rfl (lv_at hl 0 rfl) ?_
  refine lv_sipush (v := 760) hx hb d_Mo_init_5 (by decide) ?_
  refine mo_lay C V hini X 1 (by decide) (by decide) (by decide) (by decide) (atype := .int) (ty := .int) rfl ac_int (fun _ h => by cases h) (t0 := 0) (N := 760) (a0 := (760, .inl (fun _ => 0))) rfl rfl (gh_a0i _ .int rfl) (by decide) (by decide) (by decide +kernel) (by first | decide | omega) (by first | decide | omega) f_Mo_7 rfl (fun _ => ⟨rfl, rfl⟩) d_Mo_init_8 d_Mo_init_10 (fun q1 f1 H locs hq0 V1 X1 => ?_)
  have N1 := mo_nn (k := 1) N (by decide) hq0
  clear V X N
  have V := V1
  have X := X1
  have N := N1
  clear V1 X1 N1 hq0
  refine lv_aload_n hx hb d_Mo_init_13 rfl (lv_at hl 0 rfl) ?_
  refine lv_sipush (v := 760) hx hb d_Mo_init_14 (by decide) ?_
  refine mo_lay C V hini X 2 (by decide) (by decide) (by decide) (by decide) (atype := .long) (ty := .long) rfl ac_long (fun _ h => by cases h) (t0 := 1) (N := 760) (a0 := (760, .inr (.inl (fun _ => 0)))) rfl rfl (gh_a0l _) (by decide) (by decide) (by decide +kernel) (by first | decide | omega) (by first | decide | omega) f_Mo_13 rfl (fun _ => ⟨rfl, rfl⟩) d_Mo_init_17 d_Mo_init_19 (fun q2 f1 H locs hq0 V1 X1 => ?_)
  have N1 := mo_nn (k := 2) N (by decide) hq0
  clear V X N
  have V := V1
  have X := X1
  have N := N1
  clear V1 X1 N1 hq0
  refine lv_aload_n hx hb d_Mo_init_22 rfl (lv_at hl 0 rfl) ?_
  refine lv_sipush (v := 760) hx hb d_Mo_init_23 (by decide) ?_
  refine mo_lay C V hini X 3 (by decide) (by decide) (by decide) (by decide) (atype := .int) (ty := .int) rfl ac_int (fun _ h => by cases h) (t0 := 0) (N := 760) (a0 := (760, .inl (fun _ => 0))) rfl rfl (gh_a0i _ .int rfl) (by decide) (by decide) (by decide +kernel) (by first | decide | omega) (by first | decide | omega) f_Mo_17 rfl (fun _ => ⟨rfl, rfl⟩) d_Mo_init_26 d_Mo_init_28 (fun q3 f1 H locs hq0 V1 X1 => ?_)
  have N1 := mo_nn (k := 3) N (by decide) hq0
  clear V X N
  have V := V1
  have X := X1
  have N := N1
  clear V1 X1 N1 hq0
  refine lv_aload_n hx hb d_Mo_init_31 rfl (lv_at hl 0 rfl) ?_
  refine lv_sipush (v := 760) hx hb d_Mo_init_32 (by decide) ?_
  refine mo_lay C V hini X 4 (by decide) (by decide) (by decide) (by decide) (atype := .int) (ty := .int) rfl ac_int (fun _ h => by cases h) (t0 := 0) (N := 760) (a0 := (760, .inl (fun _ => 0))) rfl rfl (gh_a0i _ .int rfl) (by decide) (by decide) (by decide +kernel) (by first | decide | omega) (by first | decide | omega) f_Mo_20 rfl (fun _ => ⟨rfl, rfl⟩) d_Mo_init_35 d_Mo_init_37 (fun q4 f1 H locs hq0 V1 X1 => ?_)
  have N1 := mo_nn (k := 4) N (by decide) hq0
  clear V X N
  have V := V1
  have X := X1
  have N := N1
  clear V1 X1 N1 hq0
  refine lv_aload_n hx hb d_Mo_init_40 rfl (lv_at hl 0 rfl) ?_
  refine lv_sipush (v := 760) hx hb d_Mo_init_41 (by decide) ?_
  refine mo_lay C V hini X 5 (by decide) (by decide) (by decide) (by decide) (atype := .int) (ty := .int) rfl ac_int (fun _ h => by cases h) (t0 := 0) (N := 760) (a0 := (760, .inl (fun _ => 0))) rfl rfl (gh_a0i _ .int rfl) (by decide) (by decide) (by decide +kernel) (by first | decide | omega) (by first | decide | omega) f_Mo_23 rfl (fun _ => ⟨rfl, rfl⟩) d_Mo_init_44 d_Mo_init_46 (fun q5 f1 H locs hq0 V1 X1 => ?_)
  have N1 := mo_nn (k := 5) N (by decide) hq0
  clear V X N
  have V := V1
  have X := X1
  have N := N1
  clear V1 X1 N1 hq0
  refine lv_aload_n hx hb d_Mo_init_49 rfl (lv_at hl 0 rfl) ?_
  refine lv_sipush (v := 760) hx hb d_Mo_init_50 (by decide) ?_
  refine mo_lay C V hini X 6 (by decide) (by decide) (by decide) (by decide) (atype := .long) (ty := .long) rfl ac_long (fun _ h => by cases h) (t0 := 1) (N := 760) (a0 := (760, .inr (.inl (fun _ => 0)))) rfl rfl (gh_a0l _) (by decide) (by decide) (by decide +kernel) (by first | decide | omega) (by first | decide | omega) f_Mo_26 rfl (fun _ => ⟨rfl, rfl⟩) d_Mo_init_53 d_Mo_init_55 (fun q6 f1 H locs hq0 V1 X1 => ?_)
  have N1 := mo_nn (k := 6) N (by decide) hq0
  clear V X N
  have V := V1
  have X := X1
  have N := N1
  clear V1 X1 N1 hq0
  refine lv_aload_n hx hb d_Mo_init_58 rfl (lv_at hl 0 rfl) ?_
  refine lv_sipush (v := 760) hx hb d_Mo_init_59 (by decide) ?_
  refine mo_lay C V hini X 7 (by decide) (by decide) (by decide) (by decide) (atype := .long) (ty := .long) rfl ac_long (fun _ h => by cases h) (t0 := 1) (N := 760) (a0 := (760, .inr (.inl (fun _ => 0)))) rfl rfl (gh_a0l _) (by decide) (by decide) (by decide +kernel) (by first | decide | omega) (by first | decide | omega) f_Mo_29 rfl (fun _ => ⟨rfl, rfl⟩) d_Mo_init_62 d_Mo_init_64 (fun q7 f1 H locs hq0 V1 X1 => ?_)
  have N1 := mo_nn (k := 7) N (by decide) hq0
  clear V X N
  have V := V1
  have X := X1
  have N := N1
  clear V1 X1 N1 hq0
  refine lv_aload_n hx hb d_Mo_init_67 rfl (lv_at hl 0 rfl) ?_
  refine lv_sipush (v := 760) hx hb d_Mo_init_68 (by decide) ?_
  refine mo_lay C V hini X 8 (by decide) (by decide) (by decide) (by decide) (atype := .long) (ty := .long) rfl ac_long (fun _ h => by cases h) (t0 := 1) (N := 760) (a0 := (760, .inr (.inl (fun _ => 0)))) rfl rfl (gh_a0l _) (by decide) (by decide) (by decide +kernel) (by first | decide | omega) (by first | decide | omega) f_Mo_32 rfl (fun _ => ⟨rfl, rfl⟩) d_Mo_init_71 d_Mo_init_73 (fun q8 f1 H locs hq0 V1 X1 => ?_)
  have N1 := mo_nn (k := 8) N (by decide) hq0
  clear V X N
  have V := V1
  have X := X1
  have N := N1
  clear V1 X1 N1 hq0
  refine lv_aload_n hx hb d_Mo_init_76 rfl (lv_at hl 0 rfl) ?_
  refine lv_sipush (v := 760) hx hb d_Mo_init_77 (by decide) ?_
  refine mo_lay C V hini X 9 (by decide) (by decide) (by decide) (by decide) (atype := .int) (ty := .int) rfl ac_int (fun _ h => by cases h) (t0 := 0) (N := 760) (a0 := (760, .inl (fun _ => 0))) rfl rfl (gh_a0i _ .int rfl) (by decide) (by decide) (by decide +kernel) (by first | decide | omega) (by first | decide | omega) f_Mo_35 rfl (fun _ => ⟨rfl, rfl⟩) d_Mo_init_80 d_Mo_init_82 (fun q9 f1 H locs hq0 V1 X1 => ?_)
  have N1 := mo_nn (k := 9) N (by decide) hq0
  clear V X N
  have V := V1
  have X := X1
  have N := N1
  clear V1 X1 N1 hq0
  refine lv_aload_n hx hb d_Mo_init_85 rfl (lv_at hl 0 rfl) ?_
  refine lv_sipush (v := 8800) hx hb d_Mo_init_86 (by decide) ?_
  refine mo_lay C V hini X 10 (by decide) (by decide) (by decide) (by decide) (atype := .int) (ty := .int) rfl ac_int (fun _ h => by cases h) (t0 := 0) (N := 8800) (a0 := (8800, .inl (fun _ => 0))) rfl rfl (gh_a0i _ .int rfl) (by decide) (by decide) (by decide +kernel) (by first | decide | omega) (by first | decide | omega) f_Mo_38 rfl (fun _ => ⟨rfl, rfl⟩) d_Mo_init_89 d_Mo_init_91 (fun q10 f1 H locs hq0 V1 X1 => ?_)
  have N1 := mo_nn (k := 10) N (by decide) hq0
  clear V X N
  have V := V1
  have X := X1
  have N := N1
  clear V1 X1 N1 hq0
  refine lv_aload_n hx hb d_Mo_init_94 rfl (lv_at hl 0 rfl) ?_
  refine lv_sipush (v := 240) hx hb d_Mo_init_95 (by decide) ?_
  refine mo_lay C V hini X 13 (by decide) (by decide) (by decide) (by decide) (atype := .int) (ty := .int) rfl ac_int (fun _ h => by cases h) (t0 := 0) (N := 240) (a0 := (240, .inl (fun _ => 0))) rfl rfl (gh_a0i _ .int rfl) (by decide) (by decide) (by decide +kernel) (by first | decide | omega) (by first | decide | omega) f_Mo_41 rfl (fun _ => ⟨rfl, rfl⟩) d_Mo_init_98 d_Mo_init_100 (fun q13 f1 H locs hq0 V1 X1 => ?_)
  have N1 := mo_nn (k := 13) N (by decide) hq0
  clear V X N
  have V := V1
  have X := X1
  have N := N1
  clear V1 X1 N1 hq0
  refine lv_aload_n hx hb d_Mo_init_103 rfl (lv_at hl 0 rfl) ?_
  refine lv_bipush (v := 32) hx hb d_Mo_init_104 (by decide) ?_
  refine mo_lay C V hini X 14 (by decide) (by decide) (by decide) (by decide) (atype := .int) (ty := .int) rfl ac_int (fun _ h => by cases h) (t0 := 0) (N := 32) (a0 := (32, .inl (fun _ => 0))) rfl rfl (gh_a0i _ .int rfl) (by decide) (by decide) (by decide +kernel) (by first | decide | omega) (by first | decide | omega) f_Mo_44 rfl (fun _ => ⟨rfl, rfl⟩) d_Mo_init_106 d_Mo_init_108 (fun q14 f1 H locs hq0 V1 X1 => ?_)
  have N1 := mo_nn (k := 14) N (by decide) hq0
  clear V X N
  have V := V1
  have X := X1
  have N := N1
  clear V1 X1 N1 hq0
  refine lv_aload_n hx hb d_Mo_init_111 rfl (lv_at hl 0 rfl) ?_
  refine lv_bipush (v := 32) hx hb d_Mo_init_112 (by decide) ?_
  refine mo_lay C V hini X 15 (by decide) (by decide) (by decide) (by decide) (atype := .int) (ty := .int) rfl ac_int (fun _ h => by cases h) (t0 := 0) (N := 32) (a0 := (32, .inl (fun _ => 0))) rfl rfl (gh_a0i _ .int rfl) (by decide) (by decide) (by decide +kernel) (by first | decide | omega) (by first | decide | omega) f_Mo_47 rfl (fun _ => ⟨rfl, rfl⟩) d_Mo_init_114 d_Mo_init_116 (fun q15 f1 H locs hq0 V1 X1 => ?_)
  have N1 := mo_nn (k := 15) N (by decide) hq0
  clear V X N
  have V := V1
  have X := X1
  have N := N1
  clear V1 X1 N1 hq0
  refine lv_aload_n hx hb d_Mo_init_119 rfl (lv_at hl 0 rfl) ?_
  refine lv_iconst (v := (-1)) hx hb d_Mo_init_120 (by decide) ?_
  refine mo_sca C V X 18 (by decide) (by decide) f_Mo_50 rfl rfl rfl d_Mo_init_121 (fun f1 H locs V1 X1 => ?_)
  clear V X
  have V := V1
  have X := X1
  clear V1 X1
  refine lv_aload_n hx hb d_Mo_init_124 rfl (lv_at hl 0 rfl) ?_
  refine lv_bipush (v := 120) hx hb d_Mo_init_125 (by decide) ?_
  refine mo_lay C V hini X 19 (by decide) (by decide) (by decide) (by decide) (atype := .int) (ty := .int) rfl ac_int (fun _ h => by cases h) (t0 := 0) (N := 120) (a0 := (120, .inl (fun _ => 0))) rfl rfl (gh_a0i _ .int rfl) (by decide) (by decide) (by decide +kernel) (by first | decide | omega) (by first | decide | omega) f_Mo_54 rfl (fun _ => ⟨rfl, rfl⟩) d_Mo_init_127 d_Mo_init_129 (fun q19 f1 H locs hq0 V1 X1 => ?_)
  have N1 := mo_nn (k := 19) N (by decide) hq0
  clear V X N
  have V := V1
  have X := X1
  have N := N1
  clear V1 X1 N1 hq0
  refine lv_aload_n hx hb d_Mo_init_132 rfl (lv_at hl 0 rfl) ?_
  refine lv_sipush (v := 128) hx hb d_Mo_init_133 (by decide) ?_
  refine mo_lay C V hini X 22 (by decide) (by decide) (by decide) (by decide) (atype := .int) (ty := .int) rfl ac_int (fun _ h => by cases h) (t0 := 0) (N := 128) (a0 := (128, .inl (fun _ => 0))) rfl rfl (gh_a0i _ .int rfl) (by decide) (by decide) (by decide +kernel) (by first | decide | omega) (by first | decide | omega) f_Mo_57 rfl (fun _ => ⟨rfl, rfl⟩) d_Mo_init_136 d_Mo_init_138 (fun q22 f1 H locs hq0 V1 X1 => ?_)
  have N1 := mo_nn (k := 22) N (by decide) hq0
  clear V X N
  have V := V1
  have X := X1
  have N := N1
  clear V1 X1 N1 hq0
  refine lv_aload_n hx hb d_Mo_init_141 rfl (lv_at hl 0 rfl) ?_
  refine lv_sipush (v := 128) hx hb d_Mo_init_142 (by decide) ?_
  refine mo_lay C V hini X 23 (by decide) (by decide) (by decide) (by decide) (atype := .int) (ty := .int) rfl ac_int (fun _ h => by cases h) (t0 := 0) (N := 128) (a0 := (128, .inl (fun _ => 0))) rfl rfl (gh_a0i _ .int rfl) (by decide) (by decide) (by decide +kernel) (by first | decide | omega) (by first | decide | omega) f_Mo_60 rfl (fun _ => ⟨rfl, rfl⟩) d_Mo_init_145 d_Mo_init_147 (fun q23 f1 H locs hq0 V1 X1 => ?_)
  have N1 := mo_nn (k := 23) N (by decide) hq0
  clear V X N
  have V := V1
  have X := X1
  have N := N1
  clear V1 X1 N1 hq0
  refine lv_aload_n hx hb d_Mo_init_150 rfl (lv_at hl 0 rfl) ?_
  refine lv_bipush (v := 8) hx hb d_Mo_init_151 (by decide) ?_
  refine mo_lay C V hini X 24 (by decide) (by decide) (by decide) (by decide) (atype := .int) (ty := .int) rfl ac_int (fun _ h => by cases h) (t0 := 0) (N := 8) (a0 := (8, .inl (fun _ => 0))) rfl rfl (gh_a0i _ .int rfl) (by decide) (by decide) (by decide +kernel) (by first | decide | omega) (by first | decide | omega) f_Mo_63 rfl (fun _ => ⟨rfl, rfl⟩) d_Mo_init_153 d_Mo_init_155 (fun q24 f1 H locs hq0 V1 X1 => ?_)
  have N1 := mo_nn (k := 24) N (by decide) hq0
  clear V X N
  have V := V1
  have X := X1
  have N := N1
  clear V1 X1 N1 hq0
  refine lv_aload_n hx hb d_Mo_init_158 rfl (lv_at hl 0 rfl) ?_
  refine lv_bipush (v := 8) hx hb d_Mo_init_159 (by decide) ?_
  refine mo_lay C V hini X 25 (by decide) (by decide) (by decide) (by decide) (atype := .int) (ty := .int) rfl ac_int (fun _ h => by cases h) (t0 := 0) (N := 8) (a0 := (8, .inl (fun _ => 0))) rfl rfl (gh_a0i _ .int rfl) (by decide) (by decide) (by decide +kernel) (by first | decide | omega) (by first | decide | omega) f_Mo_66 rfl (fun _ => ⟨rfl, rfl⟩) d_Mo_init_161 d_Mo_init_163 (fun q25 f1 H locs hq0 V1 X1 => ?_)
  have N1 := mo_nn (k := 25) N (by decide) hq0
  clear V X N
  have V := V1
  have X := X1
  have N := N1
  clear V1 X1 N1 hq0
  refine lv_aload_n hx hb d_Mo_init_166 rfl (lv_at hl 0 rfl) ?_
  refine lv_bipush (v := 8) hx hb d_Mo_init_167 (by decide) ?_
  refine mo_lay C V hini X 26 (by decide) (by decide) (by decide) (by decide) (atype := .boolean) (ty := .boolean) rfl ac_boolean (fun _ h => by cases h) (t0 := 3) (N := 8) (a0 := (8, .inl (fun _ => 0))) rfl rfl (gh_a0i _ .boolean rfl) (by decide) (by decide) (by decide +kernel) (by first | decide | omega) (by first | decide | omega) f_Mo_69 rfl (fun _ => ⟨rfl, rfl⟩) d_Mo_init_169 d_Mo_init_171 (fun q26 f1 H locs hq0 V1 X1 => ?_)
  have N1 := mo_nn (k := 26) N (by decide) hq0
  clear V X N
  have V := V1
  have X := X1
  have N := N1
  clear V1 X1 N1 hq0
  refine lv_aload_n hx hb d_Mo_init_174 rfl (lv_at hl 0 rfl) ?_
  refine lv_bipush (v := 60) hx hb d_Mo_init_175 (by decide) ?_
  refine mo_lay C V hini X 29 (by decide) (by decide) (by decide) (by decide) (atype := .int) (ty := .int) rfl ac_int (fun _ h => by cases h) (t0 := 0) (N := 60) (a0 := (60, .inl (fun _ => 0))) rfl rfl (gh_a0i _ .int rfl) (by decide) (by decide) (by decide +kernel) (by first | decide | omega) (by first | decide | omega) f_Mo_73 rfl (fun _ => ⟨rfl, rfl⟩) d_Mo_init_177 d_Mo_init_179 (fun q29 f1 H locs hq0 V1 X1 => ?_)
  have N1 := mo_nn (k := 29) N (by decide) hq0
  clear V X N
  have V := V1
  have X := X1
  have N := N1
  clear V1 X1 N1 hq0
  refine lv_aload_n hx hb d_Mo_init_182 rfl (lv_at hl 0 rfl) ?_
  refine lv_sipush (v := 180) hx hb d_Mo_init_183 (by decide) ?_
  refine mo_lay C V hini X 31 (by decide) (by decide) (by decide) (by decide) (atype := .int) (ty := .int) rfl ac_int (fun _ h => by cases h) (t0 := 0) (N := 180) (a0 := (180, .inl (fun _ => 0))) rfl rfl (gh_a0i _ .int rfl) (by decide) (by decide) (by decide +kernel) (by first | decide | omega) (by first | decide | omega) f_Mo_76 rfl (fun _ => ⟨rfl, rfl⟩) d_Mo_init_186 d_Mo_init_188 (fun q31 f1 H locs hq0 V1 X1 => ?_)
  have N1 := mo_nn (k := 31) N (by decide) hq0
  clear V X N
  have V := V1
  have X := X1
  have N := N1
  clear V1 X1 N1 hq0
  refine lv_aload_n hx hb d_Mo_init_191 rfl (lv_at hl 0 rfl) ?_
  refine lv_bipush (v := 80) hx hb d_Mo_init_192 (by decide) ?_
  refine mo_lay C V hini X 32 (by decide) (by decide) (by decide) (by decide) (atype := .int) (ty := .int) rfl ac_int (fun _ h => by cases h) (t0 := 0) (N := 80) (a0 := (80, .inl (fun _ => 0))) rfl rfl (gh_a0i _ .int rfl) (by decide) (by decide) (by decide +kernel) (by first | decide | omega) (by first | decide | omega) f_Mo_79 rfl (fun _ => ⟨rfl, rfl⟩) d_Mo_init_194 d_Mo_init_196 (fun q32 f1 H locs hq0 V1 X1 => ?_)
  have N1 := mo_nn (k := 32) N (by decide) hq0
  clear V X N
  have V := V1
  have X := X1
  have N := N1
  clear V1 X1 N1 hq0
  refine lv_aload_n hx hb d_Mo_init_199 rfl (lv_at hl 0 rfl) ?_
  refine lv_bipush (v := 60) hx hb d_Mo_init_200 (by decide) ?_
  refine mo_lay C V hini X 33 (by decide) (by decide) (by decide) (by decide) (atype := .int) (ty := .int) rfl ac_int (fun _ h => by cases h) (t0 := 0) (N := 60) (a0 := (60, .inl (fun _ => 0))) rfl rfl (gh_a0i _ .int rfl) (by decide) (by decide) (by decide +kernel) (by first | decide | omega) (by first | decide | omega) f_Mo_82 rfl (fun _ => ⟨rfl, rfl⟩) d_Mo_init_202 d_Mo_init_204 (fun q33 f1 H locs hq0 V1 X1 => ?_)
  have N1 := mo_nn (k := 33) N (by decide) hq0
  clear V X N
  have V := V1
  have X := X1
  have N := N1
  clear V1 X1 N1 hq0
  refine lv_aload_n hx hb d_Mo_init_207 rfl (lv_at hl 0 rfl) ?_
  refine lv_sipush (v := 180) hx hb d_Mo_init_208 (by decide) ?_
  refine mo_lay C V hini X 34 (by decide) (by decide) (by decide) (by decide) (atype := .int) (ty := .int) rfl ac_int (fun _ h => by cases h) (t0 := 0) (N := 180) (a0 := (180, .inl (fun _ => 0))) rfl rfl (gh_a0i _ .int rfl) (by decide) (by decide) (by decide +kernel) (by first | decide | omega) (by first | decide | omega) f_Mo_85 rfl (fun _ => ⟨rfl, rfl⟩) d_Mo_init_211 d_Mo_init_213 (fun q34 f1 H locs hq0 V1 X1 => ?_)
  have N1 := mo_nn (k := 34) N (by decide) hq0
  clear V X N
  have V := V1
  have X := X1
  have N := N1
  clear V1 X1 N1 hq0
  refine lv_aload_n hx hb d_Mo_init_216 rfl (lv_at hl 0 rfl) ?_
  refine lv_bipush (v := 60) hx hb d_Mo_init_217 (by decide) ?_
  refine mo_lay C V hini X 35 (by decide) (by decide) (by decide) (by decide) (atype := .int) (ty := .int) rfl ac_int (fun _ h => by cases h) (t0 := 0) (N := 60) (a0 := (60, .inl (fun _ => 0))) rfl rfl (gh_a0i _ .int rfl) (by decide) (by decide) (by decide +kernel) (by first | decide | omega) (by first | decide | omega) f_Mo_88 rfl (fun _ => ⟨rfl, rfl⟩) d_Mo_init_219 d_Mo_init_221 (fun q35 f1 H locs hq0 V1 X1 => ?_)
  have N1 := mo_nn (k := 35) N (by decide) hq0
  clear V X N
  have V := V1
  have X := X1
  have N := N1
  clear V1 X1 N1 hq0
  refine lv_aload_n hx hb d_Mo_init_224 rfl (lv_at hl 0 rfl) ?_
  refine lv_bipush (v := 60) hx hb d_Mo_init_225 (by decide) ?_
  refine mo_lay C V hini X 36 (by decide) (by decide) (by decide) (by decide) (atype := .int) (ty := .int) rfl ac_int (fun _ h => by cases h) (t0 := 0) (N := 60) (a0 := (60, .inl (fun _ => 0))) rfl rfl (gh_a0i _ .int rfl) (by decide) (by decide) (by decide +kernel) (by first | decide | omega) (by first | decide | omega) f_Mo_91 rfl (fun _ => ⟨rfl, rfl⟩) d_Mo_init_227 d_Mo_init_229 (fun q36 f1 H locs hq0 V1 X1 => ?_)
  have N1 := mo_nn (k := 36) N (by decide) hq0
  clear V X N
  have V := V1
  have X := X1
  have N := N1
  clear V1 X1 N1 hq0
  refine lv_aload_n hx hb d_Mo_init_232 rfl (lv_at hl 0 rfl) ?_
  refine lv_bipush (v := 60) hx hb d_Mo_init_233 (by decide) ?_
  refine mo_lay C V hini X 37 (by decide) (by decide) (by decide) (by decide) (atype := .int) (ty := .int) rfl ac_int (fun _ h => by cases h) (t0 := 0) (N := 60) (a0 := (60, .inl (fun _ => 0))) rfl rfl (gh_a0i _ .int rfl) (by decide) (by decide) (by decide +kernel) (by first | decide | omega) (by first | decide | omega) f_Mo_94 rfl (fun _ => ⟨rfl, rfl⟩) d_Mo_init_235 d_Mo_init_237 (fun q37 f1 H locs hq0 V1 X1 => ?_)
  have N1 := mo_nn (k := 37) N (by decide) hq0
  clear V X N
  have V := V1
  have X := X1
  have N := N1
  clear V1 X1 N1 hq0
  refine lv_aload_n hx hb d_Mo_init_240 rfl (lv_at hl 0 rfl) ?_
  refine lv_bipush (v := 60) hx hb d_Mo_init_241 (by decide) ?_
  refine mo_lay C V hini X 38 (by decide) (by decide) (by decide) (by decide) (atype := .int) (ty := .int) rfl ac_int (fun _ h => by cases h) (t0 := 0) (N := 60) (a0 := (60, .inl (fun _ => 0))) rfl rfl (gh_a0i _ .int rfl) (by decide) (by decide) (by decide +kernel) (by first | decide | omega) (by first | decide | omega) f_Mo_97 rfl (fun _ => ⟨rfl, rfl⟩) d_Mo_init_243 d_Mo_init_245 (fun q38 f1 H locs hq0 V1 X1 => ?_)
  have N1 := mo_nn (k := 38) N (by decide) hq0
  clear V X N
  have V := V1
  have X := X1
  have N := N1
  clear V1 X1 N1 hq0
  refine lv_aload_n hx hb d_Mo_init_248 rfl (lv_at hl 0 rfl) ?_
  refine lv_bipush (v := 60) hx hb d_Mo_init_249 (by decide) ?_
  refine mo_lay C V hini X 39 (by decide) (by decide) (by decide) (by decide) (atype := .int) (ty := .int) rfl ac_int (fun _ h => by cases h) (t0 := 0) (N := 60) (a0 := (60, .inl (fun _ => 0))) rfl rfl (gh_a0i _ .int rfl) (by decide) (by decide) (by decide +kernel) (by first | decide | omega) (by first | decide | omega) f_Mo_100 rfl (fun _ => ⟨rfl, rfl⟩) d_Mo_init_251 d_Mo_init_253 (fun q39 f1 H locs hq0 V1 X1 => ?_)
  have N1 := mo_nn (k := 39) N (by decide) hq0
  clear V X N
  have V := V1
  have X := X1
  have N := N1
  clear V1 X1 N1 hq0
  refine lv_aload_n hx hb d_Mo_init_256 rfl (lv_at hl 0 rfl) ?_
  refine lv_bipush (v := 60) hx hb d_Mo_init_257 (by decide) ?_
  refine mo_lay C V hini X 40 (by decide) (by decide) (by decide) (by decide) (atype := .int) (ty := .int) rfl ac_int (fun _ h => by cases h) (t0 := 0) (N := 60) (a0 := (60, .inl (fun _ => 0))) rfl rfl (gh_a0i _ .int rfl) (by decide) (by decide) (by decide +kernel) (by first | decide | omega) (by first | decide | omega) f_Mo_103 rfl (fun _ => ⟨rfl, rfl⟩) d_Mo_init_259 d_Mo_init_261 (fun q40 f1 H locs hq0 V1 X1 => ?_)
  have N1 := mo_nn (k := 40) N (by decide) hq0
  clear V X N
  have V := V1
  have X := X1
  have N := N1
  clear V1 X1 N1 hq0
  refine lv_aload_n hx hb d_Mo_init_264 rfl (lv_at hl 0 rfl) ?_
  refine lv_sipush (v := 960) hx hb d_Mo_init_265 (by decide) ?_
  refine mo_lay C V hini X 41 (by decide) (by decide) (by decide) (by decide) (atype := .int) (ty := .int) rfl ac_int (fun _ h => by cases h) (t0 := 0) (N := 960) (a0 := (960, .inl (fun _ => 0))) rfl rfl (gh_a0i _ .int rfl) (by decide) (by decide) (by decide +kernel) (by first | decide | omega) (by first | decide | omega) f_Mo_106 rfl (fun _ => ⟨rfl, rfl⟩) d_Mo_init_268 d_Mo_init_270 (fun q41 f1 H locs hq0 V1 X1 => ?_)
  have N1 := mo_nn (k := 41) N (by decide) hq0
  clear V X N
  have V := V1
  have X := X1
  have N := N1
  clear V1 X1 N1 hq0
  refine lv_aload_n hx hb d_Mo_init_273 rfl (lv_at hl 0 rfl) ?_
  refine lv_sipush (v := 540) hx hb d_Mo_init_274 (by decide) ?_
  refine mo_lay C V hini X 42 (by decide) (by decide) (by decide) (by decide) (atype := .int) (ty := .int) rfl ac_int (fun _ h => by cases h) (t0 := 0) (N := 540) (a0 := (540, .inl (fun _ => 0))) rfl rfl (gh_a0i _ .int rfl) (by decide) (by decide) (by decide +kernel) (by first | decide | omega) (by first | decide | omega) f_Mo_109 rfl (fun _ => ⟨rfl, rfl⟩) d_Mo_init_277 d_Mo_init_279 (fun q42 f1 H locs hq0 V1 X1 => ?_)
  have N1 := mo_nn (k := 42) N (by decide) hq0
  clear V X N
  have V := V1
  have X := X1
  have N := N1
  clear V1 X1 N1 hq0
  refine lv_aload_n hx hb d_Mo_init_282 rfl (lv_at hl 0 rfl) ?_
  refine lv_sipush (v := 540) hx hb d_Mo_init_283 (by decide) ?_
  refine mo_lay C V hini X 43 (by decide) (by decide) (by decide) (by decide) (atype := .int) (ty := .int) rfl ac_int (fun _ h => by cases h) (t0 := 0) (N := 540) (a0 := (540, .inl (fun _ => 0))) rfl rfl (gh_a0i _ .int rfl) (by decide) (by decide) (by decide +kernel) (by first | decide | omega) (by first | decide | omega) f_Mo_112 rfl (fun _ => ⟨rfl, rfl⟩) d_Mo_init_286 d_Mo_init_288 (fun q43 f1 H locs hq0 V1 X1 => ?_)
  have N1 := mo_nn (k := 43) N (by decide) hq0
  clear V X N
  have V := V1
  have X := X1
  have N := N1
  clear V1 X1 N1 hq0
  refine lv_aload_n hx hb d_Mo_init_291 rfl (lv_at hl 0 rfl) ?_
  refine lv_bipush (v := 16) hx hb d_Mo_init_292 (by decide) ?_
  refine mo_lay C V hini X 44 (by decide) (by decide) (by decide) (by decide) (atype := .int) (ty := .int) rfl ac_int (fun _ h => by cases h) (t0 := 0) (N := 16) (a0 := (16, .inl (fun _ => 0))) rfl rfl (gh_a0i _ .int rfl) (by decide) (by decide) (by decide +kernel) (by first | decide | omega) (by first | decide | omega) f_Mo_115 rfl (fun _ => ⟨rfl, rfl⟩) d_Mo_init_294 d_Mo_init_296 (fun q44 f1 H locs hq0 V1 X1 => ?_)
  have N1 := mo_nn (k := 44) N (by decide) hq0
  clear V X N
  have V := V1
  have X := X1
  have N := N1
  clear V1 X1 N1 hq0
  refine lv_aload_n hx hb d_Mo_init_299 rfl (lv_at hl 0 rfl) ?_
  refine lv_iconst (v := (-1)) hx hb d_Mo_init_300 (by decide) ?_
  refine mo_sca C V X 49 (by decide) (by decide) f_Mo_118 rfl rfl rfl d_Mo_init_301 (fun f1 H locs V1 X1 => ?_)
  clear V X
  have V := V1
  have X := X1
  clear V1 X1
  refine lv_aload_n hx hb d_Mo_init_304 rfl (lv_at hl 0 rfl) ?_
  refine lv_bipush (v := 16) hx hb d_Mo_init_305 (by decide) ?_
  refine mo_lay C V hini X 50 (by decide) (by decide) (by decide) (by decide) (atype := .int) (ty := .int) rfl ac_int (fun _ h => by cases h) (t0 := 0) (N := 16) (a0 := (16, .inl (fun _ => 0))) rfl rfl (gh_a0i _ .int rfl) (by decide) (by decide) (by decide +kernel) (by first | decide | omega) (by first | decide | omega) f_Mo_121 rfl (fun _ => ⟨rfl, rfl⟩) d_Mo_init_307 d_Mo_init_309 (fun q50 f1 H locs hq0 V1 X1 => ?_)
  have N1 := mo_nn (k := 50) N (by decide) hq0
  clear V X N
  have V := V1
  have X := X1
  have N := N1
  clear V1 X1 N1 hq0
  refine lv_aload_n hx hb d_Mo_init_312 rfl (lv_at hl 0 rfl) ?_
  refine lv_bipush (v := 10) hx hb d_Mo_init_313 (by decide) ?_
  refine mo_lay C V hini X 52 (by decide) (by decide) (by decide) (by decide) (atype := .int) (ty := .int) rfl ac_int (fun _ h => by cases h) (t0 := 0) (N := 10) (a0 := (10, .inl (fun _ => 0))) rfl rfl (gh_a0i _ .int rfl) (by decide) (by decide) (by decide +kernel) (by first | decide | omega) (by first | decide | omega) f_Mo_124 rfl (fun _ => ⟨rfl, rfl⟩) d_Mo_init_315 d_Mo_init_317 (fun q52 f1 H locs hq0 V1 X1 => ?_)
  have N1 := mo_nn (k := 52) N (by decide) hq0
  clear V X N
  have V := V1
  have X := X1
  have N := N1
  clear V1 X1 N1 hq0
  refine lv_aload_n hx hb d_Mo_init_320 rfl (lv_at hl 0 rfl) ?_
  refine lv_bipush (v := 10) hx hb d_Mo_init_321 (by decide) ?_
  refine mo_lay C V hini X 53 (by decide) (by decide) (by decide) (by decide) (atype := .int) (ty := .int) rfl ac_int (fun _ h => by cases h) (t0 := 0) (N := 10) (a0 := (10, .inl (fun _ => 0))) rfl rfl (gh_a0i _ .int rfl) (by decide) (by decide) (by decide +kernel) (by first | decide | omega) (by first | decide | omega) f_Mo_127 rfl (fun _ => ⟨rfl, rfl⟩) d_Mo_init_323 d_Mo_init_325 (fun q53 f1 H locs hq0 V1 X1 => ?_)
  have N1 := mo_nn (k := 53) N (by decide) hq0
  clear V X N
  have V := V1
  have X := X1
  have N := N1
  clear V1 X1 N1 hq0
  refine lv_aload_n hx hb d_Mo_init_328 rfl (lv_at hl 0 rfl) ?_
  refine lv_sipush (v := 160) hx hb d_Mo_init_329 (by decide) ?_
  refine mo_lay C V hini X 58 (by decide) (by decide) (by decide) (by decide) (atype := .int) (ty := .int) rfl ac_int (fun _ h => by cases h) (t0 := 0) (N := 160) (a0 := (160, .inl (fun _ => 0))) rfl rfl (gh_a0i _ .int rfl) (by decide) (by decide) (by decide +kernel) (by first | decide | omega) (by first | decide | omega) f_Mo_130 rfl (fun _ => ⟨rfl, rfl⟩) d_Mo_init_332 d_Mo_init_334 (fun q58 f1 H locs hq0 V1 X1 => ?_)
  have N1 := mo_nn (k := 58) N (by decide) hq0
  clear V X N
  have V := V1
  have X := X1
  have N := N1
  clear V1 X1 N1 hq0
  refine lv_aload_n hx hb d_Mo_init_337 rfl (lv_at hl 0 rfl) ?_
  refine lv_sipush (v := 160) hx hb d_Mo_init_338 (by decide) ?_
  refine mo_lay C V hini X 59 (by decide) (by decide) (by decide) (by decide) (atype := .int) (ty := .int) rfl ac_int (fun _ h => by cases h) (t0 := 0) (N := 160) (a0 := (160, .inl (fun _ => 0))) rfl rfl (gh_a0i _ .int rfl) (by decide) (by decide) (by decide +kernel) (by first | decide | omega) (by first | decide | omega) f_Mo_133 rfl (fun _ => ⟨rfl, rfl⟩) d_Mo_init_341 d_Mo_init_343 (fun q59 f1 H locs hq0 V1 X1 => ?_)
  have N1 := mo_nn (k := 59) N (by decide) hq0
  clear V X N
  have V := V1
  have X := X1
  have N := N1
  clear V1 X1 N1 hq0
  obtain ⟨ad, S9, hR, hN, hS9⟩ : ∃ (ad : Nat → Nat) (S9 : Nat → Int32), mo_R E f1 a ad S9 (fun _ _ => 0) (fun _ _ => 0) ∧ (∀ k, k < 60 → mo_K k < 8 → f (ad k) = none) ∧ S9 = mo_s0 := ⟨_, _, X.1.full, N, by funext k; simp [va_up, mo_s0]; split <;> rename_i h <;> simp [h]⟩
  subst hS9
  have hfr0 := X.2
  clear X N
  have X : mo_X E f1 f1 a ad mo_s0 (mo_i0 0) (mo_j0 0) := ⟨by rw [mo_i0_0, mo_j0_0]; exact hR, gh_fr.rf⟩
  refine lv_iconst (v := 0) hx hb d_Mo_init_346 (by decide) ?_
  refine lv_istore_n hx hb d_Mo_init_347 rfl hl (by decide) rfl (fun ls hl => ?_)
  have hl : lv_has ls 2 [(1, .int (nI 0)), (0, .ref a)] := hl
  have loop : ∀ (n i : Nat) (f2 : gh_F) (H : Heap) (locs : List Loc) (ls : Array Slot), i + n = 29 → mo_X E f1 f2 a ad mo_s0 (mo_i0 i) (mo_j0 i) → gh_V E A f2 s H locs → lv_has ls 2 [(1, .int (nI i)), (0, .ref a)] → W p l e { frames := 2, cells := 39, slots := 19676, locals := 60 } s m args below meth c H locs (39) (19676) (MQ below (gh_Q E f (fun r g => r = none ∧ ∃ ad : Nat → Nat, mo_R E g a ad mo_s0 (mo_i0 29) (mo_j0 29) ∧ (∀ k, k < 60 → mo_K k < 8 → f (ad k) = none) ∧ gh_fr f g (fun b => b ∈ ([a] : List Nat)))) args s 39 19676 A) (F0 m 348 ls []) := by
    intro n
    induction n with
    | zero =>
      intro i f2 H locs ls hi X V hl
      have hi : 29 = i := by omega
      subst hi
      refine lv_iload_n hx hb d_Mo_init_348 rfl (lv_at hl 0 rfl) ?_
      refine lv_bipush (v := 29) hx hb d_Mo_init_349 (by decide) ?_
      refine lv_icmp_ge (tgt := 427) hx hb d_Mo_init_351 (by decide) (fun c1 => ?_) (fun c1 => absurd (show (29 : Int32) ≤ nI 29 from nI_le (a := 29) (Nat.le_refl _) (by decide)) c1)
      refine gh_retv hAe C V hr hlocks d_Mo_init_427 (by first | decide | omega | (dsimp only; omega)) (by first | decide | omega | (dsimp only; omega)) ?_
      exact ⟨rfl, ad, X.1, hN, hfr0.tr X.2 (fun b e hb z => by rcases z with z | ⟨k, hk, h8, z⟩; exact (by simp [z]); exact absurd hb (by rw [z, hN k hk h8]; exact fun h => by cases h))⟩
    | succ n ih =>
      intro i f2 H locs ls hi X V hl
      have hiN : i < 29 := by omega
      refine lv_iload_n hx hb d_Mo_init_348 rfl (lv_at hl 0 rfl) ?_
      refine lv_bipush (v := 29) hx hb d_Mo_init_349 (by decide) ?_
      refine lv_icmp_ge (tgt := 427) hx hb d_Mo_init_351 (by decide) (fun c2 => absurd c2 (show ¬ (29 : Int32) ≤ nI i from nI_ge (a := i) (b := 29) hiN (by decide))) (fun c2 => ?_)
      refine lv_aload_n hx hb d_Mo_init_354 rfl (lv_at hl 1 rfl) ?_
      refine mo_getA C V X 1 (by decide) (by decide) f_Mo_7 rfl d_Mo_init_355 ?_
      refine lv_iload_n hx hb d_Mo_init_358 rfl (lv_at hl 0 rfl) ?_
      refine lv_iload_n hx hb d_Mo_init_359 rfl (lv_at hl 0 rfl) ?_
      refine lv_iconst (v := 3) hx hb d_Mo_init_360 (by decide) ?_
      refine lv_icmp_ge (tgt := 368) hx hb d_Mo_init_361 (by decide) (fun c3 => ?_) (fun c3 => ?_)
      · have c3 : 3 ≤ i := by rw [← gq_le (a := 3) (b := i) (by omega) (by omega)]; exact c3
        refine lv_iconst (v := 4) hx hb d_Mo_init_368 (by decide) ?_
        refine mo_ist (k := 1) (i := i) (n := 760) C V X (by decide) (by decide) rfl (by omega) (by decide) d_Mo_init_369 (fun f1 H locs V1 X1 => ?_)
        clear V X
        have V := V1
        have X := X1
        clear V1 X1
        refine lv_aload_n hx hb d_Mo_init_370 rfl (lv_at hl 1 rfl) ?_
        refine mo_getA C V X 3 (by decide) (by decide) f_Mo_17 rfl d_Mo_init_371 ?_
        refine lv_iload_n hx hb d_Mo_init_374 rfl (lv_at hl 0 rfl) ?_
        refine lv_iload_n hx hb d_Mo_init_375 rfl (lv_at hl 0 rfl) ?_
        refine lv_iconst (v := 3) hx hb d_Mo_init_376 (by decide) ?_
        refine lv_icmp_ge (tgt := 384) hx hb d_Mo_init_377 (by decide) (fun c4 => ?_) (fun c4 => absurd (show (3 : Int32) ≤ nI i from nI_le (a := 3) (by omega) (by omega)) c4)
        refine lv_iconst (v := 1) hx hb d_Mo_init_384 (by decide) ?_
        refine mo_ist (k := 3) (i := i) (n := 760) C V X (by decide) (by decide) rfl (by omega) (by decide) d_Mo_init_385 (fun f1 H locs V1 X1 => ?_)
        clear V X
        have V := V1
        have X := X1
        clear V1 X1
        refine lv_aload_n hx hb d_Mo_init_386 rfl (lv_at hl 1 rfl) ?_
        refine mo_getA C V X 6 (by decide) (by decide) f_Mo_26 rfl d_Mo_init_387 ?_
        refine lv_iload_n hx hb d_Mo_init_390 rfl (lv_at hl 0 rfl) ?_
        refine lv_iload_n hx hb d_Mo_init_391 rfl (lv_at hl 0 rfl) ?_
        refine lv_iconst (v := 3) hx hb d_Mo_init_392 (by decide) ?_
        refine lv_icmp_ge (tgt := 400) hx hb d_Mo_init_393 (by decide) (fun c5 => ?_) (fun c5 => absurd (show (3 : Int32) ≤ nI i from nI_le (a := 3) (by omega) (by omega)) c5)
        refine lv_ldc2 (v := 94) hx hb C.2.2.2.1 (C.2.2.2.2.1 _ mo_c94) d_Mo_init_400 ?_
        refine lv_iload_n hx hb d_Mo_init_403 rfl (lv_at hl 0 rfl) ?_
        refine lv_i2l hx hb d_Mo_init_404 rfl ?_
        refine lv_ladd hx hb d_Mo_init_405 ?_
        refine mo_lst (k := 6) (i := i) (n := 760) C V X (by decide) (by decide) rfl (by omega) (by decide) d_Mo_init_406 (fun f1 H locs V1 X1 => ?_)
        clear V X
        have V := V1
        have X := X1
        clear V1 X1
        refine lv_aload_n hx hb d_Mo_init_407 rfl (lv_at hl 1 rfl) ?_
        refine mo_getA C V X 4 (by decide) (by decide) f_Mo_20 rfl d_Mo_init_408 ?_
        refine lv_iload_n hx hb d_Mo_init_411 rfl (lv_at hl 0 rfl) ?_
        refine lv_iconst (v := 1) hx hb d_Mo_init_412 (by decide) ?_
        refine mo_ist (k := 4) (i := i) (n := 760) C V X (by decide) (by decide) rfl (by omega) (by decide) d_Mo_init_413 (fun f1 H locs V1 X1 => ?_)
        clear V X
        have V := V1
        have X := X1
        clear V1 X1
        refine lv_aload_n hx hb d_Mo_init_414 rfl (lv_at hl 1 rfl) ?_
        refine mo_getA C V X 5 (by decide) (by decide) f_Mo_23 rfl d_Mo_init_415 ?_
        refine lv_iload_n hx hb d_Mo_init_418 rfl (lv_at hl 0 rfl) ?_
        refine lv_iconst (v := 1) hx hb d_Mo_init_419 (by decide) ?_
        refine mo_ist (k := 5) (i := i) (n := 760) C V X (by decide) (by decide) rfl (by omega) (by decide) d_Mo_init_420 (fun f1 H locs V1 X1 => ?_)
        clear V X
        have V := V1
        have X := X1
        clear V1 X1
        refine lv_iinc (k := 0) (v := (nI i) + 1) hx hb d_Mo_init_421 hl rfl (by rfl) (by decide) rfl (fun ls hl => ?_)
        have hl : lv_has ls 2 [(1, .int ((nI i) + 1)), (0, .ref a)] := hl
        refine lv_goto (tgt := 348) hx hb d_Mo_init_424 (by decide) ?_
        have hl : lv_has ls 2 [(1, .int ((nI i) + 1)), (0, .ref a)] := lv_sub hl [0, 1] rfl
        have hl : lv_has ls 2 [(1, .int (nI (i + 1))), (0, .ref a)] := by rw [nI_succ]; exact hl
        have eI : va_up (va_up (va_up (va_up (mo_i0 i) 1 (upd ((mo_i0 i) 1) i 4)) 3 (upd ((va_up (mo_i0 i) 1 (upd ((mo_i0 i) 1) i 4)) 3) i 1)) 4 (upd ((va_up (va_up (mo_i0 i) 1 (upd ((mo_i0 i) 1) i 4)) 3 (upd ((va_up (mo_i0 i) 1 (upd ((mo_i0 i) 1) i 4)) 3) i 1)) 4) i 1)) 5 (upd ((va_up (va_up (va_up (mo_i0 i) 1 (upd ((mo_i0 i) 1) i 4)) 3 (upd ((va_up (mo_i0 i) 1 (upd ((mo_i0 i) 1) i 4)) 3) i 1)) 4 (upd ((va_up (va_up (mo_i0 i) 1 (upd ((mo_i0 i) 1) i 4)) 3 (upd ((va_up (mo_i0 i) 1 (upd ((mo_i0 i) 1) i 4)) 3) i 1)) 4) i 1)) 5) i 1) = mo_i0 (i + 1) := mo_i0_at (by simp [mo_iv]; try omega) (by simp [mo_iv]; try omega)
        have eJ : va_up (mo_j0 i) 6 (vp_updL ((mo_j0 i) 6) i (94 + ((nI i).toInt64))) = mo_j0 (i + 1) := mo_j0_at (by simp [mo_jv]; try omega)
        rw [eI, eJ] at X
        exact ih (i + 1) _ H locs ls (by omega) X V hl
      · have c3 : ¬ 3 ≤ i := by rw [← gq_le (a := 3) (b := i) (by omega) (by omega)]; exact c3
        refine lv_iload_n hx hb d_Mo_init_364 rfl (lv_at hl 0 rfl) ?_
        refine lv_goto (tgt := 369) hx hb d_Mo_init_365 (by decide) ?_
        refine mo_ist (k := 1) (i := i) (n := 760) C V X (by decide) (by decide) rfl (by omega) (by decide) d_Mo_init_369 (fun f1 H locs V1 X1 => ?_)
        clear V X
        have V := V1
        have X := X1
        clear V1 X1
        refine lv_aload_n hx hb d_Mo_init_370 rfl (lv_at hl 1 rfl) ?_
        refine mo_getA C V X 3 (by decide) (by decide) f_Mo_17 rfl d_Mo_init_371 ?_
        refine lv_iload_n hx hb d_Mo_init_374 rfl (lv_at hl 0 rfl) ?_
        refine lv_iload_n hx hb d_Mo_init_375 rfl (lv_at hl 0 rfl) ?_
        refine lv_iconst (v := 3) hx hb d_Mo_init_376 (by decide) ?_
        refine lv_icmp_ge (tgt := 384) hx hb d_Mo_init_377 (by decide) (fun c6 => absurd c6 (show ¬ (3 : Int32) ≤ nI i from nI_ge (a := i) (b := 3) (by omega) (by decide))) (fun c6 => ?_)
        refine lv_iconst (v := 0) hx hb d_Mo_init_380 (by decide) ?_
        refine lv_goto (tgt := 385) hx hb d_Mo_init_381 (by decide) ?_
        refine mo_ist (k := 3) (i := i) (n := 760) C V X (by decide) (by decide) rfl (by omega) (by decide) d_Mo_init_385 (fun f1 H locs V1 X1 => ?_)
        clear V X
        have V := V1
        have X := X1
        clear V1 X1
        refine lv_aload_n hx hb d_Mo_init_386 rfl (lv_at hl 1 rfl) ?_
        refine mo_getA C V X 6 (by decide) (by decide) f_Mo_26 rfl d_Mo_init_387 ?_
        refine lv_iload_n hx hb d_Mo_init_390 rfl (lv_at hl 0 rfl) ?_
        refine lv_iload_n hx hb d_Mo_init_391 rfl (lv_at hl 0 rfl) ?_
        refine lv_iconst (v := 3) hx hb d_Mo_init_392 (by decide) ?_
        refine lv_icmp_ge (tgt := 400) hx hb d_Mo_init_393 (by decide) (fun c7 => absurd c7 (show ¬ (3 : Int32) ≤ nI i from nI_ge (a := i) (b := 3) (by omega) (by decide))) (fun c7 => ?_)
        refine lv_lconst (v := 0) hx hb d_Mo_init_396 (by decide) ?_
        refine lv_goto (tgt := 406) hx hb d_Mo_init_397 (by decide) ?_
        refine mo_lst (k := 6) (i := i) (n := 760) C V X (by decide) (by decide) rfl (by omega) (by decide) d_Mo_init_406 (fun f1 H locs V1 X1 => ?_)
        clear V X
        have V := V1
        have X := X1
        clear V1 X1
        refine lv_aload_n hx hb d_Mo_init_407 rfl (lv_at hl 1 rfl) ?_
        refine mo_getA C V X 4 (by decide) (by decide) f_Mo_20 rfl d_Mo_init_408 ?_
        refine lv_iload_n hx hb d_Mo_init_411 rfl (lv_at hl 0 rfl) ?_
        refine lv_iconst (v := 1) hx hb d_Mo_init_412 (by decide) ?_
        refine mo_ist (k := 4) (i := i) (n := 760) C V X (by decide) (by decide) rfl (by omega) (by decide) d_Mo_init_413 (fun f1 H locs V1 X1 => ?_)
        clear V X
        have V := V1
        have X := X1
        clear V1 X1
        refine lv_aload_n hx hb d_Mo_init_414 rfl (lv_at hl 1 rfl) ?_
        refine mo_getA C V X 5 (by decide) (by decide) f_Mo_23 rfl d_Mo_init_415 ?_
        refine lv_iload_n hx hb d_Mo_init_418 rfl (lv_at hl 0 rfl) ?_
        refine lv_iconst (v := 1) hx hb d_Mo_init_419 (by decide) ?_
        refine mo_ist (k := 5) (i := i) (n := 760) C V X (by decide) (by decide) rfl (by omega) (by decide) d_Mo_init_420 (fun f1 H locs V1 X1 => ?_)
        clear V X
        have V := V1
        have X := X1
        clear V1 X1
        refine lv_iinc (k := 0) (v := (nI i) + 1) hx hb d_Mo_init_421 hl rfl (by rfl) (by decide) rfl (fun ls hl => ?_)
        have hl : lv_has ls 2 [(1, .int ((nI i) + 1)), (0, .ref a)] := hl
        refine lv_goto (tgt := 348) hx hb d_Mo_init_424 (by decide) ?_
        have hl : lv_has ls 2 [(1, .int ((nI i) + 1)), (0, .ref a)] := lv_sub hl [0, 1] rfl
        have hl : lv_has ls 2 [(1, .int (nI (i + 1))), (0, .ref a)] := by rw [nI_succ]; exact hl
        have eI : va_up (va_up (va_up (va_up (mo_i0 i) 1 (upd ((mo_i0 i) 1) i (nI i))) 3 (upd ((va_up (mo_i0 i) 1 (upd ((mo_i0 i) 1) i (nI i))) 3) i 0)) 4 (upd ((va_up (va_up (mo_i0 i) 1 (upd ((mo_i0 i) 1) i (nI i))) 3 (upd ((va_up (mo_i0 i) 1 (upd ((mo_i0 i) 1) i (nI i))) 3) i 0)) 4) i 1)) 5 (upd ((va_up (va_up (va_up (mo_i0 i) 1 (upd ((mo_i0 i) 1) i (nI i))) 3 (upd ((va_up (mo_i0 i) 1 (upd ((mo_i0 i) 1) i (nI i))) 3) i 0)) 4 (upd ((va_up (va_up (mo_i0 i) 1 (upd ((mo_i0 i) 1) i (nI i))) 3 (upd ((va_up (mo_i0 i) 1 (upd ((mo_i0 i) 1) i (nI i))) 3) i 0)) 4) i 1)) 5) i 1) = mo_i0 (i + 1) := mo_i0_at (by simp [mo_iv]; try omega) (by simp [mo_iv]; try omega)
        have eJ : va_up (mo_j0 i) 6 (vp_updL ((mo_j0 i) 6) i 0) = mo_j0 (i + 1) := mo_j0_at (by simp [mo_jv]; try omega)
        rw [eI, eJ] at X
        exact ih (i + 1) _ H locs ls (by omega) X V hl
  exact loop 29 0 _ H locs ls (by omega) X V hl
