/-! The law: one turn of its loop, case by case. Printed by wip/whole/gen_law2.py. -/
/-- the law's invariant: the machine, the model beside it, the array for answers -/
def lw_I (E : gh_E) (ρ Z : Nat → Nat) (mo : Nat) (ad : Nat → Nat) (f : gh_F) : Prop := (ρ mo = 300 ∧ ∀ k, k < 60 → mo_K k < 8 → ρ (ad k) = 300) ∧ (∃ h : Nat → Int64, f (Z 18) = some (.inl (E.2.2.1 1, 1, .inr (.inl h)))) ∧ ∃ (tx : Nat → Nat) (n : Nat) (bd : Int32) (dc : Nat) (X : vt) (q0 q1 N : Nat) (cb bg : Nat → Nat) (N1 : Nat) (cb1 bg1 : Nat → Nat) (φ : Nat) (en : Int32) (xs : List vt) (S : Nat → Int32) (I : mo_I) (J : mo_J), qf_A E ρ Z f tx n bd dc X q0 q1 N cb bg N1 cb1 bg1 φ en xs ∧ mo_R E f mo ad S I J ∧ li_m tx n bd X N cb bg N1 cb1 φ en xs S I J
theorem mo_R.keep {E : gh_E} {f g : gh_F} {a : Nat} {ad : Nat → Nat} {S : Nat → Int32} {I : mo_I} {J : mo_J} {M : Nat → Prop} (h : mo_R E f a ad S I J) (hfr : gh_fr f g M) (hM : ∀ b, mo_M a ad b → ¬ M b) : mo_R E g a ad S I J := ⟨hfr.at h.1 (hM _ (Or.inl rfl)), fun k hk h8 => hfr.at (h.2.1 k hk h8) (hM _ (Or.inr ⟨k, hk, h8, rfl⟩)), h.2.2⟩
theorem lw_M {ρ : Nat → Nat} {mo : Nat} {ad : Nat → Nat} (h : ρ mo = 300 ∧ ∀ k, k < 60 → mo_K k < 8 → ρ (ad k) = 300) : ∀ b, mo_M mo ad b → ρ b = 300 := fun b hb => by
  rcases hb with rfl | ⟨k, hk, h8, rfl⟩
  · exact h.1
  · exact h.2 k hk h8
theorem lw_nq {ρ : Nat → Nat} : ∀ b, ρ b = 300 → ¬ qf_M ρ b := fun b h z => by unfold qf_M at z; omega
theorem lw_n18 {ρ : Nat → Nat} : ∀ b, ρ b = 18 → ¬ qf_M ρ b := fun b h z => by unfold qf_M at z; omega
theorem kl_La_53 : Cond.constantLong R_La 53 4294967295 ∈ g_tbl := g_in 1450 (by decide +kernel) (by decide +kernel)
section LW
variable {p : Program} {l : Launch} {e : Env} {R : Room} {s : State} {m : MethodId} {args : Array Value} {below : List Frame} {meth : Method} {c : Code} {H : Heap} {locs : List Loc} {cells slots : Nat} {Q : State → Prop}
variable {cc : ByteArray} {pc : Nat} {ls : Array Slot} {rest : List Value} {E : gh_E} {A : Nat → Prop} {f : gh_F} {own : String} {nL : Nat}
theorem lw_ld (C : gh_C E A p s m args c cc own nL) (V : gh_V E A f s H locs) {b L : Nat} {sc : Nat → Int32} (hX : va_X b L sc s s.heap ∧ b < s.heap.size ∧ ¬ A b ∧ L ≤ 2048) {j : Nat} (hj : j < L) (hdg : decode cc pc = .ok (.iaload, 1))
    (k : W p l e R s m args below meth c H locs cells slots Q (F0 m (pc + 1) ls (.int (sc j) :: rest))) : W p l e R s m args below meth c H locs cells slots Q (F0 m pc ls (.int (nI j) :: .ref b :: rest)) := by
  have h := hX.2.2.2
  have e : (nI j).toNatClampNeg = j := nI_clamp (by omega)
  refine va_sld C.1 C.2.1 hX.1 hX.2.1 hX.2.2.1 V.2 (fun z => z.elim (nI_pos (by omega)) (fun z => by rw [e] at z; omega)) hdg ?_
  rw [e]
  exact k
end LW
theorem d_La_law_0 : decode code 0 = .ok (.new 8, 3) := by decide +kernel
theorem d_La_law_3 : decode code 3 = .ok (.dup, 1) := by decide +kernel
theorem d_La_law_4 : decode code 4 = .ok (.invokespecial 49, 3) := by decide +kernel
theorem d_La_law_7 : decode code 7 = .ok (.astore_n 1, 1) := by decide +kernel
theorem d_La_law_8 : decode code 8 = .ok (.new 50, 3) := by decide +kernel
theorem d_La_law_11 : decode code 11 = .ok (.dup, 1) := by decide +kernel
theorem d_La_law_12 : decode code 12 = .ok (.invokespecial 52, 3) := by decide +kernel
theorem d_La_law_15 : decode code 15 = .ok (.astore_n 2, 1) := by decide +kernel
theorem d_La_law_16 : decode code 16 = .ok (.iconst 1, 1) := by decide +kernel
theorem d_La_law_17 : decode code 17 = .ok (.newarray .long, 2) := by decide +kernel
theorem d_La_law_19 : decode code 19 = .ok (.astore_n 3, 1) := by decide +kernel
theorem d_La_law_20 : decode code 20 = .ok (.iconst 0, 1) := by decide +kernel
theorem d_La_law_21 : decode code 21 = .ok (.istore 4, 2) := by decide +kernel
theorem d_La_law_23 : decode code 23 = .ok (.iload 4, 2) := by decide +kernel
theorem d_La_law_25 : decode code 25 = .ok (.aload_n 0, 1) := by decide +kernel
theorem d_La_law_26 : decode code 26 = .ok (.arraylength, 1) := by decide +kernel
theorem d_La_law_27 : decode code 27 = .ok (.iconst 4, 1) := by decide +kernel
theorem d_La_law_28 : decode code 28 = .ok (.isub, 1) := by decide +kernel
theorem d_La_law_29 : decode code 29 = .ok (.if_icmp .gt 612, 3) := by decide +kernel
theorem d_La_law_32 : decode code 32 = .ok (.aload_n 0, 1) := by decide +kernel
theorem d_La_law_33 : decode code 33 = .ok (.iload 4, 2) := by decide +kernel
theorem d_La_law_35 : decode code 35 = .ok (.iaload, 1) := by decide +kernel
theorem d_La_law_36 : decode code 36 = .ok (.bipush 15, 2) := by decide +kernel
theorem d_La_law_38 : decode code 38 = .ok (.iand, 1) := by decide +kernel
theorem d_La_law_39 : decode code 39 = .ok (.tableswitch 596 0 12 #[65, 145, 169, 182, 262, 286, 342, 355, 368, 381, 437, 505, 560], 65) := by decide +kernel
theorem d_La_law_104 : decode code 104 = .ok (.aload_n 1, 1) := by decide +kernel
theorem d_La_law_105 : decode code 105 = .ok (.aload_n 0, 1) := by decide +kernel
theorem d_La_law_106 : decode code 106 = .ok (.iload 4, 2) := by decide +kernel
theorem d_La_law_108 : decode code 108 = .ok (.iconst 1, 1) := by decide +kernel
theorem d_La_law_109 : decode code 109 = .ok (.iadd, 1) := by decide +kernel
theorem d_La_law_110 : decode code 110 = .ok (.iaload, 1) := by decide +kernel
theorem d_La_law_111 : decode code 111 = .ok (.i2l, 1) := by decide +kernel
theorem d_La_law_112 : decode code 112 = .ok (.bipush 32, 2) := by decide +kernel
theorem d_La_law_114 : decode code 114 = .ok (.lshl, 1) := by decide +kernel
theorem d_La_law_115 : decode code 115 = .ok (.aload_n 0, 1) := by decide +kernel
theorem d_La_law_116 : decode code 116 = .ok (.iload 4, 2) := by decide +kernel
theorem d_La_law_118 : decode code 118 = .ok (.iconst 2, 1) := by decide +kernel
theorem d_La_law_119 : decode code 119 = .ok (.iadd, 1) := by decide +kernel
theorem d_La_law_120 : decode code 120 = .ok (.iaload, 1) := by decide +kernel
theorem d_La_law_121 : decode code 121 = .ok (.i2l, 1) := by decide +kernel
theorem d_La_law_122 : decode code 122 = .ok (.ldc2_w 53, 3) := by decide +kernel
theorem d_La_law_125 : decode code 125 = .ok (.land, 1) := by decide +kernel
theorem d_La_law_126 : decode code 126 = .ok (.lor, 1) := by decide +kernel
theorem d_La_law_127 : decode code 127 = .ok (.aload_n 0, 1) := by decide +kernel
theorem d_La_law_128 : decode code 128 = .ok (.iload 4, 2) := by decide +kernel
theorem d_La_law_130 : decode code 130 = .ok (.iconst 3, 1) := by decide +kernel
theorem d_La_law_131 : decode code 131 = .ok (.iadd, 1) := by decide +kernel
theorem d_La_law_132 : decode code 132 = .ok (.iaload, 1) := by decide +kernel
theorem d_La_law_133 : decode code 133 = .ok (.invokestatic 55, 3) := by decide +kernel
theorem d_La_law_136 : decode code 136 = .ok (.istore 5, 2) := by decide +kernel
theorem d_La_law_138 : decode code 138 = .ok (.aload_n 2, 1) := by decide +kernel
theorem d_La_law_139 : decode code 139 = .ok (.aload_n 0, 1) := by decide +kernel
theorem d_La_law_140 : decode code 140 = .ok (.iload 4, 2) := by decide +kernel
theorem d_La_law_142 : decode code 142 = .ok (.iconst 1, 1) := by decide +kernel
theorem d_La_law_143 : decode code 143 = .ok (.iadd, 1) := by decide +kernel
theorem d_La_law_144 : decode code 144 = .ok (.iaload, 1) := by decide +kernel
theorem d_La_law_145 : decode code 145 = .ok (.i2l, 1) := by decide +kernel
theorem d_La_law_146 : decode code 146 = .ok (.bipush 32, 2) := by decide +kernel
theorem d_La_law_148 : decode code 148 = .ok (.lshl, 1) := by decide +kernel
theorem d_La_law_149 : decode code 149 = .ok (.aload_n 0, 1) := by decide +kernel
theorem d_La_law_150 : decode code 150 = .ok (.iload 4, 2) := by decide +kernel
theorem d_La_law_152 : decode code 152 = .ok (.iconst 2, 1) := by decide +kernel
theorem d_La_law_153 : decode code 153 = .ok (.iadd, 1) := by decide +kernel
theorem d_La_law_154 : decode code 154 = .ok (.iaload, 1) := by decide +kernel
theorem d_La_law_155 : decode code 155 = .ok (.i2l, 1) := by decide +kernel
theorem d_La_law_156 : decode code 156 = .ok (.ldc2_w 53, 3) := by decide +kernel
theorem d_La_law_159 : decode code 159 = .ok (.land, 1) := by decide +kernel
theorem d_La_law_160 : decode code 160 = .ok (.lor, 1) := by decide +kernel
theorem d_La_law_161 : decode code 161 = .ok (.aload_n 0, 1) := by decide +kernel
theorem d_La_law_162 : decode code 162 = .ok (.iload 4, 2) := by decide +kernel
theorem d_La_law_164 : decode code 164 = .ok (.iconst 3, 1) := by decide +kernel
theorem d_La_law_165 : decode code 165 = .ok (.iadd, 1) := by decide +kernel
theorem d_La_law_166 : decode code 166 = .ok (.iaload, 1) := by decide +kernel
theorem d_La_law_167 : decode code 167 = .ok (.invokevirtual 60, 3) := by decide +kernel
theorem d_La_law_170 : decode code 170 = .ok (.aload_n 2, 1) := by decide +kernel
theorem d_La_law_171 : decode code 171 = .ok (.invokevirtual 61, 3) := by decide +kernel
theorem d_La_law_174 : decode code 174 = .ok (.iload 5, 2) := by decide +kernel
theorem d_La_law_176 : decode code 176 = .ok (.if_icmp .eq 5, 3) := by decide +kernel
theorem d_La_law_179 : decode code 179 = .ok (.iconst 0, 1) := by decide +kernel
theorem d_La_law_180 : decode code 180 = .ok (.ireturn, 1) := by decide +kernel
theorem d_La_law_181 : decode code 181 = .ok (.goto 454, 3) := by decide +kernel
theorem d_La_law_184 : decode code 184 = .ok (.aload_n 1, 1) := by decide +kernel
theorem d_La_law_185 : decode code 185 = .ok (.invokestatic 65, 3) := by decide +kernel
theorem d_La_law_188 : decode code 188 = .ok (.istore 5, 2) := by decide +kernel
theorem d_La_law_190 : decode code 190 = .ok (.aload_n 2, 1) := by decide +kernel
theorem d_La_law_191 : decode code 191 = .ok (.invokevirtual 68, 3) := by decide +kernel
theorem d_La_law_194 : decode code 194 = .ok (.aload_n 2, 1) := by decide +kernel
theorem d_La_law_195 : decode code 195 = .ok (.invokevirtual 61, 3) := by decide +kernel
theorem d_La_law_198 : decode code 198 = .ok (.iload 5, 2) := by decide +kernel
theorem d_La_law_200 : decode code 200 = .ok (.if_icmp .eq 5, 3) := by decide +kernel
theorem d_La_law_203 : decode code 203 = .ok (.iconst 0, 1) := by decide +kernel
theorem d_La_law_204 : decode code 204 = .ok (.ireturn, 1) := by decide +kernel
theorem d_La_law_205 : decode code 205 = .ok (.goto 430, 3) := by decide +kernel
theorem d_La_law_208 : decode code 208 = .ok (.aload_n 1, 1) := by decide +kernel
theorem d_La_law_209 : decode code 209 = .ok (.invokevirtual 69, 3) := by decide +kernel
theorem d_La_law_212 : decode code 212 = .ok (.aload_n 2, 1) := by decide +kernel
theorem d_La_law_213 : decode code 213 = .ok (.invokevirtual 72, 3) := by decide +kernel
theorem d_La_law_216 : decode code 216 = .ok (.if_icmp .eq 419, 3) := by decide +kernel
theorem d_La_law_219 : decode code 219 = .ok (.iconst 0, 1) := by decide +kernel
theorem d_La_law_220 : decode code 220 = .ok (.ireturn, 1) := by decide +kernel
theorem d_La_law_221 : decode code 221 = .ok (.aload_n 1, 1) := by decide +kernel
theorem d_La_law_222 : decode code 222 = .ok (.aload_n 0, 1) := by decide +kernel
theorem d_La_law_223 : decode code 223 = .ok (.iload 4, 2) := by decide +kernel
theorem d_La_law_225 : decode code 225 = .ok (.iconst 1, 1) := by decide +kernel
theorem d_La_law_226 : decode code 226 = .ok (.iadd, 1) := by decide +kernel
theorem d_La_law_227 : decode code 227 = .ok (.iaload, 1) := by decide +kernel
theorem d_La_law_228 : decode code 228 = .ok (.i2l, 1) := by decide +kernel
theorem d_La_law_229 : decode code 229 = .ok (.bipush 32, 2) := by decide +kernel
theorem d_La_law_231 : decode code 231 = .ok (.lshl, 1) := by decide +kernel
theorem d_La_law_232 : decode code 232 = .ok (.aload_n 0, 1) := by decide +kernel
theorem d_La_law_233 : decode code 233 = .ok (.iload 4, 2) := by decide +kernel
theorem d_La_law_235 : decode code 235 = .ok (.iconst 2, 1) := by decide +kernel
theorem d_La_law_236 : decode code 236 = .ok (.iadd, 1) := by decide +kernel
theorem d_La_law_237 : decode code 237 = .ok (.iaload, 1) := by decide +kernel
theorem d_La_law_238 : decode code 238 = .ok (.i2l, 1) := by decide +kernel
theorem d_La_law_239 : decode code 239 = .ok (.ldc2_w 53, 3) := by decide +kernel
theorem d_La_law_242 : decode code 242 = .ok (.land, 1) := by decide +kernel
theorem d_La_law_243 : decode code 243 = .ok (.lor, 1) := by decide +kernel
theorem d_La_law_244 : decode code 244 = .ok (.aload_n 0, 1) := by decide +kernel
theorem d_La_law_245 : decode code 245 = .ok (.iload 4, 2) := by decide +kernel
theorem d_La_law_247 : decode code 247 = .ok (.iconst 3, 1) := by decide +kernel
theorem d_La_law_248 : decode code 248 = .ok (.iadd, 1) := by decide +kernel
theorem d_La_law_249 : decode code 249 = .ok (.iaload, 1) := by decide +kernel
theorem d_La_law_250 : decode code 250 = .ok (.invokestatic 73, 3) := by decide +kernel
theorem d_La_law_253 : decode code 253 = .ok (.istore 5, 2) := by decide +kernel
theorem d_La_law_255 : decode code 255 = .ok (.aload_n 2, 1) := by decide +kernel
theorem d_La_law_256 : decode code 256 = .ok (.aload_n 0, 1) := by decide +kernel
theorem d_La_law_257 : decode code 257 = .ok (.iload 4, 2) := by decide +kernel
theorem d_La_law_259 : decode code 259 = .ok (.iconst 1, 1) := by decide +kernel
theorem d_La_law_260 : decode code 260 = .ok (.iadd, 1) := by decide +kernel
theorem d_La_law_261 : decode code 261 = .ok (.iaload, 1) := by decide +kernel
theorem d_La_law_262 : decode code 262 = .ok (.i2l, 1) := by decide +kernel
theorem d_La_law_263 : decode code 263 = .ok (.bipush 32, 2) := by decide +kernel
theorem d_La_law_265 : decode code 265 = .ok (.lshl, 1) := by decide +kernel
theorem d_La_law_266 : decode code 266 = .ok (.aload_n 0, 1) := by decide +kernel
theorem d_La_law_267 : decode code 267 = .ok (.iload 4, 2) := by decide +kernel
theorem d_La_law_269 : decode code 269 = .ok (.iconst 2, 1) := by decide +kernel
theorem d_La_law_270 : decode code 270 = .ok (.iadd, 1) := by decide +kernel
theorem d_La_law_271 : decode code 271 = .ok (.iaload, 1) := by decide +kernel
theorem d_La_law_272 : decode code 272 = .ok (.i2l, 1) := by decide +kernel
theorem d_La_law_273 : decode code 273 = .ok (.ldc2_w 53, 3) := by decide +kernel
theorem d_La_law_276 : decode code 276 = .ok (.land, 1) := by decide +kernel
theorem d_La_law_277 : decode code 277 = .ok (.lor, 1) := by decide +kernel
theorem d_La_law_278 : decode code 278 = .ok (.aload_n 0, 1) := by decide +kernel
theorem d_La_law_279 : decode code 279 = .ok (.iload 4, 2) := by decide +kernel
theorem d_La_law_281 : decode code 281 = .ok (.iconst 3, 1) := by decide +kernel
theorem d_La_law_282 : decode code 282 = .ok (.iadd, 1) := by decide +kernel
theorem d_La_law_283 : decode code 283 = .ok (.iaload, 1) := by decide +kernel
theorem d_La_law_284 : decode code 284 = .ok (.invokevirtual 75, 3) := by decide +kernel
theorem d_La_law_287 : decode code 287 = .ok (.aload_n 2, 1) := by decide +kernel
theorem d_La_law_288 : decode code 288 = .ok (.invokevirtual 61, 3) := by decide +kernel
theorem d_La_law_291 : decode code 291 = .ok (.iload 5, 2) := by decide +kernel
theorem d_La_law_293 : decode code 293 = .ok (.if_icmp .eq 5, 3) := by decide +kernel
theorem d_La_law_296 : decode code 296 = .ok (.iconst 0, 1) := by decide +kernel
theorem d_La_law_297 : decode code 297 = .ok (.ireturn, 1) := by decide +kernel
theorem d_La_law_298 : decode code 298 = .ok (.goto 337, 3) := by decide +kernel
theorem d_La_law_301 : decode code 301 = .ok (.aload_n 1, 1) := by decide +kernel
theorem d_La_law_302 : decode code 302 = .ok (.invokestatic 76, 3) := by decide +kernel
theorem d_La_law_305 : decode code 305 = .ok (.istore 5, 2) := by decide +kernel
theorem d_La_law_307 : decode code 307 = .ok (.aload_n 2, 1) := by decide +kernel
theorem d_La_law_308 : decode code 308 = .ok (.invokevirtual 78, 3) := by decide +kernel
theorem d_La_law_311 : decode code 311 = .ok (.aload_n 2, 1) := by decide +kernel
theorem d_La_law_312 : decode code 312 = .ok (.invokevirtual 61, 3) := by decide +kernel
theorem d_La_law_315 : decode code 315 = .ok (.iload 5, 2) := by decide +kernel
theorem d_La_law_317 : decode code 317 = .ok (.if_icmp .eq 5, 3) := by decide +kernel
theorem d_La_law_320 : decode code 320 = .ok (.iconst 0, 1) := by decide +kernel
theorem d_La_law_321 : decode code 321 = .ok (.ireturn, 1) := by decide +kernel
theorem d_La_law_322 : decode code 322 = .ok (.goto 313, 3) := by decide +kernel
theorem d_La_law_325 : decode code 325 = .ok (.aload_n 1, 1) := by decide +kernel
theorem d_La_law_326 : decode code 326 = .ok (.aload_n 0, 1) := by decide +kernel
theorem d_La_law_327 : decode code 327 = .ok (.iload 4, 2) := by decide +kernel
theorem d_La_law_329 : decode code 329 = .ok (.iconst 1, 1) := by decide +kernel
theorem d_La_law_330 : decode code 330 = .ok (.iadd, 1) := by decide +kernel
theorem d_La_law_331 : decode code 331 = .ok (.iaload, 1) := by decide +kernel
theorem d_La_law_332 : decode code 332 = .ok (.aload_n 3, 1) := by decide +kernel
theorem d_La_law_333 : decode code 333 = .ok (.invokestatic 79, 3) := by decide +kernel
theorem d_La_law_336 : decode code 336 = .ok (.istore 5, 2) := by decide +kernel
theorem d_La_law_338 : decode code 338 = .ok (.aload_n 2, 1) := by decide +kernel
theorem d_La_law_339 : decode code 339 = .ok (.aload_n 0, 1) := by decide +kernel
theorem d_La_law_340 : decode code 340 = .ok (.iload 4, 2) := by decide +kernel
theorem d_La_law_342 : decode code 342 = .ok (.iconst 1, 1) := by decide +kernel
theorem d_La_law_343 : decode code 343 = .ok (.iadd, 1) := by decide +kernel
theorem d_La_law_344 : decode code 344 = .ok (.iaload, 1) := by decide +kernel
theorem d_La_law_345 : decode code 345 = .ok (.invokevirtual 82, 3) := by decide +kernel
theorem d_La_law_348 : decode code 348 = .ok (.istore 6, 2) := by decide +kernel
theorem d_La_law_350 : decode code 350 = .ok (.aload_n 2, 1) := by decide +kernel
theorem d_La_law_351 : decode code 351 = .ok (.invokevirtual 61, 3) := by decide +kernel
theorem d_La_law_354 : decode code 354 = .ok (.iload 5, 2) := by decide +kernel
theorem d_La_law_356 : decode code 356 = .ok (.if_icmp .eq 5, 3) := by decide +kernel
theorem d_La_law_359 : decode code 359 = .ok (.iconst 0, 1) := by decide +kernel
theorem d_La_law_360 : decode code 360 = .ok (.ireturn, 1) := by decide +kernel
theorem d_La_law_361 : decode code 361 = .ok (.iload 5, 2) := by decide +kernel
theorem d_La_law_363 : decode code 363 = .ok (.ifCond .ne 15, 3) := by decide +kernel
theorem d_La_law_366 : decode code 366 = .ok (.aload_n 3, 1) := by decide +kernel
theorem d_La_law_367 : decode code 367 = .ok (.iconst 0, 1) := by decide +kernel
theorem d_La_law_368 : decode code 368 = .ok (.laload, 1) := by decide +kernel
theorem d_La_law_369 : decode code 369 = .ok (.iload 6, 2) := by decide +kernel
theorem d_La_law_371 : decode code 371 = .ok (.i2l, 1) := by decide +kernel
theorem d_La_law_372 : decode code 372 = .ok (.lcmp, 1) := by decide +kernel
theorem d_La_law_373 : decode code 373 = .ok (.ifCond .eq 5, 3) := by decide +kernel
theorem d_La_law_376 : decode code 376 = .ok (.iconst 0, 1) := by decide +kernel
theorem d_La_law_377 : decode code 377 = .ok (.ireturn, 1) := by decide +kernel
theorem d_La_law_378 : decode code 378 = .ok (.goto 257, 3) := by decide +kernel
theorem d_La_law_381 : decode code 381 = .ok (.aload_n 1, 1) := by decide +kernel
theorem d_La_law_382 : decode code 382 = .ok (.invokevirtual 83, 3) := by decide +kernel
theorem d_La_law_385 : decode code 385 = .ok (.aload_n 2, 1) := by decide +kernel
theorem d_La_law_386 : decode code 386 = .ok (.invokevirtual 86, 3) := by decide +kernel
theorem d_La_law_389 : decode code 389 = .ok (.if_icmp .eq 246, 3) := by decide +kernel
theorem d_La_law_392 : decode code 392 = .ok (.iconst 0, 1) := by decide +kernel
theorem d_La_law_393 : decode code 393 = .ok (.ireturn, 1) := by decide +kernel
theorem d_La_law_394 : decode code 394 = .ok (.aload_n 1, 1) := by decide +kernel
theorem d_La_law_395 : decode code 395 = .ok (.invokevirtual 87, 3) := by decide +kernel
theorem d_La_law_398 : decode code 398 = .ok (.aload_n 2, 1) := by decide +kernel
theorem d_La_law_399 : decode code 399 = .ok (.invokevirtual 90, 3) := by decide +kernel
theorem d_La_law_402 : decode code 402 = .ok (.if_icmp .eq 233, 3) := by decide +kernel
theorem d_La_law_405 : decode code 405 = .ok (.iconst 0, 1) := by decide +kernel
theorem d_La_law_406 : decode code 406 = .ok (.ireturn, 1) := by decide +kernel
theorem d_La_law_407 : decode code 407 = .ok (.aload_n 1, 1) := by decide +kernel
theorem d_La_law_408 : decode code 408 = .ok (.invokevirtual 91, 3) := by decide +kernel
theorem d_La_law_411 : decode code 411 = .ok (.aload_n 2, 1) := by decide +kernel
theorem d_La_law_412 : decode code 412 = .ok (.invokevirtual 94, 3) := by decide +kernel
theorem d_La_law_415 : decode code 415 = .ok (.if_icmp .eq 220, 3) := by decide +kernel
theorem d_La_law_418 : decode code 418 = .ok (.iconst 0, 1) := by decide +kernel
theorem d_La_law_419 : decode code 419 = .ok (.ireturn, 1) := by decide +kernel
theorem d_La_law_420 : decode code 420 = .ok (.aload_n 1, 1) := by decide +kernel
theorem d_La_law_421 : decode code 421 = .ok (.aload_n 0, 1) := by decide +kernel
theorem d_La_law_422 : decode code 422 = .ok (.iload 4, 2) := by decide +kernel
theorem d_La_law_424 : decode code 424 = .ok (.iconst 1, 1) := by decide +kernel
theorem d_La_law_425 : decode code 425 = .ok (.iadd, 1) := by decide +kernel
theorem d_La_law_426 : decode code 426 = .ok (.iaload, 1) := by decide +kernel
theorem d_La_law_427 : decode code 427 = .ok (.aload_n 3, 1) := by decide +kernel
theorem d_La_law_428 : decode code 428 = .ok (.invokestatic 95, 3) := by decide +kernel
theorem d_La_law_431 : decode code 431 = .ok (.istore 5, 2) := by decide +kernel
theorem d_La_law_433 : decode code 433 = .ok (.aload_n 2, 1) := by decide +kernel
theorem d_La_law_434 : decode code 434 = .ok (.aload_n 0, 1) := by decide +kernel
theorem d_La_law_435 : decode code 435 = .ok (.iload 4, 2) := by decide +kernel
theorem d_La_law_437 : decode code 437 = .ok (.iconst 1, 1) := by decide +kernel
theorem d_La_law_438 : decode code 438 = .ok (.iadd, 1) := by decide +kernel
theorem d_La_law_439 : decode code 439 = .ok (.iaload, 1) := by decide +kernel
theorem d_La_law_440 : decode code 440 = .ok (.invokevirtual 97, 3) := by decide +kernel
theorem d_La_law_443 : decode code 443 = .ok (.istore 6, 2) := by decide +kernel
theorem d_La_law_445 : decode code 445 = .ok (.aload_n 2, 1) := by decide +kernel
theorem d_La_law_446 : decode code 446 = .ok (.invokevirtual 61, 3) := by decide +kernel
theorem d_La_law_449 : decode code 449 = .ok (.iload 5, 2) := by decide +kernel
theorem d_La_law_451 : decode code 451 = .ok (.if_icmp .eq 5, 3) := by decide +kernel
theorem d_La_law_454 : decode code 454 = .ok (.iconst 0, 1) := by decide +kernel
theorem d_La_law_455 : decode code 455 = .ok (.ireturn, 1) := by decide +kernel
theorem d_La_law_456 : decode code 456 = .ok (.iload 5, 2) := by decide +kernel
theorem d_La_law_458 : decode code 458 = .ok (.ifCond .ne 15, 3) := by decide +kernel
theorem d_La_law_461 : decode code 461 = .ok (.aload_n 3, 1) := by decide +kernel
theorem d_La_law_462 : decode code 462 = .ok (.iconst 0, 1) := by decide +kernel
theorem d_La_law_463 : decode code 463 = .ok (.laload, 1) := by decide +kernel
theorem d_La_law_464 : decode code 464 = .ok (.iload 6, 2) := by decide +kernel
theorem d_La_law_466 : decode code 466 = .ok (.i2l, 1) := by decide +kernel
theorem d_La_law_467 : decode code 467 = .ok (.lcmp, 1) := by decide +kernel
theorem d_La_law_468 : decode code 468 = .ok (.ifCond .eq 5, 3) := by decide +kernel
theorem d_La_law_471 : decode code 471 = .ok (.iconst 0, 1) := by decide +kernel
theorem d_La_law_472 : decode code 472 = .ok (.ireturn, 1) := by decide +kernel
theorem d_La_law_473 : decode code 473 = .ok (.goto 162, 3) := by decide +kernel
theorem d_La_law_476 : decode code 476 = .ok (.aload_n 1, 1) := by decide +kernel
theorem d_La_law_477 : decode code 477 = .ok (.aload_n 0, 1) := by decide +kernel
theorem d_La_law_478 : decode code 478 = .ok (.iload 4, 2) := by decide +kernel
theorem d_La_law_480 : decode code 480 = .ok (.iconst 1, 1) := by decide +kernel
theorem d_La_law_481 : decode code 481 = .ok (.iadd, 1) := by decide +kernel
theorem d_La_law_482 : decode code 482 = .ok (.iaload, 1) := by decide +kernel
theorem d_La_law_483 : decode code 483 = .ok (.aload_n 0, 1) := by decide +kernel
theorem d_La_law_484 : decode code 484 = .ok (.iload 4, 2) := by decide +kernel
theorem d_La_law_486 : decode code 486 = .ok (.iconst 2, 1) := by decide +kernel
theorem d_La_law_487 : decode code 487 = .ok (.iadd, 1) := by decide +kernel
theorem d_La_law_488 : decode code 488 = .ok (.iaload, 1) := by decide +kernel
theorem d_La_law_489 : decode code 489 = .ok (.aload_n 3, 1) := by decide +kernel
theorem d_La_law_490 : decode code 490 = .ok (.invokestatic 98, 3) := by decide +kernel
theorem d_La_law_493 : decode code 493 = .ok (.istore 5, 2) := by decide +kernel
theorem d_La_law_495 : decode code 495 = .ok (.aload_n 2, 1) := by decide +kernel
theorem d_La_law_496 : decode code 496 = .ok (.aload_n 0, 1) := by decide +kernel
theorem d_La_law_497 : decode code 497 = .ok (.iload 4, 2) := by decide +kernel
theorem d_La_law_499 : decode code 499 = .ok (.iconst 1, 1) := by decide +kernel
theorem d_La_law_500 : decode code 500 = .ok (.iadd, 1) := by decide +kernel
theorem d_La_law_501 : decode code 501 = .ok (.iaload, 1) := by decide +kernel
theorem d_La_law_502 : decode code 502 = .ok (.aload_n 0, 1) := by decide +kernel
theorem d_La_law_503 : decode code 503 = .ok (.iload 4, 2) := by decide +kernel
theorem d_La_law_505 : decode code 505 = .ok (.iconst 2, 1) := by decide +kernel
theorem d_La_law_506 : decode code 506 = .ok (.iadd, 1) := by decide +kernel
theorem d_La_law_507 : decode code 507 = .ok (.iaload, 1) := by decide +kernel
theorem d_La_law_508 : decode code 508 = .ok (.invokevirtual 101, 3) := by decide +kernel
theorem d_La_law_511 : decode code 511 = .ok (.istore 6, 2) := by decide +kernel
theorem d_La_law_513 : decode code 513 = .ok (.aload_n 2, 1) := by decide +kernel
theorem d_La_law_514 : decode code 514 = .ok (.invokevirtual 61, 3) := by decide +kernel
theorem d_La_law_517 : decode code 517 = .ok (.iload 5, 2) := by decide +kernel
theorem d_La_law_519 : decode code 519 = .ok (.if_icmp .eq 5, 3) := by decide +kernel
theorem d_La_law_522 : decode code 522 = .ok (.iconst 0, 1) := by decide +kernel
theorem d_La_law_523 : decode code 523 = .ok (.ireturn, 1) := by decide +kernel
theorem d_La_law_524 : decode code 524 = .ok (.iload 5, 2) := by decide +kernel
theorem d_La_law_526 : decode code 526 = .ok (.ifCond .ne 15, 3) := by decide +kernel
theorem d_La_law_529 : decode code 529 = .ok (.aload_n 3, 1) := by decide +kernel
theorem d_La_law_530 : decode code 530 = .ok (.iconst 0, 1) := by decide +kernel
theorem d_La_law_531 : decode code 531 = .ok (.laload, 1) := by decide +kernel
theorem d_La_law_532 : decode code 532 = .ok (.iload 6, 2) := by decide +kernel
theorem d_La_law_534 : decode code 534 = .ok (.i2l, 1) := by decide +kernel
theorem d_La_law_535 : decode code 535 = .ok (.lcmp, 1) := by decide +kernel
theorem d_La_law_536 : decode code 536 = .ok (.ifCond .eq 5, 3) := by decide +kernel
theorem d_La_law_539 : decode code 539 = .ok (.iconst 0, 1) := by decide +kernel
theorem d_La_law_540 : decode code 540 = .ok (.ireturn, 1) := by decide +kernel
theorem d_La_law_541 : decode code 541 = .ok (.goto 94, 3) := by decide +kernel
theorem d_La_law_544 : decode code 544 = .ok (.aload_n 1, 1) := by decide +kernel
theorem d_La_law_545 : decode code 545 = .ok (.aload_n 0, 1) := by decide +kernel
theorem d_La_law_546 : decode code 546 = .ok (.iload 4, 2) := by decide +kernel
theorem d_La_law_548 : decode code 548 = .ok (.iconst 1, 1) := by decide +kernel
theorem d_La_law_549 : decode code 549 = .ok (.iadd, 1) := by decide +kernel
theorem d_La_law_550 : decode code 550 = .ok (.iaload, 1) := by decide +kernel
theorem d_La_law_551 : decode code 551 = .ok (.aload_n 3, 1) := by decide +kernel
theorem d_La_law_552 : decode code 552 = .ok (.invokestatic 102, 3) := by decide +kernel
theorem d_La_law_555 : decode code 555 = .ok (.istore 5, 2) := by decide +kernel
theorem d_La_law_557 : decode code 557 = .ok (.aload_n 2, 1) := by decide +kernel
theorem d_La_law_558 : decode code 558 = .ok (.aload_n 0, 1) := by decide +kernel
theorem d_La_law_559 : decode code 559 = .ok (.iload 4, 2) := by decide +kernel
theorem d_La_law_561 : decode code 561 = .ok (.iconst 1, 1) := by decide +kernel
theorem d_La_law_562 : decode code 562 = .ok (.iadd, 1) := by decide +kernel
theorem d_La_law_563 : decode code 563 = .ok (.iaload, 1) := by decide +kernel
theorem d_La_law_564 : decode code 564 = .ok (.invokevirtual 104, 3) := by decide +kernel
theorem d_La_law_567 : decode code 567 = .ok (.lstore 6, 2) := by decide +kernel
theorem d_La_law_569 : decode code 569 = .ok (.aload_n 2, 1) := by decide +kernel
theorem d_La_law_570 : decode code 570 = .ok (.invokevirtual 61, 3) := by decide +kernel
theorem d_La_law_573 : decode code 573 = .ok (.iload 5, 2) := by decide +kernel
theorem d_La_law_575 : decode code 575 = .ok (.if_icmp .eq 5, 3) := by decide +kernel
theorem d_La_law_578 : decode code 578 = .ok (.iconst 0, 1) := by decide +kernel
theorem d_La_law_579 : decode code 579 = .ok (.ireturn, 1) := by decide +kernel
theorem d_La_law_580 : decode code 580 = .ok (.iload 5, 2) := by decide +kernel
theorem d_La_law_582 : decode code 582 = .ok (.ifCond .ne 14, 3) := by decide +kernel
theorem d_La_law_585 : decode code 585 = .ok (.aload_n 3, 1) := by decide +kernel
theorem d_La_law_586 : decode code 586 = .ok (.iconst 0, 1) := by decide +kernel
theorem d_La_law_587 : decode code 587 = .ok (.laload, 1) := by decide +kernel
theorem d_La_law_588 : decode code 588 = .ok (.lload 6, 2) := by decide +kernel
theorem d_La_law_590 : decode code 590 = .ok (.lcmp, 1) := by decide +kernel
theorem d_La_law_591 : decode code 591 = .ok (.ifCond .eq 5, 3) := by decide +kernel
theorem d_La_law_594 : decode code 594 = .ok (.iconst 0, 1) := by decide +kernel
theorem d_La_law_595 : decode code 595 = .ok (.ireturn, 1) := by decide +kernel
theorem d_La_law_596 : decode code 596 = .ok (.goto 39, 3) := by decide +kernel
theorem d_La_law_599 : decode code 599 = .ok (.aload_n 1, 1) := by decide +kernel
theorem d_La_law_600 : decode code 600 = .ok (.aload_n 0, 1) := by decide +kernel
theorem d_La_law_601 : decode code 601 = .ok (.iload 4, 2) := by decide +kernel
theorem d_La_law_603 : decode code 603 = .ok (.iconst 1, 1) := by decide +kernel
theorem d_La_law_604 : decode code 604 = .ok (.iadd, 1) := by decide +kernel
theorem d_La_law_605 : decode code 605 = .ok (.iaload, 1) := by decide +kernel
theorem d_La_law_606 : decode code 606 = .ok (.invokestatic 105, 3) := by decide +kernel
theorem d_La_law_609 : decode code 609 = .ok (.istore 5, 2) := by decide +kernel
theorem d_La_law_611 : decode code 611 = .ok (.aload_n 2, 1) := by decide +kernel
theorem d_La_law_612 : decode code 612 = .ok (.aload_n 0, 1) := by decide +kernel
theorem d_La_law_613 : decode code 613 = .ok (.iload 4, 2) := by decide +kernel
theorem d_La_law_615 : decode code 615 = .ok (.iconst 1, 1) := by decide +kernel
theorem d_La_law_616 : decode code 616 = .ok (.iadd, 1) := by decide +kernel
theorem d_La_law_617 : decode code 617 = .ok (.iaload, 1) := by decide +kernel
theorem d_La_law_618 : decode code 618 = .ok (.invokevirtual 108, 3) := by decide +kernel
theorem d_La_law_621 : decode code 621 = .ok (.aload_n 2, 1) := by decide +kernel
theorem d_La_law_622 : decode code 622 = .ok (.invokevirtual 61, 3) := by decide +kernel
theorem d_La_law_625 : decode code 625 = .ok (.iload 5, 2) := by decide +kernel
theorem d_La_law_627 : decode code 627 = .ok (.if_icmp .eq 5, 3) := by decide +kernel
theorem d_La_law_630 : decode code 630 = .ok (.iconst 0, 1) := by decide +kernel
theorem d_La_law_631 : decode code 631 = .ok (.ireturn, 1) := by decide +kernel
theorem d_La_law_632 : decode code 632 = .ok (.goto 3, 3) := by decide +kernel
theorem d_La_law_635 : decode code 635 = .ok (.iinc 4 4, 3) := by decide +kernel
theorem d_La_law_638 : decode code 638 = .ok (.goto (-615), 3) := by decide +kernel
theorem d_La_law_641 : decode code 641 = .ok (.iconst 1, 1) := by decide +kernel
theorem d_La_law_642 : decode code 642 = .ok (.ireturn, 1) := by decide +kernel
set_option maxHeartbeats 4000000 in
set_option maxRecDepth 100000 in
theorem lw_case0 {p : Program} {l : Launch} {e : Env} {s : State} {m : MethodId} {args : Array Value} {below : List Frame} {meth : Method} {c : Code} {H : Heap} {locs : List Loc} {cells slots : Nat} {Q : State → Prop} {ls : Array Slot} {E : gh_E} {A : Nat → Prop} {f : gh_F} {ρ Z : Nat → Nat} {mo : Nat} {ad : Nat → Nat} {sb L i9 : Nat} {sc : Nat → Int32} (hst : ∀ e : Env, l.admits e → e.platform.stackTraces = false) (C : gh_C E A p s m args c code R_La 8) (V : gh_V E A f s H locs) (hX : va_X sb L sc s s.heap ∧ sb < s.heap.size ∧ ¬ A sb ∧ L ≤ 2048) (hI : lw_I E ρ Z mo ad f) (hi : i9 + 4 ≤ L) (hl : lv_has ls 8 [(4, .int (nI i9)), (0, .ref sb), (1, .ref (Z 6)), (2, .ref mo), (3, .ref (Z 18))]) (hc : cells + 800 ≤ 601024) (hs : slots + 9800 ≤ 7293034) (k : ∀ (f9 : gh_F) (H9 : Heap) (locs9 : List Loc) (ls9 : Array Slot), gh_V E A f9 s H9 locs9 → lw_I E ρ Z mo ad f9 → lv_has ls9 8 [(4, .int (nI i9)), (0, .ref sb), (1, .ref (Z 6)), (2, .ref mo), (3, .ref (Z 18))] → W p l e { frames := 2048, cells := 601024, slots := 7293034, locals := 84000 } s m args below meth c H9 locs9 (cells + 800) (slots + 9800) Q (F0 m 635 ls9 [])) : W p l e { frames := 2048, cells := 601024, slots := 7293034, locals := 84000 } s m args below meth c H locs cells slots Q (F0 m 104 ls []) := by
  have hx := C.1
  have hb := C.2.1
  obtain ⟨hρ, ⟨ho9, hoc⟩, tx, n, bd, dc, X, q0, q1, N, cb, bg, N1, cb1, bg1, φ, en, xs, S, I, J, hA, hR, hM⟩ := hI
  have hMo := lw_M hρ
  have qz : rZ ρ Z := hA.2.1.1
  have e18 : ρ (Z 18) = 18 := qz 18 (by unfold rU; omega)
  have q6 : f (Z 6) = some (.inr (0, [.ref (Z 7), .int (nI n), .ref (Z 8), .ref (Z 10), .ref (Z 1), .ref dc, .ref (Z q0), .ref (Z q1)])) := hA.1
  have h2048 := hX.2.2.2
  refine lv_aload_n hx hb d_La_law_104 rfl (lv_at hl 2 rfl) ?_
  refine lv_aload_n hx hb d_La_law_105 rfl (lv_at hl 1 rfl) ?_
  refine lv_iload hx hb d_La_law_106 (lv_at hl 0 rfl) ?_
  refine lv_iconst (v := 1) hx hb d_La_law_108 (by decide) ?_
  refine gn_iadd (a := i9) (b := 1) hx hb d_La_law_109 ?_
  refine lw_ld C V hX (j := i9 + 1) (by omega) d_La_law_110 ?_
  refine lv_i2l hx hb d_La_law_111 rfl ?_
  refine lv_bipush (v := 32) hx hb d_La_law_112 (by decide) ?_
  refine lv_lshl hx hb d_La_law_114 rfl ?_
  refine lv_aload_n hx hb d_La_law_115 rfl (lv_at hl 1 rfl) ?_
  refine lv_iload hx hb d_La_law_116 (lv_at hl 0 rfl) ?_
  refine lv_iconst (v := 2) hx hb d_La_law_118 (by decide) ?_
  refine gn_iadd (a := i9) (b := 2) hx hb d_La_law_119 ?_
  refine lw_ld C V hX (j := i9 + 2) (by omega) d_La_law_120 ?_
  refine lv_i2l hx hb d_La_law_121 rfl ?_
  refine lv_ldc2 (v := 4294967295) hx hb C.2.2.2.1 (C.2.2.2.2.1 _ kl_La_53) d_La_law_122 ?_
  refine lv_land hx hb d_La_law_125 ?_
  refine lv_lor hx hb d_La_law_126 ?_
  refine lv_aload_n hx hb d_La_law_127 rfl (lv_at hl 1 rfl) ?_
  refine lv_iload hx hb d_La_law_128 (lv_at hl 0 rfl) ?_
  refine lv_iconst (v := 3) hx hb d_La_law_130 (by decide) ?_
  refine gn_iadd (a := i9) (b := 3) hx hb d_La_law_131 ?_
  refine lw_ld C V hX (j := i9 + 3) (by omega) d_La_law_132 ?_
  refine gc_callS C V hl.1 m_La_text l_La_55 (c_La_text l E _ _ (Z 6) (((sc (i9 + 1)).toInt64 <<< ((32 : Int32).toInt64 &&& 63)) ||| ((sc (i9 + 2)).toInt64 &&& 4294967295)) (sc (i9 + 3)) _ q6 _ _ (fun sz => c_QM_text l hst E sz f ρ Z tx n bd dc X q0 q1 N cb bg N1 cb1 bg1 φ en xs (((sc (i9 + 1)).toInt64 <<< ((32 : Int32).toInt64 &&& 63)) ||| ((sc (i9 + 2)).toInt64 &&& 4294967295)) (sc (i9 + 3)) hA) (fun cls g h => by rcases h.1 with h | ⟨_, _, _, h | h⟩; exact Or.inl h.1; exact Or.inl h.1; exact Or.inr h.1) (fun r g h => h.1)) rfl ⟨by first | decide | omega | (dsimp only; omega), by first | decide | omega | (dsimp only; omega)⟩ ⟨by first | decide | omega | (dsimp only; omega), by first | decide | omega | (dsimp only; omega)⟩ (Nat.le_of_ble_eq_true rfl) rfl d_La_law_133 (fun r g9 H locs hp9 V1 => ?_)
  have V := V1
  rcases hp9 with ⟨rfl, -, ⟨mm9, hy9, hm9, hch9, h129, hA9⟩, hfr9⟩ | ⟨rfl, hx9⟩ | ⟨rfl, hx9⟩
  · have hR := hR.keep (hfr9) (fun b hb => lw_nq b (hMo b hb))
    have hoc := (hfr9).at hoc (lw_n18 _ e18)
    have hA := hA9
    refine W.eq (g2 := F0 m 136 ls [.int 0]) rfl ?_
    refine lv_istore hx hb d_La_law_136 hl (by decide) rfl (fun ls hl => ?_)
    have hl : lv_has ls 8 [(5, .int 0), (4, .int (nI i9)), (0, .ref sb), (1, .ref (Z 6)), (2, .ref mo), (3, .ref (Z 18))] := hl
    refine lv_aload_n hx hb d_La_law_138 rfl (lv_at hl 4 rfl) ?_
    refine lv_aload_n hx hb d_La_law_139 rfl (lv_at hl 2 rfl) ?_
    refine lv_iload hx hb d_La_law_140 (lv_at hl 1 rfl) ?_
    refine lv_iconst (v := 1) hx hb d_La_law_142 (by decide) ?_
    refine gn_iadd (a := i9) (b := 1) hx hb d_La_law_143 ?_
    refine lw_ld C V hX (j := i9 + 1) (by omega) d_La_law_144 ?_
    refine lv_i2l hx hb d_La_law_145 rfl ?_
    refine lv_bipush (v := 32) hx hb d_La_law_146 (by decide) ?_
    refine lv_lshl hx hb d_La_law_148 rfl ?_
    refine lv_aload_n hx hb d_La_law_149 rfl (lv_at hl 2 rfl) ?_
    refine lv_iload hx hb d_La_law_150 (lv_at hl 1 rfl) ?_
    refine lv_iconst (v := 2) hx hb d_La_law_152 (by decide) ?_
    refine gn_iadd (a := i9) (b := 2) hx hb d_La_law_153 ?_
    refine lw_ld C V hX (j := i9 + 2) (by omega) d_La_law_154 ?_
    refine lv_i2l hx hb d_La_law_155 rfl ?_
    refine lv_ldc2 (v := 4294967295) hx hb C.2.2.2.1 (C.2.2.2.2.1 _ kl_La_53) d_La_law_156 ?_
    refine lv_land hx hb d_La_law_159 ?_
    refine lv_lor hx hb d_La_law_160 ?_
    refine lv_aload_n hx hb d_La_law_161 rfl (lv_at hl 2 rfl) ?_
    refine lv_iload hx hb d_La_law_162 (lv_at hl 1 rfl) ?_
    refine lv_iconst (v := 3) hx hb d_La_law_164 (by decide) ?_
    refine gn_iadd (a := i9) (b := 3) hx hb d_La_law_165 ?_
    refine lw_ld C V hX (j := i9 + 3) (by omega) d_La_law_166 ?_
    refine W.eq (g2 := F0 m 167 ls [.int (nI mm9), .long (((sc (i9 + 1)).toInt64 <<< ((32 : Int32).toInt64 &&& 63)) ||| ((sc (i9 + 2)).toInt64 &&& 4294967295)), .ref mo]) (by rw [hy9]) ?_
    refine gh_callV C V hl.1 m_Mo_text l_La_60 (c_Mo_text l E _ _ mo ad S I J (((sc (i9 + 1)).toInt64 <<< ((32 : Int32).toInt64 &&& 63)) ||| ((sc (i9 + 2)).toInt64 &&& 4294967295)) mm9 n hR hm9 hM.1.2.1 hM.1.1) rfl hR.1 gc_Mo ⟨by first | decide | omega | (dsimp only; omega), by first | decide | omega | (dsimp only; omega)⟩ ⟨by first | decide | omega | (dsimp only; omega), by first | decide | omega | (dsimp only; omega)⟩ (Nat.le_of_ble_eq_true rfl) rfl d_La_law_167 (fun r gm H locs hp9 V1 => ?_)
    have V := V1
    obtain ⟨rfl, -, -, hp9⟩ := hp9
    obtain ⟨S2, I2, hXm, t1, t2, t3, t4⟩ := hp9 hch9 h129
    refine W.eq (g2 := F0 m 170 ls []) rfl ?_
    have hA := hA.keep (hXm.2) (fun b hb => Or.inr (by have := hMo b hb; omega))
    have hoc := (hXm.2).at hoc (fun z => by have := hMo _ z; omega)
    have hR := hXm.1
    have hM := li_text hM hch9 h129 t1 t2 t3 t4
    have h00 : S2 0 = 0 := (t1 0 (by decide)).trans va_up_s
    refine lv_aload_n hx hb d_La_law_170 rfl (lv_at hl 4 rfl) ?_
    refine gh_callV C V hl.1 m_Mo_thrown l_La_61 (c_Mo_thrown l E _ _ mo ad _ _ _ hR) rfl hR.1 gc_Mo ⟨by first | decide | omega | (dsimp only; omega), by first | decide | omega | (dsimp only; omega)⟩ ⟨by first | decide | omega | (dsimp only; omega), by first | decide | omega | (dsimp only; omega)⟩ (Nat.le_of_ble_eq_true rfl) rfl d_La_law_171 (fun r g8 H locs hp9 V1 => ?_)
    obtain ⟨rfl, he9⟩ := hp9
    rw [he9] at V1
    have V := V1
    rw [h00]
    refine W.eq (g2 := F0 m 174 ls [.int 0]) rfl ?_
    refine lv_iload hx hb d_La_law_174 (lv_at hl 0 rfl) ?_
    refine lv_icmp_eq (tgt := 181) hx hb d_La_law_176 (by decide) (fun c1 => ?_) (fun c1 => absurd rfl c1)
    refine lv_goto (tgt := 635) hx hb d_La_law_181 (by decide) ?_
    have hl : lv_has ls 8 [(4, .int (nI i9)), (0, .ref sb), (1, .ref (Z 6)), (2, .ref mo), (3, .ref (Z 18))] := lv_sub hl [1, 2, 3, 4, 5] rfl
    exact gw_le (by first | omega | (dsimp only; omega)) (by first | omega | (dsimp only; omega)) (k _ _ _ _ V ⟨hρ, ⟨_, hoc⟩, _, _, _, _, _, _, _, _, _, _, _, _, _, _, _, _, _, _, _, hA, hR, hM⟩ hl)
  · obtain ⟨hx9, he9⟩ := hx9
    rw [he9] at V
    rcases hx9 with ⟨-, hy9⟩ | ⟨mm9, hy9, hm9, ⟨-, hch9⟩ | ⟨hx8, -⟩⟩
    · refine W.eq (g2 := F0 m 136 ls [.int 1]) rfl ?_
      refine lv_istore hx hb d_La_law_136 hl (by decide) rfl (fun ls hl => ?_)
      have hl : lv_has ls 8 [(5, .int 1), (4, .int (nI i9)), (0, .ref sb), (1, .ref (Z 6)), (2, .ref mo), (3, .ref (Z 18))] := hl
      refine lv_aload_n hx hb d_La_law_138 rfl (lv_at hl 4 rfl) ?_
      refine lv_aload_n hx hb d_La_law_139 rfl (lv_at hl 2 rfl) ?_
      refine lv_iload hx hb d_La_law_140 (lv_at hl 1 rfl) ?_
      refine lv_iconst (v := 1) hx hb d_La_law_142 (by decide) ?_
      refine gn_iadd (a := i9) (b := 1) hx hb d_La_law_143 ?_
      refine lw_ld C V hX (j := i9 + 1) (by omega) d_La_law_144 ?_
      refine lv_i2l hx hb d_La_law_145 rfl ?_
      refine lv_bipush (v := 32) hx hb d_La_law_146 (by decide) ?_
      refine lv_lshl hx hb d_La_law_148 rfl ?_
      refine lv_aload_n hx hb d_La_law_149 rfl (lv_at hl 2 rfl) ?_
      refine lv_iload hx hb d_La_law_150 (lv_at hl 1 rfl) ?_
      refine lv_iconst (v := 2) hx hb d_La_law_152 (by decide) ?_
      refine gn_iadd (a := i9) (b := 2) hx hb d_La_law_153 ?_
      refine lw_ld C V hX (j := i9 + 2) (by omega) d_La_law_154 ?_
      refine lv_i2l hx hb d_La_law_155 rfl ?_
      refine lv_ldc2 (v := 4294967295) hx hb C.2.2.2.1 (C.2.2.2.2.1 _ kl_La_53) d_La_law_156 ?_
      refine lv_land hx hb d_La_law_159 ?_
      refine lv_lor hx hb d_La_law_160 ?_
      refine lv_aload_n hx hb d_La_law_161 rfl (lv_at hl 2 rfl) ?_
      refine lv_iload hx hb d_La_law_162 (lv_at hl 1 rfl) ?_
      refine lv_iconst (v := 3) hx hb d_La_law_164 (by decide) ?_
      refine gn_iadd (a := i9) (b := 3) hx hb d_La_law_165 ?_
      refine lw_ld C V hX (j := i9 + 3) (by omega) d_La_law_166 ?_
      refine gh_callV C V hl.1 m_Mo_text l_La_60 (c_Mo_text0 l E _ _ mo ad S I J (((sc (i9 + 1)).toInt64 <<< ((32 : Int32).toInt64 &&& 63)) ||| ((sc (i9 + 2)).toInt64 &&& 4294967295)) (sc (i9 + 3)) hR hy9) rfl hR.1 gc_Mo ⟨by first | decide | omega | (dsimp only; omega), by first | decide | omega | (dsimp only; omega)⟩ ⟨by first | decide | omega | (dsimp only; omega), by first | decide | omega | (dsimp only; omega)⟩ (Nat.le_of_ble_eq_true rfl) rfl d_La_law_167 (fun r gm H locs hp9 V1 => ?_)
      have V := V1
      obtain ⟨rfl, hXm⟩ := hp9
      refine W.eq (g2 := F0 m 170 ls []) rfl ?_
      have hA := hA.keep (hXm.2) (fun b hb => Or.inr (by have := hMo b hb; omega))
      have hoc := (hXm.2).at hoc (fun z => by have := hMo _ z; omega)
      have hR := hXm.1
      have hM := hM.s0 (v := 1)
      refine lv_aload_n hx hb d_La_law_170 rfl (lv_at hl 4 rfl) ?_
      refine gh_callV C V hl.1 m_Mo_thrown l_La_61 (c_Mo_thrown l E _ _ mo ad _ _ _ hR) rfl hR.1 gc_Mo ⟨by first | decide | omega | (dsimp only; omega), by first | decide | omega | (dsimp only; omega)⟩ ⟨by first | decide | omega | (dsimp only; omega), by first | decide | omega | (dsimp only; omega)⟩ (Nat.le_of_ble_eq_true rfl) rfl d_La_law_171 (fun r g8 H locs hp9 V1 => ?_)
      obtain ⟨rfl, he9⟩ := hp9
      rw [he9] at V1
      have V := V1
      rw [va_up_s]
      refine W.eq (g2 := F0 m 174 ls [.int 1]) rfl ?_
      refine lv_iload hx hb d_La_law_174 (lv_at hl 0 rfl) ?_
      refine lv_icmp_eq (tgt := 181) hx hb d_La_law_176 (by decide) (fun c2 => ?_) (fun c2 => absurd rfl c2)
      refine lv_goto (tgt := 635) hx hb d_La_law_181 (by decide) ?_
      have hl : lv_has ls 8 [(4, .int (nI i9)), (0, .ref sb), (1, .ref (Z 6)), (2, .ref mo), (3, .ref (Z 18))] := lv_sub hl [1, 2, 3, 4, 5] rfl
      exact gw_le (by first | omega | (dsimp only; omega)) (by first | omega | (dsimp only; omega)) (k _ _ _ _ V ⟨hρ, ⟨_, hoc⟩, _, _, _, _, _, _, _, _, _, _, _, _, _, _, _, _, _, _, _, hA, hR, hM⟩ hl)
    · refine W.eq (g2 := F0 m 136 ls [.int 1]) rfl ?_
      refine lv_istore hx hb d_La_law_136 hl (by decide) rfl (fun ls hl => ?_)
      have hl : lv_has ls 8 [(5, .int 1), (4, .int (nI i9)), (0, .ref sb), (1, .ref (Z 6)), (2, .ref mo), (3, .ref (Z 18))] := hl
      refine lv_aload_n hx hb d_La_law_138 rfl (lv_at hl 4 rfl) ?_
      refine lv_aload_n hx hb d_La_law_139 rfl (lv_at hl 2 rfl) ?_
      refine lv_iload hx hb d_La_law_140 (lv_at hl 1 rfl) ?_
      refine lv_iconst (v := 1) hx hb d_La_law_142 (by decide) ?_
      refine gn_iadd (a := i9) (b := 1) hx hb d_La_law_143 ?_
      refine lw_ld C V hX (j := i9 + 1) (by omega) d_La_law_144 ?_
      refine lv_i2l hx hb d_La_law_145 rfl ?_
      refine lv_bipush (v := 32) hx hb d_La_law_146 (by decide) ?_
      refine lv_lshl hx hb d_La_law_148 rfl ?_
      refine lv_aload_n hx hb d_La_law_149 rfl (lv_at hl 2 rfl) ?_
      refine lv_iload hx hb d_La_law_150 (lv_at hl 1 rfl) ?_
      refine lv_iconst (v := 2) hx hb d_La_law_152 (by decide) ?_
      refine gn_iadd (a := i9) (b := 2) hx hb d_La_law_153 ?_
      refine lw_ld C V hX (j := i9 + 2) (by omega) d_La_law_154 ?_
      refine lv_i2l hx hb d_La_law_155 rfl ?_
      refine lv_ldc2 (v := 4294967295) hx hb C.2.2.2.1 (C.2.2.2.2.1 _ kl_La_53) d_La_law_156 ?_
      refine lv_land hx hb d_La_law_159 ?_
      refine lv_lor hx hb d_La_law_160 ?_
      refine lv_aload_n hx hb d_La_law_161 rfl (lv_at hl 2 rfl) ?_
      refine lv_iload hx hb d_La_law_162 (lv_at hl 1 rfl) ?_
      refine lv_iconst (v := 3) hx hb d_La_law_164 (by decide) ?_
      refine gn_iadd (a := i9) (b := 3) hx hb d_La_law_165 ?_
      refine lw_ld C V hX (j := i9 + 3) (by omega) d_La_law_166 ?_
      refine W.eq (g2 := F0 m 167 ls [.int (nI mm9), .long (((sc (i9 + 1)).toInt64 <<< ((32 : Int32).toInt64 &&& 63)) ||| ((sc (i9 + 2)).toInt64 &&& 4294967295)), .ref mo]) (by rw [hy9]) ?_
      refine gh_callV C V hl.1 m_Mo_text l_La_60 (c_Mo_text l E _ _ mo ad S I J (((sc (i9 + 1)).toInt64 <<< ((32 : Int32).toInt64 &&& 63)) ||| ((sc (i9 + 2)).toInt64 &&& 4294967295)) mm9 n hR hm9 hM.1.2.1 hM.1.1) rfl hR.1 gc_Mo ⟨by first | decide | omega | (dsimp only; omega), by first | decide | omega | (dsimp only; omega)⟩ ⟨by first | decide | omega | (dsimp only; omega), by first | decide | omega | (dsimp only; omega)⟩ (Nat.le_of_ble_eq_true rfl) rfl d_La_law_167 (fun r gm H locs hp9 V1 => ?_)
      have V := V1
      obtain ⟨rfl, hp9, -, -⟩ := hp9
      have hXm := hp9 hch9
      refine W.eq (g2 := F0 m 170 ls []) rfl ?_
      have hA := hA.keep (hXm.2) (fun b hb => Or.inr (by have := hMo b hb; omega))
      have hoc := (hXm.2).at hoc (fun z => by have := hMo _ z; omega)
      have hR := hXm.1
      have hM := hM.s0 (v := 1)
      refine lv_aload_n hx hb d_La_law_170 rfl (lv_at hl 4 rfl) ?_
      refine gh_callV C V hl.1 m_Mo_thrown l_La_61 (c_Mo_thrown l E _ _ mo ad _ _ _ hR) rfl hR.1 gc_Mo ⟨by first | decide | omega | (dsimp only; omega), by first | decide | omega | (dsimp only; omega)⟩ ⟨by first | decide | omega | (dsimp only; omega), by first | decide | omega | (dsimp only; omega)⟩ (Nat.le_of_ble_eq_true rfl) rfl d_La_law_171 (fun r g8 H locs hp9 V1 => ?_)
      obtain ⟨rfl, he9⟩ := hp9
      rw [he9] at V1
      have V := V1
      rw [va_up_s]
      refine W.eq (g2 := F0 m 174 ls [.int 1]) rfl ?_
      refine lv_iload hx hb d_La_law_174 (lv_at hl 0 rfl) ?_
      refine lv_icmp_eq (tgt := 181) hx hb d_La_law_176 (by decide) (fun c3 => ?_) (fun c3 => absurd rfl c3)
      refine lv_goto (tgt := 635) hx hb d_La_law_181 (by decide) ?_
      have hl : lv_has ls 8 [(4, .int (nI i9)), (0, .ref sb), (1, .ref (Z 6)), (2, .ref mo), (3, .ref (Z 18))] := lv_sub hl [1, 2, 3, 4, 5] rfl
      exact gw_le (by first | omega | (dsimp only; omega)) (by first | omega | (dsimp only; omega)) (k _ _ _ _ V ⟨hρ, ⟨_, hoc⟩, _, _, _, _, _, _, _, _, _, _, _, _, _, _, _, _, _, _, _, hA, hR, hM⟩ hl)
    · exact absurd hx8 (by decide)
  · obtain ⟨hx9, he9⟩ := hx9
    rw [he9] at V
    rcases hx9 with ⟨hx8, -⟩ | ⟨mm9, hy9, hm9, ⟨hx8, -⟩ | ⟨-, hch9, h129⟩⟩
    · exact absurd hx8 (by decide)
    · exact absurd hx8 (by decide)
    · refine W.eq (g2 := F0 m 136 ls [.int 2]) rfl ?_
      refine lv_istore hx hb d_La_law_136 hl (by decide) rfl (fun ls hl => ?_)
      have hl : lv_has ls 8 [(5, .int 2), (4, .int (nI i9)), (0, .ref sb), (1, .ref (Z 6)), (2, .ref mo), (3, .ref (Z 18))] := hl
      refine lv_aload_n hx hb d_La_law_138 rfl (lv_at hl 4 rfl) ?_
      refine lv_aload_n hx hb d_La_law_139 rfl (lv_at hl 2 rfl) ?_
      refine lv_iload hx hb d_La_law_140 (lv_at hl 1 rfl) ?_
      refine lv_iconst (v := 1) hx hb d_La_law_142 (by decide) ?_
      refine gn_iadd (a := i9) (b := 1) hx hb d_La_law_143 ?_
      refine lw_ld C V hX (j := i9 + 1) (by omega) d_La_law_144 ?_
      refine lv_i2l hx hb d_La_law_145 rfl ?_
      refine lv_bipush (v := 32) hx hb d_La_law_146 (by decide) ?_
      refine lv_lshl hx hb d_La_law_148 rfl ?_
      refine lv_aload_n hx hb d_La_law_149 rfl (lv_at hl 2 rfl) ?_
      refine lv_iload hx hb d_La_law_150 (lv_at hl 1 rfl) ?_
      refine lv_iconst (v := 2) hx hb d_La_law_152 (by decide) ?_
      refine gn_iadd (a := i9) (b := 2) hx hb d_La_law_153 ?_
      refine lw_ld C V hX (j := i9 + 2) (by omega) d_La_law_154 ?_
      refine lv_i2l hx hb d_La_law_155 rfl ?_
      refine lv_ldc2 (v := 4294967295) hx hb C.2.2.2.1 (C.2.2.2.2.1 _ kl_La_53) d_La_law_156 ?_
      refine lv_land hx hb d_La_law_159 ?_
      refine lv_lor hx hb d_La_law_160 ?_
      refine lv_aload_n hx hb d_La_law_161 rfl (lv_at hl 2 rfl) ?_
      refine lv_iload hx hb d_La_law_162 (lv_at hl 1 rfl) ?_
      refine lv_iconst (v := 3) hx hb d_La_law_164 (by decide) ?_
      refine gn_iadd (a := i9) (b := 3) hx hb d_La_law_165 ?_
      refine lw_ld C V hX (j := i9 + 3) (by omega) d_La_law_166 ?_
      refine W.eq (g2 := F0 m 167 ls [.int (nI mm9), .long (((sc (i9 + 1)).toInt64 <<< ((32 : Int32).toInt64 &&& 63)) ||| ((sc (i9 + 2)).toInt64 &&& 4294967295)), .ref mo]) (by rw [hy9]) ?_
      refine gh_callV C V hl.1 m_Mo_text l_La_60 (c_Mo_text l E _ _ mo ad S I J (((sc (i9 + 1)).toInt64 <<< ((32 : Int32).toInt64 &&& 63)) ||| ((sc (i9 + 2)).toInt64 &&& 4294967295)) mm9 n hR hm9 hM.1.2.1 hM.1.1) rfl hR.1 gc_Mo ⟨by first | decide | omega | (dsimp only; omega), by first | decide | omega | (dsimp only; omega)⟩ ⟨by first | decide | omega | (dsimp only; omega), by first | decide | omega | (dsimp only; omega)⟩ (Nat.le_of_ble_eq_true rfl) rfl d_La_law_167 (fun r gm H locs hp9 V1 => ?_)
      have V := V1
      obtain ⟨rfl, -, hp9, -⟩ := hp9
      have hXm := hp9 hch9 h129
      refine W.eq (g2 := F0 m 170 ls []) rfl ?_
      have hA := hA.keep (hXm.2) (fun b hb => Or.inr (by have := hMo b hb; omega))
      have hoc := (hXm.2).at hoc (fun z => by have := hMo _ z; omega)
      have hR := hXm.1
      have hM := hM.s0 (v := 2)
      refine lv_aload_n hx hb d_La_law_170 rfl (lv_at hl 4 rfl) ?_
      refine gh_callV C V hl.1 m_Mo_thrown l_La_61 (c_Mo_thrown l E _ _ mo ad _ _ _ hR) rfl hR.1 gc_Mo ⟨by first | decide | omega | (dsimp only; omega), by first | decide | omega | (dsimp only; omega)⟩ ⟨by first | decide | omega | (dsimp only; omega), by first | decide | omega | (dsimp only; omega)⟩ (Nat.le_of_ble_eq_true rfl) rfl d_La_law_171 (fun r g8 H locs hp9 V1 => ?_)
      obtain ⟨rfl, he9⟩ := hp9
      rw [he9] at V1
      have V := V1
      rw [va_up_s]
      refine W.eq (g2 := F0 m 174 ls [.int 2]) rfl ?_
      refine lv_iload hx hb d_La_law_174 (lv_at hl 0 rfl) ?_
      refine lv_icmp_eq (tgt := 181) hx hb d_La_law_176 (by decide) (fun c4 => ?_) (fun c4 => absurd rfl c4)
      refine lv_goto (tgt := 635) hx hb d_La_law_181 (by decide) ?_
      have hl : lv_has ls 8 [(4, .int (nI i9)), (0, .ref sb), (1, .ref (Z 6)), (2, .ref mo), (3, .ref (Z 18))] := lv_sub hl [1, 2, 3, 4, 5] rfl
      exact gw_le (by first | omega | (dsimp only; omega)) (by first | omega | (dsimp only; omega)) (k _ _ _ _ V ⟨hρ, ⟨_, hoc⟩, _, _, _, _, _, _, _, _, _, _, _, _, _, _, _, _, _, _, _, hA, hR, hM⟩ hl)
set_option maxHeartbeats 4000000 in
set_option maxRecDepth 100000 in
theorem lw_case3 {p : Program} {l : Launch} {e : Env} {s : State} {m : MethodId} {args : Array Value} {below : List Frame} {meth : Method} {c : Code} {H : Heap} {locs : List Loc} {cells slots : Nat} {Q : State → Prop} {ls : Array Slot} {E : gh_E} {A : Nat → Prop} {f : gh_F} {ρ Z : Nat → Nat} {mo : Nat} {ad : Nat → Nat} {sb L i9 : Nat} {sc : Nat → Int32} (hst : ∀ e : Env, l.admits e → e.platform.stackTraces = false) (C : gh_C E A p s m args c code R_La 8) (V : gh_V E A f s H locs) (hX : va_X sb L sc s s.heap ∧ sb < s.heap.size ∧ ¬ A sb ∧ L ≤ 2048) (hI : lw_I E ρ Z mo ad f) (hi : i9 + 4 ≤ L) (hl : lv_has ls 8 [(4, .int (nI i9)), (0, .ref sb), (1, .ref (Z 6)), (2, .ref mo), (3, .ref (Z 18))]) (hc : cells + 800 ≤ 601024) (hs : slots + 9800 ≤ 7293034) (k : ∀ (f9 : gh_F) (H9 : Heap) (locs9 : List Loc) (ls9 : Array Slot), gh_V E A f9 s H9 locs9 → lw_I E ρ Z mo ad f9 → lv_has ls9 8 [(4, .int (nI i9)), (0, .ref sb), (1, .ref (Z 6)), (2, .ref mo), (3, .ref (Z 18))] → W p l e { frames := 2048, cells := 601024, slots := 7293034, locals := 84000 } s m args below meth c H9 locs9 (cells + 800) (slots + 9800) Q (F0 m 635 ls9 [])) : W p l e { frames := 2048, cells := 601024, slots := 7293034, locals := 84000 } s m args below meth c H locs cells slots Q (F0 m 221 ls []) := by
  have hx := C.1
  have hb := C.2.1
  obtain ⟨hρ, ⟨ho9, hoc⟩, tx, n, bd, dc, X, q0, q1, N, cb, bg, N1, cb1, bg1, φ, en, xs, S, I, J, hA, hR, hM⟩ := hI
  have hMo := lw_M hρ
  have qz : rZ ρ Z := hA.2.1.1
  have e18 : ρ (Z 18) = 18 := qz 18 (by unfold rU; omega)
  have q6 : f (Z 6) = some (.inr (0, [.ref (Z 7), .int (nI n), .ref (Z 8), .ref (Z 10), .ref (Z 1), .ref dc, .ref (Z q0), .ref (Z q1)])) := hA.1
  have h2048 := hX.2.2.2
  refine lv_aload_n hx hb d_La_law_221 rfl (lv_at hl 2 rfl) ?_
  refine lv_aload_n hx hb d_La_law_222 rfl (lv_at hl 1 rfl) ?_
  refine lv_iload hx hb d_La_law_223 (lv_at hl 0 rfl) ?_
  refine lv_iconst (v := 1) hx hb d_La_law_225 (by decide) ?_
  refine gn_iadd (a := i9) (b := 1) hx hb d_La_law_226 ?_
  refine lw_ld C V hX (j := i9 + 1) (by omega) d_La_law_227 ?_
  refine lv_i2l hx hb d_La_law_228 rfl ?_
  refine lv_bipush (v := 32) hx hb d_La_law_229 (by decide) ?_
  refine lv_lshl hx hb d_La_law_231 rfl ?_
  refine lv_aload_n hx hb d_La_law_232 rfl (lv_at hl 1 rfl) ?_
  refine lv_iload hx hb d_La_law_233 (lv_at hl 0 rfl) ?_
  refine lv_iconst (v := 2) hx hb d_La_law_235 (by decide) ?_
  refine gn_iadd (a := i9) (b := 2) hx hb d_La_law_236 ?_
  refine lw_ld C V hX (j := i9 + 2) (by omega) d_La_law_237 ?_
  refine lv_i2l hx hb d_La_law_238 rfl ?_
  refine lv_ldc2 (v := 4294967295) hx hb C.2.2.2.1 (C.2.2.2.2.1 _ kl_La_53) d_La_law_239 ?_
  refine lv_land hx hb d_La_law_242 ?_
  refine lv_lor hx hb d_La_law_243 ?_
  refine lv_aload_n hx hb d_La_law_244 rfl (lv_at hl 1 rfl) ?_
  refine lv_iload hx hb d_La_law_245 (lv_at hl 0 rfl) ?_
  refine lv_iconst (v := 3) hx hb d_La_law_247 (by decide) ?_
  refine gn_iadd (a := i9) (b := 3) hx hb d_La_law_248 ?_
  refine lw_ld C V hX (j := i9 + 3) (by omega) d_La_law_249 ?_
  refine gc_callS C V hl.1 m_La_bytes l_La_73 (c_La_bytes l E _ _ (Z 6) (((sc (i9 + 1)).toInt64 <<< ((32 : Int32).toInt64 &&& 63)) ||| ((sc (i9 + 2)).toInt64 &&& 4294967295)) (sc (i9 + 3)) _ q6 _ _ (fun sz => c_QM_bytes l hst E sz f ρ Z tx n bd dc X q0 q1 N cb bg N1 cb1 bg1 φ en xs (((sc (i9 + 1)).toInt64 <<< ((32 : Int32).toInt64 &&& 63)) ||| ((sc (i9 + 2)).toInt64 &&& 4294967295)) (sc (i9 + 3)) hA) (fun cls g h => by rcases h.1 with h | h; exact Or.inl h.1; exact Or.inr h.1) (fun r g h => h.1)) rfl ⟨by first | decide | omega | (dsimp only; omega), by first | decide | omega | (dsimp only; omega)⟩ ⟨by first | decide | omega | (dsimp only; omega), by first | decide | omega | (dsimp only; omega)⟩ (Nat.le_of_ble_eq_true rfl) rfl d_La_law_250 (fun r g9 H locs hp9 V1 => ?_)
  have V := V1
  rcases hp9 with ⟨rfl, -, ⟨mm9, cb9, hy9, hm9, h129, hcb9, hA9⟩, hfr9⟩ | ⟨rfl, hx9⟩ | ⟨rfl, hx9⟩
  · have hR := hR.keep (hfr9) (fun b hb => lw_nq b (hMo b hb))
    have hoc := (hfr9).at hoc (lw_n18 _ e18)
    have hA := hA9
    refine W.eq (g2 := F0 m 253 ls [.int 0]) rfl ?_
    refine lv_istore hx hb d_La_law_253 hl (by decide) rfl (fun ls hl => ?_)
    have hl : lv_has ls 8 [(5, .int 0), (4, .int (nI i9)), (0, .ref sb), (1, .ref (Z 6)), (2, .ref mo), (3, .ref (Z 18))] := hl
    refine lv_aload_n hx hb d_La_law_255 rfl (lv_at hl 4 rfl) ?_
    refine lv_aload_n hx hb d_La_law_256 rfl (lv_at hl 2 rfl) ?_
    refine lv_iload hx hb d_La_law_257 (lv_at hl 1 rfl) ?_
    refine lv_iconst (v := 1) hx hb d_La_law_259 (by decide) ?_
    refine gn_iadd (a := i9) (b := 1) hx hb d_La_law_260 ?_
    refine lw_ld C V hX (j := i9 + 1) (by omega) d_La_law_261 ?_
    refine lv_i2l hx hb d_La_law_262 rfl ?_
    refine lv_bipush (v := 32) hx hb d_La_law_263 (by decide) ?_
    refine lv_lshl hx hb d_La_law_265 rfl ?_
    refine lv_aload_n hx hb d_La_law_266 rfl (lv_at hl 2 rfl) ?_
    refine lv_iload hx hb d_La_law_267 (lv_at hl 1 rfl) ?_
    refine lv_iconst (v := 2) hx hb d_La_law_269 (by decide) ?_
    refine gn_iadd (a := i9) (b := 2) hx hb d_La_law_270 ?_
    refine lw_ld C V hX (j := i9 + 2) (by omega) d_La_law_271 ?_
    refine lv_i2l hx hb d_La_law_272 rfl ?_
    refine lv_ldc2 (v := 4294967295) hx hb C.2.2.2.1 (C.2.2.2.2.1 _ kl_La_53) d_La_law_273 ?_
    refine lv_land hx hb d_La_law_276 ?_
    refine lv_lor hx hb d_La_law_277 ?_
    refine lv_aload_n hx hb d_La_law_278 rfl (lv_at hl 2 rfl) ?_
    refine lv_iload hx hb d_La_law_279 (lv_at hl 1 rfl) ?_
    refine lv_iconst (v := 3) hx hb d_La_law_281 (by decide) ?_
    refine gn_iadd (a := i9) (b := 3) hx hb d_La_law_282 ?_
    refine lw_ld C V hX (j := i9 + 3) (by omega) d_La_law_283 ?_
    refine W.eq (g2 := F0 m 284 ls [.int (nI mm9), .long (((sc (i9 + 1)).toInt64 <<< ((32 : Int32).toInt64 &&& 63)) ||| ((sc (i9 + 2)).toInt64 &&& 4294967295)), .ref mo]) (by rw [hy9]) ?_
    refine gh_callV C V hl.1 m_Mo_bytes l_La_75 (c_Mo_bytes2 l E _ _ mo ad S I J (((sc (i9 + 1)).toInt64 <<< ((32 : Int32).toInt64 &&& 63)) ||| ((sc (i9 + 2)).toInt64 &&& 4294967295)) mm9 N1 hR hm9 hM.2.2.1.1 h129) rfl hR.1 gc_Mo ⟨by first | decide | omega | (dsimp only; omega), by first | decide | omega | (dsimp only; omega)⟩ ⟨by first | decide | omega | (dsimp only; omega), by first | decide | omega | (dsimp only; omega)⟩ (Nat.le_of_ble_eq_true rfl) rfl d_La_law_284 (fun r gm H locs hp9 V1 => ?_)
    have V := V1
    obtain ⟨rfl, S2, I2, hXm, t1, t2, t3, t4⟩ := hp9
    refine W.eq (g2 := F0 m 287 ls []) rfl ?_
    have hA := hA.keep (hXm.2) (fun b hb => Or.inr (by have := hMo b hb; omega))
    have hoc := (hXm.2).at hoc (fun z => by have := hMo _ z; omega)
    have hR := hXm.1
    have hM := li_bytes hM t1 t2 t3 t4 hcb9
    have h00 : S2 0 = 0 := (t1 0 (by decide)).trans va_up_s
    refine lv_aload_n hx hb d_La_law_287 rfl (lv_at hl 4 rfl) ?_
    refine gh_callV C V hl.1 m_Mo_thrown l_La_61 (c_Mo_thrown l E _ _ mo ad _ _ _ hR) rfl hR.1 gc_Mo ⟨by first | decide | omega | (dsimp only; omega), by first | decide | omega | (dsimp only; omega)⟩ ⟨by first | decide | omega | (dsimp only; omega), by first | decide | omega | (dsimp only; omega)⟩ (Nat.le_of_ble_eq_true rfl) rfl d_La_law_288 (fun r g8 H locs hp9 V1 => ?_)
    obtain ⟨rfl, he9⟩ := hp9
    rw [he9] at V1
    have V := V1
    rw [h00]
    refine W.eq (g2 := F0 m 291 ls [.int 0]) rfl ?_
    refine lv_iload hx hb d_La_law_291 (lv_at hl 0 rfl) ?_
    refine lv_icmp_eq (tgt := 298) hx hb d_La_law_293 (by decide) (fun c1 => ?_) (fun c1 => absurd rfl c1)
    refine lv_goto (tgt := 635) hx hb d_La_law_298 (by decide) ?_
    have hl : lv_has ls 8 [(4, .int (nI i9)), (0, .ref sb), (1, .ref (Z 6)), (2, .ref mo), (3, .ref (Z 18))] := lv_sub hl [1, 2, 3, 4, 5] rfl
    exact gw_le (by first | omega | (dsimp only; omega)) (by first | omega | (dsimp only; omega)) (k _ _ _ _ V ⟨hρ, ⟨_, hoc⟩, _, _, _, _, _, _, _, _, _, _, _, _, _, _, _, _, _, _, _, hA, hR, hM⟩ hl)
  · obtain ⟨hx9, he9⟩ := hx9
    rw [he9] at V
    rcases hx9 with ⟨-, hy9⟩ | ⟨hx8, -⟩
    · refine W.eq (g2 := F0 m 253 ls [.int 1]) rfl ?_
      refine lv_istore hx hb d_La_law_253 hl (by decide) rfl (fun ls hl => ?_)
      have hl : lv_has ls 8 [(5, .int 1), (4, .int (nI i9)), (0, .ref sb), (1, .ref (Z 6)), (2, .ref mo), (3, .ref (Z 18))] := hl
      refine lv_aload_n hx hb d_La_law_255 rfl (lv_at hl 4 rfl) ?_
      refine lv_aload_n hx hb d_La_law_256 rfl (lv_at hl 2 rfl) ?_
      refine lv_iload hx hb d_La_law_257 (lv_at hl 1 rfl) ?_
      refine lv_iconst (v := 1) hx hb d_La_law_259 (by decide) ?_
      refine gn_iadd (a := i9) (b := 1) hx hb d_La_law_260 ?_
      refine lw_ld C V hX (j := i9 + 1) (by omega) d_La_law_261 ?_
      refine lv_i2l hx hb d_La_law_262 rfl ?_
      refine lv_bipush (v := 32) hx hb d_La_law_263 (by decide) ?_
      refine lv_lshl hx hb d_La_law_265 rfl ?_
      refine lv_aload_n hx hb d_La_law_266 rfl (lv_at hl 2 rfl) ?_
      refine lv_iload hx hb d_La_law_267 (lv_at hl 1 rfl) ?_
      refine lv_iconst (v := 2) hx hb d_La_law_269 (by decide) ?_
      refine gn_iadd (a := i9) (b := 2) hx hb d_La_law_270 ?_
      refine lw_ld C V hX (j := i9 + 2) (by omega) d_La_law_271 ?_
      refine lv_i2l hx hb d_La_law_272 rfl ?_
      refine lv_ldc2 (v := 4294967295) hx hb C.2.2.2.1 (C.2.2.2.2.1 _ kl_La_53) d_La_law_273 ?_
      refine lv_land hx hb d_La_law_276 ?_
      refine lv_lor hx hb d_La_law_277 ?_
      refine lv_aload_n hx hb d_La_law_278 rfl (lv_at hl 2 rfl) ?_
      refine lv_iload hx hb d_La_law_279 (lv_at hl 1 rfl) ?_
      refine lv_iconst (v := 3) hx hb d_La_law_281 (by decide) ?_
      refine gn_iadd (a := i9) (b := 3) hx hb d_La_law_282 ?_
      refine lw_ld C V hX (j := i9 + 3) (by omega) d_La_law_283 ?_
      refine gh_callV C V hl.1 m_Mo_bytes l_La_75 (c_Mo_bytes0 l E _ _ mo ad S I J (((sc (i9 + 1)).toInt64 <<< ((32 : Int32).toInt64 &&& 63)) ||| ((sc (i9 + 2)).toInt64 &&& 4294967295)) (sc (i9 + 3)) hR hy9) rfl hR.1 gc_Mo ⟨by first | decide | omega | (dsimp only; omega), by first | decide | omega | (dsimp only; omega)⟩ ⟨by first | decide | omega | (dsimp only; omega), by first | decide | omega | (dsimp only; omega)⟩ (Nat.le_of_ble_eq_true rfl) rfl d_La_law_284 (fun r gm H locs hp9 V1 => ?_)
      have V := V1
      obtain ⟨rfl, hXm⟩ := hp9
      refine W.eq (g2 := F0 m 287 ls []) rfl ?_
      have hA := hA.keep (hXm.2) (fun b hb => Or.inr (by have := hMo b hb; omega))
      have hoc := (hXm.2).at hoc (fun z => by have := hMo _ z; omega)
      have hR := hXm.1
      have hM := hM.s0 (v := 1)
      refine lv_aload_n hx hb d_La_law_287 rfl (lv_at hl 4 rfl) ?_
      refine gh_callV C V hl.1 m_Mo_thrown l_La_61 (c_Mo_thrown l E _ _ mo ad _ _ _ hR) rfl hR.1 gc_Mo ⟨by first | decide | omega | (dsimp only; omega), by first | decide | omega | (dsimp only; omega)⟩ ⟨by first | decide | omega | (dsimp only; omega), by first | decide | omega | (dsimp only; omega)⟩ (Nat.le_of_ble_eq_true rfl) rfl d_La_law_288 (fun r g8 H locs hp9 V1 => ?_)
      obtain ⟨rfl, he9⟩ := hp9
      rw [he9] at V1
      have V := V1
      rw [va_up_s]
      refine W.eq (g2 := F0 m 291 ls [.int 1]) rfl ?_
      refine lv_iload hx hb d_La_law_291 (lv_at hl 0 rfl) ?_
      refine lv_icmp_eq (tgt := 298) hx hb d_La_law_293 (by decide) (fun c2 => ?_) (fun c2 => absurd rfl c2)
      refine lv_goto (tgt := 635) hx hb d_La_law_298 (by decide) ?_
      have hl : lv_has ls 8 [(4, .int (nI i9)), (0, .ref sb), (1, .ref (Z 6)), (2, .ref mo), (3, .ref (Z 18))] := lv_sub hl [1, 2, 3, 4, 5] rfl
      exact gw_le (by first | omega | (dsimp only; omega)) (by first | omega | (dsimp only; omega)) (k _ _ _ _ V ⟨hρ, ⟨_, hoc⟩, _, _, _, _, _, _, _, _, _, _, _, _, _, _, _, _, _, _, _, hA, hR, hM⟩ hl)
    · exact absurd hx8 (by decide)
  · obtain ⟨hx9, he9⟩ := hx9
    rw [he9] at V
    rcases hx9 with ⟨hx8, -⟩ | ⟨-, mm9, hy9, hm9, h129⟩
    · exact absurd hx8 (by decide)
    · have h60 : N1 ≤ 60 := hA.2.2.2.2.2.2.2.2.2.2.2.2.2.2.2.2.1
      refine W.eq (g2 := F0 m 253 ls [.int 2]) rfl ?_
      refine lv_istore hx hb d_La_law_253 hl (by decide) rfl (fun ls hl => ?_)
      have hl : lv_has ls 8 [(5, .int 2), (4, .int (nI i9)), (0, .ref sb), (1, .ref (Z 6)), (2, .ref mo), (3, .ref (Z 18))] := hl
      refine lv_aload_n hx hb d_La_law_255 rfl (lv_at hl 4 rfl) ?_
      refine lv_aload_n hx hb d_La_law_256 rfl (lv_at hl 2 rfl) ?_
      refine lv_iload hx hb d_La_law_257 (lv_at hl 1 rfl) ?_
      refine lv_iconst (v := 1) hx hb d_La_law_259 (by decide) ?_
      refine gn_iadd (a := i9) (b := 1) hx hb d_La_law_260 ?_
      refine lw_ld C V hX (j := i9 + 1) (by omega) d_La_law_261 ?_
      refine lv_i2l hx hb d_La_law_262 rfl ?_
      refine lv_bipush (v := 32) hx hb d_La_law_263 (by decide) ?_
      refine lv_lshl hx hb d_La_law_265 rfl ?_
      refine lv_aload_n hx hb d_La_law_266 rfl (lv_at hl 2 rfl) ?_
      refine lv_iload hx hb d_La_law_267 (lv_at hl 1 rfl) ?_
      refine lv_iconst (v := 2) hx hb d_La_law_269 (by decide) ?_
      refine gn_iadd (a := i9) (b := 2) hx hb d_La_law_270 ?_
      refine lw_ld C V hX (j := i9 + 2) (by omega) d_La_law_271 ?_
      refine lv_i2l hx hb d_La_law_272 rfl ?_
      refine lv_ldc2 (v := 4294967295) hx hb C.2.2.2.1 (C.2.2.2.2.1 _ kl_La_53) d_La_law_273 ?_
      refine lv_land hx hb d_La_law_276 ?_
      refine lv_lor hx hb d_La_law_277 ?_
      refine lv_aload_n hx hb d_La_law_278 rfl (lv_at hl 2 rfl) ?_
      refine lv_iload hx hb d_La_law_279 (lv_at hl 1 rfl) ?_
      refine lv_iconst (v := 3) hx hb d_La_law_281 (by decide) ?_
      refine gn_iadd (a := i9) (b := 3) hx hb d_La_law_282 ?_
      refine lw_ld C V hX (j := i9 + 3) (by omega) d_La_law_283 ?_
      refine W.eq (g2 := F0 m 284 ls [.int (nI mm9), .long (((sc (i9 + 1)).toInt64 <<< ((32 : Int32).toInt64 &&& 63)) ||| ((sc (i9 + 2)).toInt64 &&& 4294967295)), .ref mo]) (by rw [hy9]) ?_
      refine gh_callV C V hl.1 m_Mo_bytes l_La_75 (c_Mo_bytes1 l E _ _ mo ad S I J (((sc (i9 + 1)).toInt64 <<< ((32 : Int32).toInt64 &&& 63)) ||| ((sc (i9 + 2)).toInt64 &&& 4294967295)) mm9 N1 hR hm9 h60 hM.2.2.1.1 h129) rfl hR.1 gc_Mo ⟨by first | decide | omega | (dsimp only; omega), by first | decide | omega | (dsimp only; omega)⟩ ⟨by first | decide | omega | (dsimp only; omega), by first | decide | omega | (dsimp only; omega)⟩ (Nat.le_of_ble_eq_true rfl) rfl d_La_law_284 (fun r gm H locs hp9 V1 => ?_)
      have V := V1
      obtain ⟨rfl, hXm⟩ := hp9
      refine W.eq (g2 := F0 m 287 ls []) rfl ?_
      have hA := hA.keep (hXm.2) (fun b hb => Or.inr (by have := hMo b hb; omega))
      have hoc := (hXm.2).at hoc (fun z => by have := hMo _ z; omega)
      have hR := hXm.1
      have hM := hM.s0 (v := 2)
      refine lv_aload_n hx hb d_La_law_287 rfl (lv_at hl 4 rfl) ?_
      refine gh_callV C V hl.1 m_Mo_thrown l_La_61 (c_Mo_thrown l E _ _ mo ad _ _ _ hR) rfl hR.1 gc_Mo ⟨by first | decide | omega | (dsimp only; omega), by first | decide | omega | (dsimp only; omega)⟩ ⟨by first | decide | omega | (dsimp only; omega), by first | decide | omega | (dsimp only; omega)⟩ (Nat.le_of_ble_eq_true rfl) rfl d_La_law_288 (fun r g8 H locs hp9 V1 => ?_)
      obtain ⟨rfl, he9⟩ := hp9
      rw [he9] at V1
      have V := V1
      rw [va_up_s]
      refine W.eq (g2 := F0 m 291 ls [.int 2]) rfl ?_
      refine lv_iload hx hb d_La_law_291 (lv_at hl 0 rfl) ?_
      refine lv_icmp_eq (tgt := 298) hx hb d_La_law_293 (by decide) (fun c3 => ?_) (fun c3 => absurd rfl c3)
      refine lv_goto (tgt := 635) hx hb d_La_law_298 (by decide) ?_
      have hl : lv_has ls 8 [(4, .int (nI i9)), (0, .ref sb), (1, .ref (Z 6)), (2, .ref mo), (3, .ref (Z 18))] := lv_sub hl [1, 2, 3, 4, 5] rfl
      exact gw_le (by first | omega | (dsimp only; omega)) (by first | omega | (dsimp only; omega)) (k _ _ _ _ V ⟨hρ, ⟨_, hoc⟩, _, _, _, _, _, _, _, _, _, _, _, _, _, _, _, _, _, _, _, hA, hR, hM⟩ hl)
set_option maxHeartbeats 4000000 in
set_option maxRecDepth 100000 in
theorem lw_case2 {p : Program} {l : Launch} {e : Env} {s : State} {m : MethodId} {args : Array Value} {below : List Frame} {meth : Method} {c : Code} {H : Heap} {locs : List Loc} {cells slots : Nat} {Q : State → Prop} {ls : Array Slot} {E : gh_E} {A : Nat → Prop} {f : gh_F} {ρ Z : Nat → Nat} {mo : Nat} {ad : Nat → Nat} {sb L i9 : Nat} {sc : Nat → Int32} (hst : ∀ e : Env, l.admits e → e.platform.stackTraces = false) (C : gh_C E A p s m args c code R_La 8) (V : gh_V E A f s H locs) (hX : va_X sb L sc s s.heap ∧ sb < s.heap.size ∧ ¬ A sb ∧ L ≤ 2048) (hI : lw_I E ρ Z mo ad f) (hi : i9 + 4 ≤ L) (hl : lv_has ls 8 [(4, .int (nI i9)), (0, .ref sb), (1, .ref (Z 6)), (2, .ref mo), (3, .ref (Z 18))]) (hc : cells + 800 ≤ 601024) (hs : slots + 9800 ≤ 7293034) (k : ∀ (f9 : gh_F) (H9 : Heap) (locs9 : List Loc) (ls9 : Array Slot), gh_V E A f9 s H9 locs9 → lw_I E ρ Z mo ad f9 → lv_has ls9 8 [(4, .int (nI i9)), (0, .ref sb), (1, .ref (Z 6)), (2, .ref mo), (3, .ref (Z 18))] → W p l e { frames := 2048, cells := 601024, slots := 7293034, locals := 84000 } s m args below meth c H9 locs9 (cells + 800) (slots + 9800) Q (F0 m 635 ls9 [])) : W p l e { frames := 2048, cells := 601024, slots := 7293034, locals := 84000 } s m args below meth c H locs cells slots Q (F0 m 208 ls []) := by
  have hx := C.1
  have hb := C.2.1
  obtain ⟨hρ, ⟨ho9, hoc⟩, tx, n, bd, dc, X, q0, q1, N, cb, bg, N1, cb1, bg1, φ, en, xs, S, I, J, hA, hR, hM⟩ := hI
  have hMo := lw_M hρ
  have qz : rZ ρ Z := hA.2.1.1
  have e18 : ρ (Z 18) = 18 := qz 18 (by unfold rU; omega)
  have q6 : f (Z 6) = some (.inr (0, [.ref (Z 7), .int (nI n), .ref (Z 8), .ref (Z 10), .ref (Z 1), .ref dc, .ref (Z q0), .ref (Z q1)])) := hA.1
  have h2048 := hX.2.2.2
  refine lv_aload_n hx hb d_La_law_208 rfl (lv_at hl 2 rfl) ?_
  refine gh_callV C V hl.1 m_QM_bad l_La_69 (c_QM_bad l E _ _ ρ Z tx n bd dc X q0 q1 N cb bg N1 cb1 bg1 φ en xs hA) rfl q6 gc_QM ⟨by first | decide | omega | (dsimp only; omega), by first | decide | omega | (dsimp only; omega)⟩ ⟨by first | decide | omega | (dsimp only; omega), by first | decide | omega | (dsimp only; omega)⟩ (Nat.le_of_ble_eq_true rfl) rfl d_La_law_209 (fun r g8 H locs hp9 V1 => ?_)
  obtain ⟨rfl, he9⟩ := hp9
  rw [he9] at V1
  have V := V1
  refine W.eq (g2 := F0 m 212 ls [.int bd]) rfl ?_
  refine lv_aload_n hx hb d_La_law_212 rfl (lv_at hl 3 rfl) ?_
  refine gh_callV C V hl.1 m_Mo_bad l_La_72 (c_Mo_bad l E _ _ mo ad S I J hR) rfl hR.1 gc_Mo ⟨by first | decide | omega | (dsimp only; omega), by first | decide | omega | (dsimp only; omega)⟩ ⟨by first | decide | omega | (dsimp only; omega), by first | decide | omega | (dsimp only; omega)⟩ (Nat.le_of_ble_eq_true rfl) rfl d_La_law_213 (fun r gm H locs hp9 V1 => ?_)
  obtain ⟨rfl, hXm⟩ := hp9
  have V := V1
  rw [hM.2.1]
  refine W.eq (g2 := F0 m 216 ls [.int bd, .int bd]) rfl ?_
  have hA := hA.keep (hXm.2) (fun b hb => Or.inr (by have := hMo b hb; omega))
  have hoc := (hXm.2).at hoc (fun z => by have := hMo _ z; omega)
  have hR := hXm.1
  have hM := hM.s0 (v := 0)
  refine lv_icmp_eq (tgt := 635) hx hb d_La_law_216 (by decide) (fun c1 => ?_) (fun c1 => absurd rfl c1)
  have hl : lv_has ls 8 [(4, .int (nI i9)), (0, .ref sb), (1, .ref (Z 6)), (2, .ref mo), (3, .ref (Z 18))] := lv_sub hl [0, 1, 2, 3, 4] rfl
  exact gw_le (by first | omega | (dsimp only; omega)) (by first | omega | (dsimp only; omega)) (k _ _ _ _ V ⟨hρ, ⟨_, hoc⟩, _, _, _, _, _, _, _, _, _, _, _, _, _, _, _, _, _, _, _, hA, hR, hM⟩ hl)
set_option maxHeartbeats 4000000 in
set_option maxRecDepth 100000 in
theorem lw_case6 {p : Program} {l : Launch} {e : Env} {s : State} {m : MethodId} {args : Array Value} {below : List Frame} {meth : Method} {c : Code} {H : Heap} {locs : List Loc} {cells slots : Nat} {Q : State → Prop} {ls : Array Slot} {E : gh_E} {A : Nat → Prop} {f : gh_F} {ρ Z : Nat → Nat} {mo : Nat} {ad : Nat → Nat} {sb L i9 : Nat} {sc : Nat → Int32} (hst : ∀ e : Env, l.admits e → e.platform.stackTraces = false) (C : gh_C E A p s m args c code R_La 8) (V : gh_V E A f s H locs) (hX : va_X sb L sc s s.heap ∧ sb < s.heap.size ∧ ¬ A sb ∧ L ≤ 2048) (hI : lw_I E ρ Z mo ad f) (hi : i9 + 4 ≤ L) (hl : lv_has ls 8 [(4, .int (nI i9)), (0, .ref sb), (1, .ref (Z 6)), (2, .ref mo), (3, .ref (Z 18))]) (hc : cells + 800 ≤ 601024) (hs : slots + 9800 ≤ 7293034) (k : ∀ (f9 : gh_F) (H9 : Heap) (locs9 : List Loc) (ls9 : Array Slot), gh_V E A f9 s H9 locs9 → lw_I E ρ Z mo ad f9 → lv_has ls9 8 [(4, .int (nI i9)), (0, .ref sb), (1, .ref (Z 6)), (2, .ref mo), (3, .ref (Z 18))] → W p l e { frames := 2048, cells := 601024, slots := 7293034, locals := 84000 } s m args below meth c H9 locs9 (cells + 800) (slots + 9800) Q (F0 m 635 ls9 [])) : W p l e { frames := 2048, cells := 601024, slots := 7293034, locals := 84000 } s m args below meth c H locs cells slots Q (F0 m 381 ls []) := by
  have hx := C.1
  have hb := C.2.1
  obtain ⟨hρ, ⟨ho9, hoc⟩, tx, n, bd, dc, X, q0, q1, N, cb, bg, N1, cb1, bg1, φ, en, xs, S, I, J, hA, hR, hM⟩ := hI
  have hMo := lw_M hρ
  have qz : rZ ρ Z := hA.2.1.1
  have e18 : ρ (Z 18) = 18 := qz 18 (by unfold rU; omega)
  have q6 : f (Z 6) = some (.inr (0, [.ref (Z 7), .int (nI n), .ref (Z 8), .ref (Z 10), .ref (Z 1), .ref dc, .ref (Z q0), .ref (Z q1)])) := hA.1
  have h2048 := hX.2.2.2
  refine lv_aload_n hx hb d_La_law_381 rfl (lv_at hl 2 rfl) ?_
  refine gh_callV C V hl.1 m_QM_ended l_La_83 (c_QM_ended l E _ _ ρ Z tx n bd dc X q0 q1 N cb bg N1 cb1 bg1 φ en xs hA) rfl q6 gc_QM ⟨by first | decide | omega | (dsimp only; omega), by first | decide | omega | (dsimp only; omega)⟩ ⟨by first | decide | omega | (dsimp only; omega), by first | decide | omega | (dsimp only; omega)⟩ (Nat.le_of_ble_eq_true rfl) rfl d_La_law_382 (fun r g8 H locs hp9 V1 => ?_)
  obtain ⟨rfl, he9⟩ := hp9
  rw [he9] at V1
  have V := V1
  refine W.eq (g2 := F0 m 385 ls [.int en]) rfl ?_
  refine lv_aload_n hx hb d_La_law_385 rfl (lv_at hl 3 rfl) ?_
  refine gh_callV C V hl.1 m_Mo_ended l_La_86 (c_Mo_ended l E _ _ mo ad S I J hR) rfl hR.1 gc_Mo ⟨by first | decide | omega | (dsimp only; omega), by first | decide | omega | (dsimp only; omega)⟩ ⟨by first | decide | omega | (dsimp only; omega), by first | decide | omega | (dsimp only; omega)⟩ (Nat.le_of_ble_eq_true rfl) rfl d_La_law_386 (fun r gm H locs hp9 V1 => ?_)
  obtain ⟨rfl, hXm⟩ := hp9
  have V := V1
  rw [hM.2.2.2.2.1.1.1]
  refine W.eq (g2 := F0 m 389 ls [.int en, .int en]) rfl ?_
  have hA := hA.keep (hXm.2) (fun b hb => Or.inr (by have := hMo b hb; omega))
  have hoc := (hXm.2).at hoc (fun z => by have := hMo _ z; omega)
  have hR := hXm.1
  have hM := hM.s0 (v := 0)
  refine lv_icmp_eq (tgt := 635) hx hb d_La_law_389 (by decide) (fun c1 => ?_) (fun c1 => absurd rfl c1)
  have hl : lv_has ls 8 [(4, .int (nI i9)), (0, .ref sb), (1, .ref (Z 6)), (2, .ref mo), (3, .ref (Z 18))] := lv_sub hl [0, 1, 2, 3, 4] rfl
  exact gw_le (by first | omega | (dsimp only; omega)) (by first | omega | (dsimp only; omega)) (k _ _ _ _ V ⟨hρ, ⟨_, hoc⟩, _, _, _, _, _, _, _, _, _, _, _, _, _, _, _, _, _, _, _, hA, hR, hM⟩ hl)
set_option maxHeartbeats 4000000 in
set_option maxRecDepth 100000 in
theorem lw_case7 {p : Program} {l : Launch} {e : Env} {s : State} {m : MethodId} {args : Array Value} {below : List Frame} {meth : Method} {c : Code} {H : Heap} {locs : List Loc} {cells slots : Nat} {Q : State → Prop} {ls : Array Slot} {E : gh_E} {A : Nat → Prop} {f : gh_F} {ρ Z : Nat → Nat} {mo : Nat} {ad : Nat → Nat} {sb L i9 : Nat} {sc : Nat → Int32} (hst : ∀ e : Env, l.admits e → e.platform.stackTraces = false) (C : gh_C E A p s m args c code R_La 8) (V : gh_V E A f s H locs) (hX : va_X sb L sc s s.heap ∧ sb < s.heap.size ∧ ¬ A sb ∧ L ≤ 2048) (hI : lw_I E ρ Z mo ad f) (hi : i9 + 4 ≤ L) (hl : lv_has ls 8 [(4, .int (nI i9)), (0, .ref sb), (1, .ref (Z 6)), (2, .ref mo), (3, .ref (Z 18))]) (hc : cells + 800 ≤ 601024) (hs : slots + 9800 ≤ 7293034) (k : ∀ (f9 : gh_F) (H9 : Heap) (locs9 : List Loc) (ls9 : Array Slot), gh_V E A f9 s H9 locs9 → lw_I E ρ Z mo ad f9 → lv_has ls9 8 [(4, .int (nI i9)), (0, .ref sb), (1, .ref (Z 6)), (2, .ref mo), (3, .ref (Z 18))] → W p l e { frames := 2048, cells := 601024, slots := 7293034, locals := 84000 } s m args below meth c H9 locs9 (cells + 800) (slots + 9800) Q (F0 m 635 ls9 [])) : W p l e { frames := 2048, cells := 601024, slots := 7293034, locals := 84000 } s m args below meth c H locs cells slots Q (F0 m 394 ls []) := by
  have hx := C.1
  have hb := C.2.1
  obtain ⟨hρ, ⟨ho9, hoc⟩, tx, n, bd, dc, X, q0, q1, N, cb, bg, N1, cb1, bg1, φ, en, xs, S, I, J, hA, hR, hM⟩ := hI
  have hMo := lw_M hρ
  have qz : rZ ρ Z := hA.2.1.1
  have e18 : ρ (Z 18) = 18 := qz 18 (by unfold rU; omega)
  have q6 : f (Z 6) = some (.inr (0, [.ref (Z 7), .int (nI n), .ref (Z 8), .ref (Z 10), .ref (Z 1), .ref dc, .ref (Z q0), .ref (Z q1)])) := hA.1
  have h2048 := hX.2.2.2
  refine lv_aload_n hx hb d_La_law_394 rfl (lv_at hl 2 rfl) ?_
  refine gh_callV C V hl.1 m_QM_left l_La_87 (c_QM_left l E _ _ ρ Z tx n bd dc X q0 q1 N cb bg N1 cb1 bg1 φ en xs hA) rfl q6 gc_QM ⟨by first | decide | omega | (dsimp only; omega), by first | decide | omega | (dsimp only; omega)⟩ ⟨by first | decide | omega | (dsimp only; omega), by first | decide | omega | (dsimp only; omega)⟩ (Nat.le_of_ble_eq_true rfl) rfl d_La_law_395 (fun r g8 H locs hp9 V1 => ?_)
  obtain ⟨rfl, he9⟩ := hp9
  rw [he9] at V1
  have V := V1
  refine W.eq (g2 := F0 m 398 ls [.int (nI φ)]) rfl ?_
  refine lv_aload_n hx hb d_La_law_398 rfl (lv_at hl 3 rfl) ?_
  refine gh_callV C V hl.1 m_Mo_left l_La_90 (c_Mo_left l E _ _ mo ad S I J hR) rfl hR.1 gc_Mo ⟨by first | decide | omega | (dsimp only; omega), by first | decide | omega | (dsimp only; omega)⟩ ⟨by first | decide | omega | (dsimp only; omega), by first | decide | omega | (dsimp only; omega)⟩ (Nat.le_of_ble_eq_true rfl) rfl d_La_law_399 (fun r gm H locs hp9 V1 => ?_)
  obtain ⟨rfl, hXm⟩ := hp9
  have V := V1
  rw [hM.2.2.2.2.1.1.2.1]
  refine W.eq (g2 := F0 m 402 ls [.int (nI φ), .int (nI φ)]) rfl ?_
  have hA := hA.keep (hXm.2) (fun b hb => Or.inr (by have := hMo b hb; omega))
  have hoc := (hXm.2).at hoc (fun z => by have := hMo _ z; omega)
  have hR := hXm.1
  have hM := hM.s0 (v := 0)
  refine lv_icmp_eq (tgt := 635) hx hb d_La_law_402 (by decide) (fun c1 => ?_) (fun c1 => absurd rfl c1)
  have hl : lv_has ls 8 [(4, .int (nI i9)), (0, .ref sb), (1, .ref (Z 6)), (2, .ref mo), (3, .ref (Z 18))] := lv_sub hl [0, 1, 2, 3, 4] rfl
  exact gw_le (by first | omega | (dsimp only; omega)) (by first | omega | (dsimp only; omega)) (k _ _ _ _ V ⟨hρ, ⟨_, hoc⟩, _, _, _, _, _, _, _, _, _, _, _, _, _, _, _, _, _, _, _, hA, hR, hM⟩ hl)
set_option maxHeartbeats 4000000 in
set_option maxRecDepth 100000 in
theorem lw_case8 {p : Program} {l : Launch} {e : Env} {s : State} {m : MethodId} {args : Array Value} {below : List Frame} {meth : Method} {c : Code} {H : Heap} {locs : List Loc} {cells slots : Nat} {Q : State → Prop} {ls : Array Slot} {E : gh_E} {A : Nat → Prop} {f : gh_F} {ρ Z : Nat → Nat} {mo : Nat} {ad : Nat → Nat} {sb L i9 : Nat} {sc : Nat → Int32} (hst : ∀ e : Env, l.admits e → e.platform.stackTraces = false) (C : gh_C E A p s m args c code R_La 8) (V : gh_V E A f s H locs) (hX : va_X sb L sc s s.heap ∧ sb < s.heap.size ∧ ¬ A sb ∧ L ≤ 2048) (hI : lw_I E ρ Z mo ad f) (hi : i9 + 4 ≤ L) (hl : lv_has ls 8 [(4, .int (nI i9)), (0, .ref sb), (1, .ref (Z 6)), (2, .ref mo), (3, .ref (Z 18))]) (hc : cells + 800 ≤ 601024) (hs : slots + 9800 ≤ 7293034) (k : ∀ (f9 : gh_F) (H9 : Heap) (locs9 : List Loc) (ls9 : Array Slot), gh_V E A f9 s H9 locs9 → lw_I E ρ Z mo ad f9 → lv_has ls9 8 [(4, .int (nI i9)), (0, .ref sb), (1, .ref (Z 6)), (2, .ref mo), (3, .ref (Z 18))] → W p l e { frames := 2048, cells := 601024, slots := 7293034, locals := 84000 } s m args below meth c H9 locs9 (cells + 800) (slots + 9800) Q (F0 m 635 ls9 [])) : W p l e { frames := 2048, cells := 601024, slots := 7293034, locals := 84000 } s m args below meth c H locs cells slots Q (F0 m 407 ls []) := by
  have hx := C.1
  have hb := C.2.1
  obtain ⟨hρ, ⟨ho9, hoc⟩, tx, n, bd, dc, X, q0, q1, N, cb, bg, N1, cb1, bg1, φ, en, xs, S, I, J, hA, hR, hM⟩ := hI
  have hMo := lw_M hρ
  have qz : rZ ρ Z := hA.2.1.1
  have e18 : ρ (Z 18) = 18 := qz 18 (by unfold rU; omega)
  have q6 : f (Z 6) = some (.inr (0, [.ref (Z 7), .int (nI n), .ref (Z 8), .ref (Z 10), .ref (Z 1), .ref dc, .ref (Z q0), .ref (Z q1)])) := hA.1
  have h2048 := hX.2.2.2
  refine lv_aload_n hx hb d_La_law_407 rfl (lv_at hl 2 rfl) ?_
  refine gh_callV C V hl.1 m_QM_count l_La_91 (c_QM_count l E _ _ ρ Z tx n bd dc X q0 q1 N cb bg N1 cb1 bg1 φ en xs hA) rfl q6 gc_QM ⟨by first | decide | omega | (dsimp only; omega), by first | decide | omega | (dsimp only; omega)⟩ ⟨by first | decide | omega | (dsimp only; omega), by first | decide | omega | (dsimp only; omega)⟩ (Nat.le_of_ble_eq_true rfl) rfl d_La_law_408 (fun r g8 H locs hp9 V1 => ?_)
  obtain ⟨rfl, he9⟩ := hp9
  rw [he9] at V1
  have V := V1
  refine W.eq (g2 := F0 m 411 ls [.int (nI xs.length)]) rfl ?_
  refine lv_aload_n hx hb d_La_law_411 rfl (lv_at hl 3 rfl) ?_
  refine gh_callV C V hl.1 m_Mo_count l_La_94 (c_Mo_count l E _ _ mo ad S I J hR) rfl hR.1 gc_Mo ⟨by first | decide | omega | (dsimp only; omega), by first | decide | omega | (dsimp only; omega)⟩ ⟨by first | decide | omega | (dsimp only; omega), by first | decide | omega | (dsimp only; omega)⟩ (Nat.le_of_ble_eq_true rfl) rfl d_La_law_412 (fun r gm H locs hp9 V1 => ?_)
  obtain ⟨rfl, hXm⟩ := hp9
  have V := V1
  rw [hM.2.2.2.2.1.1.2.2.1]
  refine W.eq (g2 := F0 m 415 ls [.int (nI xs.length), .int (nI xs.length)]) rfl ?_
  have hA := hA.keep (hXm.2) (fun b hb => Or.inr (by have := hMo b hb; omega))
  have hoc := (hXm.2).at hoc (fun z => by have := hMo _ z; omega)
  have hR := hXm.1
  have hM := hM.s0 (v := 0)
  refine lv_icmp_eq (tgt := 635) hx hb d_La_law_415 (by decide) (fun c1 => ?_) (fun c1 => absurd rfl c1)
  have hl : lv_has ls 8 [(4, .int (nI i9)), (0, .ref sb), (1, .ref (Z 6)), (2, .ref mo), (3, .ref (Z 18))] := lv_sub hl [0, 1, 2, 3, 4] rfl
  exact gw_le (by first | omega | (dsimp only; omega)) (by first | omega | (dsimp only; omega)) (k _ _ _ _ V ⟨hρ, ⟨_, hoc⟩, _, _, _, _, _, _, _, _, _, _, _, _, _, _, _, _, _, _, _, hA, hR, hM⟩ hl)
set_option maxHeartbeats 4000000 in
set_option maxRecDepth 100000 in
theorem lw_case1 {p : Program} {l : Launch} {e : Env} {s : State} {m : MethodId} {args : Array Value} {below : List Frame} {meth : Method} {c : Code} {H : Heap} {locs : List Loc} {cells slots : Nat} {Q : State → Prop} {ls : Array Slot} {E : gh_E} {A : Nat → Prop} {f : gh_F} {ρ Z : Nat → Nat} {mo : Nat} {ad : Nat → Nat} {sb L i9 : Nat} {sc : Nat → Int32} (hst : ∀ e : Env, l.admits e → e.platform.stackTraces = false) (C : gh_C E A p s m args c code R_La 8) (V : gh_V E A f s H locs) (hX : va_X sb L sc s s.heap ∧ sb < s.heap.size ∧ ¬ A sb ∧ L ≤ 2048) (hI : lw_I E ρ Z mo ad f) (hi : i9 + 4 ≤ L) (hl : lv_has ls 8 [(4, .int (nI i9)), (0, .ref sb), (1, .ref (Z 6)), (2, .ref mo), (3, .ref (Z 18))]) (hc : cells + 800 ≤ 601024) (hs : slots + 9800 ≤ 7293034) (k : ∀ (f9 : gh_F) (H9 : Heap) (locs9 : List Loc) (ls9 : Array Slot), gh_V E A f9 s H9 locs9 → lw_I E ρ Z mo ad f9 → lv_has ls9 8 [(4, .int (nI i9)), (0, .ref sb), (1, .ref (Z 6)), (2, .ref mo), (3, .ref (Z 18))] → W p l e { frames := 2048, cells := 601024, slots := 7293034, locals := 84000 } s m args below meth c H9 locs9 (cells + 800) (slots + 9800) Q (F0 m 635 ls9 [])) : W p l e { frames := 2048, cells := 601024, slots := 7293034, locals := 84000 } s m args below meth c H locs cells slots Q (F0 m 184 ls []) := by
  have hx := C.1
  have hb := C.2.1
  obtain ⟨hρ, ⟨ho9, hoc⟩, tx, n, bd, dc, X, q0, q1, N, cb, bg, N1, cb1, bg1, φ, en, xs, S, I, J, hA, hR, hM⟩ := hI
  have hMo := lw_M hρ
  have qz : rZ ρ Z := hA.2.1.1
  have e18 : ρ (Z 18) = 18 := qz 18 (by unfold rU; omega)
  have q6 : f (Z 6) = some (.inr (0, [.ref (Z 7), .int (nI n), .ref (Z 8), .ref (Z 10), .ref (Z 1), .ref dc, .ref (Z q0), .ref (Z q1)])) := hA.1
  have h2048 := hX.2.2.2
  refine lv_aload_n hx hb d_La_law_184 rfl (lv_at hl 2 rfl) ?_
  refine gc_callS C V hl.1 m_La_document l_La_65 (c_La_document l E _ _ (Z 6) _ q6 _ _ (fun sz => c_QM_document l hst E sz f ρ Z tx n bd dc X q0 q1 N cb bg N1 cb1 bg1 φ en xs hA) (fun cls g h => h.1) (fun r g h => h.1)) rfl ⟨by first | decide | omega | (dsimp only; omega), by first | decide | omega | (dsimp only; omega)⟩ ⟨by first | decide | omega | (dsimp only; omega), by first | decide | omega | (dsimp only; omega)⟩ (Nat.le_of_ble_eq_true rfl) rfl d_La_law_185 (fun r g9 H locs hp9 V1 => ?_)
  have V := V1
  rcases hp9 with ⟨rfl, -, ⟨Q9, Y9, v9, hq9, hA9⟩, hfr9⟩ | ⟨rfl, -, ⟨Q9, hq9, hA9⟩, hfr9⟩
  · have hR := hR.keep (hfr9) (fun b hb => lw_nq b (hMo b hb))
    have hoc := (hfr9).at hoc (lw_n18 _ e18)
    have hA := hA9
    refine W.eq (g2 := F0 m 188 ls [.int 0]) rfl ?_
    refine lv_istore hx hb d_La_law_188 hl (by decide) rfl (fun ls hl => ?_)
    have hl : lv_has ls 8 [(5, .int 0), (4, .int (nI i9)), (0, .ref sb), (1, .ref (Z 6)), (2, .ref mo), (3, .ref (Z 18))] := hl
    refine lv_aload_n hx hb d_La_law_190 rfl (lv_at hl 4 rfl) ?_
    obtain ⟨nvd, npd, u9, -, -, -, -, hc0⟩ := id hM.2.2.2.2.2
    refine gh_callV C V hl.1 m_Mo_document l_La_68 (c_Mo_document l E _ _ mo ad S I J tx n nvd npd hR hM.1 hc0) rfl hR.1 gc_Mo ⟨by first | decide | omega | (dsimp only; omega), by first | decide | omega | (dsimp only; omega)⟩ ⟨by first | decide | omega | (dsimp only; omega), by first | decide | omega | (dsimp only; omega)⟩ (Nat.le_of_ble_eq_true rfl) rfl d_La_law_191 (fun r gm H locs hp9 V1 => ?_)
    obtain ⟨rfl, S2, I2, J2, hXm, hd9⟩ := hp9
    have V := V1
    refine W.eq (g2 := F0 m 194 ls []) rfl ?_
    rw [rd_a_z, hq9] at hd9
    have hA := hA.keep (hXm.2) (fun b hb => Or.inr (by have := hMo b hb; omega))
    have hoc := (hXm.2).at hoc (fun z => by have := hMo _ z; omega)
    have hR := hXm.1
    obtain ⟨h00, hM⟩ := li_doc1 hM hd9
    refine lv_aload_n hx hb d_La_law_194 rfl (lv_at hl 4 rfl) ?_
    refine gh_callV C V hl.1 m_Mo_thrown l_La_61 (c_Mo_thrown l E _ _ mo ad _ _ _ hR) rfl hR.1 gc_Mo ⟨by first | decide | omega | (dsimp only; omega), by first | decide | omega | (dsimp only; omega)⟩ ⟨by first | decide | omega | (dsimp only; omega), by first | decide | omega | (dsimp only; omega)⟩ (Nat.le_of_ble_eq_true rfl) rfl d_La_law_195 (fun r g8 H locs hp9 V1 => ?_)
    obtain ⟨rfl, he9⟩ := hp9
    rw [he9] at V1
    have V := V1
    rw [h00]
    refine W.eq (g2 := F0 m 198 ls [.int 0]) rfl ?_
    refine lv_iload hx hb d_La_law_198 (lv_at hl 0 rfl) ?_
    refine lv_icmp_eq (tgt := 205) hx hb d_La_law_200 (by decide) (fun c1 => ?_) (fun c1 => absurd rfl c1)
    refine lv_goto (tgt := 635) hx hb d_La_law_205 (by decide) ?_
    have hl : lv_has ls 8 [(4, .int (nI i9)), (0, .ref sb), (1, .ref (Z 6)), (2, .ref mo), (3, .ref (Z 18))] := lv_sub hl [1, 2, 3, 4, 5] rfl
    exact gw_le (by first | omega | (dsimp only; omega)) (by first | omega | (dsimp only; omega)) (k _ _ _ _ V ⟨hρ, ⟨_, hoc⟩, _, _, _, _, _, _, _, _, _, _, _, _, _, _, _, _, _, _, _, hA, hR, hM⟩ hl)
  · have hR := hR.keep (hfr9) (fun b hb => lw_nq b (hMo b hb))
    have hoc := (hfr9).at hoc (lw_n18 _ e18)
    have hA := hA9
    refine W.eq (g2 := F0 m 188 ls [.int 1]) rfl ?_
    refine lv_istore hx hb d_La_law_188 hl (by decide) rfl (fun ls hl => ?_)
    have hl : lv_has ls 8 [(5, .int 1), (4, .int (nI i9)), (0, .ref sb), (1, .ref (Z 6)), (2, .ref mo), (3, .ref (Z 18))] := hl
    refine lv_aload_n hx hb d_La_law_190 rfl (lv_at hl 4 rfl) ?_
    obtain ⟨nvd, npd, u9, -, -, -, -, hc0⟩ := id hM.2.2.2.2.2
    refine gh_callV C V hl.1 m_Mo_document l_La_68 (c_Mo_document l E _ _ mo ad S I J tx n nvd npd hR hM.1 hc0) rfl hR.1 gc_Mo ⟨by first | decide | omega | (dsimp only; omega), by first | decide | omega | (dsimp only; omega)⟩ ⟨by first | decide | omega | (dsimp only; omega), by first | decide | omega | (dsimp only; omega)⟩ (Nat.le_of_ble_eq_true rfl) rfl d_La_law_191 (fun r gm H locs hp9 V1 => ?_)
    obtain ⟨rfl, S2, I2, J2, hXm, hd9⟩ := hp9
    have V := V1
    refine W.eq (g2 := F0 m 194 ls []) rfl ?_
    rw [rd_a_z, hq9] at hd9
    have hA := hA.keep (hXm.2) (fun b hb => Or.inr (by have := hMo b hb; omega))
    have hoc := (hXm.2).at hoc (fun z => by have := hMo _ z; omega)
    have hR := hXm.1
    obtain ⟨h00, hM⟩ := li_doc0 hM hd9
    refine lv_aload_n hx hb d_La_law_194 rfl (lv_at hl 4 rfl) ?_
    refine gh_callV C V hl.1 m_Mo_thrown l_La_61 (c_Mo_thrown l E _ _ mo ad _ _ _ hR) rfl hR.1 gc_Mo ⟨by first | decide | omega | (dsimp only; omega), by first | decide | omega | (dsimp only; omega)⟩ ⟨by first | decide | omega | (dsimp only; omega), by first | decide | omega | (dsimp only; omega)⟩ (Nat.le_of_ble_eq_true rfl) rfl d_La_law_195 (fun r g8 H locs hp9 V1 => ?_)
    obtain ⟨rfl, he9⟩ := hp9
    rw [he9] at V1
    have V := V1
    rw [h00]
    refine W.eq (g2 := F0 m 198 ls [.int 1]) rfl ?_
    refine lv_iload hx hb d_La_law_198 (lv_at hl 0 rfl) ?_
    refine lv_icmp_eq (tgt := 205) hx hb d_La_law_200 (by decide) (fun c2 => ?_) (fun c2 => absurd rfl c2)
    refine lv_goto (tgt := 635) hx hb d_La_law_205 (by decide) ?_
    have hl : lv_has ls 8 [(4, .int (nI i9)), (0, .ref sb), (1, .ref (Z 6)), (2, .ref mo), (3, .ref (Z 18))] := lv_sub hl [1, 2, 3, 4, 5] rfl
    exact gw_le (by first | omega | (dsimp only; omega)) (by first | omega | (dsimp only; omega)) (k _ _ _ _ V ⟨hρ, ⟨_, hoc⟩, _, _, _, _, _, _, _, _, _, _, _, _, _, _, _, _, _, _, _, hA, hR, hM⟩ hl)
set_option maxHeartbeats 4000000 in
set_option maxRecDepth 100000 in
theorem lw_case4 {p : Program} {l : Launch} {e : Env} {s : State} {m : MethodId} {args : Array Value} {below : List Frame} {meth : Method} {c : Code} {H : Heap} {locs : List Loc} {cells slots : Nat} {Q : State → Prop} {ls : Array Slot} {E : gh_E} {A : Nat → Prop} {f : gh_F} {ρ Z : Nat → Nat} {mo : Nat} {ad : Nat → Nat} {sb L i9 : Nat} {sc : Nat → Int32} (hst : ∀ e : Env, l.admits e → e.platform.stackTraces = false) (C : gh_C E A p s m args c code R_La 8) (V : gh_V E A f s H locs) (hX : va_X sb L sc s s.heap ∧ sb < s.heap.size ∧ ¬ A sb ∧ L ≤ 2048) (hI : lw_I E ρ Z mo ad f) (hi : i9 + 4 ≤ L) (hl : lv_has ls 8 [(4, .int (nI i9)), (0, .ref sb), (1, .ref (Z 6)), (2, .ref mo), (3, .ref (Z 18))]) (hc : cells + 800 ≤ 601024) (hs : slots + 9800 ≤ 7293034) (k : ∀ (f9 : gh_F) (H9 : Heap) (locs9 : List Loc) (ls9 : Array Slot), gh_V E A f9 s H9 locs9 → lw_I E ρ Z mo ad f9 → lv_has ls9 8 [(4, .int (nI i9)), (0, .ref sb), (1, .ref (Z 6)), (2, .ref mo), (3, .ref (Z 18))] → W p l e { frames := 2048, cells := 601024, slots := 7293034, locals := 84000 } s m args below meth c H9 locs9 (cells + 800) (slots + 9800) Q (F0 m 635 ls9 [])) : W p l e { frames := 2048, cells := 601024, slots := 7293034, locals := 84000 } s m args below meth c H locs cells slots Q (F0 m 301 ls []) := by
  have hx := C.1
  have hb := C.2.1
  obtain ⟨hρ, ⟨ho9, hoc⟩, tx, n, bd, dc, X, q0, q1, N, cb, bg, N1, cb1, bg1, φ, en, xs, S, I, J, hA, hR, hM⟩ := hI
  have hMo := lw_M hρ
  have qz : rZ ρ Z := hA.2.1.1
  have e18 : ρ (Z 18) = 18 := qz 18 (by unfold rU; omega)
  have q6 : f (Z 6) = some (.inr (0, [.ref (Z 7), .int (nI n), .ref (Z 8), .ref (Z 10), .ref (Z 1), .ref dc, .ref (Z q0), .ref (Z q1)])) := hA.1
  have h2048 := hX.2.2.2
  refine lv_aload_n hx hb d_La_law_301 rfl (lv_at hl 2 rfl) ?_
  refine gc_callS C V hl.1 m_La_query l_La_76 (c_La_query l E _ _ (Z 6) _ q6 _ _ (fun sz => c_QM_query l hst E sz f ρ Z tx n bd dc X q0 q1 N cb bg N1 cb1 bg1 φ en xs hA) (fun cls g h => h.1) (fun r g h => h.1)) rfl ⟨by first | decide | omega | (dsimp only; omega), by first | decide | omega | (dsimp only; omega)⟩ ⟨by first | decide | omega | (dsimp only; omega), by first | decide | omega | (dsimp only; omega)⟩ (Nat.le_of_ble_eq_true rfl) rfl d_La_law_302 (fun r g9 H locs hp9 V1 => ?_)
  have V := V1
  rcases hp9 with ⟨rfl, -, ⟨hw9, hA9⟩, hfr9⟩ | ⟨rfl, -, ⟨hw9, hA9⟩, hfr9⟩
  · have qp := hA.2.2.2.2.2.2.2.2.2.2.2.2.2
    have hR := hR.keep (hfr9) (fun b hb => lw_nq b (hMo b hb))
    have hoc := (hfr9).at hoc (lw_n18 _ e18)
    have hA := hA9
    refine W.eq (g2 := F0 m 305 ls [.int 0]) rfl ?_
    refine lv_istore hx hb d_La_law_305 hl (by decide) rfl (fun ls hl => ?_)
    have hl : lv_has ls 8 [(5, .int 0), (4, .int (nI i9)), (0, .ref sb), (1, .ref (Z 6)), (2, .ref mo), (3, .ref (Z 18))] := hl
    refine lv_aload_n hx hb d_La_law_307 rfl (lv_at hl 4 rfl) ?_
    obtain ⟨bgf, hbgf⟩ : ∃ bgf : Nat → Nat, ∀ j, I 31 j = nI (bgf j) := ⟨fun j => (nI_any (I 31 j)).choose, fun j => (nI_any (I 31 j)).choose_spec⟩
    have two := (qy_run_two qp.2.2.2.2 (cb2 := cb1) (n := N1) (fun j _ => rfl) 13 0 bg1 (va_up bgf 0 0)).1
    refine gh_callV C V hl.1 m_Mo_query l_La_78 (c_Mo_query1 l E _ _ mo ad S I J N1 cb1 bgf hR qp.2.2.2.1 hM.2.2.1.1 hM.2.2.1.2 qp.2.2.2.2 hbgf (two.trans hw9)) rfl hR.1 gc_Mo ⟨by first | decide | omega | (dsimp only; omega), by first | decide | omega | (dsimp only; omega)⟩ ⟨by first | decide | omega | (dsimp only; omega), by first | decide | omega | (dsimp only; omega)⟩ (Nat.le_of_ble_eq_true rfl) rfl d_La_law_308 (fun r gm H locs hp9 V1 => ?_)
    obtain ⟨rfl, I2, hXm, t1, t2, t3⟩ := hp9
    have V := V1
    refine W.eq (g2 := F0 m 311 ls []) rfl ?_
    have hA := hA.keep (hXm.2) (fun b hb => Or.inr (by have := hMo b hb; omega))
    have hoc := (hXm.2).at hoc (fun z => by have := hMo _ z; omega)
    have hR := hXm.1
    have hM := li_query1 hM qp.2.2.2.2 hw9 t1 t2 t3
    refine lv_aload_n hx hb d_La_law_311 rfl (lv_at hl 4 rfl) ?_
    refine gh_callV C V hl.1 m_Mo_thrown l_La_61 (c_Mo_thrown l E _ _ mo ad _ _ _ hR) rfl hR.1 gc_Mo ⟨by first | decide | omega | (dsimp only; omega), by first | decide | omega | (dsimp only; omega)⟩ ⟨by first | decide | omega | (dsimp only; omega), by first | decide | omega | (dsimp only; omega)⟩ (Nat.le_of_ble_eq_true rfl) rfl d_La_law_312 (fun r g8 H locs hp9 V1 => ?_)
    obtain ⟨rfl, he9⟩ := hp9
    rw [he9] at V1
    have V := V1
    rw [va_up_s]
    refine W.eq (g2 := F0 m 315 ls [.int 0]) rfl ?_
    refine lv_iload hx hb d_La_law_315 (lv_at hl 0 rfl) ?_
    refine lv_icmp_eq (tgt := 322) hx hb d_La_law_317 (by decide) (fun c1 => ?_) (fun c1 => absurd rfl c1)
    refine lv_goto (tgt := 635) hx hb d_La_law_322 (by decide) ?_
    have hl : lv_has ls 8 [(4, .int (nI i9)), (0, .ref sb), (1, .ref (Z 6)), (2, .ref mo), (3, .ref (Z 18))] := lv_sub hl [1, 2, 3, 4, 5] rfl
    exact gw_le (by first | omega | (dsimp only; omega)) (by first | omega | (dsimp only; omega)) (k _ _ _ _ V ⟨hρ, ⟨_, hoc⟩, _, _, _, _, _, _, _, _, _, _, _, _, _, _, _, _, _, _, _, hA, hR, hM⟩ hl)
  · have qp := hA.2.2.2.2.2.2.2.2.2.2.2.2.2
    have hR := hR.keep (hfr9) (fun b hb => lw_nq b (hMo b hb))
    have hoc := (hfr9).at hoc (lw_n18 _ e18)
    have hA := hA9
    refine W.eq (g2 := F0 m 305 ls [.int 1]) rfl ?_
    refine lv_istore hx hb d_La_law_305 hl (by decide) rfl (fun ls hl => ?_)
    have hl : lv_has ls 8 [(5, .int 1), (4, .int (nI i9)), (0, .ref sb), (1, .ref (Z 6)), (2, .ref mo), (3, .ref (Z 18))] := hl
    refine lv_aload_n hx hb d_La_law_307 rfl (lv_at hl 4 rfl) ?_
    obtain ⟨bgf, hbgf⟩ : ∃ bgf : Nat → Nat, ∀ j, I 31 j = nI (bgf j) := ⟨fun j => (nI_any (I 31 j)).choose, fun j => (nI_any (I 31 j)).choose_spec⟩
    have two := (qy_run_two qp.2.2.2.2 (cb2 := cb1) (n := N1) (fun j _ => rfl) 13 0 bg1 (va_up bgf 0 0)).1
    refine gh_callV C V hl.1 m_Mo_query l_La_78 (c_Mo_query0 l E _ _ mo ad S I J N1 cb1 bgf hR qp.2.2.2.1 hM.2.2.1.1 hM.2.2.1.2 qp.2.2.2.2 hbgf (fun z => hw9 (two.symm.trans z))) rfl hR.1 gc_Mo ⟨by first | decide | omega | (dsimp only; omega), by first | decide | omega | (dsimp only; omega)⟩ ⟨by first | decide | omega | (dsimp only; omega), by first | decide | omega | (dsimp only; omega)⟩ (Nat.le_of_ble_eq_true rfl) rfl d_La_law_308 (fun r gm H locs hp9 V1 => ?_)
    obtain ⟨rfl, I2, hXm, t3⟩ := hp9
    have V := V1
    refine W.eq (g2 := F0 m 311 ls []) rfl ?_
    have hA := hA.keep (hXm.2) (fun b hb => Or.inr (by have := hMo b hb; omega))
    have hoc := (hXm.2).at hoc (fun z => by have := hMo _ z; omega)
    have hR := hXm.1
    have hM := li_query0 hM (v := 1) t3
    refine lv_aload_n hx hb d_La_law_311 rfl (lv_at hl 4 rfl) ?_
    refine gh_callV C V hl.1 m_Mo_thrown l_La_61 (c_Mo_thrown l E _ _ mo ad _ _ _ hR) rfl hR.1 gc_Mo ⟨by first | decide | omega | (dsimp only; omega), by first | decide | omega | (dsimp only; omega)⟩ ⟨by first | decide | omega | (dsimp only; omega), by first | decide | omega | (dsimp only; omega)⟩ (Nat.le_of_ble_eq_true rfl) rfl d_La_law_312 (fun r g8 H locs hp9 V1 => ?_)
    obtain ⟨rfl, he9⟩ := hp9
    rw [he9] at V1
    have V := V1
    rw [va_up_s]
    refine W.eq (g2 := F0 m 315 ls [.int 1]) rfl ?_
    refine lv_iload hx hb d_La_law_315 (lv_at hl 0 rfl) ?_
    refine lv_icmp_eq (tgt := 322) hx hb d_La_law_317 (by decide) (fun c2 => ?_) (fun c2 => absurd rfl c2)
    refine lv_goto (tgt := 635) hx hb d_La_law_322 (by decide) ?_
    have hl : lv_has ls 8 [(4, .int (nI i9)), (0, .ref sb), (1, .ref (Z 6)), (2, .ref mo), (3, .ref (Z 18))] := lv_sub hl [1, 2, 3, 4, 5] rfl
    exact gw_le (by first | omega | (dsimp only; omega)) (by first | omega | (dsimp only; omega)) (k _ _ _ _ V ⟨hρ, ⟨_, hoc⟩, _, _, _, _, _, _, _, _, _, _, _, _, _, _, _, _, _, _, _, hA, hR, hM⟩ hl)
set_option maxHeartbeats 4000000 in
set_option maxRecDepth 100000 in
theorem lw_case12 {p : Program} {l : Launch} {e : Env} {s : State} {m : MethodId} {args : Array Value} {below : List Frame} {meth : Method} {c : Code} {H : Heap} {locs : List Loc} {cells slots : Nat} {Q : State → Prop} {ls : Array Slot} {E : gh_E} {A : Nat → Prop} {f : gh_F} {ρ Z : Nat → Nat} {mo : Nat} {ad : Nat → Nat} {sb L i9 : Nat} {sc : Nat → Int32} (hst : ∀ e : Env, l.admits e → e.platform.stackTraces = false) (C : gh_C E A p s m args c code R_La 8) (V : gh_V E A f s H locs) (hX : va_X sb L sc s s.heap ∧ sb < s.heap.size ∧ ¬ A sb ∧ L ≤ 2048) (hI : lw_I E ρ Z mo ad f) (hi : i9 + 4 ≤ L) (hl : lv_has ls 8 [(4, .int (nI i9)), (0, .ref sb), (1, .ref (Z 6)), (2, .ref mo), (3, .ref (Z 18))]) (hc : cells + 800 ≤ 601024) (hs : slots + 9800 ≤ 7293034) (k : ∀ (f9 : gh_F) (H9 : Heap) (locs9 : List Loc) (ls9 : Array Slot), gh_V E A f9 s H9 locs9 → lw_I E ρ Z mo ad f9 → lv_has ls9 8 [(4, .int (nI i9)), (0, .ref sb), (1, .ref (Z 6)), (2, .ref mo), (3, .ref (Z 18))] → W p l e { frames := 2048, cells := 601024, slots := 7293034, locals := 84000 } s m args below meth c H9 locs9 (cells + 800) (slots + 9800) Q (F0 m 635 ls9 [])) : W p l e { frames := 2048, cells := 601024, slots := 7293034, locals := 84000 } s m args below meth c H locs cells slots Q (F0 m 599 ls []) := by
  have hx := C.1
  have hb := C.2.1
  obtain ⟨hρ, ⟨ho9, hoc⟩, tx, n, bd, dc, X, q0, q1, N, cb, bg, N1, cb1, bg1, φ, en, xs, S, I, J, hA, hR, hM⟩ := hI
  have hMo := lw_M hρ
  have qz : rZ ρ Z := hA.2.1.1
  have e18 : ρ (Z 18) = 18 := qz 18 (by unfold rU; omega)
  have q6 : f (Z 6) = some (.inr (0, [.ref (Z 7), .int (nI n), .ref (Z 8), .ref (Z 10), .ref (Z 1), .ref dc, .ref (Z q0), .ref (Z q1)])) := hA.1
  have h2048 := hX.2.2.2
  refine lv_aload_n hx hb d_La_law_599 rfl (lv_at hl 2 rfl) ?_
  refine lv_aload_n hx hb d_La_law_600 rfl (lv_at hl 1 rfl) ?_
  refine lv_iload hx hb d_La_law_601 (lv_at hl 0 rfl) ?_
  refine lv_iconst (v := 1) hx hb d_La_law_603 (by decide) ?_
  refine gn_iadd (a := i9) (b := 1) hx hb d_La_law_604 ?_
  refine lw_ld C V hX (j := i9 + 1) (by omega) d_La_law_605 ?_
  refine gc_callS C V hl.1 m_La_adopt l_La_105 (c_La_adopt l E _ _ (Z 6) (sc (i9 + 1)) _ q6 _ _ (fun sz => c_QM_adopt l hst E sz f ρ Z tx n bd dc X q0 q1 N cb bg N1 cb1 bg1 φ en xs (sc (i9 + 1)) hA) (fun cls g h => h.1) (fun r g h => h.1)) rfl ⟨by first | decide | omega | (dsimp only; omega), by first | decide | omega | (dsimp only; omega)⟩ ⟨by first | decide | omega | (dsimp only; omega), by first | decide | omega | (dsimp only; omega)⟩ (Nat.le_of_ble_eq_true rfl) rfl d_La_law_606 (fun r g9 H locs hp9 V1 => ?_)
  have V := V1
  rcases hp9 with ⟨rfl, -, ⟨j9, v9, hj9, hk9, hA9⟩, hfr9⟩ | ⟨rfl, -, hq9, he9⟩
  · have hR := hR.keep (hfr9) (fun b hb => lw_nq b (hMo b hb))
    have hoc := (hfr9).at hoc (lw_n18 _ e18)
    have hA := hA9
    refine W.eq (g2 := F0 m 609 ls [.int 0]) rfl ?_
    refine lv_istore hx hb d_La_law_609 hl (by decide) rfl (fun ls hl => ?_)
    have hl : lv_has ls 8 [(5, .int 0), (4, .int (nI i9)), (0, .ref sb), (1, .ref (Z 6)), (2, .ref mo), (3, .ref (Z 18))] := hl
    refine lv_aload_n hx hb d_La_law_611 rfl (lv_at hl 4 rfl) ?_
    refine lv_aload_n hx hb d_La_law_612 rfl (lv_at hl 2 rfl) ?_
    refine lv_iload hx hb d_La_law_613 (lv_at hl 1 rfl) ?_
    refine lv_iconst (v := 1) hx hb d_La_law_615 (by decide) ?_
    refine gn_iadd (a := i9) (b := 1) hx hb d_La_law_616 ?_
    refine lw_ld C V hX (j := i9 + 1) (by omega) d_La_law_617 ?_
    obtain ⟨⟨-, -, h51, h16⟩, nv2, np2, hn2, hp2, hmo⟩ := id hM.2.2.2.2.1
    obtain ⟨nvd, npd, u9, -, -, -, -, hc0⟩ := id hM.2.2.2.2.2
    obtain ⟨ov, ho50, homw⟩ := hmo j9 hj9
    refine W.eq (g2 := F0 m 618 ls [.int (nI j9), .ref mo]) (by rw [hk9]) ?_
    refine gh_callV C V hl.1 m_Mo_adopt l_La_108 (c_Mo_adopt1 l E _ _ mo ad S I J j9 ov nv2 np2 _ hR (li_ao1 h16 h51 hj9) (by omega) ho50 homw hc0.any) rfl hR.1 gc_Mo ⟨by first | decide | omega | (dsimp only; omega), by first | decide | omega | (dsimp only; omega)⟩ ⟨by first | decide | omega | (dsimp only; omega), by first | decide | omega | (dsimp only; omega)⟩ (Nat.le_of_ble_eq_true rfl) rfl d_La_law_618 (fun r gm H locs hp9 V1 => ?_)
    obtain ⟨rfl, S2, I2, J2, rt9, hXm, hcp⟩ := hp9
    have V := V1
    refine W.eq (g2 := F0 m 621 ls []) rfl ?_
    have hA := hA.keep (hXm.2) (fun b hb => Or.inr (by have := hMo b hb; omega))
    have hoc := (hXm.2).at hoc (fun z => by have := hMo _ z; omega)
    have hR := hXm.1
    obtain ⟨h00, hM⟩ := li_adopt (j := j9) hM hcp
    refine lv_aload_n hx hb d_La_law_621 rfl (lv_at hl 4 rfl) ?_
    refine gh_callV C V hl.1 m_Mo_thrown l_La_61 (c_Mo_thrown l E _ _ mo ad _ _ _ hR) rfl hR.1 gc_Mo ⟨by first | decide | omega | (dsimp only; omega), by first | decide | omega | (dsimp only; omega)⟩ ⟨by first | decide | omega | (dsimp only; omega), by first | decide | omega | (dsimp only; omega)⟩ (Nat.le_of_ble_eq_true rfl) rfl d_La_law_622 (fun r g8 H locs hp9 V1 => ?_)
    obtain ⟨rfl, he9⟩ := hp9
    rw [he9] at V1
    have V := V1
    rw [h00]
    refine W.eq (g2 := F0 m 625 ls [.int 0]) rfl ?_
    refine lv_iload hx hb d_La_law_625 (lv_at hl 0 rfl) ?_
    refine lv_icmp_eq (tgt := 632) hx hb d_La_law_627 (by decide) (fun c1 => ?_) (fun c1 => absurd rfl c1)
    refine lv_goto (tgt := 635) hx hb d_La_law_632 (by decide) ?_
    have hl : lv_has ls 8 [(4, .int (nI i9)), (0, .ref sb), (1, .ref (Z 6)), (2, .ref mo), (3, .ref (Z 18))] := lv_sub hl [1, 2, 3, 4, 5] rfl
    exact gw_le (by first | omega | (dsimp only; omega)) (by first | omega | (dsimp only; omega)) (k _ _ _ _ V ⟨hρ, ⟨_, hoc⟩, _, _, _, _, _, _, _, _, _, _, _, _, _, _, _, _, _, _, _, hA, hR, hM⟩ hl)
  · rw [he9] at V
    refine W.eq (g2 := F0 m 609 ls [.int 1]) rfl ?_
    refine lv_istore hx hb d_La_law_609 hl (by decide) rfl (fun ls hl => ?_)
    have hl : lv_has ls 8 [(5, .int 1), (4, .int (nI i9)), (0, .ref sb), (1, .ref (Z 6)), (2, .ref mo), (3, .ref (Z 18))] := hl
    refine lv_aload_n hx hb d_La_law_611 rfl (lv_at hl 4 rfl) ?_
    refine lv_aload_n hx hb d_La_law_612 rfl (lv_at hl 2 rfl) ?_
    refine lv_iload hx hb d_La_law_613 (lv_at hl 1 rfl) ?_
    refine lv_iconst (v := 1) hx hb d_La_law_615 (by decide) ?_
    refine gn_iadd (a := i9) (b := 1) hx hb d_La_law_616 ?_
    refine lw_ld C V hX (j := i9 + 1) (by omega) d_La_law_617 ?_
    refine gh_callV C V hl.1 m_Mo_adopt l_La_108 (c_Mo_adopt0 l E _ _ mo ad S I J _ hR (li_ao0 hM.2.2.2.2.1.1.2.2.1 hq9)) rfl hR.1 gc_Mo ⟨by first | decide | omega | (dsimp only; omega), by first | decide | omega | (dsimp only; omega)⟩ ⟨by first | decide | omega | (dsimp only; omega), by first | decide | omega | (dsimp only; omega)⟩ (Nat.le_of_ble_eq_true rfl) rfl d_La_law_618 (fun r gm H locs hp9 V1 => ?_)
    obtain ⟨rfl, hXm⟩ := hp9
    have V := V1
    refine W.eq (g2 := F0 m 621 ls []) rfl ?_
    have hA := hA.keep (hXm.2) (fun b hb => Or.inr (by have := hMo b hb; omega))
    have hoc := (hXm.2).at hoc (fun z => by have := hMo _ z; omega)
    have hR := hXm.1
    have hM := hM.s0 (v := 1)
    refine lv_aload_n hx hb d_La_law_621 rfl (lv_at hl 4 rfl) ?_
    refine gh_callV C V hl.1 m_Mo_thrown l_La_61 (c_Mo_thrown l E _ _ mo ad _ _ _ hR) rfl hR.1 gc_Mo ⟨by first | decide | omega | (dsimp only; omega), by first | decide | omega | (dsimp only; omega)⟩ ⟨by first | decide | omega | (dsimp only; omega), by first | decide | omega | (dsimp only; omega)⟩ (Nat.le_of_ble_eq_true rfl) rfl d_La_law_622 (fun r g8 H locs hp9 V1 => ?_)
    obtain ⟨rfl, he9⟩ := hp9
    rw [he9] at V1
    have V := V1
    rw [va_up_s]
    refine W.eq (g2 := F0 m 625 ls [.int 1]) rfl ?_
    refine lv_iload hx hb d_La_law_625 (lv_at hl 0 rfl) ?_
    refine lv_icmp_eq (tgt := 632) hx hb d_La_law_627 (by decide) (fun c2 => ?_) (fun c2 => absurd rfl c2)
    refine lv_goto (tgt := 635) hx hb d_La_law_632 (by decide) ?_
    have hl : lv_has ls 8 [(4, .int (nI i9)), (0, .ref sb), (1, .ref (Z 6)), (2, .ref mo), (3, .ref (Z 18))] := lv_sub hl [1, 2, 3, 4, 5] rfl
    exact gw_le (by first | omega | (dsimp only; omega)) (by first | omega | (dsimp only; omega)) (k _ _ _ _ V ⟨hρ, ⟨_, hoc⟩, _, _, _, _, _, _, _, _, _, _, _, _, _, _, _, _, _, _, _, hA, hR, hM⟩ hl)
