/-! fold, each of the model, each way. Printed by wip/whole/gen_mo18.py. -/
theorem d_Mo_fold_0 : decode b_Mo_fold 0 = .ok (.aload_n 0, 1) := by decide +kernel
theorem d_Mo_fold_1 : decode b_Mo_fold 1 = .ok (.getfield 85, 3) := by decide +kernel
theorem d_Mo_fold_4 : decode b_Mo_fold 4 = .ok (.iconst 3, 1) := by decide +kernel
theorem d_Mo_fold_5 : decode b_Mo_fold 5 = .ok (.iload_n 1, 1) := by decide +kernel
theorem d_Mo_fold_6 : decode b_Mo_fold 6 = .ok (.imul, 1) := by decide +kernel
theorem d_Mo_fold_7 : decode b_Mo_fold 7 = .ok (.iaload, 1) := by decide +kernel
theorem d_Mo_fold_8 : decode b_Mo_fold 8 = .ok (.istore_n 2, 1) := by decide +kernel
theorem d_Mo_fold_9 : decode b_Mo_fold 9 = .ok (.aload_n 0, 1) := by decide +kernel
theorem d_Mo_fold_10 : decode b_Mo_fold 10 = .ok (.getfield 85, 3) := by decide +kernel
theorem d_Mo_fold_13 : decode b_Mo_fold 13 = .ok (.iconst 3, 1) := by decide +kernel
theorem d_Mo_fold_14 : decode b_Mo_fold 14 = .ok (.iload_n 1, 1) := by decide +kernel
theorem d_Mo_fold_15 : decode b_Mo_fold 15 = .ok (.imul, 1) := by decide +kernel
theorem d_Mo_fold_16 : decode b_Mo_fold 16 = .ok (.iconst 1, 1) := by decide +kernel
theorem d_Mo_fold_17 : decode b_Mo_fold 17 = .ok (.iadd, 1) := by decide +kernel
theorem d_Mo_fold_18 : decode b_Mo_fold 18 = .ok (.iaload, 1) := by decide +kernel
theorem d_Mo_fold_19 : decode b_Mo_fold 19 = .ok (.istore_n 3, 1) := by decide +kernel
theorem d_Mo_fold_20 : decode b_Mo_fold 20 = .ok (.aload_n 0, 1) := by decide +kernel
theorem d_Mo_fold_21 : decode b_Mo_fold 21 = .ok (.getfield 85, 3) := by decide +kernel
theorem d_Mo_fold_24 : decode b_Mo_fold 24 = .ok (.iconst 3, 1) := by decide +kernel
theorem d_Mo_fold_25 : decode b_Mo_fold 25 = .ok (.iload_n 1, 1) := by decide +kernel
theorem d_Mo_fold_26 : decode b_Mo_fold 26 = .ok (.imul, 1) := by decide +kernel
theorem d_Mo_fold_27 : decode b_Mo_fold 27 = .ok (.iconst 2, 1) := by decide +kernel
theorem d_Mo_fold_28 : decode b_Mo_fold 28 = .ok (.iadd, 1) := by decide +kernel
theorem d_Mo_fold_29 : decode b_Mo_fold 29 = .ok (.iaload, 1) := by decide +kernel
theorem d_Mo_fold_30 : decode b_Mo_fold 30 = .ok (.istore 4, 2) := by decide +kernel
theorem d_Mo_fold_32 : decode b_Mo_fold 32 = .ok (.aload_n 0, 1) := by decide +kernel
theorem d_Mo_fold_33 : decode b_Mo_fold 33 = .ok (.getfield 277, 3) := by decide +kernel
theorem d_Mo_fold_36 : decode b_Mo_fold 36 = .ok (.iconst 3, 1) := by decide +kernel
theorem d_Mo_fold_37 : decode b_Mo_fold 37 = .ok (.if_icmp .ne 11, 3) := by decide +kernel
theorem d_Mo_fold_40 : decode b_Mo_fold 40 = .ok (.aload_n 0, 1) := by decide +kernel
theorem d_Mo_fold_41 : decode b_Mo_fold 41 = .ok (.iconst 3, 1) := by decide +kernel
theorem d_Mo_fold_42 : decode b_Mo_fold 42 = .ok (.invokevirtual 289, 3) := by decide +kernel
theorem d_Mo_fold_45 : decode b_Mo_fold 45 = .ok (.goto 255, 3) := by decide +kernel
theorem d_Mo_fold_48 : decode b_Mo_fold 48 = .ok (.aload_n 0, 1) := by decide +kernel
theorem d_Mo_fold_49 : decode b_Mo_fold 49 = .ok (.getfield 277, 3) := by decide +kernel
theorem d_Mo_fold_52 : decode b_Mo_fold 52 = .ok (.ifCond .ne 59, 3) := by decide +kernel
theorem d_Mo_fold_55 : decode b_Mo_fold 55 = .ok (.aload_n 0, 1) := by decide +kernel
theorem d_Mo_fold_56 : decode b_Mo_fold 56 = .ok (.getfield 88, 3) := by decide +kernel
theorem d_Mo_fold_59 : decode b_Mo_fold 59 = .ok (.iload_n 1, 1) := by decide +kernel
theorem d_Mo_fold_60 : decode b_Mo_fold 60 = .ok (.iaload, 1) := by decide +kernel
theorem d_Mo_fold_61 : decode b_Mo_fold 61 = .ok (.ifCond .ne 7, 3) := by decide +kernel
theorem d_Mo_fold_64 : decode b_Mo_fold 64 = .ok (.iconst 1, 1) := by decide +kernel
theorem d_Mo_fold_65 : decode b_Mo_fold 65 = .ok (.goto 4, 3) := by decide +kernel
theorem d_Mo_fold_68 : decode b_Mo_fold 68 = .ok (.iconst 0, 1) := by decide +kernel
theorem d_Mo_fold_69 : decode b_Mo_fold 69 = .ok (.istore 5, 2) := by decide +kernel
theorem d_Mo_fold_71 : decode b_Mo_fold 71 = .ok (.aload_n 0, 1) := by decide +kernel
theorem d_Mo_fold_72 : decode b_Mo_fold 72 = .ok (.getfield 88, 3) := by decide +kernel
theorem d_Mo_fold_75 : decode b_Mo_fold 75 = .ok (.iload_n 1, 1) := by decide +kernel
theorem d_Mo_fold_76 : decode b_Mo_fold 76 = .ok (.iconst 1, 1) := by decide +kernel
theorem d_Mo_fold_77 : decode b_Mo_fold 77 = .ok (.iastore, 1) := by decide +kernel
theorem d_Mo_fold_78 : decode b_Mo_fold 78 = .ok (.iload 5, 2) := by decide +kernel
theorem d_Mo_fold_80 : decode b_Mo_fold 80 = .ok (.ifCond .eq 23, 3) := by decide +kernel
theorem d_Mo_fold_83 : decode b_Mo_fold 83 = .ok (.aload_n 0, 1) := by decide +kernel
theorem d_Mo_fold_84 : decode b_Mo_fold 84 = .ok (.iload_n 3, 1) := by decide +kernel
theorem d_Mo_fold_85 : decode b_Mo_fold 85 = .ok (.aload_n 0, 1) := by decide +kernel
theorem d_Mo_fold_86 : decode b_Mo_fold 86 = .ok (.getfield 91, 3) := by decide +kernel
theorem d_Mo_fold_89 : decode b_Mo_fold 89 = .ok (.iload_n 1, 1) := by decide +kernel
theorem d_Mo_fold_90 : decode b_Mo_fold 90 = .ok (.iaload, 1) := by decide +kernel
theorem d_Mo_fold_91 : decode b_Mo_fold 91 = .ok (.aload_n 0, 1) := by decide +kernel
theorem d_Mo_fold_92 : decode b_Mo_fold 92 = .ok (.getfield 94, 3) := by decide +kernel
theorem d_Mo_fold_95 : decode b_Mo_fold 95 = .ok (.iload_n 1, 1) := by decide +kernel
theorem d_Mo_fold_96 : decode b_Mo_fold 96 = .ok (.iaload, 1) := by decide +kernel
theorem d_Mo_fold_97 : decode b_Mo_fold 97 = .ok (.invokevirtual 299, 3) := by decide +kernel
theorem d_Mo_fold_100 : decode b_Mo_fold 100 = .ok (.goto 8, 3) := by decide +kernel
theorem d_Mo_fold_103 : decode b_Mo_fold 103 = .ok (.aload_n 0, 1) := by decide +kernel
theorem d_Mo_fold_104 : decode b_Mo_fold 104 = .ok (.iload_n 3, 1) := by decide +kernel
theorem d_Mo_fold_105 : decode b_Mo_fold 105 = .ok (.invokevirtual 283, 3) := by decide +kernel
theorem d_Mo_fold_108 : decode b_Mo_fold 108 = .ok (.goto 192, 3) := by decide +kernel
theorem d_Mo_fold_111 : decode b_Mo_fold 111 = .ok (.aload_n 0, 1) := by decide +kernel
theorem d_Mo_fold_112 : decode b_Mo_fold 112 = .ok (.getfield 277, 3) := by decide +kernel
theorem d_Mo_fold_115 : decode b_Mo_fold 115 = .ok (.iconst 1, 1) := by decide +kernel
theorem d_Mo_fold_116 : decode b_Mo_fold 116 = .ok (.if_icmp .ne 112, 3) := by decide +kernel
theorem d_Mo_fold_119 : decode b_Mo_fold 119 = .ok (.aload_n 0, 1) := by decide +kernel
theorem d_Mo_fold_120 : decode b_Mo_fold 120 = .ok (.getfield 88, 3) := by decide +kernel
theorem d_Mo_fold_123 : decode b_Mo_fold 123 = .ok (.iload_n 1, 1) := by decide +kernel
theorem d_Mo_fold_124 : decode b_Mo_fold 124 = .ok (.iaload, 1) := by decide +kernel
theorem d_Mo_fold_125 : decode b_Mo_fold 125 = .ok (.iconst 1, 1) := by decide +kernel
theorem d_Mo_fold_126 : decode b_Mo_fold 126 = .ok (.if_icmp .ne 40, 3) := by decide +kernel
theorem d_Mo_fold_129 : decode b_Mo_fold 129 = .ok (.aload_n 0, 1) := by decide +kernel
theorem d_Mo_fold_130 : decode b_Mo_fold 130 = .ok (.getfield 97, 3) := by decide +kernel
theorem d_Mo_fold_133 : decode b_Mo_fold 133 = .ok (.iload_n 1, 1) := by decide +kernel
theorem d_Mo_fold_134 : decode b_Mo_fold 134 = .ok (.aload_n 0, 1) := by decide +kernel
theorem d_Mo_fold_135 : decode b_Mo_fold 135 = .ok (.getfield 286, 3) := by decide +kernel
theorem d_Mo_fold_138 : decode b_Mo_fold 138 = .ok (.iastore, 1) := by decide +kernel
theorem d_Mo_fold_139 : decode b_Mo_fold 139 = .ok (.aload_n 0, 1) := by decide +kernel
theorem d_Mo_fold_140 : decode b_Mo_fold 140 = .ok (.getfield 88, 3) := by decide +kernel
theorem d_Mo_fold_143 : decode b_Mo_fold 143 = .ok (.iload_n 1, 1) := by decide +kernel
theorem d_Mo_fold_144 : decode b_Mo_fold 144 = .ok (.iconst 2, 1) := by decide +kernel
theorem d_Mo_fold_145 : decode b_Mo_fold 145 = .ok (.iastore, 1) := by decide +kernel
theorem d_Mo_fold_146 : decode b_Mo_fold 146 = .ok (.aload_n 0, 1) := by decide +kernel
theorem d_Mo_fold_147 : decode b_Mo_fold 147 = .ok (.iload_n 2, 1) := by decide +kernel
theorem d_Mo_fold_148 : decode b_Mo_fold 148 = .ok (.aload_n 0, 1) := by decide +kernel
theorem d_Mo_fold_149 : decode b_Mo_fold 149 = .ok (.getfield 91, 3) := by decide +kernel
theorem d_Mo_fold_152 : decode b_Mo_fold 152 = .ok (.iload_n 1, 1) := by decide +kernel
theorem d_Mo_fold_153 : decode b_Mo_fold 153 = .ok (.iaload, 1) := by decide +kernel
theorem d_Mo_fold_154 : decode b_Mo_fold 154 = .ok (.aload_n 0, 1) := by decide +kernel
theorem d_Mo_fold_155 : decode b_Mo_fold 155 = .ok (.getfield 94, 3) := by decide +kernel
theorem d_Mo_fold_158 : decode b_Mo_fold 158 = .ok (.iload_n 1, 1) := by decide +kernel
theorem d_Mo_fold_159 : decode b_Mo_fold 159 = .ok (.iaload, 1) := by decide +kernel
theorem d_Mo_fold_160 : decode b_Mo_fold 160 = .ok (.invokevirtual 299, 3) := by decide +kernel
theorem d_Mo_fold_163 : decode b_Mo_fold 163 = .ok (.goto 137, 3) := by decide +kernel
theorem d_Mo_fold_166 : decode b_Mo_fold 166 = .ok (.aload_n 0, 1) := by decide +kernel
theorem d_Mo_fold_167 : decode b_Mo_fold 167 = .ok (.getfield 88, 3) := by decide +kernel
theorem d_Mo_fold_170 : decode b_Mo_fold 170 = .ok (.iload_n 1, 1) := by decide +kernel
theorem d_Mo_fold_171 : decode b_Mo_fold 171 = .ok (.iaload, 1) := by decide +kernel
theorem d_Mo_fold_172 : decode b_Mo_fold 172 = .ok (.iconst 2, 1) := by decide +kernel
theorem d_Mo_fold_173 : decode b_Mo_fold 173 = .ok (.if_icmp .ne 36, 3) := by decide +kernel
theorem d_Mo_fold_176 : decode b_Mo_fold 176 = .ok (.aload_n 0, 1) := by decide +kernel
theorem d_Mo_fold_177 : decode b_Mo_fold 177 = .ok (.getfield 100, 3) := by decide +kernel
theorem d_Mo_fold_180 : decode b_Mo_fold 180 = .ok (.iload_n 1, 1) := by decide +kernel
theorem d_Mo_fold_181 : decode b_Mo_fold 181 = .ok (.iconst 0, 1) := by decide +kernel
theorem d_Mo_fold_182 : decode b_Mo_fold 182 = .ok (.iastore, 1) := by decide +kernel
theorem d_Mo_fold_183 : decode b_Mo_fold 183 = .ok (.aload_n 0, 1) := by decide +kernel
theorem d_Mo_fold_184 : decode b_Mo_fold 184 = .ok (.getfield 88, 3) := by decide +kernel
theorem d_Mo_fold_187 : decode b_Mo_fold 187 = .ok (.iload_n 1, 1) := by decide +kernel
theorem d_Mo_fold_188 : decode b_Mo_fold 188 = .ok (.iconst 3, 1) := by decide +kernel
theorem d_Mo_fold_189 : decode b_Mo_fold 189 = .ok (.iastore, 1) := by decide +kernel
theorem d_Mo_fold_190 : decode b_Mo_fold 190 = .ok (.aload_n 0, 1) := by decide +kernel
theorem d_Mo_fold_191 : decode b_Mo_fold 191 = .ok (.iload 4, 2) := by decide +kernel
theorem d_Mo_fold_193 : decode b_Mo_fold 193 = .ok (.aload_n 0, 1) := by decide +kernel
theorem d_Mo_fold_194 : decode b_Mo_fold 194 = .ok (.getfield 97, 3) := by decide +kernel
theorem d_Mo_fold_197 : decode b_Mo_fold 197 = .ok (.iload_n 1, 1) := by decide +kernel
theorem d_Mo_fold_198 : decode b_Mo_fold 198 = .ok (.iaload, 1) := by decide +kernel
theorem d_Mo_fold_199 : decode b_Mo_fold 199 = .ok (.aload_n 0, 1) := by decide +kernel
theorem d_Mo_fold_200 : decode b_Mo_fold 200 = .ok (.getfield 286, 3) := by decide +kernel
theorem d_Mo_fold_203 : decode b_Mo_fold 203 = .ok (.invokevirtual 299, 3) := by decide +kernel
theorem d_Mo_fold_206 : decode b_Mo_fold 206 = .ok (.goto 94, 3) := by decide +kernel
theorem d_Mo_fold_209 : decode b_Mo_fold 209 = .ok (.aload_n 0, 1) := by decide +kernel
theorem d_Mo_fold_210 : decode b_Mo_fold 210 = .ok (.getfield 100, 3) := by decide +kernel
theorem d_Mo_fold_213 : decode b_Mo_fold 213 = .ok (.iload_n 1, 1) := by decide +kernel
theorem d_Mo_fold_214 : decode b_Mo_fold 214 = .ok (.aload_n 0, 1) := by decide +kernel
theorem d_Mo_fold_215 : decode b_Mo_fold 215 = .ok (.getfield 286, 3) := by decide +kernel
theorem d_Mo_fold_218 : decode b_Mo_fold 218 = .ok (.iastore, 1) := by decide +kernel
theorem d_Mo_fold_219 : decode b_Mo_fold 219 = .ok (.aload_n 0, 1) := by decide +kernel
theorem d_Mo_fold_220 : decode b_Mo_fold 220 = .ok (.iload 4, 2) := by decide +kernel
theorem d_Mo_fold_222 : decode b_Mo_fold 222 = .ok (.invokevirtual 283, 3) := by decide +kernel
theorem d_Mo_fold_225 : decode b_Mo_fold 225 = .ok (.goto 75, 3) := by decide +kernel
theorem d_Mo_fold_228 : decode b_Mo_fold 228 = .ok (.aload_n 0, 1) := by decide +kernel
theorem d_Mo_fold_229 : decode b_Mo_fold 229 = .ok (.getfield 88, 3) := by decide +kernel
theorem d_Mo_fold_232 : decode b_Mo_fold 232 = .ok (.iload_n 1, 1) := by decide +kernel
theorem d_Mo_fold_233 : decode b_Mo_fold 233 = .ok (.iaload, 1) := by decide +kernel
theorem d_Mo_fold_234 : decode b_Mo_fold 234 = .ok (.iconst 1, 1) := by decide +kernel
theorem d_Mo_fold_235 : decode b_Mo_fold 235 = .ok (.if_icmp .ne 11, 3) := by decide +kernel
theorem d_Mo_fold_238 : decode b_Mo_fold 238 = .ok (.aload_n 0, 1) := by decide +kernel
theorem d_Mo_fold_239 : decode b_Mo_fold 239 = .ok (.iconst 2, 1) := by decide +kernel
theorem d_Mo_fold_240 : decode b_Mo_fold 240 = .ok (.invokevirtual 289, 3) := by decide +kernel
theorem d_Mo_fold_243 : decode b_Mo_fold 243 = .ok (.goto 57, 3) := by decide +kernel
theorem d_Mo_fold_246 : decode b_Mo_fold 246 = .ok (.aload_n 0, 1) := by decide +kernel
theorem d_Mo_fold_247 : decode b_Mo_fold 247 = .ok (.getfield 88, 3) := by decide +kernel
theorem d_Mo_fold_250 : decode b_Mo_fold 250 = .ok (.iload_n 1, 1) := by decide +kernel
theorem d_Mo_fold_251 : decode b_Mo_fold 251 = .ok (.iaload, 1) := by decide +kernel
theorem d_Mo_fold_252 : decode b_Mo_fold 252 = .ok (.iconst 2, 1) := by decide +kernel
theorem d_Mo_fold_253 : decode b_Mo_fold 253 = .ok (.if_icmp .ne 23, 3) := by decide +kernel
theorem d_Mo_fold_256 : decode b_Mo_fold 256 = .ok (.aload_n 0, 1) := by decide +kernel
theorem d_Mo_fold_257 : decode b_Mo_fold 257 = .ok (.getfield 88, 3) := by decide +kernel
theorem d_Mo_fold_260 : decode b_Mo_fold 260 = .ok (.iload_n 1, 1) := by decide +kernel
theorem d_Mo_fold_261 : decode b_Mo_fold 261 = .ok (.iconst 4, 1) := by decide +kernel
theorem d_Mo_fold_262 : decode b_Mo_fold 262 = .ok (.iastore, 1) := by decide +kernel
theorem d_Mo_fold_263 : decode b_Mo_fold 263 = .ok (.aload_n 0, 1) := by decide +kernel
theorem d_Mo_fold_264 : decode b_Mo_fold 264 = .ok (.aload_n 0, 1) := by decide +kernel
theorem d_Mo_fold_265 : decode b_Mo_fold 265 = .ok (.getfield 97, 3) := by decide +kernel
theorem d_Mo_fold_268 : decode b_Mo_fold 268 = .ok (.iload_n 1, 1) := by decide +kernel
theorem d_Mo_fold_269 : decode b_Mo_fold 269 = .ok (.iaload, 1) := by decide +kernel
theorem d_Mo_fold_270 : decode b_Mo_fold 270 = .ok (.invokevirtual 342, 3) := by decide +kernel
theorem d_Mo_fold_273 : decode b_Mo_fold 273 = .ok (.goto 27, 3) := by decide +kernel
theorem d_Mo_fold_276 : decode b_Mo_fold 276 = .ok (.aload_n 0, 1) := by decide +kernel
theorem d_Mo_fold_277 : decode b_Mo_fold 277 = .ok (.getfield 97, 3) := by decide +kernel
theorem d_Mo_fold_280 : decode b_Mo_fold 280 = .ok (.iload_n 1, 1) := by decide +kernel
theorem d_Mo_fold_281 : decode b_Mo_fold 281 = .ok (.aload_n 0, 1) := by decide +kernel
theorem d_Mo_fold_282 : decode b_Mo_fold 282 = .ok (.getfield 100, 3) := by decide +kernel
theorem d_Mo_fold_285 : decode b_Mo_fold 285 = .ok (.iload_n 1, 1) := by decide +kernel
theorem d_Mo_fold_286 : decode b_Mo_fold 286 = .ok (.iaload, 1) := by decide +kernel
theorem d_Mo_fold_287 : decode b_Mo_fold 287 = .ok (.iastore, 1) := by decide +kernel
theorem d_Mo_fold_288 : decode b_Mo_fold 288 = .ok (.aload_n 0, 1) := by decide +kernel
theorem d_Mo_fold_289 : decode b_Mo_fold 289 = .ok (.getfield 88, 3) := by decide +kernel
theorem d_Mo_fold_292 : decode b_Mo_fold 292 = .ok (.iload_n 1, 1) := by decide +kernel
theorem d_Mo_fold_293 : decode b_Mo_fold 293 = .ok (.iconst 2, 1) := by decide +kernel
theorem d_Mo_fold_294 : decode b_Mo_fold 294 = .ok (.iastore, 1) := by decide +kernel
theorem d_Mo_fold_295 : decode b_Mo_fold 295 = .ok (.aload_n 0, 1) := by decide +kernel
theorem d_Mo_fold_296 : decode b_Mo_fold 296 = .ok (.iload_n 2, 1) := by decide +kernel
theorem d_Mo_fold_297 : decode b_Mo_fold 297 = .ok (.invokevirtual 283, 3) := by decide +kernel
theorem d_Mo_fold_300 : decode b_Mo_fold 300 = .ok (.return_, 1) := by decide +kernel
set_option maxHeartbeats 4000000 in
set_option maxRecDepth 100000 in
theorem c_Mo_fold_3 (l : Launch) (E : gh_E) (sz : Nat) (f : gh_F) (a : Nat) (ad : Nat → Nat) (S : Nat → Int32) (I : Nat → Nat → Int32) (J : Nat → Nat → Int64) (w cp φ : Nat) (p0 : Nat) (p1 : Nat) (p2 : Nat) (hX : mo_R E f a ad S I J) (h45 : S 45 = nI (w + 1)) (hw : w < 14) (hc60 : cp < 60) (hp0c : I 34 (3 * cp) = nI p0) (hq0 : cp < p0 ∧ p0 < 60) (hp1c : I 34 (3 * cp + 1) = nI p1) (hq1 : cp < p1 ∧ p1 < 60) (hp2c : I 34 (3 * cp + 2) = nI p2) (hq2 : cp < p2 ∧ p2 < 60) (hS46 : S 46 = 3) : gh_M l y_Mo_fold b_Mo_fold 6 none E sz [.ref a, .int (nI cp)] f { frames := 7, cells := 0, slots := 0, locals := 200 } (fun r g => r = none ∧ ∃ S2 I2, mo_X E f g a ad S2 I2 J ∧ mct cp w (fun _ => False) (fun k => I k cp) S I S2 I2 ∧ oc_t w 3 (S 47) S S2) := by
  refine gh_open (by decide) (Nat.le_of_ble_eq_true rfl) ?_
  intro p e s m args below meth c A ls hAe C V hr hlocks hname hl
  have hx := C.1
  have hb := C.2.1
  have hl : lv_has ls 6 [(0, .ref a), (1, .int (nI cp))] := hl
  have X : mo_X E f f a ad S I J := ⟨hX, gh_fr.rf⟩
  refine lv_aload_n hx hb d_Mo_fold_0 rfl (lv_at hl 0 rfl) ?_
  refine mo_getA C V X 34 (by decide) (by decide) f_Mo_85 rfl d_Mo_fold_1 ?_
  refine lv_iconst (v := 3) hx hb d_Mo_fold_4 (by decide) ?_
  refine lv_iload_n hx hb d_Mo_fold_5 rfl (lv_at hl 1 rfl) ?_
  refine gn_imul (a := 3) (b := cp) hx hb d_Mo_fold_6 ?_
  refine mo_ild (k := 34) (i := 3 * cp) (n := 180) C V X (by decide) (by decide) rfl (by omega) (by decide) d_Mo_fold_7 ?_
  rw [show I 34 (3 * cp) = nI p0 from hp0c]
  refine lv_istore_n hx hb d_Mo_fold_8 rfl hl (by decide) rfl (fun ls hl => ?_)
  have hl : lv_has ls 6 [(2, .int (nI p0)), (0, .ref a), (1, .int (nI cp))] := hl
  refine lv_aload_n hx hb d_Mo_fold_9 rfl (lv_at hl 1 rfl) ?_
  refine mo_getA C V X 34 (by decide) (by decide) f_Mo_85 rfl d_Mo_fold_10 ?_
  refine lv_iconst (v := 3) hx hb d_Mo_fold_13 (by decide) ?_
  refine lv_iload_n hx hb d_Mo_fold_14 rfl (lv_at hl 2 rfl) ?_
  refine gn_imul (a := 3) (b := cp) hx hb d_Mo_fold_15 ?_
  refine lv_iconst (v := 1) hx hb d_Mo_fold_16 (by decide) ?_
  refine gn_iadd (a := 3 * cp) (b := 1) hx hb d_Mo_fold_17 ?_
  refine mo_ild (k := 34) (i := (3 * cp) + 1) (n := 180) C V X (by decide) (by decide) rfl (by omega) (by decide) d_Mo_fold_18 ?_
  rw [show I 34 ((3 * cp) + 1) = nI p1 from hp1c]
  refine lv_istore_n hx hb d_Mo_fold_19 rfl hl (by decide) rfl (fun ls hl => ?_)
  have hl : lv_has ls 6 [(3, .int (nI p1)), (2, .int (nI p0)), (0, .ref a), (1, .int (nI cp))] := hl
  refine lv_aload_n hx hb d_Mo_fold_20 rfl (lv_at hl 2 rfl) ?_
  refine mo_getA C V X 34 (by decide) (by decide) f_Mo_85 rfl d_Mo_fold_21 ?_
  refine lv_iconst (v := 3) hx hb d_Mo_fold_24 (by decide) ?_
  refine lv_iload_n hx hb d_Mo_fold_25 rfl (lv_at hl 3 rfl) ?_
  refine gn_imul (a := 3) (b := cp) hx hb d_Mo_fold_26 ?_
  refine lv_iconst (v := 2) hx hb d_Mo_fold_27 (by decide) ?_
  refine gn_iadd (a := 3 * cp) (b := 2) hx hb d_Mo_fold_28 ?_
  refine mo_ild (k := 34) (i := (3 * cp) + 2) (n := 180) C V X (by decide) (by decide) rfl (by omega) (by decide) d_Mo_fold_29 ?_
  rw [show I 34 ((3 * cp) + 2) = nI p2 from hp2c]
  refine lv_istore hx hb d_Mo_fold_30 hl (by decide) rfl (fun ls hl => ?_)
  have hl : lv_has ls 6 [(4, .int (nI p2)), (3, .int (nI p1)), (2, .int (nI p0)), (0, .ref a), (1, .int (nI cp))] := hl
  refine lv_aload_n hx hb d_Mo_fold_32 rfl (lv_at hl 3 rfl) ?_
  refine mo_getS (v := 3) C V X 46 (by decide) (by decide) (by first | rfl | exact hS46) f_Mo_277 rfl d_Mo_fold_33 ?_
  refine lv_iconst (v := 3) hx hb d_Mo_fold_36 (by decide) ?_
  refine lv_icmp_ne (tgt := 48) hx hb d_Mo_fold_37 (by decide) (fun c1 => absurd (by decide) c1) (fun c1 => ?_)
  refine lv_aload_n hx hb d_Mo_fold_40 rfl (lv_at hl 3 rfl) ?_
  refine lv_iconst (v := 3) hx hb d_Mo_fold_41 (by decide) ?_
  refine gh_callV C V hl.1 m_Mo_tell l_Mo_289 (c_Mo_tell l E _ _ a ad _ _ _ 3 w X.1 h45) rfl X.1.1 gc_Mo ⟨by first | decide | omega | (dsimp only; omega), by first | decide | omega | (dsimp only; omega)⟩ ⟨by first | decide | omega | (dsimp only; omega), by first | decide | omega | (dsimp only; omega)⟩ (Nat.le_of_ble_eq_true rfl) rfl d_Mo_fold_42 (fun r z9 H locs hp V1 => ?_)
  obtain ⟨rfl, X2⟩ := hp
  have X := X.then X2
  have V := V1
  refine W.eq (g2 := F0 m 45 ls []) rfl ?_
  refine lv_goto (tgt := 300) hx hb d_Mo_fold_45 (by decide) ?_
  refine gh_retv hAe C V hr hlocks d_Mo_fold_300 (by first | decide | omega | (dsimp only; omega)) (by first | decide | omega | (dsimp only; omega)) ?_
  exact ⟨rfl, _, _, X, mct.rf.tell, oc_t1 rfl rfl rfl⟩
set_option maxHeartbeats 4000000 in
set_option maxRecDepth 100000 in
theorem c_Mo_fold_00 (l : Launch) (E : gh_E) (sz : Nat) (f : gh_F) (a : Nat) (ad : Nat → Nat) (S : Nat → Int32) (I : Nat → Nat → Int32) (J : Nat → Nat → Int64) (w cp φ : Nat) (p0 : Nat) (p1 : Nat) (p2 : Nat) (hX : mo_R E f a ad S I J) (h45 : S 45 = nI (w + 1)) (hw : w < 14) (hc60 : cp < 60) (h48 : S 48 = nI φ) (hφ : φ < 1000) (h49 : ¬ 0 ≤ S 49) (hp0c : I 34 (3 * cp) = nI p0) (hq0 : cp < p0 ∧ p0 < 60) (hp1c : I 34 (3 * cp + 1) = nI p1) (hq1 : cp < p1 ∧ p1 < 60) (hp2c : I 34 (3 * cp + 2) = nI p2) (hq2 : cp < p2 ∧ p2 < 60) (hS46 : S 46 = 0) (hph : I 35 cp = 0) : gh_M l y_Mo_fold b_Mo_fold 6 none E sz [.ref a, .int (nI cp)] f { frames := 7, cells := 0, slots := 0, locals := 200 } (fun r g => r = none ∧ ∃ S2 I2, mo_X E f g a ad S2 I2 J ∧ mct cp w (fun j => j = p1) (va_up (fun k => I k cp) 35 1) S I S2 I2 ∧ oc_e w p1 (I 36 cp) (I 37 cp) φ S S2 I2) := by
  refine gh_open (by decide) (Nat.le_of_ble_eq_true rfl) ?_
  intro p e s m args below meth c A ls hAe C V hr hlocks hname hl
  have hx := C.1
  have hb := C.2.1
  have hl : lv_has ls 6 [(0, .ref a), (1, .int (nI cp))] := hl
  have X : mo_X E f f a ad S I J := ⟨hX, gh_fr.rf⟩
  refine lv_aload_n hx hb d_Mo_fold_0 rfl (lv_at hl 0 rfl) ?_
  refine mo_getA C V X 34 (by decide) (by decide) f_Mo_85 rfl d_Mo_fold_1 ?_
  refine lv_iconst (v := 3) hx hb d_Mo_fold_4 (by decide) ?_
  refine lv_iload_n hx hb d_Mo_fold_5 rfl (lv_at hl 1 rfl) ?_
  refine gn_imul (a := 3) (b := cp) hx hb d_Mo_fold_6 ?_
  refine mo_ild (k := 34) (i := 3 * cp) (n := 180) C V X (by decide) (by decide) rfl (by omega) (by decide) d_Mo_fold_7 ?_
  rw [show I 34 (3 * cp) = nI p0 from hp0c]
  refine lv_istore_n hx hb d_Mo_fold_8 rfl hl (by decide) rfl (fun ls hl => ?_)
  have hl : lv_has ls 6 [(2, .int (nI p0)), (0, .ref a), (1, .int (nI cp))] := hl
  refine lv_aload_n hx hb d_Mo_fold_9 rfl (lv_at hl 1 rfl) ?_
  refine mo_getA C V X 34 (by decide) (by decide) f_Mo_85 rfl d_Mo_fold_10 ?_
  refine lv_iconst (v := 3) hx hb d_Mo_fold_13 (by decide) ?_
  refine lv_iload_n hx hb d_Mo_fold_14 rfl (lv_at hl 2 rfl) ?_
  refine gn_imul (a := 3) (b := cp) hx hb d_Mo_fold_15 ?_
  refine lv_iconst (v := 1) hx hb d_Mo_fold_16 (by decide) ?_
  refine gn_iadd (a := 3 * cp) (b := 1) hx hb d_Mo_fold_17 ?_
  refine mo_ild (k := 34) (i := (3 * cp) + 1) (n := 180) C V X (by decide) (by decide) rfl (by omega) (by decide) d_Mo_fold_18 ?_
  rw [show I 34 ((3 * cp) + 1) = nI p1 from hp1c]
  refine lv_istore_n hx hb d_Mo_fold_19 rfl hl (by decide) rfl (fun ls hl => ?_)
  have hl : lv_has ls 6 [(3, .int (nI p1)), (2, .int (nI p0)), (0, .ref a), (1, .int (nI cp))] := hl
  refine lv_aload_n hx hb d_Mo_fold_20 rfl (lv_at hl 2 rfl) ?_
  refine mo_getA C V X 34 (by decide) (by decide) f_Mo_85 rfl d_Mo_fold_21 ?_
  refine lv_iconst (v := 3) hx hb d_Mo_fold_24 (by decide) ?_
  refine lv_iload_n hx hb d_Mo_fold_25 rfl (lv_at hl 3 rfl) ?_
  refine gn_imul (a := 3) (b := cp) hx hb d_Mo_fold_26 ?_
  refine lv_iconst (v := 2) hx hb d_Mo_fold_27 (by decide) ?_
  refine gn_iadd (a := 3 * cp) (b := 2) hx hb d_Mo_fold_28 ?_
  refine mo_ild (k := 34) (i := (3 * cp) + 2) (n := 180) C V X (by decide) (by decide) rfl (by omega) (by decide) d_Mo_fold_29 ?_
  rw [show I 34 ((3 * cp) + 2) = nI p2 from hp2c]
  refine lv_istore hx hb d_Mo_fold_30 hl (by decide) rfl (fun ls hl => ?_)
  have hl : lv_has ls 6 [(4, .int (nI p2)), (3, .int (nI p1)), (2, .int (nI p0)), (0, .ref a), (1, .int (nI cp))] := hl
  refine lv_aload_n hx hb d_Mo_fold_32 rfl (lv_at hl 3 rfl) ?_
  refine mo_getS (v := 0) C V X 46 (by decide) (by decide) (by first | rfl | exact hS46) f_Mo_277 rfl d_Mo_fold_33 ?_
  refine lv_iconst (v := 3) hx hb d_Mo_fold_36 (by decide) ?_
  refine lv_icmp_ne (tgt := 48) hx hb d_Mo_fold_37 (by decide) (fun c1 => ?_) (fun c1 => absurd c1 (by decide))
  refine lv_aload_n hx hb d_Mo_fold_48 rfl (lv_at hl 3 rfl) ?_
  refine mo_getS (v := 0) C V X 46 (by decide) (by decide) (by first | rfl | exact hS46) f_Mo_277 rfl d_Mo_fold_49 ?_
  refine lv_if_ne (tgt := 111) hx hb d_Mo_fold_52 (by decide) (fun c2 => absurd (by decide) c2) (fun c2 => ?_)
  refine lv_aload_n hx hb d_Mo_fold_55 rfl (lv_at hl 3 rfl) ?_
  refine mo_getA C V X 35 (by decide) (by decide) f_Mo_88 rfl d_Mo_fold_56 ?_
  refine lv_iload_n hx hb d_Mo_fold_59 rfl (lv_at hl 4 rfl) ?_
  refine mo_ild (k := 35) (i := cp) (n := 60) C V X (by decide) (by decide) rfl (by omega) (by decide) d_Mo_fold_60 ?_
  rw [show I 35 cp = 0 from hph]
  refine lv_if_ne (tgt := 68) hx hb d_Mo_fold_61 (by decide) (fun c3 => absurd (by decide) c3) (fun c3 => ?_)
  refine lv_iconst (v := 1) hx hb d_Mo_fold_64 (by decide) ?_
  refine lv_goto (tgt := 69) hx hb d_Mo_fold_65 (by decide) ?_
  refine lv_istore hx hb d_Mo_fold_69 hl (by decide) rfl (fun ls hl => ?_)
  have hl : lv_has ls 6 [(5, .int 1), (4, .int (nI p2)), (3, .int (nI p1)), (2, .int (nI p0)), (0, .ref a), (1, .int (nI cp))] := hl
  refine lv_aload_n hx hb d_Mo_fold_71 rfl (lv_at hl 4 rfl) ?_
  refine mo_getA C V X 35 (by decide) (by decide) f_Mo_88 rfl d_Mo_fold_72 ?_
  refine lv_iload_n hx hb d_Mo_fold_75 rfl (lv_at hl 5 rfl) ?_
  refine lv_iconst (v := 1) hx hb d_Mo_fold_76 (by decide) ?_
  refine mo_ist (k := 35) (i := cp) (n := 60) C V X (by decide) (by decide) rfl (by omega) (by decide) d_Mo_fold_77 (fun f1 H locs V1 X1 => ?_)
  clear V X
  have V := V1
  have X := X1
  clear V1 X1
  refine lv_iload hx hb d_Mo_fold_78 (lv_at hl 0 rfl) ?_
  refine lv_if_eq (tgt := 103) hx hb d_Mo_fold_80 (by decide) (fun c4 => absurd c4 (by decide)) (fun c4 => ?_)
  refine lv_aload_n hx hb d_Mo_fold_83 rfl (lv_at hl 4 rfl) ?_
  refine lv_iload_n hx hb d_Mo_fold_84 rfl (lv_at hl 2 rfl) ?_
  refine lv_aload_n hx hb d_Mo_fold_85 rfl (lv_at hl 4 rfl) ?_
  refine mo_getA C V X 36 (by decide) (by decide) f_Mo_91 rfl d_Mo_fold_86 ?_
  refine lv_iload_n hx hb d_Mo_fold_89 rfl (lv_at hl 5 rfl) ?_
  refine mo_ild (k := 36) (i := cp) (n := 60) C V X (by decide) (by decide) rfl (by omega) (by decide) d_Mo_fold_90 ?_
  rw [show (va_up I 35 (upd (I 35) cp 1)) 36 cp = I 36 cp from ((congrFun (va_up_n (by decide)) cp).trans (rfl))]
  refine lv_aload_n hx hb d_Mo_fold_91 rfl (lv_at hl 4 rfl) ?_
  refine mo_getA C V X 37 (by decide) (by decide) f_Mo_94 rfl d_Mo_fold_92 ?_
  refine lv_iload_n hx hb d_Mo_fold_95 rfl (lv_at hl 5 rfl) ?_
  refine mo_ild (k := 37) (i := cp) (n := 60) C V X (by decide) (by decide) rfl (by omega) (by decide) d_Mo_fold_96 ?_
  rw [show (va_up I 35 (upd (I 35) cp 1)) 37 cp = I 37 cp from ((congrFun (va_up_n (by decide)) cp).trans (rfl))]
  refine gh_callV C V hl.1 m_Mo_enter l_Mo_299 (c_Mo_enter l E _ _ a ad _ _ _ p1 (I 36 cp) (I 37 cp) φ (w + 1) X.1 (by omega) h48 hφ h49 h45 (by omega)) rfl X.1.1 gc_Mo ⟨by first | decide | omega | (dsimp only; omega), by first | decide | omega | (dsimp only; omega)⟩ ⟨by first | decide | omega | (dsimp only; omega), by first | decide | omega | (dsimp only; omega)⟩ (Nat.le_of_ble_eq_true rfl) rfl d_Mo_fold_97 (fun r z9 H locs hp V1 => ?_)
  obtain ⟨rfl, hp0, hp1⟩ := hp
  have V := V1
  by_cases hz : φ = 0
  · have X := X.then (hp0 hz)
    refine W.eq (g2 := F0 m 100 ls []) rfl ?_
    refine lv_goto (tgt := 108) hx hb d_Mo_fold_100 (by decide) ?_
    refine lv_goto (tgt := 300) hx hb d_Mo_fold_108 (by decide) ?_
    refine gh_retv hAe C V hr hlocks d_Mo_fold_300 (by first | decide | omega | (dsimp only; omega)) (by first | decide | omega | (dsimp only; omega)) ?_
    exact ⟨rfl, _, _, X, ((mct.rf.cell 35 1 (by decide) (by decide)).s (k := 49) (by omega)).mono (fun _ z => z.elim), oc_e0 hz rfl⟩
  · have X := X.then (hp1 (by omega))
    refine W.eq (g2 := F0 m 100 ls []) rfl ?_
    refine lv_goto (tgt := 108) hx hb d_Mo_fold_100 (by decide) ?_
    refine lv_goto (tgt := 300) hx hb d_Mo_fold_108 (by decide) ?_
    refine gh_retv hAe C V hr hlocks d_Mo_fold_300 (by first | decide | omega | (dsimp only; omega)) (by first | decide | omega | (dsimp only; omega)) ?_
    exact ⟨rfl, _, _, X, (mct.rf.cell 35 1 (by decide) (by decide)).enter (by omega), oc_e1 (by omega) rfl⟩
set_option maxHeartbeats 4000000 in
set_option maxRecDepth 100000 in
theorem c_Mo_fold_04 (l : Launch) (E : gh_E) (sz : Nat) (f : gh_F) (a : Nat) (ad : Nat → Nat) (S : Nat → Int32) (I : Nat → Nat → Int32) (J : Nat → Nat → Int64) (w cp φ : Nat) (p0 : Nat) (p1 : Nat) (p2 : Nat) (hX : mo_R E f a ad S I J) (h45 : S 45 = nI (w + 1)) (hw : w < 14) (hc60 : cp < 60) (hp0c : I 34 (3 * cp) = nI p0) (hq0 : cp < p0 ∧ p0 < 60) (hp1c : I 34 (3 * cp + 1) = nI p1) (hq1 : cp < p1 ∧ p1 < 60) (hp2c : I 34 (3 * cp + 2) = nI p2) (hq2 : cp < p2 ∧ p2 < 60) (hS46 : S 46 = 0) (hph : I 35 cp = 4) : gh_M l y_Mo_fold b_Mo_fold 6 none E sz [.ref a, .int (nI cp)] f { frames := 7, cells := 0, slots := 0, locals := 200 } (fun r g => r = none ∧ ∃ S2 I2, mo_X E f g a ad S2 I2 J ∧ mct cp w (fun _ => False) (va_up (fun k => I k cp) 35 1) S I S2 I2 ∧ oc_a w p1 S S2 I2) := by
  refine gh_open (by decide) (Nat.le_of_ble_eq_true rfl) ?_
  intro p e s m args below meth c A ls hAe C V hr hlocks hname hl
  have hx := C.1
  have hb := C.2.1
  have hl : lv_has ls 6 [(0, .ref a), (1, .int (nI cp))] := hl
  have X : mo_X E f f a ad S I J := ⟨hX, gh_fr.rf⟩
  refine lv_aload_n hx hb d_Mo_fold_0 rfl (lv_at hl 0 rfl) ?_
  refine mo_getA C V X 34 (by decide) (by decide) f_Mo_85 rfl d_Mo_fold_1 ?_
  refine lv_iconst (v := 3) hx hb d_Mo_fold_4 (by decide) ?_
  refine lv_iload_n hx hb d_Mo_fold_5 rfl (lv_at hl 1 rfl) ?_
  refine gn_imul (a := 3) (b := cp) hx hb d_Mo_fold_6 ?_
  refine mo_ild (k := 34) (i := 3 * cp) (n := 180) C V X (by decide) (by decide) rfl (by omega) (by decide) d_Mo_fold_7 ?_
  rw [show I 34 (3 * cp) = nI p0 from hp0c]
  refine lv_istore_n hx hb d_Mo_fold_8 rfl hl (by decide) rfl (fun ls hl => ?_)
  have hl : lv_has ls 6 [(2, .int (nI p0)), (0, .ref a), (1, .int (nI cp))] := hl
  refine lv_aload_n hx hb d_Mo_fold_9 rfl (lv_at hl 1 rfl) ?_
  refine mo_getA C V X 34 (by decide) (by decide) f_Mo_85 rfl d_Mo_fold_10 ?_
  refine lv_iconst (v := 3) hx hb d_Mo_fold_13 (by decide) ?_
  refine lv_iload_n hx hb d_Mo_fold_14 rfl (lv_at hl 2 rfl) ?_
  refine gn_imul (a := 3) (b := cp) hx hb d_Mo_fold_15 ?_
  refine lv_iconst (v := 1) hx hb d_Mo_fold_16 (by decide) ?_
  refine gn_iadd (a := 3 * cp) (b := 1) hx hb d_Mo_fold_17 ?_
  refine mo_ild (k := 34) (i := (3 * cp) + 1) (n := 180) C V X (by decide) (by decide) rfl (by omega) (by decide) d_Mo_fold_18 ?_
  rw [show I 34 ((3 * cp) + 1) = nI p1 from hp1c]
  refine lv_istore_n hx hb d_Mo_fold_19 rfl hl (by decide) rfl (fun ls hl => ?_)
  have hl : lv_has ls 6 [(3, .int (nI p1)), (2, .int (nI p0)), (0, .ref a), (1, .int (nI cp))] := hl
  refine lv_aload_n hx hb d_Mo_fold_20 rfl (lv_at hl 2 rfl) ?_
  refine mo_getA C V X 34 (by decide) (by decide) f_Mo_85 rfl d_Mo_fold_21 ?_
  refine lv_iconst (v := 3) hx hb d_Mo_fold_24 (by decide) ?_
  refine lv_iload_n hx hb d_Mo_fold_25 rfl (lv_at hl 3 rfl) ?_
  refine gn_imul (a := 3) (b := cp) hx hb d_Mo_fold_26 ?_
  refine lv_iconst (v := 2) hx hb d_Mo_fold_27 (by decide) ?_
  refine gn_iadd (a := 3 * cp) (b := 2) hx hb d_Mo_fold_28 ?_
  refine mo_ild (k := 34) (i := (3 * cp) + 2) (n := 180) C V X (by decide) (by decide) rfl (by omega) (by decide) d_Mo_fold_29 ?_
  rw [show I 34 ((3 * cp) + 2) = nI p2 from hp2c]
  refine lv_istore hx hb d_Mo_fold_30 hl (by decide) rfl (fun ls hl => ?_)
  have hl : lv_has ls 6 [(4, .int (nI p2)), (3, .int (nI p1)), (2, .int (nI p0)), (0, .ref a), (1, .int (nI cp))] := hl
  refine lv_aload_n hx hb d_Mo_fold_32 rfl (lv_at hl 3 rfl) ?_
  refine mo_getS (v := 0) C V X 46 (by decide) (by decide) (by first | rfl | exact hS46) f_Mo_277 rfl d_Mo_fold_33 ?_
  refine lv_iconst (v := 3) hx hb d_Mo_fold_36 (by decide) ?_
  refine lv_icmp_ne (tgt := 48) hx hb d_Mo_fold_37 (by decide) (fun c1 => ?_) (fun c1 => absurd c1 (by decide))
  refine lv_aload_n hx hb d_Mo_fold_48 rfl (lv_at hl 3 rfl) ?_
  refine mo_getS (v := 0) C V X 46 (by decide) (by decide) (by first | rfl | exact hS46) f_Mo_277 rfl d_Mo_fold_49 ?_
  refine lv_if_ne (tgt := 111) hx hb d_Mo_fold_52 (by decide) (fun c2 => absurd (by decide) c2) (fun c2 => ?_)
  refine lv_aload_n hx hb d_Mo_fold_55 rfl (lv_at hl 3 rfl) ?_
  refine mo_getA C V X 35 (by decide) (by decide) f_Mo_88 rfl d_Mo_fold_56 ?_
  refine lv_iload_n hx hb d_Mo_fold_59 rfl (lv_at hl 4 rfl) ?_
  refine mo_ild (k := 35) (i := cp) (n := 60) C V X (by decide) (by decide) rfl (by omega) (by decide) d_Mo_fold_60 ?_
  rw [show I 35 cp = 4 from hph]
  refine lv_if_ne (tgt := 68) hx hb d_Mo_fold_61 (by decide) (fun c3 => ?_) (fun c3 => absurd c3 (by decide))
  refine lv_iconst (v := 0) hx hb d_Mo_fold_68 (by decide) ?_
  refine lv_istore hx hb d_Mo_fold_69 hl (by decide) rfl (fun ls hl => ?_)
  have hl : lv_has ls 6 [(5, .int 0), (4, .int (nI p2)), (3, .int (nI p1)), (2, .int (nI p0)), (0, .ref a), (1, .int (nI cp))] := hl
  refine lv_aload_n hx hb d_Mo_fold_71 rfl (lv_at hl 4 rfl) ?_
  refine mo_getA C V X 35 (by decide) (by decide) f_Mo_88 rfl d_Mo_fold_72 ?_
  refine lv_iload_n hx hb d_Mo_fold_75 rfl (lv_at hl 5 rfl) ?_
  refine lv_iconst (v := 1) hx hb d_Mo_fold_76 (by decide) ?_
  refine mo_ist (k := 35) (i := cp) (n := 60) C V X (by decide) (by decide) rfl (by omega) (by decide) d_Mo_fold_77 (fun f1 H locs V1 X1 => ?_)
  clear V X
  have V := V1
  have X := X1
  clear V1 X1
  refine lv_iload hx hb d_Mo_fold_78 (lv_at hl 0 rfl) ?_
  refine lv_if_eq (tgt := 103) hx hb d_Mo_fold_80 (by decide) (fun c4 => ?_) (fun c4 => absurd (by decide) c4)
  refine lv_aload_n hx hb d_Mo_fold_103 rfl (lv_at hl 4 rfl) ?_
  refine lv_iload_n hx hb d_Mo_fold_104 rfl (lv_at hl 2 rfl) ?_
  refine gh_callV C V hl.1 m_Mo_ask l_Mo_283 (c_Mo_ask l E _ _ a ad _ _ _ (nI p1) (w + 1) X.1 h45 (by omega)) rfl X.1.1 gc_Mo ⟨by first | decide | omega | (dsimp only; omega), by first | decide | omega | (dsimp only; omega)⟩ ⟨by first | decide | omega | (dsimp only; omega), by first | decide | omega | (dsimp only; omega)⟩ (Nat.le_of_ble_eq_true rfl) rfl d_Mo_fold_105 (fun r z9 H locs hp V1 => ?_)
  obtain ⟨rfl, X2⟩ := hp
  have X := X.then X2
  have V := V1
  refine W.eq (g2 := F0 m 108 ls []) rfl ?_
  refine lv_goto (tgt := 300) hx hb d_Mo_fold_108 (by decide) ?_
  refine gh_retv hAe C V hr hlocks d_Mo_fold_300 (by first | decide | omega | (dsimp only; omega)) (by first | decide | omega | (dsimp only; omega)) ?_
  exact ⟨rfl, _, _, X, (mct.rf.cell 35 1 (by decide) (by decide)).ask, oc_a1 rfl rfl⟩
set_option maxHeartbeats 4000000 in
set_option maxRecDepth 100000 in
theorem c_Mo_fold_11 (l : Launch) (E : gh_E) (sz : Nat) (f : gh_F) (a : Nat) (ad : Nat → Nat) (S : Nat → Int32) (I : Nat → Nat → Int32) (J : Nat → Nat → Int64) (w cp φ : Nat) (p0 : Nat) (p1 : Nat) (p2 : Nat) (u : Nat) (hX : mo_R E f a ad S I J) (h45 : S 45 = nI (w + 1)) (hw : w < 14) (hc60 : cp < 60) (h48 : S 48 = nI φ) (hφ : φ < 1000) (h49 : ¬ 0 ≤ S 49) (hp0c : I 34 (3 * cp) = nI p0) (hq0 : cp < p0 ∧ p0 < 60) (hp1c : I 34 (3 * cp + 1) = nI p1) (hq1 : cp < p1 ∧ p1 < 60) (hp2c : I 34 (3 * cp + 2) = nI p2) (hq2 : cp < p2 ∧ p2 < 60) (hS46 : S 46 = 1) (hph : I 35 cp = 1) (hS47 : S 47 = nI u) : gh_M l y_Mo_fold b_Mo_fold 6 none E sz [.ref a, .int (nI cp)] f { frames := 7, cells := 0, slots := 0, locals := 200 } (fun r g => r = none ∧ ∃ S2 I2, mo_X E f g a ad S2 I2 J ∧ mct cp w (fun j => j = p0) (va_up (va_up (fun k => I k cp) 38 (nI u)) 35 2) S I S2 I2 ∧ oc_e w p0 (I 36 cp) (I 37 cp) φ S S2 I2) := by
  refine gh_open (by decide) (Nat.le_of_ble_eq_true rfl) ?_
  intro p e s m args below meth c A ls hAe C V hr hlocks hname hl
  have hx := C.1
  have hb := C.2.1
  have hl : lv_has ls 6 [(0, .ref a), (1, .int (nI cp))] := hl
  have X : mo_X E f f a ad S I J := ⟨hX, gh_fr.rf⟩
  refine lv_aload_n hx hb d_Mo_fold_0 rfl (lv_at hl 0 rfl) ?_
  refine mo_getA C V X 34 (by decide) (by decide) f_Mo_85 rfl d_Mo_fold_1 ?_
  refine lv_iconst (v := 3) hx hb d_Mo_fold_4 (by decide) ?_
  refine lv_iload_n hx hb d_Mo_fold_5 rfl (lv_at hl 1 rfl) ?_
  refine gn_imul (a := 3) (b := cp) hx hb d_Mo_fold_6 ?_
  refine mo_ild (k := 34) (i := 3 * cp) (n := 180) C V X (by decide) (by decide) rfl (by omega) (by decide) d_Mo_fold_7 ?_
  rw [show I 34 (3 * cp) = nI p0 from hp0c]
  refine lv_istore_n hx hb d_Mo_fold_8 rfl hl (by decide) rfl (fun ls hl => ?_)
  have hl : lv_has ls 6 [(2, .int (nI p0)), (0, .ref a), (1, .int (nI cp))] := hl
  refine lv_aload_n hx hb d_Mo_fold_9 rfl (lv_at hl 1 rfl) ?_
  refine mo_getA C V X 34 (by decide) (by decide) f_Mo_85 rfl d_Mo_fold_10 ?_
  refine lv_iconst (v := 3) hx hb d_Mo_fold_13 (by decide) ?_
  refine lv_iload_n hx hb d_Mo_fold_14 rfl (lv_at hl 2 rfl) ?_
  refine gn_imul (a := 3) (b := cp) hx hb d_Mo_fold_15 ?_
  refine lv_iconst (v := 1) hx hb d_Mo_fold_16 (by decide) ?_
  refine gn_iadd (a := 3 * cp) (b := 1) hx hb d_Mo_fold_17 ?_
  refine mo_ild (k := 34) (i := (3 * cp) + 1) (n := 180) C V X (by decide) (by decide) rfl (by omega) (by decide) d_Mo_fold_18 ?_
  rw [show I 34 ((3 * cp) + 1) = nI p1 from hp1c]
  refine lv_istore_n hx hb d_Mo_fold_19 rfl hl (by decide) rfl (fun ls hl => ?_)
  have hl : lv_has ls 6 [(3, .int (nI p1)), (2, .int (nI p0)), (0, .ref a), (1, .int (nI cp))] := hl
  refine lv_aload_n hx hb d_Mo_fold_20 rfl (lv_at hl 2 rfl) ?_
  refine mo_getA C V X 34 (by decide) (by decide) f_Mo_85 rfl d_Mo_fold_21 ?_
  refine lv_iconst (v := 3) hx hb d_Mo_fold_24 (by decide) ?_
  refine lv_iload_n hx hb d_Mo_fold_25 rfl (lv_at hl 3 rfl) ?_
  refine gn_imul (a := 3) (b := cp) hx hb d_Mo_fold_26 ?_
  refine lv_iconst (v := 2) hx hb d_Mo_fold_27 (by decide) ?_
  refine gn_iadd (a := 3 * cp) (b := 2) hx hb d_Mo_fold_28 ?_
  refine mo_ild (k := 34) (i := (3 * cp) + 2) (n := 180) C V X (by decide) (by decide) rfl (by omega) (by decide) d_Mo_fold_29 ?_
  rw [show I 34 ((3 * cp) + 2) = nI p2 from hp2c]
  refine lv_istore hx hb d_Mo_fold_30 hl (by decide) rfl (fun ls hl => ?_)
  have hl : lv_has ls 6 [(4, .int (nI p2)), (3, .int (nI p1)), (2, .int (nI p0)), (0, .ref a), (1, .int (nI cp))] := hl
  refine lv_aload_n hx hb d_Mo_fold_32 rfl (lv_at hl 3 rfl) ?_
  refine mo_getS (v := 1) C V X 46 (by decide) (by decide) (by first | rfl | exact hS46) f_Mo_277 rfl d_Mo_fold_33 ?_
  refine lv_iconst (v := 3) hx hb d_Mo_fold_36 (by decide) ?_
  refine lv_icmp_ne (tgt := 48) hx hb d_Mo_fold_37 (by decide) (fun c1 => ?_) (fun c1 => absurd c1 (by decide))
  refine lv_aload_n hx hb d_Mo_fold_48 rfl (lv_at hl 3 rfl) ?_
  refine mo_getS (v := 1) C V X 46 (by decide) (by decide) (by first | rfl | exact hS46) f_Mo_277 rfl d_Mo_fold_49 ?_
  refine lv_if_ne (tgt := 111) hx hb d_Mo_fold_52 (by decide) (fun c2 => ?_) (fun c2 => absurd c2 (by decide))
  refine lv_aload_n hx hb d_Mo_fold_111 rfl (lv_at hl 3 rfl) ?_
  refine mo_getS (v := 1) C V X 46 (by decide) (by decide) (by first | rfl | exact hS46) f_Mo_277 rfl d_Mo_fold_112 ?_
  refine lv_iconst (v := 1) hx hb d_Mo_fold_115 (by decide) ?_
  refine lv_icmp_ne (tgt := 228) hx hb d_Mo_fold_116 (by decide) (fun c3 => absurd (by decide) c3) (fun c3 => ?_)
  refine lv_aload_n hx hb d_Mo_fold_119 rfl (lv_at hl 3 rfl) ?_
  refine mo_getA C V X 35 (by decide) (by decide) f_Mo_88 rfl d_Mo_fold_120 ?_
  refine lv_iload_n hx hb d_Mo_fold_123 rfl (lv_at hl 4 rfl) ?_
  refine mo_ild (k := 35) (i := cp) (n := 60) C V X (by decide) (by decide) rfl (by omega) (by decide) d_Mo_fold_124 ?_
  rw [show I 35 cp = 1 from hph]
  refine lv_iconst (v := 1) hx hb d_Mo_fold_125 (by decide) ?_
  refine lv_icmp_ne (tgt := 166) hx hb d_Mo_fold_126 (by decide) (fun c4 => absurd (by decide) c4) (fun c4 => ?_)
  refine lv_aload_n hx hb d_Mo_fold_129 rfl (lv_at hl 3 rfl) ?_
  refine mo_getA C V X 38 (by decide) (by decide) f_Mo_97 rfl d_Mo_fold_130 ?_
  refine lv_iload_n hx hb d_Mo_fold_133 rfl (lv_at hl 4 rfl) ?_
  refine lv_aload_n hx hb d_Mo_fold_134 rfl (lv_at hl 3 rfl) ?_
  refine mo_getS (v := nI u) C V X 47 (by decide) (by decide) (by first | rfl | exact hS47) f_Mo_286 rfl d_Mo_fold_135 ?_
  refine mo_ist (k := 38) (i := cp) (n := 60) C V X (by decide) (by decide) rfl (by omega) (by decide) d_Mo_fold_138 (fun f1 H locs V1 X1 => ?_)
  clear V X
  have V := V1
  have X := X1
  clear V1 X1
  refine lv_aload_n hx hb d_Mo_fold_139 rfl (lv_at hl 3 rfl) ?_
  refine mo_getA C V X 35 (by decide) (by decide) f_Mo_88 rfl d_Mo_fold_140 ?_
  refine lv_iload_n hx hb d_Mo_fold_143 rfl (lv_at hl 4 rfl) ?_
  refine lv_iconst (v := 2) hx hb d_Mo_fold_144 (by decide) ?_
  refine mo_ist (k := 35) (i := cp) (n := 60) C V X (by decide) (by decide) rfl (by omega) (by decide) d_Mo_fold_145 (fun f1 H locs V1 X1 => ?_)
  clear V X
  have V := V1
  have X := X1
  clear V1 X1
  refine lv_aload_n hx hb d_Mo_fold_146 rfl (lv_at hl 3 rfl) ?_
  refine lv_iload_n hx hb d_Mo_fold_147 rfl (lv_at hl 2 rfl) ?_
  refine lv_aload_n hx hb d_Mo_fold_148 rfl (lv_at hl 3 rfl) ?_
  refine mo_getA C V X 36 (by decide) (by decide) f_Mo_91 rfl d_Mo_fold_149 ?_
  refine lv_iload_n hx hb d_Mo_fold_152 rfl (lv_at hl 4 rfl) ?_
  refine mo_ild (k := 36) (i := cp) (n := 60) C V X (by decide) (by decide) rfl (by omega) (by decide) d_Mo_fold_153 ?_
  rw [show (va_up (va_up I 38 (upd (I 38) cp (nI u))) 35 (upd ((va_up I 38 (upd (I 38) cp (nI u))) 35) cp 2)) 36 cp = I 36 cp from ((congrFun (va_up_n (by decide)) cp).trans (((congrFun (va_up_n (by decide)) cp).trans (rfl))))]
  refine lv_aload_n hx hb d_Mo_fold_154 rfl (lv_at hl 3 rfl) ?_
  refine mo_getA C V X 37 (by decide) (by decide) f_Mo_94 rfl d_Mo_fold_155 ?_
  refine lv_iload_n hx hb d_Mo_fold_158 rfl (lv_at hl 4 rfl) ?_
  refine mo_ild (k := 37) (i := cp) (n := 60) C V X (by decide) (by decide) rfl (by omega) (by decide) d_Mo_fold_159 ?_
  rw [show (va_up (va_up I 38 (upd (I 38) cp (nI u))) 35 (upd ((va_up I 38 (upd (I 38) cp (nI u))) 35) cp 2)) 37 cp = I 37 cp from ((congrFun (va_up_n (by decide)) cp).trans (((congrFun (va_up_n (by decide)) cp).trans (rfl))))]
  refine gh_callV C V hl.1 m_Mo_enter l_Mo_299 (c_Mo_enter l E _ _ a ad _ _ _ p0 (I 36 cp) (I 37 cp) φ (w + 1) X.1 (by omega) h48 hφ h49 h45 (by omega)) rfl X.1.1 gc_Mo ⟨by first | decide | omega | (dsimp only; omega), by first | decide | omega | (dsimp only; omega)⟩ ⟨by first | decide | omega | (dsimp only; omega), by first | decide | omega | (dsimp only; omega)⟩ (Nat.le_of_ble_eq_true rfl) rfl d_Mo_fold_160 (fun r z9 H locs hp V1 => ?_)
  obtain ⟨rfl, hp0, hp1⟩ := hp
  have V := V1
  by_cases hz : φ = 0
  · have X := X.then (hp0 hz)
    refine W.eq (g2 := F0 m 163 ls []) rfl ?_
    refine lv_goto (tgt := 300) hx hb d_Mo_fold_163 (by decide) ?_
    refine gh_retv hAe C V hr hlocks d_Mo_fold_300 (by first | decide | omega | (dsimp only; omega)) (by first | decide | omega | (dsimp only; omega)) ?_
    exact ⟨rfl, _, _, X, (((mct.rf.cell 38 (nI u) (by decide) (by decide)).cell 35 2 (by decide) (by decide)).s (k := 49) (by omega)).mono (fun _ z => z.elim), oc_e0 hz rfl⟩
  · have X := X.then (hp1 (by omega))
    refine W.eq (g2 := F0 m 163 ls []) rfl ?_
    refine lv_goto (tgt := 300) hx hb d_Mo_fold_163 (by decide) ?_
    refine gh_retv hAe C V hr hlocks d_Mo_fold_300 (by first | decide | omega | (dsimp only; omega)) (by first | decide | omega | (dsimp only; omega)) ?_
    exact ⟨rfl, _, _, X, ((mct.rf.cell 38 (nI u) (by decide) (by decide)).cell 35 2 (by decide) (by decide)).enter (by omega), oc_e1 (by omega) rfl⟩
set_option maxHeartbeats 4000000 in
set_option maxRecDepth 100000 in
theorem c_Mo_fold_12 (l : Launch) (E : gh_E) (sz : Nat) (f : gh_F) (a : Nat) (ad : Nat → Nat) (S : Nat → Int32) (I : Nat → Nat → Int32) (J : Nat → Nat → Int64) (w cp φ : Nat) (p0 : Nat) (p1 : Nat) (p2 : Nat) (u : Nat) (hX : mo_R E f a ad S I J) (h45 : S 45 = nI (w + 1)) (hw : w < 14) (hc60 : cp < 60) (h48 : S 48 = nI φ) (hφ : φ < 1000) (h49 : ¬ 0 ≤ S 49) (hp0c : I 34 (3 * cp) = nI p0) (hq0 : cp < p0 ∧ p0 < 60) (hp1c : I 34 (3 * cp + 1) = nI p1) (hq1 : cp < p1 ∧ p1 < 60) (hp2c : I 34 (3 * cp + 2) = nI p2) (hq2 : cp < p2 ∧ p2 < 60) (hS46 : S 46 = 1) (hph : I 35 cp = 2) (hS47 : S 47 = nI u) : gh_M l y_Mo_fold b_Mo_fold 6 none E sz [.ref a, .int (nI cp)] f { frames := 7, cells := 0, slots := 0, locals := 200 } (fun r g => r = none ∧ ∃ S2 I2, mo_X E f g a ad S2 I2 J ∧ mct cp w (fun j => j = p2) (va_up (va_up (fun k => I k cp) 39 0) 35 3) S I S2 I2 ∧ oc_e w p2 (I 38 cp) (nI u) φ S S2 I2) := by
  refine gh_open (by decide) (Nat.le_of_ble_eq_true rfl) ?_
  intro p e s m args below meth c A ls hAe C V hr hlocks hname hl
  have hx := C.1
  have hb := C.2.1
  have hl : lv_has ls 6 [(0, .ref a), (1, .int (nI cp))] := hl
  have X : mo_X E f f a ad S I J := ⟨hX, gh_fr.rf⟩
  refine lv_aload_n hx hb d_Mo_fold_0 rfl (lv_at hl 0 rfl) ?_
  refine mo_getA C V X 34 (by decide) (by decide) f_Mo_85 rfl d_Mo_fold_1 ?_
  refine lv_iconst (v := 3) hx hb d_Mo_fold_4 (by decide) ?_
  refine lv_iload_n hx hb d_Mo_fold_5 rfl (lv_at hl 1 rfl) ?_
  refine gn_imul (a := 3) (b := cp) hx hb d_Mo_fold_6 ?_
  refine mo_ild (k := 34) (i := 3 * cp) (n := 180) C V X (by decide) (by decide) rfl (by omega) (by decide) d_Mo_fold_7 ?_
  rw [show I 34 (3 * cp) = nI p0 from hp0c]
  refine lv_istore_n hx hb d_Mo_fold_8 rfl hl (by decide) rfl (fun ls hl => ?_)
  have hl : lv_has ls 6 [(2, .int (nI p0)), (0, .ref a), (1, .int (nI cp))] := hl
  refine lv_aload_n hx hb d_Mo_fold_9 rfl (lv_at hl 1 rfl) ?_
  refine mo_getA C V X 34 (by decide) (by decide) f_Mo_85 rfl d_Mo_fold_10 ?_
  refine lv_iconst (v := 3) hx hb d_Mo_fold_13 (by decide) ?_
  refine lv_iload_n hx hb d_Mo_fold_14 rfl (lv_at hl 2 rfl) ?_
  refine gn_imul (a := 3) (b := cp) hx hb d_Mo_fold_15 ?_
  refine lv_iconst (v := 1) hx hb d_Mo_fold_16 (by decide) ?_
  refine gn_iadd (a := 3 * cp) (b := 1) hx hb d_Mo_fold_17 ?_
  refine mo_ild (k := 34) (i := (3 * cp) + 1) (n := 180) C V X (by decide) (by decide) rfl (by omega) (by decide) d_Mo_fold_18 ?_
  rw [show I 34 ((3 * cp) + 1) = nI p1 from hp1c]
  refine lv_istore_n hx hb d_Mo_fold_19 rfl hl (by decide) rfl (fun ls hl => ?_)
  have hl : lv_has ls 6 [(3, .int (nI p1)), (2, .int (nI p0)), (0, .ref a), (1, .int (nI cp))] := hl
  refine lv_aload_n hx hb d_Mo_fold_20 rfl (lv_at hl 2 rfl) ?_
  refine mo_getA C V X 34 (by decide) (by decide) f_Mo_85 rfl d_Mo_fold_21 ?_
  refine lv_iconst (v := 3) hx hb d_Mo_fold_24 (by decide) ?_
  refine lv_iload_n hx hb d_Mo_fold_25 rfl (lv_at hl 3 rfl) ?_
  refine gn_imul (a := 3) (b := cp) hx hb d_Mo_fold_26 ?_
  refine lv_iconst (v := 2) hx hb d_Mo_fold_27 (by decide) ?_
  refine gn_iadd (a := 3 * cp) (b := 2) hx hb d_Mo_fold_28 ?_
  refine mo_ild (k := 34) (i := (3 * cp) + 2) (n := 180) C V X (by decide) (by decide) rfl (by omega) (by decide) d_Mo_fold_29 ?_
  rw [show I 34 ((3 * cp) + 2) = nI p2 from hp2c]
  refine lv_istore hx hb d_Mo_fold_30 hl (by decide) rfl (fun ls hl => ?_)
  have hl : lv_has ls 6 [(4, .int (nI p2)), (3, .int (nI p1)), (2, .int (nI p0)), (0, .ref a), (1, .int (nI cp))] := hl
  refine lv_aload_n hx hb d_Mo_fold_32 rfl (lv_at hl 3 rfl) ?_
  refine mo_getS (v := 1) C V X 46 (by decide) (by decide) (by first | rfl | exact hS46) f_Mo_277 rfl d_Mo_fold_33 ?_
  refine lv_iconst (v := 3) hx hb d_Mo_fold_36 (by decide) ?_
  refine lv_icmp_ne (tgt := 48) hx hb d_Mo_fold_37 (by decide) (fun c1 => ?_) (fun c1 => absurd c1 (by decide))
  refine lv_aload_n hx hb d_Mo_fold_48 rfl (lv_at hl 3 rfl) ?_
  refine mo_getS (v := 1) C V X 46 (by decide) (by decide) (by first | rfl | exact hS46) f_Mo_277 rfl d_Mo_fold_49 ?_
  refine lv_if_ne (tgt := 111) hx hb d_Mo_fold_52 (by decide) (fun c2 => ?_) (fun c2 => absurd c2 (by decide))
  refine lv_aload_n hx hb d_Mo_fold_111 rfl (lv_at hl 3 rfl) ?_
  refine mo_getS (v := 1) C V X 46 (by decide) (by decide) (by first | rfl | exact hS46) f_Mo_277 rfl d_Mo_fold_112 ?_
  refine lv_iconst (v := 1) hx hb d_Mo_fold_115 (by decide) ?_
  refine lv_icmp_ne (tgt := 228) hx hb d_Mo_fold_116 (by decide) (fun c3 => absurd (by decide) c3) (fun c3 => ?_)
  refine lv_aload_n hx hb d_Mo_fold_119 rfl (lv_at hl 3 rfl) ?_
  refine mo_getA C V X 35 (by decide) (by decide) f_Mo_88 rfl d_Mo_fold_120 ?_
  refine lv_iload_n hx hb d_Mo_fold_123 rfl (lv_at hl 4 rfl) ?_
  refine mo_ild (k := 35) (i := cp) (n := 60) C V X (by decide) (by decide) rfl (by omega) (by decide) d_Mo_fold_124 ?_
  rw [show I 35 cp = 2 from hph]
  refine lv_iconst (v := 1) hx hb d_Mo_fold_125 (by decide) ?_
  refine lv_icmp_ne (tgt := 166) hx hb d_Mo_fold_126 (by decide) (fun c4 => ?_) (fun c4 => absurd c4 (by decide))
  refine lv_aload_n hx hb d_Mo_fold_166 rfl (lv_at hl 3 rfl) ?_
  refine mo_getA C V X 35 (by decide) (by decide) f_Mo_88 rfl d_Mo_fold_167 ?_
  refine lv_iload_n hx hb d_Mo_fold_170 rfl (lv_at hl 4 rfl) ?_
  refine mo_ild (k := 35) (i := cp) (n := 60) C V X (by decide) (by decide) rfl (by omega) (by decide) d_Mo_fold_171 ?_
  rw [show I 35 cp = 2 from hph]
  refine lv_iconst (v := 2) hx hb d_Mo_fold_172 (by decide) ?_
  refine lv_icmp_ne (tgt := 209) hx hb d_Mo_fold_173 (by decide) (fun c5 => absurd (by decide) c5) (fun c5 => ?_)
  refine lv_aload_n hx hb d_Mo_fold_176 rfl (lv_at hl 3 rfl) ?_
  refine mo_getA C V X 39 (by decide) (by decide) f_Mo_100 rfl d_Mo_fold_177 ?_
  refine lv_iload_n hx hb d_Mo_fold_180 rfl (lv_at hl 4 rfl) ?_
  refine lv_iconst (v := 0) hx hb d_Mo_fold_181 (by decide) ?_
  refine mo_ist (k := 39) (i := cp) (n := 60) C V X (by decide) (by decide) rfl (by omega) (by decide) d_Mo_fold_182 (fun f1 H locs V1 X1 => ?_)
  clear V X
  have V := V1
  have X := X1
  clear V1 X1
  refine lv_aload_n hx hb d_Mo_fold_183 rfl (lv_at hl 3 rfl) ?_
  refine mo_getA C V X 35 (by decide) (by decide) f_Mo_88 rfl d_Mo_fold_184 ?_
  refine lv_iload_n hx hb d_Mo_fold_187 rfl (lv_at hl 4 rfl) ?_
  refine lv_iconst (v := 3) hx hb d_Mo_fold_188 (by decide) ?_
  refine mo_ist (k := 35) (i := cp) (n := 60) C V X (by decide) (by decide) rfl (by omega) (by decide) d_Mo_fold_189 (fun f1 H locs V1 X1 => ?_)
  clear V X
  have V := V1
  have X := X1
  clear V1 X1
  refine lv_aload_n hx hb d_Mo_fold_190 rfl (lv_at hl 3 rfl) ?_
  refine lv_iload hx hb d_Mo_fold_191 (lv_at hl 0 rfl) ?_
  refine lv_aload_n hx hb d_Mo_fold_193 rfl (lv_at hl 3 rfl) ?_
  refine mo_getA C V X 38 (by decide) (by decide) f_Mo_97 rfl d_Mo_fold_194 ?_
  refine lv_iload_n hx hb d_Mo_fold_197 rfl (lv_at hl 4 rfl) ?_
  refine mo_ild (k := 38) (i := cp) (n := 60) C V X (by decide) (by decide) rfl (by omega) (by decide) d_Mo_fold_198 ?_
  rw [show (va_up (va_up I 39 (upd (I 39) cp 0)) 35 (upd ((va_up I 39 (upd (I 39) cp 0)) 35) cp 3)) 38 cp = I 38 cp from ((congrFun (va_up_n (by decide)) cp).trans (((congrFun (va_up_n (by decide)) cp).trans (rfl))))]
  refine lv_aload_n hx hb d_Mo_fold_199 rfl (lv_at hl 3 rfl) ?_
  refine mo_getS (v := nI u) C V X 47 (by decide) (by decide) (by first | rfl | exact hS47) f_Mo_286 rfl d_Mo_fold_200 ?_
  refine gh_callV C V hl.1 m_Mo_enter l_Mo_299 (c_Mo_enter l E _ _ a ad _ _ _ p2 (I 38 cp) (nI u) φ (w + 1) X.1 (by omega) h48 hφ h49 h45 (by omega)) rfl X.1.1 gc_Mo ⟨by first | decide | omega | (dsimp only; omega), by first | decide | omega | (dsimp only; omega)⟩ ⟨by first | decide | omega | (dsimp only; omega), by first | decide | omega | (dsimp only; omega)⟩ (Nat.le_of_ble_eq_true rfl) rfl d_Mo_fold_203 (fun r z9 H locs hp V1 => ?_)
  obtain ⟨rfl, hp0, hp1⟩ := hp
  have V := V1
  by_cases hz : φ = 0
  · have X := X.then (hp0 hz)
    refine W.eq (g2 := F0 m 206 ls []) rfl ?_
    refine lv_goto (tgt := 300) hx hb d_Mo_fold_206 (by decide) ?_
    refine gh_retv hAe C V hr hlocks d_Mo_fold_300 (by first | decide | omega | (dsimp only; omega)) (by first | decide | omega | (dsimp only; omega)) ?_
    exact ⟨rfl, _, _, X, (((mct.rf.cell 39 0 (by decide) (by decide)).cell 35 3 (by decide) (by decide)).s (k := 49) (by omega)).mono (fun _ z => z.elim), oc_e0 hz rfl⟩
  · have X := X.then (hp1 (by omega))
    refine W.eq (g2 := F0 m 206 ls []) rfl ?_
    refine lv_goto (tgt := 300) hx hb d_Mo_fold_206 (by decide) ?_
    refine gh_retv hAe C V hr hlocks d_Mo_fold_300 (by first | decide | omega | (dsimp only; omega)) (by first | decide | omega | (dsimp only; omega)) ?_
    exact ⟨rfl, _, _, X, ((mct.rf.cell 39 0 (by decide) (by decide)).cell 35 3 (by decide) (by decide)).enter (by omega), oc_e1 (by omega) rfl⟩
set_option maxHeartbeats 4000000 in
set_option maxRecDepth 100000 in
theorem c_Mo_fold_13 (l : Launch) (E : gh_E) (sz : Nat) (f : gh_F) (a : Nat) (ad : Nat → Nat) (S : Nat → Int32) (I : Nat → Nat → Int32) (J : Nat → Nat → Int64) (w cp φ : Nat) (p0 : Nat) (p1 : Nat) (p2 : Nat) (u : Nat) (hX : mo_R E f a ad S I J) (h45 : S 45 = nI (w + 1)) (hw : w < 14) (hc60 : cp < 60) (hp0c : I 34 (3 * cp) = nI p0) (hq0 : cp < p0 ∧ p0 < 60) (hp1c : I 34 (3 * cp + 1) = nI p1) (hq1 : cp < p1 ∧ p1 < 60) (hp2c : I 34 (3 * cp + 2) = nI p2) (hq2 : cp < p2 ∧ p2 < 60) (hS46 : S 46 = 1) (hph : I 35 cp = 3) (hS47 : S 47 = nI u) : gh_M l y_Mo_fold b_Mo_fold 6 none E sz [.ref a, .int (nI cp)] f { frames := 7, cells := 0, slots := 0, locals := 200 } (fun r g => r = none ∧ ∃ S2 I2, mo_X E f g a ad S2 I2 J ∧ mct cp w (fun _ => False) (va_up (fun k => I k cp) 39 (nI u)) S I S2 I2 ∧ oc_a w p2 S S2 I2) := by
  refine gh_open (by decide) (Nat.le_of_ble_eq_true rfl) ?_
  intro p e s m args below meth c A ls hAe C V hr hlocks hname hl
  have hx := C.1
  have hb := C.2.1
  have hl : lv_has ls 6 [(0, .ref a), (1, .int (nI cp))] := hl
  have X : mo_X E f f a ad S I J := ⟨hX, gh_fr.rf⟩
  refine lv_aload_n hx hb d_Mo_fold_0 rfl (lv_at hl 0 rfl) ?_
  refine mo_getA C V X 34 (by decide) (by decide) f_Mo_85 rfl d_Mo_fold_1 ?_
  refine lv_iconst (v := 3) hx hb d_Mo_fold_4 (by decide) ?_
  refine lv_iload_n hx hb d_Mo_fold_5 rfl (lv_at hl 1 rfl) ?_
  refine gn_imul (a := 3) (b := cp) hx hb d_Mo_fold_6 ?_
  refine mo_ild (k := 34) (i := 3 * cp) (n := 180) C V X (by decide) (by decide) rfl (by omega) (by decide) d_Mo_fold_7 ?_
  rw [show I 34 (3 * cp) = nI p0 from hp0c]
  refine lv_istore_n hx hb d_Mo_fold_8 rfl hl (by decide) rfl (fun ls hl => ?_)
  have hl : lv_has ls 6 [(2, .int (nI p0)), (0, .ref a), (1, .int (nI cp))] := hl
  refine lv_aload_n hx hb d_Mo_fold_9 rfl (lv_at hl 1 rfl) ?_
  refine mo_getA C V X 34 (by decide) (by decide) f_Mo_85 rfl d_Mo_fold_10 ?_
  refine lv_iconst (v := 3) hx hb d_Mo_fold_13 (by decide) ?_
  refine lv_iload_n hx hb d_Mo_fold_14 rfl (lv_at hl 2 rfl) ?_
  refine gn_imul (a := 3) (b := cp) hx hb d_Mo_fold_15 ?_
  refine lv_iconst (v := 1) hx hb d_Mo_fold_16 (by decide) ?_
  refine gn_iadd (a := 3 * cp) (b := 1) hx hb d_Mo_fold_17 ?_
  refine mo_ild (k := 34) (i := (3 * cp) + 1) (n := 180) C V X (by decide) (by decide) rfl (by omega) (by decide) d_Mo_fold_18 ?_
  rw [show I 34 ((3 * cp) + 1) = nI p1 from hp1c]
  refine lv_istore_n hx hb d_Mo_fold_19 rfl hl (by decide) rfl (fun ls hl => ?_)
  have hl : lv_has ls 6 [(3, .int (nI p1)), (2, .int (nI p0)), (0, .ref a), (1, .int (nI cp))] := hl
  refine lv_aload_n hx hb d_Mo_fold_20 rfl (lv_at hl 2 rfl) ?_
  refine mo_getA C V X 34 (by decide) (by decide) f_Mo_85 rfl d_Mo_fold_21 ?_
  refine lv_iconst (v := 3) hx hb d_Mo_fold_24 (by decide) ?_
  refine lv_iload_n hx hb d_Mo_fold_25 rfl (lv_at hl 3 rfl) ?_
  refine gn_imul (a := 3) (b := cp) hx hb d_Mo_fold_26 ?_
  refine lv_iconst (v := 2) hx hb d_Mo_fold_27 (by decide) ?_
  refine gn_iadd (a := 3 * cp) (b := 2) hx hb d_Mo_fold_28 ?_
  refine mo_ild (k := 34) (i := (3 * cp) + 2) (n := 180) C V X (by decide) (by decide) rfl (by omega) (by decide) d_Mo_fold_29 ?_
  rw [show I 34 ((3 * cp) + 2) = nI p2 from hp2c]
  refine lv_istore hx hb d_Mo_fold_30 hl (by decide) rfl (fun ls hl => ?_)
  have hl : lv_has ls 6 [(4, .int (nI p2)), (3, .int (nI p1)), (2, .int (nI p0)), (0, .ref a), (1, .int (nI cp))] := hl
  refine lv_aload_n hx hb d_Mo_fold_32 rfl (lv_at hl 3 rfl) ?_
  refine mo_getS (v := 1) C V X 46 (by decide) (by decide) (by first | rfl | exact hS46) f_Mo_277 rfl d_Mo_fold_33 ?_
  refine lv_iconst (v := 3) hx hb d_Mo_fold_36 (by decide) ?_
  refine lv_icmp_ne (tgt := 48) hx hb d_Mo_fold_37 (by decide) (fun c1 => ?_) (fun c1 => absurd c1 (by decide))
  refine lv_aload_n hx hb d_Mo_fold_48 rfl (lv_at hl 3 rfl) ?_
  refine mo_getS (v := 1) C V X 46 (by decide) (by decide) (by first | rfl | exact hS46) f_Mo_277 rfl d_Mo_fold_49 ?_
  refine lv_if_ne (tgt := 111) hx hb d_Mo_fold_52 (by decide) (fun c2 => ?_) (fun c2 => absurd c2 (by decide))
  refine lv_aload_n hx hb d_Mo_fold_111 rfl (lv_at hl 3 rfl) ?_
  refine mo_getS (v := 1) C V X 46 (by decide) (by decide) (by first | rfl | exact hS46) f_Mo_277 rfl d_Mo_fold_112 ?_
  refine lv_iconst (v := 1) hx hb d_Mo_fold_115 (by decide) ?_
  refine lv_icmp_ne (tgt := 228) hx hb d_Mo_fold_116 (by decide) (fun c3 => absurd (by decide) c3) (fun c3 => ?_)
  refine lv_aload_n hx hb d_Mo_fold_119 rfl (lv_at hl 3 rfl) ?_
  refine mo_getA C V X 35 (by decide) (by decide) f_Mo_88 rfl d_Mo_fold_120 ?_
  refine lv_iload_n hx hb d_Mo_fold_123 rfl (lv_at hl 4 rfl) ?_
  refine mo_ild (k := 35) (i := cp) (n := 60) C V X (by decide) (by decide) rfl (by omega) (by decide) d_Mo_fold_124 ?_
  rw [show I 35 cp = 3 from hph]
  refine lv_iconst (v := 1) hx hb d_Mo_fold_125 (by decide) ?_
  refine lv_icmp_ne (tgt := 166) hx hb d_Mo_fold_126 (by decide) (fun c4 => ?_) (fun c4 => absurd c4 (by decide))
  refine lv_aload_n hx hb d_Mo_fold_166 rfl (lv_at hl 3 rfl) ?_
  refine mo_getA C V X 35 (by decide) (by decide) f_Mo_88 rfl d_Mo_fold_167 ?_
  refine lv_iload_n hx hb d_Mo_fold_170 rfl (lv_at hl 4 rfl) ?_
  refine mo_ild (k := 35) (i := cp) (n := 60) C V X (by decide) (by decide) rfl (by omega) (by decide) d_Mo_fold_171 ?_
  rw [show I 35 cp = 3 from hph]
  refine lv_iconst (v := 2) hx hb d_Mo_fold_172 (by decide) ?_
  refine lv_icmp_ne (tgt := 209) hx hb d_Mo_fold_173 (by decide) (fun c5 => ?_) (fun c5 => absurd c5 (by decide))
  refine lv_aload_n hx hb d_Mo_fold_209 rfl (lv_at hl 3 rfl) ?_
  refine mo_getA C V X 39 (by decide) (by decide) f_Mo_100 rfl d_Mo_fold_210 ?_
  refine lv_iload_n hx hb d_Mo_fold_213 rfl (lv_at hl 4 rfl) ?_
  refine lv_aload_n hx hb d_Mo_fold_214 rfl (lv_at hl 3 rfl) ?_
  refine mo_getS (v := nI u) C V X 47 (by decide) (by decide) (by first | rfl | exact hS47) f_Mo_286 rfl d_Mo_fold_215 ?_
  refine mo_ist (k := 39) (i := cp) (n := 60) C V X (by decide) (by decide) rfl (by omega) (by decide) d_Mo_fold_218 (fun f1 H locs V1 X1 => ?_)
  clear V X
  have V := V1
  have X := X1
  clear V1 X1
  refine lv_aload_n hx hb d_Mo_fold_219 rfl (lv_at hl 3 rfl) ?_
  refine lv_iload hx hb d_Mo_fold_220 (lv_at hl 0 rfl) ?_
  refine gh_callV C V hl.1 m_Mo_ask l_Mo_283 (c_Mo_ask l E _ _ a ad _ _ _ (nI p2) (w + 1) X.1 h45 (by omega)) rfl X.1.1 gc_Mo ⟨by first | decide | omega | (dsimp only; omega), by first | decide | omega | (dsimp only; omega)⟩ ⟨by first | decide | omega | (dsimp only; omega), by first | decide | omega | (dsimp only; omega)⟩ (Nat.le_of_ble_eq_true rfl) rfl d_Mo_fold_222 (fun r z9 H locs hp V1 => ?_)
  obtain ⟨rfl, X2⟩ := hp
  have X := X.then X2
  have V := V1
  refine W.eq (g2 := F0 m 225 ls []) rfl ?_
  refine lv_goto (tgt := 300) hx hb d_Mo_fold_225 (by decide) ?_
  refine gh_retv hAe C V hr hlocks d_Mo_fold_300 (by first | decide | omega | (dsimp only; omega)) (by first | decide | omega | (dsimp only; omega)) ?_
  exact ⟨rfl, _, _, X, (mct.rf.cell 39 (nI u) (by decide) (by decide)).ask, oc_a1 rfl rfl⟩
set_option maxHeartbeats 4000000 in
set_option maxRecDepth 100000 in
theorem c_Mo_fold_21 (l : Launch) (E : gh_E) (sz : Nat) (f : gh_F) (a : Nat) (ad : Nat → Nat) (S : Nat → Int32) (I : Nat → Nat → Int32) (J : Nat → Nat → Int64) (w cp φ : Nat) (p0 : Nat) (p1 : Nat) (p2 : Nat) (hX : mo_R E f a ad S I J) (h45 : S 45 = nI (w + 1)) (hw : w < 14) (hc60 : cp < 60) (hp0c : I 34 (3 * cp) = nI p0) (hq0 : cp < p0 ∧ p0 < 60) (hp1c : I 34 (3 * cp + 1) = nI p1) (hq1 : cp < p1 ∧ p1 < 60) (hp2c : I 34 (3 * cp + 2) = nI p2) (hq2 : cp < p2 ∧ p2 < 60) (hS46 : S 46 = 2) (hph : I 35 cp = 1) : gh_M l y_Mo_fold b_Mo_fold 6 none E sz [.ref a, .int (nI cp)] f { frames := 7, cells := 0, slots := 0, locals := 200 } (fun r g => r = none ∧ ∃ S2 I2, mo_X E f g a ad S2 I2 J ∧ mct cp w (fun _ => False) (fun k => I k cp) S I S2 I2 ∧ oc_t w 2 (S 47) S S2) := by
  refine gh_open (by decide) (Nat.le_of_ble_eq_true rfl) ?_
  intro p e s m args below meth c A ls hAe C V hr hlocks hname hl
  have hx := C.1
  have hb := C.2.1
  have hl : lv_has ls 6 [(0, .ref a), (1, .int (nI cp))] := hl
  have X : mo_X E f f a ad S I J := ⟨hX, gh_fr.rf⟩
  refine lv_aload_n hx hb d_Mo_fold_0 rfl (lv_at hl 0 rfl) ?_
  refine mo_getA C V X 34 (by decide) (by decide) f_Mo_85 rfl d_Mo_fold_1 ?_
  refine lv_iconst (v := 3) hx hb d_Mo_fold_4 (by decide) ?_
  refine lv_iload_n hx hb d_Mo_fold_5 rfl (lv_at hl 1 rfl) ?_
  refine gn_imul (a := 3) (b := cp) hx hb d_Mo_fold_6 ?_
  refine mo_ild (k := 34) (i := 3 * cp) (n := 180) C V X (by decide) (by decide) rfl (by omega) (by decide) d_Mo_fold_7 ?_
  rw [show I 34 (3 * cp) = nI p0 from hp0c]
  refine lv_istore_n hx hb d_Mo_fold_8 rfl hl (by decide) rfl (fun ls hl => ?_)
  have hl : lv_has ls 6 [(2, .int (nI p0)), (0, .ref a), (1, .int (nI cp))] := hl
  refine lv_aload_n hx hb d_Mo_fold_9 rfl (lv_at hl 1 rfl) ?_
  refine mo_getA C V X 34 (by decide) (by decide) f_Mo_85 rfl d_Mo_fold_10 ?_
  refine lv_iconst (v := 3) hx hb d_Mo_fold_13 (by decide) ?_
  refine lv_iload_n hx hb d_Mo_fold_14 rfl (lv_at hl 2 rfl) ?_
  refine gn_imul (a := 3) (b := cp) hx hb d_Mo_fold_15 ?_
  refine lv_iconst (v := 1) hx hb d_Mo_fold_16 (by decide) ?_
  refine gn_iadd (a := 3 * cp) (b := 1) hx hb d_Mo_fold_17 ?_
  refine mo_ild (k := 34) (i := (3 * cp) + 1) (n := 180) C V X (by decide) (by decide) rfl (by omega) (by decide) d_Mo_fold_18 ?_
  rw [show I 34 ((3 * cp) + 1) = nI p1 from hp1c]
  refine lv_istore_n hx hb d_Mo_fold_19 rfl hl (by decide) rfl (fun ls hl => ?_)
  have hl : lv_has ls 6 [(3, .int (nI p1)), (2, .int (nI p0)), (0, .ref a), (1, .int (nI cp))] := hl
  refine lv_aload_n hx hb d_Mo_fold_20 rfl (lv_at hl 2 rfl) ?_
  refine mo_getA C V X 34 (by decide) (by decide) f_Mo_85 rfl d_Mo_fold_21 ?_
  refine lv_iconst (v := 3) hx hb d_Mo_fold_24 (by decide) ?_
  refine lv_iload_n hx hb d_Mo_fold_25 rfl (lv_at hl 3 rfl) ?_
  refine gn_imul (a := 3) (b := cp) hx hb d_Mo_fold_26 ?_
  refine lv_iconst (v := 2) hx hb d_Mo_fold_27 (by decide) ?_
  refine gn_iadd (a := 3 * cp) (b := 2) hx hb d_Mo_fold_28 ?_
  refine mo_ild (k := 34) (i := (3 * cp) + 2) (n := 180) C V X (by decide) (by decide) rfl (by omega) (by decide) d_Mo_fold_29 ?_
  rw [show I 34 ((3 * cp) + 2) = nI p2 from hp2c]
  refine lv_istore hx hb d_Mo_fold_30 hl (by decide) rfl (fun ls hl => ?_)
  have hl : lv_has ls 6 [(4, .int (nI p2)), (3, .int (nI p1)), (2, .int (nI p0)), (0, .ref a), (1, .int (nI cp))] := hl
  refine lv_aload_n hx hb d_Mo_fold_32 rfl (lv_at hl 3 rfl) ?_
  refine mo_getS (v := 2) C V X 46 (by decide) (by decide) (by first | rfl | exact hS46) f_Mo_277 rfl d_Mo_fold_33 ?_
  refine lv_iconst (v := 3) hx hb d_Mo_fold_36 (by decide) ?_
  refine lv_icmp_ne (tgt := 48) hx hb d_Mo_fold_37 (by decide) (fun c1 => ?_) (fun c1 => absurd c1 (by decide))
  refine lv_aload_n hx hb d_Mo_fold_48 rfl (lv_at hl 3 rfl) ?_
  refine mo_getS (v := 2) C V X 46 (by decide) (by decide) (by first | rfl | exact hS46) f_Mo_277 rfl d_Mo_fold_49 ?_
  refine lv_if_ne (tgt := 111) hx hb d_Mo_fold_52 (by decide) (fun c2 => ?_) (fun c2 => absurd c2 (by decide))
  refine lv_aload_n hx hb d_Mo_fold_111 rfl (lv_at hl 3 rfl) ?_
  refine mo_getS (v := 2) C V X 46 (by decide) (by decide) (by first | rfl | exact hS46) f_Mo_277 rfl d_Mo_fold_112 ?_
  refine lv_iconst (v := 1) hx hb d_Mo_fold_115 (by decide) ?_
  refine lv_icmp_ne (tgt := 228) hx hb d_Mo_fold_116 (by decide) (fun c3 => ?_) (fun c3 => absurd c3 (by decide))
  refine lv_aload_n hx hb d_Mo_fold_228 rfl (lv_at hl 3 rfl) ?_
  refine mo_getA C V X 35 (by decide) (by decide) f_Mo_88 rfl d_Mo_fold_229 ?_
  refine lv_iload_n hx hb d_Mo_fold_232 rfl (lv_at hl 4 rfl) ?_
  refine mo_ild (k := 35) (i := cp) (n := 60) C V X (by decide) (by decide) rfl (by omega) (by decide) d_Mo_fold_233 ?_
  rw [show I 35 cp = 1 from hph]
  refine lv_iconst (v := 1) hx hb d_Mo_fold_234 (by decide) ?_
  refine lv_icmp_ne (tgt := 246) hx hb d_Mo_fold_235 (by decide) (fun c4 => absurd (by decide) c4) (fun c4 => ?_)
  refine lv_aload_n hx hb d_Mo_fold_238 rfl (lv_at hl 3 rfl) ?_
  refine lv_iconst (v := 2) hx hb d_Mo_fold_239 (by decide) ?_
  refine gh_callV C V hl.1 m_Mo_tell l_Mo_289 (c_Mo_tell l E _ _ a ad _ _ _ 2 w X.1 h45) rfl X.1.1 gc_Mo ⟨by first | decide | omega | (dsimp only; omega), by first | decide | omega | (dsimp only; omega)⟩ ⟨by first | decide | omega | (dsimp only; omega), by first | decide | omega | (dsimp only; omega)⟩ (Nat.le_of_ble_eq_true rfl) rfl d_Mo_fold_240 (fun r z9 H locs hp V1 => ?_)
  obtain ⟨rfl, X2⟩ := hp
  have X := X.then X2
  have V := V1
  refine W.eq (g2 := F0 m 243 ls []) rfl ?_
  refine lv_goto (tgt := 300) hx hb d_Mo_fold_243 (by decide) ?_
  refine gh_retv hAe C V hr hlocks d_Mo_fold_300 (by first | decide | omega | (dsimp only; omega)) (by first | decide | omega | (dsimp only; omega)) ?_
  exact ⟨rfl, _, _, X, mct.rf.tell, oc_t1 rfl rfl rfl⟩
set_option maxHeartbeats 4000000 in
set_option maxRecDepth 100000 in
theorem c_Mo_fold_22 (l : Launch) (E : gh_E) (sz : Nat) (f : gh_F) (a : Nat) (ad : Nat → Nat) (S : Nat → Int32) (I : Nat → Nat → Int32) (J : Nat → Nat → Int64) (w cp φ : Nat) (p0 : Nat) (p1 : Nat) (p2 : Nat) (hX : mo_R E f a ad S I J) (h45 : S 45 = nI (w + 1)) (hw : w < 14) (hc60 : cp < 60) (hp0c : I 34 (3 * cp) = nI p0) (hq0 : cp < p0 ∧ p0 < 60) (hp1c : I 34 (3 * cp + 1) = nI p1) (hq1 : cp < p1 ∧ p1 < 60) (hp2c : I 34 (3 * cp + 2) = nI p2) (hq2 : cp < p2 ∧ p2 < 60) (hS46 : S 46 = 2) (hph : I 35 cp = 2) : gh_M l y_Mo_fold b_Mo_fold 6 none E sz [.ref a, .int (nI cp)] f { frames := 7, cells := 0, slots := 0, locals := 200 } (fun r g => r = none ∧ ∃ S2 I2, mo_X E f g a ad S2 I2 J ∧ mct cp w (fun _ => False) (va_up (fun k => I k cp) 35 4) S I S2 I2 ∧ oc_t w 1 (I 38 cp) S S2) := by
  refine gh_open (by decide) (Nat.le_of_ble_eq_true rfl) ?_
  intro p e s m args below meth c A ls hAe C V hr hlocks hname hl
  have hx := C.1
  have hb := C.2.1
  have hl : lv_has ls 6 [(0, .ref a), (1, .int (nI cp))] := hl
  have X : mo_X E f f a ad S I J := ⟨hX, gh_fr.rf⟩
  refine lv_aload_n hx hb d_Mo_fold_0 rfl (lv_at hl 0 rfl) ?_
  refine mo_getA C V X 34 (by decide) (by decide) f_Mo_85 rfl d_Mo_fold_1 ?_
  refine lv_iconst (v := 3) hx hb d_Mo_fold_4 (by decide) ?_
  refine lv_iload_n hx hb d_Mo_fold_5 rfl (lv_at hl 1 rfl) ?_
  refine gn_imul (a := 3) (b := cp) hx hb d_Mo_fold_6 ?_
  refine mo_ild (k := 34) (i := 3 * cp) (n := 180) C V X (by decide) (by decide) rfl (by omega) (by decide) d_Mo_fold_7 ?_
  rw [show I 34 (3 * cp) = nI p0 from hp0c]
  refine lv_istore_n hx hb d_Mo_fold_8 rfl hl (by decide) rfl (fun ls hl => ?_)
  have hl : lv_has ls 6 [(2, .int (nI p0)), (0, .ref a), (1, .int (nI cp))] := hl
  refine lv_aload_n hx hb d_Mo_fold_9 rfl (lv_at hl 1 rfl) ?_
  refine mo_getA C V X 34 (by decide) (by decide) f_Mo_85 rfl d_Mo_fold_10 ?_
  refine lv_iconst (v := 3) hx hb d_Mo_fold_13 (by decide) ?_
  refine lv_iload_n hx hb d_Mo_fold_14 rfl (lv_at hl 2 rfl) ?_
  refine gn_imul (a := 3) (b := cp) hx hb d_Mo_fold_15 ?_
  refine lv_iconst (v := 1) hx hb d_Mo_fold_16 (by decide) ?_
  refine gn_iadd (a := 3 * cp) (b := 1) hx hb d_Mo_fold_17 ?_
  refine mo_ild (k := 34) (i := (3 * cp) + 1) (n := 180) C V X (by decide) (by decide) rfl (by omega) (by decide) d_Mo_fold_18 ?_
  rw [show I 34 ((3 * cp) + 1) = nI p1 from hp1c]
  refine lv_istore_n hx hb d_Mo_fold_19 rfl hl (by decide) rfl (fun ls hl => ?_)
  have hl : lv_has ls 6 [(3, .int (nI p1)), (2, .int (nI p0)), (0, .ref a), (1, .int (nI cp))] := hl
  refine lv_aload_n hx hb d_Mo_fold_20 rfl (lv_at hl 2 rfl) ?_
  refine mo_getA C V X 34 (by decide) (by decide) f_Mo_85 rfl d_Mo_fold_21 ?_
  refine lv_iconst (v := 3) hx hb d_Mo_fold_24 (by decide) ?_
  refine lv_iload_n hx hb d_Mo_fold_25 rfl (lv_at hl 3 rfl) ?_
  refine gn_imul (a := 3) (b := cp) hx hb d_Mo_fold_26 ?_
  refine lv_iconst (v := 2) hx hb d_Mo_fold_27 (by decide) ?_
  refine gn_iadd (a := 3 * cp) (b := 2) hx hb d_Mo_fold_28 ?_
  refine mo_ild (k := 34) (i := (3 * cp) + 2) (n := 180) C V X (by decide) (by decide) rfl (by omega) (by decide) d_Mo_fold_29 ?_
  rw [show I 34 ((3 * cp) + 2) = nI p2 from hp2c]
  refine lv_istore hx hb d_Mo_fold_30 hl (by decide) rfl (fun ls hl => ?_)
  have hl : lv_has ls 6 [(4, .int (nI p2)), (3, .int (nI p1)), (2, .int (nI p0)), (0, .ref a), (1, .int (nI cp))] := hl
  refine lv_aload_n hx hb d_Mo_fold_32 rfl (lv_at hl 3 rfl) ?_
  refine mo_getS (v := 2) C V X 46 (by decide) (by decide) (by first | rfl | exact hS46) f_Mo_277 rfl d_Mo_fold_33 ?_
  refine lv_iconst (v := 3) hx hb d_Mo_fold_36 (by decide) ?_
  refine lv_icmp_ne (tgt := 48) hx hb d_Mo_fold_37 (by decide) (fun c1 => ?_) (fun c1 => absurd c1 (by decide))
  refine lv_aload_n hx hb d_Mo_fold_48 rfl (lv_at hl 3 rfl) ?_
  refine mo_getS (v := 2) C V X 46 (by decide) (by decide) (by first | rfl | exact hS46) f_Mo_277 rfl d_Mo_fold_49 ?_
  refine lv_if_ne (tgt := 111) hx hb d_Mo_fold_52 (by decide) (fun c2 => ?_) (fun c2 => absurd c2 (by decide))
  refine lv_aload_n hx hb d_Mo_fold_111 rfl (lv_at hl 3 rfl) ?_
  refine mo_getS (v := 2) C V X 46 (by decide) (by decide) (by first | rfl | exact hS46) f_Mo_277 rfl d_Mo_fold_112 ?_
  refine lv_iconst (v := 1) hx hb d_Mo_fold_115 (by decide) ?_
  refine lv_icmp_ne (tgt := 228) hx hb d_Mo_fold_116 (by decide) (fun c3 => ?_) (fun c3 => absurd c3 (by decide))
  refine lv_aload_n hx hb d_Mo_fold_228 rfl (lv_at hl 3 rfl) ?_
  refine mo_getA C V X 35 (by decide) (by decide) f_Mo_88 rfl d_Mo_fold_229 ?_
  refine lv_iload_n hx hb d_Mo_fold_232 rfl (lv_at hl 4 rfl) ?_
  refine mo_ild (k := 35) (i := cp) (n := 60) C V X (by decide) (by decide) rfl (by omega) (by decide) d_Mo_fold_233 ?_
  rw [show I 35 cp = 2 from hph]
  refine lv_iconst (v := 1) hx hb d_Mo_fold_234 (by decide) ?_
  refine lv_icmp_ne (tgt := 246) hx hb d_Mo_fold_235 (by decide) (fun c4 => ?_) (fun c4 => absurd c4 (by decide))
  refine lv_aload_n hx hb d_Mo_fold_246 rfl (lv_at hl 3 rfl) ?_
  refine mo_getA C V X 35 (by decide) (by decide) f_Mo_88 rfl d_Mo_fold_247 ?_
  refine lv_iload_n hx hb d_Mo_fold_250 rfl (lv_at hl 4 rfl) ?_
  refine mo_ild (k := 35) (i := cp) (n := 60) C V X (by decide) (by decide) rfl (by omega) (by decide) d_Mo_fold_251 ?_
  rw [show I 35 cp = 2 from hph]
  refine lv_iconst (v := 2) hx hb d_Mo_fold_252 (by decide) ?_
  refine lv_icmp_ne (tgt := 276) hx hb d_Mo_fold_253 (by decide) (fun c5 => absurd (by decide) c5) (fun c5 => ?_)
  refine lv_aload_n hx hb d_Mo_fold_256 rfl (lv_at hl 3 rfl) ?_
  refine mo_getA C V X 35 (by decide) (by decide) f_Mo_88 rfl d_Mo_fold_257 ?_
  refine lv_iload_n hx hb d_Mo_fold_260 rfl (lv_at hl 4 rfl) ?_
  refine lv_iconst (v := 4) hx hb d_Mo_fold_261 (by decide) ?_
  refine mo_ist (k := 35) (i := cp) (n := 60) C V X (by decide) (by decide) rfl (by omega) (by decide) d_Mo_fold_262 (fun f1 H locs V1 X1 => ?_)
  clear V X
  have V := V1
  have X := X1
  clear V1 X1
  refine lv_aload_n hx hb d_Mo_fold_263 rfl (lv_at hl 3 rfl) ?_
  refine lv_aload_n hx hb d_Mo_fold_264 rfl (lv_at hl 3 rfl) ?_
  refine mo_getA C V X 38 (by decide) (by decide) f_Mo_97 rfl d_Mo_fold_265 ?_
  refine lv_iload_n hx hb d_Mo_fold_268 rfl (lv_at hl 4 rfl) ?_
  refine mo_ild (k := 38) (i := cp) (n := 60) C V X (by decide) (by decide) rfl (by omega) (by decide) d_Mo_fold_269 ?_
  rw [show (va_up I 35 (upd (I 35) cp 4)) 38 cp = I 38 cp from ((congrFun (va_up_n (by decide)) cp).trans (rfl))]
  refine gh_callV C V hl.1 m_Mo_give l_Mo_342 (c_Mo_give l E _ _ a ad _ _ _ (I 38 cp) w X.1 h45) rfl X.1.1 gc_Mo ⟨by first | decide | omega | (dsimp only; omega), by first | decide | omega | (dsimp only; omega)⟩ ⟨by first | decide | omega | (dsimp only; omega), by first | decide | omega | (dsimp only; omega)⟩ (Nat.le_of_ble_eq_true rfl) rfl d_Mo_fold_270 (fun r z9 H locs hp V1 => ?_)
  obtain ⟨rfl, X2⟩ := hp
  have X := X.then X2
  have V := V1
  refine W.eq (g2 := F0 m 273 ls []) rfl ?_
  refine lv_goto (tgt := 300) hx hb d_Mo_fold_273 (by decide) ?_
  refine gh_retv hAe C V hr hlocks d_Mo_fold_300 (by first | decide | omega | (dsimp only; omega)) (by first | decide | omega | (dsimp only; omega)) ?_
  exact ⟨rfl, _, _, X, (mct.rf.cell 35 4 (by decide) (by decide)).give, oc_t2 rfl rfl⟩
set_option maxHeartbeats 4000000 in
set_option maxRecDepth 100000 in
theorem c_Mo_fold_23 (l : Launch) (E : gh_E) (sz : Nat) (f : gh_F) (a : Nat) (ad : Nat → Nat) (S : Nat → Int32) (I : Nat → Nat → Int32) (J : Nat → Nat → Int64) (w cp φ : Nat) (p0 : Nat) (p1 : Nat) (p2 : Nat) (hX : mo_R E f a ad S I J) (h45 : S 45 = nI (w + 1)) (hw : w < 14) (hc60 : cp < 60) (hp0c : I 34 (3 * cp) = nI p0) (hq0 : cp < p0 ∧ p0 < 60) (hp1c : I 34 (3 * cp + 1) = nI p1) (hq1 : cp < p1 ∧ p1 < 60) (hp2c : I 34 (3 * cp + 2) = nI p2) (hq2 : cp < p2 ∧ p2 < 60) (hS46 : S 46 = 2) (hph : I 35 cp = 3) : gh_M l y_Mo_fold b_Mo_fold 6 none E sz [.ref a, .int (nI cp)] f { frames := 7, cells := 0, slots := 0, locals := 200 } (fun r g => r = none ∧ ∃ S2 I2, mo_X E f g a ad S2 I2 J ∧ mct cp w (fun _ => False) (va_up (va_up (fun k => I k cp) 38 (I 39 cp)) 35 2) S I S2 I2 ∧ oc_a w p0 S S2 I2) := by
  refine gh_open (by decide) (Nat.le_of_ble_eq_true rfl) ?_
  intro p e s m args below meth c A ls hAe C V hr hlocks hname hl
  have hx := C.1
  have hb := C.2.1
  have hl : lv_has ls 6 [(0, .ref a), (1, .int (nI cp))] := hl
  have X : mo_X E f f a ad S I J := ⟨hX, gh_fr.rf⟩
  refine lv_aload_n hx hb d_Mo_fold_0 rfl (lv_at hl 0 rfl) ?_
  refine mo_getA C V X 34 (by decide) (by decide) f_Mo_85 rfl d_Mo_fold_1 ?_
  refine lv_iconst (v := 3) hx hb d_Mo_fold_4 (by decide) ?_
  refine lv_iload_n hx hb d_Mo_fold_5 rfl (lv_at hl 1 rfl) ?_
  refine gn_imul (a := 3) (b := cp) hx hb d_Mo_fold_6 ?_
  refine mo_ild (k := 34) (i := 3 * cp) (n := 180) C V X (by decide) (by decide) rfl (by omega) (by decide) d_Mo_fold_7 ?_
  rw [show I 34 (3 * cp) = nI p0 from hp0c]
  refine lv_istore_n hx hb d_Mo_fold_8 rfl hl (by decide) rfl (fun ls hl => ?_)
  have hl : lv_has ls 6 [(2, .int (nI p0)), (0, .ref a), (1, .int (nI cp))] := hl
  refine lv_aload_n hx hb d_Mo_fold_9 rfl (lv_at hl 1 rfl) ?_
  refine mo_getA C V X 34 (by decide) (by decide) f_Mo_85 rfl d_Mo_fold_10 ?_
  refine lv_iconst (v := 3) hx hb d_Mo_fold_13 (by decide) ?_
  refine lv_iload_n hx hb d_Mo_fold_14 rfl (lv_at hl 2 rfl) ?_
  refine gn_imul (a := 3) (b := cp) hx hb d_Mo_fold_15 ?_
  refine lv_iconst (v := 1) hx hb d_Mo_fold_16 (by decide) ?_
  refine gn_iadd (a := 3 * cp) (b := 1) hx hb d_Mo_fold_17 ?_
  refine mo_ild (k := 34) (i := (3 * cp) + 1) (n := 180) C V X (by decide) (by decide) rfl (by omega) (by decide) d_Mo_fold_18 ?_
  rw [show I 34 ((3 * cp) + 1) = nI p1 from hp1c]
  refine lv_istore_n hx hb d_Mo_fold_19 rfl hl (by decide) rfl (fun ls hl => ?_)
  have hl : lv_has ls 6 [(3, .int (nI p1)), (2, .int (nI p0)), (0, .ref a), (1, .int (nI cp))] := hl
  refine lv_aload_n hx hb d_Mo_fold_20 rfl (lv_at hl 2 rfl) ?_
  refine mo_getA C V X 34 (by decide) (by decide) f_Mo_85 rfl d_Mo_fold_21 ?_
  refine lv_iconst (v := 3) hx hb d_Mo_fold_24 (by decide) ?_
  refine lv_iload_n hx hb d_Mo_fold_25 rfl (lv_at hl 3 rfl) ?_
  refine gn_imul (a := 3) (b := cp) hx hb d_Mo_fold_26 ?_
  refine lv_iconst (v := 2) hx hb d_Mo_fold_27 (by decide) ?_
  refine gn_iadd (a := 3 * cp) (b := 2) hx hb d_Mo_fold_28 ?_
  refine mo_ild (k := 34) (i := (3 * cp) + 2) (n := 180) C V X (by decide) (by decide) rfl (by omega) (by decide) d_Mo_fold_29 ?_
  rw [show I 34 ((3 * cp) + 2) = nI p2 from hp2c]
  refine lv_istore hx hb d_Mo_fold_30 hl (by decide) rfl (fun ls hl => ?_)
  have hl : lv_has ls 6 [(4, .int (nI p2)), (3, .int (nI p1)), (2, .int (nI p0)), (0, .ref a), (1, .int (nI cp))] := hl
  refine lv_aload_n hx hb d_Mo_fold_32 rfl (lv_at hl 3 rfl) ?_
  refine mo_getS (v := 2) C V X 46 (by decide) (by decide) (by first | rfl | exact hS46) f_Mo_277 rfl d_Mo_fold_33 ?_
  refine lv_iconst (v := 3) hx hb d_Mo_fold_36 (by decide) ?_
  refine lv_icmp_ne (tgt := 48) hx hb d_Mo_fold_37 (by decide) (fun c1 => ?_) (fun c1 => absurd c1 (by decide))
  refine lv_aload_n hx hb d_Mo_fold_48 rfl (lv_at hl 3 rfl) ?_
  refine mo_getS (v := 2) C V X 46 (by decide) (by decide) (by first | rfl | exact hS46) f_Mo_277 rfl d_Mo_fold_49 ?_
  refine lv_if_ne (tgt := 111) hx hb d_Mo_fold_52 (by decide) (fun c2 => ?_) (fun c2 => absurd c2 (by decide))
  refine lv_aload_n hx hb d_Mo_fold_111 rfl (lv_at hl 3 rfl) ?_
  refine mo_getS (v := 2) C V X 46 (by decide) (by decide) (by first | rfl | exact hS46) f_Mo_277 rfl d_Mo_fold_112 ?_
  refine lv_iconst (v := 1) hx hb d_Mo_fold_115 (by decide) ?_
  refine lv_icmp_ne (tgt := 228) hx hb d_Mo_fold_116 (by decide) (fun c3 => ?_) (fun c3 => absurd c3 (by decide))
  refine lv_aload_n hx hb d_Mo_fold_228 rfl (lv_at hl 3 rfl) ?_
  refine mo_getA C V X 35 (by decide) (by decide) f_Mo_88 rfl d_Mo_fold_229 ?_
  refine lv_iload_n hx hb d_Mo_fold_232 rfl (lv_at hl 4 rfl) ?_
  refine mo_ild (k := 35) (i := cp) (n := 60) C V X (by decide) (by decide) rfl (by omega) (by decide) d_Mo_fold_233 ?_
  rw [show I 35 cp = 3 from hph]
  refine lv_iconst (v := 1) hx hb d_Mo_fold_234 (by decide) ?_
  refine lv_icmp_ne (tgt := 246) hx hb d_Mo_fold_235 (by decide) (fun c4 => ?_) (fun c4 => absurd c4 (by decide))
  refine lv_aload_n hx hb d_Mo_fold_246 rfl (lv_at hl 3 rfl) ?_
  refine mo_getA C V X 35 (by decide) (by decide) f_Mo_88 rfl d_Mo_fold_247 ?_
  refine lv_iload_n hx hb d_Mo_fold_250 rfl (lv_at hl 4 rfl) ?_
  refine mo_ild (k := 35) (i := cp) (n := 60) C V X (by decide) (by decide) rfl (by omega) (by decide) d_Mo_fold_251 ?_
  rw [show I 35 cp = 3 from hph]
  refine lv_iconst (v := 2) hx hb d_Mo_fold_252 (by decide) ?_
  refine lv_icmp_ne (tgt := 276) hx hb d_Mo_fold_253 (by decide) (fun c5 => ?_) (fun c5 => absurd c5 (by decide))
  refine lv_aload_n hx hb d_Mo_fold_276 rfl (lv_at hl 3 rfl) ?_
  refine mo_getA C V X 38 (by decide) (by decide) f_Mo_97 rfl d_Mo_fold_277 ?_
  refine lv_iload_n hx hb d_Mo_fold_280 rfl (lv_at hl 4 rfl) ?_
  refine lv_aload_n hx hb d_Mo_fold_281 rfl (lv_at hl 3 rfl) ?_
  refine mo_getA C V X 39 (by decide) (by decide) f_Mo_100 rfl d_Mo_fold_282 ?_
  refine lv_iload_n hx hb d_Mo_fold_285 rfl (lv_at hl 4 rfl) ?_
  refine mo_ild (k := 39) (i := cp) (n := 60) C V X (by decide) (by decide) rfl (by omega) (by decide) d_Mo_fold_286 ?_
  rw [show I 39 cp = I 39 cp from rfl]
  refine mo_ist (k := 38) (i := cp) (n := 60) C V X (by decide) (by decide) rfl (by omega) (by decide) d_Mo_fold_287 (fun f1 H locs V1 X1 => ?_)
  clear V X
  have V := V1
  have X := X1
  clear V1 X1
  refine lv_aload_n hx hb d_Mo_fold_288 rfl (lv_at hl 3 rfl) ?_
  refine mo_getA C V X 35 (by decide) (by decide) f_Mo_88 rfl d_Mo_fold_289 ?_
  refine lv_iload_n hx hb d_Mo_fold_292 rfl (lv_at hl 4 rfl) ?_
  refine lv_iconst (v := 2) hx hb d_Mo_fold_293 (by decide) ?_
  refine mo_ist (k := 35) (i := cp) (n := 60) C V X (by decide) (by decide) rfl (by omega) (by decide) d_Mo_fold_294 (fun f1 H locs V1 X1 => ?_)
  clear V X
  have V := V1
  have X := X1
  clear V1 X1
  refine lv_aload_n hx hb d_Mo_fold_295 rfl (lv_at hl 3 rfl) ?_
  refine lv_iload_n hx hb d_Mo_fold_296 rfl (lv_at hl 2 rfl) ?_
  refine gh_callV C V hl.1 m_Mo_ask l_Mo_283 (c_Mo_ask l E _ _ a ad _ _ _ (nI p0) (w + 1) X.1 h45 (by omega)) rfl X.1.1 gc_Mo ⟨by first | decide | omega | (dsimp only; omega), by first | decide | omega | (dsimp only; omega)⟩ ⟨by first | decide | omega | (dsimp only; omega), by first | decide | omega | (dsimp only; omega)⟩ (Nat.le_of_ble_eq_true rfl) rfl d_Mo_fold_297 (fun r z9 H locs hp V1 => ?_)
  obtain ⟨rfl, X2⟩ := hp
  have X := X.then X2
  have V := V1
  refine W.eq (g2 := F0 m 300 ls []) rfl ?_
  refine gh_retv hAe C V hr hlocks d_Mo_fold_300 (by first | decide | omega | (dsimp only; omega)) (by first | decide | omega | (dsimp only; omega)) ?_
  exact ⟨rfl, _, _, X, ((mct.rf.cell 38 (I 39 cp) (by decide) (by decide)).cell 35 2 (by decide) (by decide)).ask, oc_a1 rfl rfl⟩
theorem vt_hi5 {X : vt} (h : vt_hi X = true) : 5 ≤ vt_k X := by
  unfold vt_hi at h
  simp at h
  omega
theorem mw_many {I : mo_I} {J : mo_J} {b0 nv pb np v : Nat} {X : vt} {b : Bool} (h : mw I J b0 nv pb np v X) (hb : vt_hi X = b) : (decide (nI (vt_k X) = 5) || decide (nI (vt_k X) = 6)) = b := by
  have hk := (vo_o.mp h.2).1
  rw [← hb]; unfold vt_hi
  rcases (show vt_k X = 0 ∨ vt_k X = 1 ∨ vt_k X = 2 ∨ vt_k X = 3 ∨ vt_k X = 4 ∨ vt_k X = 5 ∨ vt_k X = 6 by omega) with e | e | e | e | e | e | e <;> rw [e] <;> decide
theorem d_Mo_each_0 : decode b_Mo_each 0 = .ok (.aload_n 0, 1) := by decide +kernel
theorem d_Mo_each_1 : decode b_Mo_each 1 = .ok (.getfield 91, 3) := by decide +kernel
theorem d_Mo_each_4 : decode b_Mo_each 4 = .ok (.iload_n 1, 1) := by decide +kernel
theorem d_Mo_each_5 : decode b_Mo_each 5 = .ok (.iaload, 1) := by decide +kernel
theorem d_Mo_each_6 : decode b_Mo_each 6 = .ok (.istore_n 2, 1) := by decide +kernel
theorem d_Mo_each_7 : decode b_Mo_each 7 = .ok (.aload_n 0, 1) := by decide +kernel
theorem d_Mo_each_8 : decode b_Mo_each 8 = .ok (.getfield 88, 3) := by decide +kernel
theorem d_Mo_each_11 : decode b_Mo_each 11 = .ok (.iload_n 1, 1) := by decide +kernel
theorem d_Mo_each_12 : decode b_Mo_each 12 = .ok (.iaload, 1) := by decide +kernel
theorem d_Mo_each_13 : decode b_Mo_each 13 = .ok (.ifCond .ne 10, 3) := by decide +kernel
theorem d_Mo_each_16 : decode b_Mo_each 16 = .ok (.aload_n 0, 1) := by decide +kernel
theorem d_Mo_each_17 : decode b_Mo_each 17 = .ok (.getfield 103, 3) := by decide +kernel
theorem d_Mo_each_20 : decode b_Mo_each 20 = .ok (.iload_n 1, 1) := by decide +kernel
theorem d_Mo_each_21 : decode b_Mo_each 21 = .ok (.iconst 0, 1) := by decide +kernel
theorem d_Mo_each_22 : decode b_Mo_each 22 = .ok (.iastore, 1) := by decide +kernel
theorem d_Mo_each_23 : decode b_Mo_each 23 = .ok (.aload_n 0, 1) := by decide +kernel
theorem d_Mo_each_24 : decode b_Mo_each 24 = .ok (.getfield 88, 3) := by decide +kernel
theorem d_Mo_each_27 : decode b_Mo_each 27 = .ok (.iload_n 1, 1) := by decide +kernel
theorem d_Mo_each_28 : decode b_Mo_each 28 = .ok (.iconst 1, 1) := by decide +kernel
theorem d_Mo_each_29 : decode b_Mo_each 29 = .ok (.iastore, 1) := by decide +kernel
theorem d_Mo_each_30 : decode b_Mo_each 30 = .ok (.aload_n 0, 1) := by decide +kernel
theorem d_Mo_each_31 : decode b_Mo_each 31 = .ok (.getfield 103, 3) := by decide +kernel
theorem d_Mo_each_34 : decode b_Mo_each 34 = .ok (.iload_n 1, 1) := by decide +kernel
theorem d_Mo_each_35 : decode b_Mo_each 35 = .ok (.iaload, 1) := by decide +kernel
theorem d_Mo_each_36 : decode b_Mo_each 36 = .ok (.istore_n 3, 1) := by decide +kernel
theorem d_Mo_each_37 : decode b_Mo_each 37 = .ok (.aload_n 0, 1) := by decide +kernel
theorem d_Mo_each_38 : decode b_Mo_each 38 = .ok (.getfield 103, 3) := by decide +kernel
theorem d_Mo_each_41 : decode b_Mo_each 41 = .ok (.iload_n 1, 1) := by decide +kernel
theorem d_Mo_each_42 : decode b_Mo_each 42 = .ok (.iload_n 3, 1) := by decide +kernel
theorem d_Mo_each_43 : decode b_Mo_each 43 = .ok (.iconst 1, 1) := by decide +kernel
theorem d_Mo_each_44 : decode b_Mo_each 44 = .ok (.iadd, 1) := by decide +kernel
theorem d_Mo_each_45 : decode b_Mo_each 45 = .ok (.iastore, 1) := by decide +kernel
theorem d_Mo_each_46 : decode b_Mo_each 46 = .ok (.aload_n 0, 1) := by decide +kernel
theorem d_Mo_each_47 : decode b_Mo_each 47 = .ok (.iload_n 2, 1) := by decide +kernel
theorem d_Mo_each_48 : decode b_Mo_each 48 = .ok (.invokevirtual 169, 3) := by decide +kernel
theorem d_Mo_each_51 : decode b_Mo_each 51 = .ok (.ifCond .ne 11, 3) := by decide +kernel
theorem d_Mo_each_54 : decode b_Mo_each 54 = .ok (.aload_n 0, 1) := by decide +kernel
theorem d_Mo_each_55 : decode b_Mo_each 55 = .ok (.iconst 3, 1) := by decide +kernel
theorem d_Mo_each_56 : decode b_Mo_each 56 = .ok (.invokevirtual 289, 3) := by decide +kernel
theorem d_Mo_each_59 : decode b_Mo_each 59 = .ok (.goto 31, 3) := by decide +kernel
theorem d_Mo_each_62 : decode b_Mo_each 62 = .ok (.iload_n 3, 1) := by decide +kernel
theorem d_Mo_each_63 : decode b_Mo_each 63 = .ok (.aload_n 0, 1) := by decide +kernel
theorem d_Mo_each_64 : decode b_Mo_each 64 = .ok (.getfield 17, 3) := by decide +kernel
theorem d_Mo_each_67 : decode b_Mo_each 67 = .ok (.iload_n 2, 1) := by decide +kernel
theorem d_Mo_each_68 : decode b_Mo_each 68 = .ok (.iaload, 1) := by decide +kernel
theorem d_Mo_each_69 : decode b_Mo_each 69 = .ok (.if_icmp .ge 16, 3) := by decide +kernel
theorem d_Mo_each_72 : decode b_Mo_each 72 = .ok (.aload_n 0, 1) := by decide +kernel
theorem d_Mo_each_73 : decode b_Mo_each 73 = .ok (.aload_n 0, 1) := by decide +kernel
theorem d_Mo_each_74 : decode b_Mo_each 74 = .ok (.iload_n 2, 1) := by decide +kernel
theorem d_Mo_each_75 : decode b_Mo_each 75 = .ok (.iload_n 3, 1) := by decide +kernel
theorem d_Mo_each_76 : decode b_Mo_each 76 = .ok (.invokevirtual 176, 3) := by decide +kernel
theorem d_Mo_each_79 : decode b_Mo_each 79 = .ok (.invokevirtual 342, 3) := by decide +kernel
theorem d_Mo_each_82 : decode b_Mo_each 82 = .ok (.goto 8, 3) := by decide +kernel
theorem d_Mo_each_85 : decode b_Mo_each 85 = .ok (.aload_n 0, 1) := by decide +kernel
theorem d_Mo_each_86 : decode b_Mo_each 86 = .ok (.iconst 2, 1) := by decide +kernel
theorem d_Mo_each_87 : decode b_Mo_each 87 = .ok (.invokevirtual 289, 3) := by decide +kernel
theorem d_Mo_each_90 : decode b_Mo_each 90 = .ok (.return_, 1) := by decide +kernel
set_option maxHeartbeats 4000000 in
set_option maxRecDepth 100000 in
theorem c_Mo_each_0f (l : Launch) (E : gh_E) (sz : Nat) (f : gh_F) (a : Nat) (ad : Nat → Nat) (S : Nat → Int32) (I : Nat → Nat → Int32) (J : Nat → Nat → Int64) (w cp φ : Nat) (b0 nv pb np v : Nat) (O : vt) (hX : mo_R E f a ad S I J) (h45 : S 45 = nI (w + 1)) (hw : w < 14) (hc60 : cp < 60) (hph : I 35 cp = 0) (hit : I 36 cp = nI v) (hO : mw I J b0 nv pb np v O) (hhi : vt_hi O = false) : gh_M l y_Mo_each b_Mo_each 4 none E sz [.ref a, .int (nI cp)] f { frames := 7, cells := 0, slots := 0, locals := 200 } (fun r g => r = none ∧ ∃ S2 I2, mo_X E f g a ad S2 I2 J ∧ mct cp w (fun _ => False) (va_up (va_up (va_up (fun k => I k cp) 40 0) 35 1) 40 1) S I S2 I2 ∧ oc_t w 3 (S 47) S S2) := by
  refine gh_open (by decide) (Nat.le_of_ble_eq_true rfl) ?_
  intro p e s m args below meth c A ls hAe C V hr hlocks hname hl
  have hx := C.1
  have hb := C.2.1
  have hl : lv_has ls 4 [(0, .ref a), (1, .int (nI cp))] := hl
  have X : mo_X E f f a ad S I J := ⟨hX, gh_fr.rf⟩
  refine lv_aload_n hx hb d_Mo_each_0 rfl (lv_at hl 0 rfl) ?_
  refine mo_getA C V X 36 (by decide) (by decide) f_Mo_91 rfl d_Mo_each_1 ?_
  refine lv_iload_n hx hb d_Mo_each_4 rfl (lv_at hl 1 rfl) ?_
  refine mo_ild (k := 36) (i := cp) (n := 60) C V X (by decide) (by decide) rfl (by omega) (by decide) d_Mo_each_5 ?_
  rw [show I 36 cp = nI v from hit]
  refine lv_istore_n hx hb d_Mo_each_6 rfl hl (by decide) rfl (fun ls hl => ?_)
  have hl : lv_has ls 4 [(2, .int (nI v)), (0, .ref a), (1, .int (nI cp))] := hl
  refine lv_aload_n hx hb d_Mo_each_7 rfl (lv_at hl 1 rfl) ?_
  refine mo_getA C V X 35 (by decide) (by decide) f_Mo_88 rfl d_Mo_each_8 ?_
  refine lv_iload_n hx hb d_Mo_each_11 rfl (lv_at hl 2 rfl) ?_
  refine mo_ild (k := 35) (i := cp) (n := 60) C V X (by decide) (by decide) rfl (by omega) (by decide) d_Mo_each_12 ?_
  rw [show I 35 cp = 0 from hph]
  refine lv_if_ne (tgt := 23) hx hb d_Mo_each_13 (by decide) (fun c1 => absurd (by decide) c1) (fun c1 => ?_)
  refine lv_aload_n hx hb d_Mo_each_16 rfl (lv_at hl 1 rfl) ?_
  refine mo_getA C V X 40 (by decide) (by decide) f_Mo_103 rfl d_Mo_each_17 ?_
  refine lv_iload_n hx hb d_Mo_each_20 rfl (lv_at hl 2 rfl) ?_
  refine lv_iconst (v := 0) hx hb d_Mo_each_21 (by decide) ?_
  refine mo_ist (k := 40) (i := cp) (n := 60) C V X (by decide) (by decide) rfl (by omega) (by decide) d_Mo_each_22 (fun f1 H locs V1 X1 => ?_)
  clear V X
  have V := V1
  have X := X1
  clear V1 X1
  refine lv_aload_n hx hb d_Mo_each_23 rfl (lv_at hl 1 rfl) ?_
  refine mo_getA C V X 35 (by decide) (by decide) f_Mo_88 rfl d_Mo_each_24 ?_
  refine lv_iload_n hx hb d_Mo_each_27 rfl (lv_at hl 2 rfl) ?_
  refine lv_iconst (v := 1) hx hb d_Mo_each_28 (by decide) ?_
  refine mo_ist (k := 35) (i := cp) (n := 60) C V X (by decide) (by decide) rfl (by omega) (by decide) d_Mo_each_29 (fun f1 H locs V1 X1 => ?_)
  clear V X
  have V := V1
  have X := X1
  clear V1 X1
  refine lv_aload_n hx hb d_Mo_each_30 rfl (lv_at hl 1 rfl) ?_
  refine mo_getA C V X 40 (by decide) (by decide) f_Mo_103 rfl d_Mo_each_31 ?_
  refine lv_iload_n hx hb d_Mo_each_34 rfl (lv_at hl 2 rfl) ?_
  refine mo_ild (k := 40) (i := cp) (n := 60) C V X (by decide) (by decide) rfl (by omega) (by decide) d_Mo_each_35 ?_
  rw [show (va_up (va_up I 40 (upd (I 40) cp 0)) 35 (upd ((va_up I 40 (upd (I 40) cp 0)) 35) cp 1)) 40 cp = 0 from ((congrFun (va_up_n (by decide)) cp).trans (((congrFun va_up_s cp).trans (by simp [upd]))))]
  refine lv_istore_n hx hb d_Mo_each_36 rfl hl (by decide) rfl (fun ls hl => ?_)
  have hl : lv_has ls 4 [(3, .int 0), (2, .int (nI v)), (0, .ref a), (1, .int (nI cp))] := hl
  refine lv_aload_n hx hb d_Mo_each_37 rfl (lv_at hl 2 rfl) ?_
  refine mo_getA C V X 40 (by decide) (by decide) f_Mo_103 rfl d_Mo_each_38 ?_
  refine lv_iload_n hx hb d_Mo_each_41 rfl (lv_at hl 3 rfl) ?_
  refine lv_iload_n hx hb d_Mo_each_42 rfl (lv_at hl 0 rfl) ?_
  refine lv_iconst (v := 1) hx hb d_Mo_each_43 (by decide) ?_
  refine gn_iadd (a := 0) (b := 1) hx hb d_Mo_each_44 ?_
  refine mo_ist (k := 40) (i := cp) (n := 60) C V X (by decide) (by decide) rfl (by omega) (by decide) d_Mo_each_45 (fun f1 H locs V1 X1 => ?_)
  clear V X
  have V := V1
  have X := X1
  clear V1 X1
  refine lv_aload_n hx hb d_Mo_each_46 rfl (lv_at hl 2 rfl) ?_
  refine lv_iload_n hx hb d_Mo_each_47 rfl (lv_at hl 1 rfl) ?_
  have h1v := (mv_o.mp hO.1).2.1
  have hv7 := hO.lt
  have hmn : (decide ((va_up (va_up (va_up I 40 (upd (I 40) cp 0)) 35 (upd ((va_up I 40 (upd (I 40) cp 0)) 35) cp 1)) 40 (upd ((va_up (va_up I 40 (upd (I 40) cp 0)) 35 (upd ((va_up I 40 (upd (I 40) cp 0)) 35) cp 1)) 40) cp (nI (0 + 1)))) 1 v = 5) || decide ((va_up (va_up (va_up I 40 (upd (I 40) cp 0)) 35 (upd ((va_up I 40 (upd (I 40) cp 0)) 35) cp 1)) 40 (upd ((va_up (va_up I 40 (upd (I 40) cp 0)) 35 (upd ((va_up I 40 (upd (I 40) cp 0)) 35) cp 1)) 40) cp (nI (0 + 1)))) 1 v = 6)) = false := by rw [show (va_up (va_up (va_up I 40 (upd (I 40) cp 0)) 35 (upd ((va_up I 40 (upd (I 40) cp 0)) 35) cp 1)) 40 (upd ((va_up (va_up I 40 (upd (I 40) cp 0)) 35 (upd ((va_up I 40 (upd (I 40) cp 0)) 35) cp 1)) 40) cp (nI (0 + 1)))) 1 v = I 1 v from ((congrFun (va_up_n (by decide)) v).trans (((congrFun (va_up_n (by decide)) v).trans (((congrFun (va_up_n (by decide)) v).trans (rfl)))))), h1v]; exact mw_many hO hhi
  refine gh_callV C V hl.1 m_Mo_isMany l_Mo_169 (c_Mo_isMany l E _ _ a ad _ _ _ v X.1 hv7) rfl X.1.1 gc_Mo ⟨by first | decide | omega | (dsimp only; omega), by first | decide | omega | (dsimp only; omega)⟩ ⟨by first | decide | omega | (dsimp only; omega), by first | decide | omega | (dsimp only; omega)⟩ (Nat.le_of_ble_eq_true rfl) rfl d_Mo_each_48 (fun r z9 H locs hp V1 => ?_)
  rw [hmn] at hp
  obtain ⟨rfl, he9⟩ := hp
  rw [he9] at V1
  have V := V1
  refine W.eq (g2 := F0 m 51 ls [.int (gh_bi false)]) rfl ?_
  refine lv_if_ne (tgt := 62) hx hb d_Mo_each_51 (by decide) (fun c2 => absurd (by decide) c2) (fun c2 => ?_)
  refine lv_aload_n hx hb d_Mo_each_54 rfl (lv_at hl 2 rfl) ?_
  refine lv_iconst (v := 3) hx hb d_Mo_each_55 (by decide) ?_
  refine gh_callV C V hl.1 m_Mo_tell l_Mo_289 (c_Mo_tell l E _ _ a ad _ _ _ 3 w X.1 h45) rfl X.1.1 gc_Mo ⟨by first | decide | omega | (dsimp only; omega), by first | decide | omega | (dsimp only; omega)⟩ ⟨by first | decide | omega | (dsimp only; omega), by first | decide | omega | (dsimp only; omega)⟩ (Nat.le_of_ble_eq_true rfl) rfl d_Mo_each_56 (fun r z9 H locs hp V1 => ?_)
  obtain ⟨rfl, X2⟩ := hp
  have X := X.then X2
  have V := V1
  refine W.eq (g2 := F0 m 59 ls []) rfl ?_
  refine lv_goto (tgt := 90) hx hb d_Mo_each_59 (by decide) ?_
  refine gh_retv hAe C V hr hlocks d_Mo_each_90 (by first | decide | omega | (dsimp only; omega)) (by first | decide | omega | (dsimp only; omega)) ?_
  exact ⟨rfl, _, _, X, (((mct.rf.cell 40 0 (by decide) (by decide)).cell 35 1 (by decide) (by decide)).cell 40 (nI (0 + 1)) (by decide) (by decide)).tell, oc_t1 rfl rfl rfl⟩
set_option maxHeartbeats 4000000 in
set_option maxRecDepth 100000 in
theorem c_Mo_each_0g (l : Launch) (E : gh_E) (sz : Nat) (f : gh_F) (a : Nat) (ad : Nat → Nat) (S : Nat → Int32) (I : Nat → Nat → Int32) (J : Nat → Nat → Int64) (w cp φ : Nat) (b0 nv pb np v : Nat) (O : vt) (hX : mo_R E f a ad S I J) (h45 : S 45 = nI (w + 1)) (hw : w < 14) (hc60 : cp < 60) (hph : I 35 cp = 0) (hit : I 36 cp = nI v) (hO : mw I J b0 nv pb np v O) (hhi : vt_hi O = true) (hlt : 0 < vt_c O) : gh_M l y_Mo_each b_Mo_each 4 none E sz [.ref a, .int (nI cp)] f { frames := 7, cells := 0, slots := 0, locals := 200 } (fun r g => r = none ∧ ∃ S2 I2, mo_X E f g a ad S2 I2 J ∧ mct cp w (fun _ => False) (va_up (va_up (va_up (fun k => I k cp) 40 0) 35 1) 40 1) S I S2 I2 ∧ ∃ b, mw I J b0 nv pb np b (vt_s O 0) ∧ oc_t w 1 (nI b) S S2) := by
  refine gh_open (by decide) (Nat.le_of_ble_eq_true rfl) ?_
  intro p e s m args below meth c A ls hAe C V hr hlocks hname hl
  have hx := C.1
  have hb := C.2.1
  have hl : lv_has ls 4 [(0, .ref a), (1, .int (nI cp))] := hl
  have X : mo_X E f f a ad S I J := ⟨hX, gh_fr.rf⟩
  refine lv_aload_n hx hb d_Mo_each_0 rfl (lv_at hl 0 rfl) ?_
  refine mo_getA C V X 36 (by decide) (by decide) f_Mo_91 rfl d_Mo_each_1 ?_
  refine lv_iload_n hx hb d_Mo_each_4 rfl (lv_at hl 1 rfl) ?_
  refine mo_ild (k := 36) (i := cp) (n := 60) C V X (by decide) (by decide) rfl (by omega) (by decide) d_Mo_each_5 ?_
  rw [show I 36 cp = nI v from hit]
  refine lv_istore_n hx hb d_Mo_each_6 rfl hl (by decide) rfl (fun ls hl => ?_)
  have hl : lv_has ls 4 [(2, .int (nI v)), (0, .ref a), (1, .int (nI cp))] := hl
  refine lv_aload_n hx hb d_Mo_each_7 rfl (lv_at hl 1 rfl) ?_
  refine mo_getA C V X 35 (by decide) (by decide) f_Mo_88 rfl d_Mo_each_8 ?_
  refine lv_iload_n hx hb d_Mo_each_11 rfl (lv_at hl 2 rfl) ?_
  refine mo_ild (k := 35) (i := cp) (n := 60) C V X (by decide) (by decide) rfl (by omega) (by decide) d_Mo_each_12 ?_
  rw [show I 35 cp = 0 from hph]
  refine lv_if_ne (tgt := 23) hx hb d_Mo_each_13 (by decide) (fun c1 => absurd (by decide) c1) (fun c1 => ?_)
  refine lv_aload_n hx hb d_Mo_each_16 rfl (lv_at hl 1 rfl) ?_
  refine mo_getA C V X 40 (by decide) (by decide) f_Mo_103 rfl d_Mo_each_17 ?_
  refine lv_iload_n hx hb d_Mo_each_20 rfl (lv_at hl 2 rfl) ?_
  refine lv_iconst (v := 0) hx hb d_Mo_each_21 (by decide) ?_
  refine mo_ist (k := 40) (i := cp) (n := 60) C V X (by decide) (by decide) rfl (by omega) (by decide) d_Mo_each_22 (fun f1 H locs V1 X1 => ?_)
  clear V X
  have V := V1
  have X := X1
  clear V1 X1
  refine lv_aload_n hx hb d_Mo_each_23 rfl (lv_at hl 1 rfl) ?_
  refine mo_getA C V X 35 (by decide) (by decide) f_Mo_88 rfl d_Mo_each_24 ?_
  refine lv_iload_n hx hb d_Mo_each_27 rfl (lv_at hl 2 rfl) ?_
  refine lv_iconst (v := 1) hx hb d_Mo_each_28 (by decide) ?_
  refine mo_ist (k := 35) (i := cp) (n := 60) C V X (by decide) (by decide) rfl (by omega) (by decide) d_Mo_each_29 (fun f1 H locs V1 X1 => ?_)
  clear V X
  have V := V1
  have X := X1
  clear V1 X1
  refine lv_aload_n hx hb d_Mo_each_30 rfl (lv_at hl 1 rfl) ?_
  refine mo_getA C V X 40 (by decide) (by decide) f_Mo_103 rfl d_Mo_each_31 ?_
  refine lv_iload_n hx hb d_Mo_each_34 rfl (lv_at hl 2 rfl) ?_
  refine mo_ild (k := 40) (i := cp) (n := 60) C V X (by decide) (by decide) rfl (by omega) (by decide) d_Mo_each_35 ?_
  rw [show (va_up (va_up I 40 (upd (I 40) cp 0)) 35 (upd ((va_up I 40 (upd (I 40) cp 0)) 35) cp 1)) 40 cp = 0 from ((congrFun (va_up_n (by decide)) cp).trans (((congrFun va_up_s cp).trans (by simp [upd]))))]
  refine lv_istore_n hx hb d_Mo_each_36 rfl hl (by decide) rfl (fun ls hl => ?_)
  have hl : lv_has ls 4 [(3, .int 0), (2, .int (nI v)), (0, .ref a), (1, .int (nI cp))] := hl
  refine lv_aload_n hx hb d_Mo_each_37 rfl (lv_at hl 2 rfl) ?_
  refine mo_getA C V X 40 (by decide) (by decide) f_Mo_103 rfl d_Mo_each_38 ?_
  refine lv_iload_n hx hb d_Mo_each_41 rfl (lv_at hl 3 rfl) ?_
  refine lv_iload_n hx hb d_Mo_each_42 rfl (lv_at hl 0 rfl) ?_
  refine lv_iconst (v := 1) hx hb d_Mo_each_43 (by decide) ?_
  refine gn_iadd (a := 0) (b := 1) hx hb d_Mo_each_44 ?_
  refine mo_ist (k := 40) (i := cp) (n := 60) C V X (by decide) (by decide) rfl (by omega) (by decide) d_Mo_each_45 (fun f1 H locs V1 X1 => ?_)
  clear V X
  have V := V1
  have X := X1
  clear V1 X1
  refine lv_aload_n hx hb d_Mo_each_46 rfl (lv_at hl 2 rfl) ?_
  refine lv_iload_n hx hb d_Mo_each_47 rfl (lv_at hl 1 rfl) ?_
  have h1v := (mv_o.mp hO.1).2.1
  have hv7 := hO.lt
  have hmn : (decide ((va_up (va_up (va_up I 40 (upd (I 40) cp 0)) 35 (upd ((va_up I 40 (upd (I 40) cp 0)) 35) cp 1)) 40 (upd ((va_up (va_up I 40 (upd (I 40) cp 0)) 35 (upd ((va_up I 40 (upd (I 40) cp 0)) 35) cp 1)) 40) cp (nI (0 + 1)))) 1 v = 5) || decide ((va_up (va_up (va_up I 40 (upd (I 40) cp 0)) 35 (upd ((va_up I 40 (upd (I 40) cp 0)) 35) cp 1)) 40 (upd ((va_up (va_up I 40 (upd (I 40) cp 0)) 35 (upd ((va_up I 40 (upd (I 40) cp 0)) 35) cp 1)) 40) cp (nI (0 + 1)))) 1 v = 6)) = true := by rw [show (va_up (va_up (va_up I 40 (upd (I 40) cp 0)) 35 (upd ((va_up I 40 (upd (I 40) cp 0)) 35) cp 1)) 40 (upd ((va_up (va_up I 40 (upd (I 40) cp 0)) 35 (upd ((va_up I 40 (upd (I 40) cp 0)) 35) cp 1)) 40) cp (nI (0 + 1)))) 1 v = I 1 v from ((congrFun (va_up_n (by decide)) v).trans (((congrFun (va_up_n (by decide)) v).trans (((congrFun (va_up_n (by decide)) v).trans (rfl)))))), h1v]; exact mw_many hO hhi
  refine gh_callV C V hl.1 m_Mo_isMany l_Mo_169 (c_Mo_isMany l E _ _ a ad _ _ _ v X.1 hv7) rfl X.1.1 gc_Mo ⟨by first | decide | omega | (dsimp only; omega), by first | decide | omega | (dsimp only; omega)⟩ ⟨by first | decide | omega | (dsimp only; omega), by first | decide | omega | (dsimp only; omega)⟩ (Nat.le_of_ble_eq_true rfl) rfl d_Mo_each_48 (fun r z9 H locs hp V1 => ?_)
  rw [hmn] at hp
  obtain ⟨rfl, he9⟩ := hp
  rw [he9] at V1
  have V := V1
  refine W.eq (g2 := F0 m 51 ls [.int (gh_bi true)]) rfl ?_
  have hk5 : 5 ≤ vt_k O := vt_hi5 hhi
  have hc16 := (vo_o.mp hO.2).2.2.2.2.2.2.1
  have h3v : I 3 v = nI (vt_c O) := by rw [(mv_o.mp hO.1).2.2.2.1]; unfold vt_ln; rw [if_neg (by omega)]
  refine lv_if_ne (tgt := 62) hx hb d_Mo_each_51 (by decide) (fun c2 => ?_) (fun c2 => absurd c2 (by decide))
  refine lv_iload_n hx hb d_Mo_each_62 rfl (lv_at hl 0 rfl) ?_
  refine lv_aload_n hx hb d_Mo_each_63 rfl (lv_at hl 2 rfl) ?_
  refine mo_getA C V X 3 (by decide) (by decide) f_Mo_17 rfl d_Mo_each_64 ?_
  refine lv_iload_n hx hb d_Mo_each_67 rfl (lv_at hl 1 rfl) ?_
  refine mo_ild (k := 3) (i := v) (n := 760) C V X (by decide) (by decide) rfl (by omega) (by decide) d_Mo_each_68 ?_
  rw [show (va_up (va_up (va_up I 40 (upd (I 40) cp 0)) 35 (upd ((va_up I 40 (upd (I 40) cp 0)) 35) cp 1)) 40 (upd ((va_up (va_up I 40 (upd (I 40) cp 0)) 35 (upd ((va_up I 40 (upd (I 40) cp 0)) 35) cp 1)) 40) cp (nI (0 + 1)))) 3 v = nI (vt_c O) from (((congrFun (va_up_n (by decide)) v).trans (((congrFun (va_up_n (by decide)) v).trans (((congrFun (va_up_n (by decide)) v).trans (rfl)))))).trans h3v)]
  refine lv_icmp_ge (tgt := 85) hx hb d_Mo_each_69 (by decide) (fun c3 => absurd c3 (nI_ge (a := 0) (by omega) (by omega))) (fun c3 => ?_)
  refine lv_aload_n hx hb d_Mo_each_72 rfl (lv_at hl 2 rfl) ?_
  refine lv_aload_n hx hb d_Mo_each_73 rfl (lv_at hl 2 rfl) ?_
  refine lv_iload_n hx hb d_Mo_each_74 rfl (lv_at hl 1 rfl) ?_
  refine lv_iload_n hx hb d_Mo_each_75 rfl (lv_at hl 0 rfl) ?_
  obtain ⟨fv, B, K, hfv, ⟨hf1, hf2, hf3⟩, hB, hK⟩ := (mv_o.mp hO.1).2.2.2.2.2.2.2 hk5
  have hfv1 : (va_up (va_up (va_up I 40 (upd (I 40) cp 0)) 35 (upd ((va_up I 40 (upd (I 40) cp 0)) 35) cp 1)) 40 (upd ((va_up (va_up I 40 (upd (I 40) cp 0)) 35 (upd ((va_up I 40 (upd (I 40) cp 0)) 35) cp 1)) 40) cp (nI (0 + 1)))) 9 v = nI fv := ((congrFun (va_up_n (by decide)) v).trans (((congrFun (va_up_n (by decide)) v).trans (((congrFun (va_up_n (by decide)) v).trans (rfl)))))).trans hfv
  have hBi : (va_up (va_up (va_up I 40 (upd (I 40) cp 0)) 35 (upd ((va_up I 40 (upd (I 40) cp 0)) 35) cp 1)) 40 (upd ((va_up (va_up I 40 (upd (I 40) cp 0)) 35 (upd ((va_up I 40 (upd (I 40) cp 0)) 35) cp 1)) 40) cp (nI (0 + 1)))) 10 (fv + 0) = nI (B 0) := by simp only [va_up_n (show (10 : Nat) ≠ 35 by decide), va_up_n (show (10 : Nat) ≠ 40 by decide)]; exact (hB 0 (by omega)).1
  refine gh_callV C V hl.1 m_Mo_itemOf l_Mo_176 (c_Mo_itemOf l E _ _ a ad _ _ _ v 0 fv X.1 hv7 hfv1 (by omega)) rfl X.1.1 gc_Mo ⟨by first | decide | omega | (dsimp only; omega), by first | decide | omega | (dsimp only; omega)⟩ ⟨by first | decide | omega | (dsimp only; omega), by first | decide | omega | (dsimp only; omega)⟩ (Nat.le_of_ble_eq_true rfl) rfl d_Mo_each_76 (fun r z9 H locs hp V1 => ?_)
  rw [hBi] at hp
  obtain ⟨rfl, he9⟩ := hp
  rw [he9] at V1
  have V := V1
  refine W.eq (g2 := F0 m 79 ls [.int (nI (B 0)), .ref a]) rfl ?_
  refine gh_callV C V hl.1 m_Mo_give l_Mo_342 (c_Mo_give l E _ _ a ad _ _ _ (nI (B 0)) w X.1 h45) rfl X.1.1 gc_Mo ⟨by first | decide | omega | (dsimp only; omega), by first | decide | omega | (dsimp only; omega)⟩ ⟨by first | decide | omega | (dsimp only; omega), by first | decide | omega | (dsimp only; omega)⟩ (Nat.le_of_ble_eq_true rfl) rfl d_Mo_each_79 (fun r z9 H locs hp V1 => ?_)
  obtain ⟨rfl, X2⟩ := hp
  have X := X.then X2
  have V := V1
  refine W.eq (g2 := F0 m 82 ls []) rfl ?_
  refine lv_goto (tgt := 90) hx hb d_Mo_each_82 (by decide) ?_
  refine gh_retv hAe C V hr hlocks d_Mo_each_90 (by first | decide | omega | (dsimp only; omega)) (by first | decide | omega | (dsimp only; omega)) ?_
  exact ⟨rfl, _, _, X, (((mct.rf.cell 40 0 (by decide) (by decide)).cell 35 1 (by decide) (by decide)).cell 40 (nI (0 + 1)) (by decide) (by decide)).give, B 0, mw_item hO.2 (by omega) (hB 0 (by omega)).2, oc_t2 rfl rfl⟩
set_option maxHeartbeats 4000000 in
set_option maxRecDepth 100000 in
theorem c_Mo_each_0e (l : Launch) (E : gh_E) (sz : Nat) (f : gh_F) (a : Nat) (ad : Nat → Nat) (S : Nat → Int32) (I : Nat → Nat → Int32) (J : Nat → Nat → Int64) (w cp φ : Nat) (b0 nv pb np v : Nat) (O : vt) (hX : mo_R E f a ad S I J) (h45 : S 45 = nI (w + 1)) (hw : w < 14) (hc60 : cp < 60) (hph : I 35 cp = 0) (hit : I 36 cp = nI v) (hO : mw I J b0 nv pb np v O) (hhi : vt_hi O = true) (hge : vt_c O ≤ 0) : gh_M l y_Mo_each b_Mo_each 4 none E sz [.ref a, .int (nI cp)] f { frames := 7, cells := 0, slots := 0, locals := 200 } (fun r g => r = none ∧ ∃ S2 I2, mo_X E f g a ad S2 I2 J ∧ mct cp w (fun _ => False) (va_up (va_up (va_up (fun k => I k cp) 40 0) 35 1) 40 1) S I S2 I2 ∧ oc_t w 2 (S 47) S S2) := by
  refine gh_open (by decide) (Nat.le_of_ble_eq_true rfl) ?_
  intro p e s m args below meth c A ls hAe C V hr hlocks hname hl
  have hx := C.1
  have hb := C.2.1
  have hl : lv_has ls 4 [(0, .ref a), (1, .int (nI cp))] := hl
  have X : mo_X E f f a ad S I J := ⟨hX, gh_fr.rf⟩
  refine lv_aload_n hx hb d_Mo_each_0 rfl (lv_at hl 0 rfl) ?_
  refine mo_getA C V X 36 (by decide) (by decide) f_Mo_91 rfl d_Mo_each_1 ?_
  refine lv_iload_n hx hb d_Mo_each_4 rfl (lv_at hl 1 rfl) ?_
  refine mo_ild (k := 36) (i := cp) (n := 60) C V X (by decide) (by decide) rfl (by omega) (by decide) d_Mo_each_5 ?_
  rw [show I 36 cp = nI v from hit]
  refine lv_istore_n hx hb d_Mo_each_6 rfl hl (by decide) rfl (fun ls hl => ?_)
  have hl : lv_has ls 4 [(2, .int (nI v)), (0, .ref a), (1, .int (nI cp))] := hl
  refine lv_aload_n hx hb d_Mo_each_7 rfl (lv_at hl 1 rfl) ?_
  refine mo_getA C V X 35 (by decide) (by decide) f_Mo_88 rfl d_Mo_each_8 ?_
  refine lv_iload_n hx hb d_Mo_each_11 rfl (lv_at hl 2 rfl) ?_
  refine mo_ild (k := 35) (i := cp) (n := 60) C V X (by decide) (by decide) rfl (by omega) (by decide) d_Mo_each_12 ?_
  rw [show I 35 cp = 0 from hph]
  refine lv_if_ne (tgt := 23) hx hb d_Mo_each_13 (by decide) (fun c1 => absurd (by decide) c1) (fun c1 => ?_)
  refine lv_aload_n hx hb d_Mo_each_16 rfl (lv_at hl 1 rfl) ?_
  refine mo_getA C V X 40 (by decide) (by decide) f_Mo_103 rfl d_Mo_each_17 ?_
  refine lv_iload_n hx hb d_Mo_each_20 rfl (lv_at hl 2 rfl) ?_
  refine lv_iconst (v := 0) hx hb d_Mo_each_21 (by decide) ?_
  refine mo_ist (k := 40) (i := cp) (n := 60) C V X (by decide) (by decide) rfl (by omega) (by decide) d_Mo_each_22 (fun f1 H locs V1 X1 => ?_)
  clear V X
  have V := V1
  have X := X1
  clear V1 X1
  refine lv_aload_n hx hb d_Mo_each_23 rfl (lv_at hl 1 rfl) ?_
  refine mo_getA C V X 35 (by decide) (by decide) f_Mo_88 rfl d_Mo_each_24 ?_
  refine lv_iload_n hx hb d_Mo_each_27 rfl (lv_at hl 2 rfl) ?_
  refine lv_iconst (v := 1) hx hb d_Mo_each_28 (by decide) ?_
  refine mo_ist (k := 35) (i := cp) (n := 60) C V X (by decide) (by decide) rfl (by omega) (by decide) d_Mo_each_29 (fun f1 H locs V1 X1 => ?_)
  clear V X
  have V := V1
  have X := X1
  clear V1 X1
  refine lv_aload_n hx hb d_Mo_each_30 rfl (lv_at hl 1 rfl) ?_
  refine mo_getA C V X 40 (by decide) (by decide) f_Mo_103 rfl d_Mo_each_31 ?_
  refine lv_iload_n hx hb d_Mo_each_34 rfl (lv_at hl 2 rfl) ?_
  refine mo_ild (k := 40) (i := cp) (n := 60) C V X (by decide) (by decide) rfl (by omega) (by decide) d_Mo_each_35 ?_
  rw [show (va_up (va_up I 40 (upd (I 40) cp 0)) 35 (upd ((va_up I 40 (upd (I 40) cp 0)) 35) cp 1)) 40 cp = 0 from ((congrFun (va_up_n (by decide)) cp).trans (((congrFun va_up_s cp).trans (by simp [upd]))))]
  refine lv_istore_n hx hb d_Mo_each_36 rfl hl (by decide) rfl (fun ls hl => ?_)
  have hl : lv_has ls 4 [(3, .int 0), (2, .int (nI v)), (0, .ref a), (1, .int (nI cp))] := hl
  refine lv_aload_n hx hb d_Mo_each_37 rfl (lv_at hl 2 rfl) ?_
  refine mo_getA C V X 40 (by decide) (by decide) f_Mo_103 rfl d_Mo_each_38 ?_
  refine lv_iload_n hx hb d_Mo_each_41 rfl (lv_at hl 3 rfl) ?_
  refine lv_iload_n hx hb d_Mo_each_42 rfl (lv_at hl 0 rfl) ?_
  refine lv_iconst (v := 1) hx hb d_Mo_each_43 (by decide) ?_
  refine gn_iadd (a := 0) (b := 1) hx hb d_Mo_each_44 ?_
  refine mo_ist (k := 40) (i := cp) (n := 60) C V X (by decide) (by decide) rfl (by omega) (by decide) d_Mo_each_45 (fun f1 H locs V1 X1 => ?_)
  clear V X
  have V := V1
  have X := X1
  clear V1 X1
  refine lv_aload_n hx hb d_Mo_each_46 rfl (lv_at hl 2 rfl) ?_
  refine lv_iload_n hx hb d_Mo_each_47 rfl (lv_at hl 1 rfl) ?_
  have h1v := (mv_o.mp hO.1).2.1
  have hv7 := hO.lt
  have hmn : (decide ((va_up (va_up (va_up I 40 (upd (I 40) cp 0)) 35 (upd ((va_up I 40 (upd (I 40) cp 0)) 35) cp 1)) 40 (upd ((va_up (va_up I 40 (upd (I 40) cp 0)) 35 (upd ((va_up I 40 (upd (I 40) cp 0)) 35) cp 1)) 40) cp (nI (0 + 1)))) 1 v = 5) || decide ((va_up (va_up (va_up I 40 (upd (I 40) cp 0)) 35 (upd ((va_up I 40 (upd (I 40) cp 0)) 35) cp 1)) 40 (upd ((va_up (va_up I 40 (upd (I 40) cp 0)) 35 (upd ((va_up I 40 (upd (I 40) cp 0)) 35) cp 1)) 40) cp (nI (0 + 1)))) 1 v = 6)) = true := by rw [show (va_up (va_up (va_up I 40 (upd (I 40) cp 0)) 35 (upd ((va_up I 40 (upd (I 40) cp 0)) 35) cp 1)) 40 (upd ((va_up (va_up I 40 (upd (I 40) cp 0)) 35 (upd ((va_up I 40 (upd (I 40) cp 0)) 35) cp 1)) 40) cp (nI (0 + 1)))) 1 v = I 1 v from ((congrFun (va_up_n (by decide)) v).trans (((congrFun (va_up_n (by decide)) v).trans (((congrFun (va_up_n (by decide)) v).trans (rfl)))))), h1v]; exact mw_many hO hhi
  refine gh_callV C V hl.1 m_Mo_isMany l_Mo_169 (c_Mo_isMany l E _ _ a ad _ _ _ v X.1 hv7) rfl X.1.1 gc_Mo ⟨by first | decide | omega | (dsimp only; omega), by first | decide | omega | (dsimp only; omega)⟩ ⟨by first | decide | omega | (dsimp only; omega), by first | decide | omega | (dsimp only; omega)⟩ (Nat.le_of_ble_eq_true rfl) rfl d_Mo_each_48 (fun r z9 H locs hp V1 => ?_)
  rw [hmn] at hp
  obtain ⟨rfl, he9⟩ := hp
  rw [he9] at V1
  have V := V1
  refine W.eq (g2 := F0 m 51 ls [.int (gh_bi true)]) rfl ?_
  have hk5 : 5 ≤ vt_k O := vt_hi5 hhi
  have hc16 := (vo_o.mp hO.2).2.2.2.2.2.2.1
  have h3v : I 3 v = nI (vt_c O) := by rw [(mv_o.mp hO.1).2.2.2.1]; unfold vt_ln; rw [if_neg (by omega)]
  refine lv_if_ne (tgt := 62) hx hb d_Mo_each_51 (by decide) (fun c2 => ?_) (fun c2 => absurd c2 (by decide))
  refine lv_iload_n hx hb d_Mo_each_62 rfl (lv_at hl 0 rfl) ?_
  refine lv_aload_n hx hb d_Mo_each_63 rfl (lv_at hl 2 rfl) ?_
  refine mo_getA C V X 3 (by decide) (by decide) f_Mo_17 rfl d_Mo_each_64 ?_
  refine lv_iload_n hx hb d_Mo_each_67 rfl (lv_at hl 1 rfl) ?_
  refine mo_ild (k := 3) (i := v) (n := 760) C V X (by decide) (by decide) rfl (by omega) (by decide) d_Mo_each_68 ?_
  rw [show (va_up (va_up (va_up I 40 (upd (I 40) cp 0)) 35 (upd ((va_up I 40 (upd (I 40) cp 0)) 35) cp 1)) 40 (upd ((va_up (va_up I 40 (upd (I 40) cp 0)) 35 (upd ((va_up I 40 (upd (I 40) cp 0)) 35) cp 1)) 40) cp (nI (0 + 1)))) 3 v = nI (vt_c O) from (((congrFun (va_up_n (by decide)) v).trans (((congrFun (va_up_n (by decide)) v).trans (((congrFun (va_up_n (by decide)) v).trans (rfl)))))).trans h3v)]
  refine lv_icmp_ge (tgt := 85) hx hb d_Mo_each_69 (by decide) (fun c3 => ?_) (fun c3 => absurd (nI_le (b := 0) (by omega) (by omega)) c3)
  refine lv_aload_n hx hb d_Mo_each_85 rfl (lv_at hl 2 rfl) ?_
  refine lv_iconst (v := 2) hx hb d_Mo_each_86 (by decide) ?_
  refine gh_callV C V hl.1 m_Mo_tell l_Mo_289 (c_Mo_tell l E _ _ a ad _ _ _ 2 w X.1 h45) rfl X.1.1 gc_Mo ⟨by first | decide | omega | (dsimp only; omega), by first | decide | omega | (dsimp only; omega)⟩ ⟨by first | decide | omega | (dsimp only; omega), by first | decide | omega | (dsimp only; omega)⟩ (Nat.le_of_ble_eq_true rfl) rfl d_Mo_each_87 (fun r z9 H locs hp V1 => ?_)
  obtain ⟨rfl, X2⟩ := hp
  have X := X.then X2
  have V := V1
  refine W.eq (g2 := F0 m 90 ls []) rfl ?_
  refine gh_retv hAe C V hr hlocks d_Mo_each_90 (by first | decide | omega | (dsimp only; omega)) (by first | decide | omega | (dsimp only; omega)) ?_
  exact ⟨rfl, _, _, X, (((mct.rf.cell 40 0 (by decide) (by decide)).cell 35 1 (by decide) (by decide)).cell 40 (nI (0 + 1)) (by decide) (by decide)).tell, oc_t1 rfl rfl rfl⟩
set_option maxHeartbeats 4000000 in
set_option maxRecDepth 100000 in
theorem c_Mo_each_1f (l : Launch) (E : gh_E) (sz : Nat) (f : gh_F) (a : Nat) (ad : Nat → Nat) (S : Nat → Int32) (I : Nat → Nat → Int32) (J : Nat → Nat → Int64) (w cp φ : Nat) (b0 nv pb np v : Nat) (O : vt) (i9 : Nat) (hX : mo_R E f a ad S I J) (h45 : S 45 = nI (w + 1)) (hw : w < 14) (hc60 : cp < 60) (hph : I 35 cp = 1) (hit : I 36 cp = nI v) (hO : mw I J b0 nv pb np v O) (hix : I 40 cp = nI i9) (hi16 : i9 ≤ 16) (hhi : vt_hi O = false) : gh_M l y_Mo_each b_Mo_each 4 none E sz [.ref a, .int (nI cp)] f { frames := 7, cells := 0, slots := 0, locals := 200 } (fun r g => r = none ∧ ∃ S2 I2, mo_X E f g a ad S2 I2 J ∧ mct cp w (fun _ => False) (va_up (va_up (fun k => I k cp) 35 1) 40 (nI (i9 + 1))) S I S2 I2 ∧ oc_t w 3 (S 47) S S2) := by
  refine gh_open (by decide) (Nat.le_of_ble_eq_true rfl) ?_
  intro p e s m args below meth c A ls hAe C V hr hlocks hname hl
  have hx := C.1
  have hb := C.2.1
  have hl : lv_has ls 4 [(0, .ref a), (1, .int (nI cp))] := hl
  have X : mo_X E f f a ad S I J := ⟨hX, gh_fr.rf⟩
  refine lv_aload_n hx hb d_Mo_each_0 rfl (lv_at hl 0 rfl) ?_
  refine mo_getA C V X 36 (by decide) (by decide) f_Mo_91 rfl d_Mo_each_1 ?_
  refine lv_iload_n hx hb d_Mo_each_4 rfl (lv_at hl 1 rfl) ?_
  refine mo_ild (k := 36) (i := cp) (n := 60) C V X (by decide) (by decide) rfl (by omega) (by decide) d_Mo_each_5 ?_
  rw [show I 36 cp = nI v from hit]
  refine lv_istore_n hx hb d_Mo_each_6 rfl hl (by decide) rfl (fun ls hl => ?_)
  have hl : lv_has ls 4 [(2, .int (nI v)), (0, .ref a), (1, .int (nI cp))] := hl
  refine lv_aload_n hx hb d_Mo_each_7 rfl (lv_at hl 1 rfl) ?_
  refine mo_getA C V X 35 (by decide) (by decide) f_Mo_88 rfl d_Mo_each_8 ?_
  refine lv_iload_n hx hb d_Mo_each_11 rfl (lv_at hl 2 rfl) ?_
  refine mo_ild (k := 35) (i := cp) (n := 60) C V X (by decide) (by decide) rfl (by omega) (by decide) d_Mo_each_12 ?_
  rw [show I 35 cp = 1 from hph]
  refine lv_if_ne (tgt := 23) hx hb d_Mo_each_13 (by decide) (fun c1 => ?_) (fun c1 => absurd c1 (by decide))
  refine lv_aload_n hx hb d_Mo_each_23 rfl (lv_at hl 1 rfl) ?_
  refine mo_getA C V X 35 (by decide) (by decide) f_Mo_88 rfl d_Mo_each_24 ?_
  refine lv_iload_n hx hb d_Mo_each_27 rfl (lv_at hl 2 rfl) ?_
  refine lv_iconst (v := 1) hx hb d_Mo_each_28 (by decide) ?_
  refine mo_ist (k := 35) (i := cp) (n := 60) C V X (by decide) (by decide) rfl (by omega) (by decide) d_Mo_each_29 (fun f1 H locs V1 X1 => ?_)
  clear V X
  have V := V1
  have X := X1
  clear V1 X1
  refine lv_aload_n hx hb d_Mo_each_30 rfl (lv_at hl 1 rfl) ?_
  refine mo_getA C V X 40 (by decide) (by decide) f_Mo_103 rfl d_Mo_each_31 ?_
  refine lv_iload_n hx hb d_Mo_each_34 rfl (lv_at hl 2 rfl) ?_
  refine mo_ild (k := 40) (i := cp) (n := 60) C V X (by decide) (by decide) rfl (by omega) (by decide) d_Mo_each_35 ?_
  rw [show (va_up I 35 (upd (I 35) cp 1)) 40 cp = nI i9 from ((congrFun (va_up_n (by decide)) cp).trans (hix))]
  refine lv_istore_n hx hb d_Mo_each_36 rfl hl (by decide) rfl (fun ls hl => ?_)
  have hl : lv_has ls 4 [(3, .int (nI i9)), (2, .int (nI v)), (0, .ref a), (1, .int (nI cp))] := hl
  refine lv_aload_n hx hb d_Mo_each_37 rfl (lv_at hl 2 rfl) ?_
  refine mo_getA C V X 40 (by decide) (by decide) f_Mo_103 rfl d_Mo_each_38 ?_
  refine lv_iload_n hx hb d_Mo_each_41 rfl (lv_at hl 3 rfl) ?_
  refine lv_iload_n hx hb d_Mo_each_42 rfl (lv_at hl 0 rfl) ?_
  refine lv_iconst (v := 1) hx hb d_Mo_each_43 (by decide) ?_
  refine gn_iadd (a := i9) (b := 1) hx hb d_Mo_each_44 ?_
  refine mo_ist (k := 40) (i := cp) (n := 60) C V X (by decide) (by decide) rfl (by omega) (by decide) d_Mo_each_45 (fun f1 H locs V1 X1 => ?_)
  clear V X
  have V := V1
  have X := X1
  clear V1 X1
  refine lv_aload_n hx hb d_Mo_each_46 rfl (lv_at hl 2 rfl) ?_
  refine lv_iload_n hx hb d_Mo_each_47 rfl (lv_at hl 1 rfl) ?_
  have h1v := (mv_o.mp hO.1).2.1
  have hv7 := hO.lt
  have hmn : (decide ((va_up (va_up I 35 (upd (I 35) cp 1)) 40 (upd ((va_up I 35 (upd (I 35) cp 1)) 40) cp (nI (i9 + 1)))) 1 v = 5) || decide ((va_up (va_up I 35 (upd (I 35) cp 1)) 40 (upd ((va_up I 35 (upd (I 35) cp 1)) 40) cp (nI (i9 + 1)))) 1 v = 6)) = false := by rw [show (va_up (va_up I 35 (upd (I 35) cp 1)) 40 (upd ((va_up I 35 (upd (I 35) cp 1)) 40) cp (nI (i9 + 1)))) 1 v = I 1 v from ((congrFun (va_up_n (by decide)) v).trans (((congrFun (va_up_n (by decide)) v).trans (rfl)))), h1v]; exact mw_many hO hhi
  refine gh_callV C V hl.1 m_Mo_isMany l_Mo_169 (c_Mo_isMany l E _ _ a ad _ _ _ v X.1 hv7) rfl X.1.1 gc_Mo ⟨by first | decide | omega | (dsimp only; omega), by first | decide | omega | (dsimp only; omega)⟩ ⟨by first | decide | omega | (dsimp only; omega), by first | decide | omega | (dsimp only; omega)⟩ (Nat.le_of_ble_eq_true rfl) rfl d_Mo_each_48 (fun r z9 H locs hp V1 => ?_)
  rw [hmn] at hp
  obtain ⟨rfl, he9⟩ := hp
  rw [he9] at V1
  have V := V1
  refine W.eq (g2 := F0 m 51 ls [.int (gh_bi false)]) rfl ?_
  refine lv_if_ne (tgt := 62) hx hb d_Mo_each_51 (by decide) (fun c2 => absurd (by decide) c2) (fun c2 => ?_)
  refine lv_aload_n hx hb d_Mo_each_54 rfl (lv_at hl 2 rfl) ?_
  refine lv_iconst (v := 3) hx hb d_Mo_each_55 (by decide) ?_
  refine gh_callV C V hl.1 m_Mo_tell l_Mo_289 (c_Mo_tell l E _ _ a ad _ _ _ 3 w X.1 h45) rfl X.1.1 gc_Mo ⟨by first | decide | omega | (dsimp only; omega), by first | decide | omega | (dsimp only; omega)⟩ ⟨by first | decide | omega | (dsimp only; omega), by first | decide | omega | (dsimp only; omega)⟩ (Nat.le_of_ble_eq_true rfl) rfl d_Mo_each_56 (fun r z9 H locs hp V1 => ?_)
  obtain ⟨rfl, X2⟩ := hp
  have X := X.then X2
  have V := V1
  refine W.eq (g2 := F0 m 59 ls []) rfl ?_
  refine lv_goto (tgt := 90) hx hb d_Mo_each_59 (by decide) ?_
  refine gh_retv hAe C V hr hlocks d_Mo_each_90 (by first | decide | omega | (dsimp only; omega)) (by first | decide | omega | (dsimp only; omega)) ?_
  exact ⟨rfl, _, _, X, ((mct.rf.cell 35 1 (by decide) (by decide)).cell 40 (nI (i9 + 1)) (by decide) (by decide)).tell, oc_t1 rfl rfl rfl⟩
set_option maxHeartbeats 4000000 in
set_option maxRecDepth 100000 in
theorem c_Mo_each_1g (l : Launch) (E : gh_E) (sz : Nat) (f : gh_F) (a : Nat) (ad : Nat → Nat) (S : Nat → Int32) (I : Nat → Nat → Int32) (J : Nat → Nat → Int64) (w cp φ : Nat) (b0 nv pb np v : Nat) (O : vt) (i9 : Nat) (hX : mo_R E f a ad S I J) (h45 : S 45 = nI (w + 1)) (hw : w < 14) (hc60 : cp < 60) (hph : I 35 cp = 1) (hit : I 36 cp = nI v) (hO : mw I J b0 nv pb np v O) (hix : I 40 cp = nI i9) (hi16 : i9 ≤ 16) (hhi : vt_hi O = true) (hlt : i9 < vt_c O) : gh_M l y_Mo_each b_Mo_each 4 none E sz [.ref a, .int (nI cp)] f { frames := 7, cells := 0, slots := 0, locals := 200 } (fun r g => r = none ∧ ∃ S2 I2, mo_X E f g a ad S2 I2 J ∧ mct cp w (fun _ => False) (va_up (va_up (fun k => I k cp) 35 1) 40 (nI (i9 + 1))) S I S2 I2 ∧ ∃ b, mw I J b0 nv pb np b (vt_s O i9) ∧ oc_t w 1 (nI b) S S2) := by
  refine gh_open (by decide) (Nat.le_of_ble_eq_true rfl) ?_
  intro p e s m args below meth c A ls hAe C V hr hlocks hname hl
  have hx := C.1
  have hb := C.2.1
  have hl : lv_has ls 4 [(0, .ref a), (1, .int (nI cp))] := hl
  have X : mo_X E f f a ad S I J := ⟨hX, gh_fr.rf⟩
  refine lv_aload_n hx hb d_Mo_each_0 rfl (lv_at hl 0 rfl) ?_
  refine mo_getA C V X 36 (by decide) (by decide) f_Mo_91 rfl d_Mo_each_1 ?_
  refine lv_iload_n hx hb d_Mo_each_4 rfl (lv_at hl 1 rfl) ?_
  refine mo_ild (k := 36) (i := cp) (n := 60) C V X (by decide) (by decide) rfl (by omega) (by decide) d_Mo_each_5 ?_
  rw [show I 36 cp = nI v from hit]
  refine lv_istore_n hx hb d_Mo_each_6 rfl hl (by decide) rfl (fun ls hl => ?_)
  have hl : lv_has ls 4 [(2, .int (nI v)), (0, .ref a), (1, .int (nI cp))] := hl
  refine lv_aload_n hx hb d_Mo_each_7 rfl (lv_at hl 1 rfl) ?_
  refine mo_getA C V X 35 (by decide) (by decide) f_Mo_88 rfl d_Mo_each_8 ?_
  refine lv_iload_n hx hb d_Mo_each_11 rfl (lv_at hl 2 rfl) ?_
  refine mo_ild (k := 35) (i := cp) (n := 60) C V X (by decide) (by decide) rfl (by omega) (by decide) d_Mo_each_12 ?_
  rw [show I 35 cp = 1 from hph]
  refine lv_if_ne (tgt := 23) hx hb d_Mo_each_13 (by decide) (fun c1 => ?_) (fun c1 => absurd c1 (by decide))
  refine lv_aload_n hx hb d_Mo_each_23 rfl (lv_at hl 1 rfl) ?_
  refine mo_getA C V X 35 (by decide) (by decide) f_Mo_88 rfl d_Mo_each_24 ?_
  refine lv_iload_n hx hb d_Mo_each_27 rfl (lv_at hl 2 rfl) ?_
  refine lv_iconst (v := 1) hx hb d_Mo_each_28 (by decide) ?_
  refine mo_ist (k := 35) (i := cp) (n := 60) C V X (by decide) (by decide) rfl (by omega) (by decide) d_Mo_each_29 (fun f1 H locs V1 X1 => ?_)
  clear V X
  have V := V1
  have X := X1
  clear V1 X1
  refine lv_aload_n hx hb d_Mo_each_30 rfl (lv_at hl 1 rfl) ?_
  refine mo_getA C V X 40 (by decide) (by decide) f_Mo_103 rfl d_Mo_each_31 ?_
  refine lv_iload_n hx hb d_Mo_each_34 rfl (lv_at hl 2 rfl) ?_
  refine mo_ild (k := 40) (i := cp) (n := 60) C V X (by decide) (by decide) rfl (by omega) (by decide) d_Mo_each_35 ?_
  rw [show (va_up I 35 (upd (I 35) cp 1)) 40 cp = nI i9 from ((congrFun (va_up_n (by decide)) cp).trans (hix))]
  refine lv_istore_n hx hb d_Mo_each_36 rfl hl (by decide) rfl (fun ls hl => ?_)
  have hl : lv_has ls 4 [(3, .int (nI i9)), (2, .int (nI v)), (0, .ref a), (1, .int (nI cp))] := hl
  refine lv_aload_n hx hb d_Mo_each_37 rfl (lv_at hl 2 rfl) ?_
  refine mo_getA C V X 40 (by decide) (by decide) f_Mo_103 rfl d_Mo_each_38 ?_
  refine lv_iload_n hx hb d_Mo_each_41 rfl (lv_at hl 3 rfl) ?_
  refine lv_iload_n hx hb d_Mo_each_42 rfl (lv_at hl 0 rfl) ?_
  refine lv_iconst (v := 1) hx hb d_Mo_each_43 (by decide) ?_
  refine gn_iadd (a := i9) (b := 1) hx hb d_Mo_each_44 ?_
  refine mo_ist (k := 40) (i := cp) (n := 60) C V X (by decide) (by decide) rfl (by omega) (by decide) d_Mo_each_45 (fun f1 H locs V1 X1 => ?_)
  clear V X
  have V := V1
  have X := X1
  clear V1 X1
  refine lv_aload_n hx hb d_Mo_each_46 rfl (lv_at hl 2 rfl) ?_
  refine lv_iload_n hx hb d_Mo_each_47 rfl (lv_at hl 1 rfl) ?_
  have h1v := (mv_o.mp hO.1).2.1
  have hv7 := hO.lt
  have hmn : (decide ((va_up (va_up I 35 (upd (I 35) cp 1)) 40 (upd ((va_up I 35 (upd (I 35) cp 1)) 40) cp (nI (i9 + 1)))) 1 v = 5) || decide ((va_up (va_up I 35 (upd (I 35) cp 1)) 40 (upd ((va_up I 35 (upd (I 35) cp 1)) 40) cp (nI (i9 + 1)))) 1 v = 6)) = true := by rw [show (va_up (va_up I 35 (upd (I 35) cp 1)) 40 (upd ((va_up I 35 (upd (I 35) cp 1)) 40) cp (nI (i9 + 1)))) 1 v = I 1 v from ((congrFun (va_up_n (by decide)) v).trans (((congrFun (va_up_n (by decide)) v).trans (rfl)))), h1v]; exact mw_many hO hhi
  refine gh_callV C V hl.1 m_Mo_isMany l_Mo_169 (c_Mo_isMany l E _ _ a ad _ _ _ v X.1 hv7) rfl X.1.1 gc_Mo ⟨by first | decide | omega | (dsimp only; omega), by first | decide | omega | (dsimp only; omega)⟩ ⟨by first | decide | omega | (dsimp only; omega), by first | decide | omega | (dsimp only; omega)⟩ (Nat.le_of_ble_eq_true rfl) rfl d_Mo_each_48 (fun r z9 H locs hp V1 => ?_)
  rw [hmn] at hp
  obtain ⟨rfl, he9⟩ := hp
  rw [he9] at V1
  have V := V1
  refine W.eq (g2 := F0 m 51 ls [.int (gh_bi true)]) rfl ?_
  have hk5 : 5 ≤ vt_k O := vt_hi5 hhi
  have hc16 := (vo_o.mp hO.2).2.2.2.2.2.2.1
  have h3v : I 3 v = nI (vt_c O) := by rw [(mv_o.mp hO.1).2.2.2.1]; unfold vt_ln; rw [if_neg (by omega)]
  refine lv_if_ne (tgt := 62) hx hb d_Mo_each_51 (by decide) (fun c2 => ?_) (fun c2 => absurd c2 (by decide))
  refine lv_iload_n hx hb d_Mo_each_62 rfl (lv_at hl 0 rfl) ?_
  refine lv_aload_n hx hb d_Mo_each_63 rfl (lv_at hl 2 rfl) ?_
  refine mo_getA C V X 3 (by decide) (by decide) f_Mo_17 rfl d_Mo_each_64 ?_
  refine lv_iload_n hx hb d_Mo_each_67 rfl (lv_at hl 1 rfl) ?_
  refine mo_ild (k := 3) (i := v) (n := 760) C V X (by decide) (by decide) rfl (by omega) (by decide) d_Mo_each_68 ?_
  rw [show (va_up (va_up I 35 (upd (I 35) cp 1)) 40 (upd ((va_up I 35 (upd (I 35) cp 1)) 40) cp (nI (i9 + 1)))) 3 v = nI (vt_c O) from (((congrFun (va_up_n (by decide)) v).trans (((congrFun (va_up_n (by decide)) v).trans (rfl)))).trans h3v)]
  refine lv_icmp_ge (tgt := 85) hx hb d_Mo_each_69 (by decide) (fun c3 => absurd c3 (nI_ge (a := i9) (by omega) (by omega))) (fun c3 => ?_)
  refine lv_aload_n hx hb d_Mo_each_72 rfl (lv_at hl 2 rfl) ?_
  refine lv_aload_n hx hb d_Mo_each_73 rfl (lv_at hl 2 rfl) ?_
  refine lv_iload_n hx hb d_Mo_each_74 rfl (lv_at hl 1 rfl) ?_
  refine lv_iload_n hx hb d_Mo_each_75 rfl (lv_at hl 0 rfl) ?_
  obtain ⟨fv, B, K, hfv, ⟨hf1, hf2, hf3⟩, hB, hK⟩ := (mv_o.mp hO.1).2.2.2.2.2.2.2 hk5
  have hfv1 : (va_up (va_up I 35 (upd (I 35) cp 1)) 40 (upd ((va_up I 35 (upd (I 35) cp 1)) 40) cp (nI (i9 + 1)))) 9 v = nI fv := ((congrFun (va_up_n (by decide)) v).trans (((congrFun (va_up_n (by decide)) v).trans (rfl)))).trans hfv
  have hBi : (va_up (va_up I 35 (upd (I 35) cp 1)) 40 (upd ((va_up I 35 (upd (I 35) cp 1)) 40) cp (nI (i9 + 1)))) 10 (fv + i9) = nI (B i9) := by simp only [va_up_n (show (10 : Nat) ≠ 35 by decide), va_up_n (show (10 : Nat) ≠ 40 by decide)]; exact (hB i9 (by omega)).1
  refine gh_callV C V hl.1 m_Mo_itemOf l_Mo_176 (c_Mo_itemOf l E _ _ a ad _ _ _ v i9 fv X.1 hv7 hfv1 (by omega)) rfl X.1.1 gc_Mo ⟨by first | decide | omega | (dsimp only; omega), by first | decide | omega | (dsimp only; omega)⟩ ⟨by first | decide | omega | (dsimp only; omega), by first | decide | omega | (dsimp only; omega)⟩ (Nat.le_of_ble_eq_true rfl) rfl d_Mo_each_76 (fun r z9 H locs hp V1 => ?_)
  rw [hBi] at hp
  obtain ⟨rfl, he9⟩ := hp
  rw [he9] at V1
  have V := V1
  refine W.eq (g2 := F0 m 79 ls [.int (nI (B i9)), .ref a]) rfl ?_
  refine gh_callV C V hl.1 m_Mo_give l_Mo_342 (c_Mo_give l E _ _ a ad _ _ _ (nI (B i9)) w X.1 h45) rfl X.1.1 gc_Mo ⟨by first | decide | omega | (dsimp only; omega), by first | decide | omega | (dsimp only; omega)⟩ ⟨by first | decide | omega | (dsimp only; omega), by first | decide | omega | (dsimp only; omega)⟩ (Nat.le_of_ble_eq_true rfl) rfl d_Mo_each_79 (fun r z9 H locs hp V1 => ?_)
  obtain ⟨rfl, X2⟩ := hp
  have X := X.then X2
  have V := V1
  refine W.eq (g2 := F0 m 82 ls []) rfl ?_
  refine lv_goto (tgt := 90) hx hb d_Mo_each_82 (by decide) ?_
  refine gh_retv hAe C V hr hlocks d_Mo_each_90 (by first | decide | omega | (dsimp only; omega)) (by first | decide | omega | (dsimp only; omega)) ?_
  exact ⟨rfl, _, _, X, ((mct.rf.cell 35 1 (by decide) (by decide)).cell 40 (nI (i9 + 1)) (by decide) (by decide)).give, B i9, mw_item hO.2 (by omega) (hB i9 (by omega)).2, oc_t2 rfl rfl⟩
set_option maxHeartbeats 4000000 in
set_option maxRecDepth 100000 in
theorem c_Mo_each_1e (l : Launch) (E : gh_E) (sz : Nat) (f : gh_F) (a : Nat) (ad : Nat → Nat) (S : Nat → Int32) (I : Nat → Nat → Int32) (J : Nat → Nat → Int64) (w cp φ : Nat) (b0 nv pb np v : Nat) (O : vt) (i9 : Nat) (hX : mo_R E f a ad S I J) (h45 : S 45 = nI (w + 1)) (hw : w < 14) (hc60 : cp < 60) (hph : I 35 cp = 1) (hit : I 36 cp = nI v) (hO : mw I J b0 nv pb np v O) (hix : I 40 cp = nI i9) (hi16 : i9 ≤ 16) (hhi : vt_hi O = true) (hge : vt_c O ≤ i9) : gh_M l y_Mo_each b_Mo_each 4 none E sz [.ref a, .int (nI cp)] f { frames := 7, cells := 0, slots := 0, locals := 200 } (fun r g => r = none ∧ ∃ S2 I2, mo_X E f g a ad S2 I2 J ∧ mct cp w (fun _ => False) (va_up (va_up (fun k => I k cp) 35 1) 40 (nI (i9 + 1))) S I S2 I2 ∧ oc_t w 2 (S 47) S S2) := by
  refine gh_open (by decide) (Nat.le_of_ble_eq_true rfl) ?_
  intro p e s m args below meth c A ls hAe C V hr hlocks hname hl
  have hx := C.1
  have hb := C.2.1
  have hl : lv_has ls 4 [(0, .ref a), (1, .int (nI cp))] := hl
  have X : mo_X E f f a ad S I J := ⟨hX, gh_fr.rf⟩
  refine lv_aload_n hx hb d_Mo_each_0 rfl (lv_at hl 0 rfl) ?_
  refine mo_getA C V X 36 (by decide) (by decide) f_Mo_91 rfl d_Mo_each_1 ?_
  refine lv_iload_n hx hb d_Mo_each_4 rfl (lv_at hl 1 rfl) ?_
  refine mo_ild (k := 36) (i := cp) (n := 60) C V X (by decide) (by decide) rfl (by omega) (by decide) d_Mo_each_5 ?_
  rw [show I 36 cp = nI v from hit]
  refine lv_istore_n hx hb d_Mo_each_6 rfl hl (by decide) rfl (fun ls hl => ?_)
  have hl : lv_has ls 4 [(2, .int (nI v)), (0, .ref a), (1, .int (nI cp))] := hl
  refine lv_aload_n hx hb d_Mo_each_7 rfl (lv_at hl 1 rfl) ?_
  refine mo_getA C V X 35 (by decide) (by decide) f_Mo_88 rfl d_Mo_each_8 ?_
  refine lv_iload_n hx hb d_Mo_each_11 rfl (lv_at hl 2 rfl) ?_
  refine mo_ild (k := 35) (i := cp) (n := 60) C V X (by decide) (by decide) rfl (by omega) (by decide) d_Mo_each_12 ?_
  rw [show I 35 cp = 1 from hph]
  refine lv_if_ne (tgt := 23) hx hb d_Mo_each_13 (by decide) (fun c1 => ?_) (fun c1 => absurd c1 (by decide))
  refine lv_aload_n hx hb d_Mo_each_23 rfl (lv_at hl 1 rfl) ?_
  refine mo_getA C V X 35 (by decide) (by decide) f_Mo_88 rfl d_Mo_each_24 ?_
  refine lv_iload_n hx hb d_Mo_each_27 rfl (lv_at hl 2 rfl) ?_
  refine lv_iconst (v := 1) hx hb d_Mo_each_28 (by decide) ?_
  refine mo_ist (k := 35) (i := cp) (n := 60) C V X (by decide) (by decide) rfl (by omega) (by decide) d_Mo_each_29 (fun f1 H locs V1 X1 => ?_)
  clear V X
  have V := V1
  have X := X1
  clear V1 X1
  refine lv_aload_n hx hb d_Mo_each_30 rfl (lv_at hl 1 rfl) ?_
  refine mo_getA C V X 40 (by decide) (by decide) f_Mo_103 rfl d_Mo_each_31 ?_
  refine lv_iload_n hx hb d_Mo_each_34 rfl (lv_at hl 2 rfl) ?_
  refine mo_ild (k := 40) (i := cp) (n := 60) C V X (by decide) (by decide) rfl (by omega) (by decide) d_Mo_each_35 ?_
  rw [show (va_up I 35 (upd (I 35) cp 1)) 40 cp = nI i9 from ((congrFun (va_up_n (by decide)) cp).trans (hix))]
  refine lv_istore_n hx hb d_Mo_each_36 rfl hl (by decide) rfl (fun ls hl => ?_)
  have hl : lv_has ls 4 [(3, .int (nI i9)), (2, .int (nI v)), (0, .ref a), (1, .int (nI cp))] := hl
  refine lv_aload_n hx hb d_Mo_each_37 rfl (lv_at hl 2 rfl) ?_
  refine mo_getA C V X 40 (by decide) (by decide) f_Mo_103 rfl d_Mo_each_38 ?_
  refine lv_iload_n hx hb d_Mo_each_41 rfl (lv_at hl 3 rfl) ?_
  refine lv_iload_n hx hb d_Mo_each_42 rfl (lv_at hl 0 rfl) ?_
  refine lv_iconst (v := 1) hx hb d_Mo_each_43 (by decide) ?_
  refine gn_iadd (a := i9) (b := 1) hx hb d_Mo_each_44 ?_
  refine mo_ist (k := 40) (i := cp) (n := 60) C V X (by decide) (by decide) rfl (by omega) (by decide) d_Mo_each_45 (fun f1 H locs V1 X1 => ?_)
  clear V X
  have V := V1
  have X := X1
  clear V1 X1
  refine lv_aload_n hx hb d_Mo_each_46 rfl (lv_at hl 2 rfl) ?_
  refine lv_iload_n hx hb d_Mo_each_47 rfl (lv_at hl 1 rfl) ?_
  have h1v := (mv_o.mp hO.1).2.1
  have hv7 := hO.lt
  have hmn : (decide ((va_up (va_up I 35 (upd (I 35) cp 1)) 40 (upd ((va_up I 35 (upd (I 35) cp 1)) 40) cp (nI (i9 + 1)))) 1 v = 5) || decide ((va_up (va_up I 35 (upd (I 35) cp 1)) 40 (upd ((va_up I 35 (upd (I 35) cp 1)) 40) cp (nI (i9 + 1)))) 1 v = 6)) = true := by rw [show (va_up (va_up I 35 (upd (I 35) cp 1)) 40 (upd ((va_up I 35 (upd (I 35) cp 1)) 40) cp (nI (i9 + 1)))) 1 v = I 1 v from ((congrFun (va_up_n (by decide)) v).trans (((congrFun (va_up_n (by decide)) v).trans (rfl)))), h1v]; exact mw_many hO hhi
  refine gh_callV C V hl.1 m_Mo_isMany l_Mo_169 (c_Mo_isMany l E _ _ a ad _ _ _ v X.1 hv7) rfl X.1.1 gc_Mo ⟨by first | decide | omega | (dsimp only; omega), by first | decide | omega | (dsimp only; omega)⟩ ⟨by first | decide | omega | (dsimp only; omega), by first | decide | omega | (dsimp only; omega)⟩ (Nat.le_of_ble_eq_true rfl) rfl d_Mo_each_48 (fun r z9 H locs hp V1 => ?_)
  rw [hmn] at hp
  obtain ⟨rfl, he9⟩ := hp
  rw [he9] at V1
  have V := V1
  refine W.eq (g2 := F0 m 51 ls [.int (gh_bi true)]) rfl ?_
  have hk5 : 5 ≤ vt_k O := vt_hi5 hhi
  have hc16 := (vo_o.mp hO.2).2.2.2.2.2.2.1
  have h3v : I 3 v = nI (vt_c O) := by rw [(mv_o.mp hO.1).2.2.2.1]; unfold vt_ln; rw [if_neg (by omega)]
  refine lv_if_ne (tgt := 62) hx hb d_Mo_each_51 (by decide) (fun c2 => ?_) (fun c2 => absurd c2 (by decide))
  refine lv_iload_n hx hb d_Mo_each_62 rfl (lv_at hl 0 rfl) ?_
  refine lv_aload_n hx hb d_Mo_each_63 rfl (lv_at hl 2 rfl) ?_
  refine mo_getA C V X 3 (by decide) (by decide) f_Mo_17 rfl d_Mo_each_64 ?_
  refine lv_iload_n hx hb d_Mo_each_67 rfl (lv_at hl 1 rfl) ?_
  refine mo_ild (k := 3) (i := v) (n := 760) C V X (by decide) (by decide) rfl (by omega) (by decide) d_Mo_each_68 ?_
  rw [show (va_up (va_up I 35 (upd (I 35) cp 1)) 40 (upd ((va_up I 35 (upd (I 35) cp 1)) 40) cp (nI (i9 + 1)))) 3 v = nI (vt_c O) from (((congrFun (va_up_n (by decide)) v).trans (((congrFun (va_up_n (by decide)) v).trans (rfl)))).trans h3v)]
  refine lv_icmp_ge (tgt := 85) hx hb d_Mo_each_69 (by decide) (fun c3 => ?_) (fun c3 => absurd (nI_le (b := i9) (by omega) (by omega)) c3)
  refine lv_aload_n hx hb d_Mo_each_85 rfl (lv_at hl 2 rfl) ?_
  refine lv_iconst (v := 2) hx hb d_Mo_each_86 (by decide) ?_
  refine gh_callV C V hl.1 m_Mo_tell l_Mo_289 (c_Mo_tell l E _ _ a ad _ _ _ 2 w X.1 h45) rfl X.1.1 gc_Mo ⟨by first | decide | omega | (dsimp only; omega), by first | decide | omega | (dsimp only; omega)⟩ ⟨by first | decide | omega | (dsimp only; omega), by first | decide | omega | (dsimp only; omega)⟩ (Nat.le_of_ble_eq_true rfl) rfl d_Mo_each_87 (fun r z9 H locs hp V1 => ?_)
  obtain ⟨rfl, X2⟩ := hp
  have X := X.then X2
  have V := V1
  refine W.eq (g2 := F0 m 90 ls []) rfl ?_
  refine gh_retv hAe C V hr hlocks d_Mo_each_90 (by first | decide | omega | (dsimp only; omega)) (by first | decide | omega | (dsimp only; omega)) ?_
  exact ⟨rfl, _, _, X, ((mct.rf.cell 35 1 (by decide) (by decide)).cell 40 (nI (i9 + 1)) (by decide) (by decide)).tell, oc_t1 rfl rfl rfl⟩
