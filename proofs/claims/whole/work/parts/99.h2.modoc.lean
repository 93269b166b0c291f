/-! isDocument of the model. Printed by wip/whole/gen_mo40.py. -/
theorem c_Mo_closeG (l : Launch) (E : gh_E) (sz : Nat) (f : gh_F) (a : Nat) (ad : Nat → Nat) (S : Nat → Int32) (I : Nat → Nat → Int32) (J : Nat → Nat → Int64) (pl dp nv np : Nat) (rs : List (List Int32 × vt)) (bd ob : Bool) (hX : mo_R E f a ad S I J) (h21 : S 21 = nI pl) (h27 : S 27 = gh_bi bd) (hdp : dp < 8) (h26 : I 26 dp = gh_bi ob) (h24 : I 24 dp = nI rs.length) (hN : bd = true → rN ob dp nv np I J rs ∧ S 11 = nI nv ∧ S 12 = nI np) (hnv : nv < 260) (h29 : 29 ≤ nv) (hlen : rs.length ≤ 16) (hp8 : np + 2 * rs.length ≤ 300) (hw : vt_wsum (rfo ob rs).2 ≤ 100) (hh : vt_hmax (rfo ob rs).2 ≤ 7) : gh_M l y_Mo_close b_Mo_close 3 none E sz [.ref a, .int (nI dp)] f { frames := 8, cells := 0, slots := 0, locals := 240 } (fun r g => r = none ∧ ∃ S2 I2 J2, mo_X E f g a ad S2 I2 J2 ∧ S2 21 = nI (pl + 1) ∧ rCO bd S I J nv np (rmk ob (rfo ob rs)) rs.length S2 I2 J2) := by
  cases bd with
  | false =>
    refine gh_weak (c_Mo_closeF l E sz f a ad S I J pl dp hX h21 h27) (fun r g h => ⟨h.1, _, _, _, h.2, ?_, nv, np, Nat.le_succ _, Nat.le_add_right _ _, rE.s (fun k x1 x2 _ => ?_), fun z => by cases z⟩)
    · rw [va_up_n (by decide), va_up_s]
    · rw [va_up_n x1, va_up_n x2]
  | true =>
    cases ob with
    | false => exact c_Mo_close5 l E sz f a ad S I J pl dp nv np rs hX h21 h27 hdp h26 h24 (hN rfl).1 (hN rfl).2.1 (hN rfl).2.2 hnv h29 hlen hp8 hw hh
    | true => exact c_Mo_close6 l E sz f a ad S I J pl dp nv np rs hX h21 h27 hdp h26 h24 (hN rfl).1 (hN rfl).2.1 (hN rfl).2.2 hnv h29 hlen hp8 hw hh
/-- how the reading of the whole text ends -/
def rD (bd : Bool) (S : Nat → Int32) (I : mo_I) (J : mo_J) (oo : Option vt) (S2 : Nat → Int32) (I2 : mo_I) (J2 : mo_J) : Prop := ∃ nv np, 29 ≤ nv ∧ nv ≤ 150 ∧ np ≤ 240 ∧ rE bd 0 S I J 29 0 S2 I2 J2 nv np ∧ (bd = true → mc I2 J2 29 nv 0 np ∧ ∀ X, oo = some X → ∃ u, S2 28 = nI u ∧ mw I2 J2 29 nv 0 np u X)
theorem rd_c_ok {tx : Nat → Nat} {n p q : Nat} {oo : Option vt} (hch : ∀ j, j < n → 32 ≤ tx j ∧ tx j ≤ 126) (hn : n ≤ 120) (h1 : sg tx n (rbl tx n p) ≠ 91) (h2 : sg tx n (rbl tx n p) ≠ 123) (hp : p ≤ n) (h : rd_c tx n true (rbl tx n p) = (q, oo)) : rbl tx n p ≤ q ∧ q ≤ n ∧ ∀ X, oo = some X → rbl tx n p < q ∧ vo 8 X ∧ vt_h X < 1 ∧ 2 * vt_w X ≤ q - rbl tx n p + 1 := rd_v_ok (d := 1) (zb := true) hch hn (by decide) hp (by rw [rd_v_c h1 h2]; exact h)
theorem d_Mo_isDocument_0 : decode b_Mo_isDocument 0 = .ok (.aload_n 0, 1) := by decide +kernel
theorem d_Mo_isDocument_1 : decode b_Mo_isDocument 1 = .ok (.iload_n 1, 1) := by decide +kernel
theorem d_Mo_isDocument_2 : decode b_Mo_isDocument 2 = .ok (.putfield 206, 3) := by decide +kernel
theorem d_Mo_isDocument_5 : decode b_Mo_isDocument 5 = .ok (.aload_n 0, 1) := by decide +kernel
theorem d_Mo_isDocument_6 : decode b_Mo_isDocument 6 = .ok (.iconst 0, 1) := by decide +kernel
theorem d_Mo_isDocument_7 : decode b_Mo_isDocument 7 = .ok (.putfield 179, 3) := by decide +kernel
theorem d_Mo_isDocument_10 : decode b_Mo_isDocument 10 = .ok (.iconst 0, 1) := by decide +kernel
theorem d_Mo_isDocument_11 : decode b_Mo_isDocument 11 = .ok (.istore_n 2, 1) := by decide +kernel
theorem d_Mo_isDocument_12 : decode b_Mo_isDocument 12 = .ok (.iconst 0, 1) := by decide +kernel
theorem d_Mo_isDocument_13 : decode b_Mo_isDocument 13 = .ok (.istore_n 3, 1) := by decide +kernel
theorem d_Mo_isDocument_14 : decode b_Mo_isDocument 14 = .ok (.iload_n 3, 1) := by decide +kernel
theorem d_Mo_isDocument_15 : decode b_Mo_isDocument 15 = .ok (.ifCond .ne 279, 3) := by decide +kernel
theorem d_Mo_isDocument_18 : decode b_Mo_isDocument 18 = .ok (.aload_n 0, 1) := by decide +kernel
theorem d_Mo_isDocument_19 : decode b_Mo_isDocument 19 = .ok (.invokevirtual 214, 3) := by decide +kernel
theorem d_Mo_isDocument_22 : decode b_Mo_isDocument 22 = .ok (.iload_n 2, 1) := by decide +kernel
theorem d_Mo_isDocument_23 : decode b_Mo_isDocument 23 = .ok (.bipush 8, 2) := by decide +kernel
theorem d_Mo_isDocument_25 : decode b_Mo_isDocument 25 = .ok (.if_icmp .ne 5, 3) := by decide +kernel
theorem d_Mo_isDocument_28 : decode b_Mo_isDocument 28 = .ok (.iconst 0, 1) := by decide +kernel
theorem d_Mo_isDocument_29 : decode b_Mo_isDocument 29 = .ok (.ireturn, 1) := by decide +kernel
theorem d_Mo_isDocument_30 : decode b_Mo_isDocument 30 = .ok (.aload_n 0, 1) := by decide +kernel
theorem d_Mo_isDocument_31 : decode b_Mo_isDocument 31 = .ok (.invokevirtual 185, 3) := by decide +kernel
theorem d_Mo_isDocument_34 : decode b_Mo_isDocument 34 = .ok (.istore 4, 2) := by decide +kernel
theorem d_Mo_isDocument_36 : decode b_Mo_isDocument 36 = .ok (.iload 4, 2) := by decide +kernel
theorem d_Mo_isDocument_38 : decode b_Mo_isDocument 38 = .ok (.bipush 91, 2) := by decide +kernel
theorem d_Mo_isDocument_40 : decode b_Mo_isDocument 40 = .ok (.if_icmp .eq 10, 3) := by decide +kernel
theorem d_Mo_isDocument_43 : decode b_Mo_isDocument 43 = .ok (.iload 4, 2) := by decide +kernel
theorem d_Mo_isDocument_45 : decode b_Mo_isDocument 45 = .ok (.bipush 123, 2) := by decide +kernel
theorem d_Mo_isDocument_47 : decode b_Mo_isDocument 47 = .ok (.if_icmp .ne 7, 3) := by decide +kernel
theorem d_Mo_isDocument_50 : decode b_Mo_isDocument 50 = .ok (.iconst 1, 1) := by decide +kernel
theorem d_Mo_isDocument_51 : decode b_Mo_isDocument 51 = .ok (.goto 4, 3) := by decide +kernel
theorem d_Mo_isDocument_54 : decode b_Mo_isDocument 54 = .ok (.iconst 0, 1) := by decide +kernel
theorem d_Mo_isDocument_55 : decode b_Mo_isDocument 55 = .ok (.istore 5, 2) := by decide +kernel
theorem d_Mo_isDocument_57 : decode b_Mo_isDocument 57 = .ok (.iload 5, 2) := by decide +kernel
theorem d_Mo_isDocument_59 : decode b_Mo_isDocument 59 = .ok (.ifCond .eq 84, 3) := by decide +kernel
theorem d_Mo_isDocument_62 : decode b_Mo_isDocument 62 = .ok (.aload_n 0, 1) := by decide +kernel
theorem d_Mo_isDocument_63 : decode b_Mo_isDocument 63 = .ok (.dup, 1) := by decide +kernel
theorem d_Mo_isDocument_64 : decode b_Mo_isDocument 64 = .ok (.getfield 179, 3) := by decide +kernel
theorem d_Mo_isDocument_67 : decode b_Mo_isDocument 67 = .ok (.iconst 1, 1) := by decide +kernel
theorem d_Mo_isDocument_68 : decode b_Mo_isDocument 68 = .ok (.iadd, 1) := by decide +kernel
theorem d_Mo_isDocument_69 : decode b_Mo_isDocument 69 = .ok (.putfield 179, 3) := by decide +kernel
theorem d_Mo_isDocument_72 : decode b_Mo_isDocument 72 = .ok (.aload_n 0, 1) := by decide +kernel
theorem d_Mo_isDocument_73 : decode b_Mo_isDocument 73 = .ok (.getfield 69, 3) := by decide +kernel
theorem d_Mo_isDocument_76 : decode b_Mo_isDocument 76 = .ok (.iload_n 2, 1) := by decide +kernel
theorem d_Mo_isDocument_77 : decode b_Mo_isDocument 77 = .ok (.iload 4, 2) := by decide +kernel
theorem d_Mo_isDocument_79 : decode b_Mo_isDocument 79 = .ok (.bipush 123, 2) := by decide +kernel
theorem d_Mo_isDocument_81 : decode b_Mo_isDocument 81 = .ok (.if_icmp .ne 7, 3) := by decide +kernel
theorem d_Mo_isDocument_84 : decode b_Mo_isDocument 84 = .ok (.iconst 1, 1) := by decide +kernel
theorem d_Mo_isDocument_85 : decode b_Mo_isDocument 85 = .ok (.goto 4, 3) := by decide +kernel
theorem d_Mo_isDocument_88 : decode b_Mo_isDocument 88 = .ok (.iconst 0, 1) := by decide +kernel
theorem d_Mo_isDocument_89 : decode b_Mo_isDocument 89 = .ok (.bastore, 1) := by decide +kernel
theorem d_Mo_isDocument_90 : decode b_Mo_isDocument 90 = .ok (.aload_n 0, 1) := by decide +kernel
theorem d_Mo_isDocument_91 : decode b_Mo_isDocument 91 = .ok (.getfield 63, 3) := by decide +kernel
theorem d_Mo_isDocument_94 : decode b_Mo_isDocument 94 = .ok (.iload_n 2, 1) := by decide +kernel
theorem d_Mo_isDocument_95 : decode b_Mo_isDocument 95 = .ok (.iconst 0, 1) := by decide +kernel
theorem d_Mo_isDocument_96 : decode b_Mo_isDocument 96 = .ok (.iastore, 1) := by decide +kernel
theorem d_Mo_isDocument_97 : decode b_Mo_isDocument 97 = .ok (.aload_n 0, 1) := by decide +kernel
theorem d_Mo_isDocument_98 : decode b_Mo_isDocument 98 = .ok (.invokevirtual 214, 3) := by decide +kernel
theorem d_Mo_isDocument_101 : decode b_Mo_isDocument 101 = .ok (.aload_n 0, 1) := by decide +kernel
theorem d_Mo_isDocument_102 : decode b_Mo_isDocument 102 = .ok (.invokevirtual 185, 3) := by decide +kernel
theorem d_Mo_isDocument_105 : decode b_Mo_isDocument 105 = .ok (.iload 4, 2) := by decide +kernel
theorem d_Mo_isDocument_107 : decode b_Mo_isDocument 107 = .ok (.iconst 2, 1) := by decide +kernel
theorem d_Mo_isDocument_108 : decode b_Mo_isDocument 108 = .ok (.iadd, 1) := by decide +kernel
theorem d_Mo_isDocument_109 : decode b_Mo_isDocument 109 = .ok (.if_icmp .eq 26, 3) := by decide +kernel
theorem d_Mo_isDocument_112 : decode b_Mo_isDocument 112 = .ok (.iload 4, 2) := by decide +kernel
theorem d_Mo_isDocument_114 : decode b_Mo_isDocument 114 = .ok (.bipush 123, 2) := by decide +kernel
theorem d_Mo_isDocument_116 : decode b_Mo_isDocument 116 = .ok (.if_icmp .ne 13, 3) := by decide +kernel
theorem d_Mo_isDocument_119 : decode b_Mo_isDocument 119 = .ok (.aload_n 0, 1) := by decide +kernel
theorem d_Mo_isDocument_120 : decode b_Mo_isDocument 120 = .ok (.iload_n 2, 1) := by decide +kernel
theorem d_Mo_isDocument_121 : decode b_Mo_isDocument 121 = .ok (.invokevirtual 234, 3) := by decide +kernel
theorem d_Mo_isDocument_124 : decode b_Mo_isDocument 124 = .ok (.ifCond .ne 5, 3) := by decide +kernel
theorem d_Mo_isDocument_127 : decode b_Mo_isDocument 127 = .ok (.iconst 0, 1) := by decide +kernel
theorem d_Mo_isDocument_128 : decode b_Mo_isDocument 128 = .ok (.ireturn, 1) := by decide +kernel
theorem d_Mo_isDocument_129 : decode b_Mo_isDocument 129 = .ok (.iinc 2 1, 3) := by decide +kernel
theorem d_Mo_isDocument_132 : decode b_Mo_isDocument 132 = .ok (.goto (-118), 3) := by decide +kernel
theorem d_Mo_isDocument_135 : decode b_Mo_isDocument 135 = .ok (.aload_n 0, 1) := by decide +kernel
theorem d_Mo_isDocument_136 : decode b_Mo_isDocument 136 = .ok (.iload_n 2, 1) := by decide +kernel
theorem d_Mo_isDocument_137 : decode b_Mo_isDocument 137 = .ok (.invokevirtual 237, 3) := by decide +kernel
theorem d_Mo_isDocument_140 : decode b_Mo_isDocument 140 = .ok (.goto 12, 3) := by decide +kernel
theorem d_Mo_isDocument_143 : decode b_Mo_isDocument 143 = .ok (.aload_n 0, 1) := by decide +kernel
theorem d_Mo_isDocument_144 : decode b_Mo_isDocument 144 = .ok (.invokevirtual 241, 3) := by decide +kernel
theorem d_Mo_isDocument_147 : decode b_Mo_isDocument 147 = .ok (.ifCond .ne 5, 3) := by decide +kernel
theorem d_Mo_isDocument_150 : decode b_Mo_isDocument 150 = .ok (.iconst 0, 1) := by decide +kernel
theorem d_Mo_isDocument_151 : decode b_Mo_isDocument 151 = .ok (.ireturn, 1) := by decide +kernel
theorem d_Mo_isDocument_152 : decode b_Mo_isDocument 152 = .ok (.iconst 0, 1) := by decide +kernel
theorem d_Mo_isDocument_153 : decode b_Mo_isDocument 153 = .ok (.istore 6, 2) := by decide +kernel
theorem d_Mo_isDocument_155 : decode b_Mo_isDocument 155 = .ok (.iload 6, 2) := by decide +kernel
theorem d_Mo_isDocument_157 : decode b_Mo_isDocument 157 = .ok (.ifCond .ne 134, 3) := by decide +kernel
theorem d_Mo_isDocument_160 : decode b_Mo_isDocument 160 = .ok (.iload_n 3, 1) := by decide +kernel
theorem d_Mo_isDocument_161 : decode b_Mo_isDocument 161 = .ok (.ifCond .ne 130, 3) := by decide +kernel
theorem d_Mo_isDocument_164 : decode b_Mo_isDocument 164 = .ok (.aload_n 0, 1) := by decide +kernel
theorem d_Mo_isDocument_165 : decode b_Mo_isDocument 165 = .ok (.invokevirtual 214, 3) := by decide +kernel
theorem d_Mo_isDocument_168 : decode b_Mo_isDocument 168 = .ok (.iload_n 2, 1) := by decide +kernel
theorem d_Mo_isDocument_169 : decode b_Mo_isDocument 169 = .ok (.ifCond .ne 7, 3) := by decide +kernel
theorem d_Mo_isDocument_172 : decode b_Mo_isDocument 172 = .ok (.iconst 1, 1) := by decide +kernel
theorem d_Mo_isDocument_173 : decode b_Mo_isDocument 173 = .ok (.goto 4, 3) := by decide +kernel
theorem d_Mo_isDocument_176 : decode b_Mo_isDocument 176 = .ok (.iconst 0, 1) := by decide +kernel
theorem d_Mo_isDocument_177 : decode b_Mo_isDocument 177 = .ok (.istore_n 3, 1) := by decide +kernel
theorem d_Mo_isDocument_178 : decode b_Mo_isDocument 178 = .ok (.iload_n 3, 1) := by decide +kernel
theorem d_Mo_isDocument_179 : decode b_Mo_isDocument 179 = .ok (.ifCond .eq 6, 3) := by decide +kernel
theorem d_Mo_isDocument_182 : decode b_Mo_isDocument 182 = .ok (.goto (-27), 3) := by decide +kernel
theorem d_Mo_isDocument_185 : decode b_Mo_isDocument 185 = .ok (.aload_n 0, 1) := by decide +kernel
theorem d_Mo_isDocument_186 : decode b_Mo_isDocument 186 = .ok (.iload_n 2, 1) := by decide +kernel
theorem d_Mo_isDocument_187 : decode b_Mo_isDocument 187 = .ok (.iconst 1, 1) := by decide +kernel
theorem d_Mo_isDocument_188 : decode b_Mo_isDocument 188 = .ok (.isub, 1) := by decide +kernel
theorem d_Mo_isDocument_189 : decode b_Mo_isDocument 189 = .ok (.invokevirtual 244, 3) := by decide +kernel
theorem d_Mo_isDocument_192 : decode b_Mo_isDocument 192 = .ok (.aload_n 0, 1) := by decide +kernel
theorem d_Mo_isDocument_193 : decode b_Mo_isDocument 193 = .ok (.invokevirtual 185, 3) := by decide +kernel
theorem d_Mo_isDocument_196 : decode b_Mo_isDocument 196 = .ok (.aload_n 0, 1) := by decide +kernel
theorem d_Mo_isDocument_197 : decode b_Mo_isDocument 197 = .ok (.getfield 69, 3) := by decide +kernel
theorem d_Mo_isDocument_200 : decode b_Mo_isDocument 200 = .ok (.iload_n 2, 1) := by decide +kernel
theorem d_Mo_isDocument_201 : decode b_Mo_isDocument 201 = .ok (.iconst 1, 1) := by decide +kernel
theorem d_Mo_isDocument_202 : decode b_Mo_isDocument 202 = .ok (.isub, 1) := by decide +kernel
theorem d_Mo_isDocument_203 : decode b_Mo_isDocument 203 = .ok (.baload, 1) := by decide +kernel
theorem d_Mo_isDocument_204 : decode b_Mo_isDocument 204 = .ok (.ifCond .eq 8, 3) := by decide +kernel
theorem d_Mo_isDocument_207 : decode b_Mo_isDocument 207 = .ok (.bipush 125, 2) := by decide +kernel
theorem d_Mo_isDocument_209 : decode b_Mo_isDocument 209 = .ok (.goto 5, 3) := by decide +kernel
theorem d_Mo_isDocument_212 : decode b_Mo_isDocument 212 = .ok (.bipush 93, 2) := by decide +kernel
theorem d_Mo_isDocument_214 : decode b_Mo_isDocument 214 = .ok (.if_icmp .ne 14, 3) := by decide +kernel
theorem d_Mo_isDocument_217 : decode b_Mo_isDocument 217 = .ok (.iinc 2 (-1), 3) := by decide +kernel
theorem d_Mo_isDocument_220 : decode b_Mo_isDocument 220 = .ok (.aload_n 0, 1) := by decide +kernel
theorem d_Mo_isDocument_221 : decode b_Mo_isDocument 221 = .ok (.iload_n 2, 1) := by decide +kernel
theorem d_Mo_isDocument_222 : decode b_Mo_isDocument 222 = .ok (.invokevirtual 237, 3) := by decide +kernel
theorem d_Mo_isDocument_225 : decode b_Mo_isDocument 225 = .ok (.goto (-70), 3) := by decide +kernel
theorem d_Mo_isDocument_228 : decode b_Mo_isDocument 228 = .ok (.aload_n 0, 1) := by decide +kernel
theorem d_Mo_isDocument_229 : decode b_Mo_isDocument 229 = .ok (.invokevirtual 185, 3) := by decide +kernel
theorem d_Mo_isDocument_232 : decode b_Mo_isDocument 232 = .ok (.bipush 44, 2) := by decide +kernel
theorem d_Mo_isDocument_234 : decode b_Mo_isDocument 234 = .ok (.if_icmp .ne 16, 3) := by decide +kernel
theorem d_Mo_isDocument_237 : decode b_Mo_isDocument 237 = .ok (.aload_n 0, 1) := by decide +kernel
theorem d_Mo_isDocument_238 : decode b_Mo_isDocument 238 = .ok (.getfield 63, 3) := by decide +kernel
theorem d_Mo_isDocument_241 : decode b_Mo_isDocument 241 = .ok (.iload_n 2, 1) := by decide +kernel
theorem d_Mo_isDocument_242 : decode b_Mo_isDocument 242 = .ok (.iconst 1, 1) := by decide +kernel
theorem d_Mo_isDocument_243 : decode b_Mo_isDocument 243 = .ok (.isub, 1) := by decide +kernel
theorem d_Mo_isDocument_244 : decode b_Mo_isDocument 244 = .ok (.iaload, 1) := by decide +kernel
theorem d_Mo_isDocument_245 : decode b_Mo_isDocument 245 = .ok (.bipush 16, 2) := by decide +kernel
theorem d_Mo_isDocument_247 : decode b_Mo_isDocument 247 = .ok (.if_icmp .ne 5, 3) := by decide +kernel
theorem d_Mo_isDocument_250 : decode b_Mo_isDocument 250 = .ok (.iconst 0, 1) := by decide +kernel
theorem d_Mo_isDocument_251 : decode b_Mo_isDocument 251 = .ok (.ireturn, 1) := by decide +kernel
theorem d_Mo_isDocument_252 : decode b_Mo_isDocument 252 = .ok (.aload_n 0, 1) := by decide +kernel
theorem d_Mo_isDocument_253 : decode b_Mo_isDocument 253 = .ok (.dup, 1) := by decide +kernel
theorem d_Mo_isDocument_254 : decode b_Mo_isDocument 254 = .ok (.getfield 179, 3) := by decide +kernel
theorem d_Mo_isDocument_257 : decode b_Mo_isDocument 257 = .ok (.iconst 1, 1) := by decide +kernel
theorem d_Mo_isDocument_258 : decode b_Mo_isDocument 258 = .ok (.iadd, 1) := by decide +kernel
theorem d_Mo_isDocument_259 : decode b_Mo_isDocument 259 = .ok (.putfield 179, 3) := by decide +kernel
theorem d_Mo_isDocument_262 : decode b_Mo_isDocument 262 = .ok (.aload_n 0, 1) := by decide +kernel
theorem d_Mo_isDocument_263 : decode b_Mo_isDocument 263 = .ok (.getfield 69, 3) := by decide +kernel
theorem d_Mo_isDocument_266 : decode b_Mo_isDocument 266 = .ok (.iload_n 2, 1) := by decide +kernel
theorem d_Mo_isDocument_267 : decode b_Mo_isDocument 267 = .ok (.iconst 1, 1) := by decide +kernel
theorem d_Mo_isDocument_268 : decode b_Mo_isDocument 268 = .ok (.isub, 1) := by decide +kernel
theorem d_Mo_isDocument_269 : decode b_Mo_isDocument 269 = .ok (.baload, 1) := by decide +kernel
theorem d_Mo_isDocument_270 : decode b_Mo_isDocument 270 = .ok (.ifCond .eq 15, 3) := by decide +kernel
theorem d_Mo_isDocument_273 : decode b_Mo_isDocument 273 = .ok (.aload_n 0, 1) := by decide +kernel
theorem d_Mo_isDocument_274 : decode b_Mo_isDocument 274 = .ok (.iload_n 2, 1) := by decide +kernel
theorem d_Mo_isDocument_275 : decode b_Mo_isDocument 275 = .ok (.iconst 1, 1) := by decide +kernel
theorem d_Mo_isDocument_276 : decode b_Mo_isDocument 276 = .ok (.isub, 1) := by decide +kernel
theorem d_Mo_isDocument_277 : decode b_Mo_isDocument 277 = .ok (.invokevirtual 234, 3) := by decide +kernel
theorem d_Mo_isDocument_280 : decode b_Mo_isDocument 280 = .ok (.ifCond .ne 5, 3) := by decide +kernel
theorem d_Mo_isDocument_283 : decode b_Mo_isDocument 283 = .ok (.iconst 0, 1) := by decide +kernel
theorem d_Mo_isDocument_284 : decode b_Mo_isDocument 284 = .ok (.ireturn, 1) := by decide +kernel
theorem d_Mo_isDocument_285 : decode b_Mo_isDocument 285 = .ok (.iconst 1, 1) := by decide +kernel
theorem d_Mo_isDocument_286 : decode b_Mo_isDocument 286 = .ok (.istore 6, 2) := by decide +kernel
theorem d_Mo_isDocument_288 : decode b_Mo_isDocument 288 = .ok (.goto (-133), 3) := by decide +kernel
theorem d_Mo_isDocument_291 : decode b_Mo_isDocument 291 = .ok (.goto (-277), 3) := by decide +kernel
theorem d_Mo_isDocument_294 : decode b_Mo_isDocument 294 = .ok (.aload_n 0, 1) := by decide +kernel
theorem d_Mo_isDocument_295 : decode b_Mo_isDocument 295 = .ok (.getfield 179, 3) := by decide +kernel
theorem d_Mo_isDocument_298 : decode b_Mo_isDocument 298 = .ok (.aload_n 0, 1) := by decide +kernel
theorem d_Mo_isDocument_299 : decode b_Mo_isDocument 299 = .ok (.getfield 182, 3) := by decide +kernel
theorem d_Mo_isDocument_302 : decode b_Mo_isDocument 302 = .ok (.if_icmp .ne 7, 3) := by decide +kernel
theorem d_Mo_isDocument_305 : decode b_Mo_isDocument 305 = .ok (.iconst 1, 1) := by decide +kernel
theorem d_Mo_isDocument_306 : decode b_Mo_isDocument 306 = .ok (.goto 4, 3) := by decide +kernel
theorem d_Mo_isDocument_309 : decode b_Mo_isDocument 309 = .ok (.iconst 0, 1) := by decide +kernel
theorem d_Mo_isDocument_310 : decode b_Mo_isDocument 310 = .ok (.ireturn, 1) := by decide +kernel
set_option maxHeartbeats 4000000 in
set_option maxRecDepth 100000 in
theorem c_Mo_isDocument (l : Launch) (E : gh_E) (sz : Nat) (f : gh_F) (a : Nat) (ad : Nat → Nat) (S : Nat → Int32) (I : Nat → Nat → Int32) (J : Nat → Nat → Int64) (tx : Nat → Nat) (n : Nat) (bd : Bool) (hX : mo_R E f a ad S I J) (hTT : rT tx n S I) (hbd : bd = true → (rd_a tx n true).2.isSome = true ∧ S 11 = nI 29 ∧ S 12 = nI 0 ∧ mc I J 29 29 0 0) : gh_M l y_Mo_isDocument b_Mo_isDocument 7 (some .boolean) E sz [.ref a, .int (gh_bi bd)] f { frames := 12, cells := 0, slots := 0, locals := 300 } (fun r g => r = some (.int (gh_bi (rd_a tx n true).2.isSome)) ∧ ∃ S2 I2 J2, mo_X E f g a ad S2 I2 J2 ∧ S2 21 = nI (rd_a tx n true).1 ∧ rD bd (va_up (va_up S 27 (gh_bi bd)) 21 0) I J (rd_a tx n true).2 S2 I2 J2) := by
  have hch : ∀ j, j < n → 32 ≤ tx j ∧ tx j ≤ 126 := fun j hj => (hTT.2.2 j hj).2
  have h120 := hTT.2.1
  have hT0 : rT tx n (va_up (va_up S 27 (gh_bi bd)) 21 0) I := hTT.keep (by rw [va_up_n (by decide), va_up_n (by decide)]) rfl
  have h270 : (va_up (va_up S 27 (gh_bi bd)) 21 0) 27 = gh_bi bd := by rw [va_up_n (by decide), va_up_s]
  have h110 : bd = true → (va_up (va_up S 27 (gh_bi bd)) 21 0) 11 = nI 29 ∧ (va_up (va_up S 27 (gh_bi bd)) 21 0) 12 = nI 0 := fun z => ⟨by rw [va_up_n (by decide), va_up_n (by decide)]; exact (hbd z).2.1, by rw [va_up_n (by decide), va_up_n (by decide)]; exact (hbd z).2.2.1⟩
  refine gh_open (by decide) (Nat.le_of_ble_eq_true rfl) ?_
  intro p e s m args below meth c A ls hAe C V hr hlocks hname hl
  have hx := C.1
  have hb := C.2.1
  have hl : lv_has ls 7 [(0, .ref a), (1, .int (gh_bi bd))] := hl
  have X : mo_X E f f a ad S I J := ⟨hX, gh_fr.rf⟩
  refine lv_aload_n hx hb d_Mo_isDocument_0 rfl (lv_at hl 0 rfl) ?_
  refine lv_iload_n hx hb d_Mo_isDocument_1 rfl (lv_at hl 1 rfl) ?_
  refine mo_putS C V X 27 (by decide) (by decide) f_Mo_206 rfl (by first | rfl | exact gh_bi_nar _) (by first | rfl | exact gh_bi_fit _) d_Mo_isDocument_2 (fun f1 H locs V1 X1 => ?_)
  clear V X
  have V := V1
  have X := X1
  clear V1 X1
  refine lv_aload_n hx hb d_Mo_isDocument_5 rfl (lv_at hl 0 rfl) ?_
  refine lv_iconst (v := 0) hx hb d_Mo_isDocument_6 (by decide) ?_
  refine mo_putS C V X 21 (by decide) (by decide) f_Mo_179 rfl rfl rfl d_Mo_isDocument_7 (fun f1 H locs V1 X1 => ?_)
  clear V X
  have V := V1
  have X := X1
  clear V1 X1
  refine lv_iconst (v := 0) hx hb d_Mo_isDocument_10 (by decide) ?_
  refine lv_istore_n hx hb d_Mo_isDocument_11 rfl hl (by decide) rfl (fun ls hl => ?_)
  have hl : lv_has ls 7 [(2, .int 0), (0, .ref a), (1, .int (gh_bi bd))] := hl
  refine lv_iconst (v := 0) hx hb d_Mo_isDocument_12 (by decide) ?_
  refine lv_istore_n hx hb d_Mo_isDocument_13 rfl hl (by decide) rfl (fun ls hl => ?_)
  have hl : lv_has ls 7 [(3, .int 0), (2, .int 0), (0, .ref a), (1, .int (gh_bi bd))] := hl
  have loop : ∀ (k9 : Nat), (∀ (lw : Nat → rv_T) (d9 p9 nv9 np9 : Nat) (S1 : Nat → Int32) (I1 : mo_I) (J1 : mo_J) (f1 : gh_F) (H : Heap) (locs : List Loc) (ls : Array Slot), n < p9 + k9 → rG bd n (va_up (va_up S 27 (gh_bi bd)) 21 0) I J lw d9 p9 nv9 np9 S1 I1 J1 → rQ lw d9 p9 nv9 np9 → rd_a tx n true = rfv tx n lw d9 p9 → mo_X E f f1 a ad S1 I1 J1 → gh_V E A f1 s H locs → lv_has ls 7 [(0, .ref a), (1, .int (gh_bi bd)), (2, .int (nI d9)), (3, .int 0)] → W p l e { frames := 12, cells := 0, slots := 0, locals := 300 } s m args below meth c H locs 0 0 (MQ below (gh_Q E f (fun r g => r = some (.int (gh_bi (rd_a tx n true).2.isSome)) ∧ ∃ S2 I2 J2, mo_X E f g a ad S2 I2 J2 ∧ S2 21 = nI (rd_a tx n true).1 ∧ rD bd (va_up (va_up S 27 (gh_bi bd)) 21 0) I J (rd_a tx n true).2 S2 I2 J2)) args s 0 0 A) (F0 m 14 ls [])) ∧ (∀ (lw : Nat → rv_T) (d9 p9 nv9 np9 : Nat) (X9 : vt) (S1 : Nat → Int32) (I1 : mo_I) (J1 : mo_J) (f1 : gh_F) (H : Heap) (locs : List Loc) (ls : Array Slot), n < p9 + k9 → rG bd n (va_up (va_up S 27 (gh_bi bd)) 21 0) I J lw d9 p9 nv9 np9 S1 I1 J1 → rQI lw d9 p9 nv9 np9 X9 → rd_a tx n true = rfi tx n lw d9 p9 X9 → (bd = true → ∃ u, S1 28 = nI u ∧ mw I1 J1 29 nv9 0 np9 u X9) → mo_X E f f1 a ad S1 I1 J1 → gh_V E A f1 s H locs → lv_has ls 7 [(0, .ref a), (1, .int (gh_bi bd)), (2, .int (nI d9)), (3, .int 0), (6, .int 0)] → W p l e { frames := 12, cells := 0, slots := 0, locals := 300 } s m args below meth c H locs 0 0 (MQ below (gh_Q E f (fun r g => r = some (.int (gh_bi (rd_a tx n true).2.isSome)) ∧ ∃ S2 I2 J2, mo_X E f g a ad S2 I2 J2 ∧ S2 21 = nI (rd_a tx n true).1 ∧ rD bd (va_up (va_up S 27 (gh_bi bd)) 21 0) I J (rd_a tx n true).2 S2 I2 J2)) args s 0 0 A) (F0 m 155 ls [])) := by
    intro k9
    induction k9 with
    | zero => exact ⟨fun lw d9 p9 nv9 np9 S1 I1 J1 f1 H locs ls hk hG => absurd hG.2.1 (by omega), fun lw d9 p9 nv9 np9 X9 S1 I1 J1 f1 H locs ls hk hG => absurd hG.2.1 (by omega)⟩
    | succ k9 ih =>
      refine ⟨?_, ?_⟩
      · intro lw d9 p9 nv9 np9 S1 I1 J1 f1 H locs ls hk hG hQ hR X V hl
        have hQc := hQ
        obtain ⟨hq0, hq29, hqn, hqp, hqw⟩ := hQc
        have hd8a := hq0.1
        have hpn := hG.2.1
        have hQl : ∀ e, e < d9 → (lw e).2.1.length < 16 := fun e he => (hq0.2 e he).1
        have hT := hG.T hT0
        have h21 := hG.1
        have hS21 := h21
        have h27 := hG.b h270
        have h11 := hG.n h110
        have hsg := (hT.ch (p9)).1
        refine lv_iload_n hx hb d_Mo_isDocument_14 rfl (lv_at hl 3 rfl) ?_
        refine lv_if_ne (tgt := 294) hx hb d_Mo_isDocument_15 (by decide) (fun c1 => absurd (by decide) c1) (fun c1 => ?_)
        refine lv_aload_n hx hb d_Mo_isDocument_18 rfl (lv_at hl 0 rfl) ?_
        refine gh_callV C V hl.1 m_Mo_blanks l_Mo_214 (c_Mo_blanks l E _ _ a ad _ _ _ tx n p9 X.1 hT h21 (by omega)) rfl X.1.1 gc_Mo ⟨by first | decide | omega | (dsimp only; omega), by first | decide | omega | (dsimp only; omega)⟩ ⟨by first | decide | omega | (dsimp only; omega), by first | decide | omega | (dsimp only; omega)⟩ (Nat.le_of_ble_eq_true rfl) rfl d_Mo_isDocument_19 (fun r z9 H locs hp9 V1 => ?_)
        obtain ⟨rfl, Sb1, X2, h21n, gb1⟩ := hp9
        have X := X.then X2
        have V := V1
        have hT : rT tx n Sb1 I1 := hT.keep (gb1 20 (by decide)) rfl
        have hbl9 := rbl_le (tx := tx) (n := n) (p := p9) (by omega)
        have hbg9 := rbl_ge (tx := tx) (n := n) (p := p9)
        have h21 := h21n
        have hS21 := h21
        have hsg := (hT.ch (rbl tx n p9)).1
        refine W.eq (g2 := F0 m 22 ls []) rfl ?_
        have hG := hG.step (d := 8) (rE.a21 gb1) h21 (by omega) (by omega) hQl (d9) (by omega) (by omega)
        have hT := hG.T hT0
        have h21 := hG.1
        have hS21 := h21
        have h27 := hG.b h270
        have h11 := hG.n h110
        have hsg := (hT.ch (rbl tx n p9)).1
        have hb1 := rbl_le (tx := tx) (n := n) (p := p9) (by omega)
        have hb2 := rbl_ge (tx := tx) (n := n) (p := p9)
        by_cases hd8 : d9 = 8
        · have hRn : rd_a tx n true = (rbl tx n p9, none) := by rw [hR, hd8, rfv_8]
          refine lv_iload_n hx hb d_Mo_isDocument_22 rfl (lv_at hl 2 rfl) ?_
          refine lv_bipush (v := 8) hx hb d_Mo_isDocument_23 (by decide) ?_
          refine lv_icmp_ne (tgt := 30) hx hb d_Mo_isDocument_25 (by decide) (fun c2 => absurd (by rw [hd8]; rfl) c2) (fun c2 => ?_)
          refine lv_iconst (v := 0) hx hb d_Mo_isDocument_28 (by decide) ?_
          refine gh_retz hAe C V hr (by first | rfl | exact gh_bi_nar _ | decide) hlocks d_Mo_isDocument_29 (by first | decide | omega | (dsimp only; omega)) (by first | decide | omega | (dsimp only; omega)) ?_
          have hbf : bd = true → False := fun z => by have h9 := (hbd z).1; rw [hRn] at h9; cases h9
          rw [hRn]
          exact ⟨rfl, _, _, _, X, h21, _, _, by omega, by omega, by omega, hG.2.2.1, fun z => (hbf z).elim⟩
        · have hd : d9 < 8 := by omega
          refine lv_iload_n hx hb d_Mo_isDocument_22 rfl (lv_at hl 2 rfl) ?_
          refine lv_bipush (v := 8) hx hb d_Mo_isDocument_23 (by decide) ?_
          refine lv_icmp_ne (tgt := 30) hx hb d_Mo_isDocument_25 (by decide) (fun c3 => ?_) (fun c3 => absurd c3 (fun z => hd8 ((nI_eq (b := 8) (by omega) (by decide)).mp z)))
          refine lv_aload_n hx hb d_Mo_isDocument_30 rfl (lv_at hl 0 rfl) ?_
          refine gh_callV C V hl.1 m_Mo_peek l_Mo_185 (c_Mo_pk l E _ _ a ad _ _ _ tx n (rbl tx n p9) X.1 hT h21 (by omega)) rfl X.1.1 gc_Mo ⟨by first | decide | omega | (dsimp only; omega), by first | decide | omega | (dsimp only; omega)⟩ ⟨by first | decide | omega | (dsimp only; omega), by first | decide | omega | (dsimp only; omega)⟩ (Nat.le_of_ble_eq_true rfl) rfl d_Mo_isDocument_31 (fun r z9 H locs hp9 V1 => ?_)
          obtain ⟨rfl, he9⟩ := hp9
          rw [he9] at V1
          have V := V1
          refine W.eq (g2 := F0 m 34 ls [.int (pek (sg tx n (rbl tx n p9)))]) rfl ?_
          rcases (show sg tx n (rbl tx n p9) = 91 ∨ sg tx n (rbl tx n p9) = 123 ∨ (sg tx n (rbl tx n p9) ≠ 91 ∧ sg tx n (rbl tx n p9) ≠ 123) by omega) with hc9 | hc9 | hc9
          · have hpk : pek (sg tx n (rbl tx n p9)) = 91 := ((pek_eq (k := 91) (by omega) (by omega) (by omega)).mpr hc9)
            rw [hpk]
            have hbn := sg_lt (by omega : sg tx n (rbl tx n p9) ≠ 0)
            refine lv_istore hx hb d_Mo_isDocument_34 hl (by decide) rfl (fun ls hl => ?_)
            have hl : lv_has ls 7 [(4, .int 91), (0, .ref a), (1, .int (gh_bi bd)), (2, .int (nI d9)), (3, .int 0)] := hl
            refine lv_iload hx hb d_Mo_isDocument_36 (lv_at hl 0 rfl) ?_
            refine lv_bipush (v := 91) hx hb d_Mo_isDocument_38 (by decide) ?_
            refine lv_icmp_eq (tgt := 50) hx hb d_Mo_isDocument_40 (by decide) (fun c4 => ?_) (fun c4 => absurd (by decide) c4)
            refine lv_iconst (v := 1) hx hb d_Mo_isDocument_50 (by decide) ?_
            refine lv_goto (tgt := 55) hx hb d_Mo_isDocument_51 (by decide) ?_
            refine lv_istore hx hb d_Mo_isDocument_55 hl (by decide) rfl (fun ls hl => ?_)
            have hl : lv_has ls 7 [(5, .int 1), (4, .int 91), (0, .ref a), (1, .int (gh_bi bd)), (2, .int (nI d9)), (3, .int 0)] := hl
            refine lv_iload hx hb d_Mo_isDocument_57 (lv_at hl 0 rfl) ?_
            refine lv_if_eq (tgt := 143) hx hb d_Mo_isDocument_59 (by decide) (fun c5 => absurd c5 (by decide)) (fun c5 => ?_)
            refine lv_aload_n hx hb d_Mo_isDocument_62 rfl (lv_at hl 2 rfl) ?_
            refine lv_dup hx hb d_Mo_isDocument_63 rfl ?_
            refine mo_getS (v := nI (rbl tx n p9)) C V X 21 (by decide) (by decide) (by first | rfl | exact hS21) f_Mo_179 rfl d_Mo_isDocument_64 ?_
            refine lv_iconst (v := 1) hx hb d_Mo_isDocument_67 (by decide) ?_
            refine gn_iadd (a := rbl tx n p9) (b := 1) hx hb d_Mo_isDocument_68 ?_
            refine mo_putS C V X 21 (by decide) (by decide) f_Mo_179 rfl rfl rfl d_Mo_isDocument_69 (fun f1 H locs V1 X1 => ?_)
            clear V X
            have V := V1
            have X := X1
            clear V1 X1
            have h21 : (va_up Sb1 21 (nI ((rbl tx n p9) + 1))) 21 = nI ((rbl tx n p9) + 1) := va_up_s
            have hS21 := h21
            have hT : rT tx n (va_up Sb1 21 (nI ((rbl tx n p9) + 1))) I1 := hT.keep (va_up_n (by decide)) rfl
            have hG := hG.step (d := 8) (rE.a21 (fun k hk => va_up_n hk)) h21 (by omega) (by omega) hQl d9 (by omega) (by omega)
            obtain ⟨Sn2, hSn2⟩ : ∃ z9 : Nat → Int32, z9 = va_up Sb1 21 (nI ((rbl tx n p9) + 1)) := ⟨_, rfl⟩
            obtain ⟨In2, hIn2⟩ : ∃ z9 : mo_I, z9 = I1 := ⟨_, rfl⟩
            rw [← hSn2, ← hIn2] at X
            rw [← hSn2, ← hIn2] at hG
            have hT := hG.T hT0
            have h21 := hG.1
            have hS21 := h21
            have h27 := hG.b h270
            have h11 := hG.n h110
            have hsg := (hT.ch (rbl tx n p9 + 1)).1
            refine lv_aload_n hx hb d_Mo_isDocument_72 rfl (lv_at hl 2 rfl) ?_
            refine mo_getA C V X 26 (by decide) (by decide) f_Mo_69 rfl d_Mo_isDocument_73 ?_
            refine lv_iload_n hx hb d_Mo_isDocument_76 rfl (lv_at hl 4 rfl) ?_
            refine lv_iload hx hb d_Mo_isDocument_77 (lv_at hl 1 rfl) ?_
            refine lv_bipush (v := 123) hx hb d_Mo_isDocument_79 (by decide) ?_
            refine lv_icmp_ne (tgt := 88) hx hb d_Mo_isDocument_81 (by decide) (fun c6 => ?_) (fun c6 => absurd c6 (by decide))
            refine lv_iconst (v := 0) hx hb d_Mo_isDocument_88 (by decide) ?_
            refine mo_zst (k := 26) (i := d9) (n := 8) C V X (by decide) (by decide) rfl (by omega) (by decide) d_Mo_isDocument_89 (fun f1 H locs V1 X1 => ?_)
            clear V X
            have V := V1
            have X := X1
            clear V1 X1
            refine lv_aload_n hx hb d_Mo_isDocument_90 rfl (lv_at hl 2 rfl) ?_
            refine mo_getA C V X 24 (by decide) (by decide) f_Mo_63 rfl d_Mo_isDocument_91 ?_
            refine lv_iload_n hx hb d_Mo_isDocument_94 rfl (lv_at hl 4 rfl) ?_
            refine lv_iconst (v := 0) hx hb d_Mo_isDocument_95 (by decide) ?_
            refine mo_ist (k := 24) (i := d9) (n := 8) C V X (by decide) (by decide) rfl (by omega) (by decide) d_Mo_isDocument_96 (fun f1 H locs V1 X1 => ?_)
            clear V X
            have V := V1
            have X := X1
            clear V1 X1
            obtain ⟨Sn3, hSn3⟩ : ∃ z9 : Nat → Int32, z9 = Sn2 := ⟨_, rfl⟩
            obtain ⟨In3, hIn3⟩ : ∃ z9 : mo_I, z9 = va_up (va_up In2 26 (upd (In2 26) d9 (vp_nar .boolean 0))) 24 (upd ((va_up In2 26 (upd (In2 26) d9 (vp_nar .boolean 0))) 24) d9 0) := ⟨_, rfl⟩
            rw [← hSn3, ← hIn3] at X
            rw [← hSn3] at hG h21 hT h27 h11
            have hS21 := h21
            have h26k : In3 26 d9 = gh_bi false := by rw [hIn3, va_up_n (by decide), va_up_s]; simp only [upd]; rw [if_pos trivial]; rfl
            have h24k : In3 24 d9 = nI 0 := by rw [hIn3, va_up_s]; simp only [upd]; rw [if_pos trivial]; rfl
            have hEi : rE bd d9 Sn3 In2 J1 nv9 np9 Sn3 In3 J1 nv9 np9 := by
              rw [hIn3]
              refine rE.i (fun k hk => by rw [va_up_n (by omega), va_up_n (by omega)]) (fun j hj => ⟨by rw [va_up_n (by decide), va_up_n (by decide)], by rw [va_up_n (by decide), va_up_n (by decide)]⟩) (fun j hj => ⟨?_, ?_⟩)
              · rw [va_up_s]; simp only [upd]; rw [if_neg (by omega), va_up_n (by decide)]
              · rw [va_up_n (by decide), va_up_s]; simp only [upd]; rw [if_neg (by omega)]
            have hG := hG.step (d := d9) (hEi) h21 (by omega) (by omega) hQl (d9) (by omega) (by omega)
            have hT := hG.T hT0
            have h21 := hG.1
            have hS21 := h21
            have h27 := hG.b h270
            have h11 := hG.n h110
            have hsg := (hT.ch (rbl tx n p9 + 1)).1
            refine lv_aload_n hx hb d_Mo_isDocument_97 rfl (lv_at hl 2 rfl) ?_
            refine gh_callV C V hl.1 m_Mo_blanks l_Mo_214 (c_Mo_blanks l E _ _ a ad _ _ _ tx n (rbl tx n p9 + 1) X.1 hT h21 (by omega)) rfl X.1.1 gc_Mo ⟨by first | decide | omega | (dsimp only; omega), by first | decide | omega | (dsimp only; omega)⟩ ⟨by first | decide | omega | (dsimp only; omega), by first | decide | omega | (dsimp only; omega)⟩ (Nat.le_of_ble_eq_true rfl) rfl d_Mo_isDocument_98 (fun r z9 H locs hp9 V1 => ?_)
            obtain ⟨rfl, Sb4, X2, h21n, gb4⟩ := hp9
            have X := X.then X2
            have V := V1
            have hT : rT tx n Sb4 In3 := hT.keep (gb4 20 (by decide)) rfl
            have hbl9 := rbl_le (tx := tx) (n := n) (p := rbl tx n p9 + 1) (by omega)
            have hbg9 := rbl_ge (tx := tx) (n := n) (p := rbl tx n p9 + 1)
            have h21 := h21n
            have hS21 := h21
            have hsg := (hT.ch (rbl tx n (rbl tx n p9 + 1))).1
            refine W.eq (g2 := F0 m 101 ls []) rfl ?_
            have hG := hG.step (d := 8) (rE.a21 gb4) h21 (by omega) (by omega) hQl (d9) (by omega) (by omega)
            have hT := hG.T hT0
            have h21 := hG.1
            have hS21 := h21
            have h27 := hG.b h270
            have h11 := hG.n h110
            have hsg := (hT.ch (rbl tx n (rbl tx n p9 + 1))).1
            have hc1 := rbl_le (tx := tx) (n := n) (p := rbl tx n p9 + 1) (by omega)
            have hc2 := rbl_ge (tx := tx) (n := n) (p := rbl tx n p9 + 1)
            refine lv_aload_n hx hb d_Mo_isDocument_101 rfl (lv_at hl 2 rfl) ?_
            refine gh_callV C V hl.1 m_Mo_peek l_Mo_185 (c_Mo_pk l E _ _ a ad _ _ _ tx n (rbl tx n (rbl tx n p9 + 1)) X.1 hT h21 (by omega)) rfl X.1.1 gc_Mo ⟨by first | decide | omega | (dsimp only; omega), by first | decide | omega | (dsimp only; omega)⟩ ⟨by first | decide | omega | (dsimp only; omega), by first | decide | omega | (dsimp only; omega)⟩ (Nat.le_of_ble_eq_true rfl) rfl d_Mo_isDocument_102 (fun r z9 H locs hp9 V1 => ?_)
            obtain ⟨rfl, he9⟩ := hp9
            rw [he9] at V1
            have V := V1
            refine W.eq (g2 := F0 m 105 ls [.int (pek (sg tx n (rbl tx n (rbl tx n p9 + 1))))]) rfl ?_
            by_cases hcl : sg tx n (rbl tx n (rbl tx n p9 + 1)) = 93
            · have hcn := sg_lt (by omega : sg tx n (rbl tx n (rbl tx n p9 + 1)) ≠ 0)
              refine lv_iload hx hb d_Mo_isDocument_105 (lv_at hl 1 rfl) ?_
              refine lv_iconst (v := 2) hx hb d_Mo_isDocument_107 (by decide) ?_
              refine gn_iadd (a := 91) (b := 2) hx hb d_Mo_isDocument_108 ?_
              refine lv_icmp_eq (tgt := 135) hx hb d_Mo_isDocument_109 (by decide) (fun c7 => ?_) (fun c7 => absurd ((pek_eq (k := 91 + 2) (by omega) (by omega) (by omega)).mpr hcl) c7)
              refine lv_aload_n hx hb d_Mo_isDocument_135 rfl (lv_at hl 2 rfl) ?_
              refine lv_iload_n hx hb d_Mo_isDocument_136 rfl (lv_at hl 4 rfl) ?_
              refine gh_callV C V hl.1 m_Mo_close l_Mo_237 (c_Mo_closeG l E _ _ a ad _ _ _ (rbl tx n (rbl tx n p9 + 1)) d9 nv9 np9 [] bd false X.1 h21 h27 hd h26k h24k (fun z => ⟨fun j hj => absurd hj (Nat.not_lt_zero j), h11 z⟩) (by omega) hq29 (Nat.zero_le _) (by show np9 + 2 * 0 ≤ 300; omega) (by show 1 ≤ 100; decide) (by show 0 ≤ 7; decide)) rfl X.1.1 gc_Mo ⟨by first | decide | omega | (dsimp only; omega), by first | decide | omega | (dsimp only; omega)⟩ ⟨by first | decide | omega | (dsimp only; omega), by first | decide | omega | (dsimp only; omega)⟩ (Nat.le_of_ble_eq_true rfl) rfl d_Mo_isDocument_137 (fun r z9 H locs hp9 V1 => ?_)
              obtain ⟨rfl, Sk5, Ik5, Jk5, X2, h21, nv2, np2, hn2, hn4, hE2, hrd⟩ := hp9
              have X := X.then X2
              have V := V1
              refine W.eq (g2 := F0 m 140 ls []) rfl ?_
              have hn3 := hE2.2.2.2.2.2.1
              have hn5 := hE2.2.2.2.2.2.2
              have hn4 : np2 ≤ np9 + 2 * 0 := hn4
              have hnp : np2 = np9 := by omega
              rw [hnp] at hE2 hrd
              have hG := hG.step (d := 8) (hE2) h21 (by omega) (by omega) hQl (d9) (by omega) (by omega)
              have hT := hG.T hT0
              have h21 := hG.1
              have hS21 := h21
              have h27 := hG.b h270
              have h11 := hG.n h110
              have hsg := (hT.ch (rbl tx n (rbl tx n p9 + 1) + 1)).1
              refine lv_goto (tgt := 152) hx hb d_Mo_isDocument_140 (by decide) ?_
              refine lv_iconst (v := 0) hx hb d_Mo_isDocument_152 (by decide) ?_
              refine lv_istore hx hb d_Mo_isDocument_153 hl (by decide) rfl (fun ls hl => ?_)
              have hl : lv_has ls 7 [(6, .int 0), (5, .int 1), (4, .int 91), (0, .ref a), (1, .int (gh_bi bd)), (2, .int (nI d9)), (3, .int 0)] := hl
              have hRs : rd_a tx n true = rfi tx n lw d9 (rbl tx n (rbl tx n p9 + 1) + 1) (rmk false (rfo false [])) := by rw [hR, rfv_e (ob := false) hd hc9 hcl]
              have hl : lv_has ls 7 [(0, .ref a), (1, .int (gh_bi bd)), (2, .int (nI d9)), (3, .int 0), (6, .int 0)] := lv_sub hl [3, 4, 5, 6, 0] rfl
              have hl : lv_has ls 7 [(0, .ref a), (1, .int (gh_bi bd)), (2, .int (nI d9)), (3, .int 0), (6, .int 0)] := hl
              exact ih.2 lw d9 (rbl tx n (rbl tx n p9 + 1) + 1) _ _ (rmk false (rfo false [])) _ _ _ _ _ _ ls (by omega) hG (hQ.em hd (by omega) hn3 hn2) hRs hrd X V hl
            · have hRm := hR
              rw [rfv_m (ob := false) hd hc9 hcl] at hRm
              refine lv_iload hx hb d_Mo_isDocument_105 (lv_at hl 1 rfl) ?_
              refine lv_iconst (v := 2) hx hb d_Mo_isDocument_107 (by decide) ?_
              refine gn_iadd (a := 91) (b := 2) hx hb d_Mo_isDocument_108 ?_
              refine lv_icmp_eq (tgt := 135) hx hb d_Mo_isDocument_109 (by decide) (fun c8 => absurd c8 (fun z => hcl ((pek_eq (k := 91 + 2) (by omega) (by omega) (by omega)).mp z))) (fun c8 => ?_)
              refine lv_iload hx hb d_Mo_isDocument_112 (lv_at hl 1 rfl) ?_
              refine lv_bipush (v := 123) hx hb d_Mo_isDocument_114 (by decide) ?_
              refine lv_icmp_ne (tgt := 129) hx hb d_Mo_isDocument_116 (by decide) (fun c9 => ?_) (fun c9 => absurd c9 (by decide))
              refine lv_iinc (k := 4) (v := (nI d9) + 1) hx hb d_Mo_isDocument_129 hl rfl (by rfl) (by decide) rfl (fun ls hl => ?_)
              have hl : lv_has ls 7 [(2, .int (nI (d9 + 1))), (5, .int 1), (4, .int 91), (0, .ref a), (1, .int (gh_bi bd)), (3, .int 0)] := by rw [nI_succ]; exact hl
              refine lv_goto (tgt := 14) hx hb d_Mo_isDocument_132 (by decide) ?_
              have hRm : rd_a tx n true = rfv tx n (va_up lw d9 (false, [], [])) (d9 + 1) (rbl tx n (rbl tx n p9 + 1)) := hRm
              have hG := hG.add (x := (false, [], [])) ⟨h26k, h24k, fun z => ⟨fun j hj => absurd hj (Nat.not_lt_zero j), fun z => by cases z⟩⟩
              have hl : lv_has ls 7 [(0, .ref a), (1, .int (gh_bi bd)), (2, .int (nI (d9 + 1))), (3, .int 0)] := lv_sub hl [3, 4, 0, 5] rfl
              have hl : lv_has ls 7 [(0, .ref a), (1, .int (gh_bi bd)), (2, .int (nI (d9 + 1))), (3, .int 0)] := hl
              exact ih.1 (va_up lw d9 (false, [], [])) (d9 + 1) (rbl tx n (rbl tx n p9 + 1)) _ _ _ _ _ _ _ _ ls (by omega) hG (hQ.op hd (by omega) (fun z => by cases z) (Nat.le_refl _) (Nat.le_succ _)) hRm X V hl
          · have hpk : pek (sg tx n (rbl tx n p9)) = 123 := ((pek_eq (k := 123) (by omega) (by omega) (by omega)).mpr hc9)
            rw [hpk]
            have hbn := sg_lt (by omega : sg tx n (rbl tx n p9) ≠ 0)
            refine lv_istore hx hb d_Mo_isDocument_34 hl (by decide) rfl (fun ls hl => ?_)
            have hl : lv_has ls 7 [(4, .int 123), (0, .ref a), (1, .int (gh_bi bd)), (2, .int (nI d9)), (3, .int 0)] := hl
            refine lv_iload hx hb d_Mo_isDocument_36 (lv_at hl 0 rfl) ?_
            refine lv_bipush (v := 91) hx hb d_Mo_isDocument_38 (by decide) ?_
            refine lv_icmp_eq (tgt := 50) hx hb d_Mo_isDocument_40 (by decide) (fun c10 => absurd c10 (by decide)) (fun c10 => ?_)
            refine lv_iload hx hb d_Mo_isDocument_43 (lv_at hl 0 rfl) ?_
            refine lv_bipush (v := 123) hx hb d_Mo_isDocument_45 (by decide) ?_
            refine lv_icmp_ne (tgt := 54) hx hb d_Mo_isDocument_47 (by decide) (fun c11 => absurd (by decide) c11) (fun c11 => ?_)
            refine lv_iconst (v := 1) hx hb d_Mo_isDocument_50 (by decide) ?_
            refine lv_goto (tgt := 55) hx hb d_Mo_isDocument_51 (by decide) ?_
            refine lv_istore hx hb d_Mo_isDocument_55 hl (by decide) rfl (fun ls hl => ?_)
            have hl : lv_has ls 7 [(5, .int 1), (4, .int 123), (0, .ref a), (1, .int (gh_bi bd)), (2, .int (nI d9)), (3, .int 0)] := hl
            refine lv_iload hx hb d_Mo_isDocument_57 (lv_at hl 0 rfl) ?_
            refine lv_if_eq (tgt := 143) hx hb d_Mo_isDocument_59 (by decide) (fun c12 => absurd c12 (by decide)) (fun c12 => ?_)
            refine lv_aload_n hx hb d_Mo_isDocument_62 rfl (lv_at hl 2 rfl) ?_
            refine lv_dup hx hb d_Mo_isDocument_63 rfl ?_
            refine mo_getS (v := nI (rbl tx n p9)) C V X 21 (by decide) (by decide) (by first | rfl | exact hS21) f_Mo_179 rfl d_Mo_isDocument_64 ?_
            refine lv_iconst (v := 1) hx hb d_Mo_isDocument_67 (by decide) ?_
            refine gn_iadd (a := rbl tx n p9) (b := 1) hx hb d_Mo_isDocument_68 ?_
            refine mo_putS C V X 21 (by decide) (by decide) f_Mo_179 rfl rfl rfl d_Mo_isDocument_69 (fun f1 H locs V1 X1 => ?_)
            clear V X
            have V := V1
            have X := X1
            clear V1 X1
            have h21 : (va_up Sb1 21 (nI ((rbl tx n p9) + 1))) 21 = nI ((rbl tx n p9) + 1) := va_up_s
            have hS21 := h21
            have hT : rT tx n (va_up Sb1 21 (nI ((rbl tx n p9) + 1))) I1 := hT.keep (va_up_n (by decide)) rfl
            have hG := hG.step (d := 8) (rE.a21 (fun k hk => va_up_n hk)) h21 (by omega) (by omega) hQl d9 (by omega) (by omega)
            obtain ⟨Sn6, hSn6⟩ : ∃ z9 : Nat → Int32, z9 = va_up Sb1 21 (nI ((rbl tx n p9) + 1)) := ⟨_, rfl⟩
            obtain ⟨In6, hIn6⟩ : ∃ z9 : mo_I, z9 = I1 := ⟨_, rfl⟩
            rw [← hSn6, ← hIn6] at X
            rw [← hSn6, ← hIn6] at hG
            have hT := hG.T hT0
            have h21 := hG.1
            have hS21 := h21
            have h27 := hG.b h270
            have h11 := hG.n h110
            have hsg := (hT.ch (rbl tx n p9 + 1)).1
            refine lv_aload_n hx hb d_Mo_isDocument_72 rfl (lv_at hl 2 rfl) ?_
            refine mo_getA C V X 26 (by decide) (by decide) f_Mo_69 rfl d_Mo_isDocument_73 ?_
            refine lv_iload_n hx hb d_Mo_isDocument_76 rfl (lv_at hl 4 rfl) ?_
            refine lv_iload hx hb d_Mo_isDocument_77 (lv_at hl 1 rfl) ?_
            refine lv_bipush (v := 123) hx hb d_Mo_isDocument_79 (by decide) ?_
            refine lv_icmp_ne (tgt := 88) hx hb d_Mo_isDocument_81 (by decide) (fun c13 => absurd (by decide) c13) (fun c13 => ?_)
            refine lv_iconst (v := 1) hx hb d_Mo_isDocument_84 (by decide) ?_
            refine lv_goto (tgt := 89) hx hb d_Mo_isDocument_85 (by decide) ?_
            refine mo_zst (k := 26) (i := d9) (n := 8) C V X (by decide) (by decide) rfl (by omega) (by decide) d_Mo_isDocument_89 (fun f1 H locs V1 X1 => ?_)
            clear V X
            have V := V1
            have X := X1
            clear V1 X1
            refine lv_aload_n hx hb d_Mo_isDocument_90 rfl (lv_at hl 2 rfl) ?_
            refine mo_getA C V X 24 (by decide) (by decide) f_Mo_63 rfl d_Mo_isDocument_91 ?_
            refine lv_iload_n hx hb d_Mo_isDocument_94 rfl (lv_at hl 4 rfl) ?_
            refine lv_iconst (v := 0) hx hb d_Mo_isDocument_95 (by decide) ?_
            refine mo_ist (k := 24) (i := d9) (n := 8) C V X (by decide) (by decide) rfl (by omega) (by decide) d_Mo_isDocument_96 (fun f1 H locs V1 X1 => ?_)
            clear V X
            have V := V1
            have X := X1
            clear V1 X1
            obtain ⟨Sn7, hSn7⟩ : ∃ z9 : Nat → Int32, z9 = Sn6 := ⟨_, rfl⟩
            obtain ⟨In7, hIn7⟩ : ∃ z9 : mo_I, z9 = va_up (va_up In6 26 (upd (In6 26) d9 (vp_nar .boolean 1))) 24 (upd ((va_up In6 26 (upd (In6 26) d9 (vp_nar .boolean 1))) 24) d9 0) := ⟨_, rfl⟩
            rw [← hSn7, ← hIn7] at X
            rw [← hSn7] at hG h21 hT h27 h11
            have hS21 := h21
            have h26k : In7 26 d9 = gh_bi true := by rw [hIn7, va_up_n (by decide), va_up_s]; simp only [upd]; rw [if_pos trivial]; rfl
            have h24k : In7 24 d9 = nI 0 := by rw [hIn7, va_up_s]; simp only [upd]; rw [if_pos trivial]; rfl
            have hEi : rE bd d9 Sn7 In6 J1 nv9 np9 Sn7 In7 J1 nv9 np9 := by
              rw [hIn7]
              refine rE.i (fun k hk => by rw [va_up_n (by omega), va_up_n (by omega)]) (fun j hj => ⟨by rw [va_up_n (by decide), va_up_n (by decide)], by rw [va_up_n (by decide), va_up_n (by decide)]⟩) (fun j hj => ⟨?_, ?_⟩)
              · rw [va_up_s]; simp only [upd]; rw [if_neg (by omega), va_up_n (by decide)]
              · rw [va_up_n (by decide), va_up_s]; simp only [upd]; rw [if_neg (by omega)]
            have hG := hG.step (d := d9) (hEi) h21 (by omega) (by omega) hQl (d9) (by omega) (by omega)
            have hT := hG.T hT0
            have h21 := hG.1
            have hS21 := h21
            have h27 := hG.b h270
            have h11 := hG.n h110
            have hsg := (hT.ch (rbl tx n p9 + 1)).1
            refine lv_aload_n hx hb d_Mo_isDocument_97 rfl (lv_at hl 2 rfl) ?_
            refine gh_callV C V hl.1 m_Mo_blanks l_Mo_214 (c_Mo_blanks l E _ _ a ad _ _ _ tx n (rbl tx n p9 + 1) X.1 hT h21 (by omega)) rfl X.1.1 gc_Mo ⟨by first | decide | omega | (dsimp only; omega), by first | decide | omega | (dsimp only; omega)⟩ ⟨by first | decide | omega | (dsimp only; omega), by first | decide | omega | (dsimp only; omega)⟩ (Nat.le_of_ble_eq_true rfl) rfl d_Mo_isDocument_98 (fun r z9 H locs hp9 V1 => ?_)
            obtain ⟨rfl, Sb8, X2, h21n, gb8⟩ := hp9
            have X := X.then X2
            have V := V1
            have hT : rT tx n Sb8 In7 := hT.keep (gb8 20 (by decide)) rfl
            have hbl9 := rbl_le (tx := tx) (n := n) (p := rbl tx n p9 + 1) (by omega)
            have hbg9 := rbl_ge (tx := tx) (n := n) (p := rbl tx n p9 + 1)
            have h21 := h21n
            have hS21 := h21
            have hsg := (hT.ch (rbl tx n (rbl tx n p9 + 1))).1
            refine W.eq (g2 := F0 m 101 ls []) rfl ?_
            have hG := hG.step (d := 8) (rE.a21 gb8) h21 (by omega) (by omega) hQl (d9) (by omega) (by omega)
            have hT := hG.T hT0
            have h21 := hG.1
            have hS21 := h21
            have h27 := hG.b h270
            have h11 := hG.n h110
            have hsg := (hT.ch (rbl tx n (rbl tx n p9 + 1))).1
            have hc1 := rbl_le (tx := tx) (n := n) (p := rbl tx n p9 + 1) (by omega)
            have hc2 := rbl_ge (tx := tx) (n := n) (p := rbl tx n p9 + 1)
            refine lv_aload_n hx hb d_Mo_isDocument_101 rfl (lv_at hl 2 rfl) ?_
            refine gh_callV C V hl.1 m_Mo_peek l_Mo_185 (c_Mo_pk l E _ _ a ad _ _ _ tx n (rbl tx n (rbl tx n p9 + 1)) X.1 hT h21 (by omega)) rfl X.1.1 gc_Mo ⟨by first | decide | omega | (dsimp only; omega), by first | decide | omega | (dsimp only; omega)⟩ ⟨by first | decide | omega | (dsimp only; omega), by first | decide | omega | (dsimp only; omega)⟩ (Nat.le_of_ble_eq_true rfl) rfl d_Mo_isDocument_102 (fun r z9 H locs hp9 V1 => ?_)
            obtain ⟨rfl, he9⟩ := hp9
            rw [he9] at V1
            have V := V1
            refine W.eq (g2 := F0 m 105 ls [.int (pek (sg tx n (rbl tx n (rbl tx n p9 + 1))))]) rfl ?_
            by_cases hcl : sg tx n (rbl tx n (rbl tx n p9 + 1)) = 125
            · have hcn := sg_lt (by omega : sg tx n (rbl tx n (rbl tx n p9 + 1)) ≠ 0)
              refine lv_iload hx hb d_Mo_isDocument_105 (lv_at hl 1 rfl) ?_
              refine lv_iconst (v := 2) hx hb d_Mo_isDocument_107 (by decide) ?_
              refine gn_iadd (a := 123) (b := 2) hx hb d_Mo_isDocument_108 ?_
              refine lv_icmp_eq (tgt := 135) hx hb d_Mo_isDocument_109 (by decide) (fun c14 => ?_) (fun c14 => absurd ((pek_eq (k := 123 + 2) (by omega) (by omega) (by omega)).mpr hcl) c14)
              refine lv_aload_n hx hb d_Mo_isDocument_135 rfl (lv_at hl 2 rfl) ?_
              refine lv_iload_n hx hb d_Mo_isDocument_136 rfl (lv_at hl 4 rfl) ?_
              refine gh_callV C V hl.1 m_Mo_close l_Mo_237 (c_Mo_closeG l E _ _ a ad _ _ _ (rbl tx n (rbl tx n p9 + 1)) d9 nv9 np9 [] bd true X.1 h21 h27 hd h26k h24k (fun z => ⟨fun j hj => absurd hj (Nat.not_lt_zero j), h11 z⟩) (by omega) hq29 (Nat.zero_le _) (by show np9 + 2 * 0 ≤ 300; omega) (by show 1 ≤ 100; decide) (by show 0 ≤ 7; decide)) rfl X.1.1 gc_Mo ⟨by first | decide | omega | (dsimp only; omega), by first | decide | omega | (dsimp only; omega)⟩ ⟨by first | decide | omega | (dsimp only; omega), by first | decide | omega | (dsimp only; omega)⟩ (Nat.le_of_ble_eq_true rfl) rfl d_Mo_isDocument_137 (fun r z9 H locs hp9 V1 => ?_)
              obtain ⟨rfl, Sk9, Ik9, Jk9, X2, h21, nv2, np2, hn2, hn4, hE2, hrd⟩ := hp9
              have X := X.then X2
              have V := V1
              refine W.eq (g2 := F0 m 140 ls []) rfl ?_
              have hn3 := hE2.2.2.2.2.2.1
              have hn5 := hE2.2.2.2.2.2.2
              have hn4 : np2 ≤ np9 + 2 * 0 := hn4
              have hnp : np2 = np9 := by omega
              rw [hnp] at hE2 hrd
              have hG := hG.step (d := 8) (hE2) h21 (by omega) (by omega) hQl (d9) (by omega) (by omega)
              have hT := hG.T hT0
              have h21 := hG.1
              have hS21 := h21
              have h27 := hG.b h270
              have h11 := hG.n h110
              have hsg := (hT.ch (rbl tx n (rbl tx n p9 + 1) + 1)).1
              refine lv_goto (tgt := 152) hx hb d_Mo_isDocument_140 (by decide) ?_
              refine lv_iconst (v := 0) hx hb d_Mo_isDocument_152 (by decide) ?_
              refine lv_istore hx hb d_Mo_isDocument_153 hl (by decide) rfl (fun ls hl => ?_)
              have hl : lv_has ls 7 [(6, .int 0), (5, .int 1), (4, .int 123), (0, .ref a), (1, .int (gh_bi bd)), (2, .int (nI d9)), (3, .int 0)] := hl
              have hRs : rd_a tx n true = rfi tx n lw d9 (rbl tx n (rbl tx n p9 + 1) + 1) (rmk true (rfo true [])) := by rw [hR, rfv_e (ob := true) hd hc9 hcl]
              have hl : lv_has ls 7 [(0, .ref a), (1, .int (gh_bi bd)), (2, .int (nI d9)), (3, .int 0), (6, .int 0)] := lv_sub hl [3, 4, 5, 6, 0] rfl
              have hl : lv_has ls 7 [(0, .ref a), (1, .int (gh_bi bd)), (2, .int (nI d9)), (3, .int 0), (6, .int 0)] := hl
              exact ih.2 lw d9 (rbl tx n (rbl tx n p9 + 1) + 1) _ _ (rmk true (rfo true [])) _ _ _ _ _ _ ls (by omega) hG (hQ.em hd (by omega) hn3 hn2) hRs hrd X V hl
            · have hRm := hR
              rw [rfv_m (ob := true) hd hc9 hcl] at hRm
              refine lv_iload hx hb d_Mo_isDocument_105 (lv_at hl 1 rfl) ?_
              refine lv_iconst (v := 2) hx hb d_Mo_isDocument_107 (by decide) ?_
              refine gn_iadd (a := 123) (b := 2) hx hb d_Mo_isDocument_108 ?_
              refine lv_icmp_eq (tgt := 135) hx hb d_Mo_isDocument_109 (by decide) (fun c15 => absurd c15 (fun z => hcl ((pek_eq (k := 123 + 2) (by omega) (by omega) (by omega)).mp z))) (fun c15 => ?_)
              refine lv_iload hx hb d_Mo_isDocument_112 (lv_at hl 1 rfl) ?_
              refine lv_bipush (v := 123) hx hb d_Mo_isDocument_114 (by decide) ?_
              refine lv_icmp_ne (tgt := 129) hx hb d_Mo_isDocument_116 (by decide) (fun c16 => absurd (by decide) c16) (fun c16 => ?_)
              refine lv_aload_n hx hb d_Mo_isDocument_119 rfl (lv_at hl 2 rfl) ?_
              refine lv_iload_n hx hb d_Mo_isDocument_120 rfl (lv_at hl 4 rfl) ?_
              refine gh_callV C V hl.1 m_Mo_key l_Mo_234 (c_Mo_key l E _ _ a ad _ _ _ tx n (rbl tx n (rbl tx n p9 + 1)) d9 (0) nv9 np9 bd X.1 hT h21 (by omega) (by omega) (by omega) h24k h27 (fun z => ⟨(h11 z).1, by omega, by omega⟩) (by omega)) rfl X.1.1 gc_Mo ⟨by first | decide | omega | (dsimp only; omega), by first | decide | omega | (dsimp only; omega)⟩ ⟨by first | decide | omega | (dsimp only; omega), by first | decide | omega | (dsimp only; omega)⟩ (Nat.le_of_ble_eq_true rfl) rfl d_Mo_isDocument_121 (fun r z9 H locs hp9 V1 => ?_)
              obtain ⟨rfl, Sk10, Ik10, Jk10, X2, h21, gK⟩ := hp9
              have X := X.then X2
              have V := V1
              refine W.eq (g2 := F0 m 124 ls [.int (gh_bi (rd_K tx n (rbl tx n (rbl tx n p9 + 1))).2.isSome)]) rfl ?_
              cases hkk : rd_K tx n (rbl tx n (rbl tx n p9 + 1)) with
              | mk q9 o9 =>
                have hRm : rd_a tx n true = (match rd_K tx n (rbl tx n (rbl tx n p9 + 1)) with | (q, none) => (q, none) | (q, some L) => rfv tx n (va_up lw d9 (true, [], L)) (d9 + 1) q) := hRm
                have hok := rd_K_ok hch (by omega) hkk
                have hok2 := hok.2.1
                rw [hkk] at h21 gK hRm
                cases o9 with
                | none =>
                  refine W.eq (g2 := F0 m 124 ls [.int 0]) rfl ?_
                  have hRn : rd_a tx n true = (q9, none) := hRm
                  obtain ⟨nv2, hn2, hE2, -, -⟩ := gK (fun z => by have h9 := (hbd z).1; rw [hRn] at h9; cases h9)
                  have hn3 := hE2.2.2.2.2.2.1
                  have hG := hG.step (d := d9) (hE2) h21 (by omega) (by omega) hQl (d9) (by omega) (by omega)
                  have hT := hG.T hT0
                  have h21 := hG.1
                  have hS21 := h21
                  have h27 := hG.b h270
                  have h11 := hG.n h110
                  have hsg := (hT.ch (q9)).1
                  refine lv_if_ne (tgt := 129) hx hb d_Mo_isDocument_124 (by decide) (fun c17 => absurd (by decide) c17) (fun c17 => ?_)
                  refine lv_iconst (v := 0) hx hb d_Mo_isDocument_127 (by decide) ?_
                  refine gh_retz hAe C V hr (by first | rfl | exact gh_bi_nar _ | decide) hlocks d_Mo_isDocument_128 (by first | decide | omega | (dsimp only; omega)) (by first | decide | omega | (dsimp only; omega)) ?_
                  have hbf : bd = true → False := fun z => by have h9 := (hbd z).1; rw [hRn] at h9; cases h9
                  rw [hRn]
                  exact ⟨rfl, _, _, _, X, h21, _, _, by omega, by omega, by omega, hG.2.2.1, fun z => (hbf z).elim⟩
                | some L9 =>
                  refine W.eq (g2 := F0 m 124 ls [.int 1]) rfl ?_
                  have hRm : rd_a tx n true = rfv tx n (va_up lw d9 (true, [], L9)) (d9 + 1) q9 := hRm
                  obtain ⟨nv2, hn2, hE2, ⟨hi1, hi2, hi3, hi4⟩, hrd⟩ := gK (fun _ => rfl)
                  have hn3 := hE2.2.2.2.2.2.1
                  obtain ⟨hx1, hx2⟩ := hok.2.2 L9 rfl
                  have hG := hG.step (d := d9) (hE2) h21 (by omega) (by omega) hQl (d9) (by omega) (by omega)
                  have hT := hG.T hT0
                  have h21 := hG.1
                  have hS21 := h21
                  have h27 := hG.b h270
                  have h11 := hG.n h110
                  have hsg := (hT.ch (q9)).1
                  have hG := hG.add (x := (true, [], L9)) ⟨by rw [hi3]; exact h26k, by rw [hi2]; exact h24k, fun z => ⟨fun j hj => absurd hj (Nat.not_lt_zero j), fun _ => hrd z L9 rfl⟩⟩
                  refine lv_if_ne (tgt := 129) hx hb d_Mo_isDocument_124 (by decide) (fun c18 => ?_) (fun c18 => absurd c18 (by decide))
                  refine lv_iinc (k := 4) (v := (nI d9) + 1) hx hb d_Mo_isDocument_129 hl rfl (by rfl) (by decide) rfl (fun ls hl => ?_)
                  have hl : lv_has ls 7 [(2, .int (nI (d9 + 1))), (5, .int 1), (4, .int 123), (0, .ref a), (1, .int (gh_bi bd)), (3, .int 0)] := by rw [nI_succ]; exact hl
                  refine lv_goto (tgt := 14) hx hb d_Mo_isDocument_132 (by decide) ?_
                  have hl : lv_has ls 7 [(0, .ref a), (1, .int (gh_bi bd)), (2, .int (nI (d9 + 1))), (3, .int 0)] := lv_sub hl [3, 4, 0, 5] rfl
                  have hl : lv_has ls 7 [(0, .ref a), (1, .int (gh_bi bd)), (2, .int (nI (d9 + 1))), (3, .int 0)] := hl
                  exact ih.1 (va_up lw d9 (true, [], L9)) (d9 + 1) q9 _ _ _ _ _ _ _ _ ls (by omega) hG (hQ.op hd (by omega) (fun _ => hx2) hn3 hn2) hRm X V hl
          · refine lv_istore hx hb d_Mo_isDocument_34 hl (by decide) rfl (fun ls hl => ?_)
            have hl : lv_has ls 7 [(4, .int (pek (sg tx n (rbl tx n p9)))), (0, .ref a), (1, .int (gh_bi bd)), (2, .int (nI d9)), (3, .int 0)] := hl
            refine lv_iload hx hb d_Mo_isDocument_36 (lv_at hl 0 rfl) ?_
            refine lv_bipush (v := 91) hx hb d_Mo_isDocument_38 (by decide) ?_
            refine lv_icmp_eq (tgt := 50) hx hb d_Mo_isDocument_40 (by decide) (fun c19 => absurd c19 (fun z => hc9.1 ((pek_eq (k := 91) (by omega) (by omega) (by omega)).mp z))) (fun c19 => ?_)
            refine lv_iload hx hb d_Mo_isDocument_43 (lv_at hl 0 rfl) ?_
            refine lv_bipush (v := 123) hx hb d_Mo_isDocument_45 (by decide) ?_
            refine lv_icmp_ne (tgt := 54) hx hb d_Mo_isDocument_47 (by decide) (fun c20 => ?_) (fun c20 => absurd c20 (fun z => hc9.2 ((pek_eq (k := 123) (by omega) (by omega) (by omega)).mp z)))
            refine lv_iconst (v := 0) hx hb d_Mo_isDocument_54 (by decide) ?_
            refine lv_istore hx hb d_Mo_isDocument_55 hl (by decide) rfl (fun ls hl => ?_)
            have hl : lv_has ls 7 [(5, .int 0), (4, .int (pek (sg tx n (rbl tx n p9)))), (0, .ref a), (1, .int (gh_bi bd)), (2, .int (nI d9)), (3, .int 0)] := hl
            refine lv_iload hx hb d_Mo_isDocument_57 (lv_at hl 0 rfl) ?_
            refine lv_if_eq (tgt := 143) hx hb d_Mo_isDocument_59 (by decide) (fun c21 => ?_) (fun c21 => absurd (by decide) c21)
            refine lv_aload_n hx hb d_Mo_isDocument_143 rfl (lv_at hl 2 rfl) ?_
            refine gh_callV C V hl.1 m_Mo_scalar l_Mo_241 (c_Mo_scalarG l E _ _ a ad _ _ _ tx n (rbl tx n p9) nv9 np9 bd X.1 hT h21 (by omega) h27 (fun z => ⟨(h11 z).1, by omega, by omega, hG.2.2.2.2 z⟩)) rfl X.1.1 gc_Mo ⟨by first | decide | omega | (dsimp only; omega), by first | decide | omega | (dsimp only; omega)⟩ ⟨by first | decide | omega | (dsimp only; omega), by first | decide | omega | (dsimp only; omega)⟩ (Nat.le_of_ble_eq_true rfl) rfl d_Mo_isDocument_144 (fun r z9 H locs hp9 V1 => ?_)
            obtain ⟨rfl, Sk11, Ik11, Jk11, X2, h21, gO⟩ := hp9
            have X := X.then X2
            have V := V1
            refine W.eq (g2 := F0 m 147 ls [.int (gh_bi (rd_c tx n true (rbl tx n p9)).2.isSome)]) rfl ?_
            have hRs := hR
            rw [rfv_s hd hc9.1 hc9.2] at hRs
            cases hcc : rd_c tx n true (rbl tx n p9) with
            | mk q9 o9 =>
              have hok := rd_c_ok hch h120 hc9.1 hc9.2 (by omega) hcc
              rw [hcc] at h21 gO hRs
              cases o9 with
              | none =>
                refine W.eq (g2 := F0 m 147 ls [.int 0]) rfl ?_
                have hRn : rd_a tx n true = (q9, none) := hRs
                obtain ⟨nv2, hn2, hE2, -, -⟩ := gO.rE (fun z => by have h9 := (hbd z).1; rw [hRn] at h9; cases h9) (by omega)
                have hn3 := hE2.2.2.2.2.2.1
                have hok2 := hok.2.1
                have hG := hG.step (d := 8) (hE2) h21 (by omega) (by omega) hQl (d9) (by omega) (by omega)
                have hT := hG.T hT0
                have h21 := hG.1
                have hS21 := h21
                have h27 := hG.b h270
                have h11 := hG.n h110
                have hsg := (hT.ch (q9)).1
                refine lv_if_ne (tgt := 152) hx hb d_Mo_isDocument_147 (by decide) (fun c22 => absurd (by decide) c22) (fun c22 => ?_)
                refine lv_iconst (v := 0) hx hb d_Mo_isDocument_150 (by decide) ?_
                refine gh_retz hAe C V hr (by first | rfl | exact gh_bi_nar _ | decide) hlocks d_Mo_isDocument_151 (by first | decide | omega | (dsimp only; omega)) (by first | decide | omega | (dsimp only; omega)) ?_
                have hbf : bd = true → False := fun z => by have h9 := (hbd z).1; rw [hRn] at h9; cases h9
                rw [hRn]
                exact ⟨rfl, _, _, _, X, h21, _, _, by omega, by omega, by omega, hG.2.2.1, fun z => (hbf z).elim⟩
              | some X9 =>
                refine W.eq (g2 := F0 m 147 ls [.int 1]) rfl ?_
                have hRs : rd_a tx n true = rfi tx n lw d9 q9 X9 := hRs
                obtain ⟨nv2, hn2, hE2, -, hrd⟩ := gO.rE (fun _ => ⟨_, rfl⟩) (by omega)
                have hn3 := hE2.2.2.2.2.2.1
                have hok2 := hok.2.1
                obtain ⟨hx1, hx2, hx3, hx4⟩ := hok.2.2 X9 rfl
                have hG := hG.step (d := 8) (hE2) h21 (by omega) (by omega) hQl (d9) (by omega) (by omega)
                have hT := hG.T hT0
                have h21 := hG.1
                have hS21 := h21
                have h27 := hG.b h270
                have h11 := hG.n h110
                have hsg := (hT.ch (q9)).1
                refine lv_if_ne (tgt := 152) hx hb d_Mo_isDocument_147 (by decide) (fun c23 => ?_) (fun c23 => absurd c23 (by decide))
                refine lv_iconst (v := 0) hx hb d_Mo_isDocument_152 (by decide) ?_
                refine lv_istore hx hb d_Mo_isDocument_153 hl (by decide) rfl (fun ls hl => ?_)
                have hl : lv_has ls 7 [(6, .int 0), (5, .int 0), (4, .int (pek (sg tx n (rbl tx n p9)))), (0, .ref a), (1, .int (gh_bi bd)), (2, .int (nI d9)), (3, .int 0)] := hl
                have hl : lv_has ls 7 [(0, .ref a), (1, .int (gh_bi bd)), (2, .int (nI d9)), (3, .int 0), (6, .int 0)] := lv_sub hl [3, 4, 5, 6, 0] rfl
                have hl : lv_has ls 7 [(0, .ref a), (1, .int (gh_bi bd)), (2, .int (nI d9)), (3, .int 0), (6, .int 0)] := hl
                exact ih.2 lw d9 q9 _ _ X9 _ _ _ _ _ _ ls (by omega) hG (hQ.sc (by omega) hx1 hx4 hx2 (by omega) hn3 hn2) hRs (fun z => hrd z X9 rfl) X V hl
      · intro lw d9 p9 nv9 np9 X9 S1 I1 J1 f1 H locs ls hk hG hQ hR hrd X V hl
        have hQc := hQ
        obtain ⟨hq0, hq29, hqn, hqp, hqw, hqv, hqh⟩ := hQc
        have hd8a := hq0.1
        have hpn := hG.2.1
        have hQl : ∀ e, e < d9 → (lw e).2.1.length < 16 := fun e he => (hq0.2 e he).1
        have hT := hG.T hT0
        have h21 := hG.1
        have hS21 := h21
        have h27 := hG.b h270
        have h11 := hG.n h110
        have hsg := (hT.ch (p9)).1
        refine lv_iload hx hb d_Mo_isDocument_155 (lv_at hl 4 rfl) ?_
        refine lv_if_ne (tgt := 291) hx hb d_Mo_isDocument_157 (by decide) (fun c24 => absurd (by decide) c24) (fun c24 => ?_)
        refine lv_iload_n hx hb d_Mo_isDocument_160 rfl (lv_at hl 3 rfl) ?_
        refine lv_if_ne (tgt := 291) hx hb d_Mo_isDocument_161 (by decide) (fun c25 => absurd (by decide) c25) (fun c25 => ?_)
        refine lv_aload_n hx hb d_Mo_isDocument_164 rfl (lv_at hl 0 rfl) ?_
        refine gh_callV C V hl.1 m_Mo_blanks l_Mo_214 (c_Mo_blanks l E _ _ a ad _ _ _ tx n p9 X.1 hT h21 (by omega)) rfl X.1.1 gc_Mo ⟨by first | decide | omega | (dsimp only; omega), by first | decide | omega | (dsimp only; omega)⟩ ⟨by first | decide | omega | (dsimp only; omega), by first | decide | omega | (dsimp only; omega)⟩ (Nat.le_of_ble_eq_true rfl) rfl d_Mo_isDocument_165 (fun r z9 H locs hp9 V1 => ?_)
        obtain ⟨rfl, Sb12, X2, h21n, gb12⟩ := hp9
        have X := X.then X2
        have V := V1
        have hT : rT tx n Sb12 I1 := hT.keep (gb12 20 (by decide)) rfl
        have hbl9 := rbl_le (tx := tx) (n := n) (p := p9) (by omega)
        have hbg9 := rbl_ge (tx := tx) (n := n) (p := p9)
        have h21 := h21n
        have hS21 := h21
        have hsg := (hT.ch (rbl tx n p9)).1
        refine W.eq (g2 := F0 m 168 ls []) rfl ?_
        have hG := hG.step (d := 8) (rE.a21 gb12) h21 (by omega) (by omega) hQl (d9) (by omega) (by omega)
        have hT := hG.T hT0
        have h21 := hG.1
        have hS21 := h21
        have h27 := hG.b h270
        have h11 := hG.n h110
        have hsg := (hT.ch (rbl tx n p9)).1
        have hb1 := rbl_le (tx := tx) (n := n) (p := p9) (by omega)
        have hb2 := rbl_ge (tx := tx) (n := n) (p := p9)
        have hrd : bd = true → ∃ u, Sb12 28 = nI u ∧ mw I1 J1 29 nv9 0 np9 u X9 := fun z => by rw [gb12 28 (by decide)]; exact hrd z
        cases d9 with
        | zero =>
          have hl : lv_has ls 7 [(0, .ref a), (1, .int (gh_bi bd)), (2, .int (nI 0)), (3, .int 0), (6, .int 0)] := hl
          have hl : lv_has ls 7 [(0, .ref a), (1, .int (gh_bi bd)), (2, .int 0), (3, .int 0), (6, .int 0)] := hl
          refine lv_iload_n hx hb d_Mo_isDocument_168 rfl (lv_at hl 2 rfl) ?_
          refine lv_if_ne (tgt := 176) hx hb d_Mo_isDocument_169 (by decide) (fun c26 => absurd (by decide) c26) (fun c26 => ?_)
          refine lv_iconst (v := 1) hx hb d_Mo_isDocument_172 (by decide) ?_
          refine lv_goto (tgt := 177) hx hb d_Mo_isDocument_173 (by decide) ?_
          refine lv_istore_n hx hb d_Mo_isDocument_177 rfl hl (by decide) rfl (fun ls hl => ?_)
          have hl : lv_has ls 7 [(3, .int 1), (0, .ref a), (1, .int (gh_bi bd)), (2, .int 0), (6, .int 0)] := hl
          refine lv_iload_n hx hb d_Mo_isDocument_178 rfl (lv_at hl 0 rfl) ?_
          refine lv_if_eq (tgt := 185) hx hb d_Mo_isDocument_179 (by decide) (fun c27 => absurd c27 (by decide)) (fun c27 => ?_)
          refine lv_goto (tgt := 155) hx hb d_Mo_isDocument_182 (by decide) ?_
          refine lv_iload hx hb d_Mo_isDocument_155 (lv_at hl 4 rfl) ?_
          refine lv_if_ne (tgt := 291) hx hb d_Mo_isDocument_157 (by decide) (fun c28 => absurd (by decide) c28) (fun c28 => ?_)
          refine lv_iload_n hx hb d_Mo_isDocument_160 rfl (lv_at hl 0 rfl) ?_
          refine lv_if_ne (tgt := 291) hx hb d_Mo_isDocument_161 (by decide) (fun c29 => ?_) (fun c29 => absurd c29 (by decide))
          refine lv_goto (tgt := 14) hx hb d_Mo_isDocument_291 (by decide) ?_
          refine lv_iload_n hx hb d_Mo_isDocument_14 rfl (lv_at hl 0 rfl) ?_
          refine lv_if_ne (tgt := 294) hx hb d_Mo_isDocument_15 (by decide) (fun c30 => ?_) (fun c30 => absurd c30 (by decide))
          refine lv_aload_n hx hb d_Mo_isDocument_294 rfl (lv_at hl 1 rfl) ?_
          have h20 : Sb12 20 = nI n := hT.1
          have hS20 := h20
          by_cases hbn : rbl tx n p9 < n
          · have hRn : rd_a tx n true = (rbl tx n p9, none) := by rw [hR]; show (if rbl tx n p9 < n then _ else _) = _; rw [if_pos hbn]
            refine mo_getS (v := nI (rbl tx n p9)) C V X 21 (by decide) (by decide) (by first | rfl | exact hS21) f_Mo_179 rfl d_Mo_isDocument_295 ?_
            refine lv_aload_n hx hb d_Mo_isDocument_298 rfl (lv_at hl 1 rfl) ?_
            refine mo_getS (v := nI n) C V X 20 (by decide) (by decide) (by first | rfl | exact hS20) f_Mo_182 rfl d_Mo_isDocument_299 ?_
            refine lv_icmp_ne (tgt := 309) hx hb d_Mo_isDocument_302 (by decide) (fun c31 => ?_) (fun c31 => absurd c31 (fun z => absurd ((nI_eq (by omega) (by omega)).mp z) (by omega)))
            refine lv_iconst (v := 0) hx hb d_Mo_isDocument_309 (by decide) ?_
            refine gh_retz hAe C V hr (by first | rfl | exact gh_bi_nar _ | decide) hlocks d_Mo_isDocument_310 (by first | decide | omega | (dsimp only; omega)) (by first | decide | omega | (dsimp only; omega)) ?_
            have hbf : bd = true → False := fun z => by have h9 := (hbd z).1; rw [hRn] at h9; cases h9
            rw [hRn]
            exact ⟨rfl, _, _, _, X, h21, _, _, by omega, by omega, by omega, hG.2.2.1, fun z => (hbf z).elim⟩
          · have hRn : rd_a tx n true = (rbl tx n p9, some X9) := by rw [hR]; show (if rbl tx n p9 < n then _ else _) = _; rw [if_neg hbn]
            refine mo_getS (v := nI (rbl tx n p9)) C V X 21 (by decide) (by decide) (by first | rfl | exact hS21) f_Mo_179 rfl d_Mo_isDocument_295 ?_
            refine lv_aload_n hx hb d_Mo_isDocument_298 rfl (lv_at hl 1 rfl) ?_
            refine mo_getS (v := nI n) C V X 20 (by decide) (by decide) (by first | rfl | exact hS20) f_Mo_182 rfl d_Mo_isDocument_299 ?_
            refine lv_icmp_ne (tgt := 309) hx hb d_Mo_isDocument_302 (by decide) (fun c32 => absurd ((nI_eq (by omega) (by omega)).mpr (by omega)) c32) (fun c32 => ?_)
            refine lv_iconst (v := 1) hx hb d_Mo_isDocument_305 (by decide) ?_
            refine lv_goto (tgt := 310) hx hb d_Mo_isDocument_306 (by decide) ?_
            refine gh_retz hAe C V hr (by first | rfl | exact gh_bi_nar _ | decide) hlocks d_Mo_isDocument_310 (by first | decide | omega | (dsimp only; omega)) (by first | decide | omega | (dsimp only; omega)) ?_
            rw [hRn]
            refine ⟨rfl, _, _, _, X, h21, _, _, by omega, by omega, by omega, hG.2.2.1, fun z => ⟨hG.2.2.2.2 z, fun Y hY => ?_⟩⟩
            have hY : X9 = Y := by injection hY
            rw [← hY]
            exact hrd z
        | succ e9 =>
          have hx9 := hQ.in
          obtain ⟨hx9a, hx9b, hx9c, hx9d, hx9e, hx9f⟩ := hx9
          have hv9 := hQ.vo (by omega)
          obtain ⟨ob, rs, L, hlw⟩ : ∃ ob rs L, lw e9 = (ob, rs, L) := ⟨_, _, _, rfl⟩
          have hlv := hG.2.2.2.1 e9 (Nat.lt_succ_self e9)
          have hlt := (hq0.2 e9 (Nat.lt_succ_self e9)).2.2
          have hRe := hR
          rw [rfi_o] at hRe
          have hQn := @rQI.nx lw e9 p9
          have hQc := @rQI.cl lw e9 p9
          have hRx := @rfi_n tx n lw e9 p9 X9
          rw [hlw] at hlv hlt hRe hx9a hx9b hx9c hx9d hx9e hv9 hRx hQn hQc
          dsimp only at hlv hlt hRe hx9a hx9b hx9c hx9d hx9e hv9 hRx hQn hQc
          obtain ⟨h26l, h24l, hbl⟩ := hlv
          have h26l : I1 26 e9 = gh_bi ob := h26l
          have h24l : I1 24 e9 = nI rs.length := h24l
          refine lv_iload_n hx hb d_Mo_isDocument_168 rfl (lv_at hl 2 rfl) ?_
          refine lv_if_ne (tgt := 176) hx hb d_Mo_isDocument_169 (by decide) (fun c33 => ?_) (fun c33 => absurd c33 (fun z => absurd ((nI_eq (b := 0) (by omega) (by decide)).mp z) (by omega)))
          refine lv_iconst (v := 0) hx hb d_Mo_isDocument_176 (by decide) ?_
          refine lv_istore_n hx hb d_Mo_isDocument_177 rfl hl (by decide) rfl (fun ls hl => ?_)
          have hl : lv_has ls 7 [(3, .int 0), (0, .ref a), (1, .int (gh_bi bd)), (2, .int (nI (e9 + 1))), (6, .int 0)] := hl
          refine lv_iload_n hx hb d_Mo_isDocument_178 rfl (lv_at hl 0 rfl) ?_
          refine lv_if_eq (tgt := 185) hx hb d_Mo_isDocument_179 (by decide) (fun c34 => ?_) (fun c34 => absurd (by decide) c34)
          refine lv_aload_n hx hb d_Mo_isDocument_185 rfl (lv_at hl 1 rfl) ?_
          refine lv_iload_n hx hb d_Mo_isDocument_186 rfl (lv_at hl 3 rfl) ?_
          refine lv_iconst (v := 1) hx hb d_Mo_isDocument_187 (by decide) ?_
          refine gn_isub (a := e9 + 1) (b := 1) hx hb (by omega) d_Mo_isDocument_188 ?_
          refine W.eq (g2 := F0 m 189 ls [.int (nI e9), .ref a]) rfl ?_
          refine gh_callV C V hl.1 m_Mo_enterOpen l_Mo_244 (c_Mo_enterOpen l E _ _ a ad _ _ _ e9 rs.length X.1 (by omega) (by omega) h24l) rfl X.1.1 gc_Mo ⟨by first | decide | omega | (dsimp only; omega), by first | decide | omega | (dsimp only; omega)⟩ ⟨by first | decide | omega | (dsimp only; omega), by first | decide | omega | (dsimp only; omega)⟩ (Nat.le_of_ble_eq_true rfl) rfl d_Mo_isDocument_189 (fun r z9 H locs hp9 V1 => ?_)
          obtain ⟨rfl, X2⟩ := hp9
          have X := X.then X2
          have V := V1
          refine W.eq (g2 := F0 m 192 ls []) rfl ?_
          obtain ⟨In13, hIn13⟩ : ∃ z9 : mo_I, z9 = va_up (va_up I1 22 (upd (I1 22) (16 * e9 + rs.length) (Sb12 28))) 24 (upd (I1 24) e9 (nI (rs.length + 1))) := ⟨_, rfl⟩
          rw [← hIn13] at X
          have hEi : rE bd e9 Sb12 I1 J1 nv9 np9 Sb12 In13 J1 nv9 np9 := by
            rw [hIn13]
            refine rE.i (fun k hk => by rw [va_up_n (by omega), va_up_n (by omega)]) (fun j hj => ⟨?_, by rw [va_up_n (by decide), va_up_n (by decide)]⟩) (fun j hj => ⟨?_, by rw [va_up_n (by decide), va_up_n (by decide)]⟩)
            · rw [va_up_n (by decide), va_up_s]; simp only [upd]; rw [if_neg (by omega)]
            · rw [va_up_s]; simp only [upd]; rw [if_neg (by omega)]
          have h26k : In13 26 e9 = gh_bi ob := by rw [hIn13, va_up_n (by decide), va_up_n (by decide)]; exact h26l
          have h24k : In13 24 e9 = nI (rs.length + 1) := by rw [hIn13, va_up_s]; simp only [upd]; rw [if_pos trivial]
          have hNk : bd = true → rN ob e9 nv9 np9 In13 J1 (rs ++ [(L, X9)]) := fun z j hj => by
            have hm := (hEi.2.2.2.2.1 z).1
            have h23k : In13 23 = I1 23 := by rw [hIn13, va_up_n (by decide), va_up_n (by decide)]
            rw [getD_ap1]
            rw [hx9b] at hj
            by_cases hj1 : j < rs.length
            · rw [if_pos hj1]
              obtain ⟨v, y, g1, g2, g3⟩ := (hbl z).1 j hj1
              refine ⟨v, y, ?_, g2.keep hm (Nat.le_refl _) (Nat.le_refl _) (by omega), fun zo => ⟨by rw [h23k]; exact (g3 zo).1, (g3 zo).2.1.keep hm (Nat.le_refl _), (g3 zo).2.2⟩⟩
              rw [hIn13, va_up_n (by decide), va_up_s]; simp only [upd]; rw [if_neg (by omega)]; exact g1
            · have hj2 : j = rs.length := by omega
              rw [if_neg hj1, if_pos hj2, hj2]
              obtain ⟨u, u1, u2⟩ := hrd z
              have h22k : In13 22 (16 * e9 + rs.length) = nI u := by rw [hIn13, va_up_n (by decide), va_up_s]; simp only [upd]; rw [if_pos trivial]; exact u1
              cases hob : ob with
              | false => exact ⟨u, 0, h22k, u2.keep hm (Nat.le_refl _) (Nat.le_refl _) (by omega), fun zo => by cases zo⟩
              | true =>
                obtain ⟨y, y1, y2⟩ := (hbl z).2 hob
                exact ⟨u, y, h22k, u2.keep hm (Nat.le_refl _) (Nat.le_refl _) (by omega), fun _ => ⟨by rw [h23k]; exact y1, y2.keep hm (Nat.le_refl _), hlt hob⟩⟩
          have hQl : ∀ e, e < e9 + 1 → (lw e).2.1.length < 16 := hQl
          have hG := hG.step (d := e9) hEi h21 (by omega) (by omega) hQl e9 (by omega) (by omega)
          have hT := hG.T hT0
          have h21 := hG.1
          have hS21 := h21
          have h27 := hG.b h270
          have h11 := hG.n h110
          have hsg := (hT.ch (rbl tx n p9)).1
          have hQl : ∀ e, e < e9 → (lw e).2.1.length < 16 := fun e he => hQl e (by omega)
          refine lv_aload_n hx hb d_Mo_isDocument_192 rfl (lv_at hl 1 rfl) ?_
          refine gh_callV C V hl.1 m_Mo_peek l_Mo_185 (c_Mo_pk l E _ _ a ad _ _ _ tx n (rbl tx n p9) X.1 hT h21 (by omega)) rfl X.1.1 gc_Mo ⟨by first | decide | omega | (dsimp only; omega), by first | decide | omega | (dsimp only; omega)⟩ ⟨by first | decide | omega | (dsimp only; omega), by first | decide | omega | (dsimp only; omega)⟩ (Nat.le_of_ble_eq_true rfl) rfl d_Mo_isDocument_193 (fun r z9 H locs hp9 V1 => ?_)
          obtain ⟨rfl, he9⟩ := hp9
          rw [he9] at V1
          have V := V1
          refine W.eq (g2 := F0 m 196 ls [.int (pek (sg tx n (rbl tx n p9)))]) rfl ?_
          cases ob with
          | false =>
            have h26b : In13 26 e9 = 0 := h26k
            refine lv_aload_n hx hb d_Mo_isDocument_196 rfl (lv_at hl 1 rfl) ?_
            refine mo_getA C V X 26 (by decide) (by decide) f_Mo_69 rfl d_Mo_isDocument_197 ?_
            refine lv_iload_n hx hb d_Mo_isDocument_200 rfl (lv_at hl 3 rfl) ?_
            refine lv_iconst (v := 1) hx hb d_Mo_isDocument_201 (by decide) ?_
            refine gn_isub (a := e9 + 1) (b := 1) hx hb (by omega) d_Mo_isDocument_202 ?_
            refine W.eq (g2 := F0 m 203 ls [.int (nI e9), .ref (ad 26), .int (pek (sg tx n (rbl tx n p9)))]) rfl ?_
            refine mo_zld (k := 26) (i := e9) (n := 8) C V X (by decide) (by decide) rfl (by omega) (by decide) d_Mo_isDocument_203 ?_
            rw [show In13 26 e9 = 0 from h26b]
            refine lv_if_eq (tgt := 212) hx hb d_Mo_isDocument_204 (by decide) (fun c35 => ?_) (fun c35 => absurd (by decide) c35)
            refine lv_bipush (v := 93) hx hb d_Mo_isDocument_212 (by decide) ?_
            by_cases hcl : sg tx n (rbl tx n p9) = 93
            · have hcn := sg_lt (by omega : sg tx n (rbl tx n p9) ≠ 0)
              refine lv_icmp_ne (tgt := 228) hx hb d_Mo_isDocument_214 (by decide) (fun c36 => absurd ((pek_eq (k := 93) (by omega) (by omega) (by omega)).mpr hcl) c36) (fun c36 => ?_)
              refine lv_iinc (k := 3) (v := (nI (e9 + 1)) + (-1)) hx hb d_Mo_isDocument_217 hl rfl (by rfl) (by decide) rfl (fun ls hl => ?_)
              have hl : lv_has ls 7 [(2, .int (nI ((e9 + 1) - 1))), (3, .int 0), (0, .ref a), (1, .int (gh_bi bd)), (6, .int 0)] := by rw [nI_dec (by omega)]; exact hl
              have hl : lv_has ls 7 [(2, .int (nI e9)), (3, .int 0), (0, .ref a), (1, .int (gh_bi bd)), (6, .int 0)] := hl
              refine lv_aload_n hx hb d_Mo_isDocument_220 rfl (lv_at hl 2 rfl) ?_
              refine lv_iload_n hx hb d_Mo_isDocument_221 rfl (lv_at hl 0 rfl) ?_
              refine gh_callV C V hl.1 m_Mo_close l_Mo_237 (c_Mo_closeG l E _ _ a ad _ _ _ (rbl tx n p9) e9 nv9 np9 (rs ++ [(L, X9)]) bd false X.1 h21 h27 (by omega) h26k (by rw [hx9b]; exact h24k) (fun z => ⟨hNk z, h11 z⟩) (by omega) hq29 (by omega) (by rw [hx9b]; omega) hv9.2.2 (Nat.le_trans hv9.2.1 (by omega))) rfl X.1.1 gc_Mo ⟨by first | decide | omega | (dsimp only; omega), by first | decide | omega | (dsimp only; omega)⟩ ⟨by first | decide | omega | (dsimp only; omega), by first | decide | omega | (dsimp only; omega)⟩ (Nat.le_of_ble_eq_true rfl) rfl d_Mo_isDocument_222 (fun r z9 H locs hp9 V1 => ?_)
              obtain ⟨rfl, Sk14, Ik14, Jk14, X2, h21, nv2, np2, hn2, hn4, hE2, hrd2⟩ := hp9
              have X := X.then X2
              have V := V1
              refine W.eq (g2 := F0 m 225 ls []) rfl ?_
              have hn3 := hE2.2.2.2.2.2.1
              have hn5 := hE2.2.2.2.2.2.2
              rw [hx9b] at hn4
              have hG := hG.step (d := 8) (hE2) h21 (by omega) (by omega) hQl (e9) (by omega) (by omega)
              have hT := hG.T hT0
              have h21 := hG.1
              have hS21 := h21
              have h27 := hG.b h270
              have h11 := hG.n h110
              have hsg := (hT.ch (rbl tx n p9 + 1)).1
              rw [if_pos (show sg tx n (rbl tx n p9) = rcc false from hcl)] at hRe
              refine lv_goto (tgt := 155) hx hb d_Mo_isDocument_225 (by decide) ?_
              have hl : lv_has ls 7 [(0, .ref a), (1, .int (gh_bi bd)), (2, .int (nI e9)), (3, .int 0), (6, .int 0)] := lv_sub hl [2, 3, 0, 1, 4] rfl
              have hl : lv_has ls 7 [(0, .ref a), (1, .int (gh_bi bd)), (2, .int (nI e9)), (3, .int 0), (6, .int 0)] := hl
              exact ih.2 lw e9 (rbl tx n p9 + 1) _ _ (rmk false (rfo false (rs ++ [(L, X9)]))) _ _ _ _ _ _ ls (by omega) hG (hQc hQ (by omega) (by omega) hn3 hn2 hn4) hRe hrd2 X V hl
            · refine lv_icmp_ne (tgt := 228) hx hb d_Mo_isDocument_214 (by decide) (fun c37 => ?_) (fun c37 => absurd c37 (fun z => hcl ((pek_eq (k := 93) (by omega) (by omega) (by omega)).mp z)))
              have hncl : ¬ sg tx n (rbl tx n p9) = rcc false := hcl
              refine lv_aload_n hx hb d_Mo_isDocument_228 rfl (lv_at hl 1 rfl) ?_
              refine gh_callV C V hl.1 m_Mo_peek l_Mo_185 (c_Mo_pk l E _ _ a ad _ _ _ tx n (rbl tx n p9) X.1 hT h21 (by omega)) rfl X.1.1 gc_Mo ⟨by first | decide | omega | (dsimp only; omega), by first | decide | omega | (dsimp only; omega)⟩ ⟨by first | decide | omega | (dsimp only; omega), by first | decide | omega | (dsimp only; omega)⟩ (Nat.le_of_ble_eq_true rfl) rfl d_Mo_isDocument_229 (fun r z9 H locs hp9 V1 => ?_)
              obtain ⟨rfl, he9⟩ := hp9
              rw [he9] at V1
              have V := V1
              refine W.eq (g2 := F0 m 232 ls [.int (pek (sg tx n (rbl tx n p9)))]) rfl ?_
              by_cases h44 : sg tx n (rbl tx n p9) = 44
              · have hcn := sg_lt (by omega : sg tx n (rbl tx n p9) ≠ 0)
                refine lv_bipush (v := 44) hx hb d_Mo_isDocument_232 (by decide) ?_
                refine lv_icmp_ne (tgt := 250) hx hb d_Mo_isDocument_234 (by decide) (fun c38 => absurd ((pek_eq (k := 44) (by omega) (by omega) (by omega)).mpr h44) c38) (fun c38 => ?_)
                refine lv_aload_n hx hb d_Mo_isDocument_237 rfl (lv_at hl 1 rfl) ?_
                refine mo_getA C V X 24 (by decide) (by decide) f_Mo_63 rfl d_Mo_isDocument_238 ?_
                refine lv_iload_n hx hb d_Mo_isDocument_241 rfl (lv_at hl 3 rfl) ?_
                refine lv_iconst (v := 1) hx hb d_Mo_isDocument_242 (by decide) ?_
                refine gn_isub (a := e9 + 1) (b := 1) hx hb (by omega) d_Mo_isDocument_243 ?_
                refine W.eq (g2 := F0 m 244 ls [.int (nI e9), .ref (ad 24)]) rfl ?_
                refine mo_ild (k := 24) (i := e9) (n := 8) C V X (by decide) (by decide) rfl (by omega) (by decide) d_Mo_isDocument_244 ?_
                rw [show In13 24 e9 = nI (rs.length + 1) from h24k]
                by_cases h16 : rs.length + 1 = 16
                · have hRn : rd_a tx n true = (rbl tx n p9, none) := by rw [hRe, if_neg hncl, if_pos (Or.inl (by omega))]
                  refine lv_bipush (v := 16) hx hb d_Mo_isDocument_245 (by decide) ?_
                  refine lv_icmp_ne (tgt := 252) hx hb d_Mo_isDocument_247 (by decide) (fun c39 => absurd (by rw [h16]; rfl) c39) (fun c39 => ?_)
                  refine lv_iconst (v := 0) hx hb d_Mo_isDocument_250 (by decide) ?_
                  refine gh_retz hAe C V hr (by first | rfl | exact gh_bi_nar _ | decide) hlocks d_Mo_isDocument_251 (by first | decide | omega | (dsimp only; omega)) (by first | decide | omega | (dsimp only; omega)) ?_
                  have hbf : bd = true → False := fun z => by have h9 := (hbd z).1; rw [hRn] at h9; cases h9
                  rw [hRn]
                  exact ⟨rfl, _, _, _, X, h21, _, _, by omega, by omega, by omega, hG.2.2.1, fun z => (hbf z).elim⟩
                · have hRm := hRx hncl (by omega)
                  rw [← hR] at hRm
                  refine lv_bipush (v := 16) hx hb d_Mo_isDocument_245 (by decide) ?_
                  refine lv_icmp_ne (tgt := 252) hx hb d_Mo_isDocument_247 (by decide) (fun c40 => ?_) (fun c40 => absurd c40 (fun z => h16 ((nI_eq (b := 16) (by omega) (by decide)).mp z)))
                  refine lv_aload_n hx hb d_Mo_isDocument_252 rfl (lv_at hl 1 rfl) ?_
                  refine lv_dup hx hb d_Mo_isDocument_253 rfl ?_
                  refine mo_getS (v := nI (rbl tx n p9)) C V X 21 (by decide) (by decide) (by first | rfl | exact hS21) f_Mo_179 rfl d_Mo_isDocument_254 ?_
                  refine lv_iconst (v := 1) hx hb d_Mo_isDocument_257 (by decide) ?_
                  refine gn_iadd (a := rbl tx n p9) (b := 1) hx hb d_Mo_isDocument_258 ?_
                  refine mo_putS C V X 21 (by decide) (by decide) f_Mo_179 rfl rfl rfl d_Mo_isDocument_259 (fun f1 H locs V1 X1 => ?_)
                  clear V X
                  have V := V1
                  have X := X1
                  clear V1 X1
                  have h21 : (va_up Sb12 21 (nI ((rbl tx n p9) + 1))) 21 = nI ((rbl tx n p9) + 1) := va_up_s
                  have hS21 := h21
                  have hT : rT tx n (va_up Sb12 21 (nI ((rbl tx n p9) + 1))) In13 := hT.keep (va_up_n (by decide)) rfl
                  have hG := hG.step (d := 8) (rE.a21 (fun k hk => va_up_n hk)) h21 (by omega) (by omega) hQl e9 (by omega) (by omega)
                  have hT := hG.T hT0
                  have h21 := hG.1
                  have hS21 := h21
                  have h27 := hG.b h270
                  have h11 := hG.n h110
                  have hsg := (hT.ch (rbl tx n p9 + 1)).1
                  refine lv_aload_n hx hb d_Mo_isDocument_262 rfl (lv_at hl 1 rfl) ?_
                  refine mo_getA C V X 26 (by decide) (by decide) f_Mo_69 rfl d_Mo_isDocument_263 ?_
                  refine lv_iload_n hx hb d_Mo_isDocument_266 rfl (lv_at hl 3 rfl) ?_
                  refine lv_iconst (v := 1) hx hb d_Mo_isDocument_267 (by decide) ?_
                  refine gn_isub (a := e9 + 1) (b := 1) hx hb (by omega) d_Mo_isDocument_268 ?_
                  refine W.eq (g2 := F0 m 269 ls [.int (nI e9), .ref (ad 26)]) rfl ?_
                  refine mo_zld (k := 26) (i := e9) (n := 8) C V X (by decide) (by decide) rfl (by omega) (by decide) d_Mo_isDocument_269 ?_
                  rw [show In13 26 e9 = 0 from h26b]
                  refine lv_if_eq (tgt := 285) hx hb d_Mo_isDocument_270 (by decide) (fun c41 => ?_) (fun c41 => absurd (by decide) c41)
                  refine lv_iconst (v := 1) hx hb d_Mo_isDocument_285 (by decide) ?_
                  refine lv_istore hx hb d_Mo_isDocument_286 hl (by decide) rfl (fun ls hl => ?_)
                  have hl : lv_has ls 7 [(6, .int 1), (3, .int 0), (0, .ref a), (1, .int (gh_bi bd)), (2, .int (nI (e9 + 1)))] := hl
                  refine lv_goto (tgt := 155) hx hb d_Mo_isDocument_288 (by decide) ?_
                  refine lv_iload hx hb d_Mo_isDocument_155 (lv_at hl 0 rfl) ?_
                  refine lv_if_ne (tgt := 291) hx hb d_Mo_isDocument_157 (by decide) (fun c42 => ?_) (fun c42 => absurd c42 (by decide))
                  refine lv_goto (tgt := 14) hx hb d_Mo_isDocument_291 (by decide) ?_
                  have hRm : rd_a tx n true = rfv tx n (va_up lw e9 (false, rs ++ [(L, X9)], [])) (e9 + 1) (rbl tx n p9 + 1) := hRm
                  have hG := hG.add (x := (false, rs ++ [(L, X9)], [])) ⟨h26k, by rw [hx9b]; exact h24k, fun z => ⟨hNk z, fun z => by cases z⟩⟩
                  have hl : lv_has ls 7 [(0, .ref a), (1, .int (gh_bi bd)), (2, .int (nI (e9 + 1))), (3, .int 0)] := lv_sub hl [2, 3, 4, 1] rfl
                  have hl : lv_has ls 7 [(0, .ref a), (1, .int (gh_bi bd)), (2, .int (nI (e9 + 1))), (3, .int 0)] := hl
                  exact ih.1 (va_up lw e9 (false, rs ++ [(L, X9)], [])) (e9 + 1) (rbl tx n p9 + 1) _ _ _ _ _ _ _ _ ls (by omega) hG (hQn hQ (by omega) (by omega) (fun z => by cases z) (Nat.le_refl _) (Nat.le_succ _)) hRm X V hl
              · have hRn : rd_a tx n true = (rbl tx n p9, none) := by rw [hRe, if_neg hncl, if_pos (Or.inr h44)]
                refine lv_bipush (v := 44) hx hb d_Mo_isDocument_232 (by decide) ?_
                refine lv_icmp_ne (tgt := 250) hx hb d_Mo_isDocument_234 (by decide) (fun c43 => ?_) (fun c43 => absurd c43 (fun z => h44 ((pek_eq (k := 44) (by omega) (by omega) (by omega)).mp z)))
                refine lv_iconst (v := 0) hx hb d_Mo_isDocument_250 (by decide) ?_
                refine gh_retz hAe C V hr (by first | rfl | exact gh_bi_nar _ | decide) hlocks d_Mo_isDocument_251 (by first | decide | omega | (dsimp only; omega)) (by first | decide | omega | (dsimp only; omega)) ?_
                have hbf : bd = true → False := fun z => by have h9 := (hbd z).1; rw [hRn] at h9; cases h9
                rw [hRn]
                exact ⟨rfl, _, _, _, X, h21, _, _, by omega, by omega, by omega, hG.2.2.1, fun z => (hbf z).elim⟩
          | true =>
            have h26b : In13 26 e9 = 1 := h26k
            refine lv_aload_n hx hb d_Mo_isDocument_196 rfl (lv_at hl 1 rfl) ?_
            refine mo_getA C V X 26 (by decide) (by decide) f_Mo_69 rfl d_Mo_isDocument_197 ?_
            refine lv_iload_n hx hb d_Mo_isDocument_200 rfl (lv_at hl 3 rfl) ?_
            refine lv_iconst (v := 1) hx hb d_Mo_isDocument_201 (by decide) ?_
            refine gn_isub (a := e9 + 1) (b := 1) hx hb (by omega) d_Mo_isDocument_202 ?_
            refine W.eq (g2 := F0 m 203 ls [.int (nI e9), .ref (ad 26), .int (pek (sg tx n (rbl tx n p9)))]) rfl ?_
            refine mo_zld (k := 26) (i := e9) (n := 8) C V X (by decide) (by decide) rfl (by omega) (by decide) d_Mo_isDocument_203 ?_
            rw [show In13 26 e9 = 1 from h26b]
            refine lv_if_eq (tgt := 212) hx hb d_Mo_isDocument_204 (by decide) (fun c44 => absurd c44 (by decide)) (fun c44 => ?_)
            refine lv_bipush (v := 125) hx hb d_Mo_isDocument_207 (by decide) ?_
            refine lv_goto (tgt := 214) hx hb d_Mo_isDocument_209 (by decide) ?_
            by_cases hcl : sg tx n (rbl tx n p9) = 125
            · have hcn := sg_lt (by omega : sg tx n (rbl tx n p9) ≠ 0)
              refine lv_icmp_ne (tgt := 228) hx hb d_Mo_isDocument_214 (by decide) (fun c45 => absurd ((pek_eq (k := 125) (by omega) (by omega) (by omega)).mpr hcl) c45) (fun c45 => ?_)
              refine lv_iinc (k := 3) (v := (nI (e9 + 1)) + (-1)) hx hb d_Mo_isDocument_217 hl rfl (by rfl) (by decide) rfl (fun ls hl => ?_)
              have hl : lv_has ls 7 [(2, .int (nI ((e9 + 1) - 1))), (3, .int 0), (0, .ref a), (1, .int (gh_bi bd)), (6, .int 0)] := by rw [nI_dec (by omega)]; exact hl
              have hl : lv_has ls 7 [(2, .int (nI e9)), (3, .int 0), (0, .ref a), (1, .int (gh_bi bd)), (6, .int 0)] := hl
              refine lv_aload_n hx hb d_Mo_isDocument_220 rfl (lv_at hl 2 rfl) ?_
              refine lv_iload_n hx hb d_Mo_isDocument_221 rfl (lv_at hl 0 rfl) ?_
              refine gh_callV C V hl.1 m_Mo_close l_Mo_237 (c_Mo_closeG l E _ _ a ad _ _ _ (rbl tx n p9) e9 nv9 np9 (rs ++ [(L, X9)]) bd true X.1 h21 h27 (by omega) h26k (by rw [hx9b]; exact h24k) (fun z => ⟨hNk z, h11 z⟩) (by omega) hq29 (by omega) (by rw [hx9b]; omega) hv9.2.2 (Nat.le_trans hv9.2.1 (by omega))) rfl X.1.1 gc_Mo ⟨by first | decide | omega | (dsimp only; omega), by first | decide | omega | (dsimp only; omega)⟩ ⟨by first | decide | omega | (dsimp only; omega), by first | decide | omega | (dsimp only; omega)⟩ (Nat.le_of_ble_eq_true rfl) rfl d_Mo_isDocument_222 (fun r z9 H locs hp9 V1 => ?_)
              obtain ⟨rfl, Sk15, Ik15, Jk15, X2, h21, nv2, np2, hn2, hn4, hE2, hrd2⟩ := hp9
              have X := X.then X2
              have V := V1
              refine W.eq (g2 := F0 m 225 ls []) rfl ?_
              have hn3 := hE2.2.2.2.2.2.1
              have hn5 := hE2.2.2.2.2.2.2
              rw [hx9b] at hn4
              have hG := hG.step (d := 8) (hE2) h21 (by omega) (by omega) hQl (e9) (by omega) (by omega)
              have hT := hG.T hT0
              have h21 := hG.1
              have hS21 := h21
              have h27 := hG.b h270
              have h11 := hG.n h110
              have hsg := (hT.ch (rbl tx n p9 + 1)).1
              rw [if_pos (show sg tx n (rbl tx n p9) = rcc true from hcl)] at hRe
              refine lv_goto (tgt := 155) hx hb d_Mo_isDocument_225 (by decide) ?_
              have hl : lv_has ls 7 [(0, .ref a), (1, .int (gh_bi bd)), (2, .int (nI e9)), (3, .int 0), (6, .int 0)] := lv_sub hl [2, 3, 0, 1, 4] rfl
              have hl : lv_has ls 7 [(0, .ref a), (1, .int (gh_bi bd)), (2, .int (nI e9)), (3, .int 0), (6, .int 0)] := hl
              exact ih.2 lw e9 (rbl tx n p9 + 1) _ _ (rmk true (rfo true (rs ++ [(L, X9)]))) _ _ _ _ _ _ ls (by omega) hG (hQc hQ (by omega) (by omega) hn3 hn2 hn4) hRe hrd2 X V hl
            · refine lv_icmp_ne (tgt := 228) hx hb d_Mo_isDocument_214 (by decide) (fun c46 => ?_) (fun c46 => absurd c46 (fun z => hcl ((pek_eq (k := 125) (by omega) (by omega) (by omega)).mp z)))
              have hncl : ¬ sg tx n (rbl tx n p9) = rcc true := hcl
              refine lv_aload_n hx hb d_Mo_isDocument_228 rfl (lv_at hl 1 rfl) ?_
              refine gh_callV C V hl.1 m_Mo_peek l_Mo_185 (c_Mo_pk l E _ _ a ad _ _ _ tx n (rbl tx n p9) X.1 hT h21 (by omega)) rfl X.1.1 gc_Mo ⟨by first | decide | omega | (dsimp only; omega), by first | decide | omega | (dsimp only; omega)⟩ ⟨by first | decide | omega | (dsimp only; omega), by first | decide | omega | (dsimp only; omega)⟩ (Nat.le_of_ble_eq_true rfl) rfl d_Mo_isDocument_229 (fun r z9 H locs hp9 V1 => ?_)
              obtain ⟨rfl, he9⟩ := hp9
              rw [he9] at V1
              have V := V1
              refine W.eq (g2 := F0 m 232 ls [.int (pek (sg tx n (rbl tx n p9)))]) rfl ?_
              by_cases h44 : sg tx n (rbl tx n p9) = 44
              · have hcn := sg_lt (by omega : sg tx n (rbl tx n p9) ≠ 0)
                refine lv_bipush (v := 44) hx hb d_Mo_isDocument_232 (by decide) ?_
                refine lv_icmp_ne (tgt := 250) hx hb d_Mo_isDocument_234 (by decide) (fun c47 => absurd ((pek_eq (k := 44) (by omega) (by omega) (by omega)).mpr h44) c47) (fun c47 => ?_)
                refine lv_aload_n hx hb d_Mo_isDocument_237 rfl (lv_at hl 1 rfl) ?_
                refine mo_getA C V X 24 (by decide) (by decide) f_Mo_63 rfl d_Mo_isDocument_238 ?_
                refine lv_iload_n hx hb d_Mo_isDocument_241 rfl (lv_at hl 3 rfl) ?_
                refine lv_iconst (v := 1) hx hb d_Mo_isDocument_242 (by decide) ?_
                refine gn_isub (a := e9 + 1) (b := 1) hx hb (by omega) d_Mo_isDocument_243 ?_
                refine W.eq (g2 := F0 m 244 ls [.int (nI e9), .ref (ad 24)]) rfl ?_
                refine mo_ild (k := 24) (i := e9) (n := 8) C V X (by decide) (by decide) rfl (by omega) (by decide) d_Mo_isDocument_244 ?_
                rw [show In13 24 e9 = nI (rs.length + 1) from h24k]
                by_cases h16 : rs.length + 1 = 16
                · have hRn : rd_a tx n true = (rbl tx n p9, none) := by rw [hRe, if_neg hncl, if_pos (Or.inl (by omega))]
                  refine lv_bipush (v := 16) hx hb d_Mo_isDocument_245 (by decide) ?_
                  refine lv_icmp_ne (tgt := 252) hx hb d_Mo_isDocument_247 (by decide) (fun c48 => absurd (by rw [h16]; rfl) c48) (fun c48 => ?_)
                  refine lv_iconst (v := 0) hx hb d_Mo_isDocument_250 (by decide) ?_
                  refine gh_retz hAe C V hr (by first | rfl | exact gh_bi_nar _ | decide) hlocks d_Mo_isDocument_251 (by first | decide | omega | (dsimp only; omega)) (by first | decide | omega | (dsimp only; omega)) ?_
                  have hbf : bd = true → False := fun z => by have h9 := (hbd z).1; rw [hRn] at h9; cases h9
                  rw [hRn]
                  exact ⟨rfl, _, _, _, X, h21, _, _, by omega, by omega, by omega, hG.2.2.1, fun z => (hbf z).elim⟩
                · have hRm := hRx hncl (by omega)
                  rw [← hR] at hRm
                  refine lv_bipush (v := 16) hx hb d_Mo_isDocument_245 (by decide) ?_
                  refine lv_icmp_ne (tgt := 252) hx hb d_Mo_isDocument_247 (by decide) (fun c49 => ?_) (fun c49 => absurd c49 (fun z => h16 ((nI_eq (b := 16) (by omega) (by decide)).mp z)))
                  refine lv_aload_n hx hb d_Mo_isDocument_252 rfl (lv_at hl 1 rfl) ?_
                  refine lv_dup hx hb d_Mo_isDocument_253 rfl ?_
                  refine mo_getS (v := nI (rbl tx n p9)) C V X 21 (by decide) (by decide) (by first | rfl | exact hS21) f_Mo_179 rfl d_Mo_isDocument_254 ?_
                  refine lv_iconst (v := 1) hx hb d_Mo_isDocument_257 (by decide) ?_
                  refine gn_iadd (a := rbl tx n p9) (b := 1) hx hb d_Mo_isDocument_258 ?_
                  refine mo_putS C V X 21 (by decide) (by decide) f_Mo_179 rfl rfl rfl d_Mo_isDocument_259 (fun f1 H locs V1 X1 => ?_)
                  clear V X
                  have V := V1
                  have X := X1
                  clear V1 X1
                  have h21 : (va_up Sb12 21 (nI ((rbl tx n p9) + 1))) 21 = nI ((rbl tx n p9) + 1) := va_up_s
                  have hS21 := h21
                  have hT : rT tx n (va_up Sb12 21 (nI ((rbl tx n p9) + 1))) In13 := hT.keep (va_up_n (by decide)) rfl
                  have hG := hG.step (d := 8) (rE.a21 (fun k hk => va_up_n hk)) h21 (by omega) (by omega) hQl e9 (by omega) (by omega)
                  have hT := hG.T hT0
                  have h21 := hG.1
                  have hS21 := h21
                  have h27 := hG.b h270
                  have h11 := hG.n h110
                  have hsg := (hT.ch (rbl tx n p9 + 1)).1
                  refine lv_aload_n hx hb d_Mo_isDocument_262 rfl (lv_at hl 1 rfl) ?_
                  refine mo_getA C V X 26 (by decide) (by decide) f_Mo_69 rfl d_Mo_isDocument_263 ?_
                  refine lv_iload_n hx hb d_Mo_isDocument_266 rfl (lv_at hl 3 rfl) ?_
                  refine lv_iconst (v := 1) hx hb d_Mo_isDocument_267 (by decide) ?_
                  refine gn_isub (a := e9 + 1) (b := 1) hx hb (by omega) d_Mo_isDocument_268 ?_
                  refine W.eq (g2 := F0 m 269 ls [.int (nI e9), .ref (ad 26)]) rfl ?_
                  refine mo_zld (k := 26) (i := e9) (n := 8) C V X (by decide) (by decide) rfl (by omega) (by decide) d_Mo_isDocument_269 ?_
                  rw [show In13 26 e9 = 1 from h26b]
                  refine lv_if_eq (tgt := 285) hx hb d_Mo_isDocument_270 (by decide) (fun c50 => absurd c50 (by decide)) (fun c50 => ?_)
                  refine lv_aload_n hx hb d_Mo_isDocument_273 rfl (lv_at hl 1 rfl) ?_
                  refine lv_iload_n hx hb d_Mo_isDocument_274 rfl (lv_at hl 3 rfl) ?_
                  refine lv_iconst (v := 1) hx hb d_Mo_isDocument_275 (by decide) ?_
                  refine gn_isub (a := e9 + 1) (b := 1) hx hb (by omega) d_Mo_isDocument_276 ?_
                  refine W.eq (g2 := F0 m 277 ls [.int (nI e9), .ref a]) rfl ?_
                  refine gh_callV C V hl.1 m_Mo_key l_Mo_234 (c_Mo_key l E _ _ a ad _ _ _ tx n (rbl tx n p9 + 1) e9 (rs.length + 1) nv9 np9 bd X.1 hT h21 (by omega) (by omega) (by omega) h24k h27 (fun z => ⟨(h11 z).1, by omega, by omega⟩) (by omega)) rfl X.1.1 gc_Mo ⟨by first | decide | omega | (dsimp only; omega), by first | decide | omega | (dsimp only; omega)⟩ ⟨by first | decide | omega | (dsimp only; omega), by first | decide | omega | (dsimp only; omega)⟩ (Nat.le_of_ble_eq_true rfl) rfl d_Mo_isDocument_277 (fun r z9 H locs hp9 V1 => ?_)
                  obtain ⟨rfl, Sk16, Ik16, Jk16, X2, h21, gK⟩ := hp9
                  have X := X.then X2
                  have V := V1
                  refine W.eq (g2 := F0 m 280 ls [.int (gh_bi (rd_K tx n (rbl tx n p9 + 1)).2.isSome)]) rfl ?_
                  cases hkk : rd_K tx n (rbl tx n p9 + 1) with
                  | mk q9 o9 =>
                    have hRm : rd_a tx n true = (match rd_K tx n (rbl tx n p9 + 1) with | (q, none) => (q, none) | (q, some L2) => rfv tx n (va_up lw e9 (true, rs ++ [(L, X9)], L2)) (e9 + 1) q) := hRm
                    have hok := rd_K_ok hch (by omega) hkk
                    have hok2 := hok.2.1
                    rw [hkk] at h21 gK hRm
                    cases o9 with
                    | none =>
                      refine W.eq (g2 := F0 m 280 ls [.int 0]) rfl ?_
                      have hRn : rd_a tx n true = (q9, none) := hRm
                      obtain ⟨nv2, hn2, hE2, -, -⟩ := gK (fun z => by have h9 := (hbd z).1; rw [hRn] at h9; cases h9)
                      have hn3 := hE2.2.2.2.2.2.1
                      have hG := hG.step (d := e9) (hE2) h21 (by omega) (by omega) hQl (e9) (by omega) (by omega)
                      have hT := hG.T hT0
                      have h21 := hG.1
                      have hS21 := h21
                      have h27 := hG.b h270
                      have h11 := hG.n h110
                      have hsg := (hT.ch (q9)).1
                      refine lv_if_ne (tgt := 285) hx hb d_Mo_isDocument_280 (by decide) (fun c51 => absurd (by decide) c51) (fun c51 => ?_)
                      refine lv_iconst (v := 0) hx hb d_Mo_isDocument_283 (by decide) ?_
                      refine gh_retz hAe C V hr (by first | rfl | exact gh_bi_nar _ | decide) hlocks d_Mo_isDocument_284 (by first | decide | omega | (dsimp only; omega)) (by first | decide | omega | (dsimp only; omega)) ?_
                      have hbf : bd = true → False := fun z => by have h9 := (hbd z).1; rw [hRn] at h9; cases h9
                      rw [hRn]
                      exact ⟨rfl, _, _, _, X, h21, _, _, by omega, by omega, by omega, hG.2.2.1, fun z => (hbf z).elim⟩
                    | some L9 =>
                      refine W.eq (g2 := F0 m 280 ls [.int 1]) rfl ?_
                      have hRm : rd_a tx n true = rfv tx n (va_up lw e9 (true, rs ++ [(L, X9)], L9)) (e9 + 1) q9 := hRm
                      obtain ⟨nv2, hn2, hE2, ⟨hi1, hi2, hi3, hi4⟩, hrd2⟩ := gK (fun _ => rfl)
                      have hn3 := hE2.2.2.2.2.2.1
                      obtain ⟨hx1, hx2⟩ := hok.2.2 L9 rfl
                      have hG := hG.step (d := e9) (hE2) h21 (by omega) (by omega) hQl (e9) (by omega) (by omega)
                      have hT := hG.T hT0
                      have h21 := hG.1
                      have hS21 := h21
                      have h27 := hG.b h270
                      have h11 := hG.n h110
                      have hsg := (hT.ch (q9)).1
                      have hG := hG.add (x := (true, rs ++ [(L, X9)], L9)) ⟨by rw [hi3]; exact h26k, by rw [hi2, hx9b]; exact h24k, fun z => ⟨(hNk z).keep (hE2.2.2.2.2.1 z).1 hn3 (Nat.le_refl _) (by omega) (fun j hj => ⟨by rw [hi1], hi4 _ (by omega)⟩), fun _ => by rw [hx9b]; exact hrd2 z L9 rfl⟩⟩
                      refine lv_if_ne (tgt := 285) hx hb d_Mo_isDocument_280 (by decide) (fun c52 => ?_) (fun c52 => absurd c52 (by decide))
                      refine lv_iconst (v := 1) hx hb d_Mo_isDocument_285 (by decide) ?_
                      refine lv_istore hx hb d_Mo_isDocument_286 hl (by decide) rfl (fun ls hl => ?_)
                      have hl : lv_has ls 7 [(6, .int 1), (3, .int 0), (0, .ref a), (1, .int (gh_bi bd)), (2, .int (nI (e9 + 1)))] := hl
                      refine lv_goto (tgt := 155) hx hb d_Mo_isDocument_288 (by decide) ?_
                      refine lv_iload hx hb d_Mo_isDocument_155 (lv_at hl 0 rfl) ?_
                      refine lv_if_ne (tgt := 291) hx hb d_Mo_isDocument_157 (by decide) (fun c53 => ?_) (fun c53 => absurd c53 (by decide))
                      refine lv_goto (tgt := 14) hx hb d_Mo_isDocument_291 (by decide) ?_
                      have hl : lv_has ls 7 [(0, .ref a), (1, .int (gh_bi bd)), (2, .int (nI (e9 + 1))), (3, .int 0)] := lv_sub hl [2, 3, 4, 1] rfl
                      have hl : lv_has ls 7 [(0, .ref a), (1, .int (gh_bi bd)), (2, .int (nI (e9 + 1))), (3, .int 0)] := hl
                      exact ih.1 (va_up lw e9 (true, rs ++ [(L, X9)], L9)) (e9 + 1) q9 _ _ _ _ _ _ _ _ ls (by omega) hG (hQn hQ (by omega) (by omega) (fun _ => hx2) hn3 hn2) hRm X V hl
              · have hRn : rd_a tx n true = (rbl tx n p9, none) := by rw [hRe, if_neg hncl, if_pos (Or.inr h44)]
                refine lv_bipush (v := 44) hx hb d_Mo_isDocument_232 (by decide) ?_
                refine lv_icmp_ne (tgt := 250) hx hb d_Mo_isDocument_234 (by decide) (fun c54 => ?_) (fun c54 => absurd c54 (fun z => h44 ((pek_eq (k := 44) (by omega) (by omega) (by omega)).mp z)))
                refine lv_iconst (v := 0) hx hb d_Mo_isDocument_250 (by decide) ?_
                refine gh_retz hAe C V hr (by first | rfl | exact gh_bi_nar _ | decide) hlocks d_Mo_isDocument_251 (by first | decide | omega | (dsimp only; omega)) (by first | decide | omega | (dsimp only; omega)) ?_
                have hbf : bd = true → False := fun z => by have h9 := (hbd z).1; rw [hRn] at h9; cases h9
                rw [hRn]
                exact ⟨rfl, _, _, _, X, h21, _, _, by omega, by omega, by omega, hG.2.2.1, fun z => (hbf z).elim⟩
  have hl : lv_has ls 7 [(0, .ref a), (1, .int (gh_bi bd)), (2, .int 0), (3, .int 0)] := lv_sub hl [2, 3, 1, 0] rfl
  have hl : lv_has ls 7 [(0, .ref a), (1, .int (gh_bi bd)), (2, .int (nI 0)), (3, .int 0)] := hl
  refine (loop (n + 1)).1 (fun _ => (false, [], [])) 0 0 29 0 _ _ _ _ _ _ ls (by omega) ⟨va_up_s, Nat.zero_le _, rE.s (fun _ _ _ _ => rfl), fun e he => absurd he (Nat.not_lt_zero e), fun z => (hbd z).2.2.2⟩ ⟨⟨Nat.zero_le _, fun e he => absurd he (Nat.not_lt_zero e)⟩, by decide, by decide, Nat.le_refl _, Nat.le_refl _⟩ rfl X V hl
