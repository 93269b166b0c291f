/-! two of the model, each way. Printed by wip/whole/gen_mo17.py. -/
theorem nI_nem {x y : Nat} (hx : x < 2 ^ 31) (hy : y < 2 ^ 31) (h : x ≠ y) : nI x ≠ nI y := fun z => h (by
  have h1 := congrArg Int32.toInt z
  rw [nI_toInt hx, nI_toInt hy] at h1
  omega)
/-- one unit is spent, then o is the answer -/
def mr_sp (o : Option vt) (φ : Nat) (S : Nat → Int32) (I : mo_I) (J : mo_J) (b0 nv pb np wt : Nat) (S2 : Nat → Int32) (I2 : mo_I) (J2 : mo_J) : Prop := (φ = 0 ∧ S2 = va_up S 49 2 ∧ I2 = I ∧ J2 = J) ∨ (0 < φ ∧ mr_A o (va_up S 48 (nI (φ - 1))) I J b0 nv pb np wt S2 I2 J2)
theorem d_Mo_two_0 : decode b_Mo_two 0 = .ok (.aload_n 0, 1) := by decide +kernel
theorem d_Mo_two_1 : decode b_Mo_two 1 = .ok (.getfield 85, 3) := by decide +kernel
theorem d_Mo_two_4 : decode b_Mo_two 4 = .ok (.iconst 3, 1) := by decide +kernel
theorem d_Mo_two_5 : decode b_Mo_two 5 = .ok (.iload_n 1, 1) := by decide +kernel
theorem d_Mo_two_6 : decode b_Mo_two 6 = .ok (.imul, 1) := by decide +kernel
theorem d_Mo_two_7 : decode b_Mo_two 7 = .ok (.iaload, 1) := by decide +kernel
theorem d_Mo_two_8 : decode b_Mo_two 8 = .ok (.istore_n 3, 1) := by decide +kernel
theorem d_Mo_two_9 : decode b_Mo_two 9 = .ok (.aload_n 0, 1) := by decide +kernel
theorem d_Mo_two_10 : decode b_Mo_two 10 = .ok (.getfield 277, 3) := by decide +kernel
theorem d_Mo_two_13 : decode b_Mo_two 13 = .ok (.iconst 3, 1) := by decide +kernel
theorem d_Mo_two_14 : decode b_Mo_two 14 = .ok (.if_icmp .ne 11, 3) := by decide +kernel
theorem d_Mo_two_17 : decode b_Mo_two 17 = .ok (.aload_n 0, 1) := by decide +kernel
theorem d_Mo_two_18 : decode b_Mo_two 18 = .ok (.iconst 3, 1) := by decide +kernel
theorem d_Mo_two_19 : decode b_Mo_two 19 = .ok (.invokevirtual 289, 3) := by decide +kernel
theorem d_Mo_two_22 : decode b_Mo_two 22 = .ok (.goto 259, 3) := by decide +kernel
theorem d_Mo_two_25 : decode b_Mo_two 25 = .ok (.aload_n 0, 1) := by decide +kernel
theorem d_Mo_two_26 : decode b_Mo_two 26 = .ok (.getfield 277, 3) := by decide +kernel
theorem d_Mo_two_29 : decode b_Mo_two 29 = .ok (.ifCond .ne 39, 3) := by decide +kernel
theorem d_Mo_two_32 : decode b_Mo_two 32 = .ok (.aload_n 0, 1) := by decide +kernel
theorem d_Mo_two_33 : decode b_Mo_two 33 = .ok (.getfield 88, 3) := by decide +kernel
theorem d_Mo_two_36 : decode b_Mo_two 36 = .ok (.iload_n 1, 1) := by decide +kernel
theorem d_Mo_two_37 : decode b_Mo_two 37 = .ok (.iaload, 1) := by decide +kernel
theorem d_Mo_two_38 : decode b_Mo_two 38 = .ok (.ifCond .ne 30, 3) := by decide +kernel
theorem d_Mo_two_41 : decode b_Mo_two 41 = .ok (.aload_n 0, 1) := by decide +kernel
theorem d_Mo_two_42 : decode b_Mo_two 42 = .ok (.getfield 88, 3) := by decide +kernel
theorem d_Mo_two_45 : decode b_Mo_two 45 = .ok (.iload_n 1, 1) := by decide +kernel
theorem d_Mo_two_46 : decode b_Mo_two 46 = .ok (.iconst 1, 1) := by decide +kernel
theorem d_Mo_two_47 : decode b_Mo_two 47 = .ok (.iastore, 1) := by decide +kernel
theorem d_Mo_two_48 : decode b_Mo_two 48 = .ok (.aload_n 0, 1) := by decide +kernel
theorem d_Mo_two_49 : decode b_Mo_two 49 = .ok (.iload_n 3, 1) := by decide +kernel
theorem d_Mo_two_50 : decode b_Mo_two 50 = .ok (.aload_n 0, 1) := by decide +kernel
theorem d_Mo_two_51 : decode b_Mo_two 51 = .ok (.getfield 91, 3) := by decide +kernel
theorem d_Mo_two_54 : decode b_Mo_two 54 = .ok (.iload_n 1, 1) := by decide +kernel
theorem d_Mo_two_55 : decode b_Mo_two 55 = .ok (.iaload, 1) := by decide +kernel
theorem d_Mo_two_56 : decode b_Mo_two 56 = .ok (.aload_n 0, 1) := by decide +kernel
theorem d_Mo_two_57 : decode b_Mo_two 57 = .ok (.getfield 94, 3) := by decide +kernel
theorem d_Mo_two_60 : decode b_Mo_two 60 = .ok (.iload_n 1, 1) := by decide +kernel
theorem d_Mo_two_61 : decode b_Mo_two 61 = .ok (.iaload, 1) := by decide +kernel
theorem d_Mo_two_62 : decode b_Mo_two 62 = .ok (.invokevirtual 299, 3) := by decide +kernel
theorem d_Mo_two_65 : decode b_Mo_two 65 = .ok (.goto 216, 3) := by decide +kernel
theorem d_Mo_two_68 : decode b_Mo_two 68 = .ok (.aload_n 0, 1) := by decide +kernel
theorem d_Mo_two_69 : decode b_Mo_two 69 = .ok (.getfield 277, 3) := by decide +kernel
theorem d_Mo_two_72 : decode b_Mo_two 72 = .ok (.ifCond .ne 27, 3) := by decide +kernel
theorem d_Mo_two_75 : decode b_Mo_two 75 = .ok (.aload_n 0, 1) := by decide +kernel
theorem d_Mo_two_76 : decode b_Mo_two 76 = .ok (.aload_n 0, 1) := by decide +kernel
theorem d_Mo_two_77 : decode b_Mo_two 77 = .ok (.getfield 85, 3) := by decide +kernel
theorem d_Mo_two_80 : decode b_Mo_two 80 = .ok (.iconst 3, 1) := by decide +kernel
theorem d_Mo_two_81 : decode b_Mo_two 81 = .ok (.iload_n 1, 1) := by decide +kernel
theorem d_Mo_two_82 : decode b_Mo_two 82 = .ok (.imul, 1) := by decide +kernel
theorem d_Mo_two_83 : decode b_Mo_two 83 = .ok (.aload_n 0, 1) := by decide +kernel
theorem d_Mo_two_84 : decode b_Mo_two 84 = .ok (.getfield 88, 3) := by decide +kernel
theorem d_Mo_two_87 : decode b_Mo_two 87 = .ok (.iload_n 1, 1) := by decide +kernel
theorem d_Mo_two_88 : decode b_Mo_two 88 = .ok (.iaload, 1) := by decide +kernel
theorem d_Mo_two_89 : decode b_Mo_two 89 = .ok (.iadd, 1) := by decide +kernel
theorem d_Mo_two_90 : decode b_Mo_two 90 = .ok (.iconst 1, 1) := by decide +kernel
theorem d_Mo_two_91 : decode b_Mo_two 91 = .ok (.isub, 1) := by decide +kernel
theorem d_Mo_two_92 : decode b_Mo_two 92 = .ok (.iaload, 1) := by decide +kernel
theorem d_Mo_two_93 : decode b_Mo_two 93 = .ok (.invokevirtual 283, 3) := by decide +kernel
theorem d_Mo_two_96 : decode b_Mo_two 96 = .ok (.goto 185, 3) := by decide +kernel
theorem d_Mo_two_99 : decode b_Mo_two 99 = .ok (.aload_n 0, 1) := by decide +kernel
theorem d_Mo_two_100 : decode b_Mo_two 100 = .ok (.getfield 277, 3) := by decide +kernel
theorem d_Mo_two_103 : decode b_Mo_two 103 = .ok (.iconst 1, 1) := by decide +kernel
theorem d_Mo_two_104 : decode b_Mo_two 104 = .ok (.if_icmp .ne 100, 3) := by decide +kernel
theorem d_Mo_two_107 : decode b_Mo_two 107 = .ok (.aload_n 0, 1) := by decide +kernel
theorem d_Mo_two_108 : decode b_Mo_two 108 = .ok (.getfield 88, 3) := by decide +kernel
theorem d_Mo_two_111 : decode b_Mo_two 111 = .ok (.iload_n 1, 1) := by decide +kernel
theorem d_Mo_two_112 : decode b_Mo_two 112 = .ok (.iaload, 1) := by decide +kernel
theorem d_Mo_two_113 : decode b_Mo_two 113 = .ok (.iconst 1, 1) := by decide +kernel
theorem d_Mo_two_114 : decode b_Mo_two 114 = .ok (.if_icmp .ne 90, 3) := by decide +kernel
theorem d_Mo_two_117 : decode b_Mo_two 117 = .ok (.aload_n 0, 1) := by decide +kernel
theorem d_Mo_two_118 : decode b_Mo_two 118 = .ok (.getfield 97, 3) := by decide +kernel
theorem d_Mo_two_121 : decode b_Mo_two 121 = .ok (.iload_n 1, 1) := by decide +kernel
theorem d_Mo_two_122 : decode b_Mo_two 122 = .ok (.aload_n 0, 1) := by decide +kernel
theorem d_Mo_two_123 : decode b_Mo_two 123 = .ok (.getfield 286, 3) := by decide +kernel
theorem d_Mo_two_126 : decode b_Mo_two 126 = .ok (.iastore, 1) := by decide +kernel
theorem d_Mo_two_127 : decode b_Mo_two 127 = .ok (.aload_n 0, 1) := by decide +kernel
theorem d_Mo_two_128 : decode b_Mo_two 128 = .ok (.getfield 88, 3) := by decide +kernel
theorem d_Mo_two_131 : decode b_Mo_two 131 = .ok (.iload_n 1, 1) := by decide +kernel
theorem d_Mo_two_132 : decode b_Mo_two 132 = .ok (.iload_n 2, 1) := by decide +kernel
theorem d_Mo_two_133 : decode b_Mo_two 133 = .ok (.bipush 11, 2) := by decide +kernel
theorem d_Mo_two_135 : decode b_Mo_two 135 = .ok (.if_icmp .ne 18, 3) := by decide +kernel
theorem d_Mo_two_138 : decode b_Mo_two 138 = .ok (.aload_n 0, 1) := by decide +kernel
theorem d_Mo_two_139 : decode b_Mo_two 139 = .ok (.aload_n 0, 1) := by decide +kernel
theorem d_Mo_two_140 : decode b_Mo_two 140 = .ok (.getfield 286, 3) := by decide +kernel
theorem d_Mo_two_143 : decode b_Mo_two 143 = .ok (.invokevirtual 351, 3) := by decide +kernel
theorem d_Mo_two_146 : decode b_Mo_two 146 = .ok (.ifCond .ne 7, 3) := by decide +kernel
theorem d_Mo_two_149 : decode b_Mo_two 149 = .ok (.iconst 3, 1) := by decide +kernel
theorem d_Mo_two_150 : decode b_Mo_two 150 = .ok (.goto 4, 3) := by decide +kernel
theorem d_Mo_two_153 : decode b_Mo_two 153 = .ok (.iconst 2, 1) := by decide +kernel
theorem d_Mo_two_154 : decode b_Mo_two 154 = .ok (.iastore, 1) := by decide +kernel
theorem d_Mo_two_155 : decode b_Mo_two 155 = .ok (.aload_n 0, 1) := by decide +kernel
theorem d_Mo_two_156 : decode b_Mo_two 156 = .ok (.aload_n 0, 1) := by decide +kernel
theorem d_Mo_two_157 : decode b_Mo_two 157 = .ok (.getfield 85, 3) := by decide +kernel
theorem d_Mo_two_160 : decode b_Mo_two 160 = .ok (.iconst 3, 1) := by decide +kernel
theorem d_Mo_two_161 : decode b_Mo_two 161 = .ok (.iload_n 1, 1) := by decide +kernel
theorem d_Mo_two_162 : decode b_Mo_two 162 = .ok (.imul, 1) := by decide +kernel
theorem d_Mo_two_163 : decode b_Mo_two 163 = .ok (.aload_n 0, 1) := by decide +kernel
theorem d_Mo_two_164 : decode b_Mo_two 164 = .ok (.getfield 88, 3) := by decide +kernel
theorem d_Mo_two_167 : decode b_Mo_two 167 = .ok (.iload_n 1, 1) := by decide +kernel
theorem d_Mo_two_168 : decode b_Mo_two 168 = .ok (.iaload, 1) := by decide +kernel
theorem d_Mo_two_169 : decode b_Mo_two 169 = .ok (.iadd, 1) := by decide +kernel
theorem d_Mo_two_170 : decode b_Mo_two 170 = .ok (.iconst 1, 1) := by decide +kernel
theorem d_Mo_two_171 : decode b_Mo_two 171 = .ok (.isub, 1) := by decide +kernel
theorem d_Mo_two_172 : decode b_Mo_two 172 = .ok (.iaload, 1) := by decide +kernel
theorem d_Mo_two_173 : decode b_Mo_two 173 = .ok (.iload_n 2, 1) := by decide +kernel
theorem d_Mo_two_174 : decode b_Mo_two 174 = .ok (.bipush 8, 2) := by decide +kernel
theorem d_Mo_two_176 : decode b_Mo_two 176 = .ok (.if_icmp .ne 10, 3) := by decide +kernel
theorem d_Mo_two_179 : decode b_Mo_two 179 = .ok (.aload_n 0, 1) := by decide +kernel
theorem d_Mo_two_180 : decode b_Mo_two 180 = .ok (.getfield 286, 3) := by decide +kernel
theorem d_Mo_two_183 : decode b_Mo_two 183 = .ok (.goto 9, 3) := by decide +kernel
theorem d_Mo_two_186 : decode b_Mo_two 186 = .ok (.aload_n 0, 1) := by decide +kernel
theorem d_Mo_two_187 : decode b_Mo_two 187 = .ok (.getfield 91, 3) := by decide +kernel
theorem d_Mo_two_190 : decode b_Mo_two 190 = .ok (.iload_n 1, 1) := by decide +kernel
theorem d_Mo_two_191 : decode b_Mo_two 191 = .ok (.iaload, 1) := by decide +kernel
theorem d_Mo_two_192 : decode b_Mo_two 192 = .ok (.aload_n 0, 1) := by decide +kernel
theorem d_Mo_two_193 : decode b_Mo_two 193 = .ok (.getfield 94, 3) := by decide +kernel
theorem d_Mo_two_196 : decode b_Mo_two 196 = .ok (.iload_n 1, 1) := by decide +kernel
theorem d_Mo_two_197 : decode b_Mo_two 197 = .ok (.iaload, 1) := by decide +kernel
theorem d_Mo_two_198 : decode b_Mo_two 198 = .ok (.invokevirtual 299, 3) := by decide +kernel
theorem d_Mo_two_201 : decode b_Mo_two 201 = .ok (.goto 80, 3) := by decide +kernel
theorem d_Mo_two_204 : decode b_Mo_two 204 = .ok (.aload_n 0, 1) := by decide +kernel
theorem d_Mo_two_205 : decode b_Mo_two 205 = .ok (.getfield 277, 3) := by decide +kernel
theorem d_Mo_two_208 : decode b_Mo_two 208 = .ok (.iconst 1, 1) := by decide +kernel
theorem d_Mo_two_209 : decode b_Mo_two 209 = .ok (.if_icmp .ne 42, 3) := by decide +kernel
theorem d_Mo_two_212 : decode b_Mo_two 212 = .ok (.iload_n 2, 1) := by decide +kernel
theorem d_Mo_two_213 : decode b_Mo_two 213 = .ok (.bipush 22, 2) := by decide +kernel
theorem d_Mo_two_215 : decode b_Mo_two 215 = .ok (.if_icmp .ge 11, 3) := by decide +kernel
theorem d_Mo_two_218 : decode b_Mo_two 218 = .ok (.aload_n 0, 1) := by decide +kernel
theorem d_Mo_two_219 : decode b_Mo_two 219 = .ok (.iconst 1, 1) := by decide +kernel
theorem d_Mo_two_220 : decode b_Mo_two 220 = .ok (.invokevirtual 289, 3) := by decide +kernel
theorem d_Mo_two_223 : decode b_Mo_two 223 = .ok (.goto 58, 3) := by decide +kernel
theorem d_Mo_two_226 : decode b_Mo_two 226 = .ok (.aload_n 0, 1) := by decide +kernel
theorem d_Mo_two_227 : decode b_Mo_two 227 = .ok (.invokevirtual 280, 3) := by decide +kernel
theorem d_Mo_two_230 : decode b_Mo_two 230 = .ok (.ifCond .eq 51, 3) := by decide +kernel
theorem d_Mo_two_233 : decode b_Mo_two 233 = .ok (.aload_n 0, 1) := by decide +kernel
theorem d_Mo_two_234 : decode b_Mo_two 234 = .ok (.iload_n 2, 1) := by decide +kernel
theorem d_Mo_two_235 : decode b_Mo_two 235 = .ok (.aload_n 0, 1) := by decide +kernel
theorem d_Mo_two_236 : decode b_Mo_two 236 = .ok (.getfield 97, 3) := by decide +kernel
theorem d_Mo_two_239 : decode b_Mo_two 239 = .ok (.iload_n 1, 1) := by decide +kernel
theorem d_Mo_two_240 : decode b_Mo_two 240 = .ok (.iaload, 1) := by decide +kernel
theorem d_Mo_two_241 : decode b_Mo_two 241 = .ok (.aload_n 0, 1) := by decide +kernel
theorem d_Mo_two_242 : decode b_Mo_two 242 = .ok (.getfield 286, 3) := by decide +kernel
theorem d_Mo_two_245 : decode b_Mo_two 245 = .ok (.invokevirtual 364, 3) := by decide +kernel
theorem d_Mo_two_248 : decode b_Mo_two 248 = .ok (.goto 33, 3) := by decide +kernel
theorem d_Mo_two_251 : decode b_Mo_two 251 = .ok (.aload_n 0, 1) := by decide +kernel
theorem d_Mo_two_252 : decode b_Mo_two 252 = .ok (.getfield 88, 3) := by decide +kernel
theorem d_Mo_two_255 : decode b_Mo_two 255 = .ok (.iload_n 1, 1) := by decide +kernel
theorem d_Mo_two_256 : decode b_Mo_two 256 = .ok (.iaload, 1) := by decide +kernel
theorem d_Mo_two_257 : decode b_Mo_two 257 = .ok (.iconst 1, 1) := by decide +kernel
theorem d_Mo_two_258 : decode b_Mo_two 258 = .ok (.if_icmp .ne 11, 3) := by decide +kernel
theorem d_Mo_two_261 : decode b_Mo_two 261 = .ok (.aload_n 0, 1) := by decide +kernel
theorem d_Mo_two_262 : decode b_Mo_two 262 = .ok (.iconst 2, 1) := by decide +kernel
theorem d_Mo_two_263 : decode b_Mo_two 263 = .ok (.invokevirtual 289, 3) := by decide +kernel
theorem d_Mo_two_266 : decode b_Mo_two 266 = .ok (.goto 15, 3) := by decide +kernel
theorem d_Mo_two_269 : decode b_Mo_two 269 = .ok (.aload_n 0, 1) := by decide +kernel
theorem d_Mo_two_270 : decode b_Mo_two 270 = .ok (.getfield 88, 3) := by decide +kernel
theorem d_Mo_two_273 : decode b_Mo_two 273 = .ok (.iload_n 1, 1) := by decide +kernel
theorem d_Mo_two_274 : decode b_Mo_two 274 = .ok (.iconst 1, 1) := by decide +kernel
theorem d_Mo_two_275 : decode b_Mo_two 275 = .ok (.iastore, 1) := by decide +kernel
theorem d_Mo_two_276 : decode b_Mo_two 276 = .ok (.aload_n 0, 1) := by decide +kernel
theorem d_Mo_two_277 : decode b_Mo_two 277 = .ok (.iload_n 3, 1) := by decide +kernel
theorem d_Mo_two_278 : decode b_Mo_two 278 = .ok (.invokevirtual 283, 3) := by decide +kernel
theorem d_Mo_two_281 : decode b_Mo_two 281 = .ok (.return_, 1) := by decide +kernel
set_option maxHeartbeats 4000000 in
set_option maxRecDepth 100000 in
theorem c_Mo_two_3 (l : Launch) (E : gh_E) (sz : Nat) (f : gh_F) (a : Nat) (ad : Nat → Nat) (S : Nat → Int32) (I : Nat → Nat → Int32) (J : Nat → Nat → Int64) (w cp φ : Nat) (p0 : Nat) (kk : Nat) (hX : mo_R E f a ad S I J) (h45 : S 45 = nI (w + 1)) (hw : w < 14) (hc60 : cp < 60) (hp0c : I 34 (3 * cp) = nI p0) (hq0 : cp < p0 ∧ p0 < 60) (hS46 : S 46 = 3) : gh_M l y_Mo_two b_Mo_two 4 none E sz [.ref a, .int (nI cp), .int (nI kk)] f { frames := 7, cells := 0, slots := 0, locals := 200 } (fun r g => r = none ∧ ∃ S2 I2, mo_X E f g a ad S2 I2 J ∧ mct cp w (fun _ => False) (fun k => I k cp) S I S2 I2 ∧ oc_t w 3 (S 47) S S2) := by
  refine gh_open (by decide) (Nat.le_of_ble_eq_true rfl) ?_
  intro p e s m args below meth c A ls hAe C V hr hlocks hname hl
  have hx := C.1
  have hb := C.2.1
  have hl : lv_has ls 4 [(0, .ref a), (1, .int (nI cp)), (2, .int (nI kk))] := hl
  have X : mo_X E f f a ad S I J := ⟨hX, gh_fr.rf⟩
  refine lv_aload_n hx hb d_Mo_two_0 rfl (lv_at hl 0 rfl) ?_
  refine mo_getA C V X 34 (by decide) (by decide) f_Mo_85 rfl d_Mo_two_1 ?_
  refine lv_iconst (v := 3) hx hb d_Mo_two_4 (by decide) ?_
  refine lv_iload_n hx hb d_Mo_two_5 rfl (lv_at hl 1 rfl) ?_
  refine gn_imul (a := 3) (b := cp) hx hb d_Mo_two_6 ?_
  refine mo_ild (k := 34) (i := 3 * cp) (n := 180) C V X (by decide) (by decide) rfl (by omega) (by decide) d_Mo_two_7 ?_
  rw [show I 34 (3 * cp) = nI p0 from hp0c]
  refine lv_istore_n hx hb d_Mo_two_8 rfl hl (by decide) rfl (fun ls hl => ?_)
  have hl : lv_has ls 4 [(3, .int (nI p0)), (0, .ref a), (1, .int (nI cp)), (2, .int (nI kk))] := hl
  refine lv_aload_n hx hb d_Mo_two_9 rfl (lv_at hl 1 rfl) ?_
  refine mo_getS (v := 3) C V X 46 (by decide) (by decide) (by first | rfl | exact hS46) f_Mo_277 rfl d_Mo_two_10 ?_
  refine lv_iconst (v := 3) hx hb d_Mo_two_13 (by decide) ?_
  refine lv_icmp_ne (tgt := 25) hx hb d_Mo_two_14 (by decide) (fun c1 => absurd (by decide) c1) (fun c1 => ?_)
  refine lv_aload_n hx hb d_Mo_two_17 rfl (lv_at hl 1 rfl) ?_
  refine lv_iconst (v := 3) hx hb d_Mo_two_18 (by decide) ?_
  refine gh_callV C V hl.1 m_Mo_tell l_Mo_289 (c_Mo_tell l E _ _ a ad _ _ _ 3 w X.1 h45) rfl X.1.1 gc_Mo ⟨by first | decide | omega | (dsimp only; omega), by first | decide | omega | (dsimp only; omega)⟩ ⟨by first | decide | omega | (dsimp only; omega), by first | decide | omega | (dsimp only; omega)⟩ (Nat.le_of_ble_eq_true rfl) rfl d_Mo_two_19 (fun r z9 H locs hp V1 => ?_)
  obtain ⟨rfl, X2⟩ := hp
  have X := X.then X2
  have V := V1
  refine W.eq (g2 := F0 m 22 ls []) rfl ?_
  refine lv_goto (tgt := 281) hx hb d_Mo_two_22 (by decide) ?_
  refine gh_retv hAe C V hr hlocks d_Mo_two_281 (by first | decide | omega | (dsimp only; omega)) (by first | decide | omega | (dsimp only; omega)) ?_
  exact ⟨rfl, _, _, X, mct.rf.tell, oc_t1 rfl rfl rfl⟩
set_option maxHeartbeats 4000000 in
set_option maxRecDepth 100000 in
theorem c_Mo_two_00 (l : Launch) (E : gh_E) (sz : Nat) (f : gh_F) (a : Nat) (ad : Nat → Nat) (S : Nat → Int32) (I : Nat → Nat → Int32) (J : Nat → Nat → Int64) (w cp φ : Nat) (p0 : Nat) (kk : Nat) (hX : mo_R E f a ad S I J) (h45 : S 45 = nI (w + 1)) (hw : w < 14) (hc60 : cp < 60) (h48 : S 48 = nI φ) (hφ : φ < 1000) (h49 : ¬ 0 ≤ S 49) (hp0c : I 34 (3 * cp) = nI p0) (hq0 : cp < p0 ∧ p0 < 60) (hS46 : S 46 = 0) (hph : I 35 cp = 0) : gh_M l y_Mo_two b_Mo_two 4 none E sz [.ref a, .int (nI cp), .int (nI kk)] f { frames := 7, cells := 0, slots := 0, locals := 200 } (fun r g => r = none ∧ ∃ S2 I2, mo_X E f g a ad S2 I2 J ∧ mct cp w (fun j => j = p0) (va_up (fun k => I k cp) 35 1) S I S2 I2 ∧ oc_e w p0 (I 36 cp) (I 37 cp) φ S S2 I2) := by
  refine gh_open (by decide) (Nat.le_of_ble_eq_true rfl) ?_
  intro p e s m args below meth c A ls hAe C V hr hlocks hname hl
  have hx := C.1
  have hb := C.2.1
  have hl : lv_has ls 4 [(0, .ref a), (1, .int (nI cp)), (2, .int (nI kk))] := hl
  have X : mo_X E f f a ad S I J := ⟨hX, gh_fr.rf⟩
  refine lv_aload_n hx hb d_Mo_two_0 rfl (lv_at hl 0 rfl) ?_
  refine mo_getA C V X 34 (by decide) (by decide) f_Mo_85 rfl d_Mo_two_1 ?_
  refine lv_iconst (v := 3) hx hb d_Mo_two_4 (by decide) ?_
  refine lv_iload_n hx hb d_Mo_two_5 rfl (lv_at hl 1 rfl) ?_
  refine gn_imul (a := 3) (b := cp) hx hb d_Mo_two_6 ?_
  refine mo_ild (k := 34) (i := 3 * cp) (n := 180) C V X (by decide) (by decide) rfl (by omega) (by decide) d_Mo_two_7 ?_
  rw [show I 34 (3 * cp) = nI p0 from hp0c]
  refine lv_istore_n hx hb d_Mo_two_8 rfl hl (by decide) rfl (fun ls hl => ?_)
  have hl : lv_has ls 4 [(3, .int (nI p0)), (0, .ref a), (1, .int (nI cp)), (2, .int (nI kk))] := hl
  refine lv_aload_n hx hb d_Mo_two_9 rfl (lv_at hl 1 rfl) ?_
  refine mo_getS (v := 0) C V X 46 (by decide) (by decide) (by first | rfl | exact hS46) f_Mo_277 rfl d_Mo_two_10 ?_
  refine lv_iconst (v := 3) hx hb d_Mo_two_13 (by decide) ?_
  refine lv_icmp_ne (tgt := 25) hx hb d_Mo_two_14 (by decide) (fun c1 => ?_) (fun c1 => absurd c1 (by decide))
  refine lv_aload_n hx hb d_Mo_two_25 rfl (lv_at hl 1 rfl) ?_
  refine mo_getS (v := 0) C V X 46 (by decide) (by decide) (by first | rfl | exact hS46) f_Mo_277 rfl d_Mo_two_26 ?_
  refine lv_if_ne (tgt := 68) hx hb d_Mo_two_29 (by decide) (fun c2 => absurd (by decide) c2) (fun c2 => ?_)
  refine lv_aload_n hx hb d_Mo_two_32 rfl (lv_at hl 1 rfl) ?_
  refine mo_getA C V X 35 (by decide) (by decide) f_Mo_88 rfl d_Mo_two_33 ?_
  refine lv_iload_n hx hb d_Mo_two_36 rfl (lv_at hl 2 rfl) ?_
  refine mo_ild (k := 35) (i := cp) (n := 60) C V X (by decide) (by decide) rfl (by omega) (by decide) d_Mo_two_37 ?_
  rw [show I 35 cp = 0 from hph]
  refine lv_if_ne (tgt := 68) hx hb d_Mo_two_38 (by decide) (fun c3 => absurd (by decide) c3) (fun c3 => ?_)
  refine lv_aload_n hx hb d_Mo_two_41 rfl (lv_at hl 1 rfl) ?_
  refine mo_getA C V X 35 (by decide) (by decide) f_Mo_88 rfl d_Mo_two_42 ?_
  refine lv_iload_n hx hb d_Mo_two_45 rfl (lv_at hl 2 rfl) ?_
  refine lv_iconst (v := 1) hx hb d_Mo_two_46 (by decide) ?_
  refine mo_ist (k := 35) (i := cp) (n := 60) C V X (by decide) (by decide) rfl (by omega) (by decide) d_Mo_two_47 (fun f1 H locs V1 X1 => ?_)
  clear V X
  have V := V1
  have X := X1
  clear V1 X1
  refine lv_aload_n hx hb d_Mo_two_48 rfl (lv_at hl 1 rfl) ?_
  refine lv_iload_n hx hb d_Mo_two_49 rfl (lv_at hl 0 rfl) ?_
  refine lv_aload_n hx hb d_Mo_two_50 rfl (lv_at hl 1 rfl) ?_
  refine mo_getA C V X 36 (by decide) (by decide) f_Mo_91 rfl d_Mo_two_51 ?_
  refine lv_iload_n hx hb d_Mo_two_54 rfl (lv_at hl 2 rfl) ?_
  refine mo_ild (k := 36) (i := cp) (n := 60) C V X (by decide) (by decide) rfl (by omega) (by decide) d_Mo_two_55 ?_
  rw [show (va_up I 35 (upd (I 35) cp 1)) 36 cp = I 36 cp from ((congrFun (va_up_n (by decide)) cp).trans (rfl))]
  refine lv_aload_n hx hb d_Mo_two_56 rfl (lv_at hl 1 rfl) ?_
  refine mo_getA C V X 37 (by decide) (by decide) f_Mo_94 rfl d_Mo_two_57 ?_
  refine lv_iload_n hx hb d_Mo_two_60 rfl (lv_at hl 2 rfl) ?_
  refine mo_ild (k := 37) (i := cp) (n := 60) C V X (by decide) (by decide) rfl (by omega) (by decide) d_Mo_two_61 ?_
  rw [show (va_up I 35 (upd (I 35) cp 1)) 37 cp = I 37 cp from ((congrFun (va_up_n (by decide)) cp).trans (rfl))]
  refine gh_callV C V hl.1 m_Mo_enter l_Mo_299 (c_Mo_enter l E _ _ a ad _ _ _ p0 (I 36 cp) (I 37 cp) φ (w + 1) X.1 (by omega) h48 hφ h49 h45 (by omega)) rfl X.1.1 gc_Mo ⟨by first | decide | omega | (dsimp only; omega), by first | decide | omega | (dsimp only; omega)⟩ ⟨by first | decide | omega | (dsimp only; omega), by first | decide | omega | (dsimp only; omega)⟩ (Nat.le_of_ble_eq_true rfl) rfl d_Mo_two_62 (fun r z9 H locs hp V1 => ?_)
  obtain ⟨rfl, hp0, hp1⟩ := hp
  have V := V1
  by_cases hz : φ = 0
  · have X := X.then (hp0 hz)
    refine W.eq (g2 := F0 m 65 ls []) rfl ?_
    refine lv_goto (tgt := 281) hx hb d_Mo_two_65 (by decide) ?_
    refine gh_retv hAe C V hr hlocks d_Mo_two_281 (by first | decide | omega | (dsimp only; omega)) (by first | decide | omega | (dsimp only; omega)) ?_
    exact ⟨rfl, _, _, X, ((mct.rf.cell 35 1 (by decide) (by decide)).s (k := 49) (by omega)).mono (fun _ z => z.elim), oc_e0 hz rfl⟩
  · have X := X.then (hp1 (by omega))
    refine W.eq (g2 := F0 m 65 ls []) rfl ?_
    refine lv_goto (tgt := 281) hx hb d_Mo_two_65 (by decide) ?_
    refine gh_retv hAe C V hr hlocks d_Mo_two_281 (by first | decide | omega | (dsimp only; omega)) (by first | decide | omega | (dsimp only; omega)) ?_
    exact ⟨rfl, _, _, X, (mct.rf.cell 35 1 (by decide) (by decide)).enter (by omega), oc_e1 (by omega) rfl⟩
set_option maxHeartbeats 4000000 in
set_option maxRecDepth 100000 in
theorem c_Mo_two_01 (l : Launch) (E : gh_E) (sz : Nat) (f : gh_F) (a : Nat) (ad : Nat → Nat) (S : Nat → Int32) (I : Nat → Nat → Int32) (J : Nat → Nat → Int64) (w cp φ : Nat) (p0 : Nat) (kk : Nat) (hX : mo_R E f a ad S I J) (h45 : S 45 = nI (w + 1)) (hw : w < 14) (hc60 : cp < 60) (hp0c : I 34 (3 * cp) = nI p0) (hq0 : cp < p0 ∧ p0 < 60) (hS46 : S 46 = 0) (hph : I 35 cp = 1) : gh_M l y_Mo_two b_Mo_two 4 none E sz [.ref a, .int (nI cp), .int (nI kk)] f { frames := 7, cells := 0, slots := 0, locals := 200 } (fun r g => r = none ∧ ∃ S2 I2, mo_X E f g a ad S2 I2 J ∧ mct cp w (fun _ => False) (fun k => I k cp) S I S2 I2 ∧ oc_a w p0 S S2 I2) := by
  refine gh_open (by decide) (Nat.le_of_ble_eq_true rfl) ?_
  intro p e s m args below meth c A ls hAe C V hr hlocks hname hl
  have hx := C.1
  have hb := C.2.1
  have hl : lv_has ls 4 [(0, .ref a), (1, .int (nI cp)), (2, .int (nI kk))] := hl
  have X : mo_X E f f a ad S I J := ⟨hX, gh_fr.rf⟩
  refine lv_aload_n hx hb d_Mo_two_0 rfl (lv_at hl 0 rfl) ?_
  refine mo_getA C V X 34 (by decide) (by decide) f_Mo_85 rfl d_Mo_two_1 ?_
  refine lv_iconst (v := 3) hx hb d_Mo_two_4 (by decide) ?_
  refine lv_iload_n hx hb d_Mo_two_5 rfl (lv_at hl 1 rfl) ?_
  refine gn_imul (a := 3) (b := cp) hx hb d_Mo_two_6 ?_
  refine mo_ild (k := 34) (i := 3 * cp) (n := 180) C V X (by decide) (by decide) rfl (by omega) (by decide) d_Mo_two_7 ?_
  rw [show I 34 (3 * cp) = nI p0 from hp0c]
  refine lv_istore_n hx hb d_Mo_two_8 rfl hl (by decide) rfl (fun ls hl => ?_)
  have hl : lv_has ls 4 [(3, .int (nI p0)), (0, .ref a), (1, .int (nI cp)), (2, .int (nI kk))] := hl
  refine lv_aload_n hx hb d_Mo_two_9 rfl (lv_at hl 1 rfl) ?_
  refine mo_getS (v := 0) C V X 46 (by decide) (by decide) (by first | rfl | exact hS46) f_Mo_277 rfl d_Mo_two_10 ?_
  refine lv_iconst (v := 3) hx hb d_Mo_two_13 (by decide) ?_
  refine lv_icmp_ne (tgt := 25) hx hb d_Mo_two_14 (by decide) (fun c1 => ?_) (fun c1 => absurd c1 (by decide))
  refine lv_aload_n hx hb d_Mo_two_25 rfl (lv_at hl 1 rfl) ?_
  refine mo_getS (v := 0) C V X 46 (by decide) (by decide) (by first | rfl | exact hS46) f_Mo_277 rfl d_Mo_two_26 ?_
  refine lv_if_ne (tgt := 68) hx hb d_Mo_two_29 (by decide) (fun c2 => absurd (by decide) c2) (fun c2 => ?_)
  refine lv_aload_n hx hb d_Mo_two_32 rfl (lv_at hl 1 rfl) ?_
  refine mo_getA C V X 35 (by decide) (by decide) f_Mo_88 rfl d_Mo_two_33 ?_
  refine lv_iload_n hx hb d_Mo_two_36 rfl (lv_at hl 2 rfl) ?_
  refine mo_ild (k := 35) (i := cp) (n := 60) C V X (by decide) (by decide) rfl (by omega) (by decide) d_Mo_two_37 ?_
  rw [show I 35 cp = 1 from hph]
  refine lv_if_ne (tgt := 68) hx hb d_Mo_two_38 (by decide) (fun c3 => ?_) (fun c3 => absurd c3 (by decide))
  refine lv_aload_n hx hb d_Mo_two_68 rfl (lv_at hl 1 rfl) ?_
  refine mo_getS (v := 0) C V X 46 (by decide) (by decide) (by first | rfl | exact hS46) f_Mo_277 rfl d_Mo_two_69 ?_
  refine lv_if_ne (tgt := 99) hx hb d_Mo_two_72 (by decide) (fun c4 => absurd (by decide) c4) (fun c4 => ?_)
  refine lv_aload_n hx hb d_Mo_two_75 rfl (lv_at hl 1 rfl) ?_
  refine lv_aload_n hx hb d_Mo_two_76 rfl (lv_at hl 1 rfl) ?_
  refine mo_getA C V X 34 (by decide) (by decide) f_Mo_85 rfl d_Mo_two_77 ?_
  refine lv_iconst (v := 3) hx hb d_Mo_two_80 (by decide) ?_
  refine lv_iload_n hx hb d_Mo_two_81 rfl (lv_at hl 2 rfl) ?_
  refine gn_imul (a := 3) (b := cp) hx hb d_Mo_two_82 ?_
  refine lv_aload_n hx hb d_Mo_two_83 rfl (lv_at hl 1 rfl) ?_
  refine mo_getA C V X 35 (by decide) (by decide) f_Mo_88 rfl d_Mo_two_84 ?_
  refine lv_iload_n hx hb d_Mo_two_87 rfl (lv_at hl 2 rfl) ?_
  refine mo_ild (k := 35) (i := cp) (n := 60) C V X (by decide) (by decide) rfl (by omega) (by decide) d_Mo_two_88 ?_
  rw [show I 35 cp = 1 from hph]
  refine gn_iadd (a := 3 * cp) (b := 1) hx hb d_Mo_two_89 ?_
  refine lv_iconst (v := 1) hx hb d_Mo_two_90 (by decide) ?_
  refine gn_isub (a := (3 * cp) + 1) (b := 1) hx hb (by omega) d_Mo_two_91 ?_
  refine mo_ild (k := 34) (i := ((3 * cp) + 1) - 1) (n := 180) C V X (by decide) (by decide) rfl (by omega) (by decide) d_Mo_two_92 ?_
  rw [show I 34 (((3 * cp) + 1) - 1) = nI p0 from (by rw [show 3 * cp + 1 - 1 = 3 * cp by omega]; exact hp0c)]
  refine gh_callV C V hl.1 m_Mo_ask l_Mo_283 (c_Mo_ask l E _ _ a ad _ _ _ (nI p0) (w + 1) X.1 h45 (by omega)) rfl X.1.1 gc_Mo ⟨by first | decide | omega | (dsimp only; omega), by first | decide | omega | (dsimp only; omega)⟩ ⟨by first | decide | omega | (dsimp only; omega), by first | decide | omega | (dsimp only; omega)⟩ (Nat.le_of_ble_eq_true rfl) rfl d_Mo_two_93 (fun r z9 H locs hp V1 => ?_)
  obtain ⟨rfl, X2⟩ := hp
  have X := X.then X2
  have V := V1
  refine W.eq (g2 := F0 m 96 ls []) rfl ?_
  refine lv_goto (tgt := 281) hx hb d_Mo_two_96 (by decide) ?_
  refine gh_retv hAe C V hr hlocks d_Mo_two_281 (by first | decide | omega | (dsimp only; omega)) (by first | decide | omega | (dsimp only; omega)) ?_
  exact ⟨rfl, _, _, X, mct.rf.ask, oc_a1 rfl rfl⟩
set_option maxHeartbeats 4000000 in
set_option maxRecDepth 100000 in
theorem c_Mo_two_02 (l : Launch) (E : gh_E) (sz : Nat) (f : gh_F) (a : Nat) (ad : Nat → Nat) (S : Nat → Int32) (I : Nat → Nat → Int32) (J : Nat → Nat → Int64) (w cp φ : Nat) (p0 : Nat) (p1 : Nat) (kk : Nat) (hX : mo_R E f a ad S I J) (h45 : S 45 = nI (w + 1)) (hw : w < 14) (hc60 : cp < 60) (hp0c : I 34 (3 * cp) = nI p0) (hq0 : cp < p0 ∧ p0 < 60) (hp1c : I 34 (3 * cp + 1) = nI p1) (hq1 : cp < p1 ∧ p1 < 60) (hS46 : S 46 = 0) (hph : I 35 cp = 2) : gh_M l y_Mo_two b_Mo_two 4 none E sz [.ref a, .int (nI cp), .int (nI kk)] f { frames := 7, cells := 0, slots := 0, locals := 200 } (fun r g => r = none ∧ ∃ S2 I2, mo_X E f g a ad S2 I2 J ∧ mct cp w (fun _ => False) (fun k => I k cp) S I S2 I2 ∧ oc_a w p1 S S2 I2) := by
  refine gh_open (by decide) (Nat.le_of_ble_eq_true rfl) ?_
  intro p e s m args below meth c A ls hAe C V hr hlocks hname hl
  have hx := C.1
  have hb := C.2.1
  have hl : lv_has ls 4 [(0, .ref a), (1, .int (nI cp)), (2, .int (nI kk))] := hl
  have X : mo_X E f f a ad S I J := ⟨hX, gh_fr.rf⟩
  refine lv_aload_n hx hb d_Mo_two_0 rfl (lv_at hl 0 rfl) ?_
  refine mo_getA C V X 34 (by decide) (by decide) f_Mo_85 rfl d_Mo_two_1 ?_
  refine lv_iconst (v := 3) hx hb d_Mo_two_4 (by decide) ?_
  refine lv_iload_n hx hb d_Mo_two_5 rfl (lv_at hl 1 rfl) ?_
  refine gn_imul (a := 3) (b := cp) hx hb d_Mo_two_6 ?_
  refine mo_ild (k := 34) (i := 3 * cp) (n := 180) C V X (by decide) (by decide) rfl (by omega) (by decide) d_Mo_two_7 ?_
  rw [show I 34 (3 * cp) = nI p0 from hp0c]
  refine lv_istore_n hx hb d_Mo_two_8 rfl hl (by decide) rfl (fun ls hl => ?_)
  have hl : lv_has ls 4 [(3, .int (nI p0)), (0, .ref a), (1, .int (nI cp)), (2, .int (nI kk))] := hl
  refine lv_aload_n hx hb d_Mo_two_9 rfl (lv_at hl 1 rfl) ?_
  refine mo_getS (v := 0) C V X 46 (by decide) (by decide) (by first | rfl | exact hS46) f_Mo_277 rfl d_Mo_two_10 ?_
  refine lv_iconst (v := 3) hx hb d_Mo_two_13 (by decide) ?_
  refine lv_icmp_ne (tgt := 25) hx hb d_Mo_two_14 (by decide) (fun c1 => ?_) (fun c1 => absurd c1 (by decide))
  refine lv_aload_n hx hb d_Mo_two_25 rfl (lv_at hl 1 rfl) ?_
  refine mo_getS (v := 0) C V X 46 (by decide) (by decide) (by first | rfl | exact hS46) f_Mo_277 rfl d_Mo_two_26 ?_
  refine lv_if_ne (tgt := 68) hx hb d_Mo_two_29 (by decide) (fun c2 => absurd (by decide) c2) (fun c2 => ?_)
  refine lv_aload_n hx hb d_Mo_two_32 rfl (lv_at hl 1 rfl) ?_
  refine mo_getA C V X 35 (by decide) (by decide) f_Mo_88 rfl d_Mo_two_33 ?_
  refine lv_iload_n hx hb d_Mo_two_36 rfl (lv_at hl 2 rfl) ?_
  refine mo_ild (k := 35) (i := cp) (n := 60) C V X (by decide) (by decide) rfl (by omega) (by decide) d_Mo_two_37 ?_
  rw [show I 35 cp = 2 from hph]
  refine lv_if_ne (tgt := 68) hx hb d_Mo_two_38 (by decide) (fun c3 => ?_) (fun c3 => absurd c3 (by decide))
  refine lv_aload_n hx hb d_Mo_two_68 rfl (lv_at hl 1 rfl) ?_
  refine mo_getS (v := 0) C V X 46 (by decide) (by decide) (by first | rfl | exact hS46) f_Mo_277 rfl d_Mo_two_69 ?_
  refine lv_if_ne (tgt := 99) hx hb d_Mo_two_72 (by decide) (fun c4 => absurd (by decide) c4) (fun c4 => ?_)
  refine lv_aload_n hx hb d_Mo_two_75 rfl (lv_at hl 1 rfl) ?_
  refine lv_aload_n hx hb d_Mo_two_76 rfl (lv_at hl 1 rfl) ?_
  refine mo_getA C V X 34 (by decide) (by decide) f_Mo_85 rfl d_Mo_two_77 ?_
  refine lv_iconst (v := 3) hx hb d_Mo_two_80 (by decide) ?_
  refine lv_iload_n hx hb d_Mo_two_81 rfl (lv_at hl 2 rfl) ?_
  refine gn_imul (a := 3) (b := cp) hx hb d_Mo_two_82 ?_
  refine lv_aload_n hx hb d_Mo_two_83 rfl (lv_at hl 1 rfl) ?_
  refine mo_getA C V X 35 (by decide) (by decide) f_Mo_88 rfl d_Mo_two_84 ?_
  refine lv_iload_n hx hb d_Mo_two_87 rfl (lv_at hl 2 rfl) ?_
  refine mo_ild (k := 35) (i := cp) (n := 60) C V X (by decide) (by decide) rfl (by omega) (by decide) d_Mo_two_88 ?_
  rw [show I 35 cp = 2 from hph]
  refine gn_iadd (a := 3 * cp) (b := 2) hx hb d_Mo_two_89 ?_
  refine lv_iconst (v := 1) hx hb d_Mo_two_90 (by decide) ?_
  refine gn_isub (a := (3 * cp) + 2) (b := 1) hx hb (by omega) d_Mo_two_91 ?_
  refine mo_ild (k := 34) (i := ((3 * cp) + 2) - 1) (n := 180) C V X (by decide) (by decide) rfl (by omega) (by decide) d_Mo_two_92 ?_
  rw [show I 34 (((3 * cp) + 2) - 1) = nI p1 from (by rw [show 3 * cp + 2 - 1 = 3 * cp + 1 by omega]; exact hp1c)]
  refine gh_callV C V hl.1 m_Mo_ask l_Mo_283 (c_Mo_ask l E _ _ a ad _ _ _ (nI p1) (w + 1) X.1 h45 (by omega)) rfl X.1.1 gc_Mo ⟨by first | decide | omega | (dsimp only; omega), by first | decide | omega | (dsimp only; omega)⟩ ⟨by first | decide | omega | (dsimp only; omega), by first | decide | omega | (dsimp only; omega)⟩ (Nat.le_of_ble_eq_true rfl) rfl d_Mo_two_93 (fun r z9 H locs hp V1 => ?_)
  obtain ⟨rfl, X2⟩ := hp
  have X := X.then X2
  have V := V1
  refine W.eq (g2 := F0 m 96 ls []) rfl ?_
  refine lv_goto (tgt := 281) hx hb d_Mo_two_96 (by decide) ?_
  refine gh_retv hAe C V hr hlocks d_Mo_two_281 (by first | decide | omega | (dsimp only; omega)) (by first | decide | omega | (dsimp only; omega)) ?_
  exact ⟨rfl, _, _, X, mct.rf.ask, oc_a1 rfl rfl⟩
set_option maxHeartbeats 4000000 in
set_option maxRecDepth 100000 in
theorem c_Mo_two_03 (l : Launch) (E : gh_E) (sz : Nat) (f : gh_F) (a : Nat) (ad : Nat → Nat) (S : Nat → Int32) (I : Nat → Nat → Int32) (J : Nat → Nat → Int64) (w cp φ : Nat) (p0 : Nat) (p2 : Nat) (kk : Nat) (hX : mo_R E f a ad S I J) (h45 : S 45 = nI (w + 1)) (hw : w < 14) (hc60 : cp < 60) (hp0c : I 34 (3 * cp) = nI p0) (hq0 : cp < p0 ∧ p0 < 60) (hp2c : I 34 (3 * cp + 2) = nI p2) (hq2 : cp < p2 ∧ p2 < 60) (hS46 : S 46 = 0) (hph : I 35 cp = 3) : gh_M l y_Mo_two b_Mo_two 4 none E sz [.ref a, .int (nI cp), .int (nI kk)] f { frames := 7, cells := 0, slots := 0, locals := 200 } (fun r g => r = none ∧ ∃ S2 I2, mo_X E f g a ad S2 I2 J ∧ mct cp w (fun _ => False) (fun k => I k cp) S I S2 I2 ∧ oc_a w p2 S S2 I2) := by
  refine gh_open (by decide) (Nat.le_of_ble_eq_true rfl) ?_
  intro p e s m args below meth c A ls hAe C V hr hlocks hname hl
  have hx := C.1
  have hb := C.2.1
  have hl : lv_has ls 4 [(0, .ref a), (1, .int (nI cp)), (2, .int (nI kk))] := hl
  have X : mo_X E f f a ad S I J := ⟨hX, gh_fr.rf⟩
  refine lv_aload_n hx hb d_Mo_two_0 rfl (lv_at hl 0 rfl) ?_
  refine mo_getA C V X 34 (by decide) (by decide) f_Mo_85 rfl d_Mo_two_1 ?_
  refine lv_iconst (v := 3) hx hb d_Mo_two_4 (by decide) ?_
  refine lv_iload_n hx hb d_Mo_two_5 rfl (lv_at hl 1 rfl) ?_
  refine gn_imul (a := 3) (b := cp) hx hb d_Mo_two_6 ?_
  refine mo_ild (k := 34) (i := 3 * cp) (n := 180) C V X (by decide) (by decide) rfl (by omega) (by decide) d_Mo_two_7 ?_
  rw [show I 34 (3 * cp) = nI p0 from hp0c]
  refine lv_istore_n hx hb d_Mo_two_8 rfl hl (by decide) rfl (fun ls hl => ?_)
  have hl : lv_has ls 4 [(3, .int (nI p0)), (0, .ref a), (1, .int (nI cp)), (2, .int (nI kk))] := hl
  refine lv_aload_n hx hb d_Mo_two_9 rfl (lv_at hl 1 rfl) ?_
  refine mo_getS (v := 0) C V X 46 (by decide) (by decide) (by first | rfl | exact hS46) f_Mo_277 rfl d_Mo_two_10 ?_
  refine lv_iconst (v := 3) hx hb d_Mo_two_13 (by decide) ?_
  refine lv_icmp_ne (tgt := 25) hx hb d_Mo_two_14 (by decide) (fun c1 => ?_) (fun c1 => absurd c1 (by decide))
  refine lv_aload_n hx hb d_Mo_two_25 rfl (lv_at hl 1 rfl) ?_
  refine mo_getS (v := 0) C V X 46 (by decide) (by decide) (by first | rfl | exact hS46) f_Mo_277 rfl d_Mo_two_26 ?_
  refine lv_if_ne (tgt := 68) hx hb d_Mo_two_29 (by decide) (fun c2 => absurd (by decide) c2) (fun c2 => ?_)
  refine lv_aload_n hx hb d_Mo_two_32 rfl (lv_at hl 1 rfl) ?_
  refine mo_getA C V X 35 (by decide) (by decide) f_Mo_88 rfl d_Mo_two_33 ?_
  refine lv_iload_n hx hb d_Mo_two_36 rfl (lv_at hl 2 rfl) ?_
  refine mo_ild (k := 35) (i := cp) (n := 60) C V X (by decide) (by decide) rfl (by omega) (by decide) d_Mo_two_37 ?_
  rw [show I 35 cp = 3 from hph]
  refine lv_if_ne (tgt := 68) hx hb d_Mo_two_38 (by decide) (fun c3 => ?_) (fun c3 => absurd c3 (by decide))
  refine lv_aload_n hx hb d_Mo_two_68 rfl (lv_at hl 1 rfl) ?_
  refine mo_getS (v := 0) C V X 46 (by decide) (by decide) (by first | rfl | exact hS46) f_Mo_277 rfl d_Mo_two_69 ?_
  refine lv_if_ne (tgt := 99) hx hb d_Mo_two_72 (by decide) (fun c4 => absurd (by decide) c4) (fun c4 => ?_)
  refine lv_aload_n hx hb d_Mo_two_75 rfl (lv_at hl 1 rfl) ?_
  refine lv_aload_n hx hb d_Mo_two_76 rfl (lv_at hl 1 rfl) ?_
  refine mo_getA C V X 34 (by decide) (by decide) f_Mo_85 rfl d_Mo_two_77 ?_
  refine lv_iconst (v := 3) hx hb d_Mo_two_80 (by decide) ?_
  refine lv_iload_n hx hb d_Mo_two_81 rfl (lv_at hl 2 rfl) ?_
  refine gn_imul (a := 3) (b := cp) hx hb d_Mo_two_82 ?_
  refine lv_aload_n hx hb d_Mo_two_83 rfl (lv_at hl 1 rfl) ?_
  refine mo_getA C V X 35 (by decide) (by decide) f_Mo_88 rfl d_Mo_two_84 ?_
  refine lv_iload_n hx hb d_Mo_two_87 rfl (lv_at hl 2 rfl) ?_
  refine mo_ild (k := 35) (i := cp) (n := 60) C V X (by decide) (by decide) rfl (by omega) (by decide) d_Mo_two_88 ?_
  rw [show I 35 cp = 3 from hph]
  refine gn_iadd (a := 3 * cp) (b := 3) hx hb d_Mo_two_89 ?_
  refine lv_iconst (v := 1) hx hb d_Mo_two_90 (by decide) ?_
  refine gn_isub (a := (3 * cp) + 3) (b := 1) hx hb (by omega) d_Mo_two_91 ?_
  refine mo_ild (k := 34) (i := ((3 * cp) + 3) - 1) (n := 180) C V X (by decide) (by decide) rfl (by omega) (by decide) d_Mo_two_92 ?_
  rw [show I 34 (((3 * cp) + 3) - 1) = nI p2 from (by rw [show 3 * cp + 3 - 1 = 3 * cp + 2 by omega]; exact hp2c)]
  refine gh_callV C V hl.1 m_Mo_ask l_Mo_283 (c_Mo_ask l E _ _ a ad _ _ _ (nI p2) (w + 1) X.1 h45 (by omega)) rfl X.1.1 gc_Mo ⟨by first | decide | omega | (dsimp only; omega), by first | decide | omega | (dsimp only; omega)⟩ ⟨by first | decide | omega | (dsimp only; omega), by first | decide | omega | (dsimp only; omega)⟩ (Nat.le_of_ble_eq_true rfl) rfl d_Mo_two_93 (fun r z9 H locs hp V1 => ?_)
  obtain ⟨rfl, X2⟩ := hp
  have X := X.then X2
  have V := V1
  refine W.eq (g2 := F0 m 96 ls []) rfl ?_
  refine lv_goto (tgt := 281) hx hb d_Mo_two_96 (by decide) ?_
  refine gh_retv hAe C V hr hlocks d_Mo_two_281 (by first | decide | omega | (dsimp only; omega)) (by first | decide | omega | (dsimp only; omega)) ?_
  exact ⟨rfl, _, _, X, mct.rf.ask, oc_a1 rfl rfl⟩
set_option maxHeartbeats 4000000 in
set_option maxRecDepth 100000 in
theorem c_Mo_two_11_8 (l : Launch) (E : gh_E) (sz : Nat) (f : gh_F) (a : Nat) (ad : Nat → Nat) (S : Nat → Int32) (I : Nat → Nat → Int32) (J : Nat → Nat → Int64) (w cp φ : Nat) (p0 : Nat) (p1 : Nat) (u : Nat) (hX : mo_R E f a ad S I J) (h45 : S 45 = nI (w + 1)) (hw : w < 14) (hc60 : cp < 60) (h48 : S 48 = nI φ) (hφ : φ < 1000) (h49 : ¬ 0 ≤ S 49) (hp0c : I 34 (3 * cp) = nI p0) (hq0 : cp < p0 ∧ p0 < 60) (hp1c : I 34 (3 * cp + 1) = nI p1) (hq1 : cp < p1 ∧ p1 < 60) (hS46 : S 46 = 1) (hph : I 35 cp = 1) (hS47 : S 47 = nI u) : gh_M l y_Mo_two b_Mo_two 4 none E sz [.ref a, .int (nI cp), .int 8] f { frames := 7, cells := 0, slots := 0, locals := 200 } (fun r g => r = none ∧ ∃ S2 I2, mo_X E f g a ad S2 I2 J ∧ mct cp w (fun j => j = p1) (va_up (va_up (fun k => I k cp) 38 (nI u)) 35 2) S I S2 I2 ∧ oc_e w p1 (nI u) (I 37 cp) φ S S2 I2) := by
  refine gh_open (by decide) (Nat.le_of_ble_eq_true rfl) ?_
  intro p e s m args below meth c A ls hAe C V hr hlocks hname hl
  have hx := C.1
  have hb := C.2.1
  have hl : lv_has ls 4 [(0, .ref a), (1, .int (nI cp)), (2, .int 8)] := hl
  have X : mo_X E f f a ad S I J := ⟨hX, gh_fr.rf⟩
  refine lv_aload_n hx hb d_Mo_two_0 rfl (lv_at hl 0 rfl) ?_
  refine mo_getA C V X 34 (by decide) (by decide) f_Mo_85 rfl d_Mo_two_1 ?_
  refine lv_iconst (v := 3) hx hb d_Mo_two_4 (by decide) ?_
  refine lv_iload_n hx hb d_Mo_two_5 rfl (lv_at hl 1 rfl) ?_
  refine gn_imul (a := 3) (b := cp) hx hb d_Mo_two_6 ?_
  refine mo_ild (k := 34) (i := 3 * cp) (n := 180) C V X (by decide) (by decide) rfl (by omega) (by decide) d_Mo_two_7 ?_
  rw [show I 34 (3 * cp) = nI p0 from hp0c]
  refine lv_istore_n hx hb d_Mo_two_8 rfl hl (by decide) rfl (fun ls hl => ?_)
  have hl : lv_has ls 4 [(3, .int (nI p0)), (0, .ref a), (1, .int (nI cp)), (2, .int 8)] := hl
  refine lv_aload_n hx hb d_Mo_two_9 rfl (lv_at hl 1 rfl) ?_
  refine mo_getS (v := 1) C V X 46 (by decide) (by decide) (by first | rfl | exact hS46) f_Mo_277 rfl d_Mo_two_10 ?_
  refine lv_iconst (v := 3) hx hb d_Mo_two_13 (by decide) ?_
  refine lv_icmp_ne (tgt := 25) hx hb d_Mo_two_14 (by decide) (fun c1 => ?_) (fun c1 => absurd c1 (by decide))
  refine lv_aload_n hx hb d_Mo_two_25 rfl (lv_at hl 1 rfl) ?_
  refine mo_getS (v := 1) C V X 46 (by decide) (by decide) (by first | rfl | exact hS46) f_Mo_277 rfl d_Mo_two_26 ?_
  refine lv_if_ne (tgt := 68) hx hb d_Mo_two_29 (by decide) (fun c2 => ?_) (fun c2 => absurd c2 (by decide))
  refine lv_aload_n hx hb d_Mo_two_68 rfl (lv_at hl 1 rfl) ?_
  refine mo_getS (v := 1) C V X 46 (by decide) (by decide) (by first | rfl | exact hS46) f_Mo_277 rfl d_Mo_two_69 ?_
  refine lv_if_ne (tgt := 99) hx hb d_Mo_two_72 (by decide) (fun c3 => ?_) (fun c3 => absurd c3 (by decide))
  refine lv_aload_n hx hb d_Mo_two_99 rfl (lv_at hl 1 rfl) ?_
  refine mo_getS (v := 1) C V X 46 (by decide) (by decide) (by first | rfl | exact hS46) f_Mo_277 rfl d_Mo_two_100 ?_
  refine lv_iconst (v := 1) hx hb d_Mo_two_103 (by decide) ?_
  refine lv_icmp_ne (tgt := 204) hx hb d_Mo_two_104 (by decide) (fun c4 => absurd (by decide) c4) (fun c4 => ?_)
  refine lv_aload_n hx hb d_Mo_two_107 rfl (lv_at hl 1 rfl) ?_
  refine mo_getA C V X 35 (by decide) (by decide) f_Mo_88 rfl d_Mo_two_108 ?_
  refine lv_iload_n hx hb d_Mo_two_111 rfl (lv_at hl 2 rfl) ?_
  refine mo_ild (k := 35) (i := cp) (n := 60) C V X (by decide) (by decide) rfl (by omega) (by decide) d_Mo_two_112 ?_
  rw [show I 35 cp = 1 from hph]
  refine lv_iconst (v := 1) hx hb d_Mo_two_113 (by decide) ?_
  refine lv_icmp_ne (tgt := 204) hx hb d_Mo_two_114 (by decide) (fun c5 => absurd (by decide) c5) (fun c5 => ?_)
  refine lv_aload_n hx hb d_Mo_two_117 rfl (lv_at hl 1 rfl) ?_
  refine mo_getA C V X 38 (by decide) (by decide) f_Mo_97 rfl d_Mo_two_118 ?_
  refine lv_iload_n hx hb d_Mo_two_121 rfl (lv_at hl 2 rfl) ?_
  refine lv_aload_n hx hb d_Mo_two_122 rfl (lv_at hl 1 rfl) ?_
  refine mo_getS (v := nI u) C V X 47 (by decide) (by decide) (by first | rfl | exact hS47) f_Mo_286 rfl d_Mo_two_123 ?_
  refine mo_ist (k := 38) (i := cp) (n := 60) C V X (by decide) (by decide) rfl (by omega) (by decide) d_Mo_two_126 (fun f1 H locs V1 X1 => ?_)
  clear V X
  have V := V1
  have X := X1
  clear V1 X1
  refine lv_aload_n hx hb d_Mo_two_127 rfl (lv_at hl 1 rfl) ?_
  refine mo_getA C V X 35 (by decide) (by decide) f_Mo_88 rfl d_Mo_two_128 ?_
  refine lv_iload_n hx hb d_Mo_two_131 rfl (lv_at hl 2 rfl) ?_
  refine lv_iload_n hx hb d_Mo_two_132 rfl (lv_at hl 3 rfl) ?_
  refine lv_bipush (v := 11) hx hb d_Mo_two_133 (by decide) ?_
  refine lv_icmp_ne (tgt := 153) hx hb d_Mo_two_135 (by decide) (fun c6 => ?_) (fun c6 => absurd c6 (by decide))
  refine lv_iconst (v := 2) hx hb d_Mo_two_153 (by decide) ?_
  refine mo_ist (k := 35) (i := cp) (n := 60) C V X (by decide) (by decide) rfl (by omega) (by decide) d_Mo_two_154 (fun f1 H locs V1 X1 => ?_)
  clear V X
  have V := V1
  have X := X1
  clear V1 X1
  refine lv_aload_n hx hb d_Mo_two_155 rfl (lv_at hl 1 rfl) ?_
  refine lv_aload_n hx hb d_Mo_two_156 rfl (lv_at hl 1 rfl) ?_
  refine mo_getA C V X 34 (by decide) (by decide) f_Mo_85 rfl d_Mo_two_157 ?_
  refine lv_iconst (v := 3) hx hb d_Mo_two_160 (by decide) ?_
  refine lv_iload_n hx hb d_Mo_two_161 rfl (lv_at hl 2 rfl) ?_
  refine gn_imul (a := 3) (b := cp) hx hb d_Mo_two_162 ?_
  refine lv_aload_n hx hb d_Mo_two_163 rfl (lv_at hl 1 rfl) ?_
  refine mo_getA C V X 35 (by decide) (by decide) f_Mo_88 rfl d_Mo_two_164 ?_
  refine lv_iload_n hx hb d_Mo_two_167 rfl (lv_at hl 2 rfl) ?_
  refine mo_ild (k := 35) (i := cp) (n := 60) C V X (by decide) (by decide) rfl (by omega) (by decide) d_Mo_two_168 ?_
  rw [show (va_up (va_up I 38 (upd (I 38) cp (nI u))) 35 (upd ((va_up I 38 (upd (I 38) cp (nI u))) 35) cp 2)) 35 cp = 2 from ((congrFun va_up_s cp).trans (by simp [upd]))]
  refine gn_iadd (a := 3 * cp) (b := 2) hx hb d_Mo_two_169 ?_
  refine lv_iconst (v := 1) hx hb d_Mo_two_170 (by decide) ?_
  refine gn_isub (a := (3 * cp) + 2) (b := 1) hx hb (by omega) d_Mo_two_171 ?_
  refine mo_ild (k := 34) (i := ((3 * cp) + 2) - 1) (n := 180) C V X (by decide) (by decide) rfl (by omega) (by decide) d_Mo_two_172 ?_
  rw [show (va_up (va_up I 38 (upd (I 38) cp (nI u))) 35 (upd ((va_up I 38 (upd (I 38) cp (nI u))) 35) cp 2)) 34 (((3 * cp) + 2) - 1) = nI p1 from ((congrFun (va_up_n (by decide)) (((3 * cp) + 2) - 1)).trans (((congrFun (va_up_n (by decide)) (((3 * cp) + 2) - 1)).trans ((by rw [show 3 * cp + 2 - 1 = 3 * cp + 1 by omega]; exact hp1c)))))]
  refine lv_iload_n hx hb d_Mo_two_173 rfl (lv_at hl 3 rfl) ?_
  refine lv_bipush (v := 8) hx hb d_Mo_two_174 (by decide) ?_
  refine lv_icmp_ne (tgt := 186) hx hb d_Mo_two_176 (by decide) (fun c7 => absurd (by decide) c7) (fun c7 => ?_)
  refine lv_aload_n hx hb d_Mo_two_179 rfl (lv_at hl 1 rfl) ?_
  refine mo_getS (v := nI u) C V X 47 (by decide) (by decide) (by first | rfl | exact hS47) f_Mo_286 rfl d_Mo_two_180 ?_
  refine lv_goto (tgt := 192) hx hb d_Mo_two_183 (by decide) ?_
  refine lv_aload_n hx hb d_Mo_two_192 rfl (lv_at hl 1 rfl) ?_
  refine mo_getA C V X 37 (by decide) (by decide) f_Mo_94 rfl d_Mo_two_193 ?_
  refine lv_iload_n hx hb d_Mo_two_196 rfl (lv_at hl 2 rfl) ?_
  refine mo_ild (k := 37) (i := cp) (n := 60) C V X (by decide) (by decide) rfl (by omega) (by decide) d_Mo_two_197 ?_
  rw [show (va_up (va_up I 38 (upd (I 38) cp (nI u))) 35 (upd ((va_up I 38 (upd (I 38) cp (nI u))) 35) cp 2)) 37 cp = I 37 cp from ((congrFun (va_up_n (by decide)) cp).trans (((congrFun (va_up_n (by decide)) cp).trans (rfl))))]
  refine gh_callV C V hl.1 m_Mo_enter l_Mo_299 (c_Mo_enter l E _ _ a ad _ _ _ p1 (nI u) (I 37 cp) φ (w + 1) X.1 (by omega) h48 hφ h49 h45 (by omega)) rfl X.1.1 gc_Mo ⟨by first | decide | omega | (dsimp only; omega), by first | decide | omega | (dsimp only; omega)⟩ ⟨by first | decide | omega | (dsimp only; omega), by first | decide | omega | (dsimp only; omega)⟩ (Nat.le_of_ble_eq_true rfl) rfl d_Mo_two_198 (fun r z9 H locs hp V1 => ?_)
  obtain ⟨rfl, hp0, hp1⟩ := hp
  have V := V1
  by_cases hz : φ = 0
  · have X := X.then (hp0 hz)
    refine W.eq (g2 := F0 m 201 ls []) rfl ?_
    refine lv_goto (tgt := 281) hx hb d_Mo_two_201 (by decide) ?_
    refine gh_retv hAe C V hr hlocks d_Mo_two_281 (by first | decide | omega | (dsimp only; omega)) (by first | decide | omega | (dsimp only; omega)) ?_
    exact ⟨rfl, _, _, X, (((mct.rf.cell 38 (nI u) (by decide) (by decide)).cell 35 2 (by decide) (by decide)).s (k := 49) (by omega)).mono (fun _ z => z.elim), oc_e0 hz rfl⟩
  · have X := X.then (hp1 (by omega))
    refine W.eq (g2 := F0 m 201 ls []) rfl ?_
    refine lv_goto (tgt := 281) hx hb d_Mo_two_201 (by decide) ?_
    refine gh_retv hAe C V hr hlocks d_Mo_two_281 (by first | decide | omega | (dsimp only; omega)) (by first | decide | omega | (dsimp only; omega)) ?_
    exact ⟨rfl, _, _, X, ((mct.rf.cell 38 (nI u) (by decide) (by decide)).cell 35 2 (by decide) (by decide)).enter (by omega), oc_e1 (by omega) rfl⟩
set_option maxHeartbeats 4000000 in
set_option maxRecDepth 100000 in
theorem c_Mo_two_11_11t (l : Launch) (E : gh_E) (sz : Nat) (f : gh_F) (a : Nat) (ad : Nat → Nat) (S : Nat → Int32) (I : Nat → Nat → Int32) (J : Nat → Nat → Int64) (w cp φ : Nat) (p0 : Nat) (p1 : Nat) (b0 nv pb np : Nat) (Z : vt) (u : Nat) (hX : mo_R E f a ad S I J) (h45 : S 45 = nI (w + 1)) (hw : w < 14) (hc60 : cp < 60) (h48 : S 48 = nI φ) (hφ : φ < 1000) (h49 : ¬ 0 ≤ S 49) (hp0c : I 34 (3 * cp) = nI p0) (hq0 : cp < p0 ∧ p0 < 60) (hp1c : I 34 (3 * cp + 1) = nI p1) (hq1 : cp < p1 ∧ p1 < 60) (hS46 : S 46 = 1) (hph : I 35 cp = 1) (hS47 : S 47 = nI u) (hu : mw I J b0 nv pb np u Z) (hc : mc I J b0 nv pb np) (htr : vt_tr Z = true) : gh_M l y_Mo_two b_Mo_two 4 none E sz [.ref a, .int (nI cp), .int 11] f { frames := 7, cells := 0, slots := 0, locals := 200 } (fun r g => r = none ∧ ∃ S2 I2, mo_X E f g a ad S2 I2 J ∧ mct cp w (fun j => j = p1) (va_up (va_up (fun k => I k cp) 38 (nI u)) 35 2) S I S2 I2 ∧ oc_e w p1 (I 36 cp) (I 37 cp) φ S S2 I2) := by
  refine gh_open (by decide) (Nat.le_of_ble_eq_true rfl) ?_
  intro p e s m args below meth c A ls hAe C V hr hlocks hname hl
  have hx := C.1
  have hb := C.2.1
  have hl : lv_has ls 4 [(0, .ref a), (1, .int (nI cp)), (2, .int 11)] := hl
  have X : mo_X E f f a ad S I J := ⟨hX, gh_fr.rf⟩
  refine lv_aload_n hx hb d_Mo_two_0 rfl (lv_at hl 0 rfl) ?_
  refine mo_getA C V X 34 (by decide) (by decide) f_Mo_85 rfl d_Mo_two_1 ?_
  refine lv_iconst (v := 3) hx hb d_Mo_two_4 (by decide) ?_
  refine lv_iload_n hx hb d_Mo_two_5 rfl (lv_at hl 1 rfl) ?_
  refine gn_imul (a := 3) (b := cp) hx hb d_Mo_two_6 ?_
  refine mo_ild (k := 34) (i := 3 * cp) (n := 180) C V X (by decide) (by decide) rfl (by omega) (by decide) d_Mo_two_7 ?_
  rw [show I 34 (3 * cp) = nI p0 from hp0c]
  refine lv_istore_n hx hb d_Mo_two_8 rfl hl (by decide) rfl (fun ls hl => ?_)
  have hl : lv_has ls 4 [(3, .int (nI p0)), (0, .ref a), (1, .int (nI cp)), (2, .int 11)] := hl
  refine lv_aload_n hx hb d_Mo_two_9 rfl (lv_at hl 1 rfl) ?_
  refine mo_getS (v := 1) C V X 46 (by decide) (by decide) (by first | rfl | exact hS46) f_Mo_277 rfl d_Mo_two_10 ?_
  refine lv_iconst (v := 3) hx hb d_Mo_two_13 (by decide) ?_
  refine lv_icmp_ne (tgt := 25) hx hb d_Mo_two_14 (by decide) (fun c1 => ?_) (fun c1 => absurd c1 (by decide))
  refine lv_aload_n hx hb d_Mo_two_25 rfl (lv_at hl 1 rfl) ?_
  refine mo_getS (v := 1) C V X 46 (by decide) (by decide) (by first | rfl | exact hS46) f_Mo_277 rfl d_Mo_two_26 ?_
  refine lv_if_ne (tgt := 68) hx hb d_Mo_two_29 (by decide) (fun c2 => ?_) (fun c2 => absurd c2 (by decide))
  refine lv_aload_n hx hb d_Mo_two_68 rfl (lv_at hl 1 rfl) ?_
  refine mo_getS (v := 1) C V X 46 (by decide) (by decide) (by first | rfl | exact hS46) f_Mo_277 rfl d_Mo_two_69 ?_
  refine lv_if_ne (tgt := 99) hx hb d_Mo_two_72 (by decide) (fun c3 => ?_) (fun c3 => absurd c3 (by decide))
  refine lv_aload_n hx hb d_Mo_two_99 rfl (lv_at hl 1 rfl) ?_
  refine mo_getS (v := 1) C V X 46 (by decide) (by decide) (by first | rfl | exact hS46) f_Mo_277 rfl d_Mo_two_100 ?_
  refine lv_iconst (v := 1) hx hb d_Mo_two_103 (by decide) ?_
  refine lv_icmp_ne (tgt := 204) hx hb d_Mo_two_104 (by decide) (fun c4 => absurd (by decide) c4) (fun c4 => ?_)
  refine lv_aload_n hx hb d_Mo_two_107 rfl (lv_at hl 1 rfl) ?_
  refine mo_getA C V X 35 (by decide) (by decide) f_Mo_88 rfl d_Mo_two_108 ?_
  refine lv_iload_n hx hb d_Mo_two_111 rfl (lv_at hl 2 rfl) ?_
  refine mo_ild (k := 35) (i := cp) (n := 60) C V X (by decide) (by decide) rfl (by omega) (by decide) d_Mo_two_112 ?_
  rw [show I 35 cp = 1 from hph]
  refine lv_iconst (v := 1) hx hb d_Mo_two_113 (by decide) ?_
  refine lv_icmp_ne (tgt := 204) hx hb d_Mo_two_114 (by decide) (fun c5 => absurd (by decide) c5) (fun c5 => ?_)
  refine lv_aload_n hx hb d_Mo_two_117 rfl (lv_at hl 1 rfl) ?_
  refine mo_getA C V X 38 (by decide) (by decide) f_Mo_97 rfl d_Mo_two_118 ?_
  refine lv_iload_n hx hb d_Mo_two_121 rfl (lv_at hl 2 rfl) ?_
  refine lv_aload_n hx hb d_Mo_two_122 rfl (lv_at hl 1 rfl) ?_
  refine mo_getS (v := nI u) C V X 47 (by decide) (by decide) (by first | rfl | exact hS47) f_Mo_286 rfl d_Mo_two_123 ?_
  refine mo_ist (k := 38) (i := cp) (n := 60) C V X (by decide) (by decide) rfl (by omega) (by decide) d_Mo_two_126 (fun f1 H locs V1 X1 => ?_)
  clear V X
  have V := V1
  have X := X1
  clear V1 X1
  refine lv_aload_n hx hb d_Mo_two_127 rfl (lv_at hl 1 rfl) ?_
  refine mo_getA C V X 35 (by decide) (by decide) f_Mo_88 rfl d_Mo_two_128 ?_
  refine lv_iload_n hx hb d_Mo_two_131 rfl (lv_at hl 2 rfl) ?_
  refine lv_iload_n hx hb d_Mo_two_132 rfl (lv_at hl 3 rfl) ?_
  refine lv_bipush (v := 11) hx hb d_Mo_two_133 (by decide) ?_
  refine lv_icmp_ne (tgt := 153) hx hb d_Mo_two_135 (by decide) (fun c6 => absurd (by decide) c6) (fun c6 => ?_)
  refine lv_aload_n hx hb d_Mo_two_138 rfl (lv_at hl 1 rfl) ?_
  refine lv_aload_n hx hb d_Mo_two_139 rfl (lv_at hl 1 rfl) ?_
  refine mo_getS (v := nI u) C V X 47 (by decide) (by decide) (by first | rfl | exact hS47) f_Mo_286 rfl d_Mo_two_140 ?_
  refine gh_callV C V hl.1 m_Mo_isTrue l_Mo_351 (c_Mo_isTrue l E _ _ a ad _ _ _ u X.1 hu.lt) rfl X.1.1 gc_Mo ⟨by first | decide | omega | (dsimp only; omega), by first | decide | omega | (dsimp only; omega)⟩ ⟨by first | decide | omega | (dsimp only; omega), by first | decide | omega | (dsimp only; omega)⟩ (Nat.le_of_ble_eq_true rfl) rfl d_Mo_two_143 (fun r z9 H locs hp V1 => ?_)
  rw [show (va_up I 38 (upd (I 38) cp (nI u))) 1 u = I 1 u from ((congrFun (va_up_n (by decide)) u).trans (rfl)), mw_true hu hc, htr] at hp
  obtain ⟨rfl, he9⟩ := hp
  rw [he9] at V1
  have V := V1
  refine W.eq (g2 := F0 m 146 ls [.int (gh_bi true), .int (nI cp), .ref (ad 35)]) rfl ?_
  refine lv_if_ne (tgt := 153) hx hb d_Mo_two_146 (by decide) (fun c7 => ?_) (fun c7 => absurd c7 (by decide))
  refine lv_iconst (v := 2) hx hb d_Mo_two_153 (by decide) ?_
  refine mo_ist (k := 35) (i := cp) (n := 60) C V X (by decide) (by decide) rfl (by omega) (by decide) d_Mo_two_154 (fun f1 H locs V1 X1 => ?_)
  clear V X
  have V := V1
  have X := X1
  clear V1 X1
  refine lv_aload_n hx hb d_Mo_two_155 rfl (lv_at hl 1 rfl) ?_
  refine lv_aload_n hx hb d_Mo_two_156 rfl (lv_at hl 1 rfl) ?_
  refine mo_getA C V X 34 (by decide) (by decide) f_Mo_85 rfl d_Mo_two_157 ?_
  refine lv_iconst (v := 3) hx hb d_Mo_two_160 (by decide) ?_
  refine lv_iload_n hx hb d_Mo_two_161 rfl (lv_at hl 2 rfl) ?_
  refine gn_imul (a := 3) (b := cp) hx hb d_Mo_two_162 ?_
  refine lv_aload_n hx hb d_Mo_two_163 rfl (lv_at hl 1 rfl) ?_
  refine mo_getA C V X 35 (by decide) (by decide) f_Mo_88 rfl d_Mo_two_164 ?_
  refine lv_iload_n hx hb d_Mo_two_167 rfl (lv_at hl 2 rfl) ?_
  refine mo_ild (k := 35) (i := cp) (n := 60) C V X (by decide) (by decide) rfl (by omega) (by decide) d_Mo_two_168 ?_
  rw [show (va_up (va_up I 38 (upd (I 38) cp (nI u))) 35 (upd ((va_up I 38 (upd (I 38) cp (nI u))) 35) cp 2)) 35 cp = 2 from ((congrFun va_up_s cp).trans (by simp [upd]))]
  refine gn_iadd (a := 3 * cp) (b := 2) hx hb d_Mo_two_169 ?_
  refine lv_iconst (v := 1) hx hb d_Mo_two_170 (by decide) ?_
  refine gn_isub (a := (3 * cp) + 2) (b := 1) hx hb (by omega) d_Mo_two_171 ?_
  refine mo_ild (k := 34) (i := ((3 * cp) + 2) - 1) (n := 180) C V X (by decide) (by decide) rfl (by omega) (by decide) d_Mo_two_172 ?_
  rw [show (va_up (va_up I 38 (upd (I 38) cp (nI u))) 35 (upd ((va_up I 38 (upd (I 38) cp (nI u))) 35) cp 2)) 34 (((3 * cp) + 2) - 1) = nI p1 from ((congrFun (va_up_n (by decide)) (((3 * cp) + 2) - 1)).trans (((congrFun (va_up_n (by decide)) (((3 * cp) + 2) - 1)).trans ((by rw [show 3 * cp + 2 - 1 = 3 * cp + 1 by omega]; exact hp1c)))))]
  refine lv_iload_n hx hb d_Mo_two_173 rfl (lv_at hl 3 rfl) ?_
  refine lv_bipush (v := 8) hx hb d_Mo_two_174 (by decide) ?_
  refine lv_icmp_ne (tgt := 186) hx hb d_Mo_two_176 (by decide) (fun c8 => ?_) (fun c8 => absurd c8 (by decide))
  refine lv_aload_n hx hb d_Mo_two_186 rfl (lv_at hl 1 rfl) ?_
  refine mo_getA C V X 36 (by decide) (by decide) f_Mo_91 rfl d_Mo_two_187 ?_
  refine lv_iload_n hx hb d_Mo_two_190 rfl (lv_at hl 2 rfl) ?_
  refine mo_ild (k := 36) (i := cp) (n := 60) C V X (by decide) (by decide) rfl (by omega) (by decide) d_Mo_two_191 ?_
  rw [show (va_up (va_up I 38 (upd (I 38) cp (nI u))) 35 (upd ((va_up I 38 (upd (I 38) cp (nI u))) 35) cp 2)) 36 cp = I 36 cp from ((congrFun (va_up_n (by decide)) cp).trans (((congrFun (va_up_n (by decide)) cp).trans (rfl))))]
  refine lv_aload_n hx hb d_Mo_two_192 rfl (lv_at hl 1 rfl) ?_
  refine mo_getA C V X 37 (by decide) (by decide) f_Mo_94 rfl d_Mo_two_193 ?_
  refine lv_iload_n hx hb d_Mo_two_196 rfl (lv_at hl 2 rfl) ?_
  refine mo_ild (k := 37) (i := cp) (n := 60) C V X (by decide) (by decide) rfl (by omega) (by decide) d_Mo_two_197 ?_
  rw [show (va_up (va_up I 38 (upd (I 38) cp (nI u))) 35 (upd ((va_up I 38 (upd (I 38) cp (nI u))) 35) cp 2)) 37 cp = I 37 cp from ((congrFun (va_up_n (by decide)) cp).trans (((congrFun (va_up_n (by decide)) cp).trans (rfl))))]
  refine gh_callV C V hl.1 m_Mo_enter l_Mo_299 (c_Mo_enter l E _ _ a ad _ _ _ p1 (I 36 cp) (I 37 cp) φ (w + 1) X.1 (by omega) h48 hφ h49 h45 (by omega)) rfl X.1.1 gc_Mo ⟨by first | decide | omega | (dsimp only; omega), by first | decide | omega | (dsimp only; omega)⟩ ⟨by first | decide | omega | (dsimp only; omega), by first | decide | omega | (dsimp only; omega)⟩ (Nat.le_of_ble_eq_true rfl) rfl d_Mo_two_198 (fun r z9 H locs hp V1 => ?_)
  obtain ⟨rfl, hp0, hp1⟩ := hp
  have V := V1
  by_cases hz : φ = 0
  · have X := X.then (hp0 hz)
    refine W.eq (g2 := F0 m 201 ls []) rfl ?_
    refine lv_goto (tgt := 281) hx hb d_Mo_two_201 (by decide) ?_
    refine gh_retv hAe C V hr hlocks d_Mo_two_281 (by first | decide | omega | (dsimp only; omega)) (by first | decide | omega | (dsimp only; omega)) ?_
    exact ⟨rfl, _, _, X, (((mct.rf.cell 38 (nI u) (by decide) (by decide)).cell 35 2 (by decide) (by decide)).s (k := 49) (by omega)).mono (fun _ z => z.elim), oc_e0 hz rfl⟩
  · have X := X.then (hp1 (by omega))
    refine W.eq (g2 := F0 m 201 ls []) rfl ?_
    refine lv_goto (tgt := 281) hx hb d_Mo_two_201 (by decide) ?_
    refine gh_retv hAe C V hr hlocks d_Mo_two_281 (by first | decide | omega | (dsimp only; omega)) (by first | decide | omega | (dsimp only; omega)) ?_
    exact ⟨rfl, _, _, X, ((mct.rf.cell 38 (nI u) (by decide) (by decide)).cell 35 2 (by decide) (by decide)).enter (by omega), oc_e1 (by omega) rfl⟩
set_option maxHeartbeats 4000000 in
set_option maxRecDepth 100000 in
theorem c_Mo_two_11_11f (l : Launch) (E : gh_E) (sz : Nat) (f : gh_F) (a : Nat) (ad : Nat → Nat) (S : Nat → Int32) (I : Nat → Nat → Int32) (J : Nat → Nat → Int64) (w cp φ : Nat) (p0 : Nat) (p1 : Nat) (p2 : Nat) (b0 nv pb np : Nat) (Z : vt) (u : Nat) (hX : mo_R E f a ad S I J) (h45 : S 45 = nI (w + 1)) (hw : w < 14) (hc60 : cp < 60) (h48 : S 48 = nI φ) (hφ : φ < 1000) (h49 : ¬ 0 ≤ S 49) (hp0c : I 34 (3 * cp) = nI p0) (hq0 : cp < p0 ∧ p0 < 60) (hp1c : I 34 (3 * cp + 1) = nI p1) (hq1 : cp < p1 ∧ p1 < 60) (hp2c : I 34 (3 * cp + 2) = nI p2) (hq2 : cp < p2 ∧ p2 < 60) (hS46 : S 46 = 1) (hph : I 35 cp = 1) (hS47 : S 47 = nI u) (hu : mw I J b0 nv pb np u Z) (hc : mc I J b0 nv pb np) (htr : vt_tr Z = false) : gh_M l y_Mo_two b_Mo_two 4 none E sz [.ref a, .int (nI cp), .int 11] f { frames := 7, cells := 0, slots := 0, locals := 200 } (fun r g => r = none ∧ ∃ S2 I2, mo_X E f g a ad S2 I2 J ∧ mct cp w (fun j => j = p2) (va_up (va_up (fun k => I k cp) 38 (nI u)) 35 3) S I S2 I2 ∧ oc_e w p2 (I 36 cp) (I 37 cp) φ S S2 I2) := by
  refine gh_open (by decide) (Nat.le_of_ble_eq_true rfl) ?_
  intro p e s m args below meth c A ls hAe C V hr hlocks hname hl
  have hx := C.1
  have hb := C.2.1
  have hl : lv_has ls 4 [(0, .ref a), (1, .int (nI cp)), (2, .int 11)] := hl
  have X : mo_X E f f a ad S I J := ⟨hX, gh_fr.rf⟩
  refine lv_aload_n hx hb d_Mo_two_0 rfl (lv_at hl 0 rfl) ?_
  refine mo_getA C V X 34 (by decide) (by decide) f_Mo_85 rfl d_Mo_two_1 ?_
  refine lv_iconst (v := 3) hx hb d_Mo_two_4 (by decide) ?_
  refine lv_iload_n hx hb d_Mo_two_5 rfl (lv_at hl 1 rfl) ?_
  refine gn_imul (a := 3) (b := cp) hx hb d_Mo_two_6 ?_
  refine mo_ild (k := 34) (i := 3 * cp) (n := 180) C V X (by decide) (by decide) rfl (by omega) (by decide) d_Mo_two_7 ?_
  rw [show I 34 (3 * cp) = nI p0 from hp0c]
  refine lv_istore_n hx hb d_Mo_two_8 rfl hl (by decide) rfl (fun ls hl => ?_)
  have hl : lv_has ls 4 [(3, .int (nI p0)), (0, .ref a), (1, .int (nI cp)), (2, .int 11)] := hl
  refine lv_aload_n hx hb d_Mo_two_9 rfl (lv_at hl 1 rfl) ?_
  refine mo_getS (v := 1) C V X 46 (by decide) (by decide) (by first | rfl | exact hS46) f_Mo_277 rfl d_Mo_two_10 ?_
  refine lv_iconst (v := 3) hx hb d_Mo_two_13 (by decide) ?_
  refine lv_icmp_ne (tgt := 25) hx hb d_Mo_two_14 (by decide) (fun c1 => ?_) (fun c1 => absurd c1 (by decide))
  refine lv_aload_n hx hb d_Mo_two_25 rfl (lv_at hl 1 rfl) ?_
  refine mo_getS (v := 1) C V X 46 (by decide) (by decide) (by first | rfl | exact hS46) f_Mo_277 rfl d_Mo_two_26 ?_
  refine lv_if_ne (tgt := 68) hx hb d_Mo_two_29 (by decide) (fun c2 => ?_) (fun c2 => absurd c2 (by decide))
  refine lv_aload_n hx hb d_Mo_two_68 rfl (lv_at hl 1 rfl) ?_
  refine mo_getS (v := 1) C V X 46 (by decide) (by decide) (by first | rfl | exact hS46) f_Mo_277 rfl d_Mo_two_69 ?_
  refine lv_if_ne (tgt := 99) hx hb d_Mo_two_72 (by decide) (fun c3 => ?_) (fun c3 => absurd c3 (by decide))
  refine lv_aload_n hx hb d_Mo_two_99 rfl (lv_at hl 1 rfl) ?_
  refine mo_getS (v := 1) C V X 46 (by decide) (by decide) (by first | rfl | exact hS46) f_Mo_277 rfl d_Mo_two_100 ?_
  refine lv_iconst (v := 1) hx hb d_Mo_two_103 (by decide) ?_
  refine lv_icmp_ne (tgt := 204) hx hb d_Mo_two_104 (by decide) (fun c4 => absurd (by decide) c4) (fun c4 => ?_)
  refine lv_aload_n hx hb d_Mo_two_107 rfl (lv_at hl 1 rfl) ?_
  refine mo_getA C V X 35 (by decide) (by decide) f_Mo_88 rfl d_Mo_two_108 ?_
  refine lv_iload_n hx hb d_Mo_two_111 rfl (lv_at hl 2 rfl) ?_
  refine mo_ild (k := 35) (i := cp) (n := 60) C V X (by decide) (by decide) rfl (by omega) (by decide) d_Mo_two_112 ?_
  rw [show I 35 cp = 1 from hph]
  refine lv_iconst (v := 1) hx hb d_Mo_two_113 (by decide) ?_
  refine lv_icmp_ne (tgt := 204) hx hb d_Mo_two_114 (by decide) (fun c5 => absurd (by decide) c5) (fun c5 => ?_)
  refine lv_aload_n hx hb d_Mo_two_117 rfl (lv_at hl 1 rfl) ?_
  refine mo_getA C V X 38 (by decide) (by decide) f_Mo_97 rfl d_Mo_two_118 ?_
  refine lv_iload_n hx hb d_Mo_two_121 rfl (lv_at hl 2 rfl) ?_
  refine lv_aload_n hx hb d_Mo_two_122 rfl (lv_at hl 1 rfl) ?_
  refine mo_getS (v := nI u) C V X 47 (by decide) (by decide) (by first | rfl | exact hS47) f_Mo_286 rfl d_Mo_two_123 ?_
  refine mo_ist (k := 38) (i := cp) (n := 60) C V X (by decide) (by decide) rfl (by omega) (by decide) d_Mo_two_126 (fun f1 H locs V1 X1 => ?_)
  clear V X
  have V := V1
  have X := X1
  clear V1 X1
  refine lv_aload_n hx hb d_Mo_two_127 rfl (lv_at hl 1 rfl) ?_
  refine mo_getA C V X 35 (by decide) (by decide) f_Mo_88 rfl d_Mo_two_128 ?_
  refine lv_iload_n hx hb d_Mo_two_131 rfl (lv_at hl 2 rfl) ?_
  refine lv_iload_n hx hb d_Mo_two_132 rfl (lv_at hl 3 rfl) ?_
  refine lv_bipush (v := 11) hx hb d_Mo_two_133 (by decide) ?_
  refine lv_icmp_ne (tgt := 153) hx hb d_Mo_two_135 (by decide) (fun c6 => absurd (by decide) c6) (fun c6 => ?_)
  refine lv_aload_n hx hb d_Mo_two_138 rfl (lv_at hl 1 rfl) ?_
  refine lv_aload_n hx hb d_Mo_two_139 rfl (lv_at hl 1 rfl) ?_
  refine mo_getS (v := nI u) C V X 47 (by decide) (by decide) (by first | rfl | exact hS47) f_Mo_286 rfl d_Mo_two_140 ?_
  refine gh_callV C V hl.1 m_Mo_isTrue l_Mo_351 (c_Mo_isTrue l E _ _ a ad _ _ _ u X.1 hu.lt) rfl X.1.1 gc_Mo ⟨by first | decide | omega | (dsimp only; omega), by first | decide | omega | (dsimp only; omega)⟩ ⟨by first | decide | omega | (dsimp only; omega), by first | decide | omega | (dsimp only; omega)⟩ (Nat.le_of_ble_eq_true rfl) rfl d_Mo_two_143 (fun r z9 H locs hp V1 => ?_)
  rw [show (va_up I 38 (upd (I 38) cp (nI u))) 1 u = I 1 u from ((congrFun (va_up_n (by decide)) u).trans (rfl)), mw_true hu hc, htr] at hp
  obtain ⟨rfl, he9⟩ := hp
  rw [he9] at V1
  have V := V1
  refine W.eq (g2 := F0 m 146 ls [.int (gh_bi false), .int (nI cp), .ref (ad 35)]) rfl ?_
  refine lv_if_ne (tgt := 153) hx hb d_Mo_two_146 (by decide) (fun c7 => absurd (by decide) c7) (fun c7 => ?_)
  refine lv_iconst (v := 3) hx hb d_Mo_two_149 (by decide) ?_
  refine lv_goto (tgt := 154) hx hb d_Mo_two_150 (by decide) ?_
  refine mo_ist (k := 35) (i := cp) (n := 60) C V X (by decide) (by decide) rfl (by omega) (by decide) d_Mo_two_154 (fun f1 H locs V1 X1 => ?_)
  clear V X
  have V := V1
  have X := X1
  clear V1 X1
  refine lv_aload_n hx hb d_Mo_two_155 rfl (lv_at hl 1 rfl) ?_
  refine lv_aload_n hx hb d_Mo_two_156 rfl (lv_at hl 1 rfl) ?_
  refine mo_getA C V X 34 (by decide) (by decide) f_Mo_85 rfl d_Mo_two_157 ?_
  refine lv_iconst (v := 3) hx hb d_Mo_two_160 (by decide) ?_
  refine lv_iload_n hx hb d_Mo_two_161 rfl (lv_at hl 2 rfl) ?_
  refine gn_imul (a := 3) (b := cp) hx hb d_Mo_two_162 ?_
  refine lv_aload_n hx hb d_Mo_two_163 rfl (lv_at hl 1 rfl) ?_
  refine mo_getA C V X 35 (by decide) (by decide) f_Mo_88 rfl d_Mo_two_164 ?_
  refine lv_iload_n hx hb d_Mo_two_167 rfl (lv_at hl 2 rfl) ?_
  refine mo_ild (k := 35) (i := cp) (n := 60) C V X (by decide) (by decide) rfl (by omega) (by decide) d_Mo_two_168 ?_
  rw [show (va_up (va_up I 38 (upd (I 38) cp (nI u))) 35 (upd ((va_up I 38 (upd (I 38) cp (nI u))) 35) cp 3)) 35 cp = 3 from ((congrFun va_up_s cp).trans (by simp [upd]))]
  refine gn_iadd (a := 3 * cp) (b := 3) hx hb d_Mo_two_169 ?_
  refine lv_iconst (v := 1) hx hb d_Mo_two_170 (by decide) ?_
  refine gn_isub (a := (3 * cp) + 3) (b := 1) hx hb (by omega) d_Mo_two_171 ?_
  refine mo_ild (k := 34) (i := ((3 * cp) + 3) - 1) (n := 180) C V X (by decide) (by decide) rfl (by omega) (by decide) d_Mo_two_172 ?_
  rw [show (va_up (va_up I 38 (upd (I 38) cp (nI u))) 35 (upd ((va_up I 38 (upd (I 38) cp (nI u))) 35) cp 3)) 34 (((3 * cp) + 3) - 1) = nI p2 from ((congrFun (va_up_n (by decide)) (((3 * cp) + 3) - 1)).trans (((congrFun (va_up_n (by decide)) (((3 * cp) + 3) - 1)).trans ((by rw [show 3 * cp + 3 - 1 = 3 * cp + 2 by omega]; exact hp2c)))))]
  refine lv_iload_n hx hb d_Mo_two_173 rfl (lv_at hl 3 rfl) ?_
  refine lv_bipush (v := 8) hx hb d_Mo_two_174 (by decide) ?_
  refine lv_icmp_ne (tgt := 186) hx hb d_Mo_two_176 (by decide) (fun c8 => ?_) (fun c8 => absurd c8 (by decide))
  refine lv_aload_n hx hb d_Mo_two_186 rfl (lv_at hl 1 rfl) ?_
  refine mo_getA C V X 36 (by decide) (by decide) f_Mo_91 rfl d_Mo_two_187 ?_
  refine lv_iload_n hx hb d_Mo_two_190 rfl (lv_at hl 2 rfl) ?_
  refine mo_ild (k := 36) (i := cp) (n := 60) C V X (by decide) (by decide) rfl (by omega) (by decide) d_Mo_two_191 ?_
  rw [show (va_up (va_up I 38 (upd (I 38) cp (nI u))) 35 (upd ((va_up I 38 (upd (I 38) cp (nI u))) 35) cp 3)) 36 cp = I 36 cp from ((congrFun (va_up_n (by decide)) cp).trans (((congrFun (va_up_n (by decide)) cp).trans (rfl))))]
  refine lv_aload_n hx hb d_Mo_two_192 rfl (lv_at hl 1 rfl) ?_
  refine mo_getA C V X 37 (by decide) (by decide) f_Mo_94 rfl d_Mo_two_193 ?_
  refine lv_iload_n hx hb d_Mo_two_196 rfl (lv_at hl 2 rfl) ?_
  refine mo_ild (k := 37) (i := cp) (n := 60) C V X (by decide) (by decide) rfl (by omega) (by decide) d_Mo_two_197 ?_
  rw [show (va_up (va_up I 38 (upd (I 38) cp (nI u))) 35 (upd ((va_up I 38 (upd (I 38) cp (nI u))) 35) cp 3)) 37 cp = I 37 cp from ((congrFun (va_up_n (by decide)) cp).trans (((congrFun (va_up_n (by decide)) cp).trans (rfl))))]
  refine gh_callV C V hl.1 m_Mo_enter l_Mo_299 (c_Mo_enter l E _ _ a ad _ _ _ p2 (I 36 cp) (I 37 cp) φ (w + 1) X.1 (by omega) h48 hφ h49 h45 (by omega)) rfl X.1.1 gc_Mo ⟨by first | decide | omega | (dsimp only; omega), by first | decide | omega | (dsimp only; omega)⟩ ⟨by first | decide | omega | (dsimp only; omega), by first | decide | omega | (dsimp only; omega)⟩ (Nat.le_of_ble_eq_true rfl) rfl d_Mo_two_198 (fun r z9 H locs hp V1 => ?_)
  obtain ⟨rfl, hp0, hp1⟩ := hp
  have V := V1
  by_cases hz : φ = 0
  · have X := X.then (hp0 hz)
    refine W.eq (g2 := F0 m 201 ls []) rfl ?_
    refine lv_goto (tgt := 281) hx hb d_Mo_two_201 (by decide) ?_
    refine gh_retv hAe C V hr hlocks d_Mo_two_281 (by first | decide | omega | (dsimp only; omega)) (by first | decide | omega | (dsimp only; omega)) ?_
    exact ⟨rfl, _, _, X, (((mct.rf.cell 38 (nI u) (by decide) (by decide)).cell 35 3 (by decide) (by decide)).s (k := 49) (by omega)).mono (fun _ z => z.elim), oc_e0 hz rfl⟩
  · have X := X.then (hp1 (by omega))
    refine W.eq (g2 := F0 m 201 ls []) rfl ?_
    refine lv_goto (tgt := 281) hx hb d_Mo_two_201 (by decide) ?_
    refine gh_retv hAe C V hr hlocks d_Mo_two_281 (by first | decide | omega | (dsimp only; omega)) (by first | decide | omega | (dsimp only; omega)) ?_
    exact ⟨rfl, _, _, X, ((mct.rf.cell 38 (nI u) (by decide) (by decide)).cell 35 3 (by decide) (by decide)).enter (by omega), oc_e1 (by omega) rfl⟩
set_option maxHeartbeats 4000000 in
set_option maxRecDepth 100000 in
theorem c_Mo_two_11_x (l : Launch) (E : gh_E) (sz : Nat) (f : gh_F) (a : Nat) (ad : Nat → Nat) (S : Nat → Int32) (I : Nat → Nat → Int32) (J : Nat → Nat → Int64) (w cp φ : Nat) (p0 : Nat) (p1 : Nat) (kk : Nat) (u : Nat) (hX : mo_R E f a ad S I J) (h45 : S 45 = nI (w + 1)) (hw : w < 14) (hc60 : cp < 60) (h48 : S 48 = nI φ) (hφ : φ < 1000) (h49 : ¬ 0 ≤ S 49) (hp0c : I 34 (3 * cp) = nI p0) (hq0 : cp < p0 ∧ p0 < 60) (hp1c : I 34 (3 * cp + 1) = nI p1) (hq1 : cp < p1 ∧ p1 < 60) (hS46 : S 46 = 1) (hph : I 35 cp = 1) (hS47 : S 47 = nI u) (hkk : 22 ≤ kk ∧ kk ≤ 26) : gh_M l y_Mo_two b_Mo_two 4 none E sz [.ref a, .int (nI cp), .int (nI kk)] f { frames := 7, cells := 0, slots := 0, locals := 200 } (fun r g => r = none ∧ ∃ S2 I2, mo_X E f g a ad S2 I2 J ∧ mct cp w (fun j => j = p1) (va_up (va_up (fun k => I k cp) 38 (nI u)) 35 2) S I S2 I2 ∧ oc_e w p1 (I 36 cp) (I 37 cp) φ S S2 I2) := by
  refine gh_open (by decide) (Nat.le_of_ble_eq_true rfl) ?_
  intro p e s m args below meth c A ls hAe C V hr hlocks hname hl
  have hx := C.1
  have hb := C.2.1
  have hl : lv_has ls 4 [(0, .ref a), (1, .int (nI cp)), (2, .int (nI kk))] := hl
  have X : mo_X E f f a ad S I J := ⟨hX, gh_fr.rf⟩
  refine lv_aload_n hx hb d_Mo_two_0 rfl (lv_at hl 0 rfl) ?_
  refine mo_getA C V X 34 (by decide) (by decide) f_Mo_85 rfl d_Mo_two_1 ?_
  refine lv_iconst (v := 3) hx hb d_Mo_two_4 (by decide) ?_
  refine lv_iload_n hx hb d_Mo_two_5 rfl (lv_at hl 1 rfl) ?_
  refine gn_imul (a := 3) (b := cp) hx hb d_Mo_two_6 ?_
  refine mo_ild (k := 34) (i := 3 * cp) (n := 180) C V X (by decide) (by decide) rfl (by omega) (by decide) d_Mo_two_7 ?_
  rw [show I 34 (3 * cp) = nI p0 from hp0c]
  refine lv_istore_n hx hb d_Mo_two_8 rfl hl (by decide) rfl (fun ls hl => ?_)
  have hl : lv_has ls 4 [(3, .int (nI p0)), (0, .ref a), (1, .int (nI cp)), (2, .int (nI kk))] := hl
  refine lv_aload_n hx hb d_Mo_two_9 rfl (lv_at hl 1 rfl) ?_
  refine mo_getS (v := 1) C V X 46 (by decide) (by decide) (by first | rfl | exact hS46) f_Mo_277 rfl d_Mo_two_10 ?_
  refine lv_iconst (v := 3) hx hb d_Mo_two_13 (by decide) ?_
  refine lv_icmp_ne (tgt := 25) hx hb d_Mo_two_14 (by decide) (fun c1 => ?_) (fun c1 => absurd c1 (by decide))
  refine lv_aload_n hx hb d_Mo_two_25 rfl (lv_at hl 1 rfl) ?_
  refine mo_getS (v := 1) C V X 46 (by decide) (by decide) (by first | rfl | exact hS46) f_Mo_277 rfl d_Mo_two_26 ?_
  refine lv_if_ne (tgt := 68) hx hb d_Mo_two_29 (by decide) (fun c2 => ?_) (fun c2 => absurd c2 (by decide))
  refine lv_aload_n hx hb d_Mo_two_68 rfl (lv_at hl 1 rfl) ?_
  refine mo_getS (v := 1) C V X 46 (by decide) (by decide) (by first | rfl | exact hS46) f_Mo_277 rfl d_Mo_two_69 ?_
  refine lv_if_ne (tgt := 99) hx hb d_Mo_two_72 (by decide) (fun c3 => ?_) (fun c3 => absurd c3 (by decide))
  refine lv_aload_n hx hb d_Mo_two_99 rfl (lv_at hl 1 rfl) ?_
  refine mo_getS (v := 1) C V X 46 (by decide) (by decide) (by first | rfl | exact hS46) f_Mo_277 rfl d_Mo_two_100 ?_
  refine lv_iconst (v := 1) hx hb d_Mo_two_103 (by decide) ?_
  refine lv_icmp_ne (tgt := 204) hx hb d_Mo_two_104 (by decide) (fun c4 => absurd (by decide) c4) (fun c4 => ?_)
  refine lv_aload_n hx hb d_Mo_two_107 rfl (lv_at hl 1 rfl) ?_
  refine mo_getA C V X 35 (by decide) (by decide) f_Mo_88 rfl d_Mo_two_108 ?_
  refine lv_iload_n hx hb d_Mo_two_111 rfl (lv_at hl 2 rfl) ?_
  refine mo_ild (k := 35) (i := cp) (n := 60) C V X (by decide) (by decide) rfl (by omega) (by decide) d_Mo_two_112 ?_
  rw [show I 35 cp = 1 from hph]
  refine lv_iconst (v := 1) hx hb d_Mo_two_113 (by decide) ?_
  refine lv_icmp_ne (tgt := 204) hx hb d_Mo_two_114 (by decide) (fun c5 => absurd (by decide) c5) (fun c5 => ?_)
  refine lv_aload_n hx hb d_Mo_two_117 rfl (lv_at hl 1 rfl) ?_
  refine mo_getA C V X 38 (by decide) (by decide) f_Mo_97 rfl d_Mo_two_118 ?_
  refine lv_iload_n hx hb d_Mo_two_121 rfl (lv_at hl 2 rfl) ?_
  refine lv_aload_n hx hb d_Mo_two_122 rfl (lv_at hl 1 rfl) ?_
  refine mo_getS (v := nI u) C V X 47 (by decide) (by decide) (by first | rfl | exact hS47) f_Mo_286 rfl d_Mo_two_123 ?_
  refine mo_ist (k := 38) (i := cp) (n := 60) C V X (by decide) (by decide) rfl (by omega) (by decide) d_Mo_two_126 (fun f1 H locs V1 X1 => ?_)
  clear V X
  have V := V1
  have X := X1
  clear V1 X1
  refine lv_aload_n hx hb d_Mo_two_127 rfl (lv_at hl 1 rfl) ?_
  refine mo_getA C V X 35 (by decide) (by decide) f_Mo_88 rfl d_Mo_two_128 ?_
  refine lv_iload_n hx hb d_Mo_two_131 rfl (lv_at hl 2 rfl) ?_
  refine lv_iload_n hx hb d_Mo_two_132 rfl (lv_at hl 3 rfl) ?_
  refine lv_bipush (v := 11) hx hb d_Mo_two_133 (by decide) ?_
  refine lv_icmp_ne (tgt := 153) hx hb d_Mo_two_135 (by decide) (fun c6 => ?_) (fun c6 => absurd c6 (nI_nem (y := 11) (by omega) (by decide) (by omega)))
  refine lv_iconst (v := 2) hx hb d_Mo_two_153 (by decide) ?_
  refine mo_ist (k := 35) (i := cp) (n := 60) C V X (by decide) (by decide) rfl (by omega) (by decide) d_Mo_two_154 (fun f1 H locs V1 X1 => ?_)
  clear V X
  have V := V1
  have X := X1
  clear V1 X1
  refine lv_aload_n hx hb d_Mo_two_155 rfl (lv_at hl 1 rfl) ?_
  refine lv_aload_n hx hb d_Mo_two_156 rfl (lv_at hl 1 rfl) ?_
  refine mo_getA C V X 34 (by decide) (by decide) f_Mo_85 rfl d_Mo_two_157 ?_
  refine lv_iconst (v := 3) hx hb d_Mo_two_160 (by decide) ?_
  refine lv_iload_n hx hb d_Mo_two_161 rfl (lv_at hl 2 rfl) ?_
  refine gn_imul (a := 3) (b := cp) hx hb d_Mo_two_162 ?_
  refine lv_aload_n hx hb d_Mo_two_163 rfl (lv_at hl 1 rfl) ?_
  refine mo_getA C V X 35 (by decide) (by decide) f_Mo_88 rfl d_Mo_two_164 ?_
  refine lv_iload_n hx hb d_Mo_two_167 rfl (lv_at hl 2 rfl) ?_
  refine mo_ild (k := 35) (i := cp) (n := 60) C V X (by decide) (by decide) rfl (by omega) (by decide) d_Mo_two_168 ?_
  rw [show (va_up (va_up I 38 (upd (I 38) cp (nI u))) 35 (upd ((va_up I 38 (upd (I 38) cp (nI u))) 35) cp 2)) 35 cp = 2 from ((congrFun va_up_s cp).trans (by simp [upd]))]
  refine gn_iadd (a := 3 * cp) (b := 2) hx hb d_Mo_two_169 ?_
  refine lv_iconst (v := 1) hx hb d_Mo_two_170 (by decide) ?_
  refine gn_isub (a := (3 * cp) + 2) (b := 1) hx hb (by omega) d_Mo_two_171 ?_
  refine mo_ild (k := 34) (i := ((3 * cp) + 2) - 1) (n := 180) C V X (by decide) (by decide) rfl (by omega) (by decide) d_Mo_two_172 ?_
  rw [show (va_up (va_up I 38 (upd (I 38) cp (nI u))) 35 (upd ((va_up I 38 (upd (I 38) cp (nI u))) 35) cp 2)) 34 (((3 * cp) + 2) - 1) = nI p1 from ((congrFun (va_up_n (by decide)) (((3 * cp) + 2) - 1)).trans (((congrFun (va_up_n (by decide)) (((3 * cp) + 2) - 1)).trans ((by rw [show 3 * cp + 2 - 1 = 3 * cp + 1 by omega]; exact hp1c)))))]
  refine lv_iload_n hx hb d_Mo_two_173 rfl (lv_at hl 3 rfl) ?_
  refine lv_bipush (v := 8) hx hb d_Mo_two_174 (by decide) ?_
  refine lv_icmp_ne (tgt := 186) hx hb d_Mo_two_176 (by decide) (fun c7 => ?_) (fun c7 => absurd c7 (nI_nem (y := 8) (by omega) (by decide) (by omega)))
  refine lv_aload_n hx hb d_Mo_two_186 rfl (lv_at hl 1 rfl) ?_
  refine mo_getA C V X 36 (by decide) (by decide) f_Mo_91 rfl d_Mo_two_187 ?_
  refine lv_iload_n hx hb d_Mo_two_190 rfl (lv_at hl 2 rfl) ?_
  refine mo_ild (k := 36) (i := cp) (n := 60) C V X (by decide) (by decide) rfl (by omega) (by decide) d_Mo_two_191 ?_
  rw [show (va_up (va_up I 38 (upd (I 38) cp (nI u))) 35 (upd ((va_up I 38 (upd (I 38) cp (nI u))) 35) cp 2)) 36 cp = I 36 cp from ((congrFun (va_up_n (by decide)) cp).trans (((congrFun (va_up_n (by decide)) cp).trans (rfl))))]
  refine lv_aload_n hx hb d_Mo_two_192 rfl (lv_at hl 1 rfl) ?_
  refine mo_getA C V X 37 (by decide) (by decide) f_Mo_94 rfl d_Mo_two_193 ?_
  refine lv_iload_n hx hb d_Mo_two_196 rfl (lv_at hl 2 rfl) ?_
  refine mo_ild (k := 37) (i := cp) (n := 60) C V X (by decide) (by decide) rfl (by omega) (by decide) d_Mo_two_197 ?_
  rw [show (va_up (va_up I 38 (upd (I 38) cp (nI u))) 35 (upd ((va_up I 38 (upd (I 38) cp (nI u))) 35) cp 2)) 37 cp = I 37 cp from ((congrFun (va_up_n (by decide)) cp).trans (((congrFun (va_up_n (by decide)) cp).trans (rfl))))]
  refine gh_callV C V hl.1 m_Mo_enter l_Mo_299 (c_Mo_enter l E _ _ a ad _ _ _ p1 (I 36 cp) (I 37 cp) φ (w + 1) X.1 (by omega) h48 hφ h49 h45 (by omega)) rfl X.1.1 gc_Mo ⟨by first | decide | omega | (dsimp only; omega), by first | decide | omega | (dsimp only; omega)⟩ ⟨by first | decide | omega | (dsimp only; omega), by first | decide | omega | (dsimp only; omega)⟩ (Nat.le_of_ble_eq_true rfl) rfl d_Mo_two_198 (fun r z9 H locs hp V1 => ?_)
  obtain ⟨rfl, hp0, hp1⟩ := hp
  have V := V1
  by_cases hz : φ = 0
  · have X := X.then (hp0 hz)
    refine W.eq (g2 := F0 m 201 ls []) rfl ?_
    refine lv_goto (tgt := 281) hx hb d_Mo_two_201 (by decide) ?_
    refine gh_retv hAe C V hr hlocks d_Mo_two_281 (by first | decide | omega | (dsimp only; omega)) (by first | decide | omega | (dsimp only; omega)) ?_
    exact ⟨rfl, _, _, X, (((mct.rf.cell 38 (nI u) (by decide) (by decide)).cell 35 2 (by decide) (by decide)).s (k := 49) (by omega)).mono (fun _ z => z.elim), oc_e0 hz rfl⟩
  · have X := X.then (hp1 (by omega))
    refine W.eq (g2 := F0 m 201 ls []) rfl ?_
    refine lv_goto (tgt := 281) hx hb d_Mo_two_201 (by decide) ?_
    refine gh_retv hAe C V hr hlocks d_Mo_two_281 (by first | decide | omega | (dsimp only; omega)) (by first | decide | omega | (dsimp only; omega)) ?_
    exact ⟨rfl, _, _, X, ((mct.rf.cell 38 (nI u) (by decide) (by decide)).cell 35 2 (by decide) (by decide)).enter (by omega), oc_e1 (by omega) rfl⟩
set_option maxHeartbeats 4000000 in
set_option maxRecDepth 100000 in
theorem c_Mo_two_12 (l : Launch) (E : gh_E) (sz : Nat) (f : gh_F) (a : Nat) (ad : Nat → Nat) (S : Nat → Int32) (I : Nat → Nat → Int32) (J : Nat → Nat → Int64) (w cp φ : Nat) (p0 : Nat) (kk : Nat) (u : Nat) (hX : mo_R E f a ad S I J) (h45 : S 45 = nI (w + 1)) (hw : w < 14) (hc60 : cp < 60) (hp0c : I 34 (3 * cp) = nI p0) (hq0 : cp < p0 ∧ p0 < 60) (hS46 : S 46 = 1) (hph : I 35 cp = 2) (hS47 : S 47 = nI u) (hkk : kk < 22) : gh_M l y_Mo_two b_Mo_two 4 none E sz [.ref a, .int (nI cp), .int (nI kk)] f { frames := 7, cells := 0, slots := 0, locals := 200 } (fun r g => r = none ∧ ∃ S2 I2, mo_X E f g a ad S2 I2 J ∧ mct cp w (fun _ => False) (fun k => I k cp) S I S2 I2 ∧ oc_t w 1 (nI u) S S2) := by
  refine gh_open (by decide) (Nat.le_of_ble_eq_true rfl) ?_
  intro p e s m args below meth c A ls hAe C V hr hlocks hname hl
  have hx := C.1
  have hb := C.2.1
  have hl : lv_has ls 4 [(0, .ref a), (1, .int (nI cp)), (2, .int (nI kk))] := hl
  have X : mo_X E f f a ad S I J := ⟨hX, gh_fr.rf⟩
  refine lv_aload_n hx hb d_Mo_two_0 rfl (lv_at hl 0 rfl) ?_
  refine mo_getA C V X 34 (by decide) (by decide) f_Mo_85 rfl d_Mo_two_1 ?_
  refine lv_iconst (v := 3) hx hb d_Mo_two_4 (by decide) ?_
  refine lv_iload_n hx hb d_Mo_two_5 rfl (lv_at hl 1 rfl) ?_
  refine gn_imul (a := 3) (b := cp) hx hb d_Mo_two_6 ?_
  refine mo_ild (k := 34) (i := 3 * cp) (n := 180) C V X (by decide) (by decide) rfl (by omega) (by decide) d_Mo_two_7 ?_
  rw [show I 34 (3 * cp) = nI p0 from hp0c]
  refine lv_istore_n hx hb d_Mo_two_8 rfl hl (by decide) rfl (fun ls hl => ?_)
  have hl : lv_has ls 4 [(3, .int (nI p0)), (0, .ref a), (1, .int (nI cp)), (2, .int (nI kk))] := hl
  refine lv_aload_n hx hb d_Mo_two_9 rfl (lv_at hl 1 rfl) ?_
  refine mo_getS (v := 1) C V X 46 (by decide) (by decide) (by first | rfl | exact hS46) f_Mo_277 rfl d_Mo_two_10 ?_
  refine lv_iconst (v := 3) hx hb d_Mo_two_13 (by decide) ?_
  refine lv_icmp_ne (tgt := 25) hx hb d_Mo_two_14 (by decide) (fun c1 => ?_) (fun c1 => absurd c1 (by decide))
  refine lv_aload_n hx hb d_Mo_two_25 rfl (lv_at hl 1 rfl) ?_
  refine mo_getS (v := 1) C V X 46 (by decide) (by decide) (by first | rfl | exact hS46) f_Mo_277 rfl d_Mo_two_26 ?_
  refine lv_if_ne (tgt := 68) hx hb d_Mo_two_29 (by decide) (fun c2 => ?_) (fun c2 => absurd c2 (by decide))
  refine lv_aload_n hx hb d_Mo_two_68 rfl (lv_at hl 1 rfl) ?_
  refine mo_getS (v := 1) C V X 46 (by decide) (by decide) (by first | rfl | exact hS46) f_Mo_277 rfl d_Mo_two_69 ?_
  refine lv_if_ne (tgt := 99) hx hb d_Mo_two_72 (by decide) (fun c3 => ?_) (fun c3 => absurd c3 (by decide))
  refine lv_aload_n hx hb d_Mo_two_99 rfl (lv_at hl 1 rfl) ?_
  refine mo_getS (v := 1) C V X 46 (by decide) (by decide) (by first | rfl | exact hS46) f_Mo_277 rfl d_Mo_two_100 ?_
  refine lv_iconst (v := 1) hx hb d_Mo_two_103 (by decide) ?_
  refine lv_icmp_ne (tgt := 204) hx hb d_Mo_two_104 (by decide) (fun c4 => absurd (by decide) c4) (fun c4 => ?_)
  refine lv_aload_n hx hb d_Mo_two_107 rfl (lv_at hl 1 rfl) ?_
  refine mo_getA C V X 35 (by decide) (by decide) f_Mo_88 rfl d_Mo_two_108 ?_
  refine lv_iload_n hx hb d_Mo_two_111 rfl (lv_at hl 2 rfl) ?_
  refine mo_ild (k := 35) (i := cp) (n := 60) C V X (by decide) (by decide) rfl (by omega) (by decide) d_Mo_two_112 ?_
  rw [show I 35 cp = 2 from hph]
  refine lv_iconst (v := 1) hx hb d_Mo_two_113 (by decide) ?_
  refine lv_icmp_ne (tgt := 204) hx hb d_Mo_two_114 (by decide) (fun c5 => ?_) (fun c5 => absurd c5 (by decide))
  refine lv_aload_n hx hb d_Mo_two_204 rfl (lv_at hl 1 rfl) ?_
  refine mo_getS (v := 1) C V X 46 (by decide) (by decide) (by first | rfl | exact hS46) f_Mo_277 rfl d_Mo_two_205 ?_
  refine lv_iconst (v := 1) hx hb d_Mo_two_208 (by decide) ?_
  refine lv_icmp_ne (tgt := 251) hx hb d_Mo_two_209 (by decide) (fun c6 => absurd (by decide) c6) (fun c6 => ?_)
  refine lv_iload_n hx hb d_Mo_two_212 rfl (lv_at hl 3 rfl) ?_
  refine lv_bipush (v := 22) hx hb d_Mo_two_213 (by decide) ?_
  refine lv_icmp_ge (tgt := 226) hx hb d_Mo_two_215 (by decide) (fun c7 => absurd c7 (nI_ge (b := 22) (by omega) (by decide))) (fun c7 => ?_)
  refine lv_aload_n hx hb d_Mo_two_218 rfl (lv_at hl 1 rfl) ?_
  refine lv_iconst (v := 1) hx hb d_Mo_two_219 (by decide) ?_
  refine gh_callV C V hl.1 m_Mo_tell l_Mo_289 (c_Mo_tell l E _ _ a ad _ _ _ 1 w X.1 h45) rfl X.1.1 gc_Mo ⟨by first | decide | omega | (dsimp only; omega), by first | decide | omega | (dsimp only; omega)⟩ ⟨by first | decide | omega | (dsimp only; omega), by first | decide | omega | (dsimp only; omega)⟩ (Nat.le_of_ble_eq_true rfl) rfl d_Mo_two_220 (fun r z9 H locs hp V1 => ?_)
  obtain ⟨rfl, X2⟩ := hp
  have X := X.then X2
  have V := V1
  refine W.eq (g2 := F0 m 223 ls []) rfl ?_
  refine lv_goto (tgt := 281) hx hb d_Mo_two_223 (by decide) ?_
  refine gh_retv hAe C V hr hlocks d_Mo_two_281 (by first | decide | omega | (dsimp only; omega)) (by first | decide | omega | (dsimp only; omega)) ?_
  exact ⟨rfl, _, _, X, mct.rf.tell, oc_t1 hS47 rfl rfl⟩
set_option maxHeartbeats 4000000 in
set_option maxRecDepth 100000 in
theorem c_Mo_two_22 (l : Launch) (E : gh_E) (sz : Nat) (f : gh_F) (a : Nat) (ad : Nat → Nat) (S : Nat → Int32) (I : Nat → Nat → Int32) (J : Nat → Nat → Int64) (w cp φ : Nat) (p0 : Nat) (kk : Nat) (hX : mo_R E f a ad S I J) (h45 : S 45 = nI (w + 1)) (hw : w < 14) (hc60 : cp < 60) (hp0c : I 34 (3 * cp) = nI p0) (hq0 : cp < p0 ∧ p0 < 60) (hS46 : S 46 = 2) (hph : I 35 cp = 2) : gh_M l y_Mo_two b_Mo_two 4 none E sz [.ref a, .int (nI cp), .int (nI kk)] f { frames := 7, cells := 0, slots := 0, locals := 200 } (fun r g => r = none ∧ ∃ S2 I2, mo_X E f g a ad S2 I2 J ∧ mct cp w (fun _ => False) (va_up (fun k => I k cp) 35 1) S I S2 I2 ∧ oc_a w p0 S S2 I2) := by
  refine gh_open (by decide) (Nat.le_of_ble_eq_true rfl) ?_
  intro p e s m args below meth c A ls hAe C V hr hlocks hname hl
  have hx := C.1
  have hb := C.2.1
  have hl : lv_has ls 4 [(0, .ref a), (1, .int (nI cp)), (2, .int (nI kk))] := hl
  have X : mo_X E f f a ad S I J := ⟨hX, gh_fr.rf⟩
  refine lv_aload_n hx hb d_Mo_two_0 rfl (lv_at hl 0 rfl) ?_
  refine mo_getA C V X 34 (by decide) (by decide) f_Mo_85 rfl d_Mo_two_1 ?_
  refine lv_iconst (v := 3) hx hb d_Mo_two_4 (by decide) ?_
  refine lv_iload_n hx hb d_Mo_two_5 rfl (lv_at hl 1 rfl) ?_
  refine gn_imul (a := 3) (b := cp) hx hb d_Mo_two_6 ?_
  refine mo_ild (k := 34) (i := 3 * cp) (n := 180) C V X (by decide) (by decide) rfl (by omega) (by decide) d_Mo_two_7 ?_
  rw [show I 34 (3 * cp) = nI p0 from hp0c]
  refine lv_istore_n hx hb d_Mo_two_8 rfl hl (by decide) rfl (fun ls hl => ?_)
  have hl : lv_has ls 4 [(3, .int (nI p0)), (0, .ref a), (1, .int (nI cp)), (2, .int (nI kk))] := hl
  refine lv_aload_n hx hb d_Mo_two_9 rfl (lv_at hl 1 rfl) ?_
  refine mo_getS (v := 2) C V X 46 (by decide) (by decide) (by first | rfl | exact hS46) f_Mo_277 rfl d_Mo_two_10 ?_
  refine lv_iconst (v := 3) hx hb d_Mo_two_13 (by decide) ?_
  refine lv_icmp_ne (tgt := 25) hx hb d_Mo_two_14 (by decide) (fun c1 => ?_) (fun c1 => absurd c1 (by decide))
  refine lv_aload_n hx hb d_Mo_two_25 rfl (lv_at hl 1 rfl) ?_
  refine mo_getS (v := 2) C V X 46 (by decide) (by decide) (by first | rfl | exact hS46) f_Mo_277 rfl d_Mo_two_26 ?_
  refine lv_if_ne (tgt := 68) hx hb d_Mo_two_29 (by decide) (fun c2 => ?_) (fun c2 => absurd c2 (by decide))
  refine lv_aload_n hx hb d_Mo_two_68 rfl (lv_at hl 1 rfl) ?_
  refine mo_getS (v := 2) C V X 46 (by decide) (by decide) (by first | rfl | exact hS46) f_Mo_277 rfl d_Mo_two_69 ?_
  refine lv_if_ne (tgt := 99) hx hb d_Mo_two_72 (by decide) (fun c3 => ?_) (fun c3 => absurd c3 (by decide))
  refine lv_aload_n hx hb d_Mo_two_99 rfl (lv_at hl 1 rfl) ?_
  refine mo_getS (v := 2) C V X 46 (by decide) (by decide) (by first | rfl | exact hS46) f_Mo_277 rfl d_Mo_two_100 ?_
  refine lv_iconst (v := 1) hx hb d_Mo_two_103 (by decide) ?_
  refine lv_icmp_ne (tgt := 204) hx hb d_Mo_two_104 (by decide) (fun c4 => ?_) (fun c4 => absurd c4 (by decide))
  refine lv_aload_n hx hb d_Mo_two_204 rfl (lv_at hl 1 rfl) ?_
  refine mo_getS (v := 2) C V X 46 (by decide) (by decide) (by first | rfl | exact hS46) f_Mo_277 rfl d_Mo_two_205 ?_
  refine lv_iconst (v := 1) hx hb d_Mo_two_208 (by decide) ?_
  refine lv_icmp_ne (tgt := 251) hx hb d_Mo_two_209 (by decide) (fun c5 => ?_) (fun c5 => absurd c5 (by decide))
  refine lv_aload_n hx hb d_Mo_two_251 rfl (lv_at hl 1 rfl) ?_
  refine mo_getA C V X 35 (by decide) (by decide) f_Mo_88 rfl d_Mo_two_252 ?_
  refine lv_iload_n hx hb d_Mo_two_255 rfl (lv_at hl 2 rfl) ?_
  refine mo_ild (k := 35) (i := cp) (n := 60) C V X (by decide) (by decide) rfl (by omega) (by decide) d_Mo_two_256 ?_
  rw [show I 35 cp = 2 from hph]
  refine lv_iconst (v := 1) hx hb d_Mo_two_257 (by decide) ?_
  refine lv_icmp_ne (tgt := 269) hx hb d_Mo_two_258 (by decide) (fun c6 => ?_) (fun c6 => absurd c6 (by decide))
  refine lv_aload_n hx hb d_Mo_two_269 rfl (lv_at hl 1 rfl) ?_
  refine mo_getA C V X 35 (by decide) (by decide) f_Mo_88 rfl d_Mo_two_270 ?_
  refine lv_iload_n hx hb d_Mo_two_273 rfl (lv_at hl 2 rfl) ?_
  refine lv_iconst (v := 1) hx hb d_Mo_two_274 (by decide) ?_
  refine mo_ist (k := 35) (i := cp) (n := 60) C V X (by decide) (by decide) rfl (by omega) (by decide) d_Mo_two_275 (fun f1 H locs V1 X1 => ?_)
  clear V X
  have V := V1
  have X := X1
  clear V1 X1
  refine lv_aload_n hx hb d_Mo_two_276 rfl (lv_at hl 1 rfl) ?_
  refine lv_iload_n hx hb d_Mo_two_277 rfl (lv_at hl 0 rfl) ?_
  refine gh_callV C V hl.1 m_Mo_ask l_Mo_283 (c_Mo_ask l E _ _ a ad _ _ _ (nI p0) (w + 1) X.1 h45 (by omega)) rfl X.1.1 gc_Mo ⟨by first | decide | omega | (dsimp only; omega), by first | decide | omega | (dsimp only; omega)⟩ ⟨by first | decide | omega | (dsimp only; omega), by first | decide | omega | (dsimp only; omega)⟩ (Nat.le_of_ble_eq_true rfl) rfl d_Mo_two_278 (fun r z9 H locs hp V1 => ?_)
  obtain ⟨rfl, X2⟩ := hp
  have X := X.then X2
  have V := V1
  refine W.eq (g2 := F0 m 281 ls []) rfl ?_
  refine gh_retv hAe C V hr hlocks d_Mo_two_281 (by first | decide | omega | (dsimp only; omega)) (by first | decide | omega | (dsimp only; omega)) ?_
  exact ⟨rfl, _, _, X, (mct.rf.cell 35 1 (by decide) (by decide)).ask, oc_a1 rfl rfl⟩
set_option maxHeartbeats 4000000 in
set_option maxRecDepth 100000 in
theorem c_Mo_two_13 (l : Launch) (E : gh_E) (sz : Nat) (f : gh_F) (a : Nat) (ad : Nat → Nat) (S : Nat → Int32) (I : Nat → Nat → Int32) (J : Nat → Nat → Int64) (w cp φ : Nat) (p0 : Nat) (kk : Nat) (u : Nat) (hX : mo_R E f a ad S I J) (h45 : S 45 = nI (w + 1)) (hw : w < 14) (hc60 : cp < 60) (hp0c : I 34 (3 * cp) = nI p0) (hq0 : cp < p0 ∧ p0 < 60) (hS46 : S 46 = 1) (hph : I 35 cp = 3) (hS47 : S 47 = nI u) (hkk : kk < 22) : gh_M l y_Mo_two b_Mo_two 4 none E sz [.ref a, .int (nI cp), .int (nI kk)] f { frames := 7, cells := 0, slots := 0, locals := 200 } (fun r g => r = none ∧ ∃ S2 I2, mo_X E f g a ad S2 I2 J ∧ mct cp w (fun _ => False) (fun k => I k cp) S I S2 I2 ∧ oc_t w 1 (nI u) S S2) := by
  refine gh_open (by decide) (Nat.le_of_ble_eq_true rfl) ?_
  intro p e s m args below meth c A ls hAe C V hr hlocks hname hl
  have hx := C.1
  have hb := C.2.1
  have hl : lv_has ls 4 [(0, .ref a), (1, .int (nI cp)), (2, .int (nI kk))] := hl
  have X : mo_X E f f a ad S I J := ⟨hX, gh_fr.rf⟩
  refine lv_aload_n hx hb d_Mo_two_0 rfl (lv_at hl 0 rfl) ?_
  refine mo_getA C V X 34 (by decide) (by decide) f_Mo_85 rfl d_Mo_two_1 ?_
  refine lv_iconst (v := 3) hx hb d_Mo_two_4 (by decide) ?_
  refine lv_iload_n hx hb d_Mo_two_5 rfl (lv_at hl 1 rfl) ?_
  refine gn_imul (a := 3) (b := cp) hx hb d_Mo_two_6 ?_
  refine mo_ild (k := 34) (i := 3 * cp) (n := 180) C V X (by decide) (by decide) rfl (by omega) (by decide) d_Mo_two_7 ?_
  rw [show I 34 (3 * cp) = nI p0 from hp0c]
  refine lv_istore_n hx hb d_Mo_two_8 rfl hl (by decide) rfl (fun ls hl => ?_)
  have hl : lv_has ls 4 [(3, .int (nI p0)), (0, .ref a), (1, .int (nI cp)), (2, .int (nI kk))] := hl
  refine lv_aload_n hx hb d_Mo_two_9 rfl (lv_at hl 1 rfl) ?_
  refine mo_getS (v := 1) C V X 46 (by decide) (by decide) (by first | rfl | exact hS46) f_Mo_277 rfl d_Mo_two_10 ?_
  refine lv_iconst (v := 3) hx hb d_Mo_two_13 (by decide) ?_
  refine lv_icmp_ne (tgt := 25) hx hb d_Mo_two_14 (by decide) (fun c1 => ?_) (fun c1 => absurd c1 (by decide))
  refine lv_aload_n hx hb d_Mo_two_25 rfl (lv_at hl 1 rfl) ?_
  refine mo_getS (v := 1) C V X 46 (by decide) (by decide) (by first | rfl | exact hS46) f_Mo_277 rfl d_Mo_two_26 ?_
  refine lv_if_ne (tgt := 68) hx hb d_Mo_two_29 (by decide) (fun c2 => ?_) (fun c2 => absurd c2 (by decide))
  refine lv_aload_n hx hb d_Mo_two_68 rfl (lv_at hl 1 rfl) ?_
  refine mo_getS (v := 1) C V X 46 (by decide) (by decide) (by first | rfl | exact hS46) f_Mo_277 rfl d_Mo_two_69 ?_
  refine lv_if_ne (tgt := 99) hx hb d_Mo_two_72 (by decide) (fun c3 => ?_) (fun c3 => absurd c3 (by decide))
  refine lv_aload_n hx hb d_Mo_two_99 rfl (lv_at hl 1 rfl) ?_
  refine mo_getS (v := 1) C V X 46 (by decide) (by decide) (by first | rfl | exact hS46) f_Mo_277 rfl d_Mo_two_100 ?_
  refine lv_iconst (v := 1) hx hb d_Mo_two_103 (by decide) ?_
  refine lv_icmp_ne (tgt := 204) hx hb d_Mo_two_104 (by decide) (fun c4 => absurd (by decide) c4) (fun c4 => ?_)
  refine lv_aload_n hx hb d_Mo_two_107 rfl (lv_at hl 1 rfl) ?_
  refine mo_getA C V X 35 (by decide) (by decide) f_Mo_88 rfl d_Mo_two_108 ?_
  refine lv_iload_n hx hb d_Mo_two_111 rfl (lv_at hl 2 rfl) ?_
  refine mo_ild (k := 35) (i := cp) (n := 60) C V X (by decide) (by decide) rfl (by omega) (by decide) d_Mo_two_112 ?_
  rw [show I 35 cp = 3 from hph]
  refine lv_iconst (v := 1) hx hb d_Mo_two_113 (by decide) ?_
  refine lv_icmp_ne (tgt := 204) hx hb d_Mo_two_114 (by decide) (fun c5 => ?_) (fun c5 => absurd c5 (by decide))
  refine lv_aload_n hx hb d_Mo_two_204 rfl (lv_at hl 1 rfl) ?_
  refine mo_getS (v := 1) C V X 46 (by decide) (by decide) (by first | rfl | exact hS46) f_Mo_277 rfl d_Mo_two_205 ?_
  refine lv_iconst (v := 1) hx hb d_Mo_two_208 (by decide) ?_
  refine lv_icmp_ne (tgt := 251) hx hb d_Mo_two_209 (by decide) (fun c6 => absurd (by decide) c6) (fun c6 => ?_)
  refine lv_iload_n hx hb d_Mo_two_212 rfl (lv_at hl 3 rfl) ?_
  refine lv_bipush (v := 22) hx hb d_Mo_two_213 (by decide) ?_
  refine lv_icmp_ge (tgt := 226) hx hb d_Mo_two_215 (by decide) (fun c7 => absurd c7 (nI_ge (b := 22) (by omega) (by decide))) (fun c7 => ?_)
  refine lv_aload_n hx hb d_Mo_two_218 rfl (lv_at hl 1 rfl) ?_
  refine lv_iconst (v := 1) hx hb d_Mo_two_219 (by decide) ?_
  refine gh_callV C V hl.1 m_Mo_tell l_Mo_289 (c_Mo_tell l E _ _ a ad _ _ _ 1 w X.1 h45) rfl X.1.1 gc_Mo ⟨by first | decide | omega | (dsimp only; omega), by first | decide | omega | (dsimp only; omega)⟩ ⟨by first | decide | omega | (dsimp only; omega), by first | decide | omega | (dsimp only; omega)⟩ (Nat.le_of_ble_eq_true rfl) rfl d_Mo_two_220 (fun r z9 H locs hp V1 => ?_)
  obtain ⟨rfl, X2⟩ := hp
  have X := X.then X2
  have V := V1
  refine W.eq (g2 := F0 m 223 ls []) rfl ?_
  refine lv_goto (tgt := 281) hx hb d_Mo_two_223 (by decide) ?_
  refine gh_retv hAe C V hr hlocks d_Mo_two_281 (by first | decide | omega | (dsimp only; omega)) (by first | decide | omega | (dsimp only; omega)) ?_
  exact ⟨rfl, _, _, X, mct.rf.tell, oc_t1 hS47 rfl rfl⟩
set_option maxHeartbeats 4000000 in
set_option maxRecDepth 100000 in
theorem c_Mo_two_23 (l : Launch) (E : gh_E) (sz : Nat) (f : gh_F) (a : Nat) (ad : Nat → Nat) (S : Nat → Int32) (I : Nat → Nat → Int32) (J : Nat → Nat → Int64) (w cp φ : Nat) (p0 : Nat) (kk : Nat) (hX : mo_R E f a ad S I J) (h45 : S 45 = nI (w + 1)) (hw : w < 14) (hc60 : cp < 60) (hp0c : I 34 (3 * cp) = nI p0) (hq0 : cp < p0 ∧ p0 < 60) (hS46 : S 46 = 2) (hph : I 35 cp = 3) : gh_M l y_Mo_two b_Mo_two 4 none E sz [.ref a, .int (nI cp), .int (nI kk)] f { frames := 7, cells := 0, slots := 0, locals := 200 } (fun r g => r = none ∧ ∃ S2 I2, mo_X E f g a ad S2 I2 J ∧ mct cp w (fun _ => False) (va_up (fun k => I k cp) 35 1) S I S2 I2 ∧ oc_a w p0 S S2 I2) := by
  refine gh_open (by decide) (Nat.le_of_ble_eq_true rfl) ?_
  intro p e s m args below meth c A ls hAe C V hr hlocks hname hl
  have hx := C.1
  have hb := C.2.1
  have hl : lv_has ls 4 [(0, .ref a), (1, .int (nI cp)), (2, .int (nI kk))] := hl
  have X : mo_X E f f a ad S I J := ⟨hX, gh_fr.rf⟩
  refine lv_aload_n hx hb d_Mo_two_0 rfl (lv_at hl 0 rfl) ?_
  refine mo_getA C V X 34 (by decide) (by decide) f_Mo_85 rfl d_Mo_two_1 ?_
  refine lv_iconst (v := 3) hx hb d_Mo_two_4 (by decide) ?_
  refine lv_iload_n hx hb d_Mo_two_5 rfl (lv_at hl 1 rfl) ?_
  refine gn_imul (a := 3) (b := cp) hx hb d_Mo_two_6 ?_
  refine mo_ild (k := 34) (i := 3 * cp) (n := 180) C V X (by decide) (by decide) rfl (by omega) (by decide) d_Mo_two_7 ?_
  rw [show I 34 (3 * cp) = nI p0 from hp0c]
  refine lv_istore_n hx hb d_Mo_two_8 rfl hl (by decide) rfl (fun ls hl => ?_)
  have hl : lv_has ls 4 [(3, .int (nI p0)), (0, .ref a), (1, .int (nI cp)), (2, .int (nI kk))] := hl
  refine lv_aload_n hx hb d_Mo_two_9 rfl (lv_at hl 1 rfl) ?_
  refine mo_getS (v := 2) C V X 46 (by decide) (by decide) (by first | rfl | exact hS46) f_Mo_277 rfl d_Mo_two_10 ?_
  refine lv_iconst (v := 3) hx hb d_Mo_two_13 (by decide) ?_
  refine lv_icmp_ne (tgt := 25) hx hb d_Mo_two_14 (by decide) (fun c1 => ?_) (fun c1 => absurd c1 (by decide))
  refine lv_aload_n hx hb d_Mo_two_25 rfl (lv_at hl 1 rfl) ?_
  refine mo_getS (v := 2) C V X 46 (by decide) (by decide) (by first | rfl | exact hS46) f_Mo_277 rfl d_Mo_two_26 ?_
  refine lv_if_ne (tgt := 68) hx hb d_Mo_two_29 (by decide) (fun c2 => ?_) (fun c2 => absurd c2 (by decide))
  refine lv_aload_n hx hb d_Mo_two_68 rfl (lv_at hl 1 rfl) ?_
  refine mo_getS (v := 2) C V X 46 (by decide) (by decide) (by first | rfl | exact hS46) f_Mo_277 rfl d_Mo_two_69 ?_
  refine lv_if_ne (tgt := 99) hx hb d_Mo_two_72 (by decide) (fun c3 => ?_) (fun c3 => absurd c3 (by decide))
  refine lv_aload_n hx hb d_Mo_two_99 rfl (lv_at hl 1 rfl) ?_
  refine mo_getS (v := 2) C V X 46 (by decide) (by decide) (by first | rfl | exact hS46) f_Mo_277 rfl d_Mo_two_100 ?_
  refine lv_iconst (v := 1) hx hb d_Mo_two_103 (by decide) ?_
  refine lv_icmp_ne (tgt := 204) hx hb d_Mo_two_104 (by decide) (fun c4 => ?_) (fun c4 => absurd c4 (by decide))
  refine lv_aload_n hx hb d_Mo_two_204 rfl (lv_at hl 1 rfl) ?_
  refine mo_getS (v := 2) C V X 46 (by decide) (by decide) (by first | rfl | exact hS46) f_Mo_277 rfl d_Mo_two_205 ?_
  refine lv_iconst (v := 1) hx hb d_Mo_two_208 (by decide) ?_
  refine lv_icmp_ne (tgt := 251) hx hb d_Mo_two_209 (by decide) (fun c5 => ?_) (fun c5 => absurd c5 (by decide))
  refine lv_aload_n hx hb d_Mo_two_251 rfl (lv_at hl 1 rfl) ?_
  refine mo_getA C V X 35 (by decide) (by decide) f_Mo_88 rfl d_Mo_two_252 ?_
  refine lv_iload_n hx hb d_Mo_two_255 rfl (lv_at hl 2 rfl) ?_
  refine mo_ild (k := 35) (i := cp) (n := 60) C V X (by decide) (by decide) rfl (by omega) (by decide) d_Mo_two_256 ?_
  rw [show I 35 cp = 3 from hph]
  refine lv_iconst (v := 1) hx hb d_Mo_two_257 (by decide) ?_
  refine lv_icmp_ne (tgt := 269) hx hb d_Mo_two_258 (by decide) (fun c6 => ?_) (fun c6 => absurd c6 (by decide))
  refine lv_aload_n hx hb d_Mo_two_269 rfl (lv_at hl 1 rfl) ?_
  refine mo_getA C V X 35 (by decide) (by decide) f_Mo_88 rfl d_Mo_two_270 ?_
  refine lv_iload_n hx hb d_Mo_two_273 rfl (lv_at hl 2 rfl) ?_
  refine lv_iconst (v := 1) hx hb d_Mo_two_274 (by decide) ?_
  refine mo_ist (k := 35) (i := cp) (n := 60) C V X (by decide) (by decide) rfl (by omega) (by decide) d_Mo_two_275 (fun f1 H locs V1 X1 => ?_)
  clear V X
  have V := V1
  have X := X1
  clear V1 X1
  refine lv_aload_n hx hb d_Mo_two_276 rfl (lv_at hl 1 rfl) ?_
  refine lv_iload_n hx hb d_Mo_two_277 rfl (lv_at hl 0 rfl) ?_
  refine gh_callV C V hl.1 m_Mo_ask l_Mo_283 (c_Mo_ask l E _ _ a ad _ _ _ (nI p0) (w + 1) X.1 h45 (by omega)) rfl X.1.1 gc_Mo ⟨by first | decide | omega | (dsimp only; omega), by first | decide | omega | (dsimp only; omega)⟩ ⟨by first | decide | omega | (dsimp only; omega), by first | decide | omega | (dsimp only; omega)⟩ (Nat.le_of_ble_eq_true rfl) rfl d_Mo_two_278 (fun r z9 H locs hp V1 => ?_)
  obtain ⟨rfl, X2⟩ := hp
  have X := X.then X2
  have V := V1
  refine W.eq (g2 := F0 m 281 ls []) rfl ?_
  refine gh_retv hAe C V hr hlocks d_Mo_two_281 (by first | decide | omega | (dsimp only; omega)) (by first | decide | omega | (dsimp only; omega)) ?_
  exact ⟨rfl, _, _, X, (mct.rf.cell 35 1 (by decide) (by decide)).ask, oc_a1 rfl rfl⟩
set_option maxHeartbeats 4000000 in
set_option maxRecDepth 100000 in
theorem c_Mo_two_21 (l : Launch) (E : gh_E) (sz : Nat) (f : gh_F) (a : Nat) (ad : Nat → Nat) (S : Nat → Int32) (I : Nat → Nat → Int32) (J : Nat → Nat → Int64) (w cp φ : Nat) (p0 : Nat) (kk : Nat) (hX : mo_R E f a ad S I J) (h45 : S 45 = nI (w + 1)) (hw : w < 14) (hc60 : cp < 60) (hp0c : I 34 (3 * cp) = nI p0) (hq0 : cp < p0 ∧ p0 < 60) (hS46 : S 46 = 2) (hph : I 35 cp = 1) : gh_M l y_Mo_two b_Mo_two 4 none E sz [.ref a, .int (nI cp), .int (nI kk)] f { frames := 7, cells := 0, slots := 0, locals := 200 } (fun r g => r = none ∧ ∃ S2 I2, mo_X E f g a ad S2 I2 J ∧ mct cp w (fun _ => False) (fun k => I k cp) S I S2 I2 ∧ oc_t w 2 (S 47) S S2) := by
  refine gh_open (by decide) (Nat.le_of_ble_eq_true rfl) ?_
  intro p e s m args below meth c A ls hAe C V hr hlocks hname hl
  have hx := C.1
  have hb := C.2.1
  have hl : lv_has ls 4 [(0, .ref a), (1, .int (nI cp)), (2, .int (nI kk))] := hl
  have X : mo_X E f f a ad S I J := ⟨hX, gh_fr.rf⟩
  refine lv_aload_n hx hb d_Mo_two_0 rfl (lv_at hl 0 rfl) ?_
  refine mo_getA C V X 34 (by decide) (by decide) f_Mo_85 rfl d_Mo_two_1 ?_
  refine lv_iconst (v := 3) hx hb d_Mo_two_4 (by decide) ?_
  refine lv_iload_n hx hb d_Mo_two_5 rfl (lv_at hl 1 rfl) ?_
  refine gn_imul (a := 3) (b := cp) hx hb d_Mo_two_6 ?_
  refine mo_ild (k := 34) (i := 3 * cp) (n := 180) C V X (by decide) (by decide) rfl (by omega) (by decide) d_Mo_two_7 ?_
  rw [show I 34 (3 * cp) = nI p0 from hp0c]
  refine lv_istore_n hx hb d_Mo_two_8 rfl hl (by decide) rfl (fun ls hl => ?_)
  have hl : lv_has ls 4 [(3, .int (nI p0)), (0, .ref a), (1, .int (nI cp)), (2, .int (nI kk))] := hl
  refine lv_aload_n hx hb d_Mo_two_9 rfl (lv_at hl 1 rfl) ?_
  refine mo_getS (v := 2) C V X 46 (by decide) (by decide) (by first | rfl | exact hS46) f_Mo_277 rfl d_Mo_two_10 ?_
  refine lv_iconst (v := 3) hx hb d_Mo_two_13 (by decide) ?_
  refine lv_icmp_ne (tgt := 25) hx hb d_Mo_two_14 (by decide) (fun c1 => ?_) (fun c1 => absurd c1 (by decide))
  refine lv_aload_n hx hb d_Mo_two_25 rfl (lv_at hl 1 rfl) ?_
  refine mo_getS (v := 2) C V X 46 (by decide) (by decide) (by first | rfl | exact hS46) f_Mo_277 rfl d_Mo_two_26 ?_
  refine lv_if_ne (tgt := 68) hx hb d_Mo_two_29 (by decide) (fun c2 => ?_) (fun c2 => absurd c2 (by decide))
  refine lv_aload_n hx hb d_Mo_two_68 rfl (lv_at hl 1 rfl) ?_
  refine mo_getS (v := 2) C V X 46 (by decide) (by decide) (by first | rfl | exact hS46) f_Mo_277 rfl d_Mo_two_69 ?_
  refine lv_if_ne (tgt := 99) hx hb d_Mo_two_72 (by decide) (fun c3 => ?_) (fun c3 => absurd c3 (by decide))
  refine lv_aload_n hx hb d_Mo_two_99 rfl (lv_at hl 1 rfl) ?_
  refine mo_getS (v := 2) C V X 46 (by decide) (by decide) (by first | rfl | exact hS46) f_Mo_277 rfl d_Mo_two_100 ?_
  refine lv_iconst (v := 1) hx hb d_Mo_two_103 (by decide) ?_
  refine lv_icmp_ne (tgt := 204) hx hb d_Mo_two_104 (by decide) (fun c4 => ?_) (fun c4 => absurd c4 (by decide))
  refine lv_aload_n hx hb d_Mo_two_204 rfl (lv_at hl 1 rfl) ?_
  refine mo_getS (v := 2) C V X 46 (by decide) (by decide) (by first | rfl | exact hS46) f_Mo_277 rfl d_Mo_two_205 ?_
  refine lv_iconst (v := 1) hx hb d_Mo_two_208 (by decide) ?_
  refine lv_icmp_ne (tgt := 251) hx hb d_Mo_two_209 (by decide) (fun c5 => ?_) (fun c5 => absurd c5 (by decide))
  refine lv_aload_n hx hb d_Mo_two_251 rfl (lv_at hl 1 rfl) ?_
  refine mo_getA C V X 35 (by decide) (by decide) f_Mo_88 rfl d_Mo_two_252 ?_
  refine lv_iload_n hx hb d_Mo_two_255 rfl (lv_at hl 2 rfl) ?_
  refine mo_ild (k := 35) (i := cp) (n := 60) C V X (by decide) (by decide) rfl (by omega) (by decide) d_Mo_two_256 ?_
  rw [show I 35 cp = 1 from hph]
  refine lv_iconst (v := 1) hx hb d_Mo_two_257 (by decide) ?_
  refine lv_icmp_ne (tgt := 269) hx hb d_Mo_two_258 (by decide) (fun c6 => absurd (by decide) c6) (fun c6 => ?_)
  refine lv_aload_n hx hb d_Mo_two_261 rfl (lv_at hl 1 rfl) ?_
  refine lv_iconst (v := 2) hx hb d_Mo_two_262 (by decide) ?_
  refine gh_callV C V hl.1 m_Mo_tell l_Mo_289 (c_Mo_tell l E _ _ a ad _ _ _ 2 w X.1 h45) rfl X.1.1 gc_Mo ⟨by first | decide | omega | (dsimp only; omega), by first | decide | omega | (dsimp only; omega)⟩ ⟨by first | decide | omega | (dsimp only; omega), by first | decide | omega | (dsimp only; omega)⟩ (Nat.le_of_ble_eq_true rfl) rfl d_Mo_two_263 (fun r z9 H locs hp V1 => ?_)
  obtain ⟨rfl, X2⟩ := hp
  have X := X.then X2
  have V := V1
  refine W.eq (g2 := F0 m 266 ls []) rfl ?_
  refine lv_goto (tgt := 281) hx hb d_Mo_two_266 (by decide) ?_
  refine gh_retv hAe C V hr hlocks d_Mo_two_281 (by first | decide | omega | (dsimp only; omega)) (by first | decide | omega | (dsimp only; omega)) ?_
  exact ⟨rfl, _, _, X, mct.rf.tell, oc_t1 rfl rfl rfl⟩
set_option maxHeartbeats 4000000 in
set_option maxRecDepth 100000 in
theorem c_Mo_two_1o (l : Launch) (E : gh_E) (sz : Nat) (f : gh_F) (a : Nat) (ad : Nat → Nat) (S : Nat → Int32) (I : Nat → Nat → Int32) (J : Nat → Nat → Int64) (w cp φ : Nat) (kk : Nat) (b0 nv pb np : Nat) (xh : Nat) (OX OY : vt) (u : Nat) (hX : mo_R E f a ad S I J) (h45 : S 45 = nI (w + 1)) (hw : w < 14) (hc60 : cp < 60) (h48 : S 48 = nI φ) (hφ : φ < 1000) (h49 : ¬ 0 ≤ S 49) (hS46 : S 46 = 1) (hph : I 35 cp = 2) (hS47 : S 47 = nI u) (hkk : 22 ≤ kk ∧ kk ≤ 26) (h11 : S 11 = nI nv) (h12 : S 12 = nI np) (hp8 : np + 32 ≤ 8800) (hnv : nv < 760) (h29 : 29 ≤ nv) (hb0 : b0 ≤ nv) (hpb : pb ≤ np) (hc : mc I J b0 nv pb np) (hxh : I 38 cp = nI xh) (hOx : mw I J b0 nv pb np xh OX) (hOy : mw I J b0 nv pb np u OY) : gh_M l y_Mo_two b_Mo_two 4 none E sz [.ref a, .int (nI cp), .int (nI kk)] f { frames := 10, cells := 0, slots := 0, locals := 320 } (fun r g => r = none ∧ ∃ S2 I2 J2, mo_X E f g a ad S2 I2 J2 ∧ mr_sp (sr_two kk OX OY) φ S I J b0 nv pb np w S2 I2 J2) := by
  refine gh_open (by decide) (Nat.le_of_ble_eq_true rfl) ?_
  intro p e s m args below meth c A ls hAe C V hr hlocks hname hl
  have hx := C.1
  have hb := C.2.1
  have hl : lv_has ls 4 [(0, .ref a), (1, .int (nI cp)), (2, .int (nI kk))] := hl
  have X : mo_X E f f a ad S I J := ⟨hX, gh_fr.rf⟩
  refine lv_aload_n hx hb d_Mo_two_0 rfl (lv_at hl 0 rfl) ?_
  refine mo_getA C V X 34 (by decide) (by decide) f_Mo_85 rfl d_Mo_two_1 ?_
  refine lv_iconst (v := 3) hx hb d_Mo_two_4 (by decide) ?_
  refine lv_iload_n hx hb d_Mo_two_5 rfl (lv_at hl 1 rfl) ?_
  refine gn_imul (a := 3) (b := cp) hx hb d_Mo_two_6 ?_
  refine mo_ild (k := 34) (i := 3 * cp) (n := 180) C V X (by decide) (by decide) rfl (by omega) (by decide) d_Mo_two_7 ?_
  rw [show I 34 (3 * cp) = I 34 (3 * cp) from rfl]
  refine lv_istore_n hx hb d_Mo_two_8 rfl hl (by decide) rfl (fun ls hl => ?_)
  have hl : lv_has ls 4 [(3, .int (I 34 (3 * cp))), (0, .ref a), (1, .int (nI cp)), (2, .int (nI kk))] := hl
  refine lv_aload_n hx hb d_Mo_two_9 rfl (lv_at hl 1 rfl) ?_
  refine mo_getS (v := 1) C V X 46 (by decide) (by decide) (by first | rfl | exact hS46) f_Mo_277 rfl d_Mo_two_10 ?_
  refine lv_iconst (v := 3) hx hb d_Mo_two_13 (by decide) ?_
  refine lv_icmp_ne (tgt := 25) hx hb d_Mo_two_14 (by decide) (fun c1 => ?_) (fun c1 => absurd c1 (by decide))
  refine lv_aload_n hx hb d_Mo_two_25 rfl (lv_at hl 1 rfl) ?_
  refine mo_getS (v := 1) C V X 46 (by decide) (by decide) (by first | rfl | exact hS46) f_Mo_277 rfl d_Mo_two_26 ?_
  refine lv_if_ne (tgt := 68) hx hb d_Mo_two_29 (by decide) (fun c2 => ?_) (fun c2 => absurd c2 (by decide))
  refine lv_aload_n hx hb d_Mo_two_68 rfl (lv_at hl 1 rfl) ?_
  refine mo_getS (v := 1) C V X 46 (by decide) (by decide) (by first | rfl | exact hS46) f_Mo_277 rfl d_Mo_two_69 ?_
  refine lv_if_ne (tgt := 99) hx hb d_Mo_two_72 (by decide) (fun c3 => ?_) (fun c3 => absurd c3 (by decide))
  refine lv_aload_n hx hb d_Mo_two_99 rfl (lv_at hl 1 rfl) ?_
  refine mo_getS (v := 1) C V X 46 (by decide) (by decide) (by first | rfl | exact hS46) f_Mo_277 rfl d_Mo_two_100 ?_
  refine lv_iconst (v := 1) hx hb d_Mo_two_103 (by decide) ?_
  refine lv_icmp_ne (tgt := 204) hx hb d_Mo_two_104 (by decide) (fun c4 => absurd (by decide) c4) (fun c4 => ?_)
  refine lv_aload_n hx hb d_Mo_two_107 rfl (lv_at hl 1 rfl) ?_
  refine mo_getA C V X 35 (by decide) (by decide) f_Mo_88 rfl d_Mo_two_108 ?_
  refine lv_iload_n hx hb d_Mo_two_111 rfl (lv_at hl 2 rfl) ?_
  refine mo_ild (k := 35) (i := cp) (n := 60) C V X (by decide) (by decide) rfl (by omega) (by decide) d_Mo_two_112 ?_
  rw [show I 35 cp = 2 from hph]
  refine lv_iconst (v := 1) hx hb d_Mo_two_113 (by decide) ?_
  refine lv_icmp_ne (tgt := 204) hx hb d_Mo_two_114 (by decide) (fun c5 => ?_) (fun c5 => absurd c5 (by decide))
  refine lv_aload_n hx hb d_Mo_two_204 rfl (lv_at hl 1 rfl) ?_
  refine mo_getS (v := 1) C V X 46 (by decide) (by decide) (by first | rfl | exact hS46) f_Mo_277 rfl d_Mo_two_205 ?_
  refine lv_iconst (v := 1) hx hb d_Mo_two_208 (by decide) ?_
  refine lv_icmp_ne (tgt := 251) hx hb d_Mo_two_209 (by decide) (fun c6 => absurd (by decide) c6) (fun c6 => ?_)
  refine lv_iload_n hx hb d_Mo_two_212 rfl (lv_at hl 3 rfl) ?_
  refine lv_bipush (v := 22) hx hb d_Mo_two_213 (by decide) ?_
  refine lv_icmp_ge (tgt := 226) hx hb d_Mo_two_215 (by decide) (fun c7 => ?_) (fun c7 => absurd (nI_le (a := 22) (by omega) (by omega)) c7)
  refine lv_aload_n hx hb d_Mo_two_226 rfl (lv_at hl 1 rfl) ?_
  refine gh_callV C V hl.1 m_Mo_spent l_Mo_280 (c_Mo_spent l E _ _ a ad _ _ _ φ X.1 h48 hφ) rfl X.1.1 gc_Mo ⟨by first | decide | omega | (dsimp only; omega), by first | decide | omega | (dsimp only; omega)⟩ ⟨by first | decide | omega | (dsimp only; omega), by first | decide | omega | (dsimp only; omega)⟩ (Nat.le_of_ble_eq_true rfl) rfl d_Mo_two_227 (fun r z9 H locs hp V1 => ?_)
  have V := V1
  by_cases hz : φ = 0
  · obtain ⟨rfl, X2⟩ := hp.1 hz
    have X := X.then X2
    refine W.eq (g2 := F0 m 230 ls [.int (gh_bi false)]) rfl ?_
    refine lv_if_eq (tgt := 281) hx hb d_Mo_two_230 (by decide) (fun c8 => ?_) (fun c8 => absurd (by decide) c8)
    refine gh_retv hAe C V hr hlocks d_Mo_two_281 (by first | decide | omega | (dsimp only; omega)) (by first | decide | omega | (dsimp only; omega)) ?_
    exact ⟨rfl, _, _, _, X, Or.inl ⟨hz, rfl, rfl, rfl⟩⟩
  · obtain ⟨rfl, X2⟩ := hp.2 (by omega)
    rw [decide_eq_false (show ¬ 0 ≤ S 49 from h49)]
    have X := X.then X2
    refine W.eq (g2 := F0 m 230 ls [.int (gh_bi true)]) rfl ?_
    refine lv_if_eq (tgt := 281) hx hb d_Mo_two_230 (by decide) (fun c9 => absurd c9 (by decide)) (fun c9 => ?_)
    refine lv_aload_n hx hb d_Mo_two_233 rfl (lv_at hl 1 rfl) ?_
    refine lv_iload_n hx hb d_Mo_two_234 rfl (lv_at hl 3 rfl) ?_
    refine lv_aload_n hx hb d_Mo_two_235 rfl (lv_at hl 1 rfl) ?_
    refine mo_getA C V X 38 (by decide) (by decide) f_Mo_97 rfl d_Mo_two_236 ?_
    refine lv_iload_n hx hb d_Mo_two_239 rfl (lv_at hl 2 rfl) ?_
    refine mo_ild (k := 38) (i := cp) (n := 60) C V X (by decide) (by decide) rfl (by omega) (by decide) d_Mo_two_240 ?_
    rw [show I 38 cp = nI xh from hxh]
    refine lv_aload_n hx hb d_Mo_two_241 rfl (lv_at hl 1 rfl) ?_
    refine mo_getS (v := nI u) C V X 47 (by decide) (by decide) (by first | rfl | exact hS47) f_Mo_286 rfl d_Mo_two_242 ?_
    refine gh_callV C V hl.1 m_Mo_operate l_Mo_364 (c_Mo_operate l E _ _ a ad _ _ _ b0 nv pb np w kk xh u OX OY X.1 (by rw [va_up_n (by decide)]; exact h11) (by rw [va_up_n (by decide)]; exact h12) hp8 hnv h29 hb0 hpb (by rw [va_up_n (by decide)]; exact h45) hc hOx hOy hkk) rfl X.1.1 gc_Mo ⟨by first | decide | omega | (dsimp only; omega), by first | decide | omega | (dsimp only; omega)⟩ ⟨by first | decide | omega | (dsimp only; omega), by first | decide | omega | (dsimp only; omega)⟩ (Nat.le_of_ble_eq_true rfl) rfl d_Mo_two_245 (fun r z9 H locs hp V1 => ?_)
    obtain ⟨rfl, S6, I6, J6, X2, hA⟩ := hp
    have X := X.then X2
    have V := V1
    refine W.eq (g2 := F0 m 248 ls []) rfl ?_
    refine lv_goto (tgt := 281) hx hb d_Mo_two_248 (by decide) ?_
    refine gh_retv hAe C V hr hlocks d_Mo_two_281 (by first | decide | omega | (dsimp only; omega)) (by first | decide | omega | (dsimp only; omega)) ?_
    exact ⟨rfl, _, _, _, X, Or.inr ⟨by omega, hA⟩⟩
