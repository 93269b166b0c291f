/-! operate of the model. Printed by wip/whole/gen_mo15.py. -/
theorem mr_giveG {S0 S : Nat → Int32} {I0 I : mo_I} {J0 J : mo_J} {b0 nv pb np wt u : Nat} {Z : vt} (hu : mo_un S0 I0 S I) (hm : ma I0 J0 I J b0 nv pb np) (h11 : S 11 = nI nv) (h12 : S 12 = nI np) (hp8 : np ≤ 8800) (hz : mw I J b0 nv pb np u Z) : mr_A (some Z) S0 I0 J0 b0 nv pb np wt (va_up (va_up (va_up S 47 (nI u)) 45 (nI wt)) 46 1) I J := by
  obtain ⟨a1, -, a3, n2, p2, a4, a5⟩ := mr_give (b0 := b0) (pb := pb) (wt := wt) (I := I) (J := J) h11 h12 hp8 hz
  exact ⟨hu.tr a1, hm, a3, n2, p2, a4, a5⟩
theorem d_Mo_operate_0 : decode b_Mo_operate 0 = .ok (.aload_n 0, 1) := by decide +kernel
theorem d_Mo_operate_1 : decode b_Mo_operate 1 = .ok (.getfield 7, 3) := by decide +kernel
theorem d_Mo_operate_4 : decode b_Mo_operate 4 = .ok (.iload_n 2, 1) := by decide +kernel
theorem d_Mo_operate_5 : decode b_Mo_operate 5 = .ok (.iaload, 1) := by decide +kernel
theorem d_Mo_operate_6 : decode b_Mo_operate 6 = .ok (.iconst 3, 1) := by decide +kernel
theorem d_Mo_operate_7 : decode b_Mo_operate 7 = .ok (.if_icmp .ne 17, 3) := by decide +kernel
theorem d_Mo_operate_10 : decode b_Mo_operate 10 = .ok (.aload_n 0, 1) := by decide +kernel
theorem d_Mo_operate_11 : decode b_Mo_operate 11 = .ok (.getfield 7, 3) := by decide +kernel
theorem d_Mo_operate_14 : decode b_Mo_operate 14 = .ok (.iload_n 3, 1) := by decide +kernel
theorem d_Mo_operate_15 : decode b_Mo_operate 15 = .ok (.iaload, 1) := by decide +kernel
theorem d_Mo_operate_16 : decode b_Mo_operate 16 = .ok (.iconst 3, 1) := by decide +kernel
theorem d_Mo_operate_17 : decode b_Mo_operate 17 = .ok (.if_icmp .ne 7, 3) := by decide +kernel
theorem d_Mo_operate_20 : decode b_Mo_operate 20 = .ok (.iconst 1, 1) := by decide +kernel
theorem d_Mo_operate_21 : decode b_Mo_operate 21 = .ok (.goto 4, 3) := by decide +kernel
theorem d_Mo_operate_24 : decode b_Mo_operate 24 = .ok (.iconst 0, 1) := by decide +kernel
theorem d_Mo_operate_25 : decode b_Mo_operate 25 = .ok (.istore 4, 2) := by decide +kernel
theorem d_Mo_operate_27 : decode b_Mo_operate 27 = .ok (.iload_n 1, 1) := by decide +kernel
theorem d_Mo_operate_28 : decode b_Mo_operate 28 = .ok (.bipush 25, 2) := by decide +kernel
theorem d_Mo_operate_30 : decode b_Mo_operate 30 = .ok (.if_icmp .ne 24, 3) := by decide +kernel
theorem d_Mo_operate_33 : decode b_Mo_operate 33 = .ok (.aload_n 0, 1) := by decide +kernel
theorem d_Mo_operate_34 : decode b_Mo_operate 34 = .ok (.aload_n 0, 1) := by decide +kernel
theorem d_Mo_operate_35 : decode b_Mo_operate 35 = .ok (.iload_n 2, 1) := by decide +kernel
theorem d_Mo_operate_36 : decode b_Mo_operate 36 = .ok (.iload_n 3, 1) := by decide +kernel
theorem d_Mo_operate_37 : decode b_Mo_operate 37 = .ok (.invokevirtual 367, 3) := by decide +kernel
theorem d_Mo_operate_40 : decode b_Mo_operate 40 = .ok (.ifCond .eq 7, 3) := by decide +kernel
theorem d_Mo_operate_43 : decode b_Mo_operate 43 = .ok (.iconst 2, 1) := by decide +kernel
theorem d_Mo_operate_44 : decode b_Mo_operate 44 = .ok (.goto 4, 3) := by decide +kernel
theorem d_Mo_operate_47 : decode b_Mo_operate 47 = .ok (.iconst 1, 1) := by decide +kernel
theorem d_Mo_operate_48 : decode b_Mo_operate 48 = .ok (.invokevirtual 342, 3) := by decide +kernel
theorem d_Mo_operate_51 : decode b_Mo_operate 51 = .ok (.goto 215, 3) := by decide +kernel
theorem d_Mo_operate_54 : decode b_Mo_operate 54 = .ok (.iload_n 1, 1) := by decide +kernel
theorem d_Mo_operate_55 : decode b_Mo_operate 55 = .ok (.bipush 26, 2) := by decide +kernel
theorem d_Mo_operate_57 : decode b_Mo_operate 57 = .ok (.if_icmp .ne 24, 3) := by decide +kernel
theorem d_Mo_operate_60 : decode b_Mo_operate 60 = .ok (.aload_n 0, 1) := by decide +kernel
theorem d_Mo_operate_61 : decode b_Mo_operate 61 = .ok (.aload_n 0, 1) := by decide +kernel
theorem d_Mo_operate_62 : decode b_Mo_operate 62 = .ok (.iload_n 2, 1) := by decide +kernel
theorem d_Mo_operate_63 : decode b_Mo_operate 63 = .ok (.iload_n 3, 1) := by decide +kernel
theorem d_Mo_operate_64 : decode b_Mo_operate 64 = .ok (.invokevirtual 370, 3) := by decide +kernel
theorem d_Mo_operate_67 : decode b_Mo_operate 67 = .ok (.ifCond .eq 7, 3) := by decide +kernel
theorem d_Mo_operate_70 : decode b_Mo_operate 70 = .ok (.iconst 2, 1) := by decide +kernel
theorem d_Mo_operate_71 : decode b_Mo_operate 71 = .ok (.goto 4, 3) := by decide +kernel
theorem d_Mo_operate_74 : decode b_Mo_operate 74 = .ok (.iconst 1, 1) := by decide +kernel
theorem d_Mo_operate_75 : decode b_Mo_operate 75 = .ok (.invokevirtual 342, 3) := by decide +kernel
theorem d_Mo_operate_78 : decode b_Mo_operate 78 = .ok (.goto 188, 3) := by decide +kernel
theorem d_Mo_operate_81 : decode b_Mo_operate 81 = .ok (.iload 4, 2) := by decide +kernel
theorem d_Mo_operate_83 : decode b_Mo_operate 83 = .ok (.ifCond .eq 72, 3) := by decide +kernel
theorem d_Mo_operate_86 : decode b_Mo_operate 86 = .ok (.aload_n 0, 1) := by decide +kernel
theorem d_Mo_operate_87 : decode b_Mo_operate 87 = .ok (.aload_n 0, 1) := by decide +kernel
theorem d_Mo_operate_88 : decode b_Mo_operate 88 = .ok (.iconst 3, 1) := by decide +kernel
theorem d_Mo_operate_89 : decode b_Mo_operate 89 = .ok (.iload_n 1, 1) := by decide +kernel
theorem d_Mo_operate_90 : decode b_Mo_operate 90 = .ok (.bipush 22, 2) := by decide +kernel
theorem d_Mo_operate_92 : decode b_Mo_operate 92 = .ok (.if_icmp .ne 19, 3) := by decide +kernel
theorem d_Mo_operate_95 : decode b_Mo_operate 95 = .ok (.aload_n 0, 1) := by decide +kernel
theorem d_Mo_operate_96 : decode b_Mo_operate 96 = .ok (.getfield 13, 3) := by decide +kernel
theorem d_Mo_operate_99 : decode b_Mo_operate 99 = .ok (.iload_n 2, 1) := by decide +kernel
theorem d_Mo_operate_100 : decode b_Mo_operate 100 = .ok (.laload, 1) := by decide +kernel
theorem d_Mo_operate_101 : decode b_Mo_operate 101 = .ok (.aload_n 0, 1) := by decide +kernel
theorem d_Mo_operate_102 : decode b_Mo_operate 102 = .ok (.getfield 13, 3) := by decide +kernel
theorem d_Mo_operate_105 : decode b_Mo_operate 105 = .ok (.iload_n 3, 1) := by decide +kernel
theorem d_Mo_operate_106 : decode b_Mo_operate 106 = .ok (.laload, 1) := by decide +kernel
theorem d_Mo_operate_107 : decode b_Mo_operate 107 = .ok (.ladd, 1) := by decide +kernel
theorem d_Mo_operate_108 : decode b_Mo_operate 108 = .ok (.goto 38, 3) := by decide +kernel
theorem d_Mo_operate_111 : decode b_Mo_operate 111 = .ok (.iload_n 1, 1) := by decide +kernel
theorem d_Mo_operate_112 : decode b_Mo_operate 112 = .ok (.bipush 23, 2) := by decide +kernel
theorem d_Mo_operate_114 : decode b_Mo_operate 114 = .ok (.if_icmp .ne 19, 3) := by decide +kernel
theorem d_Mo_operate_117 : decode b_Mo_operate 117 = .ok (.aload_n 0, 1) := by decide +kernel
theorem d_Mo_operate_118 : decode b_Mo_operate 118 = .ok (.getfield 13, 3) := by decide +kernel
theorem d_Mo_operate_121 : decode b_Mo_operate 121 = .ok (.iload_n 2, 1) := by decide +kernel
theorem d_Mo_operate_122 : decode b_Mo_operate 122 = .ok (.laload, 1) := by decide +kernel
theorem d_Mo_operate_123 : decode b_Mo_operate 123 = .ok (.aload_n 0, 1) := by decide +kernel
theorem d_Mo_operate_124 : decode b_Mo_operate 124 = .ok (.getfield 13, 3) := by decide +kernel
theorem d_Mo_operate_127 : decode b_Mo_operate 127 = .ok (.iload_n 3, 1) := by decide +kernel
theorem d_Mo_operate_128 : decode b_Mo_operate 128 = .ok (.laload, 1) := by decide +kernel
theorem d_Mo_operate_129 : decode b_Mo_operate 129 = .ok (.lsub, 1) := by decide +kernel
theorem d_Mo_operate_130 : decode b_Mo_operate 130 = .ok (.goto 16, 3) := by decide +kernel
theorem d_Mo_operate_133 : decode b_Mo_operate 133 = .ok (.aload_n 0, 1) := by decide +kernel
theorem d_Mo_operate_134 : decode b_Mo_operate 134 = .ok (.getfield 13, 3) := by decide +kernel
theorem d_Mo_operate_137 : decode b_Mo_operate 137 = .ok (.iload_n 2, 1) := by decide +kernel
theorem d_Mo_operate_138 : decode b_Mo_operate 138 = .ok (.laload, 1) := by decide +kernel
theorem d_Mo_operate_139 : decode b_Mo_operate 139 = .ok (.aload_n 0, 1) := by decide +kernel
theorem d_Mo_operate_140 : decode b_Mo_operate 140 = .ok (.getfield 13, 3) := by decide +kernel
theorem d_Mo_operate_143 : decode b_Mo_operate 143 = .ok (.iload_n 3, 1) := by decide +kernel
theorem d_Mo_operate_144 : decode b_Mo_operate 144 = .ok (.laload, 1) := by decide +kernel
theorem d_Mo_operate_145 : decode b_Mo_operate 145 = .ok (.lmul, 1) := by decide +kernel
theorem d_Mo_operate_146 : decode b_Mo_operate 146 = .ok (.invokevirtual 159, 3) := by decide +kernel
theorem d_Mo_operate_149 : decode b_Mo_operate 149 = .ok (.invokevirtual 342, 3) := by decide +kernel
theorem d_Mo_operate_152 : decode b_Mo_operate 152 = .ok (.goto 114, 3) := by decide +kernel
theorem d_Mo_operate_155 : decode b_Mo_operate 155 = .ok (.iload_n 1, 1) := by decide +kernel
theorem d_Mo_operate_156 : decode b_Mo_operate 156 = .ok (.bipush 22, 2) := by decide +kernel
theorem d_Mo_operate_158 : decode b_Mo_operate 158 = .ok (.if_icmp .le 11, 3) := by decide +kernel
theorem d_Mo_operate_161 : decode b_Mo_operate 161 = .ok (.aload_n 0, 1) := by decide +kernel
theorem d_Mo_operate_162 : decode b_Mo_operate 162 = .ok (.iconst 3, 1) := by decide +kernel
theorem d_Mo_operate_163 : decode b_Mo_operate 163 = .ok (.invokevirtual 289, 3) := by decide +kernel
theorem d_Mo_operate_166 : decode b_Mo_operate 166 = .ok (.goto 100, 3) := by decide +kernel
theorem d_Mo_operate_169 : decode b_Mo_operate 169 = .ok (.aload_n 0, 1) := by decide +kernel
theorem d_Mo_operate_170 : decode b_Mo_operate 170 = .ok (.getfield 7, 3) := by decide +kernel
theorem d_Mo_operate_173 : decode b_Mo_operate 173 = .ok (.iload_n 2, 1) := by decide +kernel
theorem d_Mo_operate_174 : decode b_Mo_operate 174 = .ok (.iaload, 1) := by decide +kernel
theorem d_Mo_operate_175 : decode b_Mo_operate 175 = .ok (.ifCond .eq 12, 3) := by decide +kernel
theorem d_Mo_operate_178 : decode b_Mo_operate 178 = .ok (.aload_n 0, 1) := by decide +kernel
theorem d_Mo_operate_179 : decode b_Mo_operate 179 = .ok (.getfield 7, 3) := by decide +kernel
theorem d_Mo_operate_182 : decode b_Mo_operate 182 = .ok (.iload_n 3, 1) := by decide +kernel
theorem d_Mo_operate_183 : decode b_Mo_operate 183 = .ok (.iaload, 1) := by decide +kernel
theorem d_Mo_operate_184 : decode b_Mo_operate 184 = .ok (.ifCond .ne 24, 3) := by decide +kernel
theorem d_Mo_operate_187 : decode b_Mo_operate 187 = .ok (.aload_n 0, 1) := by decide +kernel
theorem d_Mo_operate_188 : decode b_Mo_operate 188 = .ok (.aload_n 0, 1) := by decide +kernel
theorem d_Mo_operate_189 : decode b_Mo_operate 189 = .ok (.getfield 7, 3) := by decide +kernel
theorem d_Mo_operate_192 : decode b_Mo_operate 192 = .ok (.iload_n 2, 1) := by decide +kernel
theorem d_Mo_operate_193 : decode b_Mo_operate 193 = .ok (.iaload, 1) := by decide +kernel
theorem d_Mo_operate_194 : decode b_Mo_operate 194 = .ok (.ifCond .ne 7, 3) := by decide +kernel
theorem d_Mo_operate_197 : decode b_Mo_operate 197 = .ok (.iload_n 3, 1) := by decide +kernel
theorem d_Mo_operate_198 : decode b_Mo_operate 198 = .ok (.goto 4, 3) := by decide +kernel
theorem d_Mo_operate_201 : decode b_Mo_operate 201 = .ok (.iload_n 2, 1) := by decide +kernel
theorem d_Mo_operate_202 : decode b_Mo_operate 202 = .ok (.invokevirtual 342, 3) := by decide +kernel
theorem d_Mo_operate_205 : decode b_Mo_operate 205 = .ok (.goto 61, 3) := by decide +kernel
theorem d_Mo_operate_208 : decode b_Mo_operate 208 = .ok (.aload_n 0, 1) := by decide +kernel
theorem d_Mo_operate_209 : decode b_Mo_operate 209 = .ok (.getfield 7, 3) := by decide +kernel
theorem d_Mo_operate_212 : decode b_Mo_operate 212 = .ok (.iload_n 2, 1) := by decide +kernel
theorem d_Mo_operate_213 : decode b_Mo_operate 213 = .ok (.iaload, 1) := by decide +kernel
theorem d_Mo_operate_214 : decode b_Mo_operate 214 = .ok (.aload_n 0, 1) := by decide +kernel
theorem d_Mo_operate_215 : decode b_Mo_operate 215 = .ok (.getfield 7, 3) := by decide +kernel
theorem d_Mo_operate_218 : decode b_Mo_operate 218 = .ok (.iload_n 3, 1) := by decide +kernel
theorem d_Mo_operate_219 : decode b_Mo_operate 219 = .ok (.iaload, 1) := by decide +kernel
theorem d_Mo_operate_220 : decode b_Mo_operate 220 = .ok (.if_icmp .ne 13, 3) := by decide +kernel
theorem d_Mo_operate_223 : decode b_Mo_operate 223 = .ok (.aload_n 0, 1) := by decide +kernel
theorem d_Mo_operate_224 : decode b_Mo_operate 224 = .ok (.getfield 7, 3) := by decide +kernel
theorem d_Mo_operate_227 : decode b_Mo_operate 227 = .ok (.iload_n 2, 1) := by decide +kernel
theorem d_Mo_operate_228 : decode b_Mo_operate 228 = .ok (.iaload, 1) := by decide +kernel
theorem d_Mo_operate_229 : decode b_Mo_operate 229 = .ok (.iconst 4, 1) := by decide +kernel
theorem d_Mo_operate_230 : decode b_Mo_operate 230 = .ok (.if_icmp .ge 11, 3) := by decide +kernel
theorem d_Mo_operate_233 : decode b_Mo_operate 233 = .ok (.aload_n 0, 1) := by decide +kernel
theorem d_Mo_operate_234 : decode b_Mo_operate 234 = .ok (.iconst 3, 1) := by decide +kernel
theorem d_Mo_operate_235 : decode b_Mo_operate 235 = .ok (.invokevirtual 289, 3) := by decide +kernel
theorem d_Mo_operate_238 : decode b_Mo_operate 238 = .ok (.goto 28, 3) := by decide +kernel
theorem d_Mo_operate_241 : decode b_Mo_operate 241 = .ok (.aload_n 0, 1) := by decide +kernel
theorem d_Mo_operate_242 : decode b_Mo_operate 242 = .ok (.getfield 7, 3) := by decide +kernel
theorem d_Mo_operate_245 : decode b_Mo_operate 245 = .ok (.iload_n 2, 1) := by decide +kernel
theorem d_Mo_operate_246 : decode b_Mo_operate 246 = .ok (.iaload, 1) := by decide +kernel
theorem d_Mo_operate_247 : decode b_Mo_operate 247 = .ok (.iconst 4, 1) := by decide +kernel
theorem d_Mo_operate_248 : decode b_Mo_operate 248 = .ok (.if_icmp .ne 12, 3) := by decide +kernel
theorem d_Mo_operate_251 : decode b_Mo_operate 251 = .ok (.aload_n 0, 1) := by decide +kernel
theorem d_Mo_operate_252 : decode b_Mo_operate 252 = .ok (.iload_n 2, 1) := by decide +kernel
theorem d_Mo_operate_253 : decode b_Mo_operate 253 = .ok (.iload_n 3, 1) := by decide +kernel
theorem d_Mo_operate_254 : decode b_Mo_operate 254 = .ok (.invokevirtual 373, 3) := by decide +kernel
theorem d_Mo_operate_257 : decode b_Mo_operate 257 = .ok (.goto 9, 3) := by decide +kernel
theorem d_Mo_operate_260 : decode b_Mo_operate 260 = .ok (.aload_n 0, 1) := by decide +kernel
theorem d_Mo_operate_261 : decode b_Mo_operate 261 = .ok (.iload_n 2, 1) := by decide +kernel
theorem d_Mo_operate_262 : decode b_Mo_operate 262 = .ok (.iload_n 3, 1) := by decide +kernel
theorem d_Mo_operate_263 : decode b_Mo_operate 263 = .ok (.invokevirtual 376, 3) := by decide +kernel
theorem d_Mo_operate_266 : decode b_Mo_operate 266 = .ok (.return_, 1) := by decide +kernel
set_option maxHeartbeats 4000000 in
set_option maxRecDepth 100000 in
theorem c_Mo_operate22 (l : Launch) (E : gh_E) (sz : Nat) (f : gh_F) (a : Nat) (ad : Nat → Nat) (S : Nat → Int32) (I : Nat → Nat → Int32) (J : Nat → Nat → Int64) (b0 nv pb np wt : Nat) (x y : Nat) (OX OY : vt) (hX : mo_R E f a ad S I J) (h11 : S 11 = nI nv) (h12 : S 12 = nI np) (hp8 : np + 32 ≤ 8800) (hnv : nv < 760) (h29 : 29 ≤ nv) (hb0 : b0 ≤ nv) (hpb : pb ≤ np) (hS45 : S 45 = nI (wt + 1)) (hc : mc I J b0 nv pb np) (hOx : mw I J b0 nv pb np x OX) (hOy : mw I J b0 nv pb np y OY) : gh_M l y_Mo_operate b_Mo_operate 5 none E sz [.ref a, .int 22, .int (nI x), .int (nI y)] f { frames := 8, cells := 0, slots := 0, locals := 280 } (fun r g => r = none ∧ ∃ S2 I2 J2, mo_X E f g a ad S2 I2 J2 ∧ mr_A (sr_two 22 OX OY) S I J b0 nv pb np wt S2 I2 J2) := by
  obtain ⟨hax, h1x, h2x, h3x, h4x, h5x, h6x, h7x⟩ := mv_o.mp hOx.1
  have hx7 := hax.2
  have hoX := vo_o.mp hOx.2
  have hkx6 := hoX.1
  have hcx16 := hoX.2.2.2.2.2.2.1
  obtain ⟨hay, h1y, h2y, h3y, h4y, h5y, h6y, h7y⟩ := mv_o.mp hOy.1
  have hy7 := hay.2
  have hoY := vo_o.mp hOy.2
  have hky6 := hoY.1
  have hcy16 := hoY.2.2.2.2.2.2.1
  refine gh_open (by decide) (Nat.le_of_ble_eq_true rfl) ?_
  intro p e s m args below meth c A ls hAe C V hr hlocks hname hl
  have hx := C.1
  have hb := C.2.1
  have hl : lv_has ls 5 [(0, .ref a), (1, .int 22), (2, .int (nI x)), (3, .int (nI y))] := hl
  have X : mo_X E f f a ad S I J := ⟨hX, gh_fr.rf⟩
  refine lv_aload_n hx hb d_Mo_operate_0 rfl (lv_at hl 0 rfl) ?_
  refine mo_getA C V X 1 (by decide) (by decide) f_Mo_7 rfl d_Mo_operate_1 ?_
  refine lv_iload_n hx hb d_Mo_operate_4 rfl (lv_at hl 2 rfl) ?_
  refine mo_ild (k := 1) (i := x) (n := 760) C V X (by decide) (by decide) rfl (by omega) (by decide) d_Mo_operate_5 ?_
  rw [show I 1 x = nI (vt_k OX) from h1x]
  refine lv_iconst (v := 3) hx hb d_Mo_operate_6 (by decide) ?_
  refine lv_icmp_ne (tgt := 24) hx hb d_Mo_operate_7 (by decide) (fun c1 => ?_) (fun c1 => ?_)
  · have c1 : ¬ (vt_k OX) = 3 := by rw [← gq_eq (a := vt_k OX) (b := 3) (by omega) (by omega)]; exact c1
    refine lv_iconst (v := 0) hx hb d_Mo_operate_24 (by decide) ?_
    refine lv_istore hx hb d_Mo_operate_25 hl (by decide) rfl (fun ls hl => ?_)
    have hl : lv_has ls 5 [(4, .int 0), (0, .ref a), (1, .int 22), (2, .int (nI x)), (3, .int (nI y))] := hl
    refine lv_iload_n hx hb d_Mo_operate_27 rfl (lv_at hl 2 rfl) ?_
    refine lv_bipush (v := 25) hx hb d_Mo_operate_28 (by decide) ?_
    refine lv_icmp_ne (tgt := 54) hx hb d_Mo_operate_30 (by decide) (fun c2 => ?_) (fun c2 => absurd c2 (by decide))
    refine lv_iload_n hx hb d_Mo_operate_54 rfl (lv_at hl 2 rfl) ?_
    refine lv_bipush (v := 26) hx hb d_Mo_operate_55 (by decide) ?_
    refine lv_icmp_ne (tgt := 81) hx hb d_Mo_operate_57 (by decide) (fun c3 => ?_) (fun c3 => absurd c3 (by decide))
    refine lv_iload hx hb d_Mo_operate_81 (lv_at hl 0 rfl) ?_
    refine lv_if_eq (tgt := 155) hx hb d_Mo_operate_83 (by decide) (fun c4 => ?_) (fun c4 => absurd (by decide) c4)
    refine lv_iload_n hx hb d_Mo_operate_155 rfl (lv_at hl 2 rfl) ?_
    refine lv_bipush (v := 22) hx hb d_Mo_operate_156 (by decide) ?_
    refine lv_icmp_le (tgt := 169) hx hb d_Mo_operate_158 (by decide) (fun c5 => ?_) (fun c5 => absurd (by decide) c5)
    refine lv_aload_n hx hb d_Mo_operate_169 rfl (lv_at hl 1 rfl) ?_
    refine mo_getA C V X 1 (by decide) (by decide) f_Mo_7 rfl d_Mo_operate_170 ?_
    refine lv_iload_n hx hb d_Mo_operate_173 rfl (lv_at hl 3 rfl) ?_
    refine mo_ild (k := 1) (i := x) (n := 760) C V X (by decide) (by decide) rfl (by omega) (by decide) d_Mo_operate_174 ?_
    rw [show I 1 x = nI (vt_k OX) from h1x]
    refine lv_if_eq (tgt := 187) hx hb d_Mo_operate_175 (by decide) (fun c6 => ?_) (fun c6 => ?_)
    · have c6 : (vt_k OX) = 0 := by rw [← gq_eq (a := vt_k OX) (b := 0) (by omega) (by omega)]; exact c6
      refine lv_aload_n hx hb d_Mo_operate_187 rfl (lv_at hl 1 rfl) ?_
      refine lv_aload_n hx hb d_Mo_operate_188 rfl (lv_at hl 1 rfl) ?_
      refine mo_getA C V X 1 (by decide) (by decide) f_Mo_7 rfl d_Mo_operate_189 ?_
      refine lv_iload_n hx hb d_Mo_operate_192 rfl (lv_at hl 3 rfl) ?_
      refine mo_ild (k := 1) (i := x) (n := 760) C V X (by decide) (by decide) rfl (by omega) (by decide) d_Mo_operate_193 ?_
      rw [show I 1 x = nI (vt_k OX) from h1x]
      refine lv_if_ne (tgt := 201) hx hb d_Mo_operate_194 (by decide) (fun c7 => ?_) (fun c7 => ?_)
      · have c7 : ¬ (vt_k OX) = 0 := by rw [← gq_eq (a := vt_k OX) (b := 0) (by omega) (by omega)]; exact c7
        refine lv_iload_n hx hb d_Mo_operate_201 rfl (lv_at hl 3 rfl) ?_
        refine gh_callV C V hl.1 m_Mo_give l_Mo_342 (c_Mo_give l E _ _ a ad _ _ _ (nI x) wt X.1 hS45) rfl X.1.1 gc_Mo ⟨by first | decide | omega | (dsimp only; omega), by first | decide | omega | (dsimp only; omega)⟩ ⟨by first | decide | omega | (dsimp only; omega), by first | decide | omega | (dsimp only; omega)⟩ (Nat.le_of_ble_eq_true rfl) rfl d_Mo_operate_202 (fun r z9 H locs hp V1 => ?_)
        obtain ⟨rfl, X2⟩ := hp
        have X := X.then X2
        have V := V1
        refine W.eq (g2 := F0 m 205 ls []) rfl ?_
        refine lv_goto (tgt := 266) hx hb d_Mo_operate_205 (by decide) ?_
        refine gh_retv hAe C V hr hlocks d_Mo_operate_266 (by first | decide | omega | (dsimp only; omega)) (by first | decide | omega | (dsimp only; omega)) ?_
        exact ⟨rfl, _, _, _, X, by unfold sr_two; rw [if_pos rfl]; unfold vt_sum; rw [if_neg (by omega), if_pos (by omega)]; exact mr_give h11 h12 (by omega) hOx⟩
      · have c7 : (vt_k OX) = 0 := by rw [← gq_eq (a := vt_k OX) (b := 0) (by omega) (by omega)]; exact c7
        refine lv_iload_n hx hb d_Mo_operate_197 rfl (lv_at hl 4 rfl) ?_
        refine lv_goto (tgt := 202) hx hb d_Mo_operate_198 (by decide) ?_
        refine gh_callV C V hl.1 m_Mo_give l_Mo_342 (c_Mo_give l E _ _ a ad _ _ _ (nI y) wt X.1 hS45) rfl X.1.1 gc_Mo ⟨by first | decide | omega | (dsimp only; omega), by first | decide | omega | (dsimp only; omega)⟩ ⟨by first | decide | omega | (dsimp only; omega), by first | decide | omega | (dsimp only; omega)⟩ (Nat.le_of_ble_eq_true rfl) rfl d_Mo_operate_202 (fun r z9 H locs hp V1 => ?_)
        obtain ⟨rfl, X2⟩ := hp
        have X := X.then X2
        have V := V1
        refine W.eq (g2 := F0 m 205 ls []) rfl ?_
        refine lv_goto (tgt := 266) hx hb d_Mo_operate_205 (by decide) ?_
        refine gh_retv hAe C V hr hlocks d_Mo_operate_266 (by first | decide | omega | (dsimp only; omega)) (by first | decide | omega | (dsimp only; omega)) ?_
        exact ⟨rfl, _, _, _, X, by unfold sr_two; rw [if_pos rfl]; unfold vt_sum; rw [if_pos (by omega)]; exact mr_give h11 h12 (by omega) hOy⟩
    · have c6 : ¬ (vt_k OX) = 0 := by rw [← gq_eq (a := vt_k OX) (b := 0) (by omega) (by omega)]; exact c6
      refine lv_aload_n hx hb d_Mo_operate_178 rfl (lv_at hl 1 rfl) ?_
      refine mo_getA C V X 1 (by decide) (by decide) f_Mo_7 rfl d_Mo_operate_179 ?_
      refine lv_iload_n hx hb d_Mo_operate_182 rfl (lv_at hl 4 rfl) ?_
      refine mo_ild (k := 1) (i := y) (n := 760) C V X (by decide) (by decide) rfl (by omega) (by decide) d_Mo_operate_183 ?_
      rw [show I 1 y = nI (vt_k OY) from h1y]
      refine lv_if_ne (tgt := 208) hx hb d_Mo_operate_184 (by decide) (fun c8 => ?_) (fun c8 => ?_)
      · have c8 : ¬ (vt_k OY) = 0 := by rw [← gq_eq (a := vt_k OY) (b := 0) (by omega) (by omega)]; exact c8
        refine lv_aload_n hx hb d_Mo_operate_208 rfl (lv_at hl 1 rfl) ?_
        refine mo_getA C V X 1 (by decide) (by decide) f_Mo_7 rfl d_Mo_operate_209 ?_
        refine lv_iload_n hx hb d_Mo_operate_212 rfl (lv_at hl 3 rfl) ?_
        refine mo_ild (k := 1) (i := x) (n := 760) C V X (by decide) (by decide) rfl (by omega) (by decide) d_Mo_operate_213 ?_
        rw [show I 1 x = nI (vt_k OX) from h1x]
        refine lv_aload_n hx hb d_Mo_operate_214 rfl (lv_at hl 1 rfl) ?_
        refine mo_getA C V X 1 (by decide) (by decide) f_Mo_7 rfl d_Mo_operate_215 ?_
        refine lv_iload_n hx hb d_Mo_operate_218 rfl (lv_at hl 4 rfl) ?_
        refine mo_ild (k := 1) (i := y) (n := 760) C V X (by decide) (by decide) rfl (by omega) (by decide) d_Mo_operate_219 ?_
        rw [show I 1 y = nI (vt_k OY) from h1y]
        refine lv_icmp_ne (tgt := 233) hx hb d_Mo_operate_220 (by decide) (fun c9 => ?_) (fun c9 => ?_)
        · have c9 : ¬ (vt_k OX) = (vt_k OY) := by rw [← gq_eq (a := vt_k OX) (b := vt_k OY) (by omega) (by omega)]; exact c9
          refine lv_aload_n hx hb d_Mo_operate_233 rfl (lv_at hl 1 rfl) ?_
          refine lv_iconst (v := 3) hx hb d_Mo_operate_234 (by decide) ?_
          refine gh_callV C V hl.1 m_Mo_tell l_Mo_289 (c_Mo_tell l E _ _ a ad _ _ _ 3 wt X.1 hS45) rfl X.1.1 gc_Mo ⟨by first | decide | omega | (dsimp only; omega), by first | decide | omega | (dsimp only; omega)⟩ ⟨by first | decide | omega | (dsimp only; omega), by first | decide | omega | (dsimp only; omega)⟩ (Nat.le_of_ble_eq_true rfl) rfl d_Mo_operate_235 (fun r z9 H locs hp V1 => ?_)
          obtain ⟨rfl, X2⟩ := hp
          have X := X.then X2
          have V := V1
          refine W.eq (g2 := F0 m 238 ls []) rfl ?_
          refine lv_goto (tgt := 266) hx hb d_Mo_operate_238 (by decide) ?_
          refine gh_retv hAe C V hr hlocks d_Mo_operate_266 (by first | decide | omega | (dsimp only; omega)) (by first | decide | omega | (dsimp only; omega)) ?_
          exact ⟨rfl, _, _, _, X, by unfold sr_two; rw [if_pos rfl]; unfold vt_sum; rw [if_neg (by omega), if_neg (by omega)]; by_cases hkk : vt_k OX = vt_k OY; (rw [if_pos hkk, if_neg (by omega), if_neg (by omega), if_neg (by omega), if_neg (by omega)]; exact mr_fail h11 h12 (by omega)); (rw [if_neg hkk]; exact mr_fail h11 h12 (by omega))⟩
        · have c9 : (vt_k OX) = (vt_k OY) := by rw [← gq_eq (a := vt_k OX) (b := vt_k OY) (by omega) (by omega)]; exact c9
          refine lv_aload_n hx hb d_Mo_operate_223 rfl (lv_at hl 1 rfl) ?_
          refine mo_getA C V X 1 (by decide) (by decide) f_Mo_7 rfl d_Mo_operate_224 ?_
          refine lv_iload_n hx hb d_Mo_operate_227 rfl (lv_at hl 3 rfl) ?_
          refine mo_ild (k := 1) (i := x) (n := 760) C V X (by decide) (by decide) rfl (by omega) (by decide) d_Mo_operate_228 ?_
          rw [show I 1 x = nI (vt_k OX) from h1x]
          refine lv_iconst (v := 4) hx hb d_Mo_operate_229 (by decide) ?_
          refine lv_icmp_ge (tgt := 241) hx hb d_Mo_operate_230 (by decide) (fun c10 => ?_) (fun c10 => ?_)
          · have c10 : 4 ≤ (vt_k OX) := by rw [← gq_le (a := 4) (b := vt_k OX) (by omega) (by omega)]; exact c10
            refine lv_aload_n hx hb d_Mo_operate_241 rfl (lv_at hl 1 rfl) ?_
            refine mo_getA C V X 1 (by decide) (by decide) f_Mo_7 rfl d_Mo_operate_242 ?_
            refine lv_iload_n hx hb d_Mo_operate_245 rfl (lv_at hl 3 rfl) ?_
            refine mo_ild (k := 1) (i := x) (n := 760) C V X (by decide) (by decide) rfl (by omega) (by decide) d_Mo_operate_246 ?_
            rw [show I 1 x = nI (vt_k OX) from h1x]
            refine lv_iconst (v := 4) hx hb d_Mo_operate_247 (by decide) ?_
            refine lv_icmp_ne (tgt := 260) hx hb d_Mo_operate_248 (by decide) (fun c11 => ?_) (fun c11 => ?_)
            · have c11 : ¬ (vt_k OX) = 4 := by rw [← gq_eq (a := vt_k OX) (b := 4) (by omega) (by omega)]; exact c11
              refine lv_aload_n hx hb d_Mo_operate_260 rfl (lv_at hl 1 rfl) ?_
              refine lv_iload_n hx hb d_Mo_operate_261 rfl (lv_at hl 3 rfl) ?_
              refine lv_iload_n hx hb d_Mo_operate_262 rfl (lv_at hl 4 rfl) ?_
              rcases (show vt_k OX = 5 ∨ vt_k OX = 6 by omega) with hk | hk
              · refine gh_callV C V hl.1 m_Mo_joinMany l_Mo_376 (c_Mo_joinMany5 l E _ _ a ad _ _ _ b0 nv pb np wt x y OX OY X.1 h11 h12 hp8 hnv h29 hb0 hpb hS45 hc hOx hOy (by omega) (by omega)) rfl X.1.1 gc_Mo ⟨by first | decide | omega | (dsimp only; omega), by first | decide | omega | (dsimp only; omega)⟩ ⟨by first | decide | omega | (dsimp only; omega), by first | decide | omega | (dsimp only; omega)⟩ (Nat.le_of_ble_eq_true rfl) rfl d_Mo_operate_263 (fun r z9 H locs hp V1 => ?_)
                obtain ⟨rfl, S1, I1, J1, X2, hA⟩ := hp
                have X := X.then X2
                have V := V1
                refine W.eq (g2 := F0 m 266 ls []) rfl ?_
                refine gh_retv hAe C V hr hlocks d_Mo_operate_266 (by first | decide | omega | (dsimp only; omega)) (by first | decide | omega | (dsimp only; omega)) ?_
                exact ⟨rfl, _, _, _, X, by unfold sr_two; rw [if_pos rfl]; unfold vt_sum; rw [if_neg (by omega), if_neg (by omega), if_pos (by omega), if_neg (by omega), if_neg (by omega), if_pos (by omega)]; exact hA⟩
              · refine gh_callV C V hl.1 m_Mo_joinMany l_Mo_376 (c_Mo_joinMany6 l E _ _ a ad _ _ _ b0 nv pb np wt x y OX OY X.1 h11 h12 hp8 hnv h29 hb0 hpb hS45 hc hOx hOy (by omega) (by omega)) rfl X.1.1 gc_Mo ⟨by first | decide | omega | (dsimp only; omega), by first | decide | omega | (dsimp only; omega)⟩ ⟨by first | decide | omega | (dsimp only; omega), by first | decide | omega | (dsimp only; omega)⟩ (Nat.le_of_ble_eq_true rfl) rfl d_Mo_operate_263 (fun r z9 H locs hp V1 => ?_)
                obtain ⟨rfl, S1, I1, J1, X2, hA⟩ := hp
                have X := X.then X2
                have V := V1
                refine W.eq (g2 := F0 m 266 ls []) rfl ?_
                refine gh_retv hAe C V hr hlocks d_Mo_operate_266 (by first | decide | omega | (dsimp only; omega)) (by first | decide | omega | (dsimp only; omega)) ?_
                exact ⟨rfl, _, _, _, X, by unfold sr_two; rw [if_pos rfl]; unfold vt_sum; rw [if_neg (by omega), if_neg (by omega), if_pos (by omega), if_neg (by omega), if_neg (by omega), if_neg (by omega), if_pos (by omega)]; exact hA⟩
            · have c11 : (vt_k OX) = 4 := by rw [← gq_eq (a := vt_k OX) (b := 4) (by omega) (by omega)]; exact c11
              refine lv_aload_n hx hb d_Mo_operate_251 rfl (lv_at hl 1 rfl) ?_
              refine lv_iload_n hx hb d_Mo_operate_252 rfl (lv_at hl 3 rfl) ?_
              refine lv_iload_n hx hb d_Mo_operate_253 rfl (lv_at hl 4 rfl) ?_
              refine gh_callV C V hl.1 m_Mo_joinLetters l_Mo_373 (c_Mo_joinLetters l E _ _ a ad _ _ _ b0 nv pb np wt x y OX OY X.1 h11 h12 hp8 hnv h29 hb0 hpb hS45 hc hOx hOy (by omega) (by omega)) rfl X.1.1 gc_Mo ⟨by first | decide | omega | (dsimp only; omega), by first | decide | omega | (dsimp only; omega)⟩ ⟨by first | decide | omega | (dsimp only; omega), by first | decide | omega | (dsimp only; omega)⟩ (Nat.le_of_ble_eq_true rfl) rfl d_Mo_operate_254 (fun r z9 H locs hp V1 => ?_)
              obtain ⟨rfl, S1, I1, J1, X2, hA⟩ := hp
              have X := X.then X2
              have V := V1
              refine W.eq (g2 := F0 m 257 ls []) rfl ?_
              refine lv_goto (tgt := 266) hx hb d_Mo_operate_257 (by decide) ?_
              refine gh_retv hAe C V hr hlocks d_Mo_operate_266 (by first | decide | omega | (dsimp only; omega)) (by first | decide | omega | (dsimp only; omega)) ?_
              exact ⟨rfl, _, _, _, X, by unfold sr_two; rw [if_pos rfl]; unfold vt_sum; rw [if_neg (by omega), if_neg (by omega), if_pos (by omega), if_neg (by omega), if_pos (by omega)]; exact hA⟩
          · have c10 : ¬ 4 ≤ (vt_k OX) := by rw [← gq_le (a := 4) (b := vt_k OX) (by omega) (by omega)]; exact c10
            refine lv_aload_n hx hb d_Mo_operate_233 rfl (lv_at hl 1 rfl) ?_
            refine lv_iconst (v := 3) hx hb d_Mo_operate_234 (by decide) ?_
            refine gh_callV C V hl.1 m_Mo_tell l_Mo_289 (c_Mo_tell l E _ _ a ad _ _ _ 3 wt X.1 hS45) rfl X.1.1 gc_Mo ⟨by first | decide | omega | (dsimp only; omega), by first | decide | omega | (dsimp only; omega)⟩ ⟨by first | decide | omega | (dsimp only; omega), by first | decide | omega | (dsimp only; omega)⟩ (Nat.le_of_ble_eq_true rfl) rfl d_Mo_operate_235 (fun r z9 H locs hp V1 => ?_)
            obtain ⟨rfl, X2⟩ := hp
            have X := X.then X2
            have V := V1
            refine W.eq (g2 := F0 m 238 ls []) rfl ?_
            refine lv_goto (tgt := 266) hx hb d_Mo_operate_238 (by decide) ?_
            refine gh_retv hAe C V hr hlocks d_Mo_operate_266 (by first | decide | omega | (dsimp only; omega)) (by first | decide | omega | (dsimp only; omega)) ?_
            exact ⟨rfl, _, _, _, X, by unfold sr_two; rw [if_pos rfl]; unfold vt_sum; rw [if_neg (by omega), if_neg (by omega)]; by_cases hkk : vt_k OX = vt_k OY; (rw [if_pos hkk, if_neg (by omega), if_neg (by omega), if_neg (by omega), if_neg (by omega)]; exact mr_fail h11 h12 (by omega)); (rw [if_neg hkk]; exact mr_fail h11 h12 (by omega))⟩
      · have c8 : (vt_k OY) = 0 := by rw [← gq_eq (a := vt_k OY) (b := 0) (by omega) (by omega)]; exact c8
        refine lv_aload_n hx hb d_Mo_operate_187 rfl (lv_at hl 1 rfl) ?_
        refine lv_aload_n hx hb d_Mo_operate_188 rfl (lv_at hl 1 rfl) ?_
        refine mo_getA C V X 1 (by decide) (by decide) f_Mo_7 rfl d_Mo_operate_189 ?_
        refine lv_iload_n hx hb d_Mo_operate_192 rfl (lv_at hl 3 rfl) ?_
        refine mo_ild (k := 1) (i := x) (n := 760) C V X (by decide) (by decide) rfl (by omega) (by decide) d_Mo_operate_193 ?_
        rw [show I 1 x = nI (vt_k OX) from h1x]
        refine lv_if_ne (tgt := 201) hx hb d_Mo_operate_194 (by decide) (fun c12 => ?_) (fun c12 => ?_)
        · have c12 : ¬ (vt_k OX) = 0 := by rw [← gq_eq (a := vt_k OX) (b := 0) (by omega) (by omega)]; exact c12
          refine lv_iload_n hx hb d_Mo_operate_201 rfl (lv_at hl 3 rfl) ?_
          refine gh_callV C V hl.1 m_Mo_give l_Mo_342 (c_Mo_give l E _ _ a ad _ _ _ (nI x) wt X.1 hS45) rfl X.1.1 gc_Mo ⟨by first | decide | omega | (dsimp only; omega), by first | decide | omega | (dsimp only; omega)⟩ ⟨by first | decide | omega | (dsimp only; omega), by first | decide | omega | (dsimp only; omega)⟩ (Nat.le_of_ble_eq_true rfl) rfl d_Mo_operate_202 (fun r z9 H locs hp V1 => ?_)
          obtain ⟨rfl, X2⟩ := hp
          have X := X.then X2
          have V := V1
          refine W.eq (g2 := F0 m 205 ls []) rfl ?_
          refine lv_goto (tgt := 266) hx hb d_Mo_operate_205 (by decide) ?_
          refine gh_retv hAe C V hr hlocks d_Mo_operate_266 (by first | decide | omega | (dsimp only; omega)) (by first | decide | omega | (dsimp only; omega)) ?_
          exact ⟨rfl, _, _, _, X, by unfold sr_two; rw [if_pos rfl]; unfold vt_sum; rw [if_neg (by omega), if_pos (by omega)]; exact mr_give h11 h12 (by omega) hOx⟩
        · have c12 : (vt_k OX) = 0 := by rw [← gq_eq (a := vt_k OX) (b := 0) (by omega) (by omega)]; exact c12
          refine lv_iload_n hx hb d_Mo_operate_197 rfl (lv_at hl 4 rfl) ?_
          refine lv_goto (tgt := 202) hx hb d_Mo_operate_198 (by decide) ?_
          refine gh_callV C V hl.1 m_Mo_give l_Mo_342 (c_Mo_give l E _ _ a ad _ _ _ (nI y) wt X.1 hS45) rfl X.1.1 gc_Mo ⟨by first | decide | omega | (dsimp only; omega), by first | decide | omega | (dsimp only; omega)⟩ ⟨by first | decide | omega | (dsimp only; omega), by first | decide | omega | (dsimp only; omega)⟩ (Nat.le_of_ble_eq_true rfl) rfl d_Mo_operate_202 (fun r z9 H locs hp V1 => ?_)
          obtain ⟨rfl, X2⟩ := hp
          have X := X.then X2
          have V := V1
          refine W.eq (g2 := F0 m 205 ls []) rfl ?_
          refine lv_goto (tgt := 266) hx hb d_Mo_operate_205 (by decide) ?_
          refine gh_retv hAe C V hr hlocks d_Mo_operate_266 (by first | decide | omega | (dsimp only; omega)) (by first | decide | omega | (dsimp only; omega)) ?_
          exact ⟨rfl, _, _, _, X, by unfold sr_two; rw [if_pos rfl]; unfold vt_sum; rw [if_pos (by omega)]; exact mr_give h11 h12 (by omega) hOy⟩
  · have c1 : (vt_k OX) = 3 := by rw [← gq_eq (a := vt_k OX) (b := 3) (by omega) (by omega)]; exact c1
    refine lv_aload_n hx hb d_Mo_operate_10 rfl (lv_at hl 0 rfl) ?_
    refine mo_getA C V X 1 (by decide) (by decide) f_Mo_7 rfl d_Mo_operate_11 ?_
    refine lv_iload_n hx hb d_Mo_operate_14 rfl (lv_at hl 3 rfl) ?_
    refine mo_ild (k := 1) (i := y) (n := 760) C V X (by decide) (by decide) rfl (by omega) (by decide) d_Mo_operate_15 ?_
    rw [show I 1 y = nI (vt_k OY) from h1y]
    refine lv_iconst (v := 3) hx hb d_Mo_operate_16 (by decide) ?_
    refine lv_icmp_ne (tgt := 24) hx hb d_Mo_operate_17 (by decide) (fun c13 => ?_) (fun c13 => ?_)
    · have c13 : ¬ (vt_k OY) = 3 := by rw [← gq_eq (a := vt_k OY) (b := 3) (by omega) (by omega)]; exact c13
      refine lv_iconst (v := 0) hx hb d_Mo_operate_24 (by decide) ?_
      refine lv_istore hx hb d_Mo_operate_25 hl (by decide) rfl (fun ls hl => ?_)
      have hl : lv_has ls 5 [(4, .int 0), (0, .ref a), (1, .int 22), (2, .int (nI x)), (3, .int (nI y))] := hl
      refine lv_iload_n hx hb d_Mo_operate_27 rfl (lv_at hl 2 rfl) ?_
      refine lv_bipush (v := 25) hx hb d_Mo_operate_28 (by decide) ?_
      refine lv_icmp_ne (tgt := 54) hx hb d_Mo_operate_30 (by decide) (fun c14 => ?_) (fun c14 => absurd c14 (by decide))
      refine lv_iload_n hx hb d_Mo_operate_54 rfl (lv_at hl 2 rfl) ?_
      refine lv_bipush (v := 26) hx hb d_Mo_operate_55 (by decide) ?_
      refine lv_icmp_ne (tgt := 81) hx hb d_Mo_operate_57 (by decide) (fun c15 => ?_) (fun c15 => absurd c15 (by decide))
      refine lv_iload hx hb d_Mo_operate_81 (lv_at hl 0 rfl) ?_
      refine lv_if_eq (tgt := 155) hx hb d_Mo_operate_83 (by decide) (fun c16 => ?_) (fun c16 => absurd (by decide) c16)
      refine lv_iload_n hx hb d_Mo_operate_155 rfl (lv_at hl 2 rfl) ?_
      refine lv_bipush (v := 22) hx hb d_Mo_operate_156 (by decide) ?_
      refine lv_icmp_le (tgt := 169) hx hb d_Mo_operate_158 (by decide) (fun c17 => ?_) (fun c17 => absurd (by decide) c17)
      refine lv_aload_n hx hb d_Mo_operate_169 rfl (lv_at hl 1 rfl) ?_
      refine mo_getA C V X 1 (by decide) (by decide) f_Mo_7 rfl d_Mo_operate_170 ?_
      refine lv_iload_n hx hb d_Mo_operate_173 rfl (lv_at hl 3 rfl) ?_
      refine mo_ild (k := 1) (i := x) (n := 760) C V X (by decide) (by decide) rfl (by omega) (by decide) d_Mo_operate_174 ?_
      rw [show I 1 x = nI (vt_k OX) from h1x]
      refine lv_if_eq (tgt := 187) hx hb d_Mo_operate_175 (by decide) (fun c18 => ?_) (fun c18 => ?_)
      · have c18 : (vt_k OX) = 0 := by rw [← gq_eq (a := vt_k OX) (b := 0) (by omega) (by omega)]; exact c18
        refine lv_aload_n hx hb d_Mo_operate_187 rfl (lv_at hl 1 rfl) ?_
        refine lv_aload_n hx hb d_Mo_operate_188 rfl (lv_at hl 1 rfl) ?_
        refine mo_getA C V X 1 (by decide) (by decide) f_Mo_7 rfl d_Mo_operate_189 ?_
        refine lv_iload_n hx hb d_Mo_operate_192 rfl (lv_at hl 3 rfl) ?_
        refine mo_ild (k := 1) (i := x) (n := 760) C V X (by decide) (by decide) rfl (by omega) (by decide) d_Mo_operate_193 ?_
        rw [show I 1 x = nI (vt_k OX) from h1x]
        refine lv_if_ne (tgt := 201) hx hb d_Mo_operate_194 (by decide) (fun c19 => ?_) (fun c19 => ?_)
        · have c19 : ¬ (vt_k OX) = 0 := by rw [← gq_eq (a := vt_k OX) (b := 0) (by omega) (by omega)]; exact c19
          refine lv_iload_n hx hb d_Mo_operate_201 rfl (lv_at hl 3 rfl) ?_
          refine gh_callV C V hl.1 m_Mo_give l_Mo_342 (c_Mo_give l E _ _ a ad _ _ _ (nI x) wt X.1 hS45) rfl X.1.1 gc_Mo ⟨by first | decide | omega | (dsimp only; omega), by first | decide | omega | (dsimp only; omega)⟩ ⟨by first | decide | omega | (dsimp only; omega), by first | decide | omega | (dsimp only; omega)⟩ (Nat.le_of_ble_eq_true rfl) rfl d_Mo_operate_202 (fun r z9 H locs hp V1 => ?_)
          obtain ⟨rfl, X2⟩ := hp
          have X := X.then X2
          have V := V1
          refine W.eq (g2 := F0 m 205 ls []) rfl ?_
          refine lv_goto (tgt := 266) hx hb d_Mo_operate_205 (by decide) ?_
          refine gh_retv hAe C V hr hlocks d_Mo_operate_266 (by first | decide | omega | (dsimp only; omega)) (by first | decide | omega | (dsimp only; omega)) ?_
          exact ⟨rfl, _, _, _, X, by unfold sr_two; rw [if_pos rfl]; unfold vt_sum; rw [if_neg (by omega), if_pos (by omega)]; exact mr_give h11 h12 (by omega) hOx⟩
        · have c19 : (vt_k OX) = 0 := by rw [← gq_eq (a := vt_k OX) (b := 0) (by omega) (by omega)]; exact c19
          refine lv_iload_n hx hb d_Mo_operate_197 rfl (lv_at hl 4 rfl) ?_
          refine lv_goto (tgt := 202) hx hb d_Mo_operate_198 (by decide) ?_
          refine gh_callV C V hl.1 m_Mo_give l_Mo_342 (c_Mo_give l E _ _ a ad _ _ _ (nI y) wt X.1 hS45) rfl X.1.1 gc_Mo ⟨by first | decide | omega | (dsimp only; omega), by first | decide | omega | (dsimp only; omega)⟩ ⟨by first | decide | omega | (dsimp only; omega), by first | decide | omega | (dsimp only; omega)⟩ (Nat.le_of_ble_eq_true rfl) rfl d_Mo_operate_202 (fun r z9 H locs hp V1 => ?_)
          obtain ⟨rfl, X2⟩ := hp
          have X := X.then X2
          have V := V1
          refine W.eq (g2 := F0 m 205 ls []) rfl ?_
          refine lv_goto (tgt := 266) hx hb d_Mo_operate_205 (by decide) ?_
          refine gh_retv hAe C V hr hlocks d_Mo_operate_266 (by first | decide | omega | (dsimp only; omega)) (by first | decide | omega | (dsimp only; omega)) ?_
          exact ⟨rfl, _, _, _, X, by unfold sr_two; rw [if_pos rfl]; unfold vt_sum; rw [if_pos (by omega)]; exact mr_give h11 h12 (by omega) hOy⟩
      · have c18 : ¬ (vt_k OX) = 0 := by rw [← gq_eq (a := vt_k OX) (b := 0) (by omega) (by omega)]; exact c18
        refine lv_aload_n hx hb d_Mo_operate_178 rfl (lv_at hl 1 rfl) ?_
        refine mo_getA C V X 1 (by decide) (by decide) f_Mo_7 rfl d_Mo_operate_179 ?_
        refine lv_iload_n hx hb d_Mo_operate_182 rfl (lv_at hl 4 rfl) ?_
        refine mo_ild (k := 1) (i := y) (n := 760) C V X (by decide) (by decide) rfl (by omega) (by decide) d_Mo_operate_183 ?_
        rw [show I 1 y = nI (vt_k OY) from h1y]
        refine lv_if_ne (tgt := 208) hx hb d_Mo_operate_184 (by decide) (fun c20 => ?_) (fun c20 => ?_)
        · have c20 : ¬ (vt_k OY) = 0 := by rw [← gq_eq (a := vt_k OY) (b := 0) (by omega) (by omega)]; exact c20
          refine lv_aload_n hx hb d_Mo_operate_208 rfl (lv_at hl 1 rfl) ?_
          refine mo_getA C V X 1 (by decide) (by decide) f_Mo_7 rfl d_Mo_operate_209 ?_
          refine lv_iload_n hx hb d_Mo_operate_212 rfl (lv_at hl 3 rfl) ?_
          refine mo_ild (k := 1) (i := x) (n := 760) C V X (by decide) (by decide) rfl (by omega) (by decide) d_Mo_operate_213 ?_
          rw [show I 1 x = nI (vt_k OX) from h1x]
          refine lv_aload_n hx hb d_Mo_operate_214 rfl (lv_at hl 1 rfl) ?_
          refine mo_getA C V X 1 (by decide) (by decide) f_Mo_7 rfl d_Mo_operate_215 ?_
          refine lv_iload_n hx hb d_Mo_operate_218 rfl (lv_at hl 4 rfl) ?_
          refine mo_ild (k := 1) (i := y) (n := 760) C V X (by decide) (by decide) rfl (by omega) (by decide) d_Mo_operate_219 ?_
          rw [show I 1 y = nI (vt_k OY) from h1y]
          refine lv_icmp_ne (tgt := 233) hx hb d_Mo_operate_220 (by decide) (fun c21 => ?_) (fun c21 => ?_)
          · have c21 : ¬ (vt_k OX) = (vt_k OY) := by rw [← gq_eq (a := vt_k OX) (b := vt_k OY) (by omega) (by omega)]; exact c21
            refine lv_aload_n hx hb d_Mo_operate_233 rfl (lv_at hl 1 rfl) ?_
            refine lv_iconst (v := 3) hx hb d_Mo_operate_234 (by decide) ?_
            refine gh_callV C V hl.1 m_Mo_tell l_Mo_289 (c_Mo_tell l E _ _ a ad _ _ _ 3 wt X.1 hS45) rfl X.1.1 gc_Mo ⟨by first | decide | omega | (dsimp only; omega), by first | decide | omega | (dsimp only; omega)⟩ ⟨by first | decide | omega | (dsimp only; omega), by first | decide | omega | (dsimp only; omega)⟩ (Nat.le_of_ble_eq_true rfl) rfl d_Mo_operate_235 (fun r z9 H locs hp V1 => ?_)
            obtain ⟨rfl, X2⟩ := hp
            have X := X.then X2
            have V := V1
            refine W.eq (g2 := F0 m 238 ls []) rfl ?_
            refine lv_goto (tgt := 266) hx hb d_Mo_operate_238 (by decide) ?_
            refine gh_retv hAe C V hr hlocks d_Mo_operate_266 (by first | decide | omega | (dsimp only; omega)) (by first | decide | omega | (dsimp only; omega)) ?_
            exact ⟨rfl, _, _, _, X, by unfold sr_two; rw [if_pos rfl]; unfold vt_sum; rw [if_neg (by omega), if_neg (by omega)]; by_cases hkk : vt_k OX = vt_k OY; (rw [if_pos hkk, if_neg (by omega), if_neg (by omega), if_neg (by omega), if_neg (by omega)]; exact mr_fail h11 h12 (by omega)); (rw [if_neg hkk]; exact mr_fail h11 h12 (by omega))⟩
          · have c21 : (vt_k OX) = (vt_k OY) := by rw [← gq_eq (a := vt_k OX) (b := vt_k OY) (by omega) (by omega)]; exact c21
            refine lv_aload_n hx hb d_Mo_operate_223 rfl (lv_at hl 1 rfl) ?_
            refine mo_getA C V X 1 (by decide) (by decide) f_Mo_7 rfl d_Mo_operate_224 ?_
            refine lv_iload_n hx hb d_Mo_operate_227 rfl (lv_at hl 3 rfl) ?_
            refine mo_ild (k := 1) (i := x) (n := 760) C V X (by decide) (by decide) rfl (by omega) (by decide) d_Mo_operate_228 ?_
            rw [show I 1 x = nI (vt_k OX) from h1x]
            refine lv_iconst (v := 4) hx hb d_Mo_operate_229 (by decide) ?_
            refine lv_icmp_ge (tgt := 241) hx hb d_Mo_operate_230 (by decide) (fun c22 => ?_) (fun c22 => ?_)
            · have c22 : 4 ≤ (vt_k OX) := by rw [← gq_le (a := 4) (b := vt_k OX) (by omega) (by omega)]; exact c22
              refine lv_aload_n hx hb d_Mo_operate_241 rfl (lv_at hl 1 rfl) ?_
              refine mo_getA C V X 1 (by decide) (by decide) f_Mo_7 rfl d_Mo_operate_242 ?_
              refine lv_iload_n hx hb d_Mo_operate_245 rfl (lv_at hl 3 rfl) ?_
              refine mo_ild (k := 1) (i := x) (n := 760) C V X (by decide) (by decide) rfl (by omega) (by decide) d_Mo_operate_246 ?_
              rw [show I 1 x = nI (vt_k OX) from h1x]
              refine lv_iconst (v := 4) hx hb d_Mo_operate_247 (by decide) ?_
              refine lv_icmp_ne (tgt := 260) hx hb d_Mo_operate_248 (by decide) (fun c23 => ?_) (fun c23 => ?_)
              · have c23 : ¬ (vt_k OX) = 4 := by rw [← gq_eq (a := vt_k OX) (b := 4) (by omega) (by omega)]; exact c23
                refine lv_aload_n hx hb d_Mo_operate_260 rfl (lv_at hl 1 rfl) ?_
                refine lv_iload_n hx hb d_Mo_operate_261 rfl (lv_at hl 3 rfl) ?_
                refine lv_iload_n hx hb d_Mo_operate_262 rfl (lv_at hl 4 rfl) ?_
                rcases (show vt_k OX = 5 ∨ vt_k OX = 6 by omega) with hk | hk
                · refine gh_callV C V hl.1 m_Mo_joinMany l_Mo_376 (c_Mo_joinMany5 l E _ _ a ad _ _ _ b0 nv pb np wt x y OX OY X.1 h11 h12 hp8 hnv h29 hb0 hpb hS45 hc hOx hOy (by omega) (by omega)) rfl X.1.1 gc_Mo ⟨by first | decide | omega | (dsimp only; omega), by first | decide | omega | (dsimp only; omega)⟩ ⟨by first | decide | omega | (dsimp only; omega), by first | decide | omega | (dsimp only; omega)⟩ (Nat.le_of_ble_eq_true rfl) rfl d_Mo_operate_263 (fun r z9 H locs hp V1 => ?_)
                  obtain ⟨rfl, S1, I1, J1, X2, hA⟩ := hp
                  have X := X.then X2
                  have V := V1
                  refine W.eq (g2 := F0 m 266 ls []) rfl ?_
                  refine gh_retv hAe C V hr hlocks d_Mo_operate_266 (by first | decide | omega | (dsimp only; omega)) (by first | decide | omega | (dsimp only; omega)) ?_
                  exact ⟨rfl, _, _, _, X, by unfold sr_two; rw [if_pos rfl]; unfold vt_sum; rw [if_neg (by omega), if_neg (by omega), if_pos (by omega), if_neg (by omega), if_neg (by omega), if_pos (by omega)]; exact hA⟩
                · refine gh_callV C V hl.1 m_Mo_joinMany l_Mo_376 (c_Mo_joinMany6 l E _ _ a ad _ _ _ b0 nv pb np wt x y OX OY X.1 h11 h12 hp8 hnv h29 hb0 hpb hS45 hc hOx hOy (by omega) (by omega)) rfl X.1.1 gc_Mo ⟨by first | decide | omega | (dsimp only; omega), by first | decide | omega | (dsimp only; omega)⟩ ⟨by first | decide | omega | (dsimp only; omega), by first | decide | omega | (dsimp only; omega)⟩ (Nat.le_of_ble_eq_true rfl) rfl d_Mo_operate_263 (fun r z9 H locs hp V1 => ?_)
                  obtain ⟨rfl, S1, I1, J1, X2, hA⟩ := hp
                  have X := X.then X2
                  have V := V1
                  refine W.eq (g2 := F0 m 266 ls []) rfl ?_
                  refine gh_retv hAe C V hr hlocks d_Mo_operate_266 (by first | decide | omega | (dsimp only; omega)) (by first | decide | omega | (dsimp only; omega)) ?_
                  exact ⟨rfl, _, _, _, X, by unfold sr_two; rw [if_pos rfl]; unfold vt_sum; rw [if_neg (by omega), if_neg (by omega), if_pos (by omega), if_neg (by omega), if_neg (by omega), if_neg (by omega), if_pos (by omega)]; exact hA⟩
              · have c23 : (vt_k OX) = 4 := by rw [← gq_eq (a := vt_k OX) (b := 4) (by omega) (by omega)]; exact c23
                refine lv_aload_n hx hb d_Mo_operate_251 rfl (lv_at hl 1 rfl) ?_
                refine lv_iload_n hx hb d_Mo_operate_252 rfl (lv_at hl 3 rfl) ?_
                refine lv_iload_n hx hb d_Mo_operate_253 rfl (lv_at hl 4 rfl) ?_
                refine gh_callV C V hl.1 m_Mo_joinLetters l_Mo_373 (c_Mo_joinLetters l E _ _ a ad _ _ _ b0 nv pb np wt x y OX OY X.1 h11 h12 hp8 hnv h29 hb0 hpb hS45 hc hOx hOy (by omega) (by omega)) rfl X.1.1 gc_Mo ⟨by first | decide | omega | (dsimp only; omega), by first | decide | omega | (dsimp only; omega)⟩ ⟨by first | decide | omega | (dsimp only; omega), by first | decide | omega | (dsimp only; omega)⟩ (Nat.le_of_ble_eq_true rfl) rfl d_Mo_operate_254 (fun r z9 H locs hp V1 => ?_)
                obtain ⟨rfl, S1, I1, J1, X2, hA⟩ := hp
                have X := X.then X2
                have V := V1
                refine W.eq (g2 := F0 m 257 ls []) rfl ?_
                refine lv_goto (tgt := 266) hx hb d_Mo_operate_257 (by decide) ?_
                refine gh_retv hAe C V hr hlocks d_Mo_operate_266 (by first | decide | omega | (dsimp only; omega)) (by first | decide | omega | (dsimp only; omega)) ?_
                exact ⟨rfl, _, _, _, X, by unfold sr_two; rw [if_pos rfl]; unfold vt_sum; rw [if_neg (by omega), if_neg (by omega), if_pos (by omega), if_neg (by omega), if_pos (by omega)]; exact hA⟩
            · have c22 : ¬ 4 ≤ (vt_k OX) := by rw [← gq_le (a := 4) (b := vt_k OX) (by omega) (by omega)]; exact c22
              refine lv_aload_n hx hb d_Mo_operate_233 rfl (lv_at hl 1 rfl) ?_
              refine lv_iconst (v := 3) hx hb d_Mo_operate_234 (by decide) ?_
              refine gh_callV C V hl.1 m_Mo_tell l_Mo_289 (c_Mo_tell l E _ _ a ad _ _ _ 3 wt X.1 hS45) rfl X.1.1 gc_Mo ⟨by first | decide | omega | (dsimp only; omega), by first | decide | omega | (dsimp only; omega)⟩ ⟨by first | decide | omega | (dsimp only; omega), by first | decide | omega | (dsimp only; omega)⟩ (Nat.le_of_ble_eq_true rfl) rfl d_Mo_operate_235 (fun r z9 H locs hp V1 => ?_)
              obtain ⟨rfl, X2⟩ := hp
              have X := X.then X2
              have V := V1
              refine W.eq (g2 := F0 m 238 ls []) rfl ?_
              refine lv_goto (tgt := 266) hx hb d_Mo_operate_238 (by decide) ?_
              refine gh_retv hAe C V hr hlocks d_Mo_operate_266 (by first | decide | omega | (dsimp only; omega)) (by first | decide | omega | (dsimp only; omega)) ?_
              exact ⟨rfl, _, _, _, X, by unfold sr_two; rw [if_pos rfl]; unfold vt_sum; rw [if_neg (by omega), if_neg (by omega)]; by_cases hkk : vt_k OX = vt_k OY; (rw [if_pos hkk, if_neg (by omega), if_neg (by omega), if_neg (by omega), if_neg (by omega)]; exact mr_fail h11 h12 (by omega)); (rw [if_neg hkk]; exact mr_fail h11 h12 (by omega))⟩
        · have c20 : (vt_k OY) = 0 := by rw [← gq_eq (a := vt_k OY) (b := 0) (by omega) (by omega)]; exact c20
          refine lv_aload_n hx hb d_Mo_operate_187 rfl (lv_at hl 1 rfl) ?_
          refine lv_aload_n hx hb d_Mo_operate_188 rfl (lv_at hl 1 rfl) ?_
          refine mo_getA C V X 1 (by decide) (by decide) f_Mo_7 rfl d_Mo_operate_189 ?_
          refine lv_iload_n hx hb d_Mo_operate_192 rfl (lv_at hl 3 rfl) ?_
          refine mo_ild (k := 1) (i := x) (n := 760) C V X (by decide) (by decide) rfl (by omega) (by decide) d_Mo_operate_193 ?_
          rw [show I 1 x = nI (vt_k OX) from h1x]
          refine lv_if_ne (tgt := 201) hx hb d_Mo_operate_194 (by decide) (fun c24 => ?_) (fun c24 => ?_)
          · have c24 : ¬ (vt_k OX) = 0 := by rw [← gq_eq (a := vt_k OX) (b := 0) (by omega) (by omega)]; exact c24
            refine lv_iload_n hx hb d_Mo_operate_201 rfl (lv_at hl 3 rfl) ?_
            refine gh_callV C V hl.1 m_Mo_give l_Mo_342 (c_Mo_give l E _ _ a ad _ _ _ (nI x) wt X.1 hS45) rfl X.1.1 gc_Mo ⟨by first | decide | omega | (dsimp only; omega), by first | decide | omega | (dsimp only; omega)⟩ ⟨by first | decide | omega | (dsimp only; omega), by first | decide | omega | (dsimp only; omega)⟩ (Nat.le_of_ble_eq_true rfl) rfl d_Mo_operate_202 (fun r z9 H locs hp V1 => ?_)
            obtain ⟨rfl, X2⟩ := hp
            have X := X.then X2
            have V := V1
            refine W.eq (g2 := F0 m 205 ls []) rfl ?_
            refine lv_goto (tgt := 266) hx hb d_Mo_operate_205 (by decide) ?_
            refine gh_retv hAe C V hr hlocks d_Mo_operate_266 (by first | decide | omega | (dsimp only; omega)) (by first | decide | omega | (dsimp only; omega)) ?_
            exact ⟨rfl, _, _, _, X, by unfold sr_two; rw [if_pos rfl]; unfold vt_sum; rw [if_neg (by omega), if_pos (by omega)]; exact mr_give h11 h12 (by omega) hOx⟩
          · have c24 : (vt_k OX) = 0 := by rw [← gq_eq (a := vt_k OX) (b := 0) (by omega) (by omega)]; exact c24
            refine lv_iload_n hx hb d_Mo_operate_197 rfl (lv_at hl 4 rfl) ?_
            refine lv_goto (tgt := 202) hx hb d_Mo_operate_198 (by decide) ?_
            refine gh_callV C V hl.1 m_Mo_give l_Mo_342 (c_Mo_give l E _ _ a ad _ _ _ (nI y) wt X.1 hS45) rfl X.1.1 gc_Mo ⟨by first | decide | omega | (dsimp only; omega), by first | decide | omega | (dsimp only; omega)⟩ ⟨by first | decide | omega | (dsimp only; omega), by first | decide | omega | (dsimp only; omega)⟩ (Nat.le_of_ble_eq_true rfl) rfl d_Mo_operate_202 (fun r z9 H locs hp V1 => ?_)
            obtain ⟨rfl, X2⟩ := hp
            have X := X.then X2
            have V := V1
            refine W.eq (g2 := F0 m 205 ls []) rfl ?_
            refine lv_goto (tgt := 266) hx hb d_Mo_operate_205 (by decide) ?_
            refine gh_retv hAe C V hr hlocks d_Mo_operate_266 (by first | decide | omega | (dsimp only; omega)) (by first | decide | omega | (dsimp only; omega)) ?_
            exact ⟨rfl, _, _, _, X, by unfold sr_two; rw [if_pos rfl]; unfold vt_sum; rw [if_pos (by omega)]; exact mr_give h11 h12 (by omega) hOy⟩
    · have c13 : (vt_k OY) = 3 := by rw [← gq_eq (a := vt_k OY) (b := 3) (by omega) (by omega)]; exact c13
      refine lv_iconst (v := 1) hx hb d_Mo_operate_20 (by decide) ?_
      refine lv_goto (tgt := 25) hx hb d_Mo_operate_21 (by decide) ?_
      refine lv_istore hx hb d_Mo_operate_25 hl (by decide) rfl (fun ls hl => ?_)
      have hl : lv_has ls 5 [(4, .int 1), (0, .ref a), (1, .int 22), (2, .int (nI x)), (3, .int (nI y))] := hl
      refine lv_iload_n hx hb d_Mo_operate_27 rfl (lv_at hl 2 rfl) ?_
      refine lv_bipush (v := 25) hx hb d_Mo_operate_28 (by decide) ?_
      refine lv_icmp_ne (tgt := 54) hx hb d_Mo_operate_30 (by decide) (fun c25 => ?_) (fun c25 => absurd c25 (by decide))
      refine lv_iload_n hx hb d_Mo_operate_54 rfl (lv_at hl 2 rfl) ?_
      refine lv_bipush (v := 26) hx hb d_Mo_operate_55 (by decide) ?_
      refine lv_icmp_ne (tgt := 81) hx hb d_Mo_operate_57 (by decide) (fun c26 => ?_) (fun c26 => absurd c26 (by decide))
      refine lv_iload hx hb d_Mo_operate_81 (lv_at hl 0 rfl) ?_
      refine lv_if_eq (tgt := 155) hx hb d_Mo_operate_83 (by decide) (fun c27 => absurd c27 (by decide)) (fun c27 => ?_)
      refine lv_aload_n hx hb d_Mo_operate_86 rfl (lv_at hl 1 rfl) ?_
      refine lv_aload_n hx hb d_Mo_operate_87 rfl (lv_at hl 1 rfl) ?_
      refine lv_iconst (v := 3) hx hb d_Mo_operate_88 (by decide) ?_
      refine lv_iload_n hx hb d_Mo_operate_89 rfl (lv_at hl 2 rfl) ?_
      refine lv_bipush (v := 22) hx hb d_Mo_operate_90 (by decide) ?_
      refine lv_icmp_ne (tgt := 111) hx hb d_Mo_operate_92 (by decide) (fun c28 => absurd (by decide) c28) (fun c28 => ?_)
      refine lv_aload_n hx hb d_Mo_operate_95 rfl (lv_at hl 1 rfl) ?_
      refine mo_getA C V X 2 (by decide) (by decide) f_Mo_13 rfl d_Mo_operate_96 ?_
      refine lv_iload_n hx hb d_Mo_operate_99 rfl (lv_at hl 3 rfl) ?_
      refine mo_lld (k := 2) (i := x) (n := 760) C V X (by decide) (by decide) rfl (by omega) (by decide) d_Mo_operate_100 ?_
      rw [show J 2 x = vt_n OX from h2x]
      refine lv_aload_n hx hb d_Mo_operate_101 rfl (lv_at hl 1 rfl) ?_
      refine mo_getA C V X 2 (by decide) (by decide) f_Mo_13 rfl d_Mo_operate_102 ?_
      refine lv_iload_n hx hb d_Mo_operate_105 rfl (lv_at hl 4 rfl) ?_
      refine mo_lld (k := 2) (i := y) (n := 760) C V X (by decide) (by decide) rfl (by omega) (by decide) d_Mo_operate_106 ?_
      rw [show J 2 y = vt_n OY from h2y]
      refine lv_ladd hx hb d_Mo_operate_107 ?_
      refine lv_goto (tgt := 146) hx hb d_Mo_operate_108 (by decide) ?_
      refine gh_callV C V hl.1 m_Mo_make l_Mo_159 (c_Mo_mk l E _ _ a ad _ _ _ 3 ((vt_n OX) + (vt_n OY)) nv X.1 h11 hnv) rfl X.1.1 gc_Mo ⟨by first | decide | omega | (dsimp only; omega), by first | decide | omega | (dsimp only; omega)⟩ ⟨by first | decide | omega | (dsimp only; omega), by first | decide | omega | (dsimp only; omega)⟩ (Nat.le_of_ble_eq_true rfl) rfl d_Mo_operate_146 (fun r z9 H locs hp V1 => ?_)
      obtain ⟨rfl, S1, I1, J1, X2, hmk⟩ := hp
      have X := X.then X2
      have V := V1
      have h45a : S1 45 = nI (wt + 1) := by rw [hmk.1, va_up_n (by decide)]; exact hS45
      refine W.eq (g2 := F0 m 149 ls [.int (nI nv), .ref a]) rfl ?_
      refine gh_callV C V hl.1 m_Mo_give l_Mo_342 (c_Mo_give l E _ _ a ad _ _ _ (nI nv) wt X.1 h45a) rfl X.1.1 gc_Mo ⟨by first | decide | omega | (dsimp only; omega), by first | decide | omega | (dsimp only; omega)⟩ ⟨by first | decide | omega | (dsimp only; omega), by first | decide | omega | (dsimp only; omega)⟩ (Nat.le_of_ble_eq_true rfl) rfl d_Mo_operate_149 (fun r z9 H locs hp V1 => ?_)
      obtain ⟨rfl, X2⟩ := hp
      have X := X.then X2
      have V := V1
      refine W.eq (g2 := F0 m 152 ls []) rfl ?_
      refine lv_goto (tgt := 266) hx hb d_Mo_operate_152 (by decide) ?_
      refine gh_retv hAe C V hr hlocks d_Mo_operate_266 (by first | decide | omega | (dsimp only; omega)) (by first | decide | omega | (dsimp only; omega)) ?_
      exact ⟨rfl, _, _, _, X, by unfold sr_two; rw [if_pos rfl]; unfold vt_sum; rw [if_neg (by omega), if_neg (by omega), if_pos (by omega), if_pos (by omega)]; exact mr_int hmk h12 hb0 hnv h29 (by omega)⟩
set_option maxHeartbeats 4000000 in
set_option maxRecDepth 100000 in
theorem c_Mo_operate23 (l : Launch) (E : gh_E) (sz : Nat) (f : gh_F) (a : Nat) (ad : Nat → Nat) (S : Nat → Int32) (I : Nat → Nat → Int32) (J : Nat → Nat → Int64) (b0 nv pb np wt : Nat) (x y : Nat) (OX OY : vt) (hX : mo_R E f a ad S I J) (h11 : S 11 = nI nv) (h12 : S 12 = nI np) (hp8 : np + 32 ≤ 8800) (hnv : nv < 760) (h29 : 29 ≤ nv) (hb0 : b0 ≤ nv) (hpb : pb ≤ np) (hS45 : S 45 = nI (wt + 1)) (hc : mc I J b0 nv pb np) (hOx : mw I J b0 nv pb np x OX) (hOy : mw I J b0 nv pb np y OY) : gh_M l y_Mo_operate b_Mo_operate 5 none E sz [.ref a, .int 23, .int (nI x), .int (nI y)] f { frames := 8, cells := 0, slots := 0, locals := 280 } (fun r g => r = none ∧ ∃ S2 I2 J2, mo_X E f g a ad S2 I2 J2 ∧ mr_A (sr_two 23 OX OY) S I J b0 nv pb np wt S2 I2 J2) := by
  obtain ⟨hax, h1x, h2x, h3x, h4x, h5x, h6x, h7x⟩ := mv_o.mp hOx.1
  have hx7 := hax.2
  have hoX := vo_o.mp hOx.2
  have hkx6 := hoX.1
  have hcx16 := hoX.2.2.2.2.2.2.1
  obtain ⟨hay, h1y, h2y, h3y, h4y, h5y, h6y, h7y⟩ := mv_o.mp hOy.1
  have hy7 := hay.2
  have hoY := vo_o.mp hOy.2
  have hky6 := hoY.1
  have hcy16 := hoY.2.2.2.2.2.2.1
  refine gh_open (by decide) (Nat.le_of_ble_eq_true rfl) ?_
  intro p e s m args below meth c A ls hAe C V hr hlocks hname hl
  have hx := C.1
  have hb := C.2.1
  have hl : lv_has ls 5 [(0, .ref a), (1, .int 23), (2, .int (nI x)), (3, .int (nI y))] := hl
  have X : mo_X E f f a ad S I J := ⟨hX, gh_fr.rf⟩
  refine lv_aload_n hx hb d_Mo_operate_0 rfl (lv_at hl 0 rfl) ?_
  refine mo_getA C V X 1 (by decide) (by decide) f_Mo_7 rfl d_Mo_operate_1 ?_
  refine lv_iload_n hx hb d_Mo_operate_4 rfl (lv_at hl 2 rfl) ?_
  refine mo_ild (k := 1) (i := x) (n := 760) C V X (by decide) (by decide) rfl (by omega) (by decide) d_Mo_operate_5 ?_
  rw [show I 1 x = nI (vt_k OX) from h1x]
  refine lv_iconst (v := 3) hx hb d_Mo_operate_6 (by decide) ?_
  refine lv_icmp_ne (tgt := 24) hx hb d_Mo_operate_7 (by decide) (fun c1 => ?_) (fun c1 => ?_)
  · have c1 : ¬ (vt_k OX) = 3 := by rw [← gq_eq (a := vt_k OX) (b := 3) (by omega) (by omega)]; exact c1
    refine lv_iconst (v := 0) hx hb d_Mo_operate_24 (by decide) ?_
    refine lv_istore hx hb d_Mo_operate_25 hl (by decide) rfl (fun ls hl => ?_)
    have hl : lv_has ls 5 [(4, .int 0), (0, .ref a), (1, .int 23), (2, .int (nI x)), (3, .int (nI y))] := hl
    refine lv_iload_n hx hb d_Mo_operate_27 rfl (lv_at hl 2 rfl) ?_
    refine lv_bipush (v := 25) hx hb d_Mo_operate_28 (by decide) ?_
    refine lv_icmp_ne (tgt := 54) hx hb d_Mo_operate_30 (by decide) (fun c2 => ?_) (fun c2 => absurd c2 (by decide))
    refine lv_iload_n hx hb d_Mo_operate_54 rfl (lv_at hl 2 rfl) ?_
    refine lv_bipush (v := 26) hx hb d_Mo_operate_55 (by decide) ?_
    refine lv_icmp_ne (tgt := 81) hx hb d_Mo_operate_57 (by decide) (fun c3 => ?_) (fun c3 => absurd c3 (by decide))
    refine lv_iload hx hb d_Mo_operate_81 (lv_at hl 0 rfl) ?_
    refine lv_if_eq (tgt := 155) hx hb d_Mo_operate_83 (by decide) (fun c4 => ?_) (fun c4 => absurd (by decide) c4)
    refine lv_iload_n hx hb d_Mo_operate_155 rfl (lv_at hl 2 rfl) ?_
    refine lv_bipush (v := 22) hx hb d_Mo_operate_156 (by decide) ?_
    refine lv_icmp_le (tgt := 169) hx hb d_Mo_operate_158 (by decide) (fun c5 => absurd c5 (by decide)) (fun c5 => ?_)
    refine lv_aload_n hx hb d_Mo_operate_161 rfl (lv_at hl 1 rfl) ?_
    refine lv_iconst (v := 3) hx hb d_Mo_operate_162 (by decide) ?_
    refine gh_callV C V hl.1 m_Mo_tell l_Mo_289 (c_Mo_tell l E _ _ a ad _ _ _ 3 wt X.1 hS45) rfl X.1.1 gc_Mo ⟨by first | decide | omega | (dsimp only; omega), by first | decide | omega | (dsimp only; omega)⟩ ⟨by first | decide | omega | (dsimp only; omega), by first | decide | omega | (dsimp only; omega)⟩ (Nat.le_of_ble_eq_true rfl) rfl d_Mo_operate_163 (fun r z9 H locs hp V1 => ?_)
    obtain ⟨rfl, X2⟩ := hp
    have X := X.then X2
    have V := V1
    refine W.eq (g2 := F0 m 166 ls []) rfl ?_
    refine lv_goto (tgt := 266) hx hb d_Mo_operate_166 (by decide) ?_
    refine gh_retv hAe C V hr hlocks d_Mo_operate_266 (by first | decide | omega | (dsimp only; omega)) (by first | decide | omega | (dsimp only; omega)) ?_
    exact ⟨rfl, _, _, _, X, by unfold sr_two; rw [if_neg (by decide), if_pos rfl]; unfold vt_dif; rw [if_neg (by omega)]; exact mr_fail h11 h12 (by omega)⟩
  · have c1 : (vt_k OX) = 3 := by rw [← gq_eq (a := vt_k OX) (b := 3) (by omega) (by omega)]; exact c1
    refine lv_aload_n hx hb d_Mo_operate_10 rfl (lv_at hl 0 rfl) ?_
    refine mo_getA C V X 1 (by decide) (by decide) f_Mo_7 rfl d_Mo_operate_11 ?_
    refine lv_iload_n hx hb d_Mo_operate_14 rfl (lv_at hl 3 rfl) ?_
    refine mo_ild (k := 1) (i := y) (n := 760) C V X (by decide) (by decide) rfl (by omega) (by decide) d_Mo_operate_15 ?_
    rw [show I 1 y = nI (vt_k OY) from h1y]
    refine lv_iconst (v := 3) hx hb d_Mo_operate_16 (by decide) ?_
    refine lv_icmp_ne (tgt := 24) hx hb d_Mo_operate_17 (by decide) (fun c6 => ?_) (fun c6 => ?_)
    · have c6 : ¬ (vt_k OY) = 3 := by rw [← gq_eq (a := vt_k OY) (b := 3) (by omega) (by omega)]; exact c6
      refine lv_iconst (v := 0) hx hb d_Mo_operate_24 (by decide) ?_
      refine lv_istore hx hb d_Mo_operate_25 hl (by decide) rfl (fun ls hl => ?_)
      have hl : lv_has ls 5 [(4, .int 0), (0, .ref a), (1, .int 23), (2, .int (nI x)), (3, .int (nI y))] := hl
      refine lv_iload_n hx hb d_Mo_operate_27 rfl (lv_at hl 2 rfl) ?_
      refine lv_bipush (v := 25) hx hb d_Mo_operate_28 (by decide) ?_
      refine lv_icmp_ne (tgt := 54) hx hb d_Mo_operate_30 (by decide) (fun c7 => ?_) (fun c7 => absurd c7 (by decide))
      refine lv_iload_n hx hb d_Mo_operate_54 rfl (lv_at hl 2 rfl) ?_
      refine lv_bipush (v := 26) hx hb d_Mo_operate_55 (by decide) ?_
      refine lv_icmp_ne (tgt := 81) hx hb d_Mo_operate_57 (by decide) (fun c8 => ?_) (fun c8 => absurd c8 (by decide))
      refine lv_iload hx hb d_Mo_operate_81 (lv_at hl 0 rfl) ?_
      refine lv_if_eq (tgt := 155) hx hb d_Mo_operate_83 (by decide) (fun c9 => ?_) (fun c9 => absurd (by decide) c9)
      refine lv_iload_n hx hb d_Mo_operate_155 rfl (lv_at hl 2 rfl) ?_
      refine lv_bipush (v := 22) hx hb d_Mo_operate_156 (by decide) ?_
      refine lv_icmp_le (tgt := 169) hx hb d_Mo_operate_158 (by decide) (fun c10 => absurd c10 (by decide)) (fun c10 => ?_)
      refine lv_aload_n hx hb d_Mo_operate_161 rfl (lv_at hl 1 rfl) ?_
      refine lv_iconst (v := 3) hx hb d_Mo_operate_162 (by decide) ?_
      refine gh_callV C V hl.1 m_Mo_tell l_Mo_289 (c_Mo_tell l E _ _ a ad _ _ _ 3 wt X.1 hS45) rfl X.1.1 gc_Mo ⟨by first | decide | omega | (dsimp only; omega), by first | decide | omega | (dsimp only; omega)⟩ ⟨by first | decide | omega | (dsimp only; omega), by first | decide | omega | (dsimp only; omega)⟩ (Nat.le_of_ble_eq_true rfl) rfl d_Mo_operate_163 (fun r z9 H locs hp V1 => ?_)
      obtain ⟨rfl, X2⟩ := hp
      have X := X.then X2
      have V := V1
      refine W.eq (g2 := F0 m 166 ls []) rfl ?_
      refine lv_goto (tgt := 266) hx hb d_Mo_operate_166 (by decide) ?_
      refine gh_retv hAe C V hr hlocks d_Mo_operate_266 (by first | decide | omega | (dsimp only; omega)) (by first | decide | omega | (dsimp only; omega)) ?_
      exact ⟨rfl, _, _, _, X, by unfold sr_two; rw [if_neg (by decide), if_pos rfl]; unfold vt_dif; rw [if_neg (by omega)]; exact mr_fail h11 h12 (by omega)⟩
    · have c6 : (vt_k OY) = 3 := by rw [← gq_eq (a := vt_k OY) (b := 3) (by omega) (by omega)]; exact c6
      refine lv_iconst (v := 1) hx hb d_Mo_operate_20 (by decide) ?_
      refine lv_goto (tgt := 25) hx hb d_Mo_operate_21 (by decide) ?_
      refine lv_istore hx hb d_Mo_operate_25 hl (by decide) rfl (fun ls hl => ?_)
      have hl : lv_has ls 5 [(4, .int 1), (0, .ref a), (1, .int 23), (2, .int (nI x)), (3, .int (nI y))] := hl
      refine lv_iload_n hx hb d_Mo_operate_27 rfl (lv_at hl 2 rfl) ?_
      refine lv_bipush (v := 25) hx hb d_Mo_operate_28 (by decide) ?_
      refine lv_icmp_ne (tgt := 54) hx hb d_Mo_operate_30 (by decide) (fun c11 => ?_) (fun c11 => absurd c11 (by decide))
      refine lv_iload_n hx hb d_Mo_operate_54 rfl (lv_at hl 2 rfl) ?_
      refine lv_bipush (v := 26) hx hb d_Mo_operate_55 (by decide) ?_
      refine lv_icmp_ne (tgt := 81) hx hb d_Mo_operate_57 (by decide) (fun c12 => ?_) (fun c12 => absurd c12 (by decide))
      refine lv_iload hx hb d_Mo_operate_81 (lv_at hl 0 rfl) ?_
      refine lv_if_eq (tgt := 155) hx hb d_Mo_operate_83 (by decide) (fun c13 => absurd c13 (by decide)) (fun c13 => ?_)
      refine lv_aload_n hx hb d_Mo_operate_86 rfl (lv_at hl 1 rfl) ?_
      refine lv_aload_n hx hb d_Mo_operate_87 rfl (lv_at hl 1 rfl) ?_
      refine lv_iconst (v := 3) hx hb d_Mo_operate_88 (by decide) ?_
      refine lv_iload_n hx hb d_Mo_operate_89 rfl (lv_at hl 2 rfl) ?_
      refine lv_bipush (v := 22) hx hb d_Mo_operate_90 (by decide) ?_
      refine lv_icmp_ne (tgt := 111) hx hb d_Mo_operate_92 (by decide) (fun c14 => ?_) (fun c14 => absurd c14 (by decide))
      refine lv_iload_n hx hb d_Mo_operate_111 rfl (lv_at hl 2 rfl) ?_
      refine lv_bipush (v := 23) hx hb d_Mo_operate_112 (by decide) ?_
      refine lv_icmp_ne (tgt := 133) hx hb d_Mo_operate_114 (by decide) (fun c15 => absurd (by decide) c15) (fun c15 => ?_)
      refine lv_aload_n hx hb d_Mo_operate_117 rfl (lv_at hl 1 rfl) ?_
      refine mo_getA C V X 2 (by decide) (by decide) f_Mo_13 rfl d_Mo_operate_118 ?_
      refine lv_iload_n hx hb d_Mo_operate_121 rfl (lv_at hl 3 rfl) ?_
      refine mo_lld (k := 2) (i := x) (n := 760) C V X (by decide) (by decide) rfl (by omega) (by decide) d_Mo_operate_122 ?_
      rw [show J 2 x = vt_n OX from h2x]
      refine lv_aload_n hx hb d_Mo_operate_123 rfl (lv_at hl 1 rfl) ?_
      refine mo_getA C V X 2 (by decide) (by decide) f_Mo_13 rfl d_Mo_operate_124 ?_
      refine lv_iload_n hx hb d_Mo_operate_127 rfl (lv_at hl 4 rfl) ?_
      refine mo_lld (k := 2) (i := y) (n := 760) C V X (by decide) (by decide) rfl (by omega) (by decide) d_Mo_operate_128 ?_
      rw [show J 2 y = vt_n OY from h2y]
      refine lv_lsub hx hb d_Mo_operate_129 ?_
      refine lv_goto (tgt := 146) hx hb d_Mo_operate_130 (by decide) ?_
      refine gh_callV C V hl.1 m_Mo_make l_Mo_159 (c_Mo_mk l E _ _ a ad _ _ _ 3 ((vt_n OX) - (vt_n OY)) nv X.1 h11 hnv) rfl X.1.1 gc_Mo ⟨by first | decide | omega | (dsimp only; omega), by first | decide | omega | (dsimp only; omega)⟩ ⟨by first | decide | omega | (dsimp only; omega), by first | decide | omega | (dsimp only; omega)⟩ (Nat.le_of_ble_eq_true rfl) rfl d_Mo_operate_146 (fun r z9 H locs hp V1 => ?_)
      obtain ⟨rfl, S1, I1, J1, X2, hmk⟩ := hp
      have X := X.then X2
      have V := V1
      have h45a : S1 45 = nI (wt + 1) := by rw [hmk.1, va_up_n (by decide)]; exact hS45
      refine W.eq (g2 := F0 m 149 ls [.int (nI nv), .ref a]) rfl ?_
      refine gh_callV C V hl.1 m_Mo_give l_Mo_342 (c_Mo_give l E _ _ a ad _ _ _ (nI nv) wt X.1 h45a) rfl X.1.1 gc_Mo ⟨by first | decide | omega | (dsimp only; omega), by first | decide | omega | (dsimp only; omega)⟩ ⟨by first | decide | omega | (dsimp only; omega), by first | decide | omega | (dsimp only; omega)⟩ (Nat.le_of_ble_eq_true rfl) rfl d_Mo_operate_149 (fun r z9 H locs hp V1 => ?_)
      obtain ⟨rfl, X2⟩ := hp
      have X := X.then X2
      have V := V1
      refine W.eq (g2 := F0 m 152 ls []) rfl ?_
      refine lv_goto (tgt := 266) hx hb d_Mo_operate_152 (by decide) ?_
      refine gh_retv hAe C V hr hlocks d_Mo_operate_266 (by first | decide | omega | (dsimp only; omega)) (by first | decide | omega | (dsimp only; omega)) ?_
      exact ⟨rfl, _, _, _, X, by unfold sr_two; rw [if_neg (by decide), if_pos rfl]; unfold vt_dif; rw [if_pos ⟨by omega, by omega⟩]; exact mr_int hmk h12 hb0 hnv h29 (by omega)⟩
set_option maxHeartbeats 4000000 in
set_option maxRecDepth 100000 in
theorem c_Mo_operate24 (l : Launch) (E : gh_E) (sz : Nat) (f : gh_F) (a : Nat) (ad : Nat → Nat) (S : Nat → Int32) (I : Nat → Nat → Int32) (J : Nat → Nat → Int64) (b0 nv pb np wt : Nat) (x y : Nat) (OX OY : vt) (hX : mo_R E f a ad S I J) (h11 : S 11 = nI nv) (h12 : S 12 = nI np) (hp8 : np + 32 ≤ 8800) (hnv : nv < 760) (h29 : 29 ≤ nv) (hb0 : b0 ≤ nv) (hpb : pb ≤ np) (hS45 : S 45 = nI (wt + 1)) (hc : mc I J b0 nv pb np) (hOx : mw I J b0 nv pb np x OX) (hOy : mw I J b0 nv pb np y OY) : gh_M l y_Mo_operate b_Mo_operate 5 none E sz [.ref a, .int 24, .int (nI x), .int (nI y)] f { frames := 8, cells := 0, slots := 0, locals := 280 } (fun r g => r = none ∧ ∃ S2 I2 J2, mo_X E f g a ad S2 I2 J2 ∧ mr_A (sr_two 24 OX OY) S I J b0 nv pb np wt S2 I2 J2) := by
  obtain ⟨hax, h1x, h2x, h3x, h4x, h5x, h6x, h7x⟩ := mv_o.mp hOx.1
  have hx7 := hax.2
  have hoX := vo_o.mp hOx.2
  have hkx6 := hoX.1
  have hcx16 := hoX.2.2.2.2.2.2.1
  obtain ⟨hay, h1y, h2y, h3y, h4y, h5y, h6y, h7y⟩ := mv_o.mp hOy.1
  have hy7 := hay.2
  have hoY := vo_o.mp hOy.2
  have hky6 := hoY.1
  have hcy16 := hoY.2.2.2.2.2.2.1
  refine gh_open (by decide) (Nat.le_of_ble_eq_true rfl) ?_
  intro p e s m args below meth c A ls hAe C V hr hlocks hname hl
  have hx := C.1
  have hb := C.2.1
  have hl : lv_has ls 5 [(0, .ref a), (1, .int 24), (2, .int (nI x)), (3, .int (nI y))] := hl
  have X : mo_X E f f a ad S I J := ⟨hX, gh_fr.rf⟩
  refine lv_aload_n hx hb d_Mo_operate_0 rfl (lv_at hl 0 rfl) ?_
  refine mo_getA C V X 1 (by decide) (by decide) f_Mo_7 rfl d_Mo_operate_1 ?_
  refine lv_iload_n hx hb d_Mo_operate_4 rfl (lv_at hl 2 rfl) ?_
  refine mo_ild (k := 1) (i := x) (n := 760) C V X (by decide) (by decide) rfl (by omega) (by decide) d_Mo_operate_5 ?_
  rw [show I 1 x = nI (vt_k OX) from h1x]
  refine lv_iconst (v := 3) hx hb d_Mo_operate_6 (by decide) ?_
  refine lv_icmp_ne (tgt := 24) hx hb d_Mo_operate_7 (by decide) (fun c1 => ?_) (fun c1 => ?_)
  · have c1 : ¬ (vt_k OX) = 3 := by rw [← gq_eq (a := vt_k OX) (b := 3) (by omega) (by omega)]; exact c1
    refine lv_iconst (v := 0) hx hb d_Mo_operate_24 (by decide) ?_
    refine lv_istore hx hb d_Mo_operate_25 hl (by decide) rfl (fun ls hl => ?_)
    have hl : lv_has ls 5 [(4, .int 0), (0, .ref a), (1, .int 24), (2, .int (nI x)), (3, .int (nI y))] := hl
    refine lv_iload_n hx hb d_Mo_operate_27 rfl (lv_at hl 2 rfl) ?_
    refine lv_bipush (v := 25) hx hb d_Mo_operate_28 (by decide) ?_
    refine lv_icmp_ne (tgt := 54) hx hb d_Mo_operate_30 (by decide) (fun c2 => ?_) (fun c2 => absurd c2 (by decide))
    refine lv_iload_n hx hb d_Mo_operate_54 rfl (lv_at hl 2 rfl) ?_
    refine lv_bipush (v := 26) hx hb d_Mo_operate_55 (by decide) ?_
    refine lv_icmp_ne (tgt := 81) hx hb d_Mo_operate_57 (by decide) (fun c3 => ?_) (fun c3 => absurd c3 (by decide))
    refine lv_iload hx hb d_Mo_operate_81 (lv_at hl 0 rfl) ?_
    refine lv_if_eq (tgt := 155) hx hb d_Mo_operate_83 (by decide) (fun c4 => ?_) (fun c4 => absurd (by decide) c4)
    refine lv_iload_n hx hb d_Mo_operate_155 rfl (lv_at hl 2 rfl) ?_
    refine lv_bipush (v := 22) hx hb d_Mo_operate_156 (by decide) ?_
    refine lv_icmp_le (tgt := 169) hx hb d_Mo_operate_158 (by decide) (fun c5 => absurd c5 (by decide)) (fun c5 => ?_)
    refine lv_aload_n hx hb d_Mo_operate_161 rfl (lv_at hl 1 rfl) ?_
    refine lv_iconst (v := 3) hx hb d_Mo_operate_162 (by decide) ?_
    refine gh_callV C V hl.1 m_Mo_tell l_Mo_289 (c_Mo_tell l E _ _ a ad _ _ _ 3 wt X.1 hS45) rfl X.1.1 gc_Mo ⟨by first | decide | omega | (dsimp only; omega), by first | decide | omega | (dsimp only; omega)⟩ ⟨by first | decide | omega | (dsimp only; omega), by first | decide | omega | (dsimp only; omega)⟩ (Nat.le_of_ble_eq_true rfl) rfl d_Mo_operate_163 (fun r z9 H locs hp V1 => ?_)
    obtain ⟨rfl, X2⟩ := hp
    have X := X.then X2
    have V := V1
    refine W.eq (g2 := F0 m 166 ls []) rfl ?_
    refine lv_goto (tgt := 266) hx hb d_Mo_operate_166 (by decide) ?_
    refine gh_retv hAe C V hr hlocks d_Mo_operate_266 (by first | decide | omega | (dsimp only; omega)) (by first | decide | omega | (dsimp only; omega)) ?_
    exact ⟨rfl, _, _, _, X, by unfold sr_two; rw [if_neg (by decide), if_neg (by decide), if_pos rfl]; unfold vt_mul; rw [if_neg (by omega)]; exact mr_fail h11 h12 (by omega)⟩
  · have c1 : (vt_k OX) = 3 := by rw [← gq_eq (a := vt_k OX) (b := 3) (by omega) (by omega)]; exact c1
    refine lv_aload_n hx hb d_Mo_operate_10 rfl (lv_at hl 0 rfl) ?_
    refine mo_getA C V X 1 (by decide) (by decide) f_Mo_7 rfl d_Mo_operate_11 ?_
    refine lv_iload_n hx hb d_Mo_operate_14 rfl (lv_at hl 3 rfl) ?_
    refine mo_ild (k := 1) (i := y) (n := 760) C V X (by decide) (by decide) rfl (by omega) (by decide) d_Mo_operate_15 ?_
    rw [show I 1 y = nI (vt_k OY) from h1y]
    refine lv_iconst (v := 3) hx hb d_Mo_operate_16 (by decide) ?_
    refine lv_icmp_ne (tgt := 24) hx hb d_Mo_operate_17 (by decide) (fun c6 => ?_) (fun c6 => ?_)
    · have c6 : ¬ (vt_k OY) = 3 := by rw [← gq_eq (a := vt_k OY) (b := 3) (by omega) (by omega)]; exact c6
      refine lv_iconst (v := 0) hx hb d_Mo_operate_24 (by decide) ?_
      refine lv_istore hx hb d_Mo_operate_25 hl (by decide) rfl (fun ls hl => ?_)
      have hl : lv_has ls 5 [(4, .int 0), (0, .ref a), (1, .int 24), (2, .int (nI x)), (3, .int (nI y))] := hl
      refine lv_iload_n hx hb d_Mo_operate_27 rfl (lv_at hl 2 rfl) ?_
      refine lv_bipush (v := 25) hx hb d_Mo_operate_28 (by decide) ?_
      refine lv_icmp_ne (tgt := 54) hx hb d_Mo_operate_30 (by decide) (fun c7 => ?_) (fun c7 => absurd c7 (by decide))
      refine lv_iload_n hx hb d_Mo_operate_54 rfl (lv_at hl 2 rfl) ?_
      refine lv_bipush (v := 26) hx hb d_Mo_operate_55 (by decide) ?_
      refine lv_icmp_ne (tgt := 81) hx hb d_Mo_operate_57 (by decide) (fun c8 => ?_) (fun c8 => absurd c8 (by decide))
      refine lv_iload hx hb d_Mo_operate_81 (lv_at hl 0 rfl) ?_
      refine lv_if_eq (tgt := 155) hx hb d_Mo_operate_83 (by decide) (fun c9 => ?_) (fun c9 => absurd (by decide) c9)
      refine lv_iload_n hx hb d_Mo_operate_155 rfl (lv_at hl 2 rfl) ?_
      refine lv_bipush (v := 22) hx hb d_Mo_operate_156 (by decide) ?_
      refine lv_icmp_le (tgt := 169) hx hb d_Mo_operate_158 (by decide) (fun c10 => absurd c10 (by decide)) (fun c10 => ?_)
      refine lv_aload_n hx hb d_Mo_operate_161 rfl (lv_at hl 1 rfl) ?_
      refine lv_iconst (v := 3) hx hb d_Mo_operate_162 (by decide) ?_
      refine gh_callV C V hl.1 m_Mo_tell l_Mo_289 (c_Mo_tell l E _ _ a ad _ _ _ 3 wt X.1 hS45) rfl X.1.1 gc_Mo ⟨by first | decide | omega | (dsimp only; omega), by first | decide | omega | (dsimp only; omega)⟩ ⟨by first | decide | omega | (dsimp only; omega), by first | decide | omega | (dsimp only; omega)⟩ (Nat.le_of_ble_eq_true rfl) rfl d_Mo_operate_163 (fun r z9 H locs hp V1 => ?_)
      obtain ⟨rfl, X2⟩ := hp
      have X := X.then X2
      have V := V1
      refine W.eq (g2 := F0 m 166 ls []) rfl ?_
      refine lv_goto (tgt := 266) hx hb d_Mo_operate_166 (by decide) ?_
      refine gh_retv hAe C V hr hlocks d_Mo_operate_266 (by first | decide | omega | (dsimp only; omega)) (by first | decide | omega | (dsimp only; omega)) ?_
      exact ⟨rfl, _, _, _, X, by unfold sr_two; rw [if_neg (by decide), if_neg (by decide), if_pos rfl]; unfold vt_mul; rw [if_neg (by omega)]; exact mr_fail h11 h12 (by omega)⟩
    · have c6 : (vt_k OY) = 3 := by rw [← gq_eq (a := vt_k OY) (b := 3) (by omega) (by omega)]; exact c6
      refine lv_iconst (v := 1) hx hb d_Mo_operate_20 (by decide) ?_
      refine lv_goto (tgt := 25) hx hb d_Mo_operate_21 (by decide) ?_
      refine lv_istore hx hb d_Mo_operate_25 hl (by decide) rfl (fun ls hl => ?_)
      have hl : lv_has ls 5 [(4, .int 1), (0, .ref a), (1, .int 24), (2, .int (nI x)), (3, .int (nI y))] := hl
      refine lv_iload_n hx hb d_Mo_operate_27 rfl (lv_at hl 2 rfl) ?_
      refine lv_bipush (v := 25) hx hb d_Mo_operate_28 (by decide) ?_
      refine lv_icmp_ne (tgt := 54) hx hb d_Mo_operate_30 (by decide) (fun c11 => ?_) (fun c11 => absurd c11 (by decide))
      refine lv_iload_n hx hb d_Mo_operate_54 rfl (lv_at hl 2 rfl) ?_
      refine lv_bipush (v := 26) hx hb d_Mo_operate_55 (by decide) ?_
      refine lv_icmp_ne (tgt := 81) hx hb d_Mo_operate_57 (by decide) (fun c12 => ?_) (fun c12 => absurd c12 (by decide))
      refine lv_iload hx hb d_Mo_operate_81 (lv_at hl 0 rfl) ?_
      refine lv_if_eq (tgt := 155) hx hb d_Mo_operate_83 (by decide) (fun c13 => absurd c13 (by decide)) (fun c13 => ?_)
      refine lv_aload_n hx hb d_Mo_operate_86 rfl (lv_at hl 1 rfl) ?_
      refine lv_aload_n hx hb d_Mo_operate_87 rfl (lv_at hl 1 rfl) ?_
      refine lv_iconst (v := 3) hx hb d_Mo_operate_88 (by decide) ?_
      refine lv_iload_n hx hb d_Mo_operate_89 rfl (lv_at hl 2 rfl) ?_
      refine lv_bipush (v := 22) hx hb d_Mo_operate_90 (by decide) ?_
      refine lv_icmp_ne (tgt := 111) hx hb d_Mo_operate_92 (by decide) (fun c14 => ?_) (fun c14 => absurd c14 (by decide))
      refine lv_iload_n hx hb d_Mo_operate_111 rfl (lv_at hl 2 rfl) ?_
      refine lv_bipush (v := 23) hx hb d_Mo_operate_112 (by decide) ?_
      refine lv_icmp_ne (tgt := 133) hx hb d_Mo_operate_114 (by decide) (fun c15 => ?_) (fun c15 => absurd c15 (by decide))
      refine lv_aload_n hx hb d_Mo_operate_133 rfl (lv_at hl 1 rfl) ?_
      refine mo_getA C V X 2 (by decide) (by decide) f_Mo_13 rfl d_Mo_operate_134 ?_
      refine lv_iload_n hx hb d_Mo_operate_137 rfl (lv_at hl 3 rfl) ?_
      refine mo_lld (k := 2) (i := x) (n := 760) C V X (by decide) (by decide) rfl (by omega) (by decide) d_Mo_operate_138 ?_
      rw [show J 2 x = vt_n OX from h2x]
      refine lv_aload_n hx hb d_Mo_operate_139 rfl (lv_at hl 1 rfl) ?_
      refine mo_getA C V X 2 (by decide) (by decide) f_Mo_13 rfl d_Mo_operate_140 ?_
      refine lv_iload_n hx hb d_Mo_operate_143 rfl (lv_at hl 4 rfl) ?_
      refine mo_lld (k := 2) (i := y) (n := 760) C V X (by decide) (by decide) rfl (by omega) (by decide) d_Mo_operate_144 ?_
      rw [show J 2 y = vt_n OY from h2y]
      refine lv_lmul hx hb d_Mo_operate_145 ?_
      refine gh_callV C V hl.1 m_Mo_make l_Mo_159 (c_Mo_mk l E _ _ a ad _ _ _ 3 ((vt_n OX) * (vt_n OY)) nv X.1 h11 hnv) rfl X.1.1 gc_Mo ⟨by first | decide | omega | (dsimp only; omega), by first | decide | omega | (dsimp only; omega)⟩ ⟨by first | decide | omega | (dsimp only; omega), by first | decide | omega | (dsimp only; omega)⟩ (Nat.le_of_ble_eq_true rfl) rfl d_Mo_operate_146 (fun r z9 H locs hp V1 => ?_)
      obtain ⟨rfl, S1, I1, J1, X2, hmk⟩ := hp
      have X := X.then X2
      have V := V1
      have h45a : S1 45 = nI (wt + 1) := by rw [hmk.1, va_up_n (by decide)]; exact hS45
      refine W.eq (g2 := F0 m 149 ls [.int (nI nv), .ref a]) rfl ?_
      refine gh_callV C V hl.1 m_Mo_give l_Mo_342 (c_Mo_give l E _ _ a ad _ _ _ (nI nv) wt X.1 h45a) rfl X.1.1 gc_Mo ⟨by first | decide | omega | (dsimp only; omega), by first | decide | omega | (dsimp only; omega)⟩ ⟨by first | decide | omega | (dsimp only; omega), by first | decide | omega | (dsimp only; omega)⟩ (Nat.le_of_ble_eq_true rfl) rfl d_Mo_operate_149 (fun r z9 H locs hp V1 => ?_)
      obtain ⟨rfl, X2⟩ := hp
      have X := X.then X2
      have V := V1
      refine W.eq (g2 := F0 m 152 ls []) rfl ?_
      refine lv_goto (tgt := 266) hx hb d_Mo_operate_152 (by decide) ?_
      refine gh_retv hAe C V hr hlocks d_Mo_operate_266 (by first | decide | omega | (dsimp only; omega)) (by first | decide | omega | (dsimp only; omega)) ?_
      exact ⟨rfl, _, _, _, X, by unfold sr_two; rw [if_neg (by decide), if_neg (by decide), if_pos rfl]; unfold vt_mul; rw [if_pos ⟨by omega, by omega⟩]; exact mr_int hmk h12 hb0 hnv h29 (by omega)⟩
set_option maxHeartbeats 4000000 in
set_option maxRecDepth 100000 in
theorem c_Mo_operate25 (l : Launch) (E : gh_E) (sz : Nat) (f : gh_F) (a : Nat) (ad : Nat → Nat) (S : Nat → Int32) (I : Nat → Nat → Int32) (J : Nat → Nat → Int64) (b0 nv pb np wt : Nat) (x y : Nat) (OX OY : vt) (hX : mo_R E f a ad S I J) (h11 : S 11 = nI nv) (h12 : S 12 = nI np) (hp8 : np + 32 ≤ 8800) (hnv : nv < 760) (h29 : 29 ≤ nv) (hb0 : b0 ≤ nv) (hpb : pb ≤ np) (hS45 : S 45 = nI (wt + 1)) (hc : mc I J b0 nv pb np) (hOx : mw I J b0 nv pb np x OX) (hOy : mw I J b0 nv pb np y OY) : gh_M l y_Mo_operate b_Mo_operate 5 none E sz [.ref a, .int 25, .int (nI x), .int (nI y)] f { frames := 8, cells := 0, slots := 0, locals := 280 } (fun r g => r = none ∧ ∃ S2 I2 J2, mo_X E f g a ad S2 I2 J2 ∧ mr_A (sr_two 25 OX OY) S I J b0 nv pb np wt S2 I2 J2) := by
  obtain ⟨hax, h1x, h2x, h3x, h4x, h5x, h6x, h7x⟩ := mv_o.mp hOx.1
  have hx7 := hax.2
  have hoX := vo_o.mp hOx.2
  have hkx6 := hoX.1
  have hcx16 := hoX.2.2.2.2.2.2.1
  obtain ⟨hay, h1y, h2y, h3y, h4y, h5y, h6y, h7y⟩ := mv_o.mp hOy.1
  have hy7 := hay.2
  have hoY := vo_o.mp hOy.2
  have hky6 := hoY.1
  have hcy16 := hoY.2.2.2.2.2.2.1
  refine gh_open (by decide) (Nat.le_of_ble_eq_true rfl) ?_
  intro p e s m args below meth c A ls hAe C V hr hlocks hname hl
  have hx := C.1
  have hb := C.2.1
  have hl : lv_has ls 5 [(0, .ref a), (1, .int 25), (2, .int (nI x)), (3, .int (nI y))] := hl
  have X : mo_X E f f a ad S I J := ⟨hX, gh_fr.rf⟩
  refine lv_aload_n hx hb d_Mo_operate_0 rfl (lv_at hl 0 rfl) ?_
  refine mo_getA C V X 1 (by decide) (by decide) f_Mo_7 rfl d_Mo_operate_1 ?_
  refine lv_iload_n hx hb d_Mo_operate_4 rfl (lv_at hl 2 rfl) ?_
  refine mo_ild (k := 1) (i := x) (n := 760) C V X (by decide) (by decide) rfl (by omega) (by decide) d_Mo_operate_5 ?_
  rw [show I 1 x = nI (vt_k OX) from h1x]
  refine lv_iconst (v := 3) hx hb d_Mo_operate_6 (by decide) ?_
  refine lv_icmp_ne (tgt := 24) hx hb d_Mo_operate_7 (by decide) (fun c1 => ?_) (fun c1 => ?_)
  · have c1 : ¬ (vt_k OX) = 3 := by rw [← gq_eq (a := vt_k OX) (b := 3) (by omega) (by omega)]; exact c1
    refine lv_iconst (v := 0) hx hb d_Mo_operate_24 (by decide) ?_
    refine lv_istore hx hb d_Mo_operate_25 hl (by decide) rfl (fun ls hl => ?_)
    have hl : lv_has ls 5 [(4, .int 0), (0, .ref a), (1, .int 25), (2, .int (nI x)), (3, .int (nI y))] := hl
    refine lv_iload_n hx hb d_Mo_operate_27 rfl (lv_at hl 2 rfl) ?_
    refine lv_bipush (v := 25) hx hb d_Mo_operate_28 (by decide) ?_
    refine lv_icmp_ne (tgt := 54) hx hb d_Mo_operate_30 (by decide) (fun c2 => absurd (by decide) c2) (fun c2 => ?_)
    refine lv_aload_n hx hb d_Mo_operate_33 rfl (lv_at hl 1 rfl) ?_
    refine lv_aload_n hx hb d_Mo_operate_34 rfl (lv_at hl 1 rfl) ?_
    refine lv_iload_n hx hb d_Mo_operate_35 rfl (lv_at hl 3 rfl) ?_
    refine lv_iload_n hx hb d_Mo_operate_36 rfl (lv_at hl 4 rfl) ?_
    refine gh_callV C V hl.1 m_Mo_same l_Mo_367 (c_Mo_same l E _ _ a ad _ _ _ b0 nv pb np x y OX OY X.1 hOx hOy (by omega)) rfl X.1.1 gc_Mo ⟨by first | decide | omega | (dsimp only; omega), by first | decide | omega | (dsimp only; omega)⟩ ⟨by first | decide | omega | (dsimp only; omega), by first | decide | omega | (dsimp only; omega)⟩ (Nat.le_of_ble_eq_true rfl) rfl d_Mo_operate_37 (fun r z9 H locs hp V1 => ?_)
    obtain ⟨rfl, I3, X2, hI3⟩ := hp
    have X := X.then X2
    have V := V1
    cases hsm : vt_sm 8 OX OY with
    | false =>
      refine W.eq (g2 := F0 m 40 ls [.int (gh_bi false), .ref a]) rfl ?_
      refine lv_if_eq (tgt := 47) hx hb d_Mo_operate_40 (by decide) (fun c3 => ?_) (fun c3 => absurd (by decide) c3)
      refine lv_iconst (v := 1) hx hb d_Mo_operate_47 (by decide) ?_
      refine gh_callV C V hl.1 m_Mo_give l_Mo_342 (c_Mo_give l E _ _ a ad _ _ _ 1 wt X.1 hS45) rfl X.1.1 gc_Mo ⟨by first | decide | omega | (dsimp only; omega), by first | decide | omega | (dsimp only; omega)⟩ ⟨by first | decide | omega | (dsimp only; omega), by first | decide | omega | (dsimp only; omega)⟩ (Nat.le_of_ble_eq_true rfl) rfl d_Mo_operate_48 (fun r z9 H locs hp V1 => ?_)
      obtain ⟨rfl, X2⟩ := hp
      have X := X.then X2
      have V := V1
      refine W.eq (g2 := F0 m 51 ls []) rfl ?_
      refine lv_goto (tgt := 266) hx hb d_Mo_operate_51 (by decide) ?_
      refine gh_retv hAe C V hr hlocks d_Mo_operate_266 (by first | decide | omega | (dsimp only; omega)) (by first | decide | omega | (dsimp only; omega)) ?_
      exact ⟨rfl, _, _, _, X, by unfold sr_two; rw [if_neg (by decide), if_neg (by decide), if_neg (by decide), if_pos rfl]; rw [hsm]; exact mr_giveG (u := 1) ⟨fun _ _ _ _ _ _ _ => rfl, fun k hk => hI3 k (by omega) (by omega)⟩ (ma_other (fun k hk => hI3 k (by omega) (by omega))) h11 h12 (by omega) ((hc.keep (ma_other (fun k hk => hI3 k (by omega) (by omega))) (Nat.le_refl _) (Nat.le_refl _) (by omega)).2.1)⟩
    | true =>
      refine W.eq (g2 := F0 m 40 ls [.int (gh_bi true), .ref a]) rfl ?_
      refine lv_if_eq (tgt := 47) hx hb d_Mo_operate_40 (by decide) (fun c4 => absurd c4 (by decide)) (fun c4 => ?_)
      refine lv_iconst (v := 2) hx hb d_Mo_operate_43 (by decide) ?_
      refine lv_goto (tgt := 48) hx hb d_Mo_operate_44 (by decide) ?_
      refine gh_callV C V hl.1 m_Mo_give l_Mo_342 (c_Mo_give l E _ _ a ad _ _ _ 2 wt X.1 hS45) rfl X.1.1 gc_Mo ⟨by first | decide | omega | (dsimp only; omega), by first | decide | omega | (dsimp only; omega)⟩ ⟨by first | decide | omega | (dsimp only; omega), by first | decide | omega | (dsimp only; omega)⟩ (Nat.le_of_ble_eq_true rfl) rfl d_Mo_operate_48 (fun r z9 H locs hp V1 => ?_)
      obtain ⟨rfl, X2⟩ := hp
      have X := X.then X2
      have V := V1
      refine W.eq (g2 := F0 m 51 ls []) rfl ?_
      refine lv_goto (tgt := 266) hx hb d_Mo_operate_51 (by decide) ?_
      refine gh_retv hAe C V hr hlocks d_Mo_operate_266 (by first | decide | omega | (dsimp only; omega)) (by first | decide | omega | (dsimp only; omega)) ?_
      exact ⟨rfl, _, _, _, X, by unfold sr_two; rw [if_neg (by decide), if_neg (by decide), if_neg (by decide), if_pos rfl]; rw [hsm]; exact mr_giveG (u := 2) ⟨fun _ _ _ _ _ _ _ => rfl, fun k hk => hI3 k (by omega) (by omega)⟩ (ma_other (fun k hk => hI3 k (by omega) (by omega))) h11 h12 (by omega) ((hc.keep (ma_other (fun k hk => hI3 k (by omega) (by omega))) (Nat.le_refl _) (Nat.le_refl _) (by omega)).2.2.1)⟩
  · have c1 : (vt_k OX) = 3 := by rw [← gq_eq (a := vt_k OX) (b := 3) (by omega) (by omega)]; exact c1
    refine lv_aload_n hx hb d_Mo_operate_10 rfl (lv_at hl 0 rfl) ?_
    refine mo_getA C V X 1 (by decide) (by decide) f_Mo_7 rfl d_Mo_operate_11 ?_
    refine lv_iload_n hx hb d_Mo_operate_14 rfl (lv_at hl 3 rfl) ?_
    refine mo_ild (k := 1) (i := y) (n := 760) C V X (by decide) (by decide) rfl (by omega) (by decide) d_Mo_operate_15 ?_
    rw [show I 1 y = nI (vt_k OY) from h1y]
    refine lv_iconst (v := 3) hx hb d_Mo_operate_16 (by decide) ?_
    refine lv_icmp_ne (tgt := 24) hx hb d_Mo_operate_17 (by decide) (fun c5 => ?_) (fun c5 => ?_)
    · have c5 : ¬ (vt_k OY) = 3 := by rw [← gq_eq (a := vt_k OY) (b := 3) (by omega) (by omega)]; exact c5
      refine lv_iconst (v := 0) hx hb d_Mo_operate_24 (by decide) ?_
      refine lv_istore hx hb d_Mo_operate_25 hl (by decide) rfl (fun ls hl => ?_)
      have hl : lv_has ls 5 [(4, .int 0), (0, .ref a), (1, .int 25), (2, .int (nI x)), (3, .int (nI y))] := hl
      refine lv_iload_n hx hb d_Mo_operate_27 rfl (lv_at hl 2 rfl) ?_
      refine lv_bipush (v := 25) hx hb d_Mo_operate_28 (by decide) ?_
      refine lv_icmp_ne (tgt := 54) hx hb d_Mo_operate_30 (by decide) (fun c6 => absurd (by decide) c6) (fun c6 => ?_)
      refine lv_aload_n hx hb d_Mo_operate_33 rfl (lv_at hl 1 rfl) ?_
      refine lv_aload_n hx hb d_Mo_operate_34 rfl (lv_at hl 1 rfl) ?_
      refine lv_iload_n hx hb d_Mo_operate_35 rfl (lv_at hl 3 rfl) ?_
      refine lv_iload_n hx hb d_Mo_operate_36 rfl (lv_at hl 4 rfl) ?_
      refine gh_callV C V hl.1 m_Mo_same l_Mo_367 (c_Mo_same l E _ _ a ad _ _ _ b0 nv pb np x y OX OY X.1 hOx hOy (by omega)) rfl X.1.1 gc_Mo ⟨by first | decide | omega | (dsimp only; omega), by first | decide | omega | (dsimp only; omega)⟩ ⟨by first | decide | omega | (dsimp only; omega), by first | decide | omega | (dsimp only; omega)⟩ (Nat.le_of_ble_eq_true rfl) rfl d_Mo_operate_37 (fun r z9 H locs hp V1 => ?_)
      obtain ⟨rfl, I3, X2, hI3⟩ := hp
      have X := X.then X2
      have V := V1
      cases hsm : vt_sm 8 OX OY with
      | false =>
        refine W.eq (g2 := F0 m 40 ls [.int (gh_bi false), .ref a]) rfl ?_
        refine lv_if_eq (tgt := 47) hx hb d_Mo_operate_40 (by decide) (fun c7 => ?_) (fun c7 => absurd (by decide) c7)
        refine lv_iconst (v := 1) hx hb d_Mo_operate_47 (by decide) ?_
        refine gh_callV C V hl.1 m_Mo_give l_Mo_342 (c_Mo_give l E _ _ a ad _ _ _ 1 wt X.1 hS45) rfl X.1.1 gc_Mo ⟨by first | decide | omega | (dsimp only; omega), by first | decide | omega | (dsimp only; omega)⟩ ⟨by first | decide | omega | (dsimp only; omega), by first | decide | omega | (dsimp only; omega)⟩ (Nat.le_of_ble_eq_true rfl) rfl d_Mo_operate_48 (fun r z9 H locs hp V1 => ?_)
        obtain ⟨rfl, X2⟩ := hp
        have X := X.then X2
        have V := V1
        refine W.eq (g2 := F0 m 51 ls []) rfl ?_
        refine lv_goto (tgt := 266) hx hb d_Mo_operate_51 (by decide) ?_
        refine gh_retv hAe C V hr hlocks d_Mo_operate_266 (by first | decide | omega | (dsimp only; omega)) (by first | decide | omega | (dsimp only; omega)) ?_
        exact ⟨rfl, _, _, _, X, by unfold sr_two; rw [if_neg (by decide), if_neg (by decide), if_neg (by decide), if_pos rfl]; rw [hsm]; exact mr_giveG (u := 1) ⟨fun _ _ _ _ _ _ _ => rfl, fun k hk => hI3 k (by omega) (by omega)⟩ (ma_other (fun k hk => hI3 k (by omega) (by omega))) h11 h12 (by omega) ((hc.keep (ma_other (fun k hk => hI3 k (by omega) (by omega))) (Nat.le_refl _) (Nat.le_refl _) (by omega)).2.1)⟩
      | true =>
        refine W.eq (g2 := F0 m 40 ls [.int (gh_bi true), .ref a]) rfl ?_
        refine lv_if_eq (tgt := 47) hx hb d_Mo_operate_40 (by decide) (fun c8 => absurd c8 (by decide)) (fun c8 => ?_)
        refine lv_iconst (v := 2) hx hb d_Mo_operate_43 (by decide) ?_
        refine lv_goto (tgt := 48) hx hb d_Mo_operate_44 (by decide) ?_
        refine gh_callV C V hl.1 m_Mo_give l_Mo_342 (c_Mo_give l E _ _ a ad _ _ _ 2 wt X.1 hS45) rfl X.1.1 gc_Mo ⟨by first | decide | omega | (dsimp only; omega), by first | decide | omega | (dsimp only; omega)⟩ ⟨by first | decide | omega | (dsimp only; omega), by first | decide | omega | (dsimp only; omega)⟩ (Nat.le_of_ble_eq_true rfl) rfl d_Mo_operate_48 (fun r z9 H locs hp V1 => ?_)
        obtain ⟨rfl, X2⟩ := hp
        have X := X.then X2
        have V := V1
        refine W.eq (g2 := F0 m 51 ls []) rfl ?_
        refine lv_goto (tgt := 266) hx hb d_Mo_operate_51 (by decide) ?_
        refine gh_retv hAe C V hr hlocks d_Mo_operate_266 (by first | decide | omega | (dsimp only; omega)) (by first | decide | omega | (dsimp only; omega)) ?_
        exact ⟨rfl, _, _, _, X, by unfold sr_two; rw [if_neg (by decide), if_neg (by decide), if_neg (by decide), if_pos rfl]; rw [hsm]; exact mr_giveG (u := 2) ⟨fun _ _ _ _ _ _ _ => rfl, fun k hk => hI3 k (by omega) (by omega)⟩ (ma_other (fun k hk => hI3 k (by omega) (by omega))) h11 h12 (by omega) ((hc.keep (ma_other (fun k hk => hI3 k (by omega) (by omega))) (Nat.le_refl _) (Nat.le_refl _) (by omega)).2.2.1)⟩
    · have c5 : (vt_k OY) = 3 := by rw [← gq_eq (a := vt_k OY) (b := 3) (by omega) (by omega)]; exact c5
      refine lv_iconst (v := 1) hx hb d_Mo_operate_20 (by decide) ?_
      refine lv_goto (tgt := 25) hx hb d_Mo_operate_21 (by decide) ?_
      refine lv_istore hx hb d_Mo_operate_25 hl (by decide) rfl (fun ls hl => ?_)
      have hl : lv_has ls 5 [(4, .int 1), (0, .ref a), (1, .int 25), (2, .int (nI x)), (3, .int (nI y))] := hl
      refine lv_iload_n hx hb d_Mo_operate_27 rfl (lv_at hl 2 rfl) ?_
      refine lv_bipush (v := 25) hx hb d_Mo_operate_28 (by decide) ?_
      refine lv_icmp_ne (tgt := 54) hx hb d_Mo_operate_30 (by decide) (fun c9 => absurd (by decide) c9) (fun c9 => ?_)
      refine lv_aload_n hx hb d_Mo_operate_33 rfl (lv_at hl 1 rfl) ?_
      refine lv_aload_n hx hb d_Mo_operate_34 rfl (lv_at hl 1 rfl) ?_
      refine lv_iload_n hx hb d_Mo_operate_35 rfl (lv_at hl 3 rfl) ?_
      refine lv_iload_n hx hb d_Mo_operate_36 rfl (lv_at hl 4 rfl) ?_
      refine gh_callV C V hl.1 m_Mo_same l_Mo_367 (c_Mo_same l E _ _ a ad _ _ _ b0 nv pb np x y OX OY X.1 hOx hOy (by omega)) rfl X.1.1 gc_Mo ⟨by first | decide | omega | (dsimp only; omega), by first | decide | omega | (dsimp only; omega)⟩ ⟨by first | decide | omega | (dsimp only; omega), by first | decide | omega | (dsimp only; omega)⟩ (Nat.le_of_ble_eq_true rfl) rfl d_Mo_operate_37 (fun r z9 H locs hp V1 => ?_)
      obtain ⟨rfl, I3, X2, hI3⟩ := hp
      have X := X.then X2
      have V := V1
      cases hsm : vt_sm 8 OX OY with
      | false =>
        refine W.eq (g2 := F0 m 40 ls [.int (gh_bi false), .ref a]) rfl ?_
        refine lv_if_eq (tgt := 47) hx hb d_Mo_operate_40 (by decide) (fun c10 => ?_) (fun c10 => absurd (by decide) c10)
        refine lv_iconst (v := 1) hx hb d_Mo_operate_47 (by decide) ?_
        refine gh_callV C V hl.1 m_Mo_give l_Mo_342 (c_Mo_give l E _ _ a ad _ _ _ 1 wt X.1 hS45) rfl X.1.1 gc_Mo ⟨by first | decide | omega | (dsimp only; omega), by first | decide | omega | (dsimp only; omega)⟩ ⟨by first | decide | omega | (dsimp only; omega), by first | decide | omega | (dsimp only; omega)⟩ (Nat.le_of_ble_eq_true rfl) rfl d_Mo_operate_48 (fun r z9 H locs hp V1 => ?_)
        obtain ⟨rfl, X2⟩ := hp
        have X := X.then X2
        have V := V1
        refine W.eq (g2 := F0 m 51 ls []) rfl ?_
        refine lv_goto (tgt := 266) hx hb d_Mo_operate_51 (by decide) ?_
        refine gh_retv hAe C V hr hlocks d_Mo_operate_266 (by first | decide | omega | (dsimp only; omega)) (by first | decide | omega | (dsimp only; omega)) ?_
        exact ⟨rfl, _, _, _, X, by unfold sr_two; rw [if_neg (by decide), if_neg (by decide), if_neg (by decide), if_pos rfl]; rw [hsm]; exact mr_giveG (u := 1) ⟨fun _ _ _ _ _ _ _ => rfl, fun k hk => hI3 k (by omega) (by omega)⟩ (ma_other (fun k hk => hI3 k (by omega) (by omega))) h11 h12 (by omega) ((hc.keep (ma_other (fun k hk => hI3 k (by omega) (by omega))) (Nat.le_refl _) (Nat.le_refl _) (by omega)).2.1)⟩
      | true =>
        refine W.eq (g2 := F0 m 40 ls [.int (gh_bi true), .ref a]) rfl ?_
        refine lv_if_eq (tgt := 47) hx hb d_Mo_operate_40 (by decide) (fun c11 => absurd c11 (by decide)) (fun c11 => ?_)
        refine lv_iconst (v := 2) hx hb d_Mo_operate_43 (by decide) ?_
        refine lv_goto (tgt := 48) hx hb d_Mo_operate_44 (by decide) ?_
        refine gh_callV C V hl.1 m_Mo_give l_Mo_342 (c_Mo_give l E _ _ a ad _ _ _ 2 wt X.1 hS45) rfl X.1.1 gc_Mo ⟨by first | decide | omega | (dsimp only; omega), by first | decide | omega | (dsimp only; omega)⟩ ⟨by first | decide | omega | (dsimp only; omega), by first | decide | omega | (dsimp only; omega)⟩ (Nat.le_of_ble_eq_true rfl) rfl d_Mo_operate_48 (fun r z9 H locs hp V1 => ?_)
        obtain ⟨rfl, X2⟩ := hp
        have X := X.then X2
        have V := V1
        refine W.eq (g2 := F0 m 51 ls []) rfl ?_
        refine lv_goto (tgt := 266) hx hb d_Mo_operate_51 (by decide) ?_
        refine gh_retv hAe C V hr hlocks d_Mo_operate_266 (by first | decide | omega | (dsimp only; omega)) (by first | decide | omega | (dsimp only; omega)) ?_
        exact ⟨rfl, _, _, _, X, by unfold sr_two; rw [if_neg (by decide), if_neg (by decide), if_neg (by decide), if_pos rfl]; rw [hsm]; exact mr_giveG (u := 2) ⟨fun _ _ _ _ _ _ _ => rfl, fun k hk => hI3 k (by omega) (by omega)⟩ (ma_other (fun k hk => hI3 k (by omega) (by omega))) h11 h12 (by omega) ((hc.keep (ma_other (fun k hk => hI3 k (by omega) (by omega))) (Nat.le_refl _) (Nat.le_refl _) (by omega)).2.2.1)⟩
set_option maxHeartbeats 4000000 in
set_option maxRecDepth 100000 in
theorem c_Mo_operate26 (l : Launch) (E : gh_E) (sz : Nat) (f : gh_F) (a : Nat) (ad : Nat → Nat) (S : Nat → Int32) (I : Nat → Nat → Int32) (J : Nat → Nat → Int64) (b0 nv pb np wt : Nat) (x y : Nat) (OX OY : vt) (hX : mo_R E f a ad S I J) (h11 : S 11 = nI nv) (h12 : S 12 = nI np) (hp8 : np + 32 ≤ 8800) (hnv : nv < 760) (h29 : 29 ≤ nv) (hb0 : b0 ≤ nv) (hpb : pb ≤ np) (hS45 : S 45 = nI (wt + 1)) (hc : mc I J b0 nv pb np) (hOx : mw I J b0 nv pb np x OX) (hOy : mw I J b0 nv pb np y OY) : gh_M l y_Mo_operate b_Mo_operate 5 none E sz [.ref a, .int 26, .int (nI x), .int (nI y)] f { frames := 8, cells := 0, slots := 0, locals := 280 } (fun r g => r = none ∧ ∃ S2 I2 J2, mo_X E f g a ad S2 I2 J2 ∧ mr_A (sr_two 26 OX OY) S I J b0 nv pb np wt S2 I2 J2) := by
  obtain ⟨hax, h1x, h2x, h3x, h4x, h5x, h6x, h7x⟩ := mv_o.mp hOx.1
  have hx7 := hax.2
  have hoX := vo_o.mp hOx.2
  have hkx6 := hoX.1
  have hcx16 := hoX.2.2.2.2.2.2.1
  obtain ⟨hay, h1y, h2y, h3y, h4y, h5y, h6y, h7y⟩ := mv_o.mp hOy.1
  have hy7 := hay.2
  have hoY := vo_o.mp hOy.2
  have hky6 := hoY.1
  have hcy16 := hoY.2.2.2.2.2.2.1
  refine gh_open (by decide) (Nat.le_of_ble_eq_true rfl) ?_
  intro p e s m args below meth c A ls hAe C V hr hlocks hname hl
  have hx := C.1
  have hb := C.2.1
  have hl : lv_has ls 5 [(0, .ref a), (1, .int 26), (2, .int (nI x)), (3, .int (nI y))] := hl
  have X : mo_X E f f a ad S I J := ⟨hX, gh_fr.rf⟩
  refine lv_aload_n hx hb d_Mo_operate_0 rfl (lv_at hl 0 rfl) ?_
  refine mo_getA C V X 1 (by decide) (by decide) f_Mo_7 rfl d_Mo_operate_1 ?_
  refine lv_iload_n hx hb d_Mo_operate_4 rfl (lv_at hl 2 rfl) ?_
  refine mo_ild (k := 1) (i := x) (n := 760) C V X (by decide) (by decide) rfl (by omega) (by decide) d_Mo_operate_5 ?_
  rw [show I 1 x = nI (vt_k OX) from h1x]
  refine lv_iconst (v := 3) hx hb d_Mo_operate_6 (by decide) ?_
  refine lv_icmp_ne (tgt := 24) hx hb d_Mo_operate_7 (by decide) (fun c1 => ?_) (fun c1 => ?_)
  · have c1 : ¬ (vt_k OX) = 3 := by rw [← gq_eq (a := vt_k OX) (b := 3) (by omega) (by omega)]; exact c1
    refine lv_iconst (v := 0) hx hb d_Mo_operate_24 (by decide) ?_
    refine lv_istore hx hb d_Mo_operate_25 hl (by decide) rfl (fun ls hl => ?_)
    have hl : lv_has ls 5 [(4, .int 0), (0, .ref a), (1, .int 26), (2, .int (nI x)), (3, .int (nI y))] := hl
    refine lv_iload_n hx hb d_Mo_operate_27 rfl (lv_at hl 2 rfl) ?_
    refine lv_bipush (v := 25) hx hb d_Mo_operate_28 (by decide) ?_
    refine lv_icmp_ne (tgt := 54) hx hb d_Mo_operate_30 (by decide) (fun c2 => ?_) (fun c2 => absurd c2 (by decide))
    refine lv_iload_n hx hb d_Mo_operate_54 rfl (lv_at hl 2 rfl) ?_
    refine lv_bipush (v := 26) hx hb d_Mo_operate_55 (by decide) ?_
    refine lv_icmp_ne (tgt := 81) hx hb d_Mo_operate_57 (by decide) (fun c3 => absurd (by decide) c3) (fun c3 => ?_)
    refine lv_aload_n hx hb d_Mo_operate_60 rfl (lv_at hl 1 rfl) ?_
    refine lv_aload_n hx hb d_Mo_operate_61 rfl (lv_at hl 1 rfl) ?_
    refine lv_iload_n hx hb d_Mo_operate_62 rfl (lv_at hl 3 rfl) ?_
    refine lv_iload_n hx hb d_Mo_operate_63 rfl (lv_at hl 4 rfl) ?_
    refine gh_callV C V hl.1 m_Mo_isLess l_Mo_370 (c_Mo_isLess l E _ _ a ad _ _ _ b0 nv pb np x y OX OY X.1 hOx hOy) rfl X.1.1 gc_Mo ⟨by first | decide | omega | (dsimp only; omega), by first | decide | omega | (dsimp only; omega)⟩ ⟨by first | decide | omega | (dsimp only; omega), by first | decide | omega | (dsimp only; omega)⟩ (Nat.le_of_ble_eq_true rfl) rfl d_Mo_operate_64 (fun r z9 H locs hp V1 => ?_)
    obtain ⟨rfl, he9⟩ := hp
    rw [he9] at V1
    have V := V1
    cases hsm : vt_lt OX OY with
    | false =>
      refine W.eq (g2 := F0 m 67 ls [.int (gh_bi false), .ref a]) rfl ?_
      refine lv_if_eq (tgt := 74) hx hb d_Mo_operate_67 (by decide) (fun c4 => ?_) (fun c4 => absurd (by decide) c4)
      refine lv_iconst (v := 1) hx hb d_Mo_operate_74 (by decide) ?_
      refine gh_callV C V hl.1 m_Mo_give l_Mo_342 (c_Mo_give l E _ _ a ad _ _ _ 1 wt X.1 hS45) rfl X.1.1 gc_Mo ⟨by first | decide | omega | (dsimp only; omega), by first | decide | omega | (dsimp only; omega)⟩ ⟨by first | decide | omega | (dsimp only; omega), by first | decide | omega | (dsimp only; omega)⟩ (Nat.le_of_ble_eq_true rfl) rfl d_Mo_operate_75 (fun r z9 H locs hp V1 => ?_)
      obtain ⟨rfl, X2⟩ := hp
      have X := X.then X2
      have V := V1
      refine W.eq (g2 := F0 m 78 ls []) rfl ?_
      refine lv_goto (tgt := 266) hx hb d_Mo_operate_78 (by decide) ?_
      refine gh_retv hAe C V hr hlocks d_Mo_operate_266 (by first | decide | omega | (dsimp only; omega)) (by first | decide | omega | (dsimp only; omega)) ?_
      exact ⟨rfl, _, _, _, X, by unfold sr_two; rw [if_neg (by decide), if_neg (by decide), if_neg (by decide), if_neg (by decide)]; rw [hsm]; exact mr_give (u := 1) h11 h12 (by omega) hc.2.1⟩
    | true =>
      refine W.eq (g2 := F0 m 67 ls [.int (gh_bi true), .ref a]) rfl ?_
      refine lv_if_eq (tgt := 74) hx hb d_Mo_operate_67 (by decide) (fun c5 => absurd c5 (by decide)) (fun c5 => ?_)
      refine lv_iconst (v := 2) hx hb d_Mo_operate_70 (by decide) ?_
      refine lv_goto (tgt := 75) hx hb d_Mo_operate_71 (by decide) ?_
      refine gh_callV C V hl.1 m_Mo_give l_Mo_342 (c_Mo_give l E _ _ a ad _ _ _ 2 wt X.1 hS45) rfl X.1.1 gc_Mo ⟨by first | decide | omega | (dsimp only; omega), by first | decide | omega | (dsimp only; omega)⟩ ⟨by first | decide | omega | (dsimp only; omega), by first | decide | omega | (dsimp only; omega)⟩ (Nat.le_of_ble_eq_true rfl) rfl d_Mo_operate_75 (fun r z9 H locs hp V1 => ?_)
      obtain ⟨rfl, X2⟩ := hp
      have X := X.then X2
      have V := V1
      refine W.eq (g2 := F0 m 78 ls []) rfl ?_
      refine lv_goto (tgt := 266) hx hb d_Mo_operate_78 (by decide) ?_
      refine gh_retv hAe C V hr hlocks d_Mo_operate_266 (by first | decide | omega | (dsimp only; omega)) (by first | decide | omega | (dsimp only; omega)) ?_
      exact ⟨rfl, _, _, _, X, by unfold sr_two; rw [if_neg (by decide), if_neg (by decide), if_neg (by decide), if_neg (by decide)]; rw [hsm]; exact mr_give (u := 2) h11 h12 (by omega) hc.2.2.1⟩
  · have c1 : (vt_k OX) = 3 := by rw [← gq_eq (a := vt_k OX) (b := 3) (by omega) (by omega)]; exact c1
    refine lv_aload_n hx hb d_Mo_operate_10 rfl (lv_at hl 0 rfl) ?_
    refine mo_getA C V X 1 (by decide) (by decide) f_Mo_7 rfl d_Mo_operate_11 ?_
    refine lv_iload_n hx hb d_Mo_operate_14 rfl (lv_at hl 3 rfl) ?_
    refine mo_ild (k := 1) (i := y) (n := 760) C V X (by decide) (by decide) rfl (by omega) (by decide) d_Mo_operate_15 ?_
    rw [show I 1 y = nI (vt_k OY) from h1y]
    refine lv_iconst (v := 3) hx hb d_Mo_operate_16 (by decide) ?_
    refine lv_icmp_ne (tgt := 24) hx hb d_Mo_operate_17 (by decide) (fun c6 => ?_) (fun c6 => ?_)
    · have c6 : ¬ (vt_k OY) = 3 := by rw [← gq_eq (a := vt_k OY) (b := 3) (by omega) (by omega)]; exact c6
      refine lv_iconst (v := 0) hx hb d_Mo_operate_24 (by decide) ?_
      refine lv_istore hx hb d_Mo_operate_25 hl (by decide) rfl (fun ls hl => ?_)
      have hl : lv_has ls 5 [(4, .int 0), (0, .ref a), (1, .int 26), (2, .int (nI x)), (3, .int (nI y))] := hl
      refine lv_iload_n hx hb d_Mo_operate_27 rfl (lv_at hl 2 rfl) ?_
      refine lv_bipush (v := 25) hx hb d_Mo_operate_28 (by decide) ?_
      refine lv_icmp_ne (tgt := 54) hx hb d_Mo_operate_30 (by decide) (fun c7 => ?_) (fun c7 => absurd c7 (by decide))
      refine lv_iload_n hx hb d_Mo_operate_54 rfl (lv_at hl 2 rfl) ?_
      refine lv_bipush (v := 26) hx hb d_Mo_operate_55 (by decide) ?_
      refine lv_icmp_ne (tgt := 81) hx hb d_Mo_operate_57 (by decide) (fun c8 => absurd (by decide) c8) (fun c8 => ?_)
      refine lv_aload_n hx hb d_Mo_operate_60 rfl (lv_at hl 1 rfl) ?_
      refine lv_aload_n hx hb d_Mo_operate_61 rfl (lv_at hl 1 rfl) ?_
      refine lv_iload_n hx hb d_Mo_operate_62 rfl (lv_at hl 3 rfl) ?_
      refine lv_iload_n hx hb d_Mo_operate_63 rfl (lv_at hl 4 rfl) ?_
      refine gh_callV C V hl.1 m_Mo_isLess l_Mo_370 (c_Mo_isLess l E _ _ a ad _ _ _ b0 nv pb np x y OX OY X.1 hOx hOy) rfl X.1.1 gc_Mo ⟨by first | decide | omega | (dsimp only; omega), by first | decide | omega | (dsimp only; omega)⟩ ⟨by first | decide | omega | (dsimp only; omega), by first | decide | omega | (dsimp only; omega)⟩ (Nat.le_of_ble_eq_true rfl) rfl d_Mo_operate_64 (fun r z9 H locs hp V1 => ?_)
      obtain ⟨rfl, he9⟩ := hp
      rw [he9] at V1
      have V := V1
      cases hsm : vt_lt OX OY with
      | false =>
        refine W.eq (g2 := F0 m 67 ls [.int (gh_bi false), .ref a]) rfl ?_
        refine lv_if_eq (tgt := 74) hx hb d_Mo_operate_67 (by decide) (fun c9 => ?_) (fun c9 => absurd (by decide) c9)
        refine lv_iconst (v := 1) hx hb d_Mo_operate_74 (by decide) ?_
        refine gh_callV C V hl.1 m_Mo_give l_Mo_342 (c_Mo_give l E _ _ a ad _ _ _ 1 wt X.1 hS45) rfl X.1.1 gc_Mo ⟨by first | decide | omega | (dsimp only; omega), by first | decide | omega | (dsimp only; omega)⟩ ⟨by first | decide | omega | (dsimp only; omega), by first | decide | omega | (dsimp only; omega)⟩ (Nat.le_of_ble_eq_true rfl) rfl d_Mo_operate_75 (fun r z9 H locs hp V1 => ?_)
        obtain ⟨rfl, X2⟩ := hp
        have X := X.then X2
        have V := V1
        refine W.eq (g2 := F0 m 78 ls []) rfl ?_
        refine lv_goto (tgt := 266) hx hb d_Mo_operate_78 (by decide) ?_
        refine gh_retv hAe C V hr hlocks d_Mo_operate_266 (by first | decide | omega | (dsimp only; omega)) (by first | decide | omega | (dsimp only; omega)) ?_
        exact ⟨rfl, _, _, _, X, by unfold sr_two; rw [if_neg (by decide), if_neg (by decide), if_neg (by decide), if_neg (by decide)]; rw [hsm]; exact mr_give (u := 1) h11 h12 (by omega) hc.2.1⟩
      | true =>
        refine W.eq (g2 := F0 m 67 ls [.int (gh_bi true), .ref a]) rfl ?_
        refine lv_if_eq (tgt := 74) hx hb d_Mo_operate_67 (by decide) (fun c10 => absurd c10 (by decide)) (fun c10 => ?_)
        refine lv_iconst (v := 2) hx hb d_Mo_operate_70 (by decide) ?_
        refine lv_goto (tgt := 75) hx hb d_Mo_operate_71 (by decide) ?_
        refine gh_callV C V hl.1 m_Mo_give l_Mo_342 (c_Mo_give l E _ _ a ad _ _ _ 2 wt X.1 hS45) rfl X.1.1 gc_Mo ⟨by first | decide | omega | (dsimp only; omega), by first | decide | omega | (dsimp only; omega)⟩ ⟨by first | decide | omega | (dsimp only; omega), by first | decide | omega | (dsimp only; omega)⟩ (Nat.le_of_ble_eq_true rfl) rfl d_Mo_operate_75 (fun r z9 H locs hp V1 => ?_)
        obtain ⟨rfl, X2⟩ := hp
        have X := X.then X2
        have V := V1
        refine W.eq (g2 := F0 m 78 ls []) rfl ?_
        refine lv_goto (tgt := 266) hx hb d_Mo_operate_78 (by decide) ?_
        refine gh_retv hAe C V hr hlocks d_Mo_operate_266 (by first | decide | omega | (dsimp only; omega)) (by first | decide | omega | (dsimp only; omega)) ?_
        exact ⟨rfl, _, _, _, X, by unfold sr_two; rw [if_neg (by decide), if_neg (by decide), if_neg (by decide), if_neg (by decide)]; rw [hsm]; exact mr_give (u := 2) h11 h12 (by omega) hc.2.2.1⟩
    · have c6 : (vt_k OY) = 3 := by rw [← gq_eq (a := vt_k OY) (b := 3) (by omega) (by omega)]; exact c6
      refine lv_iconst (v := 1) hx hb d_Mo_operate_20 (by decide) ?_
      refine lv_goto (tgt := 25) hx hb d_Mo_operate_21 (by decide) ?_
      refine lv_istore hx hb d_Mo_operate_25 hl (by decide) rfl (fun ls hl => ?_)
      have hl : lv_has ls 5 [(4, .int 1), (0, .ref a), (1, .int 26), (2, .int (nI x)), (3, .int (nI y))] := hl
      refine lv_iload_n hx hb d_Mo_operate_27 rfl (lv_at hl 2 rfl) ?_
      refine lv_bipush (v := 25) hx hb d_Mo_operate_28 (by decide) ?_
      refine lv_icmp_ne (tgt := 54) hx hb d_Mo_operate_30 (by decide) (fun c11 => ?_) (fun c11 => absurd c11 (by decide))
      refine lv_iload_n hx hb d_Mo_operate_54 rfl (lv_at hl 2 rfl) ?_
      refine lv_bipush (v := 26) hx hb d_Mo_operate_55 (by decide) ?_
      refine lv_icmp_ne (tgt := 81) hx hb d_Mo_operate_57 (by decide) (fun c12 => absurd (by decide) c12) (fun c12 => ?_)
      refine lv_aload_n hx hb d_Mo_operate_60 rfl (lv_at hl 1 rfl) ?_
      refine lv_aload_n hx hb d_Mo_operate_61 rfl (lv_at hl 1 rfl) ?_
      refine lv_iload_n hx hb d_Mo_operate_62 rfl (lv_at hl 3 rfl) ?_
      refine lv_iload_n hx hb d_Mo_operate_63 rfl (lv_at hl 4 rfl) ?_
      refine gh_callV C V hl.1 m_Mo_isLess l_Mo_370 (c_Mo_isLess l E _ _ a ad _ _ _ b0 nv pb np x y OX OY X.1 hOx hOy) rfl X.1.1 gc_Mo ⟨by first | decide | omega | (dsimp only; omega), by first | decide | omega | (dsimp only; omega)⟩ ⟨by first | decide | omega | (dsimp only; omega), by first | decide | omega | (dsimp only; omega)⟩ (Nat.le_of_ble_eq_true rfl) rfl d_Mo_operate_64 (fun r z9 H locs hp V1 => ?_)
      obtain ⟨rfl, he9⟩ := hp
      rw [he9] at V1
      have V := V1
      cases hsm : vt_lt OX OY with
      | false =>
        refine W.eq (g2 := F0 m 67 ls [.int (gh_bi false), .ref a]) rfl ?_
        refine lv_if_eq (tgt := 74) hx hb d_Mo_operate_67 (by decide) (fun c13 => ?_) (fun c13 => absurd (by decide) c13)
        refine lv_iconst (v := 1) hx hb d_Mo_operate_74 (by decide) ?_
        refine gh_callV C V hl.1 m_Mo_give l_Mo_342 (c_Mo_give l E _ _ a ad _ _ _ 1 wt X.1 hS45) rfl X.1.1 gc_Mo ⟨by first | decide | omega | (dsimp only; omega), by first | decide | omega | (dsimp only; omega)⟩ ⟨by first | decide | omega | (dsimp only; omega), by first | decide | omega | (dsimp only; omega)⟩ (Nat.le_of_ble_eq_true rfl) rfl d_Mo_operate_75 (fun r z9 H locs hp V1 => ?_)
        obtain ⟨rfl, X2⟩ := hp
        have X := X.then X2
        have V := V1
        refine W.eq (g2 := F0 m 78 ls []) rfl ?_
        refine lv_goto (tgt := 266) hx hb d_Mo_operate_78 (by decide) ?_
        refine gh_retv hAe C V hr hlocks d_Mo_operate_266 (by first | decide | omega | (dsimp only; omega)) (by first | decide | omega | (dsimp only; omega)) ?_
        exact ⟨rfl, _, _, _, X, by unfold sr_two; rw [if_neg (by decide), if_neg (by decide), if_neg (by decide), if_neg (by decide)]; rw [hsm]; exact mr_give (u := 1) h11 h12 (by omega) hc.2.1⟩
      | true =>
        refine W.eq (g2 := F0 m 67 ls [.int (gh_bi true), .ref a]) rfl ?_
        refine lv_if_eq (tgt := 74) hx hb d_Mo_operate_67 (by decide) (fun c14 => absurd c14 (by decide)) (fun c14 => ?_)
        refine lv_iconst (v := 2) hx hb d_Mo_operate_70 (by decide) ?_
        refine lv_goto (tgt := 75) hx hb d_Mo_operate_71 (by decide) ?_
        refine gh_callV C V hl.1 m_Mo_give l_Mo_342 (c_Mo_give l E _ _ a ad _ _ _ 2 wt X.1 hS45) rfl X.1.1 gc_Mo ⟨by first | decide | omega | (dsimp only; omega), by first | decide | omega | (dsimp only; omega)⟩ ⟨by first | decide | omega | (dsimp only; omega), by first | decide | omega | (dsimp only; omega)⟩ (Nat.le_of_ble_eq_true rfl) rfl d_Mo_operate_75 (fun r z9 H locs hp V1 => ?_)
        obtain ⟨rfl, X2⟩ := hp
        have X := X.then X2
        have V := V1
        refine W.eq (g2 := F0 m 78 ls []) rfl ?_
        refine lv_goto (tgt := 266) hx hb d_Mo_operate_78 (by decide) ?_
        refine gh_retv hAe C V hr hlocks d_Mo_operate_266 (by first | decide | omega | (dsimp only; omega)) (by first | decide | omega | (dsimp only; omega)) ?_
        exact ⟨rfl, _, _, _, X, by unfold sr_two; rw [if_neg (by decide), if_neg (by decide), if_neg (by decide), if_neg (by decide)]; rw [hsm]; exact mr_give (u := 2) h11 h12 (by omega) hc.2.2.1⟩
theorem c_Mo_operate (l : Launch) (E : gh_E) (sz : Nat) (f : gh_F) (a : Nat) (ad : Nat → Nat) (S : Nat → Int32) (I : Nat → Nat → Int32) (J : Nat → Nat → Int64) (b0 nv pb np wt : Nat) (k : Nat)  (x y : Nat) (OX OY : vt) (hX : mo_R E f a ad S I J) (h11 : S 11 = nI nv) (h12 : S 12 = nI np) (hp8 : np + 32 ≤ 8800) (hnv : nv < 760) (h29 : 29 ≤ nv) (hb0 : b0 ≤ nv) (hpb : pb ≤ np) (hS45 : S 45 = nI (wt + 1)) (hc : mc I J b0 nv pb np) (hOx : mw I J b0 nv pb np x OX) (hOy : mw I J b0 nv pb np y OY) (hk : 22 ≤ k ∧ k ≤ 26) : gh_M l y_Mo_operate b_Mo_operate 5 none E sz [.ref a, .int (nI k), .int (nI x), .int (nI y)] f { frames := 8, cells := 0, slots := 0, locals := 280 } (fun r g => r = none ∧ ∃ S2 I2 J2, mo_X E f g a ad S2 I2 J2 ∧ mr_A (sr_two k OX OY) S I J b0 nv pb np wt S2 I2 J2) := by
  rcases (show k = 22 ∨ k = 23 ∨ k = 24 ∨ k = 25 ∨ k = 26 by omega) with rfl | rfl | rfl | rfl | rfl
  · exact c_Mo_operate22 l E sz f a ad S I J b0 nv pb np wt x y OX OY hX h11 h12 hp8 hnv h29 hb0 hpb hS45 hc hOx hOy
  · exact c_Mo_operate23 l E sz f a ad S I J b0 nv pb np wt x y OX OY hX h11 h12 hp8 hnv h29 hb0 hpb hS45 hc hOx hOy
  · exact c_Mo_operate24 l E sz f a ad S I J b0 nv pb np wt x y OX OY hX h11 h12 hp8 hnv h29 hb0 hpb hS45 hc hOx hOy
  · exact c_Mo_operate25 l E sz f a ad S I J b0 nv pb np wt x y OX OY hX h11 h12 hp8 hnv h29 hb0 hpb hS45 hc hOx hOy
  · exact c_Mo_operate26 l E sz f a ad S I J b0 nv pb np wt x y OX OY hX h11 h12 hp8 hnv h29 hb0 hpb hS45 hc hOx hOy
