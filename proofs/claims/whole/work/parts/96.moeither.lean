/-! either, attempt of the model, each way. Printed by wip/whole/gen_mo16.py. -/
theorem d_Mo_either_0 : decode b_Mo_either 0 = .ok (.aload_n 0, 1) := by decide +kernel
theorem d_Mo_either_1 : decode b_Mo_either 1 = .ok (.getfield 85, 3) := by decide +kernel
theorem d_Mo_either_4 : decode b_Mo_either 4 = .ok (.iconst 3, 1) := by decide +kernel
theorem d_Mo_either_5 : decode b_Mo_either 5 = .ok (.iload_n 1, 1) := by decide +kernel
theorem d_Mo_either_6 : decode b_Mo_either 6 = .ok (.imul, 1) := by decide +kernel
theorem d_Mo_either_7 : decode b_Mo_either 7 = .ok (.iaload, 1) := by decide +kernel
theorem d_Mo_either_8 : decode b_Mo_either 8 = .ok (.istore_n 3, 1) := by decide +kernel
theorem d_Mo_either_9 : decode b_Mo_either 9 = .ok (.aload_n 0, 1) := by decide +kernel
theorem d_Mo_either_10 : decode b_Mo_either 10 = .ok (.getfield 85, 3) := by decide +kernel
theorem d_Mo_either_13 : decode b_Mo_either 13 = .ok (.iconst 3, 1) := by decide +kernel
theorem d_Mo_either_14 : decode b_Mo_either 14 = .ok (.iload_n 1, 1) := by decide +kernel
theorem d_Mo_either_15 : decode b_Mo_either 15 = .ok (.imul, 1) := by decide +kernel
theorem d_Mo_either_16 : decode b_Mo_either 16 = .ok (.iconst 1, 1) := by decide +kernel
theorem d_Mo_either_17 : decode b_Mo_either 17 = .ok (.iadd, 1) := by decide +kernel
theorem d_Mo_either_18 : decode b_Mo_either 18 = .ok (.iaload, 1) := by decide +kernel
theorem d_Mo_either_19 : decode b_Mo_either 19 = .ok (.istore 4, 2) := by decide +kernel
theorem d_Mo_either_21 : decode b_Mo_either 21 = .ok (.aload_n 0, 1) := by decide +kernel
theorem d_Mo_either_22 : decode b_Mo_either 22 = .ok (.getfield 88, 3) := by decide +kernel
theorem d_Mo_either_25 : decode b_Mo_either 25 = .ok (.iload_n 1, 1) := by decide +kernel
theorem d_Mo_either_26 : decode b_Mo_either 26 = .ok (.iaload, 1) := by decide +kernel
theorem d_Mo_either_27 : decode b_Mo_either 27 = .ok (.iconst 2, 1) := by decide +kernel
theorem d_Mo_either_28 : decode b_Mo_either 28 = .ok (.if_icmp .ne 7, 3) := by decide +kernel
theorem d_Mo_either_31 : decode b_Mo_either 31 = .ok (.iconst 1, 1) := by decide +kernel
theorem d_Mo_either_32 : decode b_Mo_either 32 = .ok (.goto 4, 3) := by decide +kernel
theorem d_Mo_either_35 : decode b_Mo_either 35 = .ok (.iconst 0, 1) := by decide +kernel
theorem d_Mo_either_36 : decode b_Mo_either 36 = .ok (.istore 5, 2) := by decide +kernel
theorem d_Mo_either_38 : decode b_Mo_either 38 = .ok (.aload_n 0, 1) := by decide +kernel
theorem d_Mo_either_39 : decode b_Mo_either 39 = .ok (.getfield 277, 3) := by decide +kernel
theorem d_Mo_either_42 : decode b_Mo_either 42 = .ok (.ifCond .ne 46, 3) := by decide +kernel
theorem d_Mo_either_45 : decode b_Mo_either 45 = .ok (.aload_n 0, 1) := by decide +kernel
theorem d_Mo_either_46 : decode b_Mo_either 46 = .ok (.getfield 88, 3) := by decide +kernel
theorem d_Mo_either_49 : decode b_Mo_either 49 = .ok (.iload_n 1, 1) := by decide +kernel
theorem d_Mo_either_50 : decode b_Mo_either 50 = .ok (.iaload, 1) := by decide +kernel
theorem d_Mo_either_51 : decode b_Mo_either 51 = .ok (.ifCond .ne 37, 3) := by decide +kernel
theorem d_Mo_either_54 : decode b_Mo_either 54 = .ok (.aload_n 0, 1) := by decide +kernel
theorem d_Mo_either_55 : decode b_Mo_either 55 = .ok (.getfield 88, 3) := by decide +kernel
theorem d_Mo_either_58 : decode b_Mo_either 58 = .ok (.iload_n 1, 1) := by decide +kernel
theorem d_Mo_either_59 : decode b_Mo_either 59 = .ok (.iconst 1, 1) := by decide +kernel
theorem d_Mo_either_60 : decode b_Mo_either 60 = .ok (.iastore, 1) := by decide +kernel
theorem d_Mo_either_61 : decode b_Mo_either 61 = .ok (.aload_n 0, 1) := by decide +kernel
theorem d_Mo_either_62 : decode b_Mo_either 62 = .ok (.getfield 97, 3) := by decide +kernel
theorem d_Mo_either_65 : decode b_Mo_either 65 = .ok (.iload_n 1, 1) := by decide +kernel
theorem d_Mo_either_66 : decode b_Mo_either 66 = .ok (.iconst 0, 1) := by decide +kernel
theorem d_Mo_either_67 : decode b_Mo_either 67 = .ok (.iastore, 1) := by decide +kernel
theorem d_Mo_either_68 : decode b_Mo_either 68 = .ok (.aload_n 0, 1) := by decide +kernel
theorem d_Mo_either_69 : decode b_Mo_either 69 = .ok (.iload_n 3, 1) := by decide +kernel
theorem d_Mo_either_70 : decode b_Mo_either 70 = .ok (.aload_n 0, 1) := by decide +kernel
theorem d_Mo_either_71 : decode b_Mo_either 71 = .ok (.getfield 91, 3) := by decide +kernel
theorem d_Mo_either_74 : decode b_Mo_either 74 = .ok (.iload_n 1, 1) := by decide +kernel
theorem d_Mo_either_75 : decode b_Mo_either 75 = .ok (.iaload, 1) := by decide +kernel
theorem d_Mo_either_76 : decode b_Mo_either 76 = .ok (.aload_n 0, 1) := by decide +kernel
theorem d_Mo_either_77 : decode b_Mo_either 77 = .ok (.getfield 94, 3) := by decide +kernel
theorem d_Mo_either_80 : decode b_Mo_either 80 = .ok (.iload_n 1, 1) := by decide +kernel
theorem d_Mo_either_81 : decode b_Mo_either 81 = .ok (.iaload, 1) := by decide +kernel
theorem d_Mo_either_82 : decode b_Mo_either 82 = .ok (.invokevirtual 299, 3) := by decide +kernel
theorem d_Mo_either_85 : decode b_Mo_either 85 = .ok (.goto 152, 3) := by decide +kernel
theorem d_Mo_either_88 : decode b_Mo_either 88 = .ok (.aload_n 0, 1) := by decide +kernel
theorem d_Mo_either_89 : decode b_Mo_either 89 = .ok (.getfield 277, 3) := by decide +kernel
theorem d_Mo_either_92 : decode b_Mo_either 92 = .ok (.ifCond .ne 21, 3) := by decide +kernel
theorem d_Mo_either_95 : decode b_Mo_either 95 = .ok (.aload_n 0, 1) := by decide +kernel
theorem d_Mo_either_96 : decode b_Mo_either 96 = .ok (.iload 5, 2) := by decide +kernel
theorem d_Mo_either_98 : decode b_Mo_either 98 = .ok (.ifCond .eq 8, 3) := by decide +kernel
theorem d_Mo_either_101 : decode b_Mo_either 101 = .ok (.iload 4, 2) := by decide +kernel
theorem d_Mo_either_103 : decode b_Mo_either 103 = .ok (.goto 4, 3) := by decide +kernel
theorem d_Mo_either_106 : decode b_Mo_either 106 = .ok (.iload_n 3, 1) := by decide +kernel
theorem d_Mo_either_107 : decode b_Mo_either 107 = .ok (.invokevirtual 283, 3) := by decide +kernel
theorem d_Mo_either_110 : decode b_Mo_either 110 = .ok (.goto 127, 3) := by decide +kernel
theorem d_Mo_either_113 : decode b_Mo_either 113 = .ok (.aload_n 0, 1) := by decide +kernel
theorem d_Mo_either_114 : decode b_Mo_either 114 = .ok (.getfield 277, 3) := by decide +kernel
theorem d_Mo_either_117 : decode b_Mo_either 117 = .ok (.iconst 1, 1) := by decide +kernel
theorem d_Mo_either_118 : decode b_Mo_either 118 = .ok (.if_icmp .ne 44, 3) := by decide +kernel
theorem d_Mo_either_121 : decode b_Mo_either 121 = .ok (.iload_n 2, 1) := by decide +kernel
theorem d_Mo_either_122 : decode b_Mo_either 122 = .ok (.ifCond .eq 25, 3) := by decide +kernel
theorem d_Mo_either_125 : decode b_Mo_either 125 = .ok (.iload 5, 2) := by decide +kernel
theorem d_Mo_either_127 : decode b_Mo_either 127 = .ok (.ifCond .ne 20, 3) := by decide +kernel
theorem d_Mo_either_130 : decode b_Mo_either 130 = .ok (.aload_n 0, 1) := by decide +kernel
theorem d_Mo_either_131 : decode b_Mo_either 131 = .ok (.aload_n 0, 1) := by decide +kernel
theorem d_Mo_either_132 : decode b_Mo_either 132 = .ok (.getfield 286, 3) := by decide +kernel
theorem d_Mo_either_135 : decode b_Mo_either 135 = .ok (.invokevirtual 351, 3) := by decide +kernel
theorem d_Mo_either_138 : decode b_Mo_either 138 = .ok (.ifCond .ne 9, 3) := by decide +kernel
theorem d_Mo_either_141 : decode b_Mo_either 141 = .ok (.aload_n 0, 1) := by decide +kernel
theorem d_Mo_either_142 : decode b_Mo_either 142 = .ok (.iload_n 3, 1) := by decide +kernel
theorem d_Mo_either_143 : decode b_Mo_either 143 = .ok (.invokevirtual 283, 3) := by decide +kernel
theorem d_Mo_either_146 : decode b_Mo_either 146 = .ok (.return_, 1) := by decide +kernel
theorem d_Mo_either_147 : decode b_Mo_either 147 = .ok (.aload_n 0, 1) := by decide +kernel
theorem d_Mo_either_148 : decode b_Mo_either 148 = .ok (.getfield 97, 3) := by decide +kernel
theorem d_Mo_either_151 : decode b_Mo_either 151 = .ok (.iload_n 1, 1) := by decide +kernel
theorem d_Mo_either_152 : decode b_Mo_either 152 = .ok (.iconst 1, 1) := by decide +kernel
theorem d_Mo_either_153 : decode b_Mo_either 153 = .ok (.iastore, 1) := by decide +kernel
theorem d_Mo_either_154 : decode b_Mo_either 154 = .ok (.aload_n 0, 1) := by decide +kernel
theorem d_Mo_either_155 : decode b_Mo_either 155 = .ok (.iconst 1, 1) := by decide +kernel
theorem d_Mo_either_156 : decode b_Mo_either 156 = .ok (.invokevirtual 289, 3) := by decide +kernel
theorem d_Mo_either_159 : decode b_Mo_either 159 = .ok (.goto 78, 3) := by decide +kernel
theorem d_Mo_either_162 : decode b_Mo_either 162 = .ok (.iload 5, 2) := by decide +kernel
theorem d_Mo_either_164 : decode b_Mo_either 164 = .ok (.ifCond .ne 15, 3) := by decide +kernel
theorem d_Mo_either_167 : decode b_Mo_either 167 = .ok (.aload_n 0, 1) := by decide +kernel
theorem d_Mo_either_168 : decode b_Mo_either 168 = .ok (.getfield 277, 3) := by decide +kernel
theorem d_Mo_either_171 : decode b_Mo_either 171 = .ok (.iconst 3, 1) := by decide +kernel
theorem d_Mo_either_172 : decode b_Mo_either 172 = .ok (.if_icmp .ne 18, 3) := by decide +kernel
theorem d_Mo_either_175 : decode b_Mo_either 175 = .ok (.iload_n 2, 1) := by decide +kernel
theorem d_Mo_either_176 : decode b_Mo_either 176 = .ok (.ifCond .ne 14, 3) := by decide +kernel
theorem d_Mo_either_179 : decode b_Mo_either 179 = .ok (.aload_n 0, 1) := by decide +kernel
theorem d_Mo_either_180 : decode b_Mo_either 180 = .ok (.aload_n 0, 1) := by decide +kernel
theorem d_Mo_either_181 : decode b_Mo_either 181 = .ok (.getfield 277, 3) := by decide +kernel
theorem d_Mo_either_184 : decode b_Mo_either 184 = .ok (.invokevirtual 289, 3) := by decide +kernel
theorem d_Mo_either_187 : decode b_Mo_either 187 = .ok (.goto 50, 3) := by decide +kernel
theorem d_Mo_either_190 : decode b_Mo_either 190 = .ok (.iload_n 2, 1) := by decide +kernel
theorem d_Mo_either_191 : decode b_Mo_either 191 = .ok (.ifCond .eq 21, 3) := by decide +kernel
theorem d_Mo_either_194 : decode b_Mo_either 194 = .ok (.aload_n 0, 1) := by decide +kernel
theorem d_Mo_either_195 : decode b_Mo_either 195 = .ok (.getfield 97, 3) := by decide +kernel
theorem d_Mo_either_198 : decode b_Mo_either 198 = .ok (.iload_n 1, 1) := by decide +kernel
theorem d_Mo_either_199 : decode b_Mo_either 199 = .ok (.iaload, 1) := by decide +kernel
theorem d_Mo_either_200 : decode b_Mo_either 200 = .ok (.iconst 1, 1) := by decide +kernel
theorem d_Mo_either_201 : decode b_Mo_either 201 = .ok (.if_icmp .ne 11, 3) := by decide +kernel
theorem d_Mo_either_204 : decode b_Mo_either 204 = .ok (.aload_n 0, 1) := by decide +kernel
theorem d_Mo_either_205 : decode b_Mo_either 205 = .ok (.iconst 2, 1) := by decide +kernel
theorem d_Mo_either_206 : decode b_Mo_either 206 = .ok (.invokevirtual 289, 3) := by decide +kernel
theorem d_Mo_either_209 : decode b_Mo_either 209 = .ok (.goto 28, 3) := by decide +kernel
theorem d_Mo_either_212 : decode b_Mo_either 212 = .ok (.aload_n 0, 1) := by decide +kernel
theorem d_Mo_either_213 : decode b_Mo_either 213 = .ok (.getfield 88, 3) := by decide +kernel
theorem d_Mo_either_216 : decode b_Mo_either 216 = .ok (.iload_n 1, 1) := by decide +kernel
theorem d_Mo_either_217 : decode b_Mo_either 217 = .ok (.iconst 2, 1) := by decide +kernel
theorem d_Mo_either_218 : decode b_Mo_either 218 = .ok (.iastore, 1) := by decide +kernel
theorem d_Mo_either_219 : decode b_Mo_either 219 = .ok (.aload_n 0, 1) := by decide +kernel
theorem d_Mo_either_220 : decode b_Mo_either 220 = .ok (.iload 4, 2) := by decide +kernel
theorem d_Mo_either_222 : decode b_Mo_either 222 = .ok (.aload_n 0, 1) := by decide +kernel
theorem d_Mo_either_223 : decode b_Mo_either 223 = .ok (.getfield 91, 3) := by decide +kernel
theorem d_Mo_either_226 : decode b_Mo_either 226 = .ok (.iload_n 1, 1) := by decide +kernel
theorem d_Mo_either_227 : decode b_Mo_either 227 = .ok (.iaload, 1) := by decide +kernel
theorem d_Mo_either_228 : decode b_Mo_either 228 = .ok (.aload_n 0, 1) := by decide +kernel
theorem d_Mo_either_229 : decode b_Mo_either 229 = .ok (.getfield 94, 3) := by decide +kernel
theorem d_Mo_either_232 : decode b_Mo_either 232 = .ok (.iload_n 1, 1) := by decide +kernel
theorem d_Mo_either_233 : decode b_Mo_either 233 = .ok (.iaload, 1) := by decide +kernel
theorem d_Mo_either_234 : decode b_Mo_either 234 = .ok (.invokevirtual 299, 3) := by decide +kernel
theorem d_Mo_either_237 : decode b_Mo_either 237 = .ok (.return_, 1) := by decide +kernel
set_option maxHeartbeats 4000000 in
set_option maxRecDepth 100000 in
theorem c_Mo_either_000 (l : Launch) (E : gh_E) (sz : Nat) (f : gh_F) (a : Nat) (ad : Nat → Nat) (S : Nat → Int32) (I : Nat → Nat → Int32) (J : Nat → Nat → Int64) (w cp φ : Nat) (p0 : Nat) (p1 : Nat) (hX : mo_R E f a ad S I J) (h45 : S 45 = nI (w + 1)) (hw : w < 14) (hc60 : cp < 60) (h48 : S 48 = nI φ) (hφ : φ < 1000) (h49 : ¬ 0 ≤ S 49) (hp0c : I 34 (3 * cp) = nI p0) (hq0 : cp < p0 ∧ p0 < 60) (hp1c : I 34 (3 * cp + 1) = nI p1) (hq1 : cp < p1 ∧ p1 < 60) (hS46 : S 46 = 0) (hph : I 35 cp = 0) : gh_M l y_Mo_either b_Mo_either 6 none E sz [.ref a, .int (nI cp), .int 0] f { frames := 7, cells := 0, slots := 0, locals := 200 } (fun r g => r = none ∧ ∃ S2 I2, mo_X E f g a ad S2 I2 J ∧ mct cp w (fun j => j = p0) (va_up (va_up (fun k => I k cp) 35 1) 38 0) S I S2 I2 ∧ oc_e w p0 (I 36 cp) (I 37 cp) φ S S2 I2) := by
  refine gh_open (by decide) (Nat.le_of_ble_eq_true rfl) ?_
  intro p e s m args below meth c A ls hAe C V hr hlocks hname hl
  have hx := C.1
  have hb := C.2.1
  have hl : lv_has ls 6 [(0, .ref a), (1, .int (nI cp)), (2, .int 0)] := hl
  have X : mo_X E f f a ad S I J := ⟨hX, gh_fr.rf⟩
  refine lv_aload_n hx hb d_Mo_either_0 rfl (lv_at hl 0 rfl) ?_
  refine mo_getA C V X 34 (by decide) (by decide) f_Mo_85 rfl d_Mo_either_1 ?_
  refine lv_iconst (v := 3) hx hb d_Mo_either_4 (by decide) ?_
  refine lv_iload_n hx hb d_Mo_either_5 rfl (lv_at hl 1 rfl) ?_
  refine gn_imul (a := 3) (b := cp) hx hb d_Mo_either_6 ?_
  refine mo_ild (k := 34) (i := 3 * cp) (n := 180) C V X (by decide) (by decide) rfl (by omega) (by decide) d_Mo_either_7 ?_
  rw [show I 34 (3 * cp) = nI p0 from hp0c]
  refine lv_istore_n hx hb d_Mo_either_8 rfl hl (by decide) rfl (fun ls hl => ?_)
  have hl : lv_has ls 6 [(3, .int (nI p0)), (0, .ref a), (1, .int (nI cp)), (2, .int 0)] := hl
  refine lv_aload_n hx hb d_Mo_either_9 rfl (lv_at hl 1 rfl) ?_
  refine mo_getA C V X 34 (by decide) (by decide) f_Mo_85 rfl d_Mo_either_10 ?_
  refine lv_iconst (v := 3) hx hb d_Mo_either_13 (by decide) ?_
  refine lv_iload_n hx hb d_Mo_either_14 rfl (lv_at hl 2 rfl) ?_
  refine gn_imul (a := 3) (b := cp) hx hb d_Mo_either_15 ?_
  refine lv_iconst (v := 1) hx hb d_Mo_either_16 (by decide) ?_
  refine gn_iadd (a := 3 * cp) (b := 1) hx hb d_Mo_either_17 ?_
  refine mo_ild (k := 34) (i := (3 * cp) + 1) (n := 180) C V X (by decide) (by decide) rfl (by omega) (by decide) d_Mo_either_18 ?_
  rw [show I 34 ((3 * cp) + 1) = nI p1 from hp1c]
  refine lv_istore hx hb d_Mo_either_19 hl (by decide) rfl (fun ls hl => ?_)
  have hl : lv_has ls 6 [(4, .int (nI p1)), (3, .int (nI p0)), (0, .ref a), (1, .int (nI cp)), (2, .int 0)] := hl
  refine lv_aload_n hx hb d_Mo_either_21 rfl (lv_at hl 2 rfl) ?_
  refine mo_getA C V X 35 (by decide) (by decide) f_Mo_88 rfl d_Mo_either_22 ?_
  refine lv_iload_n hx hb d_Mo_either_25 rfl (lv_at hl 3 rfl) ?_
  refine mo_ild (k := 35) (i := cp) (n := 60) C V X (by decide) (by decide) rfl (by omega) (by decide) d_Mo_either_26 ?_
  rw [show I 35 cp = 0 from hph]
  refine lv_iconst (v := 2) hx hb d_Mo_either_27 (by decide) ?_
  refine lv_icmp_ne (tgt := 35) hx hb d_Mo_either_28 (by decide) (fun c1 => ?_) (fun c1 => absurd c1 (by decide))
  refine lv_iconst (v := 0) hx hb d_Mo_either_35 (by decide) ?_
  refine lv_istore hx hb d_Mo_either_36 hl (by decide) rfl (fun ls hl => ?_)
  have hl : lv_has ls 6 [(5, .int 0), (4, .int (nI p1)), (3, .int (nI p0)), (0, .ref a), (1, .int (nI cp)), (2, .int 0)] := hl
  refine lv_aload_n hx hb d_Mo_either_38 rfl (lv_at hl 3 rfl) ?_
  refine mo_getS (v := 0) C V X 46 (by decide) (by decide) (by first | rfl | exact hS46) f_Mo_277 rfl d_Mo_either_39 ?_
  refine lv_if_ne (tgt := 88) hx hb d_Mo_either_42 (by decide) (fun c2 => absurd (by decide) c2) (fun c2 => ?_)
  refine lv_aload_n hx hb d_Mo_either_45 rfl (lv_at hl 3 rfl) ?_
  refine mo_getA C V X 35 (by decide) (by decide) f_Mo_88 rfl d_Mo_either_46 ?_
  refine lv_iload_n hx hb d_Mo_either_49 rfl (lv_at hl 4 rfl) ?_
  refine mo_ild (k := 35) (i := cp) (n := 60) C V X (by decide) (by decide) rfl (by omega) (by decide) d_Mo_either_50 ?_
  rw [show I 35 cp = 0 from hph]
  refine lv_if_ne (tgt := 88) hx hb d_Mo_either_51 (by decide) (fun c3 => absurd (by decide) c3) (fun c3 => ?_)
  refine lv_aload_n hx hb d_Mo_either_54 rfl (lv_at hl 3 rfl) ?_
  refine mo_getA C V X 35 (by decide) (by decide) f_Mo_88 rfl d_Mo_either_55 ?_
  refine lv_iload_n hx hb d_Mo_either_58 rfl (lv_at hl 4 rfl) ?_
  refine lv_iconst (v := 1) hx hb d_Mo_either_59 (by decide) ?_
  refine mo_ist (k := 35) (i := cp) (n := 60) C V X (by decide) (by decide) rfl (by omega) (by decide) d_Mo_either_60 (fun f1 H locs V1 X1 => ?_)
  clear V X
  have V := V1
  have X := X1
  clear V1 X1
  refine lv_aload_n hx hb d_Mo_either_61 rfl (lv_at hl 3 rfl) ?_
  refine mo_getA C V X 38 (by decide) (by decide) f_Mo_97 rfl d_Mo_either_62 ?_
  refine lv_iload_n hx hb d_Mo_either_65 rfl (lv_at hl 4 rfl) ?_
  refine lv_iconst (v := 0) hx hb d_Mo_either_66 (by decide) ?_
  refine mo_ist (k := 38) (i := cp) (n := 60) C V X (by decide) (by decide) rfl (by omega) (by decide) d_Mo_either_67 (fun f1 H locs V1 X1 => ?_)
  clear V X
  have V := V1
  have X := X1
  clear V1 X1
  refine lv_aload_n hx hb d_Mo_either_68 rfl (lv_at hl 3 rfl) ?_
  refine lv_iload_n hx hb d_Mo_either_69 rfl (lv_at hl 2 rfl) ?_
  refine lv_aload_n hx hb d_Mo_either_70 rfl (lv_at hl 3 rfl) ?_
  refine mo_getA C V X 36 (by decide) (by decide) f_Mo_91 rfl d_Mo_either_71 ?_
  refine lv_iload_n hx hb d_Mo_either_74 rfl (lv_at hl 4 rfl) ?_
  refine mo_ild (k := 36) (i := cp) (n := 60) C V X (by decide) (by decide) rfl (by omega) (by decide) d_Mo_either_75 ?_
  rw [show (va_up (va_up I 35 (upd (I 35) cp 1)) 38 (upd ((va_up I 35 (upd (I 35) cp 1)) 38) cp 0)) 36 cp = I 36 cp from ((congrFun (va_up_n (by decide)) cp).trans (((congrFun (va_up_n (by decide)) cp).trans (rfl))))]
  refine lv_aload_n hx hb d_Mo_either_76 rfl (lv_at hl 3 rfl) ?_
  refine mo_getA C V X 37 (by decide) (by decide) f_Mo_94 rfl d_Mo_either_77 ?_
  refine lv_iload_n hx hb d_Mo_either_80 rfl (lv_at hl 4 rfl) ?_
  refine mo_ild (k := 37) (i := cp) (n := 60) C V X (by decide) (by decide) rfl (by omega) (by decide) d_Mo_either_81 ?_
  rw [show (va_up (va_up I 35 (upd (I 35) cp 1)) 38 (upd ((va_up I 35 (upd (I 35) cp 1)) 38) cp 0)) 37 cp = I 37 cp from ((congrFun (va_up_n (by decide)) cp).trans (((congrFun (va_up_n (by decide)) cp).trans (rfl))))]
  refine gh_callV C V hl.1 m_Mo_enter l_Mo_299 (c_Mo_enter l E _ _ a ad _ _ _ p0 (I 36 cp) (I 37 cp) φ (w + 1) X.1 (by omega) h48 hφ h49 h45 (by omega)) rfl X.1.1 gc_Mo ⟨by first | decide | omega | (dsimp only; omega), by first | decide | omega | (dsimp only; omega)⟩ ⟨by first | decide | omega | (dsimp only; omega), by first | decide | omega | (dsimp only; omega)⟩ (Nat.le_of_ble_eq_true rfl) rfl d_Mo_either_82 (fun r z9 H locs hp V1 => ?_)
  obtain ⟨rfl, hp0, hp1⟩ := hp
  have V := V1
  by_cases hz : φ = 0
  · have X := X.then (hp0 hz)
    refine W.eq (g2 := F0 m 85 ls []) rfl ?_
    refine lv_goto (tgt := 237) hx hb d_Mo_either_85 (by decide) ?_
    refine gh_retv hAe C V hr hlocks d_Mo_either_237 (by first | decide | omega | (dsimp only; omega)) (by first | decide | omega | (dsimp only; omega)) ?_
    exact ⟨rfl, _, _, X, (((mct.rf.cell 35 1 (by decide) (by decide)).cell 38 0 (by decide) (by decide)).s (k := 49) (by omega)).mono (fun _ z => z.elim), oc_e0 hz rfl⟩
  · have X := X.then (hp1 (by omega))
    refine W.eq (g2 := F0 m 85 ls []) rfl ?_
    refine lv_goto (tgt := 237) hx hb d_Mo_either_85 (by decide) ?_
    refine gh_retv hAe C V hr hlocks d_Mo_either_237 (by first | decide | omega | (dsimp only; omega)) (by first | decide | omega | (dsimp only; omega)) ?_
    exact ⟨rfl, _, _, X, ((mct.rf.cell 35 1 (by decide) (by decide)).cell 38 0 (by decide) (by decide)).enter (by omega), oc_e1 (by omega) rfl⟩
set_option maxHeartbeats 4000000 in
set_option maxRecDepth 100000 in
theorem c_Mo_either_001 (l : Launch) (E : gh_E) (sz : Nat) (f : gh_F) (a : Nat) (ad : Nat → Nat) (S : Nat → Int32) (I : Nat → Nat → Int32) (J : Nat → Nat → Int64) (w cp φ : Nat) (p0 : Nat) (p1 : Nat) (hX : mo_R E f a ad S I J) (h45 : S 45 = nI (w + 1)) (hw : w < 14) (hc60 : cp < 60) (hp0c : I 34 (3 * cp) = nI p0) (hq0 : cp < p0 ∧ p0 < 60) (hp1c : I 34 (3 * cp + 1) = nI p1) (hq1 : cp < p1 ∧ p1 < 60) (hS46 : S 46 = 0) (hph : I 35 cp = 1) : gh_M l y_Mo_either b_Mo_either 6 none E sz [.ref a, .int (nI cp), .int 0] f { frames := 7, cells := 0, slots := 0, locals := 200 } (fun r g => r = none ∧ ∃ S2 I2, mo_X E f g a ad S2 I2 J ∧ mct cp w (fun _ => False) (fun k => I k cp) S I S2 I2 ∧ oc_a w p0 S S2 I2) := by
  refine gh_open (by decide) (Nat.le_of_ble_eq_true rfl) ?_
  intro p e s m args below meth c A ls hAe C V hr hlocks hname hl
  have hx := C.1
  have hb := C.2.1
  have hl : lv_has ls 6 [(0, .ref a), (1, .int (nI cp)), (2, .int 0)] := hl
  have X : mo_X E f f a ad S I J := ⟨hX, gh_fr.rf⟩
  refine lv_aload_n hx hb d_Mo_either_0 rfl (lv_at hl 0 rfl) ?_
  refine mo_getA C V X 34 (by decide) (by decide) f_Mo_85 rfl d_Mo_either_1 ?_
  refine lv_iconst (v := 3) hx hb d_Mo_either_4 (by decide) ?_
  refine lv_iload_n hx hb d_Mo_either_5 rfl (lv_at hl 1 rfl) ?_
  refine gn_imul (a := 3) (b := cp) hx hb d_Mo_either_6 ?_
  refine mo_ild (k := 34) (i := 3 * cp) (n := 180) C V X (by decide) (by decide) rfl (by omega) (by decide) d_Mo_either_7 ?_
  rw [show I 34 (3 * cp) = nI p0 from hp0c]
  refine lv_istore_n hx hb d_Mo_either_8 rfl hl (by decide) rfl (fun ls hl => ?_)
  have hl : lv_has ls 6 [(3, .int (nI p0)), (0, .ref a), (1, .int (nI cp)), (2, .int 0)] := hl
  refine lv_aload_n hx hb d_Mo_either_9 rfl (lv_at hl 1 rfl) ?_
  refine mo_getA C V X 34 (by decide) (by decide) f_Mo_85 rfl d_Mo_either_10 ?_
  refine lv_iconst (v := 3) hx hb d_Mo_either_13 (by decide) ?_
  refine lv_iload_n hx hb d_Mo_either_14 rfl (lv_at hl 2 rfl) ?_
  refine gn_imul (a := 3) (b := cp) hx hb d_Mo_either_15 ?_
  refine lv_iconst (v := 1) hx hb d_Mo_either_16 (by decide) ?_
  refine gn_iadd (a := 3 * cp) (b := 1) hx hb d_Mo_either_17 ?_
  refine mo_ild (k := 34) (i := (3 * cp) + 1) (n := 180) C V X (by decide) (by decide) rfl (by omega) (by decide) d_Mo_either_18 ?_
  rw [show I 34 ((3 * cp) + 1) = nI p1 from hp1c]
  refine lv_istore hx hb d_Mo_either_19 hl (by decide) rfl (fun ls hl => ?_)
  have hl : lv_has ls 6 [(4, .int (nI p1)), (3, .int (nI p0)), (0, .ref a), (1, .int (nI cp)), (2, .int 0)] := hl
  refine lv_aload_n hx hb d_Mo_either_21 rfl (lv_at hl 2 rfl) ?_
  refine mo_getA C V X 35 (by decide) (by decide) f_Mo_88 rfl d_Mo_either_22 ?_
  refine lv_iload_n hx hb d_Mo_either_25 rfl (lv_at hl 3 rfl) ?_
  refine mo_ild (k := 35) (i := cp) (n := 60) C V X (by decide) (by decide) rfl (by omega) (by decide) d_Mo_either_26 ?_
  rw [show I 35 cp = 1 from hph]
  refine lv_iconst (v := 2) hx hb d_Mo_either_27 (by decide) ?_
  refine lv_icmp_ne (tgt := 35) hx hb d_Mo_either_28 (by decide) (fun c1 => ?_) (fun c1 => absurd c1 (by decide))
  refine lv_iconst (v := 0) hx hb d_Mo_either_35 (by decide) ?_
  refine lv_istore hx hb d_Mo_either_36 hl (by decide) rfl (fun ls hl => ?_)
  have hl : lv_has ls 6 [(5, .int 0), (4, .int (nI p1)), (3, .int (nI p0)), (0, .ref a), (1, .int (nI cp)), (2, .int 0)] := hl
  refine lv_aload_n hx hb d_Mo_either_38 rfl (lv_at hl 3 rfl) ?_
  refine mo_getS (v := 0) C V X 46 (by decide) (by decide) (by first | rfl | exact hS46) f_Mo_277 rfl d_Mo_either_39 ?_
  refine lv_if_ne (tgt := 88) hx hb d_Mo_either_42 (by decide) (fun c2 => absurd (by decide) c2) (fun c2 => ?_)
  refine lv_aload_n hx hb d_Mo_either_45 rfl (lv_at hl 3 rfl) ?_
  refine mo_getA C V X 35 (by decide) (by decide) f_Mo_88 rfl d_Mo_either_46 ?_
  refine lv_iload_n hx hb d_Mo_either_49 rfl (lv_at hl 4 rfl) ?_
  refine mo_ild (k := 35) (i := cp) (n := 60) C V X (by decide) (by decide) rfl (by omega) (by decide) d_Mo_either_50 ?_
  rw [show I 35 cp = 1 from hph]
  refine lv_if_ne (tgt := 88) hx hb d_Mo_either_51 (by decide) (fun c3 => ?_) (fun c3 => absurd c3 (by decide))
  refine lv_aload_n hx hb d_Mo_either_88 rfl (lv_at hl 3 rfl) ?_
  refine mo_getS (v := 0) C V X 46 (by decide) (by decide) (by first | rfl | exact hS46) f_Mo_277 rfl d_Mo_either_89 ?_
  refine lv_if_ne (tgt := 113) hx hb d_Mo_either_92 (by decide) (fun c4 => absurd (by decide) c4) (fun c4 => ?_)
  refine lv_aload_n hx hb d_Mo_either_95 rfl (lv_at hl 3 rfl) ?_
  refine lv_iload hx hb d_Mo_either_96 (lv_at hl 0 rfl) ?_
  refine lv_if_eq (tgt := 106) hx hb d_Mo_either_98 (by decide) (fun c5 => ?_) (fun c5 => absurd (by decide) c5)
  refine lv_iload_n hx hb d_Mo_either_106 rfl (lv_at hl 2 rfl) ?_
  refine gh_callV C V hl.1 m_Mo_ask l_Mo_283 (c_Mo_ask l E _ _ a ad _ _ _ (nI p0) (w + 1) X.1 h45 (by omega)) rfl X.1.1 gc_Mo ⟨by first | decide | omega | (dsimp only; omega), by first | decide | omega | (dsimp only; omega)⟩ ⟨by first | decide | omega | (dsimp only; omega), by first | decide | omega | (dsimp only; omega)⟩ (Nat.le_of_ble_eq_true rfl) rfl d_Mo_either_107 (fun r z9 H locs hp V1 => ?_)
  obtain ⟨rfl, X2⟩ := hp
  have X := X.then X2
  have V := V1
  refine W.eq (g2 := F0 m 110 ls []) rfl ?_
  refine lv_goto (tgt := 237) hx hb d_Mo_either_110 (by decide) ?_
  refine gh_retv hAe C V hr hlocks d_Mo_either_237 (by first | decide | omega | (dsimp only; omega)) (by first | decide | omega | (dsimp only; omega)) ?_
  exact ⟨rfl, _, _, X, mct.rf.ask, oc_a1 rfl rfl⟩
set_option maxHeartbeats 4000000 in
set_option maxRecDepth 100000 in
theorem c_Mo_either_002 (l : Launch) (E : gh_E) (sz : Nat) (f : gh_F) (a : Nat) (ad : Nat → Nat) (S : Nat → Int32) (I : Nat → Nat → Int32) (J : Nat → Nat → Int64) (w cp φ : Nat) (p0 : Nat) (p1 : Nat) (hX : mo_R E f a ad S I J) (h45 : S 45 = nI (w + 1)) (hw : w < 14) (hc60 : cp < 60) (hp0c : I 34 (3 * cp) = nI p0) (hq0 : cp < p0 ∧ p0 < 60) (hp1c : I 34 (3 * cp + 1) = nI p1) (hq1 : cp < p1 ∧ p1 < 60) (hS46 : S 46 = 0) (hph : I 35 cp = 2) : gh_M l y_Mo_either b_Mo_either 6 none E sz [.ref a, .int (nI cp), .int 0] f { frames := 7, cells := 0, slots := 0, locals := 200 } (fun r g => r = none ∧ ∃ S2 I2, mo_X E f g a ad S2 I2 J ∧ mct cp w (fun _ => False) (fun k => I k cp) S I S2 I2 ∧ oc_a w p1 S S2 I2) := by
  refine gh_open (by decide) (Nat.le_of_ble_eq_true rfl) ?_
  intro p e s m args below meth c A ls hAe C V hr hlocks hname hl
  have hx := C.1
  have hb := C.2.1
  have hl : lv_has ls 6 [(0, .ref a), (1, .int (nI cp)), (2, .int 0)] := hl
  have X : mo_X E f f a ad S I J := ⟨hX, gh_fr.rf⟩
  refine lv_aload_n hx hb d_Mo_either_0 rfl (lv_at hl 0 rfl) ?_
  refine mo_getA C V X 34 (by decide) (by decide) f_Mo_85 rfl d_Mo_either_1 ?_
  refine lv_iconst (v := 3) hx hb d_Mo_either_4 (by decide) ?_
  refine lv_iload_n hx hb d_Mo_either_5 rfl (lv_at hl 1 rfl) ?_
  refine gn_imul (a := 3) (b := cp) hx hb d_Mo_either_6 ?_
  refine mo_ild (k := 34) (i := 3 * cp) (n := 180) C V X (by decide) (by decide) rfl (by omega) (by decide) d_Mo_either_7 ?_
  rw [show I 34 (3 * cp) = nI p0 from hp0c]
  refine lv_istore_n hx hb d_Mo_either_8 rfl hl (by decide) rfl (fun ls hl => ?_)
  have hl : lv_has ls 6 [(3, .int (nI p0)), (0, .ref a), (1, .int (nI cp)), (2, .int 0)] := hl
  refine lv_aload_n hx hb d_Mo_either_9 rfl (lv_at hl 1 rfl) ?_
  refine mo_getA C V X 34 (by decide) (by decide) f_Mo_85 rfl d_Mo_either_10 ?_
  refine lv_iconst (v := 3) hx hb d_Mo_either_13 (by decide) ?_
  refine lv_iload_n hx hb d_Mo_either_14 rfl (lv_at hl 2 rfl) ?_
  refine gn_imul (a := 3) (b := cp) hx hb d_Mo_either_15 ?_
  refine lv_iconst (v := 1) hx hb d_Mo_either_16 (by decide) ?_
  refine gn_iadd (a := 3 * cp) (b := 1) hx hb d_Mo_either_17 ?_
  refine mo_ild (k := 34) (i := (3 * cp) + 1) (n := 180) C V X (by decide) (by decide) rfl (by omega) (by decide) d_Mo_either_18 ?_
  rw [show I 34 ((3 * cp) + 1) = nI p1 from hp1c]
  refine lv_istore hx hb d_Mo_either_19 hl (by decide) rfl (fun ls hl => ?_)
  have hl : lv_has ls 6 [(4, .int (nI p1)), (3, .int (nI p0)), (0, .ref a), (1, .int (nI cp)), (2, .int 0)] := hl
  refine lv_aload_n hx hb d_Mo_either_21 rfl (lv_at hl 2 rfl) ?_
  refine mo_getA C V X 35 (by decide) (by decide) f_Mo_88 rfl d_Mo_either_22 ?_
  refine lv_iload_n hx hb d_Mo_either_25 rfl (lv_at hl 3 rfl) ?_
  refine mo_ild (k := 35) (i := cp) (n := 60) C V X (by decide) (by decide) rfl (by omega) (by decide) d_Mo_either_26 ?_
  rw [show I 35 cp = 2 from hph]
  refine lv_iconst (v := 2) hx hb d_Mo_either_27 (by decide) ?_
  refine lv_icmp_ne (tgt := 35) hx hb d_Mo_either_28 (by decide) (fun c1 => absurd (by decide) c1) (fun c1 => ?_)
  refine lv_iconst (v := 1) hx hb d_Mo_either_31 (by decide) ?_
  refine lv_goto (tgt := 36) hx hb d_Mo_either_32 (by decide) ?_
  refine lv_istore hx hb d_Mo_either_36 hl (by decide) rfl (fun ls hl => ?_)
  have hl : lv_has ls 6 [(5, .int 1), (4, .int (nI p1)), (3, .int (nI p0)), (0, .ref a), (1, .int (nI cp)), (2, .int 0)] := hl
  refine lv_aload_n hx hb d_Mo_either_38 rfl (lv_at hl 3 rfl) ?_
  refine mo_getS (v := 0) C V X 46 (by decide) (by decide) (by first | rfl | exact hS46) f_Mo_277 rfl d_Mo_either_39 ?_
  refine lv_if_ne (tgt := 88) hx hb d_Mo_either_42 (by decide) (fun c2 => absurd (by decide) c2) (fun c2 => ?_)
  refine lv_aload_n hx hb d_Mo_either_45 rfl (lv_at hl 3 rfl) ?_
  refine mo_getA C V X 35 (by decide) (by decide) f_Mo_88 rfl d_Mo_either_46 ?_
  refine lv_iload_n hx hb d_Mo_either_49 rfl (lv_at hl 4 rfl) ?_
  refine mo_ild (k := 35) (i := cp) (n := 60) C V X (by decide) (by decide) rfl (by omega) (by decide) d_Mo_either_50 ?_
  rw [show I 35 cp = 2 from hph]
  refine lv_if_ne (tgt := 88) hx hb d_Mo_either_51 (by decide) (fun c3 => ?_) (fun c3 => absurd c3 (by decide))
  refine lv_aload_n hx hb d_Mo_either_88 rfl (lv_at hl 3 rfl) ?_
  refine mo_getS (v := 0) C V X 46 (by decide) (by decide) (by first | rfl | exact hS46) f_Mo_277 rfl d_Mo_either_89 ?_
  refine lv_if_ne (tgt := 113) hx hb d_Mo_either_92 (by decide) (fun c4 => absurd (by decide) c4) (fun c4 => ?_)
  refine lv_aload_n hx hb d_Mo_either_95 rfl (lv_at hl 3 rfl) ?_
  refine lv_iload hx hb d_Mo_either_96 (lv_at hl 0 rfl) ?_
  refine lv_if_eq (tgt := 106) hx hb d_Mo_either_98 (by decide) (fun c5 => absurd c5 (by decide)) (fun c5 => ?_)
  refine lv_iload hx hb d_Mo_either_101 (lv_at hl 1 rfl) ?_
  refine lv_goto (tgt := 107) hx hb d_Mo_either_103 (by decide) ?_
  refine gh_callV C V hl.1 m_Mo_ask l_Mo_283 (c_Mo_ask l E _ _ a ad _ _ _ (nI p1) (w + 1) X.1 h45 (by omega)) rfl X.1.1 gc_Mo ⟨by first | decide | omega | (dsimp only; omega), by first | decide | omega | (dsimp only; omega)⟩ ⟨by first | decide | omega | (dsimp only; omega), by first | decide | omega | (dsimp only; omega)⟩ (Nat.le_of_ble_eq_true rfl) rfl d_Mo_either_107 (fun r z9 H locs hp V1 => ?_)
  obtain ⟨rfl, X2⟩ := hp
  have X := X.then X2
  have V := V1
  refine W.eq (g2 := F0 m 110 ls []) rfl ?_
  refine lv_goto (tgt := 237) hx hb d_Mo_either_110 (by decide) ?_
  refine gh_retv hAe C V hr hlocks d_Mo_either_237 (by first | decide | omega | (dsimp only; omega)) (by first | decide | omega | (dsimp only; omega)) ?_
  exact ⟨rfl, _, _, X, mct.rf.ask, oc_a1 rfl rfl⟩
set_option maxHeartbeats 4000000 in
set_option maxRecDepth 100000 in
theorem c_Mo_either_012 (l : Launch) (E : gh_E) (sz : Nat) (f : gh_F) (a : Nat) (ad : Nat → Nat) (S : Nat → Int32) (I : Nat → Nat → Int32) (J : Nat → Nat → Int64) (w cp φ : Nat) (p0 : Nat) (p1 : Nat) (u : Nat) (hX : mo_R E f a ad S I J) (h45 : S 45 = nI (w + 1)) (hw : w < 14) (hc60 : cp < 60) (hp0c : I 34 (3 * cp) = nI p0) (hq0 : cp < p0 ∧ p0 < 60) (hp1c : I 34 (3 * cp + 1) = nI p1) (hq1 : cp < p1 ∧ p1 < 60) (hS46 : S 46 = 1) (hph : I 35 cp = 2) (hS47 : S 47 = nI u) : gh_M l y_Mo_either b_Mo_either 6 none E sz [.ref a, .int (nI cp), .int 0] f { frames := 7, cells := 0, slots := 0, locals := 200 } (fun r g => r = none ∧ ∃ S2 I2, mo_X E f g a ad S2 I2 J ∧ mct cp w (fun _ => False) (va_up (fun k => I k cp) 38 1) S I S2 I2 ∧ oc_t w 1 (nI u) S S2) := by
  refine gh_open (by decide) (Nat.le_of_ble_eq_true rfl) ?_
  intro p e s m args below meth c A ls hAe C V hr hlocks hname hl
  have hx := C.1
  have hb := C.2.1
  have hl : lv_has ls 6 [(0, .ref a), (1, .int (nI cp)), (2, .int 0)] := hl
  have X : mo_X E f f a ad S I J := ⟨hX, gh_fr.rf⟩
  refine lv_aload_n hx hb d_Mo_either_0 rfl (lv_at hl 0 rfl) ?_
  refine mo_getA C V X 34 (by decide) (by decide) f_Mo_85 rfl d_Mo_either_1 ?_
  refine lv_iconst (v := 3) hx hb d_Mo_either_4 (by decide) ?_
  refine lv_iload_n hx hb d_Mo_either_5 rfl (lv_at hl 1 rfl) ?_
  refine gn_imul (a := 3) (b := cp) hx hb d_Mo_either_6 ?_
  refine mo_ild (k := 34) (i := 3 * cp) (n := 180) C V X (by decide) (by decide) rfl (by omega) (by decide) d_Mo_either_7 ?_
  rw [show I 34 (3 * cp) = nI p0 from hp0c]
  refine lv_istore_n hx hb d_Mo_either_8 rfl hl (by decide) rfl (fun ls hl => ?_)
  have hl : lv_has ls 6 [(3, .int (nI p0)), (0, .ref a), (1, .int (nI cp)), (2, .int 0)] := hl
  refine lv_aload_n hx hb d_Mo_either_9 rfl (lv_at hl 1 rfl) ?_
  refine mo_getA C V X 34 (by decide) (by decide) f_Mo_85 rfl d_Mo_either_10 ?_
  refine lv_iconst (v := 3) hx hb d_Mo_either_13 (by decide) ?_
  refine lv_iload_n hx hb d_Mo_either_14 rfl (lv_at hl 2 rfl) ?_
  refine gn_imul (a := 3) (b := cp) hx hb d_Mo_either_15 ?_
  refine lv_iconst (v := 1) hx hb d_Mo_either_16 (by decide) ?_
  refine gn_iadd (a := 3 * cp) (b := 1) hx hb d_Mo_either_17 ?_
  refine mo_ild (k := 34) (i := (3 * cp) + 1) (n := 180) C V X (by decide) (by decide) rfl (by omega) (by decide) d_Mo_either_18 ?_
  rw [show I 34 ((3 * cp) + 1) = nI p1 from hp1c]
  refine lv_istore hx hb d_Mo_either_19 hl (by decide) rfl (fun ls hl => ?_)
  have hl : lv_has ls 6 [(4, .int (nI p1)), (3, .int (nI p0)), (0, .ref a), (1, .int (nI cp)), (2, .int 0)] := hl
  refine lv_aload_n hx hb d_Mo_either_21 rfl (lv_at hl 2 rfl) ?_
  refine mo_getA C V X 35 (by decide) (by decide) f_Mo_88 rfl d_Mo_either_22 ?_
  refine lv_iload_n hx hb d_Mo_either_25 rfl (lv_at hl 3 rfl) ?_
  refine mo_ild (k := 35) (i := cp) (n := 60) C V X (by decide) (by decide) rfl (by omega) (by decide) d_Mo_either_26 ?_
  rw [show I 35 cp = 2 from hph]
  refine lv_iconst (v := 2) hx hb d_Mo_either_27 (by decide) ?_
  refine lv_icmp_ne (tgt := 35) hx hb d_Mo_either_28 (by decide) (fun c1 => absurd (by decide) c1) (fun c1 => ?_)
  refine lv_iconst (v := 1) hx hb d_Mo_either_31 (by decide) ?_
  refine lv_goto (tgt := 36) hx hb d_Mo_either_32 (by decide) ?_
  refine lv_istore hx hb d_Mo_either_36 hl (by decide) rfl (fun ls hl => ?_)
  have hl : lv_has ls 6 [(5, .int 1), (4, .int (nI p1)), (3, .int (nI p0)), (0, .ref a), (1, .int (nI cp)), (2, .int 0)] := hl
  refine lv_aload_n hx hb d_Mo_either_38 rfl (lv_at hl 3 rfl) ?_
  refine mo_getS (v := 1) C V X 46 (by decide) (by decide) (by first | rfl | exact hS46) f_Mo_277 rfl d_Mo_either_39 ?_
  refine lv_if_ne (tgt := 88) hx hb d_Mo_either_42 (by decide) (fun c2 => ?_) (fun c2 => absurd c2 (by decide))
  refine lv_aload_n hx hb d_Mo_either_88 rfl (lv_at hl 3 rfl) ?_
  refine mo_getS (v := 1) C V X 46 (by decide) (by decide) (by first | rfl | exact hS46) f_Mo_277 rfl d_Mo_either_89 ?_
  refine lv_if_ne (tgt := 113) hx hb d_Mo_either_92 (by decide) (fun c3 => ?_) (fun c3 => absurd c3 (by decide))
  refine lv_aload_n hx hb d_Mo_either_113 rfl (lv_at hl 3 rfl) ?_
  refine mo_getS (v := 1) C V X 46 (by decide) (by decide) (by first | rfl | exact hS46) f_Mo_277 rfl d_Mo_either_114 ?_
  refine lv_iconst (v := 1) hx hb d_Mo_either_117 (by decide) ?_
  refine lv_icmp_ne (tgt := 162) hx hb d_Mo_either_118 (by decide) (fun c4 => absurd (by decide) c4) (fun c4 => ?_)
  refine lv_iload_n hx hb d_Mo_either_121 rfl (lv_at hl 5 rfl) ?_
  refine lv_if_eq (tgt := 147) hx hb d_Mo_either_122 (by decide) (fun c5 => ?_) (fun c5 => absurd (by decide) c5)
  refine lv_aload_n hx hb d_Mo_either_147 rfl (lv_at hl 3 rfl) ?_
  refine mo_getA C V X 38 (by decide) (by decide) f_Mo_97 rfl d_Mo_either_148 ?_
  refine lv_iload_n hx hb d_Mo_either_151 rfl (lv_at hl 4 rfl) ?_
  refine lv_iconst (v := 1) hx hb d_Mo_either_152 (by decide) ?_
  refine mo_ist (k := 38) (i := cp) (n := 60) C V X (by decide) (by decide) rfl (by omega) (by decide) d_Mo_either_153 (fun f1 H locs V1 X1 => ?_)
  clear V X
  have V := V1
  have X := X1
  clear V1 X1
  refine lv_aload_n hx hb d_Mo_either_154 rfl (lv_at hl 3 rfl) ?_
  refine lv_iconst (v := 1) hx hb d_Mo_either_155 (by decide) ?_
  refine gh_callV C V hl.1 m_Mo_tell l_Mo_289 (c_Mo_tell l E _ _ a ad _ _ _ 1 w X.1 h45) rfl X.1.1 gc_Mo ⟨by first | decide | omega | (dsimp only; omega), by first | decide | omega | (dsimp only; omega)⟩ ⟨by first | decide | omega | (dsimp only; omega), by first | decide | omega | (dsimp only; omega)⟩ (Nat.le_of_ble_eq_true rfl) rfl d_Mo_either_156 (fun r z9 H locs hp V1 => ?_)
  obtain ⟨rfl, X2⟩ := hp
  have X := X.then X2
  have V := V1
  refine W.eq (g2 := F0 m 159 ls []) rfl ?_
  refine lv_goto (tgt := 237) hx hb d_Mo_either_159 (by decide) ?_
  refine gh_retv hAe C V hr hlocks d_Mo_either_237 (by first | decide | omega | (dsimp only; omega)) (by first | decide | omega | (dsimp only; omega)) ?_
  exact ⟨rfl, _, _, X, (mct.rf.cell 38 1 (by decide) (by decide)).tell, oc_t1 hS47 rfl rfl⟩
set_option maxHeartbeats 4000000 in
set_option maxRecDepth 100000 in
theorem c_Mo_either_011 (l : Launch) (E : gh_E) (sz : Nat) (f : gh_F) (a : Nat) (ad : Nat → Nat) (S : Nat → Int32) (I : Nat → Nat → Int32) (J : Nat → Nat → Int64) (w cp φ : Nat) (p0 : Nat) (p1 : Nat) (u : Nat) (hX : mo_R E f a ad S I J) (h45 : S 45 = nI (w + 1)) (hw : w < 14) (hc60 : cp < 60) (hp0c : I 34 (3 * cp) = nI p0) (hq0 : cp < p0 ∧ p0 < 60) (hp1c : I 34 (3 * cp + 1) = nI p1) (hq1 : cp < p1 ∧ p1 < 60) (hS46 : S 46 = 1) (hph : I 35 cp = 1) (hS47 : S 47 = nI u) : gh_M l y_Mo_either b_Mo_either 6 none E sz [.ref a, .int (nI cp), .int 0] f { frames := 7, cells := 0, slots := 0, locals := 200 } (fun r g => r = none ∧ ∃ S2 I2, mo_X E f g a ad S2 I2 J ∧ mct cp w (fun _ => False) (va_up (fun k => I k cp) 38 1) S I S2 I2 ∧ oc_t w 1 (nI u) S S2) := by
  refine gh_open (by decide) (Nat.le_of_ble_eq_true rfl) ?_
  intro p e s m args below meth c A ls hAe C V hr hlocks hname hl
  have hx := C.1
  have hb := C.2.1
  have hl : lv_has ls 6 [(0, .ref a), (1, .int (nI cp)), (2, .int 0)] := hl
  have X : mo_X E f f a ad S I J := ⟨hX, gh_fr.rf⟩
  refine lv_aload_n hx hb d_Mo_either_0 rfl (lv_at hl 0 rfl) ?_
  refine mo_getA C V X 34 (by decide) (by decide) f_Mo_85 rfl d_Mo_either_1 ?_
  refine lv_iconst (v := 3) hx hb d_Mo_either_4 (by decide) ?_
  refine lv_iload_n hx hb d_Mo_either_5 rfl (lv_at hl 1 rfl) ?_
  refine gn_imul (a := 3) (b := cp) hx hb d_Mo_either_6 ?_
  refine mo_ild (k := 34) (i := 3 * cp) (n := 180) C V X (by decide) (by decide) rfl (by omega) (by decide) d_Mo_either_7 ?_
  rw [show I 34 (3 * cp) = nI p0 from hp0c]
  refine lv_istore_n hx hb d_Mo_either_8 rfl hl (by decide) rfl (fun ls hl => ?_)
  have hl : lv_has ls 6 [(3, .int (nI p0)), (0, .ref a), (1, .int (nI cp)), (2, .int 0)] := hl
  refine lv_aload_n hx hb d_Mo_either_9 rfl (lv_at hl 1 rfl) ?_
  refine mo_getA C V X 34 (by decide) (by decide) f_Mo_85 rfl d_Mo_either_10 ?_
  refine lv_iconst (v := 3) hx hb d_Mo_either_13 (by decide) ?_
  refine lv_iload_n hx hb d_Mo_either_14 rfl (lv_at hl 2 rfl) ?_
  refine gn_imul (a := 3) (b := cp) hx hb d_Mo_either_15 ?_
  refine lv_iconst (v := 1) hx hb d_Mo_either_16 (by decide) ?_
  refine gn_iadd (a := 3 * cp) (b := 1) hx hb d_Mo_either_17 ?_
  refine mo_ild (k := 34) (i := (3 * cp) + 1) (n := 180) C V X (by decide) (by decide) rfl (by omega) (by decide) d_Mo_either_18 ?_
  rw [show I 34 ((3 * cp) + 1) = nI p1 from hp1c]
  refine lv_istore hx hb d_Mo_either_19 hl (by decide) rfl (fun ls hl => ?_)
  have hl : lv_has ls 6 [(4, .int (nI p1)), (3, .int (nI p0)), (0, .ref a), (1, .int (nI cp)), (2, .int 0)] := hl
  refine lv_aload_n hx hb d_Mo_either_21 rfl (lv_at hl 2 rfl) ?_
  refine mo_getA C V X 35 (by decide) (by decide) f_Mo_88 rfl d_Mo_either_22 ?_
  refine lv_iload_n hx hb d_Mo_either_25 rfl (lv_at hl 3 rfl) ?_
  refine mo_ild (k := 35) (i := cp) (n := 60) C V X (by decide) (by decide) rfl (by omega) (by decide) d_Mo_either_26 ?_
  rw [show I 35 cp = 1 from hph]
  refine lv_iconst (v := 2) hx hb d_Mo_either_27 (by decide) ?_
  refine lv_icmp_ne (tgt := 35) hx hb d_Mo_either_28 (by decide) (fun c1 => ?_) (fun c1 => absurd c1 (by decide))
  refine lv_iconst (v := 0) hx hb d_Mo_either_35 (by decide) ?_
  refine lv_istore hx hb d_Mo_either_36 hl (by decide) rfl (fun ls hl => ?_)
  have hl : lv_has ls 6 [(5, .int 0), (4, .int (nI p1)), (3, .int (nI p0)), (0, .ref a), (1, .int (nI cp)), (2, .int 0)] := hl
  refine lv_aload_n hx hb d_Mo_either_38 rfl (lv_at hl 3 rfl) ?_
  refine mo_getS (v := 1) C V X 46 (by decide) (by decide) (by first | rfl | exact hS46) f_Mo_277 rfl d_Mo_either_39 ?_
  refine lv_if_ne (tgt := 88) hx hb d_Mo_either_42 (by decide) (fun c2 => ?_) (fun c2 => absurd c2 (by decide))
  refine lv_aload_n hx hb d_Mo_either_88 rfl (lv_at hl 3 rfl) ?_
  refine mo_getS (v := 1) C V X 46 (by decide) (by decide) (by first | rfl | exact hS46) f_Mo_277 rfl d_Mo_either_89 ?_
  refine lv_if_ne (tgt := 113) hx hb d_Mo_either_92 (by decide) (fun c3 => ?_) (fun c3 => absurd c3 (by decide))
  refine lv_aload_n hx hb d_Mo_either_113 rfl (lv_at hl 3 rfl) ?_
  refine mo_getS (v := 1) C V X 46 (by decide) (by decide) (by first | rfl | exact hS46) f_Mo_277 rfl d_Mo_either_114 ?_
  refine lv_iconst (v := 1) hx hb d_Mo_either_117 (by decide) ?_
  refine lv_icmp_ne (tgt := 162) hx hb d_Mo_either_118 (by decide) (fun c4 => absurd (by decide) c4) (fun c4 => ?_)
  refine lv_iload_n hx hb d_Mo_either_121 rfl (lv_at hl 5 rfl) ?_
  refine lv_if_eq (tgt := 147) hx hb d_Mo_either_122 (by decide) (fun c5 => ?_) (fun c5 => absurd (by decide) c5)
  refine lv_aload_n hx hb d_Mo_either_147 rfl (lv_at hl 3 rfl) ?_
  refine mo_getA C V X 38 (by decide) (by decide) f_Mo_97 rfl d_Mo_either_148 ?_
  refine lv_iload_n hx hb d_Mo_either_151 rfl (lv_at hl 4 rfl) ?_
  refine lv_iconst (v := 1) hx hb d_Mo_either_152 (by decide) ?_
  refine mo_ist (k := 38) (i := cp) (n := 60) C V X (by decide) (by decide) rfl (by omega) (by decide) d_Mo_either_153 (fun f1 H locs V1 X1 => ?_)
  clear V X
  have V := V1
  have X := X1
  clear V1 X1
  refine lv_aload_n hx hb d_Mo_either_154 rfl (lv_at hl 3 rfl) ?_
  refine lv_iconst (v := 1) hx hb d_Mo_either_155 (by decide) ?_
  refine gh_callV C V hl.1 m_Mo_tell l_Mo_289 (c_Mo_tell l E _ _ a ad _ _ _ 1 w X.1 h45) rfl X.1.1 gc_Mo ⟨by first | decide | omega | (dsimp only; omega), by first | decide | omega | (dsimp only; omega)⟩ ⟨by first | decide | omega | (dsimp only; omega), by first | decide | omega | (dsimp only; omega)⟩ (Nat.le_of_ble_eq_true rfl) rfl d_Mo_either_156 (fun r z9 H locs hp V1 => ?_)
  obtain ⟨rfl, X2⟩ := hp
  have X := X.then X2
  have V := V1
  refine W.eq (g2 := F0 m 159 ls []) rfl ?_
  refine lv_goto (tgt := 237) hx hb d_Mo_either_159 (by decide) ?_
  refine gh_retv hAe C V hr hlocks d_Mo_either_237 (by first | decide | omega | (dsimp only; omega)) (by first | decide | omega | (dsimp only; omega)) ?_
  exact ⟨rfl, _, _, X, (mct.rf.cell 38 1 (by decide) (by decide)).tell, oc_t1 hS47 rfl rfl⟩
set_option maxHeartbeats 4000000 in
set_option maxRecDepth 100000 in
theorem c_Mo_either_022 (l : Launch) (E : gh_E) (sz : Nat) (f : gh_F) (a : Nat) (ad : Nat → Nat) (S : Nat → Int32) (I : Nat → Nat → Int32) (J : Nat → Nat → Int64) (w cp φ : Nat) (p0 : Nat) (p1 : Nat) (hX : mo_R E f a ad S I J) (h45 : S 45 = nI (w + 1)) (hw : w < 14) (hc60 : cp < 60) (hp0c : I 34 (3 * cp) = nI p0) (hq0 : cp < p0 ∧ p0 < 60) (hp1c : I 34 (3 * cp + 1) = nI p1) (hq1 : cp < p1 ∧ p1 < 60) (hS46 : S 46 = 2) (hph : I 35 cp = 2) : gh_M l y_Mo_either b_Mo_either 6 none E sz [.ref a, .int (nI cp), .int 0] f { frames := 7, cells := 0, slots := 0, locals := 200 } (fun r g => r = none ∧ ∃ S2 I2, mo_X E f g a ad S2 I2 J ∧ mct cp w (fun _ => False) (fun k => I k cp) S I S2 I2 ∧ oc_t w 2 (S 47) S S2) := by
  refine gh_open (by decide) (Nat.le_of_ble_eq_true rfl) ?_
  intro p e s m args below meth c A ls hAe C V hr hlocks hname hl
  have hx := C.1
  have hb := C.2.1
  have hl : lv_has ls 6 [(0, .ref a), (1, .int (nI cp)), (2, .int 0)] := hl
  have X : mo_X E f f a ad S I J := ⟨hX, gh_fr.rf⟩
  refine lv_aload_n hx hb d_Mo_either_0 rfl (lv_at hl 0 rfl) ?_
  refine mo_getA C V X 34 (by decide) (by decide) f_Mo_85 rfl d_Mo_either_1 ?_
  refine lv_iconst (v := 3) hx hb d_Mo_either_4 (by decide) ?_
  refine lv_iload_n hx hb d_Mo_either_5 rfl (lv_at hl 1 rfl) ?_
  refine gn_imul (a := 3) (b := cp) hx hb d_Mo_either_6 ?_
  refine mo_ild (k := 34) (i := 3 * cp) (n := 180) C V X (by decide) (by decide) rfl (by omega) (by decide) d_Mo_either_7 ?_
  rw [show I 34 (3 * cp) = nI p0 from hp0c]
  refine lv_istore_n hx hb d_Mo_either_8 rfl hl (by decide) rfl (fun ls hl => ?_)
  have hl : lv_has ls 6 [(3, .int (nI p0)), (0, .ref a), (1, .int (nI cp)), (2, .int 0)] := hl
  refine lv_aload_n hx hb d_Mo_either_9 rfl (lv_at hl 1 rfl) ?_
  refine mo_getA C V X 34 (by decide) (by decide) f_Mo_85 rfl d_Mo_either_10 ?_
  refine lv_iconst (v := 3) hx hb d_Mo_either_13 (by decide) ?_
  refine lv_iload_n hx hb d_Mo_either_14 rfl (lv_at hl 2 rfl) ?_
  refine gn_imul (a := 3) (b := cp) hx hb d_Mo_either_15 ?_
  refine lv_iconst (v := 1) hx hb d_Mo_either_16 (by decide) ?_
  refine gn_iadd (a := 3 * cp) (b := 1) hx hb d_Mo_either_17 ?_
  refine mo_ild (k := 34) (i := (3 * cp) + 1) (n := 180) C V X (by decide) (by decide) rfl (by omega) (by decide) d_Mo_either_18 ?_
  rw [show I 34 ((3 * cp) + 1) = nI p1 from hp1c]
  refine lv_istore hx hb d_Mo_either_19 hl (by decide) rfl (fun ls hl => ?_)
  have hl : lv_has ls 6 [(4, .int (nI p1)), (3, .int (nI p0)), (0, .ref a), (1, .int (nI cp)), (2, .int 0)] := hl
  refine lv_aload_n hx hb d_Mo_either_21 rfl (lv_at hl 2 rfl) ?_
  refine mo_getA C V X 35 (by decide) (by decide) f_Mo_88 rfl d_Mo_either_22 ?_
  refine lv_iload_n hx hb d_Mo_either_25 rfl (lv_at hl 3 rfl) ?_
  refine mo_ild (k := 35) (i := cp) (n := 60) C V X (by decide) (by decide) rfl (by omega) (by decide) d_Mo_either_26 ?_
  rw [show I 35 cp = 2 from hph]
  refine lv_iconst (v := 2) hx hb d_Mo_either_27 (by decide) ?_
  refine lv_icmp_ne (tgt := 35) hx hb d_Mo_either_28 (by decide) (fun c1 => absurd (by decide) c1) (fun c1 => ?_)
  refine lv_iconst (v := 1) hx hb d_Mo_either_31 (by decide) ?_
  refine lv_goto (tgt := 36) hx hb d_Mo_either_32 (by decide) ?_
  refine lv_istore hx hb d_Mo_either_36 hl (by decide) rfl (fun ls hl => ?_)
  have hl : lv_has ls 6 [(5, .int 1), (4, .int (nI p1)), (3, .int (nI p0)), (0, .ref a), (1, .int (nI cp)), (2, .int 0)] := hl
  refine lv_aload_n hx hb d_Mo_either_38 rfl (lv_at hl 3 rfl) ?_
  refine mo_getS (v := 2) C V X 46 (by decide) (by decide) (by first | rfl | exact hS46) f_Mo_277 rfl d_Mo_either_39 ?_
  refine lv_if_ne (tgt := 88) hx hb d_Mo_either_42 (by decide) (fun c2 => ?_) (fun c2 => absurd c2 (by decide))
  refine lv_aload_n hx hb d_Mo_either_88 rfl (lv_at hl 3 rfl) ?_
  refine mo_getS (v := 2) C V X 46 (by decide) (by decide) (by first | rfl | exact hS46) f_Mo_277 rfl d_Mo_either_89 ?_
  refine lv_if_ne (tgt := 113) hx hb d_Mo_either_92 (by decide) (fun c3 => ?_) (fun c3 => absurd c3 (by decide))
  refine lv_aload_n hx hb d_Mo_either_113 rfl (lv_at hl 3 rfl) ?_
  refine mo_getS (v := 2) C V X 46 (by decide) (by decide) (by first | rfl | exact hS46) f_Mo_277 rfl d_Mo_either_114 ?_
  refine lv_iconst (v := 1) hx hb d_Mo_either_117 (by decide) ?_
  refine lv_icmp_ne (tgt := 162) hx hb d_Mo_either_118 (by decide) (fun c4 => ?_) (fun c4 => absurd c4 (by decide))
  refine lv_iload hx hb d_Mo_either_162 (lv_at hl 0 rfl) ?_
  refine lv_if_ne (tgt := 179) hx hb d_Mo_either_164 (by decide) (fun c5 => ?_) (fun c5 => absurd c5 (by decide))
  refine lv_aload_n hx hb d_Mo_either_179 rfl (lv_at hl 3 rfl) ?_
  refine lv_aload_n hx hb d_Mo_either_180 rfl (lv_at hl 3 rfl) ?_
  refine mo_getS (v := 2) C V X 46 (by decide) (by decide) (by first | rfl | exact hS46) f_Mo_277 rfl d_Mo_either_181 ?_
  refine gh_callV C V hl.1 m_Mo_tell l_Mo_289 (c_Mo_tell l E _ _ a ad _ _ _ 2 w X.1 h45) rfl X.1.1 gc_Mo ⟨by first | decide | omega | (dsimp only; omega), by first | decide | omega | (dsimp only; omega)⟩ ⟨by first | decide | omega | (dsimp only; omega), by first | decide | omega | (dsimp only; omega)⟩ (Nat.le_of_ble_eq_true rfl) rfl d_Mo_either_184 (fun r z9 H locs hp V1 => ?_)
  obtain ⟨rfl, X2⟩ := hp
  have X := X.then X2
  have V := V1
  refine W.eq (g2 := F0 m 187 ls []) rfl ?_
  refine lv_goto (tgt := 237) hx hb d_Mo_either_187 (by decide) ?_
  refine gh_retv hAe C V hr hlocks d_Mo_either_237 (by first | decide | omega | (dsimp only; omega)) (by first | decide | omega | (dsimp only; omega)) ?_
  exact ⟨rfl, _, _, X, mct.rf.tell, oc_t1 rfl rfl rfl⟩
set_option maxHeartbeats 4000000 in
set_option maxRecDepth 100000 in
theorem c_Mo_either_021 (l : Launch) (E : gh_E) (sz : Nat) (f : gh_F) (a : Nat) (ad : Nat → Nat) (S : Nat → Int32) (I : Nat → Nat → Int32) (J : Nat → Nat → Int64) (w cp φ : Nat) (p0 : Nat) (p1 : Nat) (hX : mo_R E f a ad S I J) (h45 : S 45 = nI (w + 1)) (hw : w < 14) (hc60 : cp < 60) (h48 : S 48 = nI φ) (hφ : φ < 1000) (h49 : ¬ 0 ≤ S 49) (hp0c : I 34 (3 * cp) = nI p0) (hq0 : cp < p0 ∧ p0 < 60) (hp1c : I 34 (3 * cp + 1) = nI p1) (hq1 : cp < p1 ∧ p1 < 60) (hS46 : S 46 = 2) (hph : I 35 cp = 1) : gh_M l y_Mo_either b_Mo_either 6 none E sz [.ref a, .int (nI cp), .int 0] f { frames := 7, cells := 0, slots := 0, locals := 200 } (fun r g => r = none ∧ ∃ S2 I2, mo_X E f g a ad S2 I2 J ∧ mct cp w (fun j => j = p1) (va_up (fun k => I k cp) 35 2) S I S2 I2 ∧ oc_e w p1 (I 36 cp) (I 37 cp) φ S S2 I2) := by
  refine gh_open (by decide) (Nat.le_of_ble_eq_true rfl) ?_
  intro p e s m args below meth c A ls hAe C V hr hlocks hname hl
  have hx := C.1
  have hb := C.2.1
  have hl : lv_has ls 6 [(0, .ref a), (1, .int (nI cp)), (2, .int 0)] := hl
  have X : mo_X E f f a ad S I J := ⟨hX, gh_fr.rf⟩
  refine lv_aload_n hx hb d_Mo_either_0 rfl (lv_at hl 0 rfl) ?_
  refine mo_getA C V X 34 (by decide) (by decide) f_Mo_85 rfl d_Mo_either_1 ?_
  refine lv_iconst (v := 3) hx hb d_Mo_either_4 (by decide) ?_
  refine lv_iload_n hx hb d_Mo_either_5 rfl (lv_at hl 1 rfl) ?_
  refine gn_imul (a := 3) (b := cp) hx hb d_Mo_either_6 ?_
  refine mo_ild (k := 34) (i := 3 * cp) (n := 180) C V X (by decide) (by decide) rfl (by omega) (by decide) d_Mo_either_7 ?_
  rw [show I 34 (3 * cp) = nI p0 from hp0c]
  refine lv_istore_n hx hb d_Mo_either_8 rfl hl (by decide) rfl (fun ls hl => ?_)
  have hl : lv_has ls 6 [(3, .int (nI p0)), (0, .ref a), (1, .int (nI cp)), (2, .int 0)] := hl
  refine lv_aload_n hx hb d_Mo_either_9 rfl (lv_at hl 1 rfl) ?_
  refine mo_getA C V X 34 (by decide) (by decide) f_Mo_85 rfl d_Mo_either_10 ?_
  refine lv_iconst (v := 3) hx hb d_Mo_either_13 (by decide) ?_
  refine lv_iload_n hx hb d_Mo_either_14 rfl (lv_at hl 2 rfl) ?_
  refine gn_imul (a := 3) (b := cp) hx hb d_Mo_either_15 ?_
  refine lv_iconst (v := 1) hx hb d_Mo_either_16 (by decide) ?_
  refine gn_iadd (a := 3 * cp) (b := 1) hx hb d_Mo_either_17 ?_
  refine mo_ild (k := 34) (i := (3 * cp) + 1) (n := 180) C V X (by decide) (by decide) rfl (by omega) (by decide) d_Mo_either_18 ?_
  rw [show I 34 ((3 * cp) + 1) = nI p1 from hp1c]
  refine lv_istore hx hb d_Mo_either_19 hl (by decide) rfl (fun ls hl => ?_)
  have hl : lv_has ls 6 [(4, .int (nI p1)), (3, .int (nI p0)), (0, .ref a), (1, .int (nI cp)), (2, .int 0)] := hl
  refine lv_aload_n hx hb d_Mo_either_21 rfl (lv_at hl 2 rfl) ?_
  refine mo_getA C V X 35 (by decide) (by decide) f_Mo_88 rfl d_Mo_either_22 ?_
  refine lv_iload_n hx hb d_Mo_either_25 rfl (lv_at hl 3 rfl) ?_
  refine mo_ild (k := 35) (i := cp) (n := 60) C V X (by decide) (by decide) rfl (by omega) (by decide) d_Mo_either_26 ?_
  rw [show I 35 cp = 1 from hph]
  refine lv_iconst (v := 2) hx hb d_Mo_either_27 (by decide) ?_
  refine lv_icmp_ne (tgt := 35) hx hb d_Mo_either_28 (by decide) (fun c1 => ?_) (fun c1 => absurd c1 (by decide))
  refine lv_iconst (v := 0) hx hb d_Mo_either_35 (by decide) ?_
  refine lv_istore hx hb d_Mo_either_36 hl (by decide) rfl (fun ls hl => ?_)
  have hl : lv_has ls 6 [(5, .int 0), (4, .int (nI p1)), (3, .int (nI p0)), (0, .ref a), (1, .int (nI cp)), (2, .int 0)] := hl
  refine lv_aload_n hx hb d_Mo_either_38 rfl (lv_at hl 3 rfl) ?_
  refine mo_getS (v := 2) C V X 46 (by decide) (by decide) (by first | rfl | exact hS46) f_Mo_277 rfl d_Mo_either_39 ?_
  refine lv_if_ne (tgt := 88) hx hb d_Mo_either_42 (by decide) (fun c2 => ?_) (fun c2 => absurd c2 (by decide))
  refine lv_aload_n hx hb d_Mo_either_88 rfl (lv_at hl 3 rfl) ?_
  refine mo_getS (v := 2) C V X 46 (by decide) (by decide) (by first | rfl | exact hS46) f_Mo_277 rfl d_Mo_either_89 ?_
  refine lv_if_ne (tgt := 113) hx hb d_Mo_either_92 (by decide) (fun c3 => ?_) (fun c3 => absurd c3 (by decide))
  refine lv_aload_n hx hb d_Mo_either_113 rfl (lv_at hl 3 rfl) ?_
  refine mo_getS (v := 2) C V X 46 (by decide) (by decide) (by first | rfl | exact hS46) f_Mo_277 rfl d_Mo_either_114 ?_
  refine lv_iconst (v := 1) hx hb d_Mo_either_117 (by decide) ?_
  refine lv_icmp_ne (tgt := 162) hx hb d_Mo_either_118 (by decide) (fun c4 => ?_) (fun c4 => absurd c4 (by decide))
  refine lv_iload hx hb d_Mo_either_162 (lv_at hl 0 rfl) ?_
  refine lv_if_ne (tgt := 179) hx hb d_Mo_either_164 (by decide) (fun c5 => absurd (by decide) c5) (fun c5 => ?_)
  refine lv_aload_n hx hb d_Mo_either_167 rfl (lv_at hl 3 rfl) ?_
  refine mo_getS (v := 2) C V X 46 (by decide) (by decide) (by first | rfl | exact hS46) f_Mo_277 rfl d_Mo_either_168 ?_
  refine lv_iconst (v := 3) hx hb d_Mo_either_171 (by decide) ?_
  refine lv_icmp_ne (tgt := 190) hx hb d_Mo_either_172 (by decide) (fun c6 => ?_) (fun c6 => absurd c6 (by decide))
  refine lv_iload_n hx hb d_Mo_either_190 rfl (lv_at hl 5 rfl) ?_
  refine lv_if_eq (tgt := 212) hx hb d_Mo_either_191 (by decide) (fun c7 => ?_) (fun c7 => absurd (by decide) c7)
  refine lv_aload_n hx hb d_Mo_either_212 rfl (lv_at hl 3 rfl) ?_
  refine mo_getA C V X 35 (by decide) (by decide) f_Mo_88 rfl d_Mo_either_213 ?_
  refine lv_iload_n hx hb d_Mo_either_216 rfl (lv_at hl 4 rfl) ?_
  refine lv_iconst (v := 2) hx hb d_Mo_either_217 (by decide) ?_
  refine mo_ist (k := 35) (i := cp) (n := 60) C V X (by decide) (by decide) rfl (by omega) (by decide) d_Mo_either_218 (fun f1 H locs V1 X1 => ?_)
  clear V X
  have V := V1
  have X := X1
  clear V1 X1
  refine lv_aload_n hx hb d_Mo_either_219 rfl (lv_at hl 3 rfl) ?_
  refine lv_iload hx hb d_Mo_either_220 (lv_at hl 1 rfl) ?_
  refine lv_aload_n hx hb d_Mo_either_222 rfl (lv_at hl 3 rfl) ?_
  refine mo_getA C V X 36 (by decide) (by decide) f_Mo_91 rfl d_Mo_either_223 ?_
  refine lv_iload_n hx hb d_Mo_either_226 rfl (lv_at hl 4 rfl) ?_
  refine mo_ild (k := 36) (i := cp) (n := 60) C V X (by decide) (by decide) rfl (by omega) (by decide) d_Mo_either_227 ?_
  rw [show (va_up I 35 (upd (I 35) cp 2)) 36 cp = I 36 cp from ((congrFun (va_up_n (by decide)) cp).trans (rfl))]
  refine lv_aload_n hx hb d_Mo_either_228 rfl (lv_at hl 3 rfl) ?_
  refine mo_getA C V X 37 (by decide) (by decide) f_Mo_94 rfl d_Mo_either_229 ?_
  refine lv_iload_n hx hb d_Mo_either_232 rfl (lv_at hl 4 rfl) ?_
  refine mo_ild (k := 37) (i := cp) (n := 60) C V X (by decide) (by decide) rfl (by omega) (by decide) d_Mo_either_233 ?_
  rw [show (va_up I 35 (upd (I 35) cp 2)) 37 cp = I 37 cp from ((congrFun (va_up_n (by decide)) cp).trans (rfl))]
  refine gh_callV C V hl.1 m_Mo_enter l_Mo_299 (c_Mo_enter l E _ _ a ad _ _ _ p1 (I 36 cp) (I 37 cp) φ (w + 1) X.1 (by omega) h48 hφ h49 h45 (by omega)) rfl X.1.1 gc_Mo ⟨by first | decide | omega | (dsimp only; omega), by first | decide | omega | (dsimp only; omega)⟩ ⟨by first | decide | omega | (dsimp only; omega), by first | decide | omega | (dsimp only; omega)⟩ (Nat.le_of_ble_eq_true rfl) rfl d_Mo_either_234 (fun r z9 H locs hp V1 => ?_)
  obtain ⟨rfl, hp0, hp1⟩ := hp
  have V := V1
  by_cases hz : φ = 0
  · have X := X.then (hp0 hz)
    refine W.eq (g2 := F0 m 237 ls []) rfl ?_
    refine gh_retv hAe C V hr hlocks d_Mo_either_237 (by first | decide | omega | (dsimp only; omega)) (by first | decide | omega | (dsimp only; omega)) ?_
    exact ⟨rfl, _, _, X, ((mct.rf.cell 35 2 (by decide) (by decide)).s (k := 49) (by omega)).mono (fun _ z => z.elim), oc_e0 hz rfl⟩
  · have X := X.then (hp1 (by omega))
    refine W.eq (g2 := F0 m 237 ls []) rfl ?_
    refine gh_retv hAe C V hr hlocks d_Mo_either_237 (by first | decide | omega | (dsimp only; omega)) (by first | decide | omega | (dsimp only; omega)) ?_
    exact ⟨rfl, _, _, X, (mct.rf.cell 35 2 (by decide) (by decide)).enter (by omega), oc_e1 (by omega) rfl⟩
set_option maxHeartbeats 4000000 in
set_option maxRecDepth 100000 in
theorem c_Mo_either_032 (l : Launch) (E : gh_E) (sz : Nat) (f : gh_F) (a : Nat) (ad : Nat → Nat) (S : Nat → Int32) (I : Nat → Nat → Int32) (J : Nat → Nat → Int64) (w cp φ : Nat) (p0 : Nat) (p1 : Nat) (hX : mo_R E f a ad S I J) (h45 : S 45 = nI (w + 1)) (hw : w < 14) (hc60 : cp < 60) (hp0c : I 34 (3 * cp) = nI p0) (hq0 : cp < p0 ∧ p0 < 60) (hp1c : I 34 (3 * cp + 1) = nI p1) (hq1 : cp < p1 ∧ p1 < 60) (hS46 : S 46 = 3) (hph : I 35 cp = 2) : gh_M l y_Mo_either b_Mo_either 6 none E sz [.ref a, .int (nI cp), .int 0] f { frames := 7, cells := 0, slots := 0, locals := 200 } (fun r g => r = none ∧ ∃ S2 I2, mo_X E f g a ad S2 I2 J ∧ mct cp w (fun _ => False) (fun k => I k cp) S I S2 I2 ∧ oc_t w 3 (S 47) S S2) := by
  refine gh_open (by decide) (Nat.le_of_ble_eq_true rfl) ?_
  intro p e s m args below meth c A ls hAe C V hr hlocks hname hl
  have hx := C.1
  have hb := C.2.1
  have hl : lv_has ls 6 [(0, .ref a), (1, .int (nI cp)), (2, .int 0)] := hl
  have X : mo_X E f f a ad S I J := ⟨hX, gh_fr.rf⟩
  refine lv_aload_n hx hb d_Mo_either_0 rfl (lv_at hl 0 rfl) ?_
  refine mo_getA C V X 34 (by decide) (by decide) f_Mo_85 rfl d_Mo_either_1 ?_
  refine lv_iconst (v := 3) hx hb d_Mo_either_4 (by decide) ?_
  refine lv_iload_n hx hb d_Mo_either_5 rfl (lv_at hl 1 rfl) ?_
  refine gn_imul (a := 3) (b := cp) hx hb d_Mo_either_6 ?_
  refine mo_ild (k := 34) (i := 3 * cp) (n := 180) C V X (by decide) (by decide) rfl (by omega) (by decide) d_Mo_either_7 ?_
  rw [show I 34 (3 * cp) = nI p0 from hp0c]
  refine lv_istore_n hx hb d_Mo_either_8 rfl hl (by decide) rfl (fun ls hl => ?_)
  have hl : lv_has ls 6 [(3, .int (nI p0)), (0, .ref a), (1, .int (nI cp)), (2, .int 0)] := hl
  refine lv_aload_n hx hb d_Mo_either_9 rfl (lv_at hl 1 rfl) ?_
  refine mo_getA C V X 34 (by decide) (by decide) f_Mo_85 rfl d_Mo_either_10 ?_
  refine lv_iconst (v := 3) hx hb d_Mo_either_13 (by decide) ?_
  refine lv_iload_n hx hb d_Mo_either_14 rfl (lv_at hl 2 rfl) ?_
  refine gn_imul (a := 3) (b := cp) hx hb d_Mo_either_15 ?_
  refine lv_iconst (v := 1) hx hb d_Mo_either_16 (by decide) ?_
  refine gn_iadd (a := 3 * cp) (b := 1) hx hb d_Mo_either_17 ?_
  refine mo_ild (k := 34) (i := (3 * cp) + 1) (n := 180) C V X (by decide) (by decide) rfl (by omega) (by decide) d_Mo_either_18 ?_
  rw [show I 34 ((3 * cp) + 1) = nI p1 from hp1c]
  refine lv_istore hx hb d_Mo_either_19 hl (by decide) rfl (fun ls hl => ?_)
  have hl : lv_has ls 6 [(4, .int (nI p1)), (3, .int (nI p0)), (0, .ref a), (1, .int (nI cp)), (2, .int 0)] := hl
  refine lv_aload_n hx hb d_Mo_either_21 rfl (lv_at hl 2 rfl) ?_
  refine mo_getA C V X 35 (by decide) (by decide) f_Mo_88 rfl d_Mo_either_22 ?_
  refine lv_iload_n hx hb d_Mo_either_25 rfl (lv_at hl 3 rfl) ?_
  refine mo_ild (k := 35) (i := cp) (n := 60) C V X (by decide) (by decide) rfl (by omega) (by decide) d_Mo_either_26 ?_
  rw [show I 35 cp = 2 from hph]
  refine lv_iconst (v := 2) hx hb d_Mo_either_27 (by decide) ?_
  refine lv_icmp_ne (tgt := 35) hx hb d_Mo_either_28 (by decide) (fun c1 => absurd (by decide) c1) (fun c1 => ?_)
  refine lv_iconst (v := 1) hx hb d_Mo_either_31 (by decide) ?_
  refine lv_goto (tgt := 36) hx hb d_Mo_either_32 (by decide) ?_
  refine lv_istore hx hb d_Mo_either_36 hl (by decide) rfl (fun ls hl => ?_)
  have hl : lv_has ls 6 [(5, .int 1), (4, .int (nI p1)), (3, .int (nI p0)), (0, .ref a), (1, .int (nI cp)), (2, .int 0)] := hl
  refine lv_aload_n hx hb d_Mo_either_38 rfl (lv_at hl 3 rfl) ?_
  refine mo_getS (v := 3) C V X 46 (by decide) (by decide) (by first | rfl | exact hS46) f_Mo_277 rfl d_Mo_either_39 ?_
  refine lv_if_ne (tgt := 88) hx hb d_Mo_either_42 (by decide) (fun c2 => ?_) (fun c2 => absurd c2 (by decide))
  refine lv_aload_n hx hb d_Mo_either_88 rfl (lv_at hl 3 rfl) ?_
  refine mo_getS (v := 3) C V X 46 (by decide) (by decide) (by first | rfl | exact hS46) f_Mo_277 rfl d_Mo_either_89 ?_
  refine lv_if_ne (tgt := 113) hx hb d_Mo_either_92 (by decide) (fun c3 => ?_) (fun c3 => absurd c3 (by decide))
  refine lv_aload_n hx hb d_Mo_either_113 rfl (lv_at hl 3 rfl) ?_
  refine mo_getS (v := 3) C V X 46 (by decide) (by decide) (by first | rfl | exact hS46) f_Mo_277 rfl d_Mo_either_114 ?_
  refine lv_iconst (v := 1) hx hb d_Mo_either_117 (by decide) ?_
  refine lv_icmp_ne (tgt := 162) hx hb d_Mo_either_118 (by decide) (fun c4 => ?_) (fun c4 => absurd c4 (by decide))
  refine lv_iload hx hb d_Mo_either_162 (lv_at hl 0 rfl) ?_
  refine lv_if_ne (tgt := 179) hx hb d_Mo_either_164 (by decide) (fun c5 => ?_) (fun c5 => absurd c5 (by decide))
  refine lv_aload_n hx hb d_Mo_either_179 rfl (lv_at hl 3 rfl) ?_
  refine lv_aload_n hx hb d_Mo_either_180 rfl (lv_at hl 3 rfl) ?_
  refine mo_getS (v := 3) C V X 46 (by decide) (by decide) (by first | rfl | exact hS46) f_Mo_277 rfl d_Mo_either_181 ?_
  refine gh_callV C V hl.1 m_Mo_tell l_Mo_289 (c_Mo_tell l E _ _ a ad _ _ _ 3 w X.1 h45) rfl X.1.1 gc_Mo ⟨by first | decide | omega | (dsimp only; omega), by first | decide | omega | (dsimp only; omega)⟩ ⟨by first | decide | omega | (dsimp only; omega), by first | decide | omega | (dsimp only; omega)⟩ (Nat.le_of_ble_eq_true rfl) rfl d_Mo_either_184 (fun r z9 H locs hp V1 => ?_)
  obtain ⟨rfl, X2⟩ := hp
  have X := X.then X2
  have V := V1
  refine W.eq (g2 := F0 m 187 ls []) rfl ?_
  refine lv_goto (tgt := 237) hx hb d_Mo_either_187 (by decide) ?_
  refine gh_retv hAe C V hr hlocks d_Mo_either_237 (by first | decide | omega | (dsimp only; omega)) (by first | decide | omega | (dsimp only; omega)) ?_
  exact ⟨rfl, _, _, X, mct.rf.tell, oc_t1 rfl rfl rfl⟩
set_option maxHeartbeats 4000000 in
set_option maxRecDepth 100000 in
theorem c_Mo_either_031 (l : Launch) (E : gh_E) (sz : Nat) (f : gh_F) (a : Nat) (ad : Nat → Nat) (S : Nat → Int32) (I : Nat → Nat → Int32) (J : Nat → Nat → Int64) (w cp φ : Nat) (p0 : Nat) (p1 : Nat) (hX : mo_R E f a ad S I J) (h45 : S 45 = nI (w + 1)) (hw : w < 14) (hc60 : cp < 60) (hp0c : I 34 (3 * cp) = nI p0) (hq0 : cp < p0 ∧ p0 < 60) (hp1c : I 34 (3 * cp + 1) = nI p1) (hq1 : cp < p1 ∧ p1 < 60) (hS46 : S 46 = 3) (hph : I 35 cp = 1) : gh_M l y_Mo_either b_Mo_either 6 none E sz [.ref a, .int (nI cp), .int 0] f { frames := 7, cells := 0, slots := 0, locals := 200 } (fun r g => r = none ∧ ∃ S2 I2, mo_X E f g a ad S2 I2 J ∧ mct cp w (fun _ => False) (fun k => I k cp) S I S2 I2 ∧ oc_t w 3 (S 47) S S2) := by
  refine gh_open (by decide) (Nat.le_of_ble_eq_true rfl) ?_
  intro p e s m args below meth c A ls hAe C V hr hlocks hname hl
  have hx := C.1
  have hb := C.2.1
  have hl : lv_has ls 6 [(0, .ref a), (1, .int (nI cp)), (2, .int 0)] := hl
  have X : mo_X E f f a ad S I J := ⟨hX, gh_fr.rf⟩
  refine lv_aload_n hx hb d_Mo_either_0 rfl (lv_at hl 0 rfl) ?_
  refine mo_getA C V X 34 (by decide) (by decide) f_Mo_85 rfl d_Mo_either_1 ?_
  refine lv_iconst (v := 3) hx hb d_Mo_either_4 (by decide) ?_
  refine lv_iload_n hx hb d_Mo_either_5 rfl (lv_at hl 1 rfl) ?_
  refine gn_imul (a := 3) (b := cp) hx hb d_Mo_either_6 ?_
  refine mo_ild (k := 34) (i := 3 * cp) (n := 180) C V X (by decide) (by decide) rfl (by omega) (by decide) d_Mo_either_7 ?_
  rw [show I 34 (3 * cp) = nI p0 from hp0c]
  refine lv_istore_n hx hb d_Mo_either_8 rfl hl (by decide) rfl (fun ls hl => ?_)
  have hl : lv_has ls 6 [(3, .int (nI p0)), (0, .ref a), (1, .int (nI cp)), (2, .int 0)] := hl
  refine lv_aload_n hx hb d_Mo_either_9 rfl (lv_at hl 1 rfl) ?_
  refine mo_getA C V X 34 (by decide) (by decide) f_Mo_85 rfl d_Mo_either_10 ?_
  refine lv_iconst (v := 3) hx hb d_Mo_either_13 (by decide) ?_
  refine lv_iload_n hx hb d_Mo_either_14 rfl (lv_at hl 2 rfl) ?_
  refine gn_imul (a := 3) (b := cp) hx hb d_Mo_either_15 ?_
  refine lv_iconst (v := 1) hx hb d_Mo_either_16 (by decide) ?_
  refine gn_iadd (a := 3 * cp) (b := 1) hx hb d_Mo_either_17 ?_
  refine mo_ild (k := 34) (i := (3 * cp) + 1) (n := 180) C V X (by decide) (by decide) rfl (by omega) (by decide) d_Mo_either_18 ?_
  rw [show I 34 ((3 * cp) + 1) = nI p1 from hp1c]
  refine lv_istore hx hb d_Mo_either_19 hl (by decide) rfl (fun ls hl => ?_)
  have hl : lv_has ls 6 [(4, .int (nI p1)), (3, .int (nI p0)), (0, .ref a), (1, .int (nI cp)), (2, .int 0)] := hl
  refine lv_aload_n hx hb d_Mo_either_21 rfl (lv_at hl 2 rfl) ?_
  refine mo_getA C V X 35 (by decide) (by decide) f_Mo_88 rfl d_Mo_either_22 ?_
  refine lv_iload_n hx hb d_Mo_either_25 rfl (lv_at hl 3 rfl) ?_
  refine mo_ild (k := 35) (i := cp) (n := 60) C V X (by decide) (by decide) rfl (by omega) (by decide) d_Mo_either_26 ?_
  rw [show I 35 cp = 1 from hph]
  refine lv_iconst (v := 2) hx hb d_Mo_either_27 (by decide) ?_
  refine lv_icmp_ne (tgt := 35) hx hb d_Mo_either_28 (by decide) (fun c1 => ?_) (fun c1 => absurd c1 (by decide))
  refine lv_iconst (v := 0) hx hb d_Mo_either_35 (by decide) ?_
  refine lv_istore hx hb d_Mo_either_36 hl (by decide) rfl (fun ls hl => ?_)
  have hl : lv_has ls 6 [(5, .int 0), (4, .int (nI p1)), (3, .int (nI p0)), (0, .ref a), (1, .int (nI cp)), (2, .int 0)] := hl
  refine lv_aload_n hx hb d_Mo_either_38 rfl (lv_at hl 3 rfl) ?_
  refine mo_getS (v := 3) C V X 46 (by decide) (by decide) (by first | rfl | exact hS46) f_Mo_277 rfl d_Mo_either_39 ?_
  refine lv_if_ne (tgt := 88) hx hb d_Mo_either_42 (by decide) (fun c2 => ?_) (fun c2 => absurd c2 (by decide))
  refine lv_aload_n hx hb d_Mo_either_88 rfl (lv_at hl 3 rfl) ?_
  refine mo_getS (v := 3) C V X 46 (by decide) (by decide) (by first | rfl | exact hS46) f_Mo_277 rfl d_Mo_either_89 ?_
  refine lv_if_ne (tgt := 113) hx hb d_Mo_either_92 (by decide) (fun c3 => ?_) (fun c3 => absurd c3 (by decide))
  refine lv_aload_n hx hb d_Mo_either_113 rfl (lv_at hl 3 rfl) ?_
  refine mo_getS (v := 3) C V X 46 (by decide) (by decide) (by first | rfl | exact hS46) f_Mo_277 rfl d_Mo_either_114 ?_
  refine lv_iconst (v := 1) hx hb d_Mo_either_117 (by decide) ?_
  refine lv_icmp_ne (tgt := 162) hx hb d_Mo_either_118 (by decide) (fun c4 => ?_) (fun c4 => absurd c4 (by decide))
  refine lv_iload hx hb d_Mo_either_162 (lv_at hl 0 rfl) ?_
  refine lv_if_ne (tgt := 179) hx hb d_Mo_either_164 (by decide) (fun c5 => absurd (by decide) c5) (fun c5 => ?_)
  refine lv_aload_n hx hb d_Mo_either_167 rfl (lv_at hl 3 rfl) ?_
  refine mo_getS (v := 3) C V X 46 (by decide) (by decide) (by first | rfl | exact hS46) f_Mo_277 rfl d_Mo_either_168 ?_
  refine lv_iconst (v := 3) hx hb d_Mo_either_171 (by decide) ?_
  refine lv_icmp_ne (tgt := 190) hx hb d_Mo_either_172 (by decide) (fun c6 => absurd (by decide) c6) (fun c6 => ?_)
  refine lv_iload_n hx hb d_Mo_either_175 rfl (lv_at hl 5 rfl) ?_
  refine lv_if_ne (tgt := 190) hx hb d_Mo_either_176 (by decide) (fun c7 => absurd (by decide) c7) (fun c7 => ?_)
  refine lv_aload_n hx hb d_Mo_either_179 rfl (lv_at hl 3 rfl) ?_
  refine lv_aload_n hx hb d_Mo_either_180 rfl (lv_at hl 3 rfl) ?_
  refine mo_getS (v := 3) C V X 46 (by decide) (by decide) (by first | rfl | exact hS46) f_Mo_277 rfl d_Mo_either_181 ?_
  refine gh_callV C V hl.1 m_Mo_tell l_Mo_289 (c_Mo_tell l E _ _ a ad _ _ _ 3 w X.1 h45) rfl X.1.1 gc_Mo ⟨by first | decide | omega | (dsimp only; omega), by first | decide | omega | (dsimp only; omega)⟩ ⟨by first | decide | omega | (dsimp only; omega), by first | decide | omega | (dsimp only; omega)⟩ (Nat.le_of_ble_eq_true rfl) rfl d_Mo_either_184 (fun r z9 H locs hp V1 => ?_)
  obtain ⟨rfl, X2⟩ := hp
  have X := X.then X2
  have V := V1
  refine W.eq (g2 := F0 m 187 ls []) rfl ?_
  refine lv_goto (tgt := 237) hx hb d_Mo_either_187 (by decide) ?_
  refine gh_retv hAe C V hr hlocks d_Mo_either_237 (by first | decide | omega | (dsimp only; omega)) (by first | decide | omega | (dsimp only; omega)) ?_
  exact ⟨rfl, _, _, X, mct.rf.tell, oc_t1 rfl rfl rfl⟩
set_option maxHeartbeats 4000000 in
set_option maxRecDepth 100000 in
theorem c_Mo_either_100 (l : Launch) (E : gh_E) (sz : Nat) (f : gh_F) (a : Nat) (ad : Nat → Nat) (S : Nat → Int32) (I : Nat → Nat → Int32) (J : Nat → Nat → Int64) (w cp φ : Nat) (p0 : Nat) (p1 : Nat) (hX : mo_R E f a ad S I J) (h45 : S 45 = nI (w + 1)) (hw : w < 14) (hc60 : cp < 60) (h48 : S 48 = nI φ) (hφ : φ < 1000) (h49 : ¬ 0 ≤ S 49) (hp0c : I 34 (3 * cp) = nI p0) (hq0 : cp < p0 ∧ p0 < 60) (hp1c : I 34 (3 * cp + 1) = nI p1) (hq1 : cp < p1 ∧ p1 < 60) (hS46 : S 46 = 0) (hph : I 35 cp = 0) : gh_M l y_Mo_either b_Mo_either 6 none E sz [.ref a, .int (nI cp), .int 1] f { frames := 7, cells := 0, slots := 0, locals := 200 } (fun r g => r = none ∧ ∃ S2 I2, mo_X E f g a ad S2 I2 J ∧ mct cp w (fun j => j = p0) (va_up (va_up (fun k => I k cp) 35 1) 38 0) S I S2 I2 ∧ oc_e w p0 (I 36 cp) (I 37 cp) φ S S2 I2) := by
  refine gh_open (by decide) (Nat.le_of_ble_eq_true rfl) ?_
  intro p e s m args below meth c A ls hAe C V hr hlocks hname hl
  have hx := C.1
  have hb := C.2.1
  have hl : lv_has ls 6 [(0, .ref a), (1, .int (nI cp)), (2, .int 1)] := hl
  have X : mo_X E f f a ad S I J := ⟨hX, gh_fr.rf⟩
  refine lv_aload_n hx hb d_Mo_either_0 rfl (lv_at hl 0 rfl) ?_
  refine mo_getA C V X 34 (by decide) (by decide) f_Mo_85 rfl d_Mo_either_1 ?_
  refine lv_iconst (v := 3) hx hb d_Mo_either_4 (by decide) ?_
  refine lv_iload_n hx hb d_Mo_either_5 rfl (lv_at hl 1 rfl) ?_
  refine gn_imul (a := 3) (b := cp) hx hb d_Mo_either_6 ?_
  refine mo_ild (k := 34) (i := 3 * cp) (n := 180) C V X (by decide) (by decide) rfl (by omega) (by decide) d_Mo_either_7 ?_
  rw [show I 34 (3 * cp) = nI p0 from hp0c]
  refine lv_istore_n hx hb d_Mo_either_8 rfl hl (by decide) rfl (fun ls hl => ?_)
  have hl : lv_has ls 6 [(3, .int (nI p0)), (0, .ref a), (1, .int (nI cp)), (2, .int 1)] := hl
  refine lv_aload_n hx hb d_Mo_either_9 rfl (lv_at hl 1 rfl) ?_
  refine mo_getA C V X 34 (by decide) (by decide) f_Mo_85 rfl d_Mo_either_10 ?_
  refine lv_iconst (v := 3) hx hb d_Mo_either_13 (by decide) ?_
  refine lv_iload_n hx hb d_Mo_either_14 rfl (lv_at hl 2 rfl) ?_
  refine gn_imul (a := 3) (b := cp) hx hb d_Mo_either_15 ?_
  refine lv_iconst (v := 1) hx hb d_Mo_either_16 (by decide) ?_
  refine gn_iadd (a := 3 * cp) (b := 1) hx hb d_Mo_either_17 ?_
  refine mo_ild (k := 34) (i := (3 * cp) + 1) (n := 180) C V X (by decide) (by decide) rfl (by omega) (by decide) d_Mo_either_18 ?_
  rw [show I 34 ((3 * cp) + 1) = nI p1 from hp1c]
  refine lv_istore hx hb d_Mo_either_19 hl (by decide) rfl (fun ls hl => ?_)
  have hl : lv_has ls 6 [(4, .int (nI p1)), (3, .int (nI p0)), (0, .ref a), (1, .int (nI cp)), (2, .int 1)] := hl
  refine lv_aload_n hx hb d_Mo_either_21 rfl (lv_at hl 2 rfl) ?_
  refine mo_getA C V X 35 (by decide) (by decide) f_Mo_88 rfl d_Mo_either_22 ?_
  refine lv_iload_n hx hb d_Mo_either_25 rfl (lv_at hl 3 rfl) ?_
  refine mo_ild (k := 35) (i := cp) (n := 60) C V X (by decide) (by decide) rfl (by omega) (by decide) d_Mo_either_26 ?_
  rw [show I 35 cp = 0 from hph]
  refine lv_iconst (v := 2) hx hb d_Mo_either_27 (by decide) ?_
  refine lv_icmp_ne (tgt := 35) hx hb d_Mo_either_28 (by decide) (fun c1 => ?_) (fun c1 => absurd c1 (by decide))
  refine lv_iconst (v := 0) hx hb d_Mo_either_35 (by decide) ?_
  refine lv_istore hx hb d_Mo_either_36 hl (by decide) rfl (fun ls hl => ?_)
  have hl : lv_has ls 6 [(5, .int 0), (4, .int (nI p1)), (3, .int (nI p0)), (0, .ref a), (1, .int (nI cp)), (2, .int 1)] := hl
  refine lv_aload_n hx hb d_Mo_either_38 rfl (lv_at hl 3 rfl) ?_
  refine mo_getS (v := 0) C V X 46 (by decide) (by decide) (by first | rfl | exact hS46) f_Mo_277 rfl d_Mo_either_39 ?_
  refine lv_if_ne (tgt := 88) hx hb d_Mo_either_42 (by decide) (fun c2 => absurd (by decide) c2) (fun c2 => ?_)
  refine lv_aload_n hx hb d_Mo_either_45 rfl (lv_at hl 3 rfl) ?_
  refine mo_getA C V X 35 (by decide) (by decide) f_Mo_88 rfl d_Mo_either_46 ?_
  refine lv_iload_n hx hb d_Mo_either_49 rfl (lv_at hl 4 rfl) ?_
  refine mo_ild (k := 35) (i := cp) (n := 60) C V X (by decide) (by decide) rfl (by omega) (by decide) d_Mo_either_50 ?_
  rw [show I 35 cp = 0 from hph]
  refine lv_if_ne (tgt := 88) hx hb d_Mo_either_51 (by decide) (fun c3 => absurd (by decide) c3) (fun c3 => ?_)
  refine lv_aload_n hx hb d_Mo_either_54 rfl (lv_at hl 3 rfl) ?_
  refine mo_getA C V X 35 (by decide) (by decide) f_Mo_88 rfl d_Mo_either_55 ?_
  refine lv_iload_n hx hb d_Mo_either_58 rfl (lv_at hl 4 rfl) ?_
  refine lv_iconst (v := 1) hx hb d_Mo_either_59 (by decide) ?_
  refine mo_ist (k := 35) (i := cp) (n := 60) C V X (by decide) (by decide) rfl (by omega) (by decide) d_Mo_either_60 (fun f1 H locs V1 X1 => ?_)
  clear V X
  have V := V1
  have X := X1
  clear V1 X1
  refine lv_aload_n hx hb d_Mo_either_61 rfl (lv_at hl 3 rfl) ?_
  refine mo_getA C V X 38 (by decide) (by decide) f_Mo_97 rfl d_Mo_either_62 ?_
  refine lv_iload_n hx hb d_Mo_either_65 rfl (lv_at hl 4 rfl) ?_
  refine lv_iconst (v := 0) hx hb d_Mo_either_66 (by decide) ?_
  refine mo_ist (k := 38) (i := cp) (n := 60) C V X (by decide) (by decide) rfl (by omega) (by decide) d_Mo_either_67 (fun f1 H locs V1 X1 => ?_)
  clear V X
  have V := V1
  have X := X1
  clear V1 X1
  refine lv_aload_n hx hb d_Mo_either_68 rfl (lv_at hl 3 rfl) ?_
  refine lv_iload_n hx hb d_Mo_either_69 rfl (lv_at hl 2 rfl) ?_
  refine lv_aload_n hx hb d_Mo_either_70 rfl (lv_at hl 3 rfl) ?_
  refine mo_getA C V X 36 (by decide) (by decide) f_Mo_91 rfl d_Mo_either_71 ?_
  refine lv_iload_n hx hb d_Mo_either_74 rfl (lv_at hl 4 rfl) ?_
  refine mo_ild (k := 36) (i := cp) (n := 60) C V X (by decide) (by decide) rfl (by omega) (by decide) d_Mo_either_75 ?_
  rw [show (va_up (va_up I 35 (upd (I 35) cp 1)) 38 (upd ((va_up I 35 (upd (I 35) cp 1)) 38) cp 0)) 36 cp = I 36 cp from ((congrFun (va_up_n (by decide)) cp).trans (((congrFun (va_up_n (by decide)) cp).trans (rfl))))]
  refine lv_aload_n hx hb d_Mo_either_76 rfl (lv_at hl 3 rfl) ?_
  refine mo_getA C V X 37 (by decide) (by decide) f_Mo_94 rfl d_Mo_either_77 ?_
  refine lv_iload_n hx hb d_Mo_either_80 rfl (lv_at hl 4 rfl) ?_
  refine mo_ild (k := 37) (i := cp) (n := 60) C V X (by decide) (by decide) rfl (by omega) (by decide) d_Mo_either_81 ?_
  rw [show (va_up (va_up I 35 (upd (I 35) cp 1)) 38 (upd ((va_up I 35 (upd (I 35) cp 1)) 38) cp 0)) 37 cp = I 37 cp from ((congrFun (va_up_n (by decide)) cp).trans (((congrFun (va_up_n (by decide)) cp).trans (rfl))))]
  refine gh_callV C V hl.1 m_Mo_enter l_Mo_299 (c_Mo_enter l E _ _ a ad _ _ _ p0 (I 36 cp) (I 37 cp) φ (w + 1) X.1 (by omega) h48 hφ h49 h45 (by omega)) rfl X.1.1 gc_Mo ⟨by first | decide | omega | (dsimp only; omega), by first | decide | omega | (dsimp only; omega)⟩ ⟨by first | decide | omega | (dsimp only; omega), by first | decide | omega | (dsimp only; omega)⟩ (Nat.le_of_ble_eq_true rfl) rfl d_Mo_either_82 (fun r z9 H locs hp V1 => ?_)
  obtain ⟨rfl, hp0, hp1⟩ := hp
  have V := V1
  by_cases hz : φ = 0
  · have X := X.then (hp0 hz)
    refine W.eq (g2 := F0 m 85 ls []) rfl ?_
    refine lv_goto (tgt := 237) hx hb d_Mo_either_85 (by decide) ?_
    refine gh_retv hAe C V hr hlocks d_Mo_either_237 (by first | decide | omega | (dsimp only; omega)) (by first | decide | omega | (dsimp only; omega)) ?_
    exact ⟨rfl, _, _, X, (((mct.rf.cell 35 1 (by decide) (by decide)).cell 38 0 (by decide) (by decide)).s (k := 49) (by omega)).mono (fun _ z => z.elim), oc_e0 hz rfl⟩
  · have X := X.then (hp1 (by omega))
    refine W.eq (g2 := F0 m 85 ls []) rfl ?_
    refine lv_goto (tgt := 237) hx hb d_Mo_either_85 (by decide) ?_
    refine gh_retv hAe C V hr hlocks d_Mo_either_237 (by first | decide | omega | (dsimp only; omega)) (by first | decide | omega | (dsimp only; omega)) ?_
    exact ⟨rfl, _, _, X, ((mct.rf.cell 35 1 (by decide) (by decide)).cell 38 0 (by decide) (by decide)).enter (by omega), oc_e1 (by omega) rfl⟩
set_option maxHeartbeats 4000000 in
set_option maxRecDepth 100000 in
theorem c_Mo_either_101 (l : Launch) (E : gh_E) (sz : Nat) (f : gh_F) (a : Nat) (ad : Nat → Nat) (S : Nat → Int32) (I : Nat → Nat → Int32) (J : Nat → Nat → Int64) (w cp φ : Nat) (p0 : Nat) (p1 : Nat) (hX : mo_R E f a ad S I J) (h45 : S 45 = nI (w + 1)) (hw : w < 14) (hc60 : cp < 60) (hp0c : I 34 (3 * cp) = nI p0) (hq0 : cp < p0 ∧ p0 < 60) (hp1c : I 34 (3 * cp + 1) = nI p1) (hq1 : cp < p1 ∧ p1 < 60) (hS46 : S 46 = 0) (hph : I 35 cp = 1) : gh_M l y_Mo_either b_Mo_either 6 none E sz [.ref a, .int (nI cp), .int 1] f { frames := 7, cells := 0, slots := 0, locals := 200 } (fun r g => r = none ∧ ∃ S2 I2, mo_X E f g a ad S2 I2 J ∧ mct cp w (fun _ => False) (fun k => I k cp) S I S2 I2 ∧ oc_a w p0 S S2 I2) := by
  refine gh_open (by decide) (Nat.le_of_ble_eq_true rfl) ?_
  intro p e s m args below meth c A ls hAe C V hr hlocks hname hl
  have hx := C.1
  have hb := C.2.1
  have hl : lv_has ls 6 [(0, .ref a), (1, .int (nI cp)), (2, .int 1)] := hl
  have X : mo_X E f f a ad S I J := ⟨hX, gh_fr.rf⟩
  refine lv_aload_n hx hb d_Mo_either_0 rfl (lv_at hl 0 rfl) ?_
  refine mo_getA C V X 34 (by decide) (by decide) f_Mo_85 rfl d_Mo_either_1 ?_
  refine lv_iconst (v := 3) hx hb d_Mo_either_4 (by decide) ?_
  refine lv_iload_n hx hb d_Mo_either_5 rfl (lv_at hl 1 rfl) ?_
  refine gn_imul (a := 3) (b := cp) hx hb d_Mo_either_6 ?_
  refine mo_ild (k := 34) (i := 3 * cp) (n := 180) C V X (by decide) (by decide) rfl (by omega) (by decide) d_Mo_either_7 ?_
  rw [show I 34 (3 * cp) = nI p0 from hp0c]
  refine lv_istore_n hx hb d_Mo_either_8 rfl hl (by decide) rfl (fun ls hl => ?_)
  have hl : lv_has ls 6 [(3, .int (nI p0)), (0, .ref a), (1, .int (nI cp)), (2, .int 1)] := hl
  refine lv_aload_n hx hb d_Mo_either_9 rfl (lv_at hl 1 rfl) ?_
  refine mo_getA C V X 34 (by decide) (by decide) f_Mo_85 rfl d_Mo_either_10 ?_
  refine lv_iconst (v := 3) hx hb d_Mo_either_13 (by decide) ?_
  refine lv_iload_n hx hb d_Mo_either_14 rfl (lv_at hl 2 rfl) ?_
  refine gn_imul (a := 3) (b := cp) hx hb d_Mo_either_15 ?_
  refine lv_iconst (v := 1) hx hb d_Mo_either_16 (by decide) ?_
  refine gn_iadd (a := 3 * cp) (b := 1) hx hb d_Mo_either_17 ?_
  refine mo_ild (k := 34) (i := (3 * cp) + 1) (n := 180) C V X (by decide) (by decide) rfl (by omega) (by decide) d_Mo_either_18 ?_
  rw [show I 34 ((3 * cp) + 1) = nI p1 from hp1c]
  refine lv_istore hx hb d_Mo_either_19 hl (by decide) rfl (fun ls hl => ?_)
  have hl : lv_has ls 6 [(4, .int (nI p1)), (3, .int (nI p0)), (0, .ref a), (1, .int (nI cp)), (2, .int 1)] := hl
  refine lv_aload_n hx hb d_Mo_either_21 rfl (lv_at hl 2 rfl) ?_
  refine mo_getA C V X 35 (by decide) (by decide) f_Mo_88 rfl d_Mo_either_22 ?_
  refine lv_iload_n hx hb d_Mo_either_25 rfl (lv_at hl 3 rfl) ?_
  refine mo_ild (k := 35) (i := cp) (n := 60) C V X (by decide) (by decide) rfl (by omega) (by decide) d_Mo_either_26 ?_
  rw [show I 35 cp = 1 from hph]
  refine lv_iconst (v := 2) hx hb d_Mo_either_27 (by decide) ?_
  refine lv_icmp_ne (tgt := 35) hx hb d_Mo_either_28 (by decide) (fun c1 => ?_) (fun c1 => absurd c1 (by decide))
  refine lv_iconst (v := 0) hx hb d_Mo_either_35 (by decide) ?_
  refine lv_istore hx hb d_Mo_either_36 hl (by decide) rfl (fun ls hl => ?_)
  have hl : lv_has ls 6 [(5, .int 0), (4, .int (nI p1)), (3, .int (nI p0)), (0, .ref a), (1, .int (nI cp)), (2, .int 1)] := hl
  refine lv_aload_n hx hb d_Mo_either_38 rfl (lv_at hl 3 rfl) ?_
  refine mo_getS (v := 0) C V X 46 (by decide) (by decide) (by first | rfl | exact hS46) f_Mo_277 rfl d_Mo_either_39 ?_
  refine lv_if_ne (tgt := 88) hx hb d_Mo_either_42 (by decide) (fun c2 => absurd (by decide) c2) (fun c2 => ?_)
  refine lv_aload_n hx hb d_Mo_either_45 rfl (lv_at hl 3 rfl) ?_
  refine mo_getA C V X 35 (by decide) (by decide) f_Mo_88 rfl d_Mo_either_46 ?_
  refine lv_iload_n hx hb d_Mo_either_49 rfl (lv_at hl 4 rfl) ?_
  refine mo_ild (k := 35) (i := cp) (n := 60) C V X (by decide) (by decide) rfl (by omega) (by decide) d_Mo_either_50 ?_
  rw [show I 35 cp = 1 from hph]
  refine lv_if_ne (tgt := 88) hx hb d_Mo_either_51 (by decide) (fun c3 => ?_) (fun c3 => absurd c3 (by decide))
  refine lv_aload_n hx hb d_Mo_either_88 rfl (lv_at hl 3 rfl) ?_
  refine mo_getS (v := 0) C V X 46 (by decide) (by decide) (by first | rfl | exact hS46) f_Mo_277 rfl d_Mo_either_89 ?_
  refine lv_if_ne (tgt := 113) hx hb d_Mo_either_92 (by decide) (fun c4 => absurd (by decide) c4) (fun c4 => ?_)
  refine lv_aload_n hx hb d_Mo_either_95 rfl (lv_at hl 3 rfl) ?_
  refine lv_iload hx hb d_Mo_either_96 (lv_at hl 0 rfl) ?_
  refine lv_if_eq (tgt := 106) hx hb d_Mo_either_98 (by decide) (fun c5 => ?_) (fun c5 => absurd (by decide) c5)
  refine lv_iload_n hx hb d_Mo_either_106 rfl (lv_at hl 2 rfl) ?_
  refine gh_callV C V hl.1 m_Mo_ask l_Mo_283 (c_Mo_ask l E _ _ a ad _ _ _ (nI p0) (w + 1) X.1 h45 (by omega)) rfl X.1.1 gc_Mo ⟨by first | decide | omega | (dsimp only; omega), by first | decide | omega | (dsimp only; omega)⟩ ⟨by first | decide | omega | (dsimp only; omega), by first | decide | omega | (dsimp only; omega)⟩ (Nat.le_of_ble_eq_true rfl) rfl d_Mo_either_107 (fun r z9 H locs hp V1 => ?_)
  obtain ⟨rfl, X2⟩ := hp
  have X := X.then X2
  have V := V1
  refine W.eq (g2 := F0 m 110 ls []) rfl ?_
  refine lv_goto (tgt := 237) hx hb d_Mo_either_110 (by decide) ?_
  refine gh_retv hAe C V hr hlocks d_Mo_either_237 (by first | decide | omega | (dsimp only; omega)) (by first | decide | omega | (dsimp only; omega)) ?_
  exact ⟨rfl, _, _, X, mct.rf.ask, oc_a1 rfl rfl⟩
set_option maxHeartbeats 4000000 in
set_option maxRecDepth 100000 in
theorem c_Mo_either_102 (l : Launch) (E : gh_E) (sz : Nat) (f : gh_F) (a : Nat) (ad : Nat → Nat) (S : Nat → Int32) (I : Nat → Nat → Int32) (J : Nat → Nat → Int64) (w cp φ : Nat) (p0 : Nat) (p1 : Nat) (hX : mo_R E f a ad S I J) (h45 : S 45 = nI (w + 1)) (hw : w < 14) (hc60 : cp < 60) (hp0c : I 34 (3 * cp) = nI p0) (hq0 : cp < p0 ∧ p0 < 60) (hp1c : I 34 (3 * cp + 1) = nI p1) (hq1 : cp < p1 ∧ p1 < 60) (hS46 : S 46 = 0) (hph : I 35 cp = 2) : gh_M l y_Mo_either b_Mo_either 6 none E sz [.ref a, .int (nI cp), .int 1] f { frames := 7, cells := 0, slots := 0, locals := 200 } (fun r g => r = none ∧ ∃ S2 I2, mo_X E f g a ad S2 I2 J ∧ mct cp w (fun _ => False) (fun k => I k cp) S I S2 I2 ∧ oc_a w p1 S S2 I2) := by
  refine gh_open (by decide) (Nat.le_of_ble_eq_true rfl) ?_
  intro p e s m args below meth c A ls hAe C V hr hlocks hname hl
  have hx := C.1
  have hb := C.2.1
  have hl : lv_has ls 6 [(0, .ref a), (1, .int (nI cp)), (2, .int 1)] := hl
  have X : mo_X E f f a ad S I J := ⟨hX, gh_fr.rf⟩
  refine lv_aload_n hx hb d_Mo_either_0 rfl (lv_at hl 0 rfl) ?_
  refine mo_getA C V X 34 (by decide) (by decide) f_Mo_85 rfl d_Mo_either_1 ?_
  refine lv_iconst (v := 3) hx hb d_Mo_either_4 (by decide) ?_
  refine lv_iload_n hx hb d_Mo_either_5 rfl (lv_at hl 1 rfl) ?_
  refine gn_imul (a := 3) (b := cp) hx hb d_Mo_either_6 ?_
  refine mo_ild (k := 34) (i := 3 * cp) (n := 180) C V X (by decide) (by decide) rfl (by omega) (by decide) d_Mo_either_7 ?_
  rw [show I 34 (3 * cp) = nI p0 from hp0c]
  refine lv_istore_n hx hb d_Mo_either_8 rfl hl (by decide) rfl (fun ls hl => ?_)
  have hl : lv_has ls 6 [(3, .int (nI p0)), (0, .ref a), (1, .int (nI cp)), (2, .int 1)] := hl
  refine lv_aload_n hx hb d_Mo_either_9 rfl (lv_at hl 1 rfl) ?_
  refine mo_getA C V X 34 (by decide) (by decide) f_Mo_85 rfl d_Mo_either_10 ?_
  refine lv_iconst (v := 3) hx hb d_Mo_either_13 (by decide) ?_
  refine lv_iload_n hx hb d_Mo_either_14 rfl (lv_at hl 2 rfl) ?_
  refine gn_imul (a := 3) (b := cp) hx hb d_Mo_either_15 ?_
  refine lv_iconst (v := 1) hx hb d_Mo_either_16 (by decide) ?_
  refine gn_iadd (a := 3 * cp) (b := 1) hx hb d_Mo_either_17 ?_
  refine mo_ild (k := 34) (i := (3 * cp) + 1) (n := 180) C V X (by decide) (by decide) rfl (by omega) (by decide) d_Mo_either_18 ?_
  rw [show I 34 ((3 * cp) + 1) = nI p1 from hp1c]
  refine lv_istore hx hb d_Mo_either_19 hl (by decide) rfl (fun ls hl => ?_)
  have hl : lv_has ls 6 [(4, .int (nI p1)), (3, .int (nI p0)), (0, .ref a), (1, .int (nI cp)), (2, .int 1)] := hl
  refine lv_aload_n hx hb d_Mo_either_21 rfl (lv_at hl 2 rfl) ?_
  refine mo_getA C V X 35 (by decide) (by decide) f_Mo_88 rfl d_Mo_either_22 ?_
  refine lv_iload_n hx hb d_Mo_either_25 rfl (lv_at hl 3 rfl) ?_
  refine mo_ild (k := 35) (i := cp) (n := 60) C V X (by decide) (by decide) rfl (by omega) (by decide) d_Mo_either_26 ?_
  rw [show I 35 cp = 2 from hph]
  refine lv_iconst (v := 2) hx hb d_Mo_either_27 (by decide) ?_
  refine lv_icmp_ne (tgt := 35) hx hb d_Mo_either_28 (by decide) (fun c1 => absurd (by decide) c1) (fun c1 => ?_)
  refine lv_iconst (v := 1) hx hb d_Mo_either_31 (by decide) ?_
  refine lv_goto (tgt := 36) hx hb d_Mo_either_32 (by decide) ?_
  refine lv_istore hx hb d_Mo_either_36 hl (by decide) rfl (fun ls hl => ?_)
  have hl : lv_has ls 6 [(5, .int 1), (4, .int (nI p1)), (3, .int (nI p0)), (0, .ref a), (1, .int (nI cp)), (2, .int 1)] := hl
  refine lv_aload_n hx hb d_Mo_either_38 rfl (lv_at hl 3 rfl) ?_
  refine mo_getS (v := 0) C V X 46 (by decide) (by decide) (by first | rfl | exact hS46) f_Mo_277 rfl d_Mo_either_39 ?_
  refine lv_if_ne (tgt := 88) hx hb d_Mo_either_42 (by decide) (fun c2 => absurd (by decide) c2) (fun c2 => ?_)
  refine lv_aload_n hx hb d_Mo_either_45 rfl (lv_at hl 3 rfl) ?_
  refine mo_getA C V X 35 (by decide) (by decide) f_Mo_88 rfl d_Mo_either_46 ?_
  refine lv_iload_n hx hb d_Mo_either_49 rfl (lv_at hl 4 rfl) ?_
  refine mo_ild (k := 35) (i := cp) (n := 60) C V X (by decide) (by decide) rfl (by omega) (by decide) d_Mo_either_50 ?_
  rw [show I 35 cp = 2 from hph]
  refine lv_if_ne (tgt := 88) hx hb d_Mo_either_51 (by decide) (fun c3 => ?_) (fun c3 => absurd c3 (by decide))
  refine lv_aload_n hx hb d_Mo_either_88 rfl (lv_at hl 3 rfl) ?_
  refine mo_getS (v := 0) C V X 46 (by decide) (by decide) (by first | rfl | exact hS46) f_Mo_277 rfl d_Mo_either_89 ?_
  refine lv_if_ne (tgt := 113) hx hb d_Mo_either_92 (by decide) (fun c4 => absurd (by decide) c4) (fun c4 => ?_)
  refine lv_aload_n hx hb d_Mo_either_95 rfl (lv_at hl 3 rfl) ?_
  refine lv_iload hx hb d_Mo_either_96 (lv_at hl 0 rfl) ?_
  refine lv_if_eq (tgt := 106) hx hb d_Mo_either_98 (by decide) (fun c5 => absurd c5 (by decide)) (fun c5 => ?_)
  refine lv_iload hx hb d_Mo_either_101 (lv_at hl 1 rfl) ?_
  refine lv_goto (tgt := 107) hx hb d_Mo_either_103 (by decide) ?_
  refine gh_callV C V hl.1 m_Mo_ask l_Mo_283 (c_Mo_ask l E _ _ a ad _ _ _ (nI p1) (w + 1) X.1 h45 (by omega)) rfl X.1.1 gc_Mo ⟨by first | decide | omega | (dsimp only; omega), by first | decide | omega | (dsimp only; omega)⟩ ⟨by first | decide | omega | (dsimp only; omega), by first | decide | omega | (dsimp only; omega)⟩ (Nat.le_of_ble_eq_true rfl) rfl d_Mo_either_107 (fun r z9 H locs hp V1 => ?_)
  obtain ⟨rfl, X2⟩ := hp
  have X := X.then X2
  have V := V1
  refine W.eq (g2 := F0 m 110 ls []) rfl ?_
  refine lv_goto (tgt := 237) hx hb d_Mo_either_110 (by decide) ?_
  refine gh_retv hAe C V hr hlocks d_Mo_either_237 (by first | decide | omega | (dsimp only; omega)) (by first | decide | omega | (dsimp only; omega)) ?_
  exact ⟨rfl, _, _, X, mct.rf.ask, oc_a1 rfl rfl⟩
set_option maxHeartbeats 4000000 in
set_option maxRecDepth 100000 in
theorem c_Mo_either_112 (l : Launch) (E : gh_E) (sz : Nat) (f : gh_F) (a : Nat) (ad : Nat → Nat) (S : Nat → Int32) (I : Nat → Nat → Int32) (J : Nat → Nat → Int64) (w cp φ : Nat) (p0 : Nat) (p1 : Nat) (u : Nat) (hX : mo_R E f a ad S I J) (h45 : S 45 = nI (w + 1)) (hw : w < 14) (hc60 : cp < 60) (hp0c : I 34 (3 * cp) = nI p0) (hq0 : cp < p0 ∧ p0 < 60) (hp1c : I 34 (3 * cp + 1) = nI p1) (hq1 : cp < p1 ∧ p1 < 60) (hS46 : S 46 = 1) (hph : I 35 cp = 2) (hS47 : S 47 = nI u) : gh_M l y_Mo_either b_Mo_either 6 none E sz [.ref a, .int (nI cp), .int 1] f { frames := 7, cells := 0, slots := 0, locals := 200 } (fun r g => r = none ∧ ∃ S2 I2, mo_X E f g a ad S2 I2 J ∧ mct cp w (fun _ => False) (va_up (fun k => I k cp) 38 1) S I S2 I2 ∧ oc_t w 1 (nI u) S S2) := by
  refine gh_open (by decide) (Nat.le_of_ble_eq_true rfl) ?_
  intro p e s m args below meth c A ls hAe C V hr hlocks hname hl
  have hx := C.1
  have hb := C.2.1
  have hl : lv_has ls 6 [(0, .ref a), (1, .int (nI cp)), (2, .int 1)] := hl
  have X : mo_X E f f a ad S I J := ⟨hX, gh_fr.rf⟩
  refine lv_aload_n hx hb d_Mo_either_0 rfl (lv_at hl 0 rfl) ?_
  refine mo_getA C V X 34 (by decide) (by decide) f_Mo_85 rfl d_Mo_either_1 ?_
  refine lv_iconst (v := 3) hx hb d_Mo_either_4 (by decide) ?_
  refine lv_iload_n hx hb d_Mo_either_5 rfl (lv_at hl 1 rfl) ?_
  refine gn_imul (a := 3) (b := cp) hx hb d_Mo_either_6 ?_
  refine mo_ild (k := 34) (i := 3 * cp) (n := 180) C V X (by decide) (by decide) rfl (by omega) (by decide) d_Mo_either_7 ?_
  rw [show I 34 (3 * cp) = nI p0 from hp0c]
  refine lv_istore_n hx hb d_Mo_either_8 rfl hl (by decide) rfl (fun ls hl => ?_)
  have hl : lv_has ls 6 [(3, .int (nI p0)), (0, .ref a), (1, .int (nI cp)), (2, .int 1)] := hl
  refine lv_aload_n hx hb d_Mo_either_9 rfl (lv_at hl 1 rfl) ?_
  refine mo_getA C V X 34 (by decide) (by decide) f_Mo_85 rfl d_Mo_either_10 ?_
  refine lv_iconst (v := 3) hx hb d_Mo_either_13 (by decide) ?_
  refine lv_iload_n hx hb d_Mo_either_14 rfl (lv_at hl 2 rfl) ?_
  refine gn_imul (a := 3) (b := cp) hx hb d_Mo_either_15 ?_
  refine lv_iconst (v := 1) hx hb d_Mo_either_16 (by decide) ?_
  refine gn_iadd (a := 3 * cp) (b := 1) hx hb d_Mo_either_17 ?_
  refine mo_ild (k := 34) (i := (3 * cp) + 1) (n := 180) C V X (by decide) (by decide) rfl (by omega) (by decide) d_Mo_either_18 ?_
  rw [show I 34 ((3 * cp) + 1) = nI p1 from hp1c]
  refine lv_istore hx hb d_Mo_either_19 hl (by decide) rfl (fun ls hl => ?_)
  have hl : lv_has ls 6 [(4, .int (nI p1)), (3, .int (nI p0)), (0, .ref a), (1, .int (nI cp)), (2, .int 1)] := hl
  refine lv_aload_n hx hb d_Mo_either_21 rfl (lv_at hl 2 rfl) ?_
  refine mo_getA C V X 35 (by decide) (by decide) f_Mo_88 rfl d_Mo_either_22 ?_
  refine lv_iload_n hx hb d_Mo_either_25 rfl (lv_at hl 3 rfl) ?_
  refine mo_ild (k := 35) (i := cp) (n := 60) C V X (by decide) (by decide) rfl (by omega) (by decide) d_Mo_either_26 ?_
  rw [show I 35 cp = 2 from hph]
  refine lv_iconst (v := 2) hx hb d_Mo_either_27 (by decide) ?_
  refine lv_icmp_ne (tgt := 35) hx hb d_Mo_either_28 (by decide) (fun c1 => absurd (by decide) c1) (fun c1 => ?_)
  refine lv_iconst (v := 1) hx hb d_Mo_either_31 (by decide) ?_
  refine lv_goto (tgt := 36) hx hb d_Mo_either_32 (by decide) ?_
  refine lv_istore hx hb d_Mo_either_36 hl (by decide) rfl (fun ls hl => ?_)
  have hl : lv_has ls 6 [(5, .int 1), (4, .int (nI p1)), (3, .int (nI p0)), (0, .ref a), (1, .int (nI cp)), (2, .int 1)] := hl
  refine lv_aload_n hx hb d_Mo_either_38 rfl (lv_at hl 3 rfl) ?_
  refine mo_getS (v := 1) C V X 46 (by decide) (by decide) (by first | rfl | exact hS46) f_Mo_277 rfl d_Mo_either_39 ?_
  refine lv_if_ne (tgt := 88) hx hb d_Mo_either_42 (by decide) (fun c2 => ?_) (fun c2 => absurd c2 (by decide))
  refine lv_aload_n hx hb d_Mo_either_88 rfl (lv_at hl 3 rfl) ?_
  refine mo_getS (v := 1) C V X 46 (by decide) (by decide) (by first | rfl | exact hS46) f_Mo_277 rfl d_Mo_either_89 ?_
  refine lv_if_ne (tgt := 113) hx hb d_Mo_either_92 (by decide) (fun c3 => ?_) (fun c3 => absurd c3 (by decide))
  refine lv_aload_n hx hb d_Mo_either_113 rfl (lv_at hl 3 rfl) ?_
  refine mo_getS (v := 1) C V X 46 (by decide) (by decide) (by first | rfl | exact hS46) f_Mo_277 rfl d_Mo_either_114 ?_
  refine lv_iconst (v := 1) hx hb d_Mo_either_117 (by decide) ?_
  refine lv_icmp_ne (tgt := 162) hx hb d_Mo_either_118 (by decide) (fun c4 => absurd (by decide) c4) (fun c4 => ?_)
  refine lv_iload_n hx hb d_Mo_either_121 rfl (lv_at hl 5 rfl) ?_
  refine lv_if_eq (tgt := 147) hx hb d_Mo_either_122 (by decide) (fun c5 => absurd c5 (by decide)) (fun c5 => ?_)
  refine lv_iload hx hb d_Mo_either_125 (lv_at hl 0 rfl) ?_
  refine lv_if_ne (tgt := 147) hx hb d_Mo_either_127 (by decide) (fun c6 => ?_) (fun c6 => absurd c6 (by decide))
  refine lv_aload_n hx hb d_Mo_either_147 rfl (lv_at hl 3 rfl) ?_
  refine mo_getA C V X 38 (by decide) (by decide) f_Mo_97 rfl d_Mo_either_148 ?_
  refine lv_iload_n hx hb d_Mo_either_151 rfl (lv_at hl 4 rfl) ?_
  refine lv_iconst (v := 1) hx hb d_Mo_either_152 (by decide) ?_
  refine mo_ist (k := 38) (i := cp) (n := 60) C V X (by decide) (by decide) rfl (by omega) (by decide) d_Mo_either_153 (fun f1 H locs V1 X1 => ?_)
  clear V X
  have V := V1
  have X := X1
  clear V1 X1
  refine lv_aload_n hx hb d_Mo_either_154 rfl (lv_at hl 3 rfl) ?_
  refine lv_iconst (v := 1) hx hb d_Mo_either_155 (by decide) ?_
  refine gh_callV C V hl.1 m_Mo_tell l_Mo_289 (c_Mo_tell l E _ _ a ad _ _ _ 1 w X.1 h45) rfl X.1.1 gc_Mo ⟨by first | decide | omega | (dsimp only; omega), by first | decide | omega | (dsimp only; omega)⟩ ⟨by first | decide | omega | (dsimp only; omega), by first | decide | omega | (dsimp only; omega)⟩ (Nat.le_of_ble_eq_true rfl) rfl d_Mo_either_156 (fun r z9 H locs hp V1 => ?_)
  obtain ⟨rfl, X2⟩ := hp
  have X := X.then X2
  have V := V1
  refine W.eq (g2 := F0 m 159 ls []) rfl ?_
  refine lv_goto (tgt := 237) hx hb d_Mo_either_159 (by decide) ?_
  refine gh_retv hAe C V hr hlocks d_Mo_either_237 (by first | decide | omega | (dsimp only; omega)) (by first | decide | omega | (dsimp only; omega)) ?_
  exact ⟨rfl, _, _, X, (mct.rf.cell 38 1 (by decide) (by decide)).tell, oc_t1 hS47 rfl rfl⟩
set_option maxHeartbeats 4000000 in
set_option maxRecDepth 100000 in
theorem c_Mo_either_111t (l : Launch) (E : gh_E) (sz : Nat) (f : gh_F) (a : Nat) (ad : Nat → Nat) (S : Nat → Int32) (I : Nat → Nat → Int32) (J : Nat → Nat → Int64) (w cp φ : Nat) (p0 : Nat) (p1 : Nat) (b0 nv pb np : Nat) (Z : vt) (u : Nat) (hX : mo_R E f a ad S I J) (h45 : S 45 = nI (w + 1)) (hw : w < 14) (hc60 : cp < 60) (hp0c : I 34 (3 * cp) = nI p0) (hq0 : cp < p0 ∧ p0 < 60) (hp1c : I 34 (3 * cp + 1) = nI p1) (hq1 : cp < p1 ∧ p1 < 60) (hS46 : S 46 = 1) (hph : I 35 cp = 1) (hS47 : S 47 = nI u) (hu : mw I J b0 nv pb np u Z) (hc : mc I J b0 nv pb np) (htr : vt_tr Z = true) : gh_M l y_Mo_either b_Mo_either 6 none E sz [.ref a, .int (nI cp), .int 1] f { frames := 7, cells := 0, slots := 0, locals := 200 } (fun r g => r = none ∧ ∃ S2 I2, mo_X E f g a ad S2 I2 J ∧ mct cp w (fun _ => False) (va_up (fun k => I k cp) 38 1) S I S2 I2 ∧ oc_t w 1 (nI u) S S2) := by
  refine gh_open (by decide) (Nat.le_of_ble_eq_true rfl) ?_
  intro p e s m args below meth c A ls hAe C V hr hlocks hname hl
  have hx := C.1
  have hb := C.2.1
  have hl : lv_has ls 6 [(0, .ref a), (1, .int (nI cp)), (2, .int 1)] := hl
  have X : mo_X E f f a ad S I J := ⟨hX, gh_fr.rf⟩
  refine lv_aload_n hx hb d_Mo_either_0 rfl (lv_at hl 0 rfl) ?_
  refine mo_getA C V X 34 (by decide) (by decide) f_Mo_85 rfl d_Mo_either_1 ?_
  refine lv_iconst (v := 3) hx hb d_Mo_either_4 (by decide) ?_
  refine lv_iload_n hx hb d_Mo_either_5 rfl (lv_at hl 1 rfl) ?_
  refine gn_imul (a := 3) (b := cp) hx hb d_Mo_either_6 ?_
  refine mo_ild (k := 34) (i := 3 * cp) (n := 180) C V X (by decide) (by decide) rfl (by omega) (by decide) d_Mo_either_7 ?_
  rw [show I 34 (3 * cp) = nI p0 from hp0c]
  refine lv_istore_n hx hb d_Mo_either_8 rfl hl (by decide) rfl (fun ls hl => ?_)
  have hl : lv_has ls 6 [(3, .int (nI p0)), (0, .ref a), (1, .int (nI cp)), (2, .int 1)] := hl
  refine lv_aload_n hx hb d_Mo_either_9 rfl (lv_at hl 1 rfl) ?_
  refine mo_getA C V X 34 (by decide) (by decide) f_Mo_85 rfl d_Mo_either_10 ?_
  refine lv_iconst (v := 3) hx hb d_Mo_either_13 (by decide) ?_
  refine lv_iload_n hx hb d_Mo_either_14 rfl (lv_at hl 2 rfl) ?_
  refine gn_imul (a := 3) (b := cp) hx hb d_Mo_either_15 ?_
  refine lv_iconst (v := 1) hx hb d_Mo_either_16 (by decide) ?_
  refine gn_iadd (a := 3 * cp) (b := 1) hx hb d_Mo_either_17 ?_
  refine mo_ild (k := 34) (i := (3 * cp) + 1) (n := 180) C V X (by decide) (by decide) rfl (by omega) (by decide) d_Mo_either_18 ?_
  rw [show I 34 ((3 * cp) + 1) = nI p1 from hp1c]
  refine lv_istore hx hb d_Mo_either_19 hl (by decide) rfl (fun ls hl => ?_)
  have hl : lv_has ls 6 [(4, .int (nI p1)), (3, .int (nI p0)), (0, .ref a), (1, .int (nI cp)), (2, .int 1)] := hl
  refine lv_aload_n hx hb d_Mo_either_21 rfl (lv_at hl 2 rfl) ?_
  refine mo_getA C V X 35 (by decide) (by decide) f_Mo_88 rfl d_Mo_either_22 ?_
  refine lv_iload_n hx hb d_Mo_either_25 rfl (lv_at hl 3 rfl) ?_
  refine mo_ild (k := 35) (i := cp) (n := 60) C V X (by decide) (by decide) rfl (by omega) (by decide) d_Mo_either_26 ?_
  rw [show I 35 cp = 1 from hph]
  refine lv_iconst (v := 2) hx hb d_Mo_either_27 (by decide) ?_
  refine lv_icmp_ne (tgt := 35) hx hb d_Mo_either_28 (by decide) (fun c1 => ?_) (fun c1 => absurd c1 (by decide))
  refine lv_iconst (v := 0) hx hb d_Mo_either_35 (by decide) ?_
  refine lv_istore hx hb d_Mo_either_36 hl (by decide) rfl (fun ls hl => ?_)
  have hl : lv_has ls 6 [(5, .int 0), (4, .int (nI p1)), (3, .int (nI p0)), (0, .ref a), (1, .int (nI cp)), (2, .int 1)] := hl
  refine lv_aload_n hx hb d_Mo_either_38 rfl (lv_at hl 3 rfl) ?_
  refine mo_getS (v := 1) C V X 46 (by decide) (by decide) (by first | rfl | exact hS46) f_Mo_277 rfl d_Mo_either_39 ?_
  refine lv_if_ne (tgt := 88) hx hb d_Mo_either_42 (by decide) (fun c2 => ?_) (fun c2 => absurd c2 (by decide))
  refine lv_aload_n hx hb d_Mo_either_88 rfl (lv_at hl 3 rfl) ?_
  refine mo_getS (v := 1) C V X 46 (by decide) (by decide) (by first | rfl | exact hS46) f_Mo_277 rfl d_Mo_either_89 ?_
  refine lv_if_ne (tgt := 113) hx hb d_Mo_either_92 (by decide) (fun c3 => ?_) (fun c3 => absurd c3 (by decide))
  refine lv_aload_n hx hb d_Mo_either_113 rfl (lv_at hl 3 rfl) ?_
  refine mo_getS (v := 1) C V X 46 (by decide) (by decide) (by first | rfl | exact hS46) f_Mo_277 rfl d_Mo_either_114 ?_
  refine lv_iconst (v := 1) hx hb d_Mo_either_117 (by decide) ?_
  refine lv_icmp_ne (tgt := 162) hx hb d_Mo_either_118 (by decide) (fun c4 => absurd (by decide) c4) (fun c4 => ?_)
  refine lv_iload_n hx hb d_Mo_either_121 rfl (lv_at hl 5 rfl) ?_
  refine lv_if_eq (tgt := 147) hx hb d_Mo_either_122 (by decide) (fun c5 => absurd c5 (by decide)) (fun c5 => ?_)
  refine lv_iload hx hb d_Mo_either_125 (lv_at hl 0 rfl) ?_
  refine lv_if_ne (tgt := 147) hx hb d_Mo_either_127 (by decide) (fun c6 => absurd (by decide) c6) (fun c6 => ?_)
  refine lv_aload_n hx hb d_Mo_either_130 rfl (lv_at hl 3 rfl) ?_
  refine lv_aload_n hx hb d_Mo_either_131 rfl (lv_at hl 3 rfl) ?_
  refine mo_getS (v := nI u) C V X 47 (by decide) (by decide) (by first | rfl | exact hS47) f_Mo_286 rfl d_Mo_either_132 ?_
  refine gh_callV C V hl.1 m_Mo_isTrue l_Mo_351 (c_Mo_isTrue l E _ _ a ad _ _ _ u X.1 hu.lt) rfl X.1.1 gc_Mo ⟨by first | decide | omega | (dsimp only; omega), by first | decide | omega | (dsimp only; omega)⟩ ⟨by first | decide | omega | (dsimp only; omega), by first | decide | omega | (dsimp only; omega)⟩ (Nat.le_of_ble_eq_true rfl) rfl d_Mo_either_135 (fun r z9 H locs hp V1 => ?_)
  rw [show I 1 u = I 1 u from rfl, mw_true hu hc, htr] at hp
  obtain ⟨rfl, he9⟩ := hp
  rw [he9] at V1
  have V := V1
  refine W.eq (g2 := F0 m 138 ls [.int (gh_bi true)]) rfl ?_
  refine lv_if_ne (tgt := 147) hx hb d_Mo_either_138 (by decide) (fun c7 => ?_) (fun c7 => absurd c7 (by decide))
  refine lv_aload_n hx hb d_Mo_either_147 rfl (lv_at hl 3 rfl) ?_
  refine mo_getA C V X 38 (by decide) (by decide) f_Mo_97 rfl d_Mo_either_148 ?_
  refine lv_iload_n hx hb d_Mo_either_151 rfl (lv_at hl 4 rfl) ?_
  refine lv_iconst (v := 1) hx hb d_Mo_either_152 (by decide) ?_
  refine mo_ist (k := 38) (i := cp) (n := 60) C V X (by decide) (by decide) rfl (by omega) (by decide) d_Mo_either_153 (fun f1 H locs V1 X1 => ?_)
  clear V X
  have V := V1
  have X := X1
  clear V1 X1
  refine lv_aload_n hx hb d_Mo_either_154 rfl (lv_at hl 3 rfl) ?_
  refine lv_iconst (v := 1) hx hb d_Mo_either_155 (by decide) ?_
  refine gh_callV C V hl.1 m_Mo_tell l_Mo_289 (c_Mo_tell l E _ _ a ad _ _ _ 1 w X.1 h45) rfl X.1.1 gc_Mo ⟨by first | decide | omega | (dsimp only; omega), by first | decide | omega | (dsimp only; omega)⟩ ⟨by first | decide | omega | (dsimp only; omega), by first | decide | omega | (dsimp only; omega)⟩ (Nat.le_of_ble_eq_true rfl) rfl d_Mo_either_156 (fun r z9 H locs hp V1 => ?_)
  obtain ⟨rfl, X2⟩ := hp
  have X := X.then X2
  have V := V1
  refine W.eq (g2 := F0 m 159 ls []) rfl ?_
  refine lv_goto (tgt := 237) hx hb d_Mo_either_159 (by decide) ?_
  refine gh_retv hAe C V hr hlocks d_Mo_either_237 (by first | decide | omega | (dsimp only; omega)) (by first | decide | omega | (dsimp only; omega)) ?_
  exact ⟨rfl, _, _, X, (mct.rf.cell 38 1 (by decide) (by decide)).tell, oc_t1 hS47 rfl rfl⟩
set_option maxHeartbeats 4000000 in
set_option maxRecDepth 100000 in
theorem c_Mo_either_111f (l : Launch) (E : gh_E) (sz : Nat) (f : gh_F) (a : Nat) (ad : Nat → Nat) (S : Nat → Int32) (I : Nat → Nat → Int32) (J : Nat → Nat → Int64) (w cp φ : Nat) (p0 : Nat) (p1 : Nat) (b0 nv pb np : Nat) (Z : vt) (u : Nat) (hX : mo_R E f a ad S I J) (h45 : S 45 = nI (w + 1)) (hw : w < 14) (hc60 : cp < 60) (hp0c : I 34 (3 * cp) = nI p0) (hq0 : cp < p0 ∧ p0 < 60) (hp1c : I 34 (3 * cp + 1) = nI p1) (hq1 : cp < p1 ∧ p1 < 60) (hS46 : S 46 = 1) (hph : I 35 cp = 1) (hS47 : S 47 = nI u) (hu : mw I J b0 nv pb np u Z) (hc : mc I J b0 nv pb np) (htr : vt_tr Z = false) : gh_M l y_Mo_either b_Mo_either 6 none E sz [.ref a, .int (nI cp), .int 1] f { frames := 7, cells := 0, slots := 0, locals := 200 } (fun r g => r = none ∧ ∃ S2 I2, mo_X E f g a ad S2 I2 J ∧ mct cp w (fun _ => False) (fun k => I k cp) S I S2 I2 ∧ oc_a w p0 S S2 I2) := by
  refine gh_open (by decide) (Nat.le_of_ble_eq_true rfl) ?_
  intro p e s m args below meth c A ls hAe C V hr hlocks hname hl
  have hx := C.1
  have hb := C.2.1
  have hl : lv_has ls 6 [(0, .ref a), (1, .int (nI cp)), (2, .int 1)] := hl
  have X : mo_X E f f a ad S I J := ⟨hX, gh_fr.rf⟩
  refine lv_aload_n hx hb d_Mo_either_0 rfl (lv_at hl 0 rfl) ?_
  refine mo_getA C V X 34 (by decide) (by decide) f_Mo_85 rfl d_Mo_either_1 ?_
  refine lv_iconst (v := 3) hx hb d_Mo_either_4 (by decide) ?_
  refine lv_iload_n hx hb d_Mo_either_5 rfl (lv_at hl 1 rfl) ?_
  refine gn_imul (a := 3) (b := cp) hx hb d_Mo_either_6 ?_
  refine mo_ild (k := 34) (i := 3 * cp) (n := 180) C V X (by decide) (by decide) rfl (by omega) (by decide) d_Mo_either_7 ?_
  rw [show I 34 (3 * cp) = nI p0 from hp0c]
  refine lv_istore_n hx hb d_Mo_either_8 rfl hl (by decide) rfl (fun ls hl => ?_)
  have hl : lv_has ls 6 [(3, .int (nI p0)), (0, .ref a), (1, .int (nI cp)), (2, .int 1)] := hl
  refine lv_aload_n hx hb d_Mo_either_9 rfl (lv_at hl 1 rfl) ?_
  refine mo_getA C V X 34 (by decide) (by decide) f_Mo_85 rfl d_Mo_either_10 ?_
  refine lv_iconst (v := 3) hx hb d_Mo_either_13 (by decide) ?_
  refine lv_iload_n hx hb d_Mo_either_14 rfl (lv_at hl 2 rfl) ?_
  refine gn_imul (a := 3) (b := cp) hx hb d_Mo_either_15 ?_
  refine lv_iconst (v := 1) hx hb d_Mo_either_16 (by decide) ?_
  refine gn_iadd (a := 3 * cp) (b := 1) hx hb d_Mo_either_17 ?_
  refine mo_ild (k := 34) (i := (3 * cp) + 1) (n := 180) C V X (by decide) (by decide) rfl (by omega) (by decide) d_Mo_either_18 ?_
  rw [show I 34 ((3 * cp) + 1) = nI p1 from hp1c]
  refine lv_istore hx hb d_Mo_either_19 hl (by decide) rfl (fun ls hl => ?_)
  have hl : lv_has ls 6 [(4, .int (nI p1)), (3, .int (nI p0)), (0, .ref a), (1, .int (nI cp)), (2, .int 1)] := hl
  refine lv_aload_n hx hb d_Mo_either_21 rfl (lv_at hl 2 rfl) ?_
  refine mo_getA C V X 35 (by decide) (by decide) f_Mo_88 rfl d_Mo_either_22 ?_
  refine lv_iload_n hx hb d_Mo_either_25 rfl (lv_at hl 3 rfl) ?_
  refine mo_ild (k := 35) (i := cp) (n := 60) C V X (by decide) (by decide) rfl (by omega) (by decide) d_Mo_either_26 ?_
  rw [show I 35 cp = 1 from hph]
  refine lv_iconst (v := 2) hx hb d_Mo_either_27 (by decide) ?_
  refine lv_icmp_ne (tgt := 35) hx hb d_Mo_either_28 (by decide) (fun c1 => ?_) (fun c1 => absurd c1 (by decide))
  refine lv_iconst (v := 0) hx hb d_Mo_either_35 (by decide) ?_
  refine lv_istore hx hb d_Mo_either_36 hl (by decide) rfl (fun ls hl => ?_)
  have hl : lv_has ls 6 [(5, .int 0), (4, .int (nI p1)), (3, .int (nI p0)), (0, .ref a), (1, .int (nI cp)), (2, .int 1)] := hl
  refine lv_aload_n hx hb d_Mo_either_38 rfl (lv_at hl 3 rfl) ?_
  refine mo_getS (v := 1) C V X 46 (by decide) (by decide) (by first | rfl | exact hS46) f_Mo_277 rfl d_Mo_either_39 ?_
  refine lv_if_ne (tgt := 88) hx hb d_Mo_either_42 (by decide) (fun c2 => ?_) (fun c2 => absurd c2 (by decide))
  refine lv_aload_n hx hb d_Mo_either_88 rfl (lv_at hl 3 rfl) ?_
  refine mo_getS (v := 1) C V X 46 (by decide) (by decide) (by first | rfl | exact hS46) f_Mo_277 rfl d_Mo_either_89 ?_
  refine lv_if_ne (tgt := 113) hx hb d_Mo_either_92 (by decide) (fun c3 => ?_) (fun c3 => absurd c3 (by decide))
  refine lv_aload_n hx hb d_Mo_either_113 rfl (lv_at hl 3 rfl) ?_
  refine mo_getS (v := 1) C V X 46 (by decide) (by decide) (by first | rfl | exact hS46) f_Mo_277 rfl d_Mo_either_114 ?_
  refine lv_iconst (v := 1) hx hb d_Mo_either_117 (by decide) ?_
  refine lv_icmp_ne (tgt := 162) hx hb d_Mo_either_118 (by decide) (fun c4 => absurd (by decide) c4) (fun c4 => ?_)
  refine lv_iload_n hx hb d_Mo_either_121 rfl (lv_at hl 5 rfl) ?_
  refine lv_if_eq (tgt := 147) hx hb d_Mo_either_122 (by decide) (fun c5 => absurd c5 (by decide)) (fun c5 => ?_)
  refine lv_iload hx hb d_Mo_either_125 (lv_at hl 0 rfl) ?_
  refine lv_if_ne (tgt := 147) hx hb d_Mo_either_127 (by decide) (fun c6 => absurd (by decide) c6) (fun c6 => ?_)
  refine lv_aload_n hx hb d_Mo_either_130 rfl (lv_at hl 3 rfl) ?_
  refine lv_aload_n hx hb d_Mo_either_131 rfl (lv_at hl 3 rfl) ?_
  refine mo_getS (v := nI u) C V X 47 (by decide) (by decide) (by first | rfl | exact hS47) f_Mo_286 rfl d_Mo_either_132 ?_
  refine gh_callV C V hl.1 m_Mo_isTrue l_Mo_351 (c_Mo_isTrue l E _ _ a ad _ _ _ u X.1 hu.lt) rfl X.1.1 gc_Mo ⟨by first | decide | omega | (dsimp only; omega), by first | decide | omega | (dsimp only; omega)⟩ ⟨by first | decide | omega | (dsimp only; omega), by first | decide | omega | (dsimp only; omega)⟩ (Nat.le_of_ble_eq_true rfl) rfl d_Mo_either_135 (fun r z9 H locs hp V1 => ?_)
  rw [show I 1 u = I 1 u from rfl, mw_true hu hc, htr] at hp
  obtain ⟨rfl, he9⟩ := hp
  rw [he9] at V1
  have V := V1
  refine W.eq (g2 := F0 m 138 ls [.int (gh_bi false)]) rfl ?_
  refine lv_if_ne (tgt := 147) hx hb d_Mo_either_138 (by decide) (fun c7 => absurd (by decide) c7) (fun c7 => ?_)
  refine lv_aload_n hx hb d_Mo_either_141 rfl (lv_at hl 3 rfl) ?_
  refine lv_iload_n hx hb d_Mo_either_142 rfl (lv_at hl 2 rfl) ?_
  refine gh_callV C V hl.1 m_Mo_ask l_Mo_283 (c_Mo_ask l E _ _ a ad _ _ _ (nI p0) (w + 1) X.1 h45 (by omega)) rfl X.1.1 gc_Mo ⟨by first | decide | omega | (dsimp only; omega), by first | decide | omega | (dsimp only; omega)⟩ ⟨by first | decide | omega | (dsimp only; omega), by first | decide | omega | (dsimp only; omega)⟩ (Nat.le_of_ble_eq_true rfl) rfl d_Mo_either_143 (fun r z9 H locs hp V1 => ?_)
  obtain ⟨rfl, X2⟩ := hp
  have X := X.then X2
  have V := V1
  refine W.eq (g2 := F0 m 146 ls []) rfl ?_
  refine gh_retv hAe C V hr hlocks d_Mo_either_146 (by first | decide | omega | (dsimp only; omega)) (by first | decide | omega | (dsimp only; omega)) ?_
  exact ⟨rfl, _, _, X, mct.rf.ask, oc_a1 rfl rfl⟩
set_option maxHeartbeats 4000000 in
set_option maxRecDepth 100000 in
theorem c_Mo_either_122 (l : Launch) (E : gh_E) (sz : Nat) (f : gh_F) (a : Nat) (ad : Nat → Nat) (S : Nat → Int32) (I : Nat → Nat → Int32) (J : Nat → Nat → Int64) (w cp φ : Nat) (p0 : Nat) (p1 : Nat) (hX : mo_R E f a ad S I J) (h45 : S 45 = nI (w + 1)) (hw : w < 14) (hc60 : cp < 60) (hp0c : I 34 (3 * cp) = nI p0) (hq0 : cp < p0 ∧ p0 < 60) (hp1c : I 34 (3 * cp + 1) = nI p1) (hq1 : cp < p1 ∧ p1 < 60) (hS46 : S 46 = 2) (hph : I 35 cp = 2) : gh_M l y_Mo_either b_Mo_either 6 none E sz [.ref a, .int (nI cp), .int 1] f { frames := 7, cells := 0, slots := 0, locals := 200 } (fun r g => r = none ∧ ∃ S2 I2, mo_X E f g a ad S2 I2 J ∧ mct cp w (fun _ => False) (fun k => I k cp) S I S2 I2 ∧ oc_t w 2 (S 47) S S2) := by
  refine gh_open (by decide) (Nat.le_of_ble_eq_true rfl) ?_
  intro p e s m args below meth c A ls hAe C V hr hlocks hname hl
  have hx := C.1
  have hb := C.2.1
  have hl : lv_has ls 6 [(0, .ref a), (1, .int (nI cp)), (2, .int 1)] := hl
  have X : mo_X E f f a ad S I J := ⟨hX, gh_fr.rf⟩
  refine lv_aload_n hx hb d_Mo_either_0 rfl (lv_at hl 0 rfl) ?_
  refine mo_getA C V X 34 (by decide) (by decide) f_Mo_85 rfl d_Mo_either_1 ?_
  refine lv_iconst (v := 3) hx hb d_Mo_either_4 (by decide) ?_
  refine lv_iload_n hx hb d_Mo_either_5 rfl (lv_at hl 1 rfl) ?_
  refine gn_imul (a := 3) (b := cp) hx hb d_Mo_either_6 ?_
  refine mo_ild (k := 34) (i := 3 * cp) (n := 180) C V X (by decide) (by decide) rfl (by omega) (by decide) d_Mo_either_7 ?_
  rw [show I 34 (3 * cp) = nI p0 from hp0c]
  refine lv_istore_n hx hb d_Mo_either_8 rfl hl (by decide) rfl (fun ls hl => ?_)
  have hl : lv_has ls 6 [(3, .int (nI p0)), (0, .ref a), (1, .int (nI cp)), (2, .int 1)] := hl
  refine lv_aload_n hx hb d_Mo_either_9 rfl (lv_at hl 1 rfl) ?_
  refine mo_getA C V X 34 (by decide) (by decide) f_Mo_85 rfl d_Mo_either_10 ?_
  refine lv_iconst (v := 3) hx hb d_Mo_either_13 (by decide) ?_
  refine lv_iload_n hx hb d_Mo_either_14 rfl (lv_at hl 2 rfl) ?_
  refine gn_imul (a := 3) (b := cp) hx hb d_Mo_either_15 ?_
  refine lv_iconst (v := 1) hx hb d_Mo_either_16 (by decide) ?_
  refine gn_iadd (a := 3 * cp) (b := 1) hx hb d_Mo_either_17 ?_
  refine mo_ild (k := 34) (i := (3 * cp) + 1) (n := 180) C V X (by decide) (by decide) rfl (by omega) (by decide) d_Mo_either_18 ?_
  rw [show I 34 ((3 * cp) + 1) = nI p1 from hp1c]
  refine lv_istore hx hb d_Mo_either_19 hl (by decide) rfl (fun ls hl => ?_)
  have hl : lv_has ls 6 [(4, .int (nI p1)), (3, .int (nI p0)), (0, .ref a), (1, .int (nI cp)), (2, .int 1)] := hl
  refine lv_aload_n hx hb d_Mo_either_21 rfl (lv_at hl 2 rfl) ?_
  refine mo_getA C V X 35 (by decide) (by decide) f_Mo_88 rfl d_Mo_either_22 ?_
  refine lv_iload_n hx hb d_Mo_either_25 rfl (lv_at hl 3 rfl) ?_
  refine mo_ild (k := 35) (i := cp) (n := 60) C V X (by decide) (by decide) rfl (by omega) (by decide) d_Mo_either_26 ?_
  rw [show I 35 cp = 2 from hph]
  refine lv_iconst (v := 2) hx hb d_Mo_either_27 (by decide) ?_
  refine lv_icmp_ne (tgt := 35) hx hb d_Mo_either_28 (by decide) (fun c1 => absurd (by decide) c1) (fun c1 => ?_)
  refine lv_iconst (v := 1) hx hb d_Mo_either_31 (by decide) ?_
  refine lv_goto (tgt := 36) hx hb d_Mo_either_32 (by decide) ?_
  refine lv_istore hx hb d_Mo_either_36 hl (by decide) rfl (fun ls hl => ?_)
  have hl : lv_has ls 6 [(5, .int 1), (4, .int (nI p1)), (3, .int (nI p0)), (0, .ref a), (1, .int (nI cp)), (2, .int 1)] := hl
  refine lv_aload_n hx hb d_Mo_either_38 rfl (lv_at hl 3 rfl) ?_
  refine mo_getS (v := 2) C V X 46 (by decide) (by decide) (by first | rfl | exact hS46) f_Mo_277 rfl d_Mo_either_39 ?_
  refine lv_if_ne (tgt := 88) hx hb d_Mo_either_42 (by decide) (fun c2 => ?_) (fun c2 => absurd c2 (by decide))
  refine lv_aload_n hx hb d_Mo_either_88 rfl (lv_at hl 3 rfl) ?_
  refine mo_getS (v := 2) C V X 46 (by decide) (by decide) (by first | rfl | exact hS46) f_Mo_277 rfl d_Mo_either_89 ?_
  refine lv_if_ne (tgt := 113) hx hb d_Mo_either_92 (by decide) (fun c3 => ?_) (fun c3 => absurd c3 (by decide))
  refine lv_aload_n hx hb d_Mo_either_113 rfl (lv_at hl 3 rfl) ?_
  refine mo_getS (v := 2) C V X 46 (by decide) (by decide) (by first | rfl | exact hS46) f_Mo_277 rfl d_Mo_either_114 ?_
  refine lv_iconst (v := 1) hx hb d_Mo_either_117 (by decide) ?_
  refine lv_icmp_ne (tgt := 162) hx hb d_Mo_either_118 (by decide) (fun c4 => ?_) (fun c4 => absurd c4 (by decide))
  refine lv_iload hx hb d_Mo_either_162 (lv_at hl 0 rfl) ?_
  refine lv_if_ne (tgt := 179) hx hb d_Mo_either_164 (by decide) (fun c5 => ?_) (fun c5 => absurd c5 (by decide))
  refine lv_aload_n hx hb d_Mo_either_179 rfl (lv_at hl 3 rfl) ?_
  refine lv_aload_n hx hb d_Mo_either_180 rfl (lv_at hl 3 rfl) ?_
  refine mo_getS (v := 2) C V X 46 (by decide) (by decide) (by first | rfl | exact hS46) f_Mo_277 rfl d_Mo_either_181 ?_
  refine gh_callV C V hl.1 m_Mo_tell l_Mo_289 (c_Mo_tell l E _ _ a ad _ _ _ 2 w X.1 h45) rfl X.1.1 gc_Mo ⟨by first | decide | omega | (dsimp only; omega), by first | decide | omega | (dsimp only; omega)⟩ ⟨by first | decide | omega | (dsimp only; omega), by first | decide | omega | (dsimp only; omega)⟩ (Nat.le_of_ble_eq_true rfl) rfl d_Mo_either_184 (fun r z9 H locs hp V1 => ?_)
  obtain ⟨rfl, X2⟩ := hp
  have X := X.then X2
  have V := V1
  refine W.eq (g2 := F0 m 187 ls []) rfl ?_
  refine lv_goto (tgt := 237) hx hb d_Mo_either_187 (by decide) ?_
  refine gh_retv hAe C V hr hlocks d_Mo_either_237 (by first | decide | omega | (dsimp only; omega)) (by first | decide | omega | (dsimp only; omega)) ?_
  exact ⟨rfl, _, _, X, mct.rf.tell, oc_t1 rfl rfl rfl⟩
set_option maxHeartbeats 4000000 in
set_option maxRecDepth 100000 in
theorem c_Mo_either_121h (l : Launch) (E : gh_E) (sz : Nat) (f : gh_F) (a : Nat) (ad : Nat → Nat) (S : Nat → Int32) (I : Nat → Nat → Int32) (J : Nat → Nat → Int64) (w cp φ : Nat) (p0 : Nat) (p1 : Nat) (hX : mo_R E f a ad S I J) (h45 : S 45 = nI (w + 1)) (hw : w < 14) (hc60 : cp < 60) (hp0c : I 34 (3 * cp) = nI p0) (hq0 : cp < p0 ∧ p0 < 60) (hp1c : I 34 (3 * cp + 1) = nI p1) (hq1 : cp < p1 ∧ p1 < 60) (hS46 : S 46 = 2) (hph : I 35 cp = 1) (hhd : I 38 cp = 1) : gh_M l y_Mo_either b_Mo_either 6 none E sz [.ref a, .int (nI cp), .int 1] f { frames := 7, cells := 0, slots := 0, locals := 200 } (fun r g => r = none ∧ ∃ S2 I2, mo_X E f g a ad S2 I2 J ∧ mct cp w (fun _ => False) (fun k => I k cp) S I S2 I2 ∧ oc_t w 2 (S 47) S S2) := by
  refine gh_open (by decide) (Nat.le_of_ble_eq_true rfl) ?_
  intro p e s m args below meth c A ls hAe C V hr hlocks hname hl
  have hx := C.1
  have hb := C.2.1
  have hl : lv_has ls 6 [(0, .ref a), (1, .int (nI cp)), (2, .int 1)] := hl
  have X : mo_X E f f a ad S I J := ⟨hX, gh_fr.rf⟩
  refine lv_aload_n hx hb d_Mo_either_0 rfl (lv_at hl 0 rfl) ?_
  refine mo_getA C V X 34 (by decide) (by decide) f_Mo_85 rfl d_Mo_either_1 ?_
  refine lv_iconst (v := 3) hx hb d_Mo_either_4 (by decide) ?_
  refine lv_iload_n hx hb d_Mo_either_5 rfl (lv_at hl 1 rfl) ?_
  refine gn_imul (a := 3) (b := cp) hx hb d_Mo_either_6 ?_
  refine mo_ild (k := 34) (i := 3 * cp) (n := 180) C V X (by decide) (by decide) rfl (by omega) (by decide) d_Mo_either_7 ?_
  rw [show I 34 (3 * cp) = nI p0 from hp0c]
  refine lv_istore_n hx hb d_Mo_either_8 rfl hl (by decide) rfl (fun ls hl => ?_)
  have hl : lv_has ls 6 [(3, .int (nI p0)), (0, .ref a), (1, .int (nI cp)), (2, .int 1)] := hl
  refine lv_aload_n hx hb d_Mo_either_9 rfl (lv_at hl 1 rfl) ?_
  refine mo_getA C V X 34 (by decide) (by decide) f_Mo_85 rfl d_Mo_either_10 ?_
  refine lv_iconst (v := 3) hx hb d_Mo_either_13 (by decide) ?_
  refine lv_iload_n hx hb d_Mo_either_14 rfl (lv_at hl 2 rfl) ?_
  refine gn_imul (a := 3) (b := cp) hx hb d_Mo_either_15 ?_
  refine lv_iconst (v := 1) hx hb d_Mo_either_16 (by decide) ?_
  refine gn_iadd (a := 3 * cp) (b := 1) hx hb d_Mo_either_17 ?_
  refine mo_ild (k := 34) (i := (3 * cp) + 1) (n := 180) C V X (by decide) (by decide) rfl (by omega) (by decide) d_Mo_either_18 ?_
  rw [show I 34 ((3 * cp) + 1) = nI p1 from hp1c]
  refine lv_istore hx hb d_Mo_either_19 hl (by decide) rfl (fun ls hl => ?_)
  have hl : lv_has ls 6 [(4, .int (nI p1)), (3, .int (nI p0)), (0, .ref a), (1, .int (nI cp)), (2, .int 1)] := hl
  refine lv_aload_n hx hb d_Mo_either_21 rfl (lv_at hl 2 rfl) ?_
  refine mo_getA C V X 35 (by decide) (by decide) f_Mo_88 rfl d_Mo_either_22 ?_
  refine lv_iload_n hx hb d_Mo_either_25 rfl (lv_at hl 3 rfl) ?_
  refine mo_ild (k := 35) (i := cp) (n := 60) C V X (by decide) (by decide) rfl (by omega) (by decide) d_Mo_either_26 ?_
  rw [show I 35 cp = 1 from hph]
  refine lv_iconst (v := 2) hx hb d_Mo_either_27 (by decide) ?_
  refine lv_icmp_ne (tgt := 35) hx hb d_Mo_either_28 (by decide) (fun c1 => ?_) (fun c1 => absurd c1 (by decide))
  refine lv_iconst (v := 0) hx hb d_Mo_either_35 (by decide) ?_
  refine lv_istore hx hb d_Mo_either_36 hl (by decide) rfl (fun ls hl => ?_)
  have hl : lv_has ls 6 [(5, .int 0), (4, .int (nI p1)), (3, .int (nI p0)), (0, .ref a), (1, .int (nI cp)), (2, .int 1)] := hl
  refine lv_aload_n hx hb d_Mo_either_38 rfl (lv_at hl 3 rfl) ?_
  refine mo_getS (v := 2) C V X 46 (by decide) (by decide) (by first | rfl | exact hS46) f_Mo_277 rfl d_Mo_either_39 ?_
  refine lv_if_ne (tgt := 88) hx hb d_Mo_either_42 (by decide) (fun c2 => ?_) (fun c2 => absurd c2 (by decide))
  refine lv_aload_n hx hb d_Mo_either_88 rfl (lv_at hl 3 rfl) ?_
  refine mo_getS (v := 2) C V X 46 (by decide) (by decide) (by first | rfl | exact hS46) f_Mo_277 rfl d_Mo_either_89 ?_
  refine lv_if_ne (tgt := 113) hx hb d_Mo_either_92 (by decide) (fun c3 => ?_) (fun c3 => absurd c3 (by decide))
  refine lv_aload_n hx hb d_Mo_either_113 rfl (lv_at hl 3 rfl) ?_
  refine mo_getS (v := 2) C V X 46 (by decide) (by decide) (by first | rfl | exact hS46) f_Mo_277 rfl d_Mo_either_114 ?_
  refine lv_iconst (v := 1) hx hb d_Mo_either_117 (by decide) ?_
  refine lv_icmp_ne (tgt := 162) hx hb d_Mo_either_118 (by decide) (fun c4 => ?_) (fun c4 => absurd c4 (by decide))
  refine lv_iload hx hb d_Mo_either_162 (lv_at hl 0 rfl) ?_
  refine lv_if_ne (tgt := 179) hx hb d_Mo_either_164 (by decide) (fun c5 => absurd (by decide) c5) (fun c5 => ?_)
  refine lv_aload_n hx hb d_Mo_either_167 rfl (lv_at hl 3 rfl) ?_
  refine mo_getS (v := 2) C V X 46 (by decide) (by decide) (by first | rfl | exact hS46) f_Mo_277 rfl d_Mo_either_168 ?_
  refine lv_iconst (v := 3) hx hb d_Mo_either_171 (by decide) ?_
  refine lv_icmp_ne (tgt := 190) hx hb d_Mo_either_172 (by decide) (fun c6 => ?_) (fun c6 => absurd c6 (by decide))
  refine lv_iload_n hx hb d_Mo_either_190 rfl (lv_at hl 5 rfl) ?_
  refine lv_if_eq (tgt := 212) hx hb d_Mo_either_191 (by decide) (fun c7 => absurd c7 (by decide)) (fun c7 => ?_)
  refine lv_aload_n hx hb d_Mo_either_194 rfl (lv_at hl 3 rfl) ?_
  refine mo_getA C V X 38 (by decide) (by decide) f_Mo_97 rfl d_Mo_either_195 ?_
  refine lv_iload_n hx hb d_Mo_either_198 rfl (lv_at hl 4 rfl) ?_
  refine mo_ild (k := 38) (i := cp) (n := 60) C V X (by decide) (by decide) rfl (by omega) (by decide) d_Mo_either_199 ?_
  rw [show I 38 cp = 1 from hhd]
  refine lv_iconst (v := 1) hx hb d_Mo_either_200 (by decide) ?_
  refine lv_icmp_ne (tgt := 212) hx hb d_Mo_either_201 (by decide) (fun c8 => absurd (by decide) c8) (fun c8 => ?_)
  refine lv_aload_n hx hb d_Mo_either_204 rfl (lv_at hl 3 rfl) ?_
  refine lv_iconst (v := 2) hx hb d_Mo_either_205 (by decide) ?_
  refine gh_callV C V hl.1 m_Mo_tell l_Mo_289 (c_Mo_tell l E _ _ a ad _ _ _ 2 w X.1 h45) rfl X.1.1 gc_Mo ⟨by first | decide | omega | (dsimp only; omega), by first | decide | omega | (dsimp only; omega)⟩ ⟨by first | decide | omega | (dsimp only; omega), by first | decide | omega | (dsimp only; omega)⟩ (Nat.le_of_ble_eq_true rfl) rfl d_Mo_either_206 (fun r z9 H locs hp V1 => ?_)
  obtain ⟨rfl, X2⟩ := hp
  have X := X.then X2
  have V := V1
  refine W.eq (g2 := F0 m 209 ls []) rfl ?_
  refine lv_goto (tgt := 237) hx hb d_Mo_either_209 (by decide) ?_
  refine gh_retv hAe C V hr hlocks d_Mo_either_237 (by first | decide | omega | (dsimp only; omega)) (by first | decide | omega | (dsimp only; omega)) ?_
  exact ⟨rfl, _, _, X, mct.rf.tell, oc_t1 rfl rfl rfl⟩
set_option maxHeartbeats 4000000 in
set_option maxRecDepth 100000 in
theorem c_Mo_either_121n (l : Launch) (E : gh_E) (sz : Nat) (f : gh_F) (a : Nat) (ad : Nat → Nat) (S : Nat → Int32) (I : Nat → Nat → Int32) (J : Nat → Nat → Int64) (w cp φ : Nat) (p0 : Nat) (p1 : Nat) (hX : mo_R E f a ad S I J) (h45 : S 45 = nI (w + 1)) (hw : w < 14) (hc60 : cp < 60) (h48 : S 48 = nI φ) (hφ : φ < 1000) (h49 : ¬ 0 ≤ S 49) (hp0c : I 34 (3 * cp) = nI p0) (hq0 : cp < p0 ∧ p0 < 60) (hp1c : I 34 (3 * cp + 1) = nI p1) (hq1 : cp < p1 ∧ p1 < 60) (hS46 : S 46 = 2) (hph : I 35 cp = 1) (hhd : I 38 cp = 0) : gh_M l y_Mo_either b_Mo_either 6 none E sz [.ref a, .int (nI cp), .int 1] f { frames := 7, cells := 0, slots := 0, locals := 200 } (fun r g => r = none ∧ ∃ S2 I2, mo_X E f g a ad S2 I2 J ∧ mct cp w (fun j => j = p1) (va_up (fun k => I k cp) 35 2) S I S2 I2 ∧ oc_e w p1 (I 36 cp) (I 37 cp) φ S S2 I2) := by
  refine gh_open (by decide) (Nat.le_of_ble_eq_true rfl) ?_
  intro p e s m args below meth c A ls hAe C V hr hlocks hname hl
  have hx := C.1
  have hb := C.2.1
  have hl : lv_has ls 6 [(0, .ref a), (1, .int (nI cp)), (2, .int 1)] := hl
  have X : mo_X E f f a ad S I J := ⟨hX, gh_fr.rf⟩
  refine lv_aload_n hx hb d_Mo_either_0 rfl (lv_at hl 0 rfl) ?_
  refine mo_getA C V X 34 (by decide) (by decide) f_Mo_85 rfl d_Mo_either_1 ?_
  refine lv_iconst (v := 3) hx hb d_Mo_either_4 (by decide) ?_
  refine lv_iload_n hx hb d_Mo_either_5 rfl (lv_at hl 1 rfl) ?_
  refine gn_imul (a := 3) (b := cp) hx hb d_Mo_either_6 ?_
  refine mo_ild (k := 34) (i := 3 * cp) (n := 180) C V X (by decide) (by decide) rfl (by omega) (by decide) d_Mo_either_7 ?_
  rw [show I 34 (3 * cp) = nI p0 from hp0c]
  refine lv_istore_n hx hb d_Mo_either_8 rfl hl (by decide) rfl (fun ls hl => ?_)
  have hl : lv_has ls 6 [(3, .int (nI p0)), (0, .ref a), (1, .int (nI cp)), (2, .int 1)] := hl
  refine lv_aload_n hx hb d_Mo_either_9 rfl (lv_at hl 1 rfl) ?_
  refine mo_getA C V X 34 (by decide) (by decide) f_Mo_85 rfl d_Mo_either_10 ?_
  refine lv_iconst (v := 3) hx hb d_Mo_either_13 (by decide) ?_
  refine lv_iload_n hx hb d_Mo_either_14 rfl (lv_at hl 2 rfl) ?_
  refine gn_imul (a := 3) (b := cp) hx hb d_Mo_either_15 ?_
  refine lv_iconst (v := 1) hx hb d_Mo_either_16 (by decide) ?_
  refine gn_iadd (a := 3 * cp) (b := 1) hx hb d_Mo_either_17 ?_
  refine mo_ild (k := 34) (i := (3 * cp) + 1) (n := 180) C V X (by decide) (by decide) rfl (by omega) (by decide) d_Mo_either_18 ?_
  rw [show I 34 ((3 * cp) + 1) = nI p1 from hp1c]
  refine lv_istore hx hb d_Mo_either_19 hl (by decide) rfl (fun ls hl => ?_)
  have hl : lv_has ls 6 [(4, .int (nI p1)), (3, .int (nI p0)), (0, .ref a), (1, .int (nI cp)), (2, .int 1)] := hl
  refine lv_aload_n hx hb d_Mo_either_21 rfl (lv_at hl 2 rfl) ?_
  refine mo_getA C V X 35 (by decide) (by decide) f_Mo_88 rfl d_Mo_either_22 ?_
  refine lv_iload_n hx hb d_Mo_either_25 rfl (lv_at hl 3 rfl) ?_
  refine mo_ild (k := 35) (i := cp) (n := 60) C V X (by decide) (by decide) rfl (by omega) (by decide) d_Mo_either_26 ?_
  rw [show I 35 cp = 1 from hph]
  refine lv_iconst (v := 2) hx hb d_Mo_either_27 (by decide) ?_
  refine lv_icmp_ne (tgt := 35) hx hb d_Mo_either_28 (by decide) (fun c1 => ?_) (fun c1 => absurd c1 (by decide))
  refine lv_iconst (v := 0) hx hb d_Mo_either_35 (by decide) ?_
  refine lv_istore hx hb d_Mo_either_36 hl (by decide) rfl (fun ls hl => ?_)
  have hl : lv_has ls 6 [(5, .int 0), (4, .int (nI p1)), (3, .int (nI p0)), (0, .ref a), (1, .int (nI cp)), (2, .int 1)] := hl
  refine lv_aload_n hx hb d_Mo_either_38 rfl (lv_at hl 3 rfl) ?_
  refine mo_getS (v := 2) C V X 46 (by decide) (by decide) (by first | rfl | exact hS46) f_Mo_277 rfl d_Mo_either_39 ?_
  refine lv_if_ne (tgt := 88) hx hb d_Mo_either_42 (by decide) (fun c2 => ?_) (fun c2 => absurd c2 (by decide))
  refine lv_aload_n hx hb d_Mo_either_88 rfl (lv_at hl 3 rfl) ?_
  refine mo_getS (v := 2) C V X 46 (by decide) (by decide) (by first | rfl | exact hS46) f_Mo_277 rfl d_Mo_either_89 ?_
  refine lv_if_ne (tgt := 113) hx hb d_Mo_either_92 (by decide) (fun c3 => ?_) (fun c3 => absurd c3 (by decide))
  refine lv_aload_n hx hb d_Mo_either_113 rfl (lv_at hl 3 rfl) ?_
  refine mo_getS (v := 2) C V X 46 (by decide) (by decide) (by first | rfl | exact hS46) f_Mo_277 rfl d_Mo_either_114 ?_
  refine lv_iconst (v := 1) hx hb d_Mo_either_117 (by decide) ?_
  refine lv_icmp_ne (tgt := 162) hx hb d_Mo_either_118 (by decide) (fun c4 => ?_) (fun c4 => absurd c4 (by decide))
  refine lv_iload hx hb d_Mo_either_162 (lv_at hl 0 rfl) ?_
  refine lv_if_ne (tgt := 179) hx hb d_Mo_either_164 (by decide) (fun c5 => absurd (by decide) c5) (fun c5 => ?_)
  refine lv_aload_n hx hb d_Mo_either_167 rfl (lv_at hl 3 rfl) ?_
  refine mo_getS (v := 2) C V X 46 (by decide) (by decide) (by first | rfl | exact hS46) f_Mo_277 rfl d_Mo_either_168 ?_
  refine lv_iconst (v := 3) hx hb d_Mo_either_171 (by decide) ?_
  refine lv_icmp_ne (tgt := 190) hx hb d_Mo_either_172 (by decide) (fun c6 => ?_) (fun c6 => absurd c6 (by decide))
  refine lv_iload_n hx hb d_Mo_either_190 rfl (lv_at hl 5 rfl) ?_
  refine lv_if_eq (tgt := 212) hx hb d_Mo_either_191 (by decide) (fun c7 => absurd c7 (by decide)) (fun c7 => ?_)
  refine lv_aload_n hx hb d_Mo_either_194 rfl (lv_at hl 3 rfl) ?_
  refine mo_getA C V X 38 (by decide) (by decide) f_Mo_97 rfl d_Mo_either_195 ?_
  refine lv_iload_n hx hb d_Mo_either_198 rfl (lv_at hl 4 rfl) ?_
  refine mo_ild (k := 38) (i := cp) (n := 60) C V X (by decide) (by decide) rfl (by omega) (by decide) d_Mo_either_199 ?_
  rw [show I 38 cp = 0 from hhd]
  refine lv_iconst (v := 1) hx hb d_Mo_either_200 (by decide) ?_
  refine lv_icmp_ne (tgt := 212) hx hb d_Mo_either_201 (by decide) (fun c8 => ?_) (fun c8 => absurd c8 (by decide))
  refine lv_aload_n hx hb d_Mo_either_212 rfl (lv_at hl 3 rfl) ?_
  refine mo_getA C V X 35 (by decide) (by decide) f_Mo_88 rfl d_Mo_either_213 ?_
  refine lv_iload_n hx hb d_Mo_either_216 rfl (lv_at hl 4 rfl) ?_
  refine lv_iconst (v := 2) hx hb d_Mo_either_217 (by decide) ?_
  refine mo_ist (k := 35) (i := cp) (n := 60) C V X (by decide) (by decide) rfl (by omega) (by decide) d_Mo_either_218 (fun f1 H locs V1 X1 => ?_)
  clear V X
  have V := V1
  have X := X1
  clear V1 X1
  refine lv_aload_n hx hb d_Mo_either_219 rfl (lv_at hl 3 rfl) ?_
  refine lv_iload hx hb d_Mo_either_220 (lv_at hl 1 rfl) ?_
  refine lv_aload_n hx hb d_Mo_either_222 rfl (lv_at hl 3 rfl) ?_
  refine mo_getA C V X 36 (by decide) (by decide) f_Mo_91 rfl d_Mo_either_223 ?_
  refine lv_iload_n hx hb d_Mo_either_226 rfl (lv_at hl 4 rfl) ?_
  refine mo_ild (k := 36) (i := cp) (n := 60) C V X (by decide) (by decide) rfl (by omega) (by decide) d_Mo_either_227 ?_
  rw [show (va_up I 35 (upd (I 35) cp 2)) 36 cp = I 36 cp from ((congrFun (va_up_n (by decide)) cp).trans (rfl))]
  refine lv_aload_n hx hb d_Mo_either_228 rfl (lv_at hl 3 rfl) ?_
  refine mo_getA C V X 37 (by decide) (by decide) f_Mo_94 rfl d_Mo_either_229 ?_
  refine lv_iload_n hx hb d_Mo_either_232 rfl (lv_at hl 4 rfl) ?_
  refine mo_ild (k := 37) (i := cp) (n := 60) C V X (by decide) (by decide) rfl (by omega) (by decide) d_Mo_either_233 ?_
  rw [show (va_up I 35 (upd (I 35) cp 2)) 37 cp = I 37 cp from ((congrFun (va_up_n (by decide)) cp).trans (rfl))]
  refine gh_callV C V hl.1 m_Mo_enter l_Mo_299 (c_Mo_enter l E _ _ a ad _ _ _ p1 (I 36 cp) (I 37 cp) φ (w + 1) X.1 (by omega) h48 hφ h49 h45 (by omega)) rfl X.1.1 gc_Mo ⟨by first | decide | omega | (dsimp only; omega), by first | decide | omega | (dsimp only; omega)⟩ ⟨by first | decide | omega | (dsimp only; omega), by first | decide | omega | (dsimp only; omega)⟩ (Nat.le_of_ble_eq_true rfl) rfl d_Mo_either_234 (fun r z9 H locs hp V1 => ?_)
  obtain ⟨rfl, hp0, hp1⟩ := hp
  have V := V1
  by_cases hz : φ = 0
  · have X := X.then (hp0 hz)
    refine W.eq (g2 := F0 m 237 ls []) rfl ?_
    refine gh_retv hAe C V hr hlocks d_Mo_either_237 (by first | decide | omega | (dsimp only; omega)) (by first | decide | omega | (dsimp only; omega)) ?_
    exact ⟨rfl, _, _, X, ((mct.rf.cell 35 2 (by decide) (by decide)).s (k := 49) (by omega)).mono (fun _ z => z.elim), oc_e0 hz rfl⟩
  · have X := X.then (hp1 (by omega))
    refine W.eq (g2 := F0 m 237 ls []) rfl ?_
    refine gh_retv hAe C V hr hlocks d_Mo_either_237 (by first | decide | omega | (dsimp only; omega)) (by first | decide | omega | (dsimp only; omega)) ?_
    exact ⟨rfl, _, _, X, (mct.rf.cell 35 2 (by decide) (by decide)).enter (by omega), oc_e1 (by omega) rfl⟩
set_option maxHeartbeats 4000000 in
set_option maxRecDepth 100000 in
theorem c_Mo_either_132 (l : Launch) (E : gh_E) (sz : Nat) (f : gh_F) (a : Nat) (ad : Nat → Nat) (S : Nat → Int32) (I : Nat → Nat → Int32) (J : Nat → Nat → Int64) (w cp φ : Nat) (p0 : Nat) (p1 : Nat) (hX : mo_R E f a ad S I J) (h45 : S 45 = nI (w + 1)) (hw : w < 14) (hc60 : cp < 60) (hp0c : I 34 (3 * cp) = nI p0) (hq0 : cp < p0 ∧ p0 < 60) (hp1c : I 34 (3 * cp + 1) = nI p1) (hq1 : cp < p1 ∧ p1 < 60) (hS46 : S 46 = 3) (hph : I 35 cp = 2) : gh_M l y_Mo_either b_Mo_either 6 none E sz [.ref a, .int (nI cp), .int 1] f { frames := 7, cells := 0, slots := 0, locals := 200 } (fun r g => r = none ∧ ∃ S2 I2, mo_X E f g a ad S2 I2 J ∧ mct cp w (fun _ => False) (fun k => I k cp) S I S2 I2 ∧ oc_t w 3 (S 47) S S2) := by
  refine gh_open (by decide) (Nat.le_of_ble_eq_true rfl) ?_
  intro p e s m args below meth c A ls hAe C V hr hlocks hname hl
  have hx := C.1
  have hb := C.2.1
  have hl : lv_has ls 6 [(0, .ref a), (1, .int (nI cp)), (2, .int 1)] := hl
  have X : mo_X E f f a ad S I J := ⟨hX, gh_fr.rf⟩
  refine lv_aload_n hx hb d_Mo_either_0 rfl (lv_at hl 0 rfl) ?_
  refine mo_getA C V X 34 (by decide) (by decide) f_Mo_85 rfl d_Mo_either_1 ?_
  refine lv_iconst (v := 3) hx hb d_Mo_either_4 (by decide) ?_
  refine lv_iload_n hx hb d_Mo_either_5 rfl (lv_at hl 1 rfl) ?_
  refine gn_imul (a := 3) (b := cp) hx hb d_Mo_either_6 ?_
  refine mo_ild (k := 34) (i := 3 * cp) (n := 180) C V X (by decide) (by decide) rfl (by omega) (by decide) d_Mo_either_7 ?_
  rw [show I 34 (3 * cp) = nI p0 from hp0c]
  refine lv_istore_n hx hb d_Mo_either_8 rfl hl (by decide) rfl (fun ls hl => ?_)
  have hl : lv_has ls 6 [(3, .int (nI p0)), (0, .ref a), (1, .int (nI cp)), (2, .int 1)] := hl
  refine lv_aload_n hx hb d_Mo_either_9 rfl (lv_at hl 1 rfl) ?_
  refine mo_getA C V X 34 (by decide) (by decide) f_Mo_85 rfl d_Mo_either_10 ?_
  refine lv_iconst (v := 3) hx hb d_Mo_either_13 (by decide) ?_
  refine lv_iload_n hx hb d_Mo_either_14 rfl (lv_at hl 2 rfl) ?_
  refine gn_imul (a := 3) (b := cp) hx hb d_Mo_either_15 ?_
  refine lv_iconst (v := 1) hx hb d_Mo_either_16 (by decide) ?_
  refine gn_iadd (a := 3 * cp) (b := 1) hx hb d_Mo_either_17 ?_
  refine mo_ild (k := 34) (i := (3 * cp) + 1) (n := 180) C V X (by decide) (by decide) rfl (by omega) (by decide) d_Mo_either_18 ?_
  rw [show I 34 ((3 * cp) + 1) = nI p1 from hp1c]
  refine lv_istore hx hb d_Mo_either_19 hl (by decide) rfl (fun ls hl => ?_)
  have hl : lv_has ls 6 [(4, .int (nI p1)), (3, .int (nI p0)), (0, .ref a), (1, .int (nI cp)), (2, .int 1)] := hl
  refine lv_aload_n hx hb d_Mo_either_21 rfl (lv_at hl 2 rfl) ?_
  refine mo_getA C V X 35 (by decide) (by decide) f_Mo_88 rfl d_Mo_either_22 ?_
  refine lv_iload_n hx hb d_Mo_either_25 rfl (lv_at hl 3 rfl) ?_
  refine mo_ild (k := 35) (i := cp) (n := 60) C V X (by decide) (by decide) rfl (by omega) (by decide) d_Mo_either_26 ?_
  rw [show I 35 cp = 2 from hph]
  refine lv_iconst (v := 2) hx hb d_Mo_either_27 (by decide) ?_
  refine lv_icmp_ne (tgt := 35) hx hb d_Mo_either_28 (by decide) (fun c1 => absurd (by decide) c1) (fun c1 => ?_)
  refine lv_iconst (v := 1) hx hb d_Mo_either_31 (by decide) ?_
  refine lv_goto (tgt := 36) hx hb d_Mo_either_32 (by decide) ?_
  refine lv_istore hx hb d_Mo_either_36 hl (by decide) rfl (fun ls hl => ?_)
  have hl : lv_has ls 6 [(5, .int 1), (4, .int (nI p1)), (3, .int (nI p0)), (0, .ref a), (1, .int (nI cp)), (2, .int 1)] := hl
  refine lv_aload_n hx hb d_Mo_either_38 rfl (lv_at hl 3 rfl) ?_
  refine mo_getS (v := 3) C V X 46 (by decide) (by decide) (by first | rfl | exact hS46) f_Mo_277 rfl d_Mo_either_39 ?_
  refine lv_if_ne (tgt := 88) hx hb d_Mo_either_42 (by decide) (fun c2 => ?_) (fun c2 => absurd c2 (by decide))
  refine lv_aload_n hx hb d_Mo_either_88 rfl (lv_at hl 3 rfl) ?_
  refine mo_getS (v := 3) C V X 46 (by decide) (by decide) (by first | rfl | exact hS46) f_Mo_277 rfl d_Mo_either_89 ?_
  refine lv_if_ne (tgt := 113) hx hb d_Mo_either_92 (by decide) (fun c3 => ?_) (fun c3 => absurd c3 (by decide))
  refine lv_aload_n hx hb d_Mo_either_113 rfl (lv_at hl 3 rfl) ?_
  refine mo_getS (v := 3) C V X 46 (by decide) (by decide) (by first | rfl | exact hS46) f_Mo_277 rfl d_Mo_either_114 ?_
  refine lv_iconst (v := 1) hx hb d_Mo_either_117 (by decide) ?_
  refine lv_icmp_ne (tgt := 162) hx hb d_Mo_either_118 (by decide) (fun c4 => ?_) (fun c4 => absurd c4 (by decide))
  refine lv_iload hx hb d_Mo_either_162 (lv_at hl 0 rfl) ?_
  refine lv_if_ne (tgt := 179) hx hb d_Mo_either_164 (by decide) (fun c5 => ?_) (fun c5 => absurd c5 (by decide))
  refine lv_aload_n hx hb d_Mo_either_179 rfl (lv_at hl 3 rfl) ?_
  refine lv_aload_n hx hb d_Mo_either_180 rfl (lv_at hl 3 rfl) ?_
  refine mo_getS (v := 3) C V X 46 (by decide) (by decide) (by first | rfl | exact hS46) f_Mo_277 rfl d_Mo_either_181 ?_
  refine gh_callV C V hl.1 m_Mo_tell l_Mo_289 (c_Mo_tell l E _ _ a ad _ _ _ 3 w X.1 h45) rfl X.1.1 gc_Mo ⟨by first | decide | omega | (dsimp only; omega), by first | decide | omega | (dsimp only; omega)⟩ ⟨by first | decide | omega | (dsimp only; omega), by first | decide | omega | (dsimp only; omega)⟩ (Nat.le_of_ble_eq_true rfl) rfl d_Mo_either_184 (fun r z9 H locs hp V1 => ?_)
  obtain ⟨rfl, X2⟩ := hp
  have X := X.then X2
  have V := V1
  refine W.eq (g2 := F0 m 187 ls []) rfl ?_
  refine lv_goto (tgt := 237) hx hb d_Mo_either_187 (by decide) ?_
  refine gh_retv hAe C V hr hlocks d_Mo_either_237 (by first | decide | omega | (dsimp only; omega)) (by first | decide | omega | (dsimp only; omega)) ?_
  exact ⟨rfl, _, _, X, mct.rf.tell, oc_t1 rfl rfl rfl⟩
set_option maxHeartbeats 4000000 in
set_option maxRecDepth 100000 in
theorem c_Mo_either_131h (l : Launch) (E : gh_E) (sz : Nat) (f : gh_F) (a : Nat) (ad : Nat → Nat) (S : Nat → Int32) (I : Nat → Nat → Int32) (J : Nat → Nat → Int64) (w cp φ : Nat) (p0 : Nat) (p1 : Nat) (hX : mo_R E f a ad S I J) (h45 : S 45 = nI (w + 1)) (hw : w < 14) (hc60 : cp < 60) (hp0c : I 34 (3 * cp) = nI p0) (hq0 : cp < p0 ∧ p0 < 60) (hp1c : I 34 (3 * cp + 1) = nI p1) (hq1 : cp < p1 ∧ p1 < 60) (hS46 : S 46 = 3) (hph : I 35 cp = 1) (hhd : I 38 cp = 1) : gh_M l y_Mo_either b_Mo_either 6 none E sz [.ref a, .int (nI cp), .int 1] f { frames := 7, cells := 0, slots := 0, locals := 200 } (fun r g => r = none ∧ ∃ S2 I2, mo_X E f g a ad S2 I2 J ∧ mct cp w (fun _ => False) (fun k => I k cp) S I S2 I2 ∧ oc_t w 2 (S 47) S S2) := by
  refine gh_open (by decide) (Nat.le_of_ble_eq_true rfl) ?_
  intro p e s m args below meth c A ls hAe C V hr hlocks hname hl
  have hx := C.1
  have hb := C.2.1
  have hl : lv_has ls 6 [(0, .ref a), (1, .int (nI cp)), (2, .int 1)] := hl
  have X : mo_X E f f a ad S I J := ⟨hX, gh_fr.rf⟩
  refine lv_aload_n hx hb d_Mo_either_0 rfl (lv_at hl 0 rfl) ?_
  refine mo_getA C V X 34 (by decide) (by decide) f_Mo_85 rfl d_Mo_either_1 ?_
  refine lv_iconst (v := 3) hx hb d_Mo_either_4 (by decide) ?_
  refine lv_iload_n hx hb d_Mo_either_5 rfl (lv_at hl 1 rfl) ?_
  refine gn_imul (a := 3) (b := cp) hx hb d_Mo_either_6 ?_
  refine mo_ild (k := 34) (i := 3 * cp) (n := 180) C V X (by decide) (by decide) rfl (by omega) (by decide) d_Mo_either_7 ?_
  rw [show I 34 (3 * cp) = nI p0 from hp0c]
  refine lv_istore_n hx hb d_Mo_either_8 rfl hl (by decide) rfl (fun ls hl => ?_)
  have hl : lv_has ls 6 [(3, .int (nI p0)), (0, .ref a), (1, .int (nI cp)), (2, .int 1)] := hl
  refine lv_aload_n hx hb d_Mo_either_9 rfl (lv_at hl 1 rfl) ?_
  refine mo_getA C V X 34 (by decide) (by decide) f_Mo_85 rfl d_Mo_either_10 ?_
  refine lv_iconst (v := 3) hx hb d_Mo_either_13 (by decide) ?_
  refine lv_iload_n hx hb d_Mo_either_14 rfl (lv_at hl 2 rfl) ?_
  refine gn_imul (a := 3) (b := cp) hx hb d_Mo_either_15 ?_
  refine lv_iconst (v := 1) hx hb d_Mo_either_16 (by decide) ?_
  refine gn_iadd (a := 3 * cp) (b := 1) hx hb d_Mo_either_17 ?_
  refine mo_ild (k := 34) (i := (3 * cp) + 1) (n := 180) C V X (by decide) (by decide) rfl (by omega) (by decide) d_Mo_either_18 ?_
  rw [show I 34 ((3 * cp) + 1) = nI p1 from hp1c]
  refine lv_istore hx hb d_Mo_either_19 hl (by decide) rfl (fun ls hl => ?_)
  have hl : lv_has ls 6 [(4, .int (nI p1)), (3, .int (nI p0)), (0, .ref a), (1, .int (nI cp)), (2, .int 1)] := hl
  refine lv_aload_n hx hb d_Mo_either_21 rfl (lv_at hl 2 rfl) ?_
  refine mo_getA C V X 35 (by decide) (by decide) f_Mo_88 rfl d_Mo_either_22 ?_
  refine lv_iload_n hx hb d_Mo_either_25 rfl (lv_at hl 3 rfl) ?_
  refine mo_ild (k := 35) (i := cp) (n := 60) C V X (by decide) (by decide) rfl (by omega) (by decide) d_Mo_either_26 ?_
  rw [show I 35 cp = 1 from hph]
  refine lv_iconst (v := 2) hx hb d_Mo_either_27 (by decide) ?_
  refine lv_icmp_ne (tgt := 35) hx hb d_Mo_either_28 (by decide) (fun c1 => ?_) (fun c1 => absurd c1 (by decide))
  refine lv_iconst (v := 0) hx hb d_Mo_either_35 (by decide) ?_
  refine lv_istore hx hb d_Mo_either_36 hl (by decide) rfl (fun ls hl => ?_)
  have hl : lv_has ls 6 [(5, .int 0), (4, .int (nI p1)), (3, .int (nI p0)), (0, .ref a), (1, .int (nI cp)), (2, .int 1)] := hl
  refine lv_aload_n hx hb d_Mo_either_38 rfl (lv_at hl 3 rfl) ?_
  refine mo_getS (v := 3) C V X 46 (by decide) (by decide) (by first | rfl | exact hS46) f_Mo_277 rfl d_Mo_either_39 ?_
  refine lv_if_ne (tgt := 88) hx hb d_Mo_either_42 (by decide) (fun c2 => ?_) (fun c2 => absurd c2 (by decide))
  refine lv_aload_n hx hb d_Mo_either_88 rfl (lv_at hl 3 rfl) ?_
  refine mo_getS (v := 3) C V X 46 (by decide) (by decide) (by first | rfl | exact hS46) f_Mo_277 rfl d_Mo_either_89 ?_
  refine lv_if_ne (tgt := 113) hx hb d_Mo_either_92 (by decide) (fun c3 => ?_) (fun c3 => absurd c3 (by decide))
  refine lv_aload_n hx hb d_Mo_either_113 rfl (lv_at hl 3 rfl) ?_
  refine mo_getS (v := 3) C V X 46 (by decide) (by decide) (by first | rfl | exact hS46) f_Mo_277 rfl d_Mo_either_114 ?_
  refine lv_iconst (v := 1) hx hb d_Mo_either_117 (by decide) ?_
  refine lv_icmp_ne (tgt := 162) hx hb d_Mo_either_118 (by decide) (fun c4 => ?_) (fun c4 => absurd c4 (by decide))
  refine lv_iload hx hb d_Mo_either_162 (lv_at hl 0 rfl) ?_
  refine lv_if_ne (tgt := 179) hx hb d_Mo_either_164 (by decide) (fun c5 => absurd (by decide) c5) (fun c5 => ?_)
  refine lv_aload_n hx hb d_Mo_either_167 rfl (lv_at hl 3 rfl) ?_
  refine mo_getS (v := 3) C V X 46 (by decide) (by decide) (by first | rfl | exact hS46) f_Mo_277 rfl d_Mo_either_168 ?_
  refine lv_iconst (v := 3) hx hb d_Mo_either_171 (by decide) ?_
  refine lv_icmp_ne (tgt := 190) hx hb d_Mo_either_172 (by decide) (fun c6 => absurd (by decide) c6) (fun c6 => ?_)
  refine lv_iload_n hx hb d_Mo_either_175 rfl (lv_at hl 5 rfl) ?_
  refine lv_if_ne (tgt := 190) hx hb d_Mo_either_176 (by decide) (fun c7 => ?_) (fun c7 => absurd c7 (by decide))
  refine lv_iload_n hx hb d_Mo_either_190 rfl (lv_at hl 5 rfl) ?_
  refine lv_if_eq (tgt := 212) hx hb d_Mo_either_191 (by decide) (fun c8 => absurd c8 (by decide)) (fun c8 => ?_)
  refine lv_aload_n hx hb d_Mo_either_194 rfl (lv_at hl 3 rfl) ?_
  refine mo_getA C V X 38 (by decide) (by decide) f_Mo_97 rfl d_Mo_either_195 ?_
  refine lv_iload_n hx hb d_Mo_either_198 rfl (lv_at hl 4 rfl) ?_
  refine mo_ild (k := 38) (i := cp) (n := 60) C V X (by decide) (by decide) rfl (by omega) (by decide) d_Mo_either_199 ?_
  rw [show I 38 cp = 1 from hhd]
  refine lv_iconst (v := 1) hx hb d_Mo_either_200 (by decide) ?_
  refine lv_icmp_ne (tgt := 212) hx hb d_Mo_either_201 (by decide) (fun c9 => absurd (by decide) c9) (fun c9 => ?_)
  refine lv_aload_n hx hb d_Mo_either_204 rfl (lv_at hl 3 rfl) ?_
  refine lv_iconst (v := 2) hx hb d_Mo_either_205 (by decide) ?_
  refine gh_callV C V hl.1 m_Mo_tell l_Mo_289 (c_Mo_tell l E _ _ a ad _ _ _ 2 w X.1 h45) rfl X.1.1 gc_Mo ⟨by first | decide | omega | (dsimp only; omega), by first | decide | omega | (dsimp only; omega)⟩ ⟨by first | decide | omega | (dsimp only; omega), by first | decide | omega | (dsimp only; omega)⟩ (Nat.le_of_ble_eq_true rfl) rfl d_Mo_either_206 (fun r z9 H locs hp V1 => ?_)
  obtain ⟨rfl, X2⟩ := hp
  have X := X.then X2
  have V := V1
  refine W.eq (g2 := F0 m 209 ls []) rfl ?_
  refine lv_goto (tgt := 237) hx hb d_Mo_either_209 (by decide) ?_
  refine gh_retv hAe C V hr hlocks d_Mo_either_237 (by first | decide | omega | (dsimp only; omega)) (by first | decide | omega | (dsimp only; omega)) ?_
  exact ⟨rfl, _, _, X, mct.rf.tell, oc_t1 rfl rfl rfl⟩
set_option maxHeartbeats 4000000 in
set_option maxRecDepth 100000 in
theorem c_Mo_either_131n (l : Launch) (E : gh_E) (sz : Nat) (f : gh_F) (a : Nat) (ad : Nat → Nat) (S : Nat → Int32) (I : Nat → Nat → Int32) (J : Nat → Nat → Int64) (w cp φ : Nat) (p0 : Nat) (p1 : Nat) (hX : mo_R E f a ad S I J) (h45 : S 45 = nI (w + 1)) (hw : w < 14) (hc60 : cp < 60) (h48 : S 48 = nI φ) (hφ : φ < 1000) (h49 : ¬ 0 ≤ S 49) (hp0c : I 34 (3 * cp) = nI p0) (hq0 : cp < p0 ∧ p0 < 60) (hp1c : I 34 (3 * cp + 1) = nI p1) (hq1 : cp < p1 ∧ p1 < 60) (hS46 : S 46 = 3) (hph : I 35 cp = 1) (hhd : I 38 cp = 0) : gh_M l y_Mo_either b_Mo_either 6 none E sz [.ref a, .int (nI cp), .int 1] f { frames := 7, cells := 0, slots := 0, locals := 200 } (fun r g => r = none ∧ ∃ S2 I2, mo_X E f g a ad S2 I2 J ∧ mct cp w (fun j => j = p1) (va_up (fun k => I k cp) 35 2) S I S2 I2 ∧ oc_e w p1 (I 36 cp) (I 37 cp) φ S S2 I2) := by
  refine gh_open (by decide) (Nat.le_of_ble_eq_true rfl) ?_
  intro p e s m args below meth c A ls hAe C V hr hlocks hname hl
  have hx := C.1
  have hb := C.2.1
  have hl : lv_has ls 6 [(0, .ref a), (1, .int (nI cp)), (2, .int 1)] := hl
  have X : mo_X E f f a ad S I J := ⟨hX, gh_fr.rf⟩
  refine lv_aload_n hx hb d_Mo_either_0 rfl (lv_at hl 0 rfl) ?_
  refine mo_getA C V X 34 (by decide) (by decide) f_Mo_85 rfl d_Mo_either_1 ?_
  refine lv_iconst (v := 3) hx hb d_Mo_either_4 (by decide) ?_
  refine lv_iload_n hx hb d_Mo_either_5 rfl (lv_at hl 1 rfl) ?_
  refine gn_imul (a := 3) (b := cp) hx hb d_Mo_either_6 ?_
  refine mo_ild (k := 34) (i := 3 * cp) (n := 180) C V X (by decide) (by decide) rfl (by omega) (by decide) d_Mo_either_7 ?_
  rw [show I 34 (3 * cp) = nI p0 from hp0c]
  refine lv_istore_n hx hb d_Mo_either_8 rfl hl (by decide) rfl (fun ls hl => ?_)
  have hl : lv_has ls 6 [(3, .int (nI p0)), (0, .ref a), (1, .int (nI cp)), (2, .int 1)] := hl
  refine lv_aload_n hx hb d_Mo_either_9 rfl (lv_at hl 1 rfl) ?_
  refine mo_getA C V X 34 (by decide) (by decide) f_Mo_85 rfl d_Mo_either_10 ?_
  refine lv_iconst (v := 3) hx hb d_Mo_either_13 (by decide) ?_
  refine lv_iload_n hx hb d_Mo_either_14 rfl (lv_at hl 2 rfl) ?_
  refine gn_imul (a := 3) (b := cp) hx hb d_Mo_either_15 ?_
  refine lv_iconst (v := 1) hx hb d_Mo_either_16 (by decide) ?_
  refine gn_iadd (a := 3 * cp) (b := 1) hx hb d_Mo_either_17 ?_
  refine mo_ild (k := 34) (i := (3 * cp) + 1) (n := 180) C V X (by decide) (by decide) rfl (by omega) (by decide) d_Mo_either_18 ?_
  rw [show I 34 ((3 * cp) + 1) = nI p1 from hp1c]
  refine lv_istore hx hb d_Mo_either_19 hl (by decide) rfl (fun ls hl => ?_)
  have hl : lv_has ls 6 [(4, .int (nI p1)), (3, .int (nI p0)), (0, .ref a), (1, .int (nI cp)), (2, .int 1)] := hl
  refine lv_aload_n hx hb d_Mo_either_21 rfl (lv_at hl 2 rfl) ?_
  refine mo_getA C V X 35 (by decide) (by decide) f_Mo_88 rfl d_Mo_either_22 ?_
  refine lv_iload_n hx hb d_Mo_either_25 rfl (lv_at hl 3 rfl) ?_
  refine mo_ild (k := 35) (i := cp) (n := 60) C V X (by decide) (by decide) rfl (by omega) (by decide) d_Mo_either_26 ?_
  rw [show I 35 cp = 1 from hph]
  refine lv_iconst (v := 2) hx hb d_Mo_either_27 (by decide) ?_
  refine lv_icmp_ne (tgt := 35) hx hb d_Mo_either_28 (by decide) (fun c1 => ?_) (fun c1 => absurd c1 (by decide))
  refine lv_iconst (v := 0) hx hb d_Mo_either_35 (by decide) ?_
  refine lv_istore hx hb d_Mo_either_36 hl (by decide) rfl (fun ls hl => ?_)
  have hl : lv_has ls 6 [(5, .int 0), (4, .int (nI p1)), (3, .int (nI p0)), (0, .ref a), (1, .int (nI cp)), (2, .int 1)] := hl
  refine lv_aload_n hx hb d_Mo_either_38 rfl (lv_at hl 3 rfl) ?_
  refine mo_getS (v := 3) C V X 46 (by decide) (by decide) (by first | rfl | exact hS46) f_Mo_277 rfl d_Mo_either_39 ?_
  refine lv_if_ne (tgt := 88) hx hb d_Mo_either_42 (by decide) (fun c2 => ?_) (fun c2 => absurd c2 (by decide))
  refine lv_aload_n hx hb d_Mo_either_88 rfl (lv_at hl 3 rfl) ?_
  refine mo_getS (v := 3) C V X 46 (by decide) (by decide) (by first | rfl | exact hS46) f_Mo_277 rfl d_Mo_either_89 ?_
  refine lv_if_ne (tgt := 113) hx hb d_Mo_either_92 (by decide) (fun c3 => ?_) (fun c3 => absurd c3 (by decide))
  refine lv_aload_n hx hb d_Mo_either_113 rfl (lv_at hl 3 rfl) ?_
  refine mo_getS (v := 3) C V X 46 (by decide) (by decide) (by first | rfl | exact hS46) f_Mo_277 rfl d_Mo_either_114 ?_
  refine lv_iconst (v := 1) hx hb d_Mo_either_117 (by decide) ?_
  refine lv_icmp_ne (tgt := 162) hx hb d_Mo_either_118 (by decide) (fun c4 => ?_) (fun c4 => absurd c4 (by decide))
  refine lv_iload hx hb d_Mo_either_162 (lv_at hl 0 rfl) ?_
  refine lv_if_ne (tgt := 179) hx hb d_Mo_either_164 (by decide) (fun c5 => absurd (by decide) c5) (fun c5 => ?_)
  refine lv_aload_n hx hb d_Mo_either_167 rfl (lv_at hl 3 rfl) ?_
  refine mo_getS (v := 3) C V X 46 (by decide) (by decide) (by first | rfl | exact hS46) f_Mo_277 rfl d_Mo_either_168 ?_
  refine lv_iconst (v := 3) hx hb d_Mo_either_171 (by decide) ?_
  refine lv_icmp_ne (tgt := 190) hx hb d_Mo_either_172 (by decide) (fun c6 => absurd (by decide) c6) (fun c6 => ?_)
  refine lv_iload_n hx hb d_Mo_either_175 rfl (lv_at hl 5 rfl) ?_
  refine lv_if_ne (tgt := 190) hx hb d_Mo_either_176 (by decide) (fun c7 => ?_) (fun c7 => absurd c7 (by decide))
  refine lv_iload_n hx hb d_Mo_either_190 rfl (lv_at hl 5 rfl) ?_
  refine lv_if_eq (tgt := 212) hx hb d_Mo_either_191 (by decide) (fun c8 => absurd c8 (by decide)) (fun c8 => ?_)
  refine lv_aload_n hx hb d_Mo_either_194 rfl (lv_at hl 3 rfl) ?_
  refine mo_getA C V X 38 (by decide) (by decide) f_Mo_97 rfl d_Mo_either_195 ?_
  refine lv_iload_n hx hb d_Mo_either_198 rfl (lv_at hl 4 rfl) ?_
  refine mo_ild (k := 38) (i := cp) (n := 60) C V X (by decide) (by decide) rfl (by omega) (by decide) d_Mo_either_199 ?_
  rw [show I 38 cp = 0 from hhd]
  refine lv_iconst (v := 1) hx hb d_Mo_either_200 (by decide) ?_
  refine lv_icmp_ne (tgt := 212) hx hb d_Mo_either_201 (by decide) (fun c9 => ?_) (fun c9 => absurd c9 (by decide))
  refine lv_aload_n hx hb d_Mo_either_212 rfl (lv_at hl 3 rfl) ?_
  refine mo_getA C V X 35 (by decide) (by decide) f_Mo_88 rfl d_Mo_either_213 ?_
  refine lv_iload_n hx hb d_Mo_either_216 rfl (lv_at hl 4 rfl) ?_
  refine lv_iconst (v := 2) hx hb d_Mo_either_217 (by decide) ?_
  refine mo_ist (k := 35) (i := cp) (n := 60) C V X (by decide) (by decide) rfl (by omega) (by decide) d_Mo_either_218 (fun f1 H locs V1 X1 => ?_)
  clear V X
  have V := V1
  have X := X1
  clear V1 X1
  refine lv_aload_n hx hb d_Mo_either_219 rfl (lv_at hl 3 rfl) ?_
  refine lv_iload hx hb d_Mo_either_220 (lv_at hl 1 rfl) ?_
  refine lv_aload_n hx hb d_Mo_either_222 rfl (lv_at hl 3 rfl) ?_
  refine mo_getA C V X 36 (by decide) (by decide) f_Mo_91 rfl d_Mo_either_223 ?_
  refine lv_iload_n hx hb d_Mo_either_226 rfl (lv_at hl 4 rfl) ?_
  refine mo_ild (k := 36) (i := cp) (n := 60) C V X (by decide) (by decide) rfl (by omega) (by decide) d_Mo_either_227 ?_
  rw [show (va_up I 35 (upd (I 35) cp 2)) 36 cp = I 36 cp from ((congrFun (va_up_n (by decide)) cp).trans (rfl))]
  refine lv_aload_n hx hb d_Mo_either_228 rfl (lv_at hl 3 rfl) ?_
  refine mo_getA C V X 37 (by decide) (by decide) f_Mo_94 rfl d_Mo_either_229 ?_
  refine lv_iload_n hx hb d_Mo_either_232 rfl (lv_at hl 4 rfl) ?_
  refine mo_ild (k := 37) (i := cp) (n := 60) C V X (by decide) (by decide) rfl (by omega) (by decide) d_Mo_either_233 ?_
  rw [show (va_up I 35 (upd (I 35) cp 2)) 37 cp = I 37 cp from ((congrFun (va_up_n (by decide)) cp).trans (rfl))]
  refine gh_callV C V hl.1 m_Mo_enter l_Mo_299 (c_Mo_enter l E _ _ a ad _ _ _ p1 (I 36 cp) (I 37 cp) φ (w + 1) X.1 (by omega) h48 hφ h49 h45 (by omega)) rfl X.1.1 gc_Mo ⟨by first | decide | omega | (dsimp only; omega), by first | decide | omega | (dsimp only; omega)⟩ ⟨by first | decide | omega | (dsimp only; omega), by first | decide | omega | (dsimp only; omega)⟩ (Nat.le_of_ble_eq_true rfl) rfl d_Mo_either_234 (fun r z9 H locs hp V1 => ?_)
  obtain ⟨rfl, hp0, hp1⟩ := hp
  have V := V1
  by_cases hz : φ = 0
  · have X := X.then (hp0 hz)
    refine W.eq (g2 := F0 m 237 ls []) rfl ?_
    refine gh_retv hAe C V hr hlocks d_Mo_either_237 (by first | decide | omega | (dsimp only; omega)) (by first | decide | omega | (dsimp only; omega)) ?_
    exact ⟨rfl, _, _, X, ((mct.rf.cell 35 2 (by decide) (by decide)).s (k := 49) (by omega)).mono (fun _ z => z.elim), oc_e0 hz rfl⟩
  · have X := X.then (hp1 (by omega))
    refine W.eq (g2 := F0 m 237 ls []) rfl ?_
    refine gh_retv hAe C V hr hlocks d_Mo_either_237 (by first | decide | omega | (dsimp only; omega)) (by first | decide | omega | (dsimp only; omega)) ?_
    exact ⟨rfl, _, _, X, (mct.rf.cell 35 2 (by decide) (by decide)).enter (by omega), oc_e1 (by omega) rfl⟩
theorem d_Mo_attempt_0 : decode b_Mo_attempt 0 = .ok (.aload_n 0, 1) := by decide +kernel
theorem d_Mo_attempt_1 : decode b_Mo_attempt 1 = .ok (.getfield 277, 3) := by decide +kernel
theorem d_Mo_attempt_4 : decode b_Mo_attempt 4 = .ok (.ifCond .ne 46, 3) := by decide +kernel
theorem d_Mo_attempt_7 : decode b_Mo_attempt 7 = .ok (.aload_n 0, 1) := by decide +kernel
theorem d_Mo_attempt_8 : decode b_Mo_attempt 8 = .ok (.getfield 88, 3) := by decide +kernel
theorem d_Mo_attempt_11 : decode b_Mo_attempt 11 = .ok (.iload_n 1, 1) := by decide +kernel
theorem d_Mo_attempt_12 : decode b_Mo_attempt 12 = .ok (.iaload, 1) := by decide +kernel
theorem d_Mo_attempt_13 : decode b_Mo_attempt 13 = .ok (.ifCond .ne 37, 3) := by decide +kernel
theorem d_Mo_attempt_16 : decode b_Mo_attempt 16 = .ok (.aload_n 0, 1) := by decide +kernel
theorem d_Mo_attempt_17 : decode b_Mo_attempt 17 = .ok (.getfield 88, 3) := by decide +kernel
theorem d_Mo_attempt_20 : decode b_Mo_attempt 20 = .ok (.iload_n 1, 1) := by decide +kernel
theorem d_Mo_attempt_21 : decode b_Mo_attempt 21 = .ok (.iconst 1, 1) := by decide +kernel
theorem d_Mo_attempt_22 : decode b_Mo_attempt 22 = .ok (.iastore, 1) := by decide +kernel
theorem d_Mo_attempt_23 : decode b_Mo_attempt 23 = .ok (.aload_n 0, 1) := by decide +kernel
theorem d_Mo_attempt_24 : decode b_Mo_attempt 24 = .ok (.aload_n 0, 1) := by decide +kernel
theorem d_Mo_attempt_25 : decode b_Mo_attempt 25 = .ok (.getfield 85, 3) := by decide +kernel
theorem d_Mo_attempt_28 : decode b_Mo_attempt 28 = .ok (.iconst 3, 1) := by decide +kernel
theorem d_Mo_attempt_29 : decode b_Mo_attempt 29 = .ok (.iload_n 1, 1) := by decide +kernel
theorem d_Mo_attempt_30 : decode b_Mo_attempt 30 = .ok (.imul, 1) := by decide +kernel
theorem d_Mo_attempt_31 : decode b_Mo_attempt 31 = .ok (.iaload, 1) := by decide +kernel
theorem d_Mo_attempt_32 : decode b_Mo_attempt 32 = .ok (.aload_n 0, 1) := by decide +kernel
theorem d_Mo_attempt_33 : decode b_Mo_attempt 33 = .ok (.getfield 91, 3) := by decide +kernel
theorem d_Mo_attempt_36 : decode b_Mo_attempt 36 = .ok (.iload_n 1, 1) := by decide +kernel
theorem d_Mo_attempt_37 : decode b_Mo_attempt 37 = .ok (.iaload, 1) := by decide +kernel
theorem d_Mo_attempt_38 : decode b_Mo_attempt 38 = .ok (.aload_n 0, 1) := by decide +kernel
theorem d_Mo_attempt_39 : decode b_Mo_attempt 39 = .ok (.getfield 94, 3) := by decide +kernel
theorem d_Mo_attempt_42 : decode b_Mo_attempt 42 = .ok (.iload_n 1, 1) := by decide +kernel
theorem d_Mo_attempt_43 : decode b_Mo_attempt 43 = .ok (.iaload, 1) := by decide +kernel
theorem d_Mo_attempt_44 : decode b_Mo_attempt 44 = .ok (.invokevirtual 299, 3) := by decide +kernel
theorem d_Mo_attempt_47 : decode b_Mo_attempt 47 = .ok (.goto 42, 3) := by decide +kernel
theorem d_Mo_attempt_50 : decode b_Mo_attempt 50 = .ok (.aload_n 0, 1) := by decide +kernel
theorem d_Mo_attempt_51 : decode b_Mo_attempt 51 = .ok (.getfield 277, 3) := by decide +kernel
theorem d_Mo_attempt_54 : decode b_Mo_attempt 54 = .ok (.ifCond .ne 18, 3) := by decide +kernel
theorem d_Mo_attempt_57 : decode b_Mo_attempt 57 = .ok (.aload_n 0, 1) := by decide +kernel
theorem d_Mo_attempt_58 : decode b_Mo_attempt 58 = .ok (.aload_n 0, 1) := by decide +kernel
theorem d_Mo_attempt_59 : decode b_Mo_attempt 59 = .ok (.getfield 85, 3) := by decide +kernel
theorem d_Mo_attempt_62 : decode b_Mo_attempt 62 = .ok (.iconst 3, 1) := by decide +kernel
theorem d_Mo_attempt_63 : decode b_Mo_attempt 63 = .ok (.iload_n 1, 1) := by decide +kernel
theorem d_Mo_attempt_64 : decode b_Mo_attempt 64 = .ok (.imul, 1) := by decide +kernel
theorem d_Mo_attempt_65 : decode b_Mo_attempt 65 = .ok (.iaload, 1) := by decide +kernel
theorem d_Mo_attempt_66 : decode b_Mo_attempt 66 = .ok (.invokevirtual 283, 3) := by decide +kernel
theorem d_Mo_attempt_69 : decode b_Mo_attempt 69 = .ok (.goto 20, 3) := by decide +kernel
theorem d_Mo_attempt_72 : decode b_Mo_attempt 72 = .ok (.aload_n 0, 1) := by decide +kernel
theorem d_Mo_attempt_73 : decode b_Mo_attempt 73 = .ok (.aload_n 0, 1) := by decide +kernel
theorem d_Mo_attempt_74 : decode b_Mo_attempt 74 = .ok (.getfield 277, 3) := by decide +kernel
theorem d_Mo_attempt_77 : decode b_Mo_attempt 77 = .ok (.iconst 1, 1) := by decide +kernel
theorem d_Mo_attempt_78 : decode b_Mo_attempt 78 = .ok (.if_icmp .ne 7, 3) := by decide +kernel
theorem d_Mo_attempt_81 : decode b_Mo_attempt 81 = .ok (.iconst 1, 1) := by decide +kernel
theorem d_Mo_attempt_82 : decode b_Mo_attempt 82 = .ok (.goto 4, 3) := by decide +kernel
theorem d_Mo_attempt_85 : decode b_Mo_attempt 85 = .ok (.iconst 2, 1) := by decide +kernel
theorem d_Mo_attempt_86 : decode b_Mo_attempt 86 = .ok (.invokevirtual 289, 3) := by decide +kernel
theorem d_Mo_attempt_89 : decode b_Mo_attempt 89 = .ok (.return_, 1) := by decide +kernel
set_option maxHeartbeats 4000000 in
set_option maxRecDepth 100000 in
theorem c_Mo_attempt_00 (l : Launch) (E : gh_E) (sz : Nat) (f : gh_F) (a : Nat) (ad : Nat → Nat) (S : Nat → Int32) (I : Nat → Nat → Int32) (J : Nat → Nat → Int64) (w cp φ : Nat) (p0 : Nat) (hX : mo_R E f a ad S I J) (h45 : S 45 = nI (w + 1)) (hw : w < 14) (hc60 : cp < 60) (h48 : S 48 = nI φ) (hφ : φ < 1000) (h49 : ¬ 0 ≤ S 49) (hp0c : I 34 (3 * cp) = nI p0) (hq0 : cp < p0 ∧ p0 < 60) (hS46 : S 46 = 0) (hph : I 35 cp = 0) : gh_M l y_Mo_attempt b_Mo_attempt 2 none E sz [.ref a, .int (nI cp)] f { frames := 7, cells := 0, slots := 0, locals := 200 } (fun r g => r = none ∧ ∃ S2 I2, mo_X E f g a ad S2 I2 J ∧ mct cp w (fun j => j = p0) (va_up (fun k => I k cp) 35 1) S I S2 I2 ∧ oc_e w p0 (I 36 cp) (I 37 cp) φ S S2 I2) := by
  refine gh_open (by decide) (Nat.le_of_ble_eq_true rfl) ?_
  intro p e s m args below meth c A ls hAe C V hr hlocks hname hl
  have hx := C.1
  have hb := C.2.1
  have hl : lv_has ls 2 [(0, .ref a), (1, .int (nI cp))] := hl
  have X : mo_X E f f a ad S I J := ⟨hX, gh_fr.rf⟩
  refine lv_aload_n hx hb d_Mo_attempt_0 rfl (lv_at hl 0 rfl) ?_
  refine mo_getS (v := 0) C V X 46 (by decide) (by decide) (by first | rfl | exact hS46) f_Mo_277 rfl d_Mo_attempt_1 ?_
  refine lv_if_ne (tgt := 50) hx hb d_Mo_attempt_4 (by decide) (fun c1 => absurd (by decide) c1) (fun c1 => ?_)
  refine lv_aload_n hx hb d_Mo_attempt_7 rfl (lv_at hl 0 rfl) ?_
  refine mo_getA C V X 35 (by decide) (by decide) f_Mo_88 rfl d_Mo_attempt_8 ?_
  refine lv_iload_n hx hb d_Mo_attempt_11 rfl (lv_at hl 1 rfl) ?_
  refine mo_ild (k := 35) (i := cp) (n := 60) C V X (by decide) (by decide) rfl (by omega) (by decide) d_Mo_attempt_12 ?_
  rw [show I 35 cp = 0 from hph]
  refine lv_if_ne (tgt := 50) hx hb d_Mo_attempt_13 (by decide) (fun c2 => absurd (by decide) c2) (fun c2 => ?_)
  refine lv_aload_n hx hb d_Mo_attempt_16 rfl (lv_at hl 0 rfl) ?_
  refine mo_getA C V X 35 (by decide) (by decide) f_Mo_88 rfl d_Mo_attempt_17 ?_
  refine lv_iload_n hx hb d_Mo_attempt_20 rfl (lv_at hl 1 rfl) ?_
  refine lv_iconst (v := 1) hx hb d_Mo_attempt_21 (by decide) ?_
  refine mo_ist (k := 35) (i := cp) (n := 60) C V X (by decide) (by decide) rfl (by omega) (by decide) d_Mo_attempt_22 (fun f1 H locs V1 X1 => ?_)
  clear V X
  have V := V1
  have X := X1
  clear V1 X1
  refine lv_aload_n hx hb d_Mo_attempt_23 rfl (lv_at hl 0 rfl) ?_
  refine lv_aload_n hx hb d_Mo_attempt_24 rfl (lv_at hl 0 rfl) ?_
  refine mo_getA C V X 34 (by decide) (by decide) f_Mo_85 rfl d_Mo_attempt_25 ?_
  refine lv_iconst (v := 3) hx hb d_Mo_attempt_28 (by decide) ?_
  refine lv_iload_n hx hb d_Mo_attempt_29 rfl (lv_at hl 1 rfl) ?_
  refine gn_imul (a := 3) (b := cp) hx hb d_Mo_attempt_30 ?_
  refine mo_ild (k := 34) (i := 3 * cp) (n := 180) C V X (by decide) (by decide) rfl (by omega) (by decide) d_Mo_attempt_31 ?_
  rw [show (va_up I 35 (upd (I 35) cp 1)) 34 (3 * cp) = nI p0 from ((congrFun (va_up_n (by decide)) (3 * cp)).trans (hp0c))]
  refine lv_aload_n hx hb d_Mo_attempt_32 rfl (lv_at hl 0 rfl) ?_
  refine mo_getA C V X 36 (by decide) (by decide) f_Mo_91 rfl d_Mo_attempt_33 ?_
  refine lv_iload_n hx hb d_Mo_attempt_36 rfl (lv_at hl 1 rfl) ?_
  refine mo_ild (k := 36) (i := cp) (n := 60) C V X (by decide) (by decide) rfl (by omega) (by decide) d_Mo_attempt_37 ?_
  rw [show (va_up I 35 (upd (I 35) cp 1)) 36 cp = I 36 cp from ((congrFun (va_up_n (by decide)) cp).trans (rfl))]
  refine lv_aload_n hx hb d_Mo_attempt_38 rfl (lv_at hl 0 rfl) ?_
  refine mo_getA C V X 37 (by decide) (by decide) f_Mo_94 rfl d_Mo_attempt_39 ?_
  refine lv_iload_n hx hb d_Mo_attempt_42 rfl (lv_at hl 1 rfl) ?_
  refine mo_ild (k := 37) (i := cp) (n := 60) C V X (by decide) (by decide) rfl (by omega) (by decide) d_Mo_attempt_43 ?_
  rw [show (va_up I 35 (upd (I 35) cp 1)) 37 cp = I 37 cp from ((congrFun (va_up_n (by decide)) cp).trans (rfl))]
  refine gh_callV C V hl.1 m_Mo_enter l_Mo_299 (c_Mo_enter l E _ _ a ad _ _ _ p0 (I 36 cp) (I 37 cp) φ (w + 1) X.1 (by omega) h48 hφ h49 h45 (by omega)) rfl X.1.1 gc_Mo ⟨by first | decide | omega | (dsimp only; omega), by first | decide | omega | (dsimp only; omega)⟩ ⟨by first | decide | omega | (dsimp only; omega), by first | decide | omega | (dsimp only; omega)⟩ (Nat.le_of_ble_eq_true rfl) rfl d_Mo_attempt_44 (fun r z9 H locs hp V1 => ?_)
  obtain ⟨rfl, hp0, hp1⟩ := hp
  have V := V1
  by_cases hz : φ = 0
  · have X := X.then (hp0 hz)
    refine W.eq (g2 := F0 m 47 ls []) rfl ?_
    refine lv_goto (tgt := 89) hx hb d_Mo_attempt_47 (by decide) ?_
    refine gh_retv hAe C V hr hlocks d_Mo_attempt_89 (by first | decide | omega | (dsimp only; omega)) (by first | decide | omega | (dsimp only; omega)) ?_
    exact ⟨rfl, _, _, X, ((mct.rf.cell 35 1 (by decide) (by decide)).s (k := 49) (by omega)).mono (fun _ z => z.elim), oc_e0 hz rfl⟩
  · have X := X.then (hp1 (by omega))
    refine W.eq (g2 := F0 m 47 ls []) rfl ?_
    refine lv_goto (tgt := 89) hx hb d_Mo_attempt_47 (by decide) ?_
    refine gh_retv hAe C V hr hlocks d_Mo_attempt_89 (by first | decide | omega | (dsimp only; omega)) (by first | decide | omega | (dsimp only; omega)) ?_
    exact ⟨rfl, _, _, X, (mct.rf.cell 35 1 (by decide) (by decide)).enter (by omega), oc_e1 (by omega) rfl⟩
set_option maxHeartbeats 4000000 in
set_option maxRecDepth 100000 in
theorem c_Mo_attempt_01 (l : Launch) (E : gh_E) (sz : Nat) (f : gh_F) (a : Nat) (ad : Nat → Nat) (S : Nat → Int32) (I : Nat → Nat → Int32) (J : Nat → Nat → Int64) (w cp φ : Nat) (p0 : Nat) (hX : mo_R E f a ad S I J) (h45 : S 45 = nI (w + 1)) (hw : w < 14) (hc60 : cp < 60) (hp0c : I 34 (3 * cp) = nI p0) (hq0 : cp < p0 ∧ p0 < 60) (hS46 : S 46 = 0) (hph : I 35 cp = 1) : gh_M l y_Mo_attempt b_Mo_attempt 2 none E sz [.ref a, .int (nI cp)] f { frames := 7, cells := 0, slots := 0, locals := 200 } (fun r g => r = none ∧ ∃ S2 I2, mo_X E f g a ad S2 I2 J ∧ mct cp w (fun _ => False) (fun k => I k cp) S I S2 I2 ∧ oc_a w p0 S S2 I2) := by
  refine gh_open (by decide) (Nat.le_of_ble_eq_true rfl) ?_
  intro p e s m args below meth c A ls hAe C V hr hlocks hname hl
  have hx := C.1
  have hb := C.2.1
  have hl : lv_has ls 2 [(0, .ref a), (1, .int (nI cp))] := hl
  have X : mo_X E f f a ad S I J := ⟨hX, gh_fr.rf⟩
  refine lv_aload_n hx hb d_Mo_attempt_0 rfl (lv_at hl 0 rfl) ?_
  refine mo_getS (v := 0) C V X 46 (by decide) (by decide) (by first | rfl | exact hS46) f_Mo_277 rfl d_Mo_attempt_1 ?_
  refine lv_if_ne (tgt := 50) hx hb d_Mo_attempt_4 (by decide) (fun c1 => absurd (by decide) c1) (fun c1 => ?_)
  refine lv_aload_n hx hb d_Mo_attempt_7 rfl (lv_at hl 0 rfl) ?_
  refine mo_getA C V X 35 (by decide) (by decide) f_Mo_88 rfl d_Mo_attempt_8 ?_
  refine lv_iload_n hx hb d_Mo_attempt_11 rfl (lv_at hl 1 rfl) ?_
  refine mo_ild (k := 35) (i := cp) (n := 60) C V X (by decide) (by decide) rfl (by omega) (by decide) d_Mo_attempt_12 ?_
  rw [show I 35 cp = 1 from hph]
  refine lv_if_ne (tgt := 50) hx hb d_Mo_attempt_13 (by decide) (fun c2 => ?_) (fun c2 => absurd c2 (by decide))
  refine lv_aload_n hx hb d_Mo_attempt_50 rfl (lv_at hl 0 rfl) ?_
  refine mo_getS (v := 0) C V X 46 (by decide) (by decide) (by first | rfl | exact hS46) f_Mo_277 rfl d_Mo_attempt_51 ?_
  refine lv_if_ne (tgt := 72) hx hb d_Mo_attempt_54 (by decide) (fun c3 => absurd (by decide) c3) (fun c3 => ?_)
  refine lv_aload_n hx hb d_Mo_attempt_57 rfl (lv_at hl 0 rfl) ?_
  refine lv_aload_n hx hb d_Mo_attempt_58 rfl (lv_at hl 0 rfl) ?_
  refine mo_getA C V X 34 (by decide) (by decide) f_Mo_85 rfl d_Mo_attempt_59 ?_
  refine lv_iconst (v := 3) hx hb d_Mo_attempt_62 (by decide) ?_
  refine lv_iload_n hx hb d_Mo_attempt_63 rfl (lv_at hl 1 rfl) ?_
  refine gn_imul (a := 3) (b := cp) hx hb d_Mo_attempt_64 ?_
  refine mo_ild (k := 34) (i := 3 * cp) (n := 180) C V X (by decide) (by decide) rfl (by omega) (by decide) d_Mo_attempt_65 ?_
  rw [show I 34 (3 * cp) = nI p0 from hp0c]
  refine gh_callV C V hl.1 m_Mo_ask l_Mo_283 (c_Mo_ask l E _ _ a ad _ _ _ (nI p0) (w + 1) X.1 h45 (by omega)) rfl X.1.1 gc_Mo ⟨by first | decide | omega | (dsimp only; omega), by first | decide | omega | (dsimp only; omega)⟩ ⟨by first | decide | omega | (dsimp only; omega), by first | decide | omega | (dsimp only; omega)⟩ (Nat.le_of_ble_eq_true rfl) rfl d_Mo_attempt_66 (fun r z9 H locs hp V1 => ?_)
  obtain ⟨rfl, X2⟩ := hp
  have X := X.then X2
  have V := V1
  refine W.eq (g2 := F0 m 69 ls []) rfl ?_
  refine lv_goto (tgt := 89) hx hb d_Mo_attempt_69 (by decide) ?_
  refine gh_retv hAe C V hr hlocks d_Mo_attempt_89 (by first | decide | omega | (dsimp only; omega)) (by first | decide | omega | (dsimp only; omega)) ?_
  exact ⟨rfl, _, _, X, mct.rf.ask, oc_a1 rfl rfl⟩
set_option maxHeartbeats 4000000 in
set_option maxRecDepth 100000 in
theorem c_Mo_attempt_1 (l : Launch) (E : gh_E) (sz : Nat) (f : gh_F) (a : Nat) (ad : Nat → Nat) (S : Nat → Int32) (I : Nat → Nat → Int32) (J : Nat → Nat → Int64) (w cp φ : Nat) (p0 : Nat) (hX : mo_R E f a ad S I J) (h45 : S 45 = nI (w + 1)) (hw : w < 14) (hc60 : cp < 60) (hp0c : I 34 (3 * cp) = nI p0) (hq0 : cp < p0 ∧ p0 < 60) (hS46 : S 46 = 1) : gh_M l y_Mo_attempt b_Mo_attempt 2 none E sz [.ref a, .int (nI cp)] f { frames := 7, cells := 0, slots := 0, locals := 200 } (fun r g => r = none ∧ ∃ S2 I2, mo_X E f g a ad S2 I2 J ∧ mct cp w (fun _ => False) (fun k => I k cp) S I S2 I2 ∧ oc_t w 1 (S 47) S S2) := by
  refine gh_open (by decide) (Nat.le_of_ble_eq_true rfl) ?_
  intro p e s m args below meth c A ls hAe C V hr hlocks hname hl
  have hx := C.1
  have hb := C.2.1
  have hl : lv_has ls 2 [(0, .ref a), (1, .int (nI cp))] := hl
  have X : mo_X E f f a ad S I J := ⟨hX, gh_fr.rf⟩
  refine lv_aload_n hx hb d_Mo_attempt_0 rfl (lv_at hl 0 rfl) ?_
  refine mo_getS (v := 1) C V X 46 (by decide) (by decide) (by first | rfl | exact hS46) f_Mo_277 rfl d_Mo_attempt_1 ?_
  refine lv_if_ne (tgt := 50) hx hb d_Mo_attempt_4 (by decide) (fun c1 => ?_) (fun c1 => absurd c1 (by decide))
  refine lv_aload_n hx hb d_Mo_attempt_50 rfl (lv_at hl 0 rfl) ?_
  refine mo_getS (v := 1) C V X 46 (by decide) (by decide) (by first | rfl | exact hS46) f_Mo_277 rfl d_Mo_attempt_51 ?_
  refine lv_if_ne (tgt := 72) hx hb d_Mo_attempt_54 (by decide) (fun c2 => ?_) (fun c2 => absurd c2 (by decide))
  refine lv_aload_n hx hb d_Mo_attempt_72 rfl (lv_at hl 0 rfl) ?_
  refine lv_aload_n hx hb d_Mo_attempt_73 rfl (lv_at hl 0 rfl) ?_
  refine mo_getS (v := 1) C V X 46 (by decide) (by decide) (by first | rfl | exact hS46) f_Mo_277 rfl d_Mo_attempt_74 ?_
  refine lv_iconst (v := 1) hx hb d_Mo_attempt_77 (by decide) ?_
  refine lv_icmp_ne (tgt := 85) hx hb d_Mo_attempt_78 (by decide) (fun c3 => absurd (by decide) c3) (fun c3 => ?_)
  refine lv_iconst (v := 1) hx hb d_Mo_attempt_81 (by decide) ?_
  refine lv_goto (tgt := 86) hx hb d_Mo_attempt_82 (by decide) ?_
  refine gh_callV C V hl.1 m_Mo_tell l_Mo_289 (c_Mo_tell l E _ _ a ad _ _ _ 1 w X.1 h45) rfl X.1.1 gc_Mo ⟨by first | decide | omega | (dsimp only; omega), by first | decide | omega | (dsimp only; omega)⟩ ⟨by first | decide | omega | (dsimp only; omega), by first | decide | omega | (dsimp only; omega)⟩ (Nat.le_of_ble_eq_true rfl) rfl d_Mo_attempt_86 (fun r z9 H locs hp V1 => ?_)
  obtain ⟨rfl, X2⟩ := hp
  have X := X.then X2
  have V := V1
  refine W.eq (g2 := F0 m 89 ls []) rfl ?_
  refine gh_retv hAe C V hr hlocks d_Mo_attempt_89 (by first | decide | omega | (dsimp only; omega)) (by first | decide | omega | (dsimp only; omega)) ?_
  exact ⟨rfl, _, _, X, mct.rf.tell, oc_t1 rfl rfl rfl⟩
set_option maxHeartbeats 4000000 in
set_option maxRecDepth 100000 in
theorem c_Mo_attempt_2 (l : Launch) (E : gh_E) (sz : Nat) (f : gh_F) (a : Nat) (ad : Nat → Nat) (S : Nat → Int32) (I : Nat → Nat → Int32) (J : Nat → Nat → Int64) (w cp φ : Nat) (p0 : Nat) (hX : mo_R E f a ad S I J) (h45 : S 45 = nI (w + 1)) (hw : w < 14) (hc60 : cp < 60) (hp0c : I 34 (3 * cp) = nI p0) (hq0 : cp < p0 ∧ p0 < 60) (hS46 : S 46 = 2) : gh_M l y_Mo_attempt b_Mo_attempt 2 none E sz [.ref a, .int (nI cp)] f { frames := 7, cells := 0, slots := 0, locals := 200 } (fun r g => r = none ∧ ∃ S2 I2, mo_X E f g a ad S2 I2 J ∧ mct cp w (fun _ => False) (fun k => I k cp) S I S2 I2 ∧ oc_t w 2 (S 47) S S2) := by
  refine gh_open (by decide) (Nat.le_of_ble_eq_true rfl) ?_
  intro p e s m args below meth c A ls hAe C V hr hlocks hname hl
  have hx := C.1
  have hb := C.2.1
  have hl : lv_has ls 2 [(0, .ref a), (1, .int (nI cp))] := hl
  have X : mo_X E f f a ad S I J := ⟨hX, gh_fr.rf⟩
  refine lv_aload_n hx hb d_Mo_attempt_0 rfl (lv_at hl 0 rfl) ?_
  refine mo_getS (v := 2) C V X 46 (by decide) (by decide) (by first | rfl | exact hS46) f_Mo_277 rfl d_Mo_attempt_1 ?_
  refine lv_if_ne (tgt := 50) hx hb d_Mo_attempt_4 (by decide) (fun c1 => ?_) (fun c1 => absurd c1 (by decide))
  refine lv_aload_n hx hb d_Mo_attempt_50 rfl (lv_at hl 0 rfl) ?_
  refine mo_getS (v := 2) C V X 46 (by decide) (by decide) (by first | rfl | exact hS46) f_Mo_277 rfl d_Mo_attempt_51 ?_
  refine lv_if_ne (tgt := 72) hx hb d_Mo_attempt_54 (by decide) (fun c2 => ?_) (fun c2 => absurd c2 (by decide))
  refine lv_aload_n hx hb d_Mo_attempt_72 rfl (lv_at hl 0 rfl) ?_
  refine lv_aload_n hx hb d_Mo_attempt_73 rfl (lv_at hl 0 rfl) ?_
  refine mo_getS (v := 2) C V X 46 (by decide) (by decide) (by first | rfl | exact hS46) f_Mo_277 rfl d_Mo_attempt_74 ?_
  refine lv_iconst (v := 1) hx hb d_Mo_attempt_77 (by decide) ?_
  refine lv_icmp_ne (tgt := 85) hx hb d_Mo_attempt_78 (by decide) (fun c3 => ?_) (fun c3 => absurd c3 (by decide))
  refine lv_iconst (v := 2) hx hb d_Mo_attempt_85 (by decide) ?_
  refine gh_callV C V hl.1 m_Mo_tell l_Mo_289 (c_Mo_tell l E _ _ a ad _ _ _ 2 w X.1 h45) rfl X.1.1 gc_Mo ⟨by first | decide | omega | (dsimp only; omega), by first | decide | omega | (dsimp only; omega)⟩ ⟨by first | decide | omega | (dsimp only; omega), by first | decide | omega | (dsimp only; omega)⟩ (Nat.le_of_ble_eq_true rfl) rfl d_Mo_attempt_86 (fun r z9 H locs hp V1 => ?_)
  obtain ⟨rfl, X2⟩ := hp
  have X := X.then X2
  have V := V1
  refine W.eq (g2 := F0 m 89 ls []) rfl ?_
  refine gh_retv hAe C V hr hlocks d_Mo_attempt_89 (by first | decide | omega | (dsimp only; omega)) (by first | decide | omega | (dsimp only; omega)) ?_
  exact ⟨rfl, _, _, X, mct.rf.tell, oc_t1 rfl rfl rfl⟩
set_option maxHeartbeats 4000000 in
set_option maxRecDepth 100000 in
theorem c_Mo_attempt_3 (l : Launch) (E : gh_E) (sz : Nat) (f : gh_F) (a : Nat) (ad : Nat → Nat) (S : Nat → Int32) (I : Nat → Nat → Int32) (J : Nat → Nat → Int64) (w cp φ : Nat) (p0 : Nat) (hX : mo_R E f a ad S I J) (h45 : S 45 = nI (w + 1)) (hw : w < 14) (hc60 : cp < 60) (hp0c : I 34 (3 * cp) = nI p0) (hq0 : cp < p0 ∧ p0 < 60) (hS46 : S 46 = 3) : gh_M l y_Mo_attempt b_Mo_attempt 2 none E sz [.ref a, .int (nI cp)] f { frames := 7, cells := 0, slots := 0, locals := 200 } (fun r g => r = none ∧ ∃ S2 I2, mo_X E f g a ad S2 I2 J ∧ mct cp w (fun _ => False) (fun k => I k cp) S I S2 I2 ∧ oc_t w 2 (S 47) S S2) := by
  refine gh_open (by decide) (Nat.le_of_ble_eq_true rfl) ?_
  intro p e s m args below meth c A ls hAe C V hr hlocks hname hl
  have hx := C.1
  have hb := C.2.1
  have hl : lv_has ls 2 [(0, .ref a), (1, .int (nI cp))] := hl
  have X : mo_X E f f a ad S I J := ⟨hX, gh_fr.rf⟩
  refine lv_aload_n hx hb d_Mo_attempt_0 rfl (lv_at hl 0 rfl) ?_
  refine mo_getS (v := 3) C V X 46 (by decide) (by decide) (by first | rfl | exact hS46) f_Mo_277 rfl d_Mo_attempt_1 ?_
  refine lv_if_ne (tgt := 50) hx hb d_Mo_attempt_4 (by decide) (fun c1 => ?_) (fun c1 => absurd c1 (by decide))
  refine lv_aload_n hx hb d_Mo_attempt_50 rfl (lv_at hl 0 rfl) ?_
  refine mo_getS (v := 3) C V X 46 (by decide) (by decide) (by first | rfl | exact hS46) f_Mo_277 rfl d_Mo_attempt_51 ?_
  refine lv_if_ne (tgt := 72) hx hb d_Mo_attempt_54 (by decide) (fun c2 => ?_) (fun c2 => absurd c2 (by decide))
  refine lv_aload_n hx hb d_Mo_attempt_72 rfl (lv_at hl 0 rfl) ?_
  refine lv_aload_n hx hb d_Mo_attempt_73 rfl (lv_at hl 0 rfl) ?_
  refine mo_getS (v := 3) C V X 46 (by decide) (by decide) (by first | rfl | exact hS46) f_Mo_277 rfl d_Mo_attempt_74 ?_
  refine lv_iconst (v := 1) hx hb d_Mo_attempt_77 (by decide) ?_
  refine lv_icmp_ne (tgt := 85) hx hb d_Mo_attempt_78 (by decide) (fun c3 => ?_) (fun c3 => absurd c3 (by decide))
  refine lv_iconst (v := 2) hx hb d_Mo_attempt_85 (by decide) ?_
  refine gh_callV C V hl.1 m_Mo_tell l_Mo_289 (c_Mo_tell l E _ _ a ad _ _ _ 2 w X.1 h45) rfl X.1.1 gc_Mo ⟨by first | decide | omega | (dsimp only; omega), by first | decide | omega | (dsimp only; omega)⟩ ⟨by first | decide | omega | (dsimp only; omega), by first | decide | omega | (dsimp only; omega)⟩ (Nat.le_of_ble_eq_true rfl) rfl d_Mo_attempt_86 (fun r z9 H locs hp V1 => ?_)
  obtain ⟨rfl, X2⟩ := hp
  have X := X.then X2
  have V := V1
  refine W.eq (g2 := F0 m 89 ls []) rfl ?_
  refine gh_retv hAe C V hr hlocks d_Mo_attempt_89 (by first | decide | omega | (dsimp only; omega)) (by first | decide | omega | (dsimp only; omega)) ?_
  exact ⟨rfl, _, _, X, mct.rf.tell, oc_t1 rfl rfl rfl⟩
