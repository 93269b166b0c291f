/-! plain of the model, each way. Printed by wip/whole/gen_mo19.py. -/
theorem sr_num64 : ∀ b : Fin 256, (sr_num b.1).toInt64 = (nI b.1).toInt64 - 128 := by decide +kernel
theorem kl_Mo_340 : Cond.constantLong R_Mo 340 128 ∈ g_tbl := g_in 1316 (by decide +kernel) (by decide +kernel)
theorem lt_one {n : Nat} (h : 97 ≤ n ∧ n ≤ 122) : lt_ok [nI n] := by
  refine ⟨by show 1 ≤ 24; decide, fun j hj => ⟨n, by omega, by omega, ?_⟩⟩
  have h0 : j = 0 := by
    have : j < 1 := hj
    omega
  subst h0; rfl
theorem d_Mo_plain_0 : decode b_Mo_plain 0 = .ok (.aload_n 0, 1) := by decide +kernel
theorem d_Mo_plain_1 : decode b_Mo_plain 1 = .ok (.getfield 88, 3) := by decide +kernel
theorem d_Mo_plain_4 : decode b_Mo_plain 4 = .ok (.iload_n 1, 1) := by decide +kernel
theorem d_Mo_plain_5 : decode b_Mo_plain 5 = .ok (.iaload, 1) := by decide +kernel
theorem d_Mo_plain_6 : decode b_Mo_plain 6 = .ok (.iconst 1, 1) := by decide +kernel
theorem d_Mo_plain_7 : decode b_Mo_plain 7 = .ok (.if_icmp .ne 7, 3) := by decide +kernel
theorem d_Mo_plain_10 : decode b_Mo_plain 10 = .ok (.iconst 1, 1) := by decide +kernel
theorem d_Mo_plain_11 : decode b_Mo_plain 11 = .ok (.goto 4, 3) := by decide +kernel
theorem d_Mo_plain_14 : decode b_Mo_plain 14 = .ok (.iconst 0, 1) := by decide +kernel
theorem d_Mo_plain_15 : decode b_Mo_plain 15 = .ok (.istore_n 3, 1) := by decide +kernel
theorem d_Mo_plain_16 : decode b_Mo_plain 16 = .ok (.aload_n 0, 1) := by decide +kernel
theorem d_Mo_plain_17 : decode b_Mo_plain 17 = .ok (.getfield 88, 3) := by decide +kernel
theorem d_Mo_plain_20 : decode b_Mo_plain 20 = .ok (.iload_n 1, 1) := by decide +kernel
theorem d_Mo_plain_21 : decode b_Mo_plain 21 = .ok (.iconst 1, 1) := by decide +kernel
theorem d_Mo_plain_22 : decode b_Mo_plain 22 = .ok (.iastore, 1) := by decide +kernel
theorem d_Mo_plain_23 : decode b_Mo_plain 23 = .ok (.aload_n 0, 1) := by decide +kernel
theorem d_Mo_plain_24 : decode b_Mo_plain 24 = .ok (.getfield 91, 3) := by decide +kernel
theorem d_Mo_plain_27 : decode b_Mo_plain 27 = .ok (.iload_n 1, 1) := by decide +kernel
theorem d_Mo_plain_28 : decode b_Mo_plain 28 = .ok (.iaload, 1) := by decide +kernel
theorem d_Mo_plain_29 : decode b_Mo_plain 29 = .ok (.istore 4, 2) := by decide +kernel
theorem d_Mo_plain_31 : decode b_Mo_plain 31 = .ok (.iload_n 1, 1) := by decide +kernel
theorem d_Mo_plain_32 : decode b_Mo_plain 32 = .ok (.bipush 59, 2) := by decide +kernel
theorem d_Mo_plain_34 : decode b_Mo_plain 34 = .ok (.if_icmp .ge 14, 3) := by decide +kernel
theorem d_Mo_plain_37 : decode b_Mo_plain 37 = .ok (.aload_n 0, 1) := by decide +kernel
theorem d_Mo_plain_38 : decode b_Mo_plain 38 = .ok (.getfield 82, 3) := by decide +kernel
theorem d_Mo_plain_41 : decode b_Mo_plain 41 = .ok (.iload_n 1, 1) := by decide +kernel
theorem d_Mo_plain_42 : decode b_Mo_plain 42 = .ok (.iconst 1, 1) := by decide +kernel
theorem d_Mo_plain_43 : decode b_Mo_plain 43 = .ok (.iadd, 1) := by decide +kernel
theorem d_Mo_plain_44 : decode b_Mo_plain 44 = .ok (.iaload, 1) := by decide +kernel
theorem d_Mo_plain_45 : decode b_Mo_plain 45 = .ok (.goto 4, 3) := by decide +kernel
theorem d_Mo_plain_48 : decode b_Mo_plain 48 = .ok (.iconst 0, 1) := by decide +kernel
theorem d_Mo_plain_49 : decode b_Mo_plain 49 = .ok (.istore 5, 2) := by decide +kernel
theorem d_Mo_plain_51 : decode b_Mo_plain 51 = .ok (.iload_n 3, 1) := by decide +kernel
theorem d_Mo_plain_52 : decode b_Mo_plain 52 = .ok (.ifCond .ne 9, 3) := by decide +kernel
theorem d_Mo_plain_55 : decode b_Mo_plain 55 = .ok (.iload_n 2, 1) := by decide +kernel
theorem d_Mo_plain_56 : decode b_Mo_plain 56 = .ok (.bipush 17, 2) := by decide +kernel
theorem d_Mo_plain_58 : decode b_Mo_plain 58 = .ok (.if_icmp .ne 11, 3) := by decide +kernel
theorem d_Mo_plain_61 : decode b_Mo_plain 61 = .ok (.aload_n 0, 1) := by decide +kernel
theorem d_Mo_plain_62 : decode b_Mo_plain 62 = .ok (.iconst 2, 1) := by decide +kernel
theorem d_Mo_plain_63 : decode b_Mo_plain 63 = .ok (.invokevirtual 289, 3) := by decide +kernel
theorem d_Mo_plain_66 : decode b_Mo_plain 66 = .ok (.goto 173, 3) := by decide +kernel
theorem d_Mo_plain_69 : decode b_Mo_plain 69 = .ok (.iload_n 2, 1) := by decide +kernel
theorem d_Mo_plain_70 : decode b_Mo_plain 70 = .ok (.bipush 18, 2) := by decide +kernel
theorem d_Mo_plain_72 : decode b_Mo_plain 72 = .ok (.if_icmp .ne 11, 3) := by decide +kernel
theorem d_Mo_plain_75 : decode b_Mo_plain 75 = .ok (.aload_n 0, 1) := by decide +kernel
theorem d_Mo_plain_76 : decode b_Mo_plain 76 = .ok (.iconst 3, 1) := by decide +kernel
theorem d_Mo_plain_77 : decode b_Mo_plain 77 = .ok (.invokevirtual 289, 3) := by decide +kernel
theorem d_Mo_plain_80 : decode b_Mo_plain 80 = .ok (.goto 159, 3) := by decide +kernel
theorem d_Mo_plain_83 : decode b_Mo_plain 83 = .ok (.iload_n 2, 1) := by decide +kernel
theorem d_Mo_plain_84 : decode b_Mo_plain 84 = .ok (.iconst 1, 1) := by decide +kernel
theorem d_Mo_plain_85 : decode b_Mo_plain 85 = .ok (.if_icmp .ne 14, 3) := by decide +kernel
theorem d_Mo_plain_88 : decode b_Mo_plain 88 = .ok (.aload_n 0, 1) := by decide +kernel
theorem d_Mo_plain_89 : decode b_Mo_plain 89 = .ok (.iload 4, 2) := by decide +kernel
theorem d_Mo_plain_91 : decode b_Mo_plain 91 = .ok (.iload 5, 2) := by decide +kernel
theorem d_Mo_plain_93 : decode b_Mo_plain 93 = .ok (.invokevirtual 334, 3) := by decide +kernel
theorem d_Mo_plain_96 : decode b_Mo_plain 96 = .ok (.goto 143, 3) := by decide +kernel
theorem d_Mo_plain_99 : decode b_Mo_plain 99 = .ok (.iload_n 2, 1) := by decide +kernel
theorem d_Mo_plain_100 : decode b_Mo_plain 100 = .ok (.iconst 2, 1) := by decide +kernel
theorem d_Mo_plain_101 : decode b_Mo_plain 101 = .ok (.if_icmp .ne 18, 3) := by decide +kernel
theorem d_Mo_plain_104 : decode b_Mo_plain 104 = .ok (.aload_n 0, 1) := by decide +kernel
theorem d_Mo_plain_105 : decode b_Mo_plain 105 = .ok (.iload 4, 2) := by decide +kernel
theorem d_Mo_plain_107 : decode b_Mo_plain 107 = .ok (.iload 5, 2) := by decide +kernel
theorem d_Mo_plain_109 : decode b_Mo_plain 109 = .ok (.sipush 128, 3) := by decide +kernel
theorem d_Mo_plain_112 : decode b_Mo_plain 112 = .ok (.isub, 1) := by decide +kernel
theorem d_Mo_plain_113 : decode b_Mo_plain 113 = .ok (.invokevirtual 337, 3) := by decide +kernel
theorem d_Mo_plain_116 : decode b_Mo_plain 116 = .ok (.goto 123, 3) := by decide +kernel
theorem d_Mo_plain_119 : decode b_Mo_plain 119 = .ok (.iload_n 2, 1) := by decide +kernel
theorem d_Mo_plain_120 : decode b_Mo_plain 120 = .ok (.iconst 5, 1) := by decide +kernel
theorem d_Mo_plain_121 : decode b_Mo_plain 121 = .ok (.if_icmp .ne 22, 3) := by decide +kernel
theorem d_Mo_plain_124 : decode b_Mo_plain 124 = .ok (.aload_n 0, 1) := by decide +kernel
theorem d_Mo_plain_125 : decode b_Mo_plain 125 = .ok (.aload_n 0, 1) := by decide +kernel
theorem d_Mo_plain_126 : decode b_Mo_plain 126 = .ok (.iconst 3, 1) := by decide +kernel
theorem d_Mo_plain_127 : decode b_Mo_plain 127 = .ok (.iload 5, 2) := by decide +kernel
theorem d_Mo_plain_129 : decode b_Mo_plain 129 = .ok (.i2l, 1) := by decide +kernel
theorem d_Mo_plain_130 : decode b_Mo_plain 130 = .ok (.ldc2_w 340, 3) := by decide +kernel
theorem d_Mo_plain_133 : decode b_Mo_plain 133 = .ok (.lsub, 1) := by decide +kernel
theorem d_Mo_plain_134 : decode b_Mo_plain 134 = .ok (.invokevirtual 159, 3) := by decide +kernel
theorem d_Mo_plain_137 : decode b_Mo_plain 137 = .ok (.invokevirtual 342, 3) := by decide +kernel
theorem d_Mo_plain_140 : decode b_Mo_plain 140 = .ok (.goto 99, 3) := by decide +kernel
theorem d_Mo_plain_143 : decode b_Mo_plain 143 = .ok (.iload_n 2, 1) := by decide +kernel
theorem d_Mo_plain_144 : decode b_Mo_plain 144 = .ok (.bipush 20, 2) := by decide +kernel
theorem d_Mo_plain_146 : decode b_Mo_plain 146 = .ok (.if_icmp .ne 12, 3) := by decide +kernel
theorem d_Mo_plain_149 : decode b_Mo_plain 149 = .ok (.aload_n 0, 1) := by decide +kernel
theorem d_Mo_plain_150 : decode b_Mo_plain 150 = .ok (.iload 4, 2) := by decide +kernel
theorem d_Mo_plain_152 : decode b_Mo_plain 152 = .ok (.invokevirtual 345, 3) := by decide +kernel
theorem d_Mo_plain_155 : decode b_Mo_plain 155 = .ok (.goto 84, 3) := by decide +kernel
theorem d_Mo_plain_158 : decode b_Mo_plain 158 = .ok (.iload_n 2, 1) := by decide +kernel
theorem d_Mo_plain_159 : decode b_Mo_plain 159 = .ok (.bipush 21, 2) := by decide +kernel
theorem d_Mo_plain_161 : decode b_Mo_plain 161 = .ok (.if_icmp .ne 12, 3) := by decide +kernel
theorem d_Mo_plain_164 : decode b_Mo_plain 164 = .ok (.aload_n 0, 1) := by decide +kernel
theorem d_Mo_plain_165 : decode b_Mo_plain 165 = .ok (.iload 4, 2) := by decide +kernel
theorem d_Mo_plain_167 : decode b_Mo_plain 167 = .ok (.invokevirtual 348, 3) := by decide +kernel
theorem d_Mo_plain_170 : decode b_Mo_plain 170 = .ok (.goto 69, 3) := by decide +kernel
theorem d_Mo_plain_173 : decode b_Mo_plain 173 = .ok (.aload_n 0, 1) := by decide +kernel
theorem d_Mo_plain_174 : decode b_Mo_plain 174 = .ok (.iload_n 2, 1) := by decide +kernel
theorem d_Mo_plain_175 : decode b_Mo_plain 175 = .ok (.ifCond .ne 8, 3) := by decide +kernel
theorem d_Mo_plain_178 : decode b_Mo_plain 178 = .ok (.iload 4, 2) := by decide +kernel
theorem d_Mo_plain_180 : decode b_Mo_plain 180 = .ok (.goto 56, 3) := by decide +kernel
theorem d_Mo_plain_183 : decode b_Mo_plain 183 = .ok (.iload_n 2, 1) := by decide +kernel
theorem d_Mo_plain_184 : decode b_Mo_plain 184 = .ok (.bipush 6, 2) := by decide +kernel
theorem d_Mo_plain_186 : decode b_Mo_plain 186 = .ok (.if_icmp .ne 11, 3) := by decide +kernel
theorem d_Mo_plain_189 : decode b_Mo_plain 189 = .ok (.iload 5, 2) := by decide +kernel
theorem d_Mo_plain_191 : decode b_Mo_plain 191 = .ok (.bipush 94, 2) := by decide +kernel
theorem d_Mo_plain_193 : decode b_Mo_plain 193 = .ok (.isub, 1) := by decide +kernel
theorem d_Mo_plain_194 : decode b_Mo_plain 194 = .ok (.goto 42, 3) := by decide +kernel
theorem d_Mo_plain_197 : decode b_Mo_plain 197 = .ok (.iload_n 2, 1) := by decide +kernel
theorem d_Mo_plain_198 : decode b_Mo_plain 198 = .ok (.bipush 15, 2) := by decide +kernel
theorem d_Mo_plain_200 : decode b_Mo_plain 200 = .ok (.if_icmp .ne 12, 3) := by decide +kernel
theorem d_Mo_plain_203 : decode b_Mo_plain 203 = .ok (.aload_n 0, 1) := by decide +kernel
theorem d_Mo_plain_204 : decode b_Mo_plain 204 = .ok (.getfield 94, 3) := by decide +kernel
theorem d_Mo_plain_207 : decode b_Mo_plain 207 = .ok (.iload_n 1, 1) := by decide +kernel
theorem d_Mo_plain_208 : decode b_Mo_plain 208 = .ok (.iaload, 1) := by decide +kernel
theorem d_Mo_plain_209 : decode b_Mo_plain 209 = .ok (.goto 27, 3) := by decide +kernel
theorem d_Mo_plain_212 : decode b_Mo_plain 212 = .ok (.iload_n 2, 1) := by decide +kernel
theorem d_Mo_plain_213 : decode b_Mo_plain 213 = .ok (.bipush 19, 2) := by decide +kernel
theorem d_Mo_plain_215 : decode b_Mo_plain 215 = .ok (.if_icmp .ne 20, 3) := by decide +kernel
theorem d_Mo_plain_218 : decode b_Mo_plain 218 = .ok (.aload_n 0, 1) := by decide +kernel
theorem d_Mo_plain_219 : decode b_Mo_plain 219 = .ok (.iload 4, 2) := by decide +kernel
theorem d_Mo_plain_221 : decode b_Mo_plain 221 = .ok (.invokevirtual 351, 3) := by decide +kernel
theorem d_Mo_plain_224 : decode b_Mo_plain 224 = .ok (.ifCond .eq 7, 3) := by decide +kernel
theorem d_Mo_plain_227 : decode b_Mo_plain 227 = .ok (.iconst 1, 1) := by decide +kernel
theorem d_Mo_plain_228 : decode b_Mo_plain 228 = .ok (.goto 8, 3) := by decide +kernel
theorem d_Mo_plain_231 : decode b_Mo_plain 231 = .ok (.iconst 2, 1) := by decide +kernel
theorem d_Mo_plain_232 : decode b_Mo_plain 232 = .ok (.goto 4, 3) := by decide +kernel
theorem d_Mo_plain_235 : decode b_Mo_plain 235 = .ok (.iconst 0, 1) := by decide +kernel
theorem d_Mo_plain_236 : decode b_Mo_plain 236 = .ok (.invokevirtual 342, 3) := by decide +kernel
theorem d_Mo_plain_239 : decode b_Mo_plain 239 = .ok (.return_, 1) := by decide +kernel
set_option maxHeartbeats 4000000 in
set_option maxRecDepth 100000 in
theorem c_Mo_plain_0 (l : Launch) (E : gh_E) (sz : Nat) (f : gh_F) (a : Nat) (ad : Nat → Nat) (S : Nat → Int32) (I : Nat → Nat → Int32) (J : Nat → Nat → Int64) (w cp φ : Nat) (b0 nv pb np : Nat) (v ve n1 : Nat) (O Y : vt) (hX : mo_R E f a ad S I J) (h45 : S 45 = nI (w + 1)) (hw : w < 14) (hc60 : cp < 60) (hph : I 35 cp = 0) (h11 : S 11 = nI nv) (h12 : S 12 = nI np) (hp8 : np + 32 ≤ 8800) (hnv : nv < 760) (h29 : 29 ≤ nv) (hb0 : b0 ≤ nv) (hpb : pb ≤ np) (hc : mc I J b0 nv pb np) (hit : I 36 cp = nI v) (hO : mw I J b0 nv pb np v O) (hel : I 37 cp = nI ve) (hY : mw I J b0 nv pb np ve Y) : gh_M l y_Mo_plain b_Mo_plain 6 none E sz [.ref a, .int (nI cp), .int 0] f { frames := 9, cells := 0, slots := 0, locals := 260 } (fun r g => r = none ∧ ∃ S2 I2 J2, mo_X E f g a ad S2 I2 J2 ∧ mr_A (some O) S (va_up I 35 (upd (I 35) cp 1)) J b0 nv pb np w S2 I2 J2) := by
  refine gh_open (by decide) (Nat.le_of_ble_eq_true rfl) ?_
  intro p e s m args below meth c A ls hAe C V hr hlocks hname hl
  have hx := C.1
  have hb := C.2.1
  have hl : lv_has ls 6 [(0, .ref a), (1, .int (nI cp)), (2, .int 0)] := hl
  have X : mo_X E f f a ad S I J := ⟨hX, gh_fr.rf⟩
  refine lv_aload_n hx hb d_Mo_plain_0 rfl (lv_at hl 0 rfl) ?_
  refine mo_getA C V X 35 (by decide) (by decide) f_Mo_88 rfl d_Mo_plain_1 ?_
  refine lv_iload_n hx hb d_Mo_plain_4 rfl (lv_at hl 1 rfl) ?_
  refine mo_ild (k := 35) (i := cp) (n := 60) C V X (by decide) (by decide) rfl (by omega) (by decide) d_Mo_plain_5 ?_
  rw [show I 35 cp = 0 from hph]
  refine lv_iconst (v := 1) hx hb d_Mo_plain_6 (by decide) ?_
  refine lv_icmp_ne (tgt := 14) hx hb d_Mo_plain_7 (by decide) (fun c1 => ?_) (fun c1 => absurd c1 (by decide))
  refine lv_iconst (v := 0) hx hb d_Mo_plain_14 (by decide) ?_
  refine lv_istore_n hx hb d_Mo_plain_15 rfl hl (by decide) rfl (fun ls hl => ?_)
  have hl : lv_has ls 6 [(3, .int 0), (0, .ref a), (1, .int (nI cp)), (2, .int 0)] := hl
  refine lv_aload_n hx hb d_Mo_plain_16 rfl (lv_at hl 1 rfl) ?_
  refine mo_getA C V X 35 (by decide) (by decide) f_Mo_88 rfl d_Mo_plain_17 ?_
  refine lv_iload_n hx hb d_Mo_plain_20 rfl (lv_at hl 2 rfl) ?_
  refine lv_iconst (v := 1) hx hb d_Mo_plain_21 (by decide) ?_
  refine mo_ist (k := 35) (i := cp) (n := 60) C V X (by decide) (by decide) rfl (by omega) (by decide) d_Mo_plain_22 (fun f1 H locs V1 X1 => ?_)
  clear V X
  have V := V1
  have X := X1
  clear V1 X1
  have hm35 : ma I J (va_up I 35 (upd (I 35) cp 1)) J b0 nv pb np := ma_other (fun k hk => va_up_n (by omega))
  have hO1 := hO.keep hm35 (Nat.le_refl _) (Nat.le_refl _) (by omega)
  have hY1 := hY.keep hm35 (Nat.le_refl _) (Nat.le_refl _) (by omega)
  have hc1 := hc.keep hm35 (Nat.le_refl _) (Nat.le_refl _) (by omega)
  refine lv_aload_n hx hb d_Mo_plain_23 rfl (lv_at hl 1 rfl) ?_
  refine mo_getA C V X 36 (by decide) (by decide) f_Mo_91 rfl d_Mo_plain_24 ?_
  refine lv_iload_n hx hb d_Mo_plain_27 rfl (lv_at hl 2 rfl) ?_
  refine mo_ild (k := 36) (i := cp) (n := 60) C V X (by decide) (by decide) rfl (by omega) (by decide) d_Mo_plain_28 ?_
  rw [show (va_up I 35 (upd (I 35) cp 1)) 36 cp = nI v from ((congrFun (va_up_n (by decide)) cp).trans (hit))]
  refine lv_istore hx hb d_Mo_plain_29 hl (by decide) rfl (fun ls hl => ?_)
  have hl : lv_has ls 6 [(4, .int (nI v)), (3, .int 0), (0, .ref a), (1, .int (nI cp)), (2, .int 0)] := hl
  refine lv_iload_n hx hb d_Mo_plain_31 rfl (lv_at hl 3 rfl) ?_
  refine lv_bipush (v := 59) hx hb d_Mo_plain_32 (by decide) ?_
  refine lv_icmp_ge (tgt := 48) hx hb d_Mo_plain_34 (by decide) (fun c2 => ?_) (fun c2 => ?_)
  · have c2 : 59 ≤ cp := by rw [← gq_le (a := 59) (b := cp) (by omega) (by omega)]; exact c2
    refine lv_iconst (v := 0) hx hb d_Mo_plain_48 (by decide) ?_
    refine lv_istore hx hb d_Mo_plain_49 hl (by decide) rfl (fun ls hl => ?_)
    have hl : lv_has ls 6 [(5, .int 0), (4, .int (nI v)), (3, .int 0), (0, .ref a), (1, .int (nI cp)), (2, .int 0)] := hl
    refine lv_iload_n hx hb d_Mo_plain_51 rfl (lv_at hl 2 rfl) ?_
    refine lv_if_ne (tgt := 61) hx hb d_Mo_plain_52 (by decide) (fun c3 => absurd (by decide) c3) (fun c3 => ?_)
    refine lv_iload_n hx hb d_Mo_plain_55 rfl (lv_at hl 5 rfl) ?_
    refine lv_bipush (v := 17) hx hb d_Mo_plain_56 (by decide) ?_
    refine lv_icmp_ne (tgt := 69) hx hb d_Mo_plain_58 (by decide) (fun c4 => ?_) (fun c4 => absurd c4 (by decide))
    refine lv_iload_n hx hb d_Mo_plain_69 rfl (lv_at hl 5 rfl) ?_
    refine lv_bipush (v := 18) hx hb d_Mo_plain_70 (by decide) ?_
    refine lv_icmp_ne (tgt := 83) hx hb d_Mo_plain_72 (by decide) (fun c5 => ?_) (fun c5 => absurd c5 (by decide))
    refine lv_iload_n hx hb d_Mo_plain_83 rfl (lv_at hl 5 rfl) ?_
    refine lv_iconst (v := 1) hx hb d_Mo_plain_84 (by decide) ?_
    refine lv_icmp_ne (tgt := 99) hx hb d_Mo_plain_85 (by decide) (fun c6 => ?_) (fun c6 => absurd c6 (by decide))
    refine lv_iload_n hx hb d_Mo_plain_99 rfl (lv_at hl 5 rfl) ?_
    refine lv_iconst (v := 2) hx hb d_Mo_plain_100 (by decide) ?_
    refine lv_icmp_ne (tgt := 119) hx hb d_Mo_plain_101 (by decide) (fun c7 => ?_) (fun c7 => absurd c7 (by decide))
    refine lv_iload_n hx hb d_Mo_plain_119 rfl (lv_at hl 5 rfl) ?_
    refine lv_iconst (v := 5) hx hb d_Mo_plain_120 (by decide) ?_
    refine lv_icmp_ne (tgt := 143) hx hb d_Mo_plain_121 (by decide) (fun c8 => ?_) (fun c8 => absurd c8 (by decide))
    refine lv_iload_n hx hb d_Mo_plain_143 rfl (lv_at hl 5 rfl) ?_
    refine lv_bipush (v := 20) hx hb d_Mo_plain_144 (by decide) ?_
    refine lv_icmp_ne (tgt := 158) hx hb d_Mo_plain_146 (by decide) (fun c9 => ?_) (fun c9 => absurd c9 (by decide))
    refine lv_iload_n hx hb d_Mo_plain_158 rfl (lv_at hl 5 rfl) ?_
    refine lv_bipush (v := 21) hx hb d_Mo_plain_159 (by decide) ?_
    refine lv_icmp_ne (tgt := 173) hx hb d_Mo_plain_161 (by decide) (fun c10 => ?_) (fun c10 => absurd c10 (by decide))
    refine lv_aload_n hx hb d_Mo_plain_173 rfl (lv_at hl 3 rfl) ?_
    refine lv_iload_n hx hb d_Mo_plain_174 rfl (lv_at hl 5 rfl) ?_
    refine lv_if_ne (tgt := 183) hx hb d_Mo_plain_175 (by decide) (fun c11 => absurd (by decide) c11) (fun c11 => ?_)
    refine lv_iload hx hb d_Mo_plain_178 (lv_at hl 1 rfl) ?_
    refine lv_goto (tgt := 236) hx hb d_Mo_plain_180 (by decide) ?_
    refine gh_callV C V hl.1 m_Mo_give l_Mo_342 (c_Mo_give l E _ _ a ad _ _ _ (nI v) w X.1 h45) rfl X.1.1 gc_Mo ⟨by first | decide | omega | (dsimp only; omega), by first | decide | omega | (dsimp only; omega)⟩ ⟨by first | decide | omega | (dsimp only; omega), by first | decide | omega | (dsimp only; omega)⟩ (Nat.le_of_ble_eq_true rfl) rfl d_Mo_plain_236 (fun r z9 H locs hp V1 => ?_)
    obtain ⟨rfl, X2⟩ := hp
    have X := X.then X2
    have V := V1
    refine W.eq (g2 := F0 m 239 ls []) rfl ?_
    refine gh_retv hAe C V hr hlocks d_Mo_plain_239 (by first | decide | omega | (dsimp only; omega)) (by first | decide | omega | (dsimp only; omega)) ?_
    exact ⟨rfl, _, _, _, X, mr_give h11 h12 (by omega) hO1⟩
  · have c2 : ¬ 59 ≤ cp := by rw [← gq_le (a := 59) (b := cp) (by omega) (by omega)]; exact c2
    refine lv_aload_n hx hb d_Mo_plain_37 rfl (lv_at hl 2 rfl) ?_
    refine mo_getA C V X 33 (by decide) (by decide) f_Mo_82 rfl d_Mo_plain_38 ?_
    refine lv_iload_n hx hb d_Mo_plain_41 rfl (lv_at hl 3 rfl) ?_
    refine lv_iconst (v := 1) hx hb d_Mo_plain_42 (by decide) ?_
    refine gn_iadd (a := cp) (b := 1) hx hb d_Mo_plain_43 ?_
    refine mo_ild (k := 33) (i := cp + 1) (n := 60) C V X (by decide) (by decide) rfl (by omega) (by decide) d_Mo_plain_44 ?_
    refine lv_goto (tgt := 49) hx hb d_Mo_plain_45 (by decide) ?_
    refine lv_istore hx hb d_Mo_plain_49 hl (by decide) rfl (fun ls hl => ?_)
    have hl : lv_has ls 6 [(5, .int ((va_up I 35 (upd (I 35) cp 1)) 33 (cp + 1))), (4, .int (nI v)), (3, .int 0), (0, .ref a), (1, .int (nI cp)), (2, .int 0)] := hl
    refine lv_iload_n hx hb d_Mo_plain_51 rfl (lv_at hl 2 rfl) ?_
    refine lv_if_ne (tgt := 61) hx hb d_Mo_plain_52 (by decide) (fun c12 => absurd (by decide) c12) (fun c12 => ?_)
    refine lv_iload_n hx hb d_Mo_plain_55 rfl (lv_at hl 5 rfl) ?_
    refine lv_bipush (v := 17) hx hb d_Mo_plain_56 (by decide) ?_
    refine lv_icmp_ne (tgt := 69) hx hb d_Mo_plain_58 (by decide) (fun c13 => ?_) (fun c13 => absurd c13 (by decide))
    refine lv_iload_n hx hb d_Mo_plain_69 rfl (lv_at hl 5 rfl) ?_
    refine lv_bipush (v := 18) hx hb d_Mo_plain_70 (by decide) ?_
    refine lv_icmp_ne (tgt := 83) hx hb d_Mo_plain_72 (by decide) (fun c14 => ?_) (fun c14 => absurd c14 (by decide))
    refine lv_iload_n hx hb d_Mo_plain_83 rfl (lv_at hl 5 rfl) ?_
    refine lv_iconst (v := 1) hx hb d_Mo_plain_84 (by decide) ?_
    refine lv_icmp_ne (tgt := 99) hx hb d_Mo_plain_85 (by decide) (fun c15 => ?_) (fun c15 => absurd c15 (by decide))
    refine lv_iload_n hx hb d_Mo_plain_99 rfl (lv_at hl 5 rfl) ?_
    refine lv_iconst (v := 2) hx hb d_Mo_plain_100 (by decide) ?_
    refine lv_icmp_ne (tgt := 119) hx hb d_Mo_plain_101 (by decide) (fun c16 => ?_) (fun c16 => absurd c16 (by decide))
    refine lv_iload_n hx hb d_Mo_plain_119 rfl (lv_at hl 5 rfl) ?_
    refine lv_iconst (v := 5) hx hb d_Mo_plain_120 (by decide) ?_
    refine lv_icmp_ne (tgt := 143) hx hb d_Mo_plain_121 (by decide) (fun c17 => ?_) (fun c17 => absurd c17 (by decide))
    refine lv_iload_n hx hb d_Mo_plain_143 rfl (lv_at hl 5 rfl) ?_
    refine lv_bipush (v := 20) hx hb d_Mo_plain_144 (by decide) ?_
    refine lv_icmp_ne (tgt := 158) hx hb d_Mo_plain_146 (by decide) (fun c18 => ?_) (fun c18 => absurd c18 (by decide))
    refine lv_iload_n hx hb d_Mo_plain_158 rfl (lv_at hl 5 rfl) ?_
    refine lv_bipush (v := 21) hx hb d_Mo_plain_159 (by decide) ?_
    refine lv_icmp_ne (tgt := 173) hx hb d_Mo_plain_161 (by decide) (fun c19 => ?_) (fun c19 => absurd c19 (by decide))
    refine lv_aload_n hx hb d_Mo_plain_173 rfl (lv_at hl 3 rfl) ?_
    refine lv_iload_n hx hb d_Mo_plain_174 rfl (lv_at hl 5 rfl) ?_
    refine lv_if_ne (tgt := 183) hx hb d_Mo_plain_175 (by decide) (fun c20 => absurd (by decide) c20) (fun c20 => ?_)
    refine lv_iload hx hb d_Mo_plain_178 (lv_at hl 1 rfl) ?_
    refine lv_goto (tgt := 236) hx hb d_Mo_plain_180 (by decide) ?_
    refine gh_callV C V hl.1 m_Mo_give l_Mo_342 (c_Mo_give l E _ _ a ad _ _ _ (nI v) w X.1 h45) rfl X.1.1 gc_Mo ⟨by first | decide | omega | (dsimp only; omega), by first | decide | omega | (dsimp only; omega)⟩ ⟨by first | decide | omega | (dsimp only; omega), by first | decide | omega | (dsimp only; omega)⟩ (Nat.le_of_ble_eq_true rfl) rfl d_Mo_plain_236 (fun r z9 H locs hp V1 => ?_)
    obtain ⟨rfl, X2⟩ := hp
    have X := X.then X2
    have V := V1
    refine W.eq (g2 := F0 m 239 ls []) rfl ?_
    refine gh_retv hAe C V hr hlocks d_Mo_plain_239 (by first | decide | omega | (dsimp only; omega)) (by first | decide | omega | (dsimp only; omega)) ?_
    exact ⟨rfl, _, _, _, X, mr_give h11 h12 (by omega) hO1⟩
set_option maxHeartbeats 4000000 in
set_option maxRecDepth 100000 in
theorem c_Mo_plain_1 (l : Launch) (E : gh_E) (sz : Nat) (f : gh_F) (a : Nat) (ad : Nat → Nat) (S : Nat → Int32) (I : Nat → Nat → Int32) (J : Nat → Nat → Int64) (w cp φ : Nat) (b0 nv pb np : Nat) (v ve n1 : Nat) (O Y : vt) (hX : mo_R E f a ad S I J) (h45 : S 45 = nI (w + 1)) (hw : w < 14) (hc60 : cp < 60) (hph : I 35 cp = 0) (h11 : S 11 = nI nv) (h12 : S 12 = nI np) (hp8 : np + 32 ≤ 8800) (hnv : nv < 760) (h29 : 29 ≤ nv) (hb0 : b0 ≤ nv) (hpb : pb ≤ np) (hc : mc I J b0 nv pb np) (hit : I 36 cp = nI v) (hO : mw I J b0 nv pb np v O) (hel : I 37 cp = nI ve) (hY : mw I J b0 nv pb np ve Y) (h59 : cp < 59) (hn1 : I 33 (cp + 1) = nI n1) (hlt : 97 ≤ n1 ∧ n1 ≤ 122) : gh_M l y_Mo_plain b_Mo_plain 6 none E sz [.ref a, .int (nI cp), .int 1] f { frames := 9, cells := 0, slots := 0, locals := 260 } (fun r g => r = none ∧ ∃ S2 I2 J2, mo_X E f g a ad S2 I2 J2 ∧ mr_A (sr_fld O [nI n1]) S (va_up I 35 (upd (I 35) cp 1)) J b0 nv pb np w S2 I2 J2) := by
  refine gh_open (by decide) (Nat.le_of_ble_eq_true rfl) ?_
  intro p e s m args below meth c A ls hAe C V hr hlocks hname hl
  have hx := C.1
  have hb := C.2.1
  have hl : lv_has ls 6 [(0, .ref a), (1, .int (nI cp)), (2, .int 1)] := hl
  have X : mo_X E f f a ad S I J := ⟨hX, gh_fr.rf⟩
  refine lv_aload_n hx hb d_Mo_plain_0 rfl (lv_at hl 0 rfl) ?_
  refine mo_getA C V X 35 (by decide) (by decide) f_Mo_88 rfl d_Mo_plain_1 ?_
  refine lv_iload_n hx hb d_Mo_plain_4 rfl (lv_at hl 1 rfl) ?_
  refine mo_ild (k := 35) (i := cp) (n := 60) C V X (by decide) (by decide) rfl (by omega) (by decide) d_Mo_plain_5 ?_
  rw [show I 35 cp = 0 from hph]
  refine lv_iconst (v := 1) hx hb d_Mo_plain_6 (by decide) ?_
  refine lv_icmp_ne (tgt := 14) hx hb d_Mo_plain_7 (by decide) (fun c1 => ?_) (fun c1 => absurd c1 (by decide))
  refine lv_iconst (v := 0) hx hb d_Mo_plain_14 (by decide) ?_
  refine lv_istore_n hx hb d_Mo_plain_15 rfl hl (by decide) rfl (fun ls hl => ?_)
  have hl : lv_has ls 6 [(3, .int 0), (0, .ref a), (1, .int (nI cp)), (2, .int 1)] := hl
  refine lv_aload_n hx hb d_Mo_plain_16 rfl (lv_at hl 1 rfl) ?_
  refine mo_getA C V X 35 (by decide) (by decide) f_Mo_88 rfl d_Mo_plain_17 ?_
  refine lv_iload_n hx hb d_Mo_plain_20 rfl (lv_at hl 2 rfl) ?_
  refine lv_iconst (v := 1) hx hb d_Mo_plain_21 (by decide) ?_
  refine mo_ist (k := 35) (i := cp) (n := 60) C V X (by decide) (by decide) rfl (by omega) (by decide) d_Mo_plain_22 (fun f1 H locs V1 X1 => ?_)
  clear V X
  have V := V1
  have X := X1
  clear V1 X1
  have hm35 : ma I J (va_up I 35 (upd (I 35) cp 1)) J b0 nv pb np := ma_other (fun k hk => va_up_n (by omega))
  have hO1 := hO.keep hm35 (Nat.le_refl _) (Nat.le_refl _) (by omega)
  have hY1 := hY.keep hm35 (Nat.le_refl _) (Nat.le_refl _) (by omega)
  have hc1 := hc.keep hm35 (Nat.le_refl _) (Nat.le_refl _) (by omega)
  refine lv_aload_n hx hb d_Mo_plain_23 rfl (lv_at hl 1 rfl) ?_
  refine mo_getA C V X 36 (by decide) (by decide) f_Mo_91 rfl d_Mo_plain_24 ?_
  refine lv_iload_n hx hb d_Mo_plain_27 rfl (lv_at hl 2 rfl) ?_
  refine mo_ild (k := 36) (i := cp) (n := 60) C V X (by decide) (by decide) rfl (by omega) (by decide) d_Mo_plain_28 ?_
  rw [show (va_up I 35 (upd (I 35) cp 1)) 36 cp = nI v from ((congrFun (va_up_n (by decide)) cp).trans (hit))]
  refine lv_istore hx hb d_Mo_plain_29 hl (by decide) rfl (fun ls hl => ?_)
  have hl : lv_has ls 6 [(4, .int (nI v)), (3, .int 0), (0, .ref a), (1, .int (nI cp)), (2, .int 1)] := hl
  refine lv_iload_n hx hb d_Mo_plain_31 rfl (lv_at hl 3 rfl) ?_
  refine lv_bipush (v := 59) hx hb d_Mo_plain_32 (by decide) ?_
  refine lv_icmp_ge (tgt := 48) hx hb d_Mo_plain_34 (by decide) (fun c2 => absurd c2 (nI_ge (b := 59) (by omega) (by decide))) (fun c2 => ?_)
  refine lv_aload_n hx hb d_Mo_plain_37 rfl (lv_at hl 2 rfl) ?_
  refine mo_getA C V X 33 (by decide) (by decide) f_Mo_82 rfl d_Mo_plain_38 ?_
  refine lv_iload_n hx hb d_Mo_plain_41 rfl (lv_at hl 3 rfl) ?_
  refine lv_iconst (v := 1) hx hb d_Mo_plain_42 (by decide) ?_
  refine gn_iadd (a := cp) (b := 1) hx hb d_Mo_plain_43 ?_
  refine mo_ild (k := 33) (i := cp + 1) (n := 60) C V X (by decide) (by decide) rfl (by omega) (by decide) d_Mo_plain_44 ?_
  rw [show (va_up I 35 (upd (I 35) cp 1)) 33 (cp + 1) = nI n1 from ((congrFun (va_up_n (by decide)) (cp + 1)).trans (hn1))]
  refine lv_goto (tgt := 49) hx hb d_Mo_plain_45 (by decide) ?_
  refine lv_istore hx hb d_Mo_plain_49 hl (by decide) rfl (fun ls hl => ?_)
  have hl : lv_has ls 6 [(5, .int (nI n1)), (4, .int (nI v)), (3, .int 0), (0, .ref a), (1, .int (nI cp)), (2, .int 1)] := hl
  refine lv_iload_n hx hb d_Mo_plain_51 rfl (lv_at hl 2 rfl) ?_
  refine lv_if_ne (tgt := 61) hx hb d_Mo_plain_52 (by decide) (fun c3 => absurd (by decide) c3) (fun c3 => ?_)
  refine lv_iload_n hx hb d_Mo_plain_55 rfl (lv_at hl 5 rfl) ?_
  refine lv_bipush (v := 17) hx hb d_Mo_plain_56 (by decide) ?_
  refine lv_icmp_ne (tgt := 69) hx hb d_Mo_plain_58 (by decide) (fun c4 => ?_) (fun c4 => absurd c4 (by decide))
  refine lv_iload_n hx hb d_Mo_plain_69 rfl (lv_at hl 5 rfl) ?_
  refine lv_bipush (v := 18) hx hb d_Mo_plain_70 (by decide) ?_
  refine lv_icmp_ne (tgt := 83) hx hb d_Mo_plain_72 (by decide) (fun c5 => ?_) (fun c5 => absurd c5 (by decide))
  refine lv_iload_n hx hb d_Mo_plain_83 rfl (lv_at hl 5 rfl) ?_
  refine lv_iconst (v := 1) hx hb d_Mo_plain_84 (by decide) ?_
  refine lv_icmp_ne (tgt := 99) hx hb d_Mo_plain_85 (by decide) (fun c6 => absurd (by decide) c6) (fun c6 => ?_)
  refine lv_aload_n hx hb d_Mo_plain_88 rfl (lv_at hl 3 rfl) ?_
  refine lv_iload hx hb d_Mo_plain_89 (lv_at hl 1 rfl) ?_
  refine lv_iload hx hb d_Mo_plain_91 (lv_at hl 0 rfl) ?_
  refine gh_callV C V hl.1 m_Mo_field l_Mo_334 (c_Mo_field l E _ _ a ad _ _ _ b0 nv pb np w v n1 O X.1 h11 h12 hp8 hnv h29 hb0 hpb h45 hc1 hO1 hlt) rfl X.1.1 gc_Mo ⟨by first | decide | omega | (dsimp only; omega), by first | decide | omega | (dsimp only; omega)⟩ ⟨by first | decide | omega | (dsimp only; omega), by first | decide | omega | (dsimp only; omega)⟩ (Nat.le_of_ble_eq_true rfl) rfl d_Mo_plain_93 (fun r z9 H locs hp V1 => ?_)
  obtain ⟨rfl, S6, I6, J6, X2, hA⟩ := hp
  have X := X.then X2
  have V := V1
  refine W.eq (g2 := F0 m 96 ls []) rfl ?_
  refine lv_goto (tgt := 239) hx hb d_Mo_plain_96 (by decide) ?_
  refine gh_retv hAe C V hr hlocks d_Mo_plain_239 (by first | decide | omega | (dsimp only; omega)) (by first | decide | omega | (dsimp only; omega)) ?_
  exact ⟨rfl, _, _, _, X, hA⟩
set_option maxHeartbeats 4000000 in
set_option maxRecDepth 100000 in
theorem c_Mo_plain_2 (l : Launch) (E : gh_E) (sz : Nat) (f : gh_F) (a : Nat) (ad : Nat → Nat) (S : Nat → Int32) (I : Nat → Nat → Int32) (J : Nat → Nat → Int64) (w cp φ : Nat) (b0 nv pb np : Nat) (v ve n1 : Nat) (O Y : vt) (hX : mo_R E f a ad S I J) (h45 : S 45 = nI (w + 1)) (hw : w < 14) (hc60 : cp < 60) (hph : I 35 cp = 0) (h11 : S 11 = nI nv) (h12 : S 12 = nI np) (hp8 : np + 32 ≤ 8800) (hnv : nv < 760) (h29 : 29 ≤ nv) (hb0 : b0 ≤ nv) (hpb : pb ≤ np) (hc : mc I J b0 nv pb np) (hit : I 36 cp = nI v) (hO : mw I J b0 nv pb np v O) (hel : I 37 cp = nI ve) (hY : mw I J b0 nv pb np ve Y) (h59 : cp < 59) (hn1 : I 33 (cp + 1) = nI n1) (hlt : n1 < 256) : gh_M l y_Mo_plain b_Mo_plain 6 none E sz [.ref a, .int (nI cp), .int 2] f { frames := 9, cells := 0, slots := 0, locals := 260 } (fun r g => r = none ∧ ∃ S2 I2 J2, mo_X E f g a ad S2 I2 J2 ∧ mr_A (sr_itm O n1) S (va_up I 35 (upd (I 35) cp 1)) J b0 nv pb np w S2 I2 J2) := by
  refine gh_open (by decide) (Nat.le_of_ble_eq_true rfl) ?_
  intro p e s m args below meth c A ls hAe C V hr hlocks hname hl
  have hx := C.1
  have hb := C.2.1
  have hl : lv_has ls 6 [(0, .ref a), (1, .int (nI cp)), (2, .int 2)] := hl
  have X : mo_X E f f a ad S I J := ⟨hX, gh_fr.rf⟩
  refine lv_aload_n hx hb d_Mo_plain_0 rfl (lv_at hl 0 rfl) ?_
  refine mo_getA C V X 35 (by decide) (by decide) f_Mo_88 rfl d_Mo_plain_1 ?_
  refine lv_iload_n hx hb d_Mo_plain_4 rfl (lv_at hl 1 rfl) ?_
  refine mo_ild (k := 35) (i := cp) (n := 60) C V X (by decide) (by decide) rfl (by omega) (by decide) d_Mo_plain_5 ?_
  rw [show I 35 cp = 0 from hph]
  refine lv_iconst (v := 1) hx hb d_Mo_plain_6 (by decide) ?_
  refine lv_icmp_ne (tgt := 14) hx hb d_Mo_plain_7 (by decide) (fun c1 => ?_) (fun c1 => absurd c1 (by decide))
  refine lv_iconst (v := 0) hx hb d_Mo_plain_14 (by decide) ?_
  refine lv_istore_n hx hb d_Mo_plain_15 rfl hl (by decide) rfl (fun ls hl => ?_)
  have hl : lv_has ls 6 [(3, .int 0), (0, .ref a), (1, .int (nI cp)), (2, .int 2)] := hl
  refine lv_aload_n hx hb d_Mo_plain_16 rfl (lv_at hl 1 rfl) ?_
  refine mo_getA C V X 35 (by decide) (by decide) f_Mo_88 rfl d_Mo_plain_17 ?_
  refine lv_iload_n hx hb d_Mo_plain_20 rfl (lv_at hl 2 rfl) ?_
  refine lv_iconst (v := 1) hx hb d_Mo_plain_21 (by decide) ?_
  refine mo_ist (k := 35) (i := cp) (n := 60) C V X (by decide) (by decide) rfl (by omega) (by decide) d_Mo_plain_22 (fun f1 H locs V1 X1 => ?_)
  clear V X
  have V := V1
  have X := X1
  clear V1 X1
  have hm35 : ma I J (va_up I 35 (upd (I 35) cp 1)) J b0 nv pb np := ma_other (fun k hk => va_up_n (by omega))
  have hO1 := hO.keep hm35 (Nat.le_refl _) (Nat.le_refl _) (by omega)
  have hY1 := hY.keep hm35 (Nat.le_refl _) (Nat.le_refl _) (by omega)
  have hc1 := hc.keep hm35 (Nat.le_refl _) (Nat.le_refl _) (by omega)
  refine lv_aload_n hx hb d_Mo_plain_23 rfl (lv_at hl 1 rfl) ?_
  refine mo_getA C V X 36 (by decide) (by decide) f_Mo_91 rfl d_Mo_plain_24 ?_
  refine lv_iload_n hx hb d_Mo_plain_27 rfl (lv_at hl 2 rfl) ?_
  refine mo_ild (k := 36) (i := cp) (n := 60) C V X (by decide) (by decide) rfl (by omega) (by decide) d_Mo_plain_28 ?_
  rw [show (va_up I 35 (upd (I 35) cp 1)) 36 cp = nI v from ((congrFun (va_up_n (by decide)) cp).trans (hit))]
  refine lv_istore hx hb d_Mo_plain_29 hl (by decide) rfl (fun ls hl => ?_)
  have hl : lv_has ls 6 [(4, .int (nI v)), (3, .int 0), (0, .ref a), (1, .int (nI cp)), (2, .int 2)] := hl
  refine lv_iload_n hx hb d_Mo_plain_31 rfl (lv_at hl 3 rfl) ?_
  refine lv_bipush (v := 59) hx hb d_Mo_plain_32 (by decide) ?_
  refine lv_icmp_ge (tgt := 48) hx hb d_Mo_plain_34 (by decide) (fun c2 => absurd c2 (nI_ge (b := 59) (by omega) (by decide))) (fun c2 => ?_)
  refine lv_aload_n hx hb d_Mo_plain_37 rfl (lv_at hl 2 rfl) ?_
  refine mo_getA C V X 33 (by decide) (by decide) f_Mo_82 rfl d_Mo_plain_38 ?_
  refine lv_iload_n hx hb d_Mo_plain_41 rfl (lv_at hl 3 rfl) ?_
  refine lv_iconst (v := 1) hx hb d_Mo_plain_42 (by decide) ?_
  refine gn_iadd (a := cp) (b := 1) hx hb d_Mo_plain_43 ?_
  refine mo_ild (k := 33) (i := cp + 1) (n := 60) C V X (by decide) (by decide) rfl (by omega) (by decide) d_Mo_plain_44 ?_
  rw [show (va_up I 35 (upd (I 35) cp 1)) 33 (cp + 1) = nI n1 from ((congrFun (va_up_n (by decide)) (cp + 1)).trans (hn1))]
  refine lv_goto (tgt := 49) hx hb d_Mo_plain_45 (by decide) ?_
  refine lv_istore hx hb d_Mo_plain_49 hl (by decide) rfl (fun ls hl => ?_)
  have hl : lv_has ls 6 [(5, .int (nI n1)), (4, .int (nI v)), (3, .int 0), (0, .ref a), (1, .int (nI cp)), (2, .int 2)] := hl
  refine lv_iload_n hx hb d_Mo_plain_51 rfl (lv_at hl 2 rfl) ?_
  refine lv_if_ne (tgt := 61) hx hb d_Mo_plain_52 (by decide) (fun c3 => absurd (by decide) c3) (fun c3 => ?_)
  refine lv_iload_n hx hb d_Mo_plain_55 rfl (lv_at hl 5 rfl) ?_
  refine lv_bipush (v := 17) hx hb d_Mo_plain_56 (by decide) ?_
  refine lv_icmp_ne (tgt := 69) hx hb d_Mo_plain_58 (by decide) (fun c4 => ?_) (fun c4 => absurd c4 (by decide))
  refine lv_iload_n hx hb d_Mo_plain_69 rfl (lv_at hl 5 rfl) ?_
  refine lv_bipush (v := 18) hx hb d_Mo_plain_70 (by decide) ?_
  refine lv_icmp_ne (tgt := 83) hx hb d_Mo_plain_72 (by decide) (fun c5 => ?_) (fun c5 => absurd c5 (by decide))
  refine lv_iload_n hx hb d_Mo_plain_83 rfl (lv_at hl 5 rfl) ?_
  refine lv_iconst (v := 1) hx hb d_Mo_plain_84 (by decide) ?_
  refine lv_icmp_ne (tgt := 99) hx hb d_Mo_plain_85 (by decide) (fun c6 => ?_) (fun c6 => absurd c6 (by decide))
  refine lv_iload_n hx hb d_Mo_plain_99 rfl (lv_at hl 5 rfl) ?_
  refine lv_iconst (v := 2) hx hb d_Mo_plain_100 (by decide) ?_
  refine lv_icmp_ne (tgt := 119) hx hb d_Mo_plain_101 (by decide) (fun c7 => absurd (by decide) c7) (fun c7 => ?_)
  refine lv_aload_n hx hb d_Mo_plain_104 rfl (lv_at hl 3 rfl) ?_
  refine lv_iload hx hb d_Mo_plain_105 (lv_at hl 1 rfl) ?_
  refine lv_iload hx hb d_Mo_plain_107 (lv_at hl 0 rfl) ?_
  refine lv_sipush (v := 128) hx hb d_Mo_plain_109 (by decide) ?_
  refine lv_isub hx hb d_Mo_plain_112 ?_
  refine gh_callV C V hl.1 m_Mo_item l_Mo_337 (c_Mo_item l E _ _ a ad _ _ _ b0 nv pb np w v n1 O X.1 h11 h12 hp8 hnv h29 hb0 hpb h45 hc1 hO1 hlt) rfl X.1.1 gc_Mo ⟨by first | decide | omega | (dsimp only; omega), by first | decide | omega | (dsimp only; omega)⟩ ⟨by first | decide | omega | (dsimp only; omega), by first | decide | omega | (dsimp only; omega)⟩ (Nat.le_of_ble_eq_true rfl) rfl d_Mo_plain_113 (fun r z9 H locs hp V1 => ?_)
  obtain ⟨rfl, S6, I6, J6, X2, hA⟩ := hp
  have X := X.then X2
  have V := V1
  refine W.eq (g2 := F0 m 116 ls []) rfl ?_
  refine lv_goto (tgt := 239) hx hb d_Mo_plain_116 (by decide) ?_
  refine gh_retv hAe C V hr hlocks d_Mo_plain_239 (by first | decide | omega | (dsimp only; omega)) (by first | decide | omega | (dsimp only; omega)) ?_
  exact ⟨rfl, _, _, _, X, hA⟩
set_option maxHeartbeats 4000000 in
set_option maxRecDepth 100000 in
theorem c_Mo_plain_5 (l : Launch) (E : gh_E) (sz : Nat) (f : gh_F) (a : Nat) (ad : Nat → Nat) (S : Nat → Int32) (I : Nat → Nat → Int32) (J : Nat → Nat → Int64) (w cp φ : Nat) (b0 nv pb np : Nat) (v ve n1 : Nat) (O Y : vt) (hX : mo_R E f a ad S I J) (h45 : S 45 = nI (w + 1)) (hw : w < 14) (hc60 : cp < 60) (hph : I 35 cp = 0) (h11 : S 11 = nI nv) (h12 : S 12 = nI np) (hp8 : np + 32 ≤ 8800) (hnv : nv < 760) (h29 : 29 ≤ nv) (hb0 : b0 ≤ nv) (hpb : pb ≤ np) (hc : mc I J b0 nv pb np) (hit : I 36 cp = nI v) (hO : mw I J b0 nv pb np v O) (hel : I 37 cp = nI ve) (hY : mw I J b0 nv pb np ve Y) (h59 : cp < 59) (hn1 : I 33 (cp + 1) = nI n1) (hlt : n1 < 256) : gh_M l y_Mo_plain b_Mo_plain 6 none E sz [.ref a, .int (nI cp), .int 5] f { frames := 9, cells := 0, slots := 0, locals := 260 } (fun r g => r = none ∧ ∃ S2 I2 J2, mo_X E f g a ad S2 I2 J2 ∧ mr_A (some (vt_i (sr_num n1).toInt64)) S (va_up I 35 (upd (I 35) cp 1)) J b0 nv pb np w S2 I2 J2) := by
  refine gh_open (by decide) (Nat.le_of_ble_eq_true rfl) ?_
  intro p e s m args below meth c A ls hAe C V hr hlocks hname hl
  have hx := C.1
  have hb := C.2.1
  have hl : lv_has ls 6 [(0, .ref a), (1, .int (nI cp)), (2, .int 5)] := hl
  have X : mo_X E f f a ad S I J := ⟨hX, gh_fr.rf⟩
  refine lv_aload_n hx hb d_Mo_plain_0 rfl (lv_at hl 0 rfl) ?_
  refine mo_getA C V X 35 (by decide) (by decide) f_Mo_88 rfl d_Mo_plain_1 ?_
  refine lv_iload_n hx hb d_Mo_plain_4 rfl (lv_at hl 1 rfl) ?_
  refine mo_ild (k := 35) (i := cp) (n := 60) C V X (by decide) (by decide) rfl (by omega) (by decide) d_Mo_plain_5 ?_
  rw [show I 35 cp = 0 from hph]
  refine lv_iconst (v := 1) hx hb d_Mo_plain_6 (by decide) ?_
  refine lv_icmp_ne (tgt := 14) hx hb d_Mo_plain_7 (by decide) (fun c1 => ?_) (fun c1 => absurd c1 (by decide))
  refine lv_iconst (v := 0) hx hb d_Mo_plain_14 (by decide) ?_
  refine lv_istore_n hx hb d_Mo_plain_15 rfl hl (by decide) rfl (fun ls hl => ?_)
  have hl : lv_has ls 6 [(3, .int 0), (0, .ref a), (1, .int (nI cp)), (2, .int 5)] := hl
  refine lv_aload_n hx hb d_Mo_plain_16 rfl (lv_at hl 1 rfl) ?_
  refine mo_getA C V X 35 (by decide) (by decide) f_Mo_88 rfl d_Mo_plain_17 ?_
  refine lv_iload_n hx hb d_Mo_plain_20 rfl (lv_at hl 2 rfl) ?_
  refine lv_iconst (v := 1) hx hb d_Mo_plain_21 (by decide) ?_
  refine mo_ist (k := 35) (i := cp) (n := 60) C V X (by decide) (by decide) rfl (by omega) (by decide) d_Mo_plain_22 (fun f1 H locs V1 X1 => ?_)
  clear V X
  have V := V1
  have X := X1
  clear V1 X1
  have hm35 : ma I J (va_up I 35 (upd (I 35) cp 1)) J b0 nv pb np := ma_other (fun k hk => va_up_n (by omega))
  have hO1 := hO.keep hm35 (Nat.le_refl _) (Nat.le_refl _) (by omega)
  have hY1 := hY.keep hm35 (Nat.le_refl _) (Nat.le_refl _) (by omega)
  have hc1 := hc.keep hm35 (Nat.le_refl _) (Nat.le_refl _) (by omega)
  refine lv_aload_n hx hb d_Mo_plain_23 rfl (lv_at hl 1 rfl) ?_
  refine mo_getA C V X 36 (by decide) (by decide) f_Mo_91 rfl d_Mo_plain_24 ?_
  refine lv_iload_n hx hb d_Mo_plain_27 rfl (lv_at hl 2 rfl) ?_
  refine mo_ild (k := 36) (i := cp) (n := 60) C V X (by decide) (by decide) rfl (by omega) (by decide) d_Mo_plain_28 ?_
  rw [show (va_up I 35 (upd (I 35) cp 1)) 36 cp = nI v from ((congrFun (va_up_n (by decide)) cp).trans (hit))]
  refine lv_istore hx hb d_Mo_plain_29 hl (by decide) rfl (fun ls hl => ?_)
  have hl : lv_has ls 6 [(4, .int (nI v)), (3, .int 0), (0, .ref a), (1, .int (nI cp)), (2, .int 5)] := hl
  refine lv_iload_n hx hb d_Mo_plain_31 rfl (lv_at hl 3 rfl) ?_
  refine lv_bipush (v := 59) hx hb d_Mo_plain_32 (by decide) ?_
  refine lv_icmp_ge (tgt := 48) hx hb d_Mo_plain_34 (by decide) (fun c2 => absurd c2 (nI_ge (b := 59) (by omega) (by decide))) (fun c2 => ?_)
  refine lv_aload_n hx hb d_Mo_plain_37 rfl (lv_at hl 2 rfl) ?_
  refine mo_getA C V X 33 (by decide) (by decide) f_Mo_82 rfl d_Mo_plain_38 ?_
  refine lv_iload_n hx hb d_Mo_plain_41 rfl (lv_at hl 3 rfl) ?_
  refine lv_iconst (v := 1) hx hb d_Mo_plain_42 (by decide) ?_
  refine gn_iadd (a := cp) (b := 1) hx hb d_Mo_plain_43 ?_
  refine mo_ild (k := 33) (i := cp + 1) (n := 60) C V X (by decide) (by decide) rfl (by omega) (by decide) d_Mo_plain_44 ?_
  rw [show (va_up I 35 (upd (I 35) cp 1)) 33 (cp + 1) = nI n1 from ((congrFun (va_up_n (by decide)) (cp + 1)).trans (hn1))]
  refine lv_goto (tgt := 49) hx hb d_Mo_plain_45 (by decide) ?_
  refine lv_istore hx hb d_Mo_plain_49 hl (by decide) rfl (fun ls hl => ?_)
  have hl : lv_has ls 6 [(5, .int (nI n1)), (4, .int (nI v)), (3, .int 0), (0, .ref a), (1, .int (nI cp)), (2, .int 5)] := hl
  refine lv_iload_n hx hb d_Mo_plain_51 rfl (lv_at hl 2 rfl) ?_
  refine lv_if_ne (tgt := 61) hx hb d_Mo_plain_52 (by decide) (fun c3 => absurd (by decide) c3) (fun c3 => ?_)
  refine lv_iload_n hx hb d_Mo_plain_55 rfl (lv_at hl 5 rfl) ?_
  refine lv_bipush (v := 17) hx hb d_Mo_plain_56 (by decide) ?_
  refine lv_icmp_ne (tgt := 69) hx hb d_Mo_plain_58 (by decide) (fun c4 => ?_) (fun c4 => absurd c4 (by decide))
  refine lv_iload_n hx hb d_Mo_plain_69 rfl (lv_at hl 5 rfl) ?_
  refine lv_bipush (v := 18) hx hb d_Mo_plain_70 (by decide) ?_
  refine lv_icmp_ne (tgt := 83) hx hb d_Mo_plain_72 (by decide) (fun c5 => ?_) (fun c5 => absurd c5 (by decide))
  refine lv_iload_n hx hb d_Mo_plain_83 rfl (lv_at hl 5 rfl) ?_
  refine lv_iconst (v := 1) hx hb d_Mo_plain_84 (by decide) ?_
  refine lv_icmp_ne (tgt := 99) hx hb d_Mo_plain_85 (by decide) (fun c6 => ?_) (fun c6 => absurd c6 (by decide))
  refine lv_iload_n hx hb d_Mo_plain_99 rfl (lv_at hl 5 rfl) ?_
  refine lv_iconst (v := 2) hx hb d_Mo_plain_100 (by decide) ?_
  refine lv_icmp_ne (tgt := 119) hx hb d_Mo_plain_101 (by decide) (fun c7 => ?_) (fun c7 => absurd c7 (by decide))
  refine lv_iload_n hx hb d_Mo_plain_119 rfl (lv_at hl 5 rfl) ?_
  refine lv_iconst (v := 5) hx hb d_Mo_plain_120 (by decide) ?_
  refine lv_icmp_ne (tgt := 143) hx hb d_Mo_plain_121 (by decide) (fun c8 => absurd (by decide) c8) (fun c8 => ?_)
  refine lv_aload_n hx hb d_Mo_plain_124 rfl (lv_at hl 3 rfl) ?_
  refine lv_aload_n hx hb d_Mo_plain_125 rfl (lv_at hl 3 rfl) ?_
  refine lv_iconst (v := 3) hx hb d_Mo_plain_126 (by decide) ?_
  refine lv_iload hx hb d_Mo_plain_127 (lv_at hl 0 rfl) ?_
  refine lv_i2l hx hb d_Mo_plain_129 rfl ?_
  refine lv_ldc2 (v := 128) hx hb C.2.2.2.1 (C.2.2.2.2.1 _ kl_Mo_340) d_Mo_plain_130 ?_
  refine lv_lsub hx hb d_Mo_plain_133 ?_
  refine gh_callV C V hl.1 m_Mo_make l_Mo_159 (c_Mo_mk l E _ _ a ad _ _ _ 3 (((nI n1).toInt64) - 128) nv X.1 h11 hnv) rfl X.1.1 gc_Mo ⟨by first | decide | omega | (dsimp only; omega), by first | decide | omega | (dsimp only; omega)⟩ ⟨by first | decide | omega | (dsimp only; omega), by first | decide | omega | (dsimp only; omega)⟩ (Nat.le_of_ble_eq_true rfl) rfl d_Mo_plain_134 (fun r z9 H locs hp V1 => ?_)
  obtain ⟨rfl, S6, I6, J6, X2, hmk⟩ := hp
  have X := X.then X2
  have V := V1
  have h45 : S6 45 = nI (w + 1) := by rw [hmk.1, va_up_n (by decide)]; exact h45
  refine W.eq (g2 := F0 m 137 ls [.int (nI nv), .ref a]) rfl ?_
  refine gh_callV C V hl.1 m_Mo_give l_Mo_342 (c_Mo_give l E _ _ a ad _ _ _ (nI nv) w X.1 h45) rfl X.1.1 gc_Mo ⟨by first | decide | omega | (dsimp only; omega), by first | decide | omega | (dsimp only; omega)⟩ ⟨by first | decide | omega | (dsimp only; omega), by first | decide | omega | (dsimp only; omega)⟩ (Nat.le_of_ble_eq_true rfl) rfl d_Mo_plain_137 (fun r z9 H locs hp V1 => ?_)
  obtain ⟨rfl, X2⟩ := hp
  have X := X.then X2
  have V := V1
  refine W.eq (g2 := F0 m 140 ls []) rfl ?_
  refine lv_goto (tgt := 239) hx hb d_Mo_plain_140 (by decide) ?_
  refine gh_retv hAe C V hr hlocks d_Mo_plain_239 (by first | decide | omega | (dsimp only; omega)) (by first | decide | omega | (dsimp only; omega)) ?_
  exact ⟨rfl, _, _, _, X, by rw [show (sr_num n1).toInt64 = (nI n1).toInt64 - 128 from sr_num64 ⟨n1, hlt⟩]; exact mr_int hmk h12 hb0 hnv h29 (by omega)⟩
set_option maxHeartbeats 4000000 in
set_option maxRecDepth 100000 in
theorem c_Mo_plain_6 (l : Launch) (E : gh_E) (sz : Nat) (f : gh_F) (a : Nat) (ad : Nat → Nat) (S : Nat → Int32) (I : Nat → Nat → Int32) (J : Nat → Nat → Int64) (w cp φ : Nat) (b0 nv pb np : Nat) (v ve n1 : Nat) (O Y : vt) (hX : mo_R E f a ad S I J) (h45 : S 45 = nI (w + 1)) (hw : w < 14) (hc60 : cp < 60) (hph : I 35 cp = 0) (h11 : S 11 = nI nv) (h12 : S 12 = nI np) (hp8 : np + 32 ≤ 8800) (hnv : nv < 760) (h29 : 29 ≤ nv) (hb0 : b0 ≤ nv) (hpb : pb ≤ np) (hc : mc I J b0 nv pb np) (hit : I 36 cp = nI v) (hO : mw I J b0 nv pb np v O) (hel : I 37 cp = nI ve) (hY : mw I J b0 nv pb np ve Y) (h59 : cp < 59) (hn1 : I 33 (cp + 1) = nI n1) (hlt : 97 ≤ n1 ∧ n1 ≤ 122) : gh_M l y_Mo_plain b_Mo_plain 6 none E sz [.ref a, .int (nI cp), .int 6] f { frames := 9, cells := 0, slots := 0, locals := 260 } (fun r g => r = none ∧ ∃ S2 I2 J2, mo_X E f g a ad S2 I2 J2 ∧ mr_A (some (vt_t [nI n1])) S (va_up I 35 (upd (I 35) cp 1)) J b0 nv pb np w S2 I2 J2) := by
  refine gh_open (by decide) (Nat.le_of_ble_eq_true rfl) ?_
  intro p e s m args below meth c A ls hAe C V hr hlocks hname hl
  have hx := C.1
  have hb := C.2.1
  have hl : lv_has ls 6 [(0, .ref a), (1, .int (nI cp)), (2, .int 6)] := hl
  have X : mo_X E f f a ad S I J := ⟨hX, gh_fr.rf⟩
  refine lv_aload_n hx hb d_Mo_plain_0 rfl (lv_at hl 0 rfl) ?_
  refine mo_getA C V X 35 (by decide) (by decide) f_Mo_88 rfl d_Mo_plain_1 ?_
  refine lv_iload_n hx hb d_Mo_plain_4 rfl (lv_at hl 1 rfl) ?_
  refine mo_ild (k := 35) (i := cp) (n := 60) C V X (by decide) (by decide) rfl (by omega) (by decide) d_Mo_plain_5 ?_
  rw [show I 35 cp = 0 from hph]
  refine lv_iconst (v := 1) hx hb d_Mo_plain_6 (by decide) ?_
  refine lv_icmp_ne (tgt := 14) hx hb d_Mo_plain_7 (by decide) (fun c1 => ?_) (fun c1 => absurd c1 (by decide))
  refine lv_iconst (v := 0) hx hb d_Mo_plain_14 (by decide) ?_
  refine lv_istore_n hx hb d_Mo_plain_15 rfl hl (by decide) rfl (fun ls hl => ?_)
  have hl : lv_has ls 6 [(3, .int 0), (0, .ref a), (1, .int (nI cp)), (2, .int 6)] := hl
  refine lv_aload_n hx hb d_Mo_plain_16 rfl (lv_at hl 1 rfl) ?_
  refine mo_getA C V X 35 (by decide) (by decide) f_Mo_88 rfl d_Mo_plain_17 ?_
  refine lv_iload_n hx hb d_Mo_plain_20 rfl (lv_at hl 2 rfl) ?_
  refine lv_iconst (v := 1) hx hb d_Mo_plain_21 (by decide) ?_
  refine mo_ist (k := 35) (i := cp) (n := 60) C V X (by decide) (by decide) rfl (by omega) (by decide) d_Mo_plain_22 (fun f1 H locs V1 X1 => ?_)
  clear V X
  have V := V1
  have X := X1
  clear V1 X1
  have hm35 : ma I J (va_up I 35 (upd (I 35) cp 1)) J b0 nv pb np := ma_other (fun k hk => va_up_n (by omega))
  have hO1 := hO.keep hm35 (Nat.le_refl _) (Nat.le_refl _) (by omega)
  have hY1 := hY.keep hm35 (Nat.le_refl _) (Nat.le_refl _) (by omega)
  have hc1 := hc.keep hm35 (Nat.le_refl _) (Nat.le_refl _) (by omega)
  refine lv_aload_n hx hb d_Mo_plain_23 rfl (lv_at hl 1 rfl) ?_
  refine mo_getA C V X 36 (by decide) (by decide) f_Mo_91 rfl d_Mo_plain_24 ?_
  refine lv_iload_n hx hb d_Mo_plain_27 rfl (lv_at hl 2 rfl) ?_
  refine mo_ild (k := 36) (i := cp) (n := 60) C V X (by decide) (by decide) rfl (by omega) (by decide) d_Mo_plain_28 ?_
  rw [show (va_up I 35 (upd (I 35) cp 1)) 36 cp = nI v from ((congrFun (va_up_n (by decide)) cp).trans (hit))]
  refine lv_istore hx hb d_Mo_plain_29 hl (by decide) rfl (fun ls hl => ?_)
  have hl : lv_has ls 6 [(4, .int (nI v)), (3, .int 0), (0, .ref a), (1, .int (nI cp)), (2, .int 6)] := hl
  refine lv_iload_n hx hb d_Mo_plain_31 rfl (lv_at hl 3 rfl) ?_
  refine lv_bipush (v := 59) hx hb d_Mo_plain_32 (by decide) ?_
  refine lv_icmp_ge (tgt := 48) hx hb d_Mo_plain_34 (by decide) (fun c2 => absurd c2 (nI_ge (b := 59) (by omega) (by decide))) (fun c2 => ?_)
  refine lv_aload_n hx hb d_Mo_plain_37 rfl (lv_at hl 2 rfl) ?_
  refine mo_getA C V X 33 (by decide) (by decide) f_Mo_82 rfl d_Mo_plain_38 ?_
  refine lv_iload_n hx hb d_Mo_plain_41 rfl (lv_at hl 3 rfl) ?_
  refine lv_iconst (v := 1) hx hb d_Mo_plain_42 (by decide) ?_
  refine gn_iadd (a := cp) (b := 1) hx hb d_Mo_plain_43 ?_
  refine mo_ild (k := 33) (i := cp + 1) (n := 60) C V X (by decide) (by decide) rfl (by omega) (by decide) d_Mo_plain_44 ?_
  rw [show (va_up I 35 (upd (I 35) cp 1)) 33 (cp + 1) = nI n1 from ((congrFun (va_up_n (by decide)) (cp + 1)).trans (hn1))]
  refine lv_goto (tgt := 49) hx hb d_Mo_plain_45 (by decide) ?_
  refine lv_istore hx hb d_Mo_plain_49 hl (by decide) rfl (fun ls hl => ?_)
  have hl : lv_has ls 6 [(5, .int (nI n1)), (4, .int (nI v)), (3, .int 0), (0, .ref a), (1, .int (nI cp)), (2, .int 6)] := hl
  refine lv_iload_n hx hb d_Mo_plain_51 rfl (lv_at hl 2 rfl) ?_
  refine lv_if_ne (tgt := 61) hx hb d_Mo_plain_52 (by decide) (fun c3 => absurd (by decide) c3) (fun c3 => ?_)
  refine lv_iload_n hx hb d_Mo_plain_55 rfl (lv_at hl 5 rfl) ?_
  refine lv_bipush (v := 17) hx hb d_Mo_plain_56 (by decide) ?_
  refine lv_icmp_ne (tgt := 69) hx hb d_Mo_plain_58 (by decide) (fun c4 => ?_) (fun c4 => absurd c4 (by decide))
  refine lv_iload_n hx hb d_Mo_plain_69 rfl (lv_at hl 5 rfl) ?_
  refine lv_bipush (v := 18) hx hb d_Mo_plain_70 (by decide) ?_
  refine lv_icmp_ne (tgt := 83) hx hb d_Mo_plain_72 (by decide) (fun c5 => ?_) (fun c5 => absurd c5 (by decide))
  refine lv_iload_n hx hb d_Mo_plain_83 rfl (lv_at hl 5 rfl) ?_
  refine lv_iconst (v := 1) hx hb d_Mo_plain_84 (by decide) ?_
  refine lv_icmp_ne (tgt := 99) hx hb d_Mo_plain_85 (by decide) (fun c6 => ?_) (fun c6 => absurd c6 (by decide))
  refine lv_iload_n hx hb d_Mo_plain_99 rfl (lv_at hl 5 rfl) ?_
  refine lv_iconst (v := 2) hx hb d_Mo_plain_100 (by decide) ?_
  refine lv_icmp_ne (tgt := 119) hx hb d_Mo_plain_101 (by decide) (fun c7 => ?_) (fun c7 => absurd c7 (by decide))
  refine lv_iload_n hx hb d_Mo_plain_119 rfl (lv_at hl 5 rfl) ?_
  refine lv_iconst (v := 5) hx hb d_Mo_plain_120 (by decide) ?_
  refine lv_icmp_ne (tgt := 143) hx hb d_Mo_plain_121 (by decide) (fun c8 => ?_) (fun c8 => absurd c8 (by decide))
  refine lv_iload_n hx hb d_Mo_plain_143 rfl (lv_at hl 5 rfl) ?_
  refine lv_bipush (v := 20) hx hb d_Mo_plain_144 (by decide) ?_
  refine lv_icmp_ne (tgt := 158) hx hb d_Mo_plain_146 (by decide) (fun c9 => ?_) (fun c9 => absurd c9 (by decide))
  refine lv_iload_n hx hb d_Mo_plain_158 rfl (lv_at hl 5 rfl) ?_
  refine lv_bipush (v := 21) hx hb d_Mo_plain_159 (by decide) ?_
  refine lv_icmp_ne (tgt := 173) hx hb d_Mo_plain_161 (by decide) (fun c10 => ?_) (fun c10 => absurd c10 (by decide))
  refine lv_aload_n hx hb d_Mo_plain_173 rfl (lv_at hl 3 rfl) ?_
  refine lv_iload_n hx hb d_Mo_plain_174 rfl (lv_at hl 5 rfl) ?_
  refine lv_if_ne (tgt := 183) hx hb d_Mo_plain_175 (by decide) (fun c11 => ?_) (fun c11 => absurd c11 (by decide))
  refine lv_iload_n hx hb d_Mo_plain_183 rfl (lv_at hl 5 rfl) ?_
  refine lv_bipush (v := 6) hx hb d_Mo_plain_184 (by decide) ?_
  refine lv_icmp_ne (tgt := 197) hx hb d_Mo_plain_186 (by decide) (fun c12 => absurd (by decide) c12) (fun c12 => ?_)
  refine lv_iload hx hb d_Mo_plain_189 (lv_at hl 0 rfl) ?_
  refine lv_bipush (v := 94) hx hb d_Mo_plain_191 (by decide) ?_
  refine gn_isub (a := n1) (b := 94) hx hb (by omega) d_Mo_plain_193 ?_
  refine lv_goto (tgt := 236) hx hb d_Mo_plain_194 (by decide) ?_
  refine gh_callV C V hl.1 m_Mo_give l_Mo_342 (c_Mo_give l E _ _ a ad _ _ _ (nI (n1 - 94)) w X.1 h45) rfl X.1.1 gc_Mo ⟨by first | decide | omega | (dsimp only; omega), by first | decide | omega | (dsimp only; omega)⟩ ⟨by first | decide | omega | (dsimp only; omega), by first | decide | omega | (dsimp only; omega)⟩ (Nat.le_of_ble_eq_true rfl) rfl d_Mo_plain_236 (fun r z9 H locs hp V1 => ?_)
  obtain ⟨rfl, X2⟩ := hp
  have X := X.then X2
  have V := V1
  refine W.eq (g2 := F0 m 239 ls []) rfl ?_
  refine gh_retv hAe C V hr hlocks d_Mo_plain_239 (by first | decide | omega | (dsimp only; omega)) (by first | decide | omega | (dsimp only; omega)) ?_
  exact ⟨rfl, _, _, _, X, by have hle := hc1.2.2.2 (n1 - 97) (by omega); rw [show 3 + (n1 - 97) = n1 - 94 by omega, show 97 + (n1 - 97) = n1 by omega] at hle; exact mr_give h11 h12 (by omega) (hle.str (lt_one hlt))⟩
set_option maxHeartbeats 4000000 in
set_option maxRecDepth 100000 in
theorem c_Mo_plain_7 (l : Launch) (E : gh_E) (sz : Nat) (f : gh_F) (a : Nat) (ad : Nat → Nat) (S : Nat → Int32) (I : Nat → Nat → Int32) (J : Nat → Nat → Int64) (w cp φ : Nat) (b0 nv pb np : Nat) (v ve n1 : Nat) (O Y : vt) (hX : mo_R E f a ad S I J) (h45 : S 45 = nI (w + 1)) (hw : w < 14) (hc60 : cp < 60) (hph : I 35 cp = 0) (h11 : S 11 = nI nv) (h12 : S 12 = nI np) (hp8 : np + 32 ≤ 8800) (hnv : nv < 760) (h29 : 29 ≤ nv) (hb0 : b0 ≤ nv) (hpb : pb ≤ np) (hc : mc I J b0 nv pb np) (hit : I 36 cp = nI v) (hO : mw I J b0 nv pb np v O) (hel : I 37 cp = nI ve) (hY : mw I J b0 nv pb np ve Y) : gh_M l y_Mo_plain b_Mo_plain 6 none E sz [.ref a, .int (nI cp), .int 7] f { frames := 9, cells := 0, slots := 0, locals := 260 } (fun r g => r = none ∧ ∃ S2 I2 J2, mo_X E f g a ad S2 I2 J2 ∧ mr_A (some (vt_0 0)) S (va_up I 35 (upd (I 35) cp 1)) J b0 nv pb np w S2 I2 J2) := by
  refine gh_open (by decide) (Nat.le_of_ble_eq_true rfl) ?_
  intro p e s m args below meth c A ls hAe C V hr hlocks hname hl
  have hx := C.1
  have hb := C.2.1
  have hl : lv_has ls 6 [(0, .ref a), (1, .int (nI cp)), (2, .int 7)] := hl
  have X : mo_X E f f a ad S I J := ⟨hX, gh_fr.rf⟩
  refine lv_aload_n hx hb d_Mo_plain_0 rfl (lv_at hl 0 rfl) ?_
  refine mo_getA C V X 35 (by decide) (by decide) f_Mo_88 rfl d_Mo_plain_1 ?_
  refine lv_iload_n hx hb d_Mo_plain_4 rfl (lv_at hl 1 rfl) ?_
  refine mo_ild (k := 35) (i := cp) (n := 60) C V X (by decide) (by decide) rfl (by omega) (by decide) d_Mo_plain_5 ?_
  rw [show I 35 cp = 0 from hph]
  refine lv_iconst (v := 1) hx hb d_Mo_plain_6 (by decide) ?_
  refine lv_icmp_ne (tgt := 14) hx hb d_Mo_plain_7 (by decide) (fun c1 => ?_) (fun c1 => absurd c1 (by decide))
  refine lv_iconst (v := 0) hx hb d_Mo_plain_14 (by decide) ?_
  refine lv_istore_n hx hb d_Mo_plain_15 rfl hl (by decide) rfl (fun ls hl => ?_)
  have hl : lv_has ls 6 [(3, .int 0), (0, .ref a), (1, .int (nI cp)), (2, .int 7)] := hl
  refine lv_aload_n hx hb d_Mo_plain_16 rfl (lv_at hl 1 rfl) ?_
  refine mo_getA C V X 35 (by decide) (by decide) f_Mo_88 rfl d_Mo_plain_17 ?_
  refine lv_iload_n hx hb d_Mo_plain_20 rfl (lv_at hl 2 rfl) ?_
  refine lv_iconst (v := 1) hx hb d_Mo_plain_21 (by decide) ?_
  refine mo_ist (k := 35) (i := cp) (n := 60) C V X (by decide) (by decide) rfl (by omega) (by decide) d_Mo_plain_22 (fun f1 H locs V1 X1 => ?_)
  clear V X
  have V := V1
  have X := X1
  clear V1 X1
  have hm35 : ma I J (va_up I 35 (upd (I 35) cp 1)) J b0 nv pb np := ma_other (fun k hk => va_up_n (by omega))
  have hO1 := hO.keep hm35 (Nat.le_refl _) (Nat.le_refl _) (by omega)
  have hY1 := hY.keep hm35 (Nat.le_refl _) (Nat.le_refl _) (by omega)
  have hc1 := hc.keep hm35 (Nat.le_refl _) (Nat.le_refl _) (by omega)
  refine lv_aload_n hx hb d_Mo_plain_23 rfl (lv_at hl 1 rfl) ?_
  refine mo_getA C V X 36 (by decide) (by decide) f_Mo_91 rfl d_Mo_plain_24 ?_
  refine lv_iload_n hx hb d_Mo_plain_27 rfl (lv_at hl 2 rfl) ?_
  refine mo_ild (k := 36) (i := cp) (n := 60) C V X (by decide) (by decide) rfl (by omega) (by decide) d_Mo_plain_28 ?_
  rw [show (va_up I 35 (upd (I 35) cp 1)) 36 cp = nI v from ((congrFun (va_up_n (by decide)) cp).trans (hit))]
  refine lv_istore hx hb d_Mo_plain_29 hl (by decide) rfl (fun ls hl => ?_)
  have hl : lv_has ls 6 [(4, .int (nI v)), (3, .int 0), (0, .ref a), (1, .int (nI cp)), (2, .int 7)] := hl
  refine lv_iload_n hx hb d_Mo_plain_31 rfl (lv_at hl 3 rfl) ?_
  refine lv_bipush (v := 59) hx hb d_Mo_plain_32 (by decide) ?_
  refine lv_icmp_ge (tgt := 48) hx hb d_Mo_plain_34 (by decide) (fun c2 => ?_) (fun c2 => ?_)
  · have c2 : 59 ≤ cp := by rw [← gq_le (a := 59) (b := cp) (by omega) (by omega)]; exact c2
    refine lv_iconst (v := 0) hx hb d_Mo_plain_48 (by decide) ?_
    refine lv_istore hx hb d_Mo_plain_49 hl (by decide) rfl (fun ls hl => ?_)
    have hl : lv_has ls 6 [(5, .int 0), (4, .int (nI v)), (3, .int 0), (0, .ref a), (1, .int (nI cp)), (2, .int 7)] := hl
    refine lv_iload_n hx hb d_Mo_plain_51 rfl (lv_at hl 2 rfl) ?_
    refine lv_if_ne (tgt := 61) hx hb d_Mo_plain_52 (by decide) (fun c3 => absurd (by decide) c3) (fun c3 => ?_)
    refine lv_iload_n hx hb d_Mo_plain_55 rfl (lv_at hl 5 rfl) ?_
    refine lv_bipush (v := 17) hx hb d_Mo_plain_56 (by decide) ?_
    refine lv_icmp_ne (tgt := 69) hx hb d_Mo_plain_58 (by decide) (fun c4 => ?_) (fun c4 => absurd c4 (by decide))
    refine lv_iload_n hx hb d_Mo_plain_69 rfl (lv_at hl 5 rfl) ?_
    refine lv_bipush (v := 18) hx hb d_Mo_plain_70 (by decide) ?_
    refine lv_icmp_ne (tgt := 83) hx hb d_Mo_plain_72 (by decide) (fun c5 => ?_) (fun c5 => absurd c5 (by decide))
    refine lv_iload_n hx hb d_Mo_plain_83 rfl (lv_at hl 5 rfl) ?_
    refine lv_iconst (v := 1) hx hb d_Mo_plain_84 (by decide) ?_
    refine lv_icmp_ne (tgt := 99) hx hb d_Mo_plain_85 (by decide) (fun c6 => ?_) (fun c6 => absurd c6 (by decide))
    refine lv_iload_n hx hb d_Mo_plain_99 rfl (lv_at hl 5 rfl) ?_
    refine lv_iconst (v := 2) hx hb d_Mo_plain_100 (by decide) ?_
    refine lv_icmp_ne (tgt := 119) hx hb d_Mo_plain_101 (by decide) (fun c7 => ?_) (fun c7 => absurd c7 (by decide))
    refine lv_iload_n hx hb d_Mo_plain_119 rfl (lv_at hl 5 rfl) ?_
    refine lv_iconst (v := 5) hx hb d_Mo_plain_120 (by decide) ?_
    refine lv_icmp_ne (tgt := 143) hx hb d_Mo_plain_121 (by decide) (fun c8 => ?_) (fun c8 => absurd c8 (by decide))
    refine lv_iload_n hx hb d_Mo_plain_143 rfl (lv_at hl 5 rfl) ?_
    refine lv_bipush (v := 20) hx hb d_Mo_plain_144 (by decide) ?_
    refine lv_icmp_ne (tgt := 158) hx hb d_Mo_plain_146 (by decide) (fun c9 => ?_) (fun c9 => absurd c9 (by decide))
    refine lv_iload_n hx hb d_Mo_plain_158 rfl (lv_at hl 5 rfl) ?_
    refine lv_bipush (v := 21) hx hb d_Mo_plain_159 (by decide) ?_
    refine lv_icmp_ne (tgt := 173) hx hb d_Mo_plain_161 (by decide) (fun c10 => ?_) (fun c10 => absurd c10 (by decide))
    refine lv_aload_n hx hb d_Mo_plain_173 rfl (lv_at hl 3 rfl) ?_
    refine lv_iload_n hx hb d_Mo_plain_174 rfl (lv_at hl 5 rfl) ?_
    refine lv_if_ne (tgt := 183) hx hb d_Mo_plain_175 (by decide) (fun c11 => ?_) (fun c11 => absurd c11 (by decide))
    refine lv_iload_n hx hb d_Mo_plain_183 rfl (lv_at hl 5 rfl) ?_
    refine lv_bipush (v := 6) hx hb d_Mo_plain_184 (by decide) ?_
    refine lv_icmp_ne (tgt := 197) hx hb d_Mo_plain_186 (by decide) (fun c12 => ?_) (fun c12 => absurd c12 (by decide))
    refine lv_iload_n hx hb d_Mo_plain_197 rfl (lv_at hl 5 rfl) ?_
    refine lv_bipush (v := 15) hx hb d_Mo_plain_198 (by decide) ?_
    refine lv_icmp_ne (tgt := 212) hx hb d_Mo_plain_200 (by decide) (fun c13 => ?_) (fun c13 => absurd c13 (by decide))
    refine lv_iload_n hx hb d_Mo_plain_212 rfl (lv_at hl 5 rfl) ?_
    refine lv_bipush (v := 19) hx hb d_Mo_plain_213 (by decide) ?_
    refine lv_icmp_ne (tgt := 235) hx hb d_Mo_plain_215 (by decide) (fun c14 => ?_) (fun c14 => absurd c14 (by decide))
    refine lv_iconst (v := 0) hx hb d_Mo_plain_235 (by decide) ?_
    refine gh_callV C V hl.1 m_Mo_give l_Mo_342 (c_Mo_give l E _ _ a ad _ _ _ 0 w X.1 h45) rfl X.1.1 gc_Mo ⟨by first | decide | omega | (dsimp only; omega), by first | decide | omega | (dsimp only; omega)⟩ ⟨by first | decide | omega | (dsimp only; omega), by first | decide | omega | (dsimp only; omega)⟩ (Nat.le_of_ble_eq_true rfl) rfl d_Mo_plain_236 (fun r z9 H locs hp V1 => ?_)
    obtain ⟨rfl, X2⟩ := hp
    have X := X.then X2
    have V := V1
    refine W.eq (g2 := F0 m 239 ls []) rfl ?_
    refine gh_retv hAe C V hr hlocks d_Mo_plain_239 (by first | decide | omega | (dsimp only; omega)) (by first | decide | omega | (dsimp only; omega)) ?_
    exact ⟨rfl, _, _, _, X, mr_give (u := 0) h11 h12 (by omega) hc1.1⟩
  · have c2 : ¬ 59 ≤ cp := by rw [← gq_le (a := 59) (b := cp) (by omega) (by omega)]; exact c2
    refine lv_aload_n hx hb d_Mo_plain_37 rfl (lv_at hl 2 rfl) ?_
    refine mo_getA C V X 33 (by decide) (by decide) f_Mo_82 rfl d_Mo_plain_38 ?_
    refine lv_iload_n hx hb d_Mo_plain_41 rfl (lv_at hl 3 rfl) ?_
    refine lv_iconst (v := 1) hx hb d_Mo_plain_42 (by decide) ?_
    refine gn_iadd (a := cp) (b := 1) hx hb d_Mo_plain_43 ?_
    refine mo_ild (k := 33) (i := cp + 1) (n := 60) C V X (by decide) (by decide) rfl (by omega) (by decide) d_Mo_plain_44 ?_
    refine lv_goto (tgt := 49) hx hb d_Mo_plain_45 (by decide) ?_
    refine lv_istore hx hb d_Mo_plain_49 hl (by decide) rfl (fun ls hl => ?_)
    have hl : lv_has ls 6 [(5, .int ((va_up I 35 (upd (I 35) cp 1)) 33 (cp + 1))), (4, .int (nI v)), (3, .int 0), (0, .ref a), (1, .int (nI cp)), (2, .int 7)] := hl
    refine lv_iload_n hx hb d_Mo_plain_51 rfl (lv_at hl 2 rfl) ?_
    refine lv_if_ne (tgt := 61) hx hb d_Mo_plain_52 (by decide) (fun c15 => absurd (by decide) c15) (fun c15 => ?_)
    refine lv_iload_n hx hb d_Mo_plain_55 rfl (lv_at hl 5 rfl) ?_
    refine lv_bipush (v := 17) hx hb d_Mo_plain_56 (by decide) ?_
    refine lv_icmp_ne (tgt := 69) hx hb d_Mo_plain_58 (by decide) (fun c16 => ?_) (fun c16 => absurd c16 (by decide))
    refine lv_iload_n hx hb d_Mo_plain_69 rfl (lv_at hl 5 rfl) ?_
    refine lv_bipush (v := 18) hx hb d_Mo_plain_70 (by decide) ?_
    refine lv_icmp_ne (tgt := 83) hx hb d_Mo_plain_72 (by decide) (fun c17 => ?_) (fun c17 => absurd c17 (by decide))
    refine lv_iload_n hx hb d_Mo_plain_83 rfl (lv_at hl 5 rfl) ?_
    refine lv_iconst (v := 1) hx hb d_Mo_plain_84 (by decide) ?_
    refine lv_icmp_ne (tgt := 99) hx hb d_Mo_plain_85 (by decide) (fun c18 => ?_) (fun c18 => absurd c18 (by decide))
    refine lv_iload_n hx hb d_Mo_plain_99 rfl (lv_at hl 5 rfl) ?_
    refine lv_iconst (v := 2) hx hb d_Mo_plain_100 (by decide) ?_
    refine lv_icmp_ne (tgt := 119) hx hb d_Mo_plain_101 (by decide) (fun c19 => ?_) (fun c19 => absurd c19 (by decide))
    refine lv_iload_n hx hb d_Mo_plain_119 rfl (lv_at hl 5 rfl) ?_
    refine lv_iconst (v := 5) hx hb d_Mo_plain_120 (by decide) ?_
    refine lv_icmp_ne (tgt := 143) hx hb d_Mo_plain_121 (by decide) (fun c20 => ?_) (fun c20 => absurd c20 (by decide))
    refine lv_iload_n hx hb d_Mo_plain_143 rfl (lv_at hl 5 rfl) ?_
    refine lv_bipush (v := 20) hx hb d_Mo_plain_144 (by decide) ?_
    refine lv_icmp_ne (tgt := 158) hx hb d_Mo_plain_146 (by decide) (fun c21 => ?_) (fun c21 => absurd c21 (by decide))
    refine lv_iload_n hx hb d_Mo_plain_158 rfl (lv_at hl 5 rfl) ?_
    refine lv_bipush (v := 21) hx hb d_Mo_plain_159 (by decide) ?_
    refine lv_icmp_ne (tgt := 173) hx hb d_Mo_plain_161 (by decide) (fun c22 => ?_) (fun c22 => absurd c22 (by decide))
    refine lv_aload_n hx hb d_Mo_plain_173 rfl (lv_at hl 3 rfl) ?_
    refine lv_iload_n hx hb d_Mo_plain_174 rfl (lv_at hl 5 rfl) ?_
    refine lv_if_ne (tgt := 183) hx hb d_Mo_plain_175 (by decide) (fun c23 => ?_) (fun c23 => absurd c23 (by decide))
    refine lv_iload_n hx hb d_Mo_plain_183 rfl (lv_at hl 5 rfl) ?_
    refine lv_bipush (v := 6) hx hb d_Mo_plain_184 (by decide) ?_
    refine lv_icmp_ne (tgt := 197) hx hb d_Mo_plain_186 (by decide) (fun c24 => ?_) (fun c24 => absurd c24 (by decide))
    refine lv_iload_n hx hb d_Mo_plain_197 rfl (lv_at hl 5 rfl) ?_
    refine lv_bipush (v := 15) hx hb d_Mo_plain_198 (by decide) ?_
    refine lv_icmp_ne (tgt := 212) hx hb d_Mo_plain_200 (by decide) (fun c25 => ?_) (fun c25 => absurd c25 (by decide))
    refine lv_iload_n hx hb d_Mo_plain_212 rfl (lv_at hl 5 rfl) ?_
    refine lv_bipush (v := 19) hx hb d_Mo_plain_213 (by decide) ?_
    refine lv_icmp_ne (tgt := 235) hx hb d_Mo_plain_215 (by decide) (fun c26 => ?_) (fun c26 => absurd c26 (by decide))
    refine lv_iconst (v := 0) hx hb d_Mo_plain_235 (by decide) ?_
    refine gh_callV C V hl.1 m_Mo_give l_Mo_342 (c_Mo_give l E _ _ a ad _ _ _ 0 w X.1 h45) rfl X.1.1 gc_Mo ⟨by first | decide | omega | (dsimp only; omega), by first | decide | omega | (dsimp only; omega)⟩ ⟨by first | decide | omega | (dsimp only; omega), by first | decide | omega | (dsimp only; omega)⟩ (Nat.le_of_ble_eq_true rfl) rfl d_Mo_plain_236 (fun r z9 H locs hp V1 => ?_)
    obtain ⟨rfl, X2⟩ := hp
    have X := X.then X2
    have V := V1
    refine W.eq (g2 := F0 m 239 ls []) rfl ?_
    refine gh_retv hAe C V hr hlocks d_Mo_plain_239 (by first | decide | omega | (dsimp only; omega)) (by first | decide | omega | (dsimp only; omega)) ?_
    exact ⟨rfl, _, _, _, X, mr_give (u := 0) h11 h12 (by omega) hc1.1⟩
set_option maxHeartbeats 4000000 in
set_option maxRecDepth 100000 in
theorem c_Mo_plain_15 (l : Launch) (E : gh_E) (sz : Nat) (f : gh_F) (a : Nat) (ad : Nat → Nat) (S : Nat → Int32) (I : Nat → Nat → Int32) (J : Nat → Nat → Int64) (w cp φ : Nat) (b0 nv pb np : Nat) (v ve n1 : Nat) (O Y : vt) (hX : mo_R E f a ad S I J) (h45 : S 45 = nI (w + 1)) (hw : w < 14) (hc60 : cp < 60) (hph : I 35 cp = 0) (h11 : S 11 = nI nv) (h12 : S 12 = nI np) (hp8 : np + 32 ≤ 8800) (hnv : nv < 760) (h29 : 29 ≤ nv) (hb0 : b0 ≤ nv) (hpb : pb ≤ np) (hc : mc I J b0 nv pb np) (hit : I 36 cp = nI v) (hO : mw I J b0 nv pb np v O) (hel : I 37 cp = nI ve) (hY : mw I J b0 nv pb np ve Y) : gh_M l y_Mo_plain b_Mo_plain 6 none E sz [.ref a, .int (nI cp), .int 15] f { frames := 9, cells := 0, slots := 0, locals := 260 } (fun r g => r = none ∧ ∃ S2 I2 J2, mo_X E f g a ad S2 I2 J2 ∧ mr_A (some Y) S (va_up I 35 (upd (I 35) cp 1)) J b0 nv pb np w S2 I2 J2) := by
  refine gh_open (by decide) (Nat.le_of_ble_eq_true rfl) ?_
  intro p e s m args below meth c A ls hAe C V hr hlocks hname hl
  have hx := C.1
  have hb := C.2.1
  have hl : lv_has ls 6 [(0, .ref a), (1, .int (nI cp)), (2, .int 15)] := hl
  have X : mo_X E f f a ad S I J := ⟨hX, gh_fr.rf⟩
  refine lv_aload_n hx hb d_Mo_plain_0 rfl (lv_at hl 0 rfl) ?_
  refine mo_getA C V X 35 (by decide) (by decide) f_Mo_88 rfl d_Mo_plain_1 ?_
  refine lv_iload_n hx hb d_Mo_plain_4 rfl (lv_at hl 1 rfl) ?_
  refine mo_ild (k := 35) (i := cp) (n := 60) C V X (by decide) (by decide) rfl (by omega) (by decide) d_Mo_plain_5 ?_
  rw [show I 35 cp = 0 from hph]
  refine lv_iconst (v := 1) hx hb d_Mo_plain_6 (by decide) ?_
  refine lv_icmp_ne (tgt := 14) hx hb d_Mo_plain_7 (by decide) (fun c1 => ?_) (fun c1 => absurd c1 (by decide))
  refine lv_iconst (v := 0) hx hb d_Mo_plain_14 (by decide) ?_
  refine lv_istore_n hx hb d_Mo_plain_15 rfl hl (by decide) rfl (fun ls hl => ?_)
  have hl : lv_has ls 6 [(3, .int 0), (0, .ref a), (1, .int (nI cp)), (2, .int 15)] := hl
  refine lv_aload_n hx hb d_Mo_plain_16 rfl (lv_at hl 1 rfl) ?_
  refine mo_getA C V X 35 (by decide) (by decide) f_Mo_88 rfl d_Mo_plain_17 ?_
  refine lv_iload_n hx hb d_Mo_plain_20 rfl (lv_at hl 2 rfl) ?_
  refine lv_iconst (v := 1) hx hb d_Mo_plain_21 (by decide) ?_
  refine mo_ist (k := 35) (i := cp) (n := 60) C V X (by decide) (by decide) rfl (by omega) (by decide) d_Mo_plain_22 (fun f1 H locs V1 X1 => ?_)
  clear V X
  have V := V1
  have X := X1
  clear V1 X1
  have hm35 : ma I J (va_up I 35 (upd (I 35) cp 1)) J b0 nv pb np := ma_other (fun k hk => va_up_n (by omega))
  have hO1 := hO.keep hm35 (Nat.le_refl _) (Nat.le_refl _) (by omega)
  have hY1 := hY.keep hm35 (Nat.le_refl _) (Nat.le_refl _) (by omega)
  have hc1 := hc.keep hm35 (Nat.le_refl _) (Nat.le_refl _) (by omega)
  refine lv_aload_n hx hb d_Mo_plain_23 rfl (lv_at hl 1 rfl) ?_
  refine mo_getA C V X 36 (by decide) (by decide) f_Mo_91 rfl d_Mo_plain_24 ?_
  refine lv_iload_n hx hb d_Mo_plain_27 rfl (lv_at hl 2 rfl) ?_
  refine mo_ild (k := 36) (i := cp) (n := 60) C V X (by decide) (by decide) rfl (by omega) (by decide) d_Mo_plain_28 ?_
  rw [show (va_up I 35 (upd (I 35) cp 1)) 36 cp = nI v from ((congrFun (va_up_n (by decide)) cp).trans (hit))]
  refine lv_istore hx hb d_Mo_plain_29 hl (by decide) rfl (fun ls hl => ?_)
  have hl : lv_has ls 6 [(4, .int (nI v)), (3, .int 0), (0, .ref a), (1, .int (nI cp)), (2, .int 15)] := hl
  refine lv_iload_n hx hb d_Mo_plain_31 rfl (lv_at hl 3 rfl) ?_
  refine lv_bipush (v := 59) hx hb d_Mo_plain_32 (by decide) ?_
  refine lv_icmp_ge (tgt := 48) hx hb d_Mo_plain_34 (by decide) (fun c2 => ?_) (fun c2 => ?_)
  · have c2 : 59 ≤ cp := by rw [← gq_le (a := 59) (b := cp) (by omega) (by omega)]; exact c2
    refine lv_iconst (v := 0) hx hb d_Mo_plain_48 (by decide) ?_
    refine lv_istore hx hb d_Mo_plain_49 hl (by decide) rfl (fun ls hl => ?_)
    have hl : lv_has ls 6 [(5, .int 0), (4, .int (nI v)), (3, .int 0), (0, .ref a), (1, .int (nI cp)), (2, .int 15)] := hl
    refine lv_iload_n hx hb d_Mo_plain_51 rfl (lv_at hl 2 rfl) ?_
    refine lv_if_ne (tgt := 61) hx hb d_Mo_plain_52 (by decide) (fun c3 => absurd (by decide) c3) (fun c3 => ?_)
    refine lv_iload_n hx hb d_Mo_plain_55 rfl (lv_at hl 5 rfl) ?_
    refine lv_bipush (v := 17) hx hb d_Mo_plain_56 (by decide) ?_
    refine lv_icmp_ne (tgt := 69) hx hb d_Mo_plain_58 (by decide) (fun c4 => ?_) (fun c4 => absurd c4 (by decide))
    refine lv_iload_n hx hb d_Mo_plain_69 rfl (lv_at hl 5 rfl) ?_
    refine lv_bipush (v := 18) hx hb d_Mo_plain_70 (by decide) ?_
    refine lv_icmp_ne (tgt := 83) hx hb d_Mo_plain_72 (by decide) (fun c5 => ?_) (fun c5 => absurd c5 (by decide))
    refine lv_iload_n hx hb d_Mo_plain_83 rfl (lv_at hl 5 rfl) ?_
    refine lv_iconst (v := 1) hx hb d_Mo_plain_84 (by decide) ?_
    refine lv_icmp_ne (tgt := 99) hx hb d_Mo_plain_85 (by decide) (fun c6 => ?_) (fun c6 => absurd c6 (by decide))
    refine lv_iload_n hx hb d_Mo_plain_99 rfl (lv_at hl 5 rfl) ?_
    refine lv_iconst (v := 2) hx hb d_Mo_plain_100 (by decide) ?_
    refine lv_icmp_ne (tgt := 119) hx hb d_Mo_plain_101 (by decide) (fun c7 => ?_) (fun c7 => absurd c7 (by decide))
    refine lv_iload_n hx hb d_Mo_plain_119 rfl (lv_at hl 5 rfl) ?_
    refine lv_iconst (v := 5) hx hb d_Mo_plain_120 (by decide) ?_
    refine lv_icmp_ne (tgt := 143) hx hb d_Mo_plain_121 (by decide) (fun c8 => ?_) (fun c8 => absurd c8 (by decide))
    refine lv_iload_n hx hb d_Mo_plain_143 rfl (lv_at hl 5 rfl) ?_
    refine lv_bipush (v := 20) hx hb d_Mo_plain_144 (by decide) ?_
    refine lv_icmp_ne (tgt := 158) hx hb d_Mo_plain_146 (by decide) (fun c9 => ?_) (fun c9 => absurd c9 (by decide))
    refine lv_iload_n hx hb d_Mo_plain_158 rfl (lv_at hl 5 rfl) ?_
    refine lv_bipush (v := 21) hx hb d_Mo_plain_159 (by decide) ?_
    refine lv_icmp_ne (tgt := 173) hx hb d_Mo_plain_161 (by decide) (fun c10 => ?_) (fun c10 => absurd c10 (by decide))
    refine lv_aload_n hx hb d_Mo_plain_173 rfl (lv_at hl 3 rfl) ?_
    refine lv_iload_n hx hb d_Mo_plain_174 rfl (lv_at hl 5 rfl) ?_
    refine lv_if_ne (tgt := 183) hx hb d_Mo_plain_175 (by decide) (fun c11 => ?_) (fun c11 => absurd c11 (by decide))
    refine lv_iload_n hx hb d_Mo_plain_183 rfl (lv_at hl 5 rfl) ?_
    refine lv_bipush (v := 6) hx hb d_Mo_plain_184 (by decide) ?_
    refine lv_icmp_ne (tgt := 197) hx hb d_Mo_plain_186 (by decide) (fun c12 => ?_) (fun c12 => absurd c12 (by decide))
    refine lv_iload_n hx hb d_Mo_plain_197 rfl (lv_at hl 5 rfl) ?_
    refine lv_bipush (v := 15) hx hb d_Mo_plain_198 (by decide) ?_
    refine lv_icmp_ne (tgt := 212) hx hb d_Mo_plain_200 (by decide) (fun c13 => absurd (by decide) c13) (fun c13 => ?_)
    refine lv_aload_n hx hb d_Mo_plain_203 rfl (lv_at hl 3 rfl) ?_
    refine mo_getA C V X 37 (by decide) (by decide) f_Mo_94 rfl d_Mo_plain_204 ?_
    refine lv_iload_n hx hb d_Mo_plain_207 rfl (lv_at hl 4 rfl) ?_
    refine mo_ild (k := 37) (i := cp) (n := 60) C V X (by decide) (by decide) rfl (by omega) (by decide) d_Mo_plain_208 ?_
    rw [show (va_up I 35 (upd (I 35) cp 1)) 37 cp = nI ve from ((congrFun (va_up_n (by decide)) cp).trans (hel))]
    refine lv_goto (tgt := 236) hx hb d_Mo_plain_209 (by decide) ?_
    refine gh_callV C V hl.1 m_Mo_give l_Mo_342 (c_Mo_give l E _ _ a ad _ _ _ (nI ve) w X.1 h45) rfl X.1.1 gc_Mo ⟨by first | decide | omega | (dsimp only; omega), by first | decide | omega | (dsimp only; omega)⟩ ⟨by first | decide | omega | (dsimp only; omega), by first | decide | omega | (dsimp only; omega)⟩ (Nat.le_of_ble_eq_true rfl) rfl d_Mo_plain_236 (fun r z9 H locs hp V1 => ?_)
    obtain ⟨rfl, X2⟩ := hp
    have X := X.then X2
    have V := V1
    refine W.eq (g2 := F0 m 239 ls []) rfl ?_
    refine gh_retv hAe C V hr hlocks d_Mo_plain_239 (by first | decide | omega | (dsimp only; omega)) (by first | decide | omega | (dsimp only; omega)) ?_
    exact ⟨rfl, _, _, _, X, mr_give h11 h12 (by omega) hY1⟩
  · have c2 : ¬ 59 ≤ cp := by rw [← gq_le (a := 59) (b := cp) (by omega) (by omega)]; exact c2
    refine lv_aload_n hx hb d_Mo_plain_37 rfl (lv_at hl 2 rfl) ?_
    refine mo_getA C V X 33 (by decide) (by decide) f_Mo_82 rfl d_Mo_plain_38 ?_
    refine lv_iload_n hx hb d_Mo_plain_41 rfl (lv_at hl 3 rfl) ?_
    refine lv_iconst (v := 1) hx hb d_Mo_plain_42 (by decide) ?_
    refine gn_iadd (a := cp) (b := 1) hx hb d_Mo_plain_43 ?_
    refine mo_ild (k := 33) (i := cp + 1) (n := 60) C V X (by decide) (by decide) rfl (by omega) (by decide) d_Mo_plain_44 ?_
    refine lv_goto (tgt := 49) hx hb d_Mo_plain_45 (by decide) ?_
    refine lv_istore hx hb d_Mo_plain_49 hl (by decide) rfl (fun ls hl => ?_)
    have hl : lv_has ls 6 [(5, .int ((va_up I 35 (upd (I 35) cp 1)) 33 (cp + 1))), (4, .int (nI v)), (3, .int 0), (0, .ref a), (1, .int (nI cp)), (2, .int 15)] := hl
    refine lv_iload_n hx hb d_Mo_plain_51 rfl (lv_at hl 2 rfl) ?_
    refine lv_if_ne (tgt := 61) hx hb d_Mo_plain_52 (by decide) (fun c14 => absurd (by decide) c14) (fun c14 => ?_)
    refine lv_iload_n hx hb d_Mo_plain_55 rfl (lv_at hl 5 rfl) ?_
    refine lv_bipush (v := 17) hx hb d_Mo_plain_56 (by decide) ?_
    refine lv_icmp_ne (tgt := 69) hx hb d_Mo_plain_58 (by decide) (fun c15 => ?_) (fun c15 => absurd c15 (by decide))
    refine lv_iload_n hx hb d_Mo_plain_69 rfl (lv_at hl 5 rfl) ?_
    refine lv_bipush (v := 18) hx hb d_Mo_plain_70 (by decide) ?_
    refine lv_icmp_ne (tgt := 83) hx hb d_Mo_plain_72 (by decide) (fun c16 => ?_) (fun c16 => absurd c16 (by decide))
    refine lv_iload_n hx hb d_Mo_plain_83 rfl (lv_at hl 5 rfl) ?_
    refine lv_iconst (v := 1) hx hb d_Mo_plain_84 (by decide) ?_
    refine lv_icmp_ne (tgt := 99) hx hb d_Mo_plain_85 (by decide) (fun c17 => ?_) (fun c17 => absurd c17 (by decide))
    refine lv_iload_n hx hb d_Mo_plain_99 rfl (lv_at hl 5 rfl) ?_
    refine lv_iconst (v := 2) hx hb d_Mo_plain_100 (by decide) ?_
    refine lv_icmp_ne (tgt := 119) hx hb d_Mo_plain_101 (by decide) (fun c18 => ?_) (fun c18 => absurd c18 (by decide))
    refine lv_iload_n hx hb d_Mo_plain_119 rfl (lv_at hl 5 rfl) ?_
    refine lv_iconst (v := 5) hx hb d_Mo_plain_120 (by decide) ?_
    refine lv_icmp_ne (tgt := 143) hx hb d_Mo_plain_121 (by decide) (fun c19 => ?_) (fun c19 => absurd c19 (by decide))
    refine lv_iload_n hx hb d_Mo_plain_143 rfl (lv_at hl 5 rfl) ?_
    refine lv_bipush (v := 20) hx hb d_Mo_plain_144 (by decide) ?_
    refine lv_icmp_ne (tgt := 158) hx hb d_Mo_plain_146 (by decide) (fun c20 => ?_) (fun c20 => absurd c20 (by decide))
    refine lv_iload_n hx hb d_Mo_plain_158 rfl (lv_at hl 5 rfl) ?_
    refine lv_bipush (v := 21) hx hb d_Mo_plain_159 (by decide) ?_
    refine lv_icmp_ne (tgt := 173) hx hb d_Mo_plain_161 (by decide) (fun c21 => ?_) (fun c21 => absurd c21 (by decide))
    refine lv_aload_n hx hb d_Mo_plain_173 rfl (lv_at hl 3 rfl) ?_
    refine lv_iload_n hx hb d_Mo_plain_174 rfl (lv_at hl 5 rfl) ?_
    refine lv_if_ne (tgt := 183) hx hb d_Mo_plain_175 (by decide) (fun c22 => ?_) (fun c22 => absurd c22 (by decide))
    refine lv_iload_n hx hb d_Mo_plain_183 rfl (lv_at hl 5 rfl) ?_
    refine lv_bipush (v := 6) hx hb d_Mo_plain_184 (by decide) ?_
    refine lv_icmp_ne (tgt := 197) hx hb d_Mo_plain_186 (by decide) (fun c23 => ?_) (fun c23 => absurd c23 (by decide))
    refine lv_iload_n hx hb d_Mo_plain_197 rfl (lv_at hl 5 rfl) ?_
    refine lv_bipush (v := 15) hx hb d_Mo_plain_198 (by decide) ?_
    refine lv_icmp_ne (tgt := 212) hx hb d_Mo_plain_200 (by decide) (fun c24 => absurd (by decide) c24) (fun c24 => ?_)
    refine lv_aload_n hx hb d_Mo_plain_203 rfl (lv_at hl 3 rfl) ?_
    refine mo_getA C V X 37 (by decide) (by decide) f_Mo_94 rfl d_Mo_plain_204 ?_
    refine lv_iload_n hx hb d_Mo_plain_207 rfl (lv_at hl 4 rfl) ?_
    refine mo_ild (k := 37) (i := cp) (n := 60) C V X (by decide) (by decide) rfl (by omega) (by decide) d_Mo_plain_208 ?_
    rw [show (va_up I 35 (upd (I 35) cp 1)) 37 cp = nI ve from ((congrFun (va_up_n (by decide)) cp).trans (hel))]
    refine lv_goto (tgt := 236) hx hb d_Mo_plain_209 (by decide) ?_
    refine gh_callV C V hl.1 m_Mo_give l_Mo_342 (c_Mo_give l E _ _ a ad _ _ _ (nI ve) w X.1 h45) rfl X.1.1 gc_Mo ⟨by first | decide | omega | (dsimp only; omega), by first | decide | omega | (dsimp only; omega)⟩ ⟨by first | decide | omega | (dsimp only; omega), by first | decide | omega | (dsimp only; omega)⟩ (Nat.le_of_ble_eq_true rfl) rfl d_Mo_plain_236 (fun r z9 H locs hp V1 => ?_)
    obtain ⟨rfl, X2⟩ := hp
    have X := X.then X2
    have V := V1
    refine W.eq (g2 := F0 m 239 ls []) rfl ?_
    refine gh_retv hAe C V hr hlocks d_Mo_plain_239 (by first | decide | omega | (dsimp only; omega)) (by first | decide | omega | (dsimp only; omega)) ?_
    exact ⟨rfl, _, _, _, X, mr_give h11 h12 (by omega) hY1⟩
set_option maxHeartbeats 4000000 in
set_option maxRecDepth 100000 in
theorem c_Mo_plain_18 (l : Launch) (E : gh_E) (sz : Nat) (f : gh_F) (a : Nat) (ad : Nat → Nat) (S : Nat → Int32) (I : Nat → Nat → Int32) (J : Nat → Nat → Int64) (w cp φ : Nat) (b0 nv pb np : Nat) (v ve n1 : Nat) (O Y : vt) (hX : mo_R E f a ad S I J) (h45 : S 45 = nI (w + 1)) (hw : w < 14) (hc60 : cp < 60) (hph : I 35 cp = 0) (h11 : S 11 = nI nv) (h12 : S 12 = nI np) (hp8 : np + 32 ≤ 8800) (hnv : nv < 760) (h29 : 29 ≤ nv) (hb0 : b0 ≤ nv) (hpb : pb ≤ np) (hc : mc I J b0 nv pb np) (hit : I 36 cp = nI v) (hO : mw I J b0 nv pb np v O) (hel : I 37 cp = nI ve) (hY : mw I J b0 nv pb np ve Y) : gh_M l y_Mo_plain b_Mo_plain 6 none E sz [.ref a, .int (nI cp), .int 18] f { frames := 9, cells := 0, slots := 0, locals := 260 } (fun r g => r = none ∧ ∃ S2 I2 J2, mo_X E f g a ad S2 I2 J2 ∧ mr_A (none) S (va_up I 35 (upd (I 35) cp 1)) J b0 nv pb np w S2 I2 J2) := by
  refine gh_open (by decide) (Nat.le_of_ble_eq_true rfl) ?_
  intro p e s m args below meth c A ls hAe C V hr hlocks hname hl
  have hx := C.1
  have hb := C.2.1
  have hl : lv_has ls 6 [(0, .ref a), (1, .int (nI cp)), (2, .int 18)] := hl
  have X : mo_X E f f a ad S I J := ⟨hX, gh_fr.rf⟩
  refine lv_aload_n hx hb d_Mo_plain_0 rfl (lv_at hl 0 rfl) ?_
  refine mo_getA C V X 35 (by decide) (by decide) f_Mo_88 rfl d_Mo_plain_1 ?_
  refine lv_iload_n hx hb d_Mo_plain_4 rfl (lv_at hl 1 rfl) ?_
  refine mo_ild (k := 35) (i := cp) (n := 60) C V X (by decide) (by decide) rfl (by omega) (by decide) d_Mo_plain_5 ?_
  rw [show I 35 cp = 0 from hph]
  refine lv_iconst (v := 1) hx hb d_Mo_plain_6 (by decide) ?_
  refine lv_icmp_ne (tgt := 14) hx hb d_Mo_plain_7 (by decide) (fun c1 => ?_) (fun c1 => absurd c1 (by decide))
  refine lv_iconst (v := 0) hx hb d_Mo_plain_14 (by decide) ?_
  refine lv_istore_n hx hb d_Mo_plain_15 rfl hl (by decide) rfl (fun ls hl => ?_)
  have hl : lv_has ls 6 [(3, .int 0), (0, .ref a), (1, .int (nI cp)), (2, .int 18)] := hl
  refine lv_aload_n hx hb d_Mo_plain_16 rfl (lv_at hl 1 rfl) ?_
  refine mo_getA C V X 35 (by decide) (by decide) f_Mo_88 rfl d_Mo_plain_17 ?_
  refine lv_iload_n hx hb d_Mo_plain_20 rfl (lv_at hl 2 rfl) ?_
  refine lv_iconst (v := 1) hx hb d_Mo_plain_21 (by decide) ?_
  refine mo_ist (k := 35) (i := cp) (n := 60) C V X (by decide) (by decide) rfl (by omega) (by decide) d_Mo_plain_22 (fun f1 H locs V1 X1 => ?_)
  clear V X
  have V := V1
  have X := X1
  clear V1 X1
  have hm35 : ma I J (va_up I 35 (upd (I 35) cp 1)) J b0 nv pb np := ma_other (fun k hk => va_up_n (by omega))
  have hO1 := hO.keep hm35 (Nat.le_refl _) (Nat.le_refl _) (by omega)
  have hY1 := hY.keep hm35 (Nat.le_refl _) (Nat.le_refl _) (by omega)
  have hc1 := hc.keep hm35 (Nat.le_refl _) (Nat.le_refl _) (by omega)
  refine lv_aload_n hx hb d_Mo_plain_23 rfl (lv_at hl 1 rfl) ?_
  refine mo_getA C V X 36 (by decide) (by decide) f_Mo_91 rfl d_Mo_plain_24 ?_
  refine lv_iload_n hx hb d_Mo_plain_27 rfl (lv_at hl 2 rfl) ?_
  refine mo_ild (k := 36) (i := cp) (n := 60) C V X (by decide) (by decide) rfl (by omega) (by decide) d_Mo_plain_28 ?_
  rw [show (va_up I 35 (upd (I 35) cp 1)) 36 cp = nI v from ((congrFun (va_up_n (by decide)) cp).trans (hit))]
  refine lv_istore hx hb d_Mo_plain_29 hl (by decide) rfl (fun ls hl => ?_)
  have hl : lv_has ls 6 [(4, .int (nI v)), (3, .int 0), (0, .ref a), (1, .int (nI cp)), (2, .int 18)] := hl
  refine lv_iload_n hx hb d_Mo_plain_31 rfl (lv_at hl 3 rfl) ?_
  refine lv_bipush (v := 59) hx hb d_Mo_plain_32 (by decide) ?_
  refine lv_icmp_ge (tgt := 48) hx hb d_Mo_plain_34 (by decide) (fun c2 => ?_) (fun c2 => ?_)
  · have c2 : 59 ≤ cp := by rw [← gq_le (a := 59) (b := cp) (by omega) (by omega)]; exact c2
    refine lv_iconst (v := 0) hx hb d_Mo_plain_48 (by decide) ?_
    refine lv_istore hx hb d_Mo_plain_49 hl (by decide) rfl (fun ls hl => ?_)
    have hl : lv_has ls 6 [(5, .int 0), (4, .int (nI v)), (3, .int 0), (0, .ref a), (1, .int (nI cp)), (2, .int 18)] := hl
    refine lv_iload_n hx hb d_Mo_plain_51 rfl (lv_at hl 2 rfl) ?_
    refine lv_if_ne (tgt := 61) hx hb d_Mo_plain_52 (by decide) (fun c3 => absurd (by decide) c3) (fun c3 => ?_)
    refine lv_iload_n hx hb d_Mo_plain_55 rfl (lv_at hl 5 rfl) ?_
    refine lv_bipush (v := 17) hx hb d_Mo_plain_56 (by decide) ?_
    refine lv_icmp_ne (tgt := 69) hx hb d_Mo_plain_58 (by decide) (fun c4 => ?_) (fun c4 => absurd c4 (by decide))
    refine lv_iload_n hx hb d_Mo_plain_69 rfl (lv_at hl 5 rfl) ?_
    refine lv_bipush (v := 18) hx hb d_Mo_plain_70 (by decide) ?_
    refine lv_icmp_ne (tgt := 83) hx hb d_Mo_plain_72 (by decide) (fun c5 => absurd (by decide) c5) (fun c5 => ?_)
    refine lv_aload_n hx hb d_Mo_plain_75 rfl (lv_at hl 3 rfl) ?_
    refine lv_iconst (v := 3) hx hb d_Mo_plain_76 (by decide) ?_
    refine gh_callV C V hl.1 m_Mo_tell l_Mo_289 (c_Mo_tell l E _ _ a ad _ _ _ 3 w X.1 h45) rfl X.1.1 gc_Mo ⟨by first | decide | omega | (dsimp only; omega), by first | decide | omega | (dsimp only; omega)⟩ ⟨by first | decide | omega | (dsimp only; omega), by first | decide | omega | (dsimp only; omega)⟩ (Nat.le_of_ble_eq_true rfl) rfl d_Mo_plain_77 (fun r z9 H locs hp V1 => ?_)
    obtain ⟨rfl, X2⟩ := hp
    have X := X.then X2
    have V := V1
    refine W.eq (g2 := F0 m 80 ls []) rfl ?_
    refine lv_goto (tgt := 239) hx hb d_Mo_plain_80 (by decide) ?_
    refine gh_retv hAe C V hr hlocks d_Mo_plain_239 (by first | decide | omega | (dsimp only; omega)) (by first | decide | omega | (dsimp only; omega)) ?_
    exact ⟨rfl, _, _, _, X, mr_fail h11 h12 (by omega)⟩
  · have c2 : ¬ 59 ≤ cp := by rw [← gq_le (a := 59) (b := cp) (by omega) (by omega)]; exact c2
    refine lv_aload_n hx hb d_Mo_plain_37 rfl (lv_at hl 2 rfl) ?_
    refine mo_getA C V X 33 (by decide) (by decide) f_Mo_82 rfl d_Mo_plain_38 ?_
    refine lv_iload_n hx hb d_Mo_plain_41 rfl (lv_at hl 3 rfl) ?_
    refine lv_iconst (v := 1) hx hb d_Mo_plain_42 (by decide) ?_
    refine gn_iadd (a := cp) (b := 1) hx hb d_Mo_plain_43 ?_
    refine mo_ild (k := 33) (i := cp + 1) (n := 60) C V X (by decide) (by decide) rfl (by omega) (by decide) d_Mo_plain_44 ?_
    refine lv_goto (tgt := 49) hx hb d_Mo_plain_45 (by decide) ?_
    refine lv_istore hx hb d_Mo_plain_49 hl (by decide) rfl (fun ls hl => ?_)
    have hl : lv_has ls 6 [(5, .int ((va_up I 35 (upd (I 35) cp 1)) 33 (cp + 1))), (4, .int (nI v)), (3, .int 0), (0, .ref a), (1, .int (nI cp)), (2, .int 18)] := hl
    refine lv_iload_n hx hb d_Mo_plain_51 rfl (lv_at hl 2 rfl) ?_
    refine lv_if_ne (tgt := 61) hx hb d_Mo_plain_52 (by decide) (fun c6 => absurd (by decide) c6) (fun c6 => ?_)
    refine lv_iload_n hx hb d_Mo_plain_55 rfl (lv_at hl 5 rfl) ?_
    refine lv_bipush (v := 17) hx hb d_Mo_plain_56 (by decide) ?_
    refine lv_icmp_ne (tgt := 69) hx hb d_Mo_plain_58 (by decide) (fun c7 => ?_) (fun c7 => absurd c7 (by decide))
    refine lv_iload_n hx hb d_Mo_plain_69 rfl (lv_at hl 5 rfl) ?_
    refine lv_bipush (v := 18) hx hb d_Mo_plain_70 (by decide) ?_
    refine lv_icmp_ne (tgt := 83) hx hb d_Mo_plain_72 (by decide) (fun c8 => absurd (by decide) c8) (fun c8 => ?_)
    refine lv_aload_n hx hb d_Mo_plain_75 rfl (lv_at hl 3 rfl) ?_
    refine lv_iconst (v := 3) hx hb d_Mo_plain_76 (by decide) ?_
    refine gh_callV C V hl.1 m_Mo_tell l_Mo_289 (c_Mo_tell l E _ _ a ad _ _ _ 3 w X.1 h45) rfl X.1.1 gc_Mo ⟨by first | decide | omega | (dsimp only; omega), by first | decide | omega | (dsimp only; omega)⟩ ⟨by first | decide | omega | (dsimp only; omega), by first | decide | omega | (dsimp only; omega)⟩ (Nat.le_of_ble_eq_true rfl) rfl d_Mo_plain_77 (fun r z9 H locs hp V1 => ?_)
    obtain ⟨rfl, X2⟩ := hp
    have X := X.then X2
    have V := V1
    refine W.eq (g2 := F0 m 80 ls []) rfl ?_
    refine lv_goto (tgt := 239) hx hb d_Mo_plain_80 (by decide) ?_
    refine gh_retv hAe C V hr hlocks d_Mo_plain_239 (by first | decide | omega | (dsimp only; omega)) (by first | decide | omega | (dsimp only; omega)) ?_
    exact ⟨rfl, _, _, _, X, mr_fail h11 h12 (by omega)⟩
set_option maxHeartbeats 4000000 in
set_option maxRecDepth 100000 in
theorem c_Mo_plain_20 (l : Launch) (E : gh_E) (sz : Nat) (f : gh_F) (a : Nat) (ad : Nat → Nat) (S : Nat → Int32) (I : Nat → Nat → Int32) (J : Nat → Nat → Int64) (w cp φ : Nat) (b0 nv pb np : Nat) (v ve n1 : Nat) (O Y : vt) (hX : mo_R E f a ad S I J) (h45 : S 45 = nI (w + 1)) (hw : w < 14) (hc60 : cp < 60) (hph : I 35 cp = 0) (h11 : S 11 = nI nv) (h12 : S 12 = nI np) (hp8 : np + 32 ≤ 8800) (hnv : nv < 760) (h29 : 29 ≤ nv) (hb0 : b0 ≤ nv) (hpb : pb ≤ np) (hc : mc I J b0 nv pb np) (hit : I 36 cp = nI v) (hO : mw I J b0 nv pb np v O) (hel : I 37 cp = nI ve) (hY : mw I J b0 nv pb np ve Y) : gh_M l y_Mo_plain b_Mo_plain 6 none E sz [.ref a, .int (nI cp), .int 20] f { frames := 9, cells := 0, slots := 0, locals := 260 } (fun r g => r = none ∧ ∃ S2 I2 J2, mo_X E f g a ad S2 I2 J2 ∧ mr_A (sr_len O) S (va_up I 35 (upd (I 35) cp 1)) J b0 nv pb np w S2 I2 J2) := by
  refine gh_open (by decide) (Nat.le_of_ble_eq_true rfl) ?_
  intro p e s m args below meth c A ls hAe C V hr hlocks hname hl
  have hx := C.1
  have hb := C.2.1
  have hl : lv_has ls 6 [(0, .ref a), (1, .int (nI cp)), (2, .int 20)] := hl
  have X : mo_X E f f a ad S I J := ⟨hX, gh_fr.rf⟩
  refine lv_aload_n hx hb d_Mo_plain_0 rfl (lv_at hl 0 rfl) ?_
  refine mo_getA C V X 35 (by decide) (by decide) f_Mo_88 rfl d_Mo_plain_1 ?_
  refine lv_iload_n hx hb d_Mo_plain_4 rfl (lv_at hl 1 rfl) ?_
  refine mo_ild (k := 35) (i := cp) (n := 60) C V X (by decide) (by decide) rfl (by omega) (by decide) d_Mo_plain_5 ?_
  rw [show I 35 cp = 0 from hph]
  refine lv_iconst (v := 1) hx hb d_Mo_plain_6 (by decide) ?_
  refine lv_icmp_ne (tgt := 14) hx hb d_Mo_plain_7 (by decide) (fun c1 => ?_) (fun c1 => absurd c1 (by decide))
  refine lv_iconst (v := 0) hx hb d_Mo_plain_14 (by decide) ?_
  refine lv_istore_n hx hb d_Mo_plain_15 rfl hl (by decide) rfl (fun ls hl => ?_)
  have hl : lv_has ls 6 [(3, .int 0), (0, .ref a), (1, .int (nI cp)), (2, .int 20)] := hl
  refine lv_aload_n hx hb d_Mo_plain_16 rfl (lv_at hl 1 rfl) ?_
  refine mo_getA C V X 35 (by decide) (by decide) f_Mo_88 rfl d_Mo_plain_17 ?_
  refine lv_iload_n hx hb d_Mo_plain_20 rfl (lv_at hl 2 rfl) ?_
  refine lv_iconst (v := 1) hx hb d_Mo_plain_21 (by decide) ?_
  refine mo_ist (k := 35) (i := cp) (n := 60) C V X (by decide) (by decide) rfl (by omega) (by decide) d_Mo_plain_22 (fun f1 H locs V1 X1 => ?_)
  clear V X
  have V := V1
  have X := X1
  clear V1 X1
  have hm35 : ma I J (va_up I 35 (upd (I 35) cp 1)) J b0 nv pb np := ma_other (fun k hk => va_up_n (by omega))
  have hO1 := hO.keep hm35 (Nat.le_refl _) (Nat.le_refl _) (by omega)
  have hY1 := hY.keep hm35 (Nat.le_refl _) (Nat.le_refl _) (by omega)
  have hc1 := hc.keep hm35 (Nat.le_refl _) (Nat.le_refl _) (by omega)
  refine lv_aload_n hx hb d_Mo_plain_23 rfl (lv_at hl 1 rfl) ?_
  refine mo_getA C V X 36 (by decide) (by decide) f_Mo_91 rfl d_Mo_plain_24 ?_
  refine lv_iload_n hx hb d_Mo_plain_27 rfl (lv_at hl 2 rfl) ?_
  refine mo_ild (k := 36) (i := cp) (n := 60) C V X (by decide) (by decide) rfl (by omega) (by decide) d_Mo_plain_28 ?_
  rw [show (va_up I 35 (upd (I 35) cp 1)) 36 cp = nI v from ((congrFun (va_up_n (by decide)) cp).trans (hit))]
  refine lv_istore hx hb d_Mo_plain_29 hl (by decide) rfl (fun ls hl => ?_)
  have hl : lv_has ls 6 [(4, .int (nI v)), (3, .int 0), (0, .ref a), (1, .int (nI cp)), (2, .int 20)] := hl
  refine lv_iload_n hx hb d_Mo_plain_31 rfl (lv_at hl 3 rfl) ?_
  refine lv_bipush (v := 59) hx hb d_Mo_plain_32 (by decide) ?_
  refine lv_icmp_ge (tgt := 48) hx hb d_Mo_plain_34 (by decide) (fun c2 => ?_) (fun c2 => ?_)
  · have c2 : 59 ≤ cp := by rw [← gq_le (a := 59) (b := cp) (by omega) (by omega)]; exact c2
    refine lv_iconst (v := 0) hx hb d_Mo_plain_48 (by decide) ?_
    refine lv_istore hx hb d_Mo_plain_49 hl (by decide) rfl (fun ls hl => ?_)
    have hl : lv_has ls 6 [(5, .int 0), (4, .int (nI v)), (3, .int 0), (0, .ref a), (1, .int (nI cp)), (2, .int 20)] := hl
    refine lv_iload_n hx hb d_Mo_plain_51 rfl (lv_at hl 2 rfl) ?_
    refine lv_if_ne (tgt := 61) hx hb d_Mo_plain_52 (by decide) (fun c3 => absurd (by decide) c3) (fun c3 => ?_)
    refine lv_iload_n hx hb d_Mo_plain_55 rfl (lv_at hl 5 rfl) ?_
    refine lv_bipush (v := 17) hx hb d_Mo_plain_56 (by decide) ?_
    refine lv_icmp_ne (tgt := 69) hx hb d_Mo_plain_58 (by decide) (fun c4 => ?_) (fun c4 => absurd c4 (by decide))
    refine lv_iload_n hx hb d_Mo_plain_69 rfl (lv_at hl 5 rfl) ?_
    refine lv_bipush (v := 18) hx hb d_Mo_plain_70 (by decide) ?_
    refine lv_icmp_ne (tgt := 83) hx hb d_Mo_plain_72 (by decide) (fun c5 => ?_) (fun c5 => absurd c5 (by decide))
    refine lv_iload_n hx hb d_Mo_plain_83 rfl (lv_at hl 5 rfl) ?_
    refine lv_iconst (v := 1) hx hb d_Mo_plain_84 (by decide) ?_
    refine lv_icmp_ne (tgt := 99) hx hb d_Mo_plain_85 (by decide) (fun c6 => ?_) (fun c6 => absurd c6 (by decide))
    refine lv_iload_n hx hb d_Mo_plain_99 rfl (lv_at hl 5 rfl) ?_
    refine lv_iconst (v := 2) hx hb d_Mo_plain_100 (by decide) ?_
    refine lv_icmp_ne (tgt := 119) hx hb d_Mo_plain_101 (by decide) (fun c7 => ?_) (fun c7 => absurd c7 (by decide))
    refine lv_iload_n hx hb d_Mo_plain_119 rfl (lv_at hl 5 rfl) ?_
    refine lv_iconst (v := 5) hx hb d_Mo_plain_120 (by decide) ?_
    refine lv_icmp_ne (tgt := 143) hx hb d_Mo_plain_121 (by decide) (fun c8 => ?_) (fun c8 => absurd c8 (by decide))
    refine lv_iload_n hx hb d_Mo_plain_143 rfl (lv_at hl 5 rfl) ?_
    refine lv_bipush (v := 20) hx hb d_Mo_plain_144 (by decide) ?_
    refine lv_icmp_ne (tgt := 158) hx hb d_Mo_plain_146 (by decide) (fun c9 => absurd (by decide) c9) (fun c9 => ?_)
    refine lv_aload_n hx hb d_Mo_plain_149 rfl (lv_at hl 3 rfl) ?_
    refine lv_iload hx hb d_Mo_plain_150 (lv_at hl 1 rfl) ?_
    refine gh_callV C V hl.1 m_Mo_measure l_Mo_345 (c_Mo_measure l E _ _ a ad _ _ _ b0 nv pb np w v O X.1 h11 h12 hp8 hnv h29 hb0 hpb h45 hc1 hO1) rfl X.1.1 gc_Mo ⟨by first | decide | omega | (dsimp only; omega), by first | decide | omega | (dsimp only; omega)⟩ ⟨by first | decide | omega | (dsimp only; omega), by first | decide | omega | (dsimp only; omega)⟩ (Nat.le_of_ble_eq_true rfl) rfl d_Mo_plain_152 (fun r z9 H locs hp V1 => ?_)
    obtain ⟨rfl, S6, I6, J6, X2, hA⟩ := hp
    have X := X.then X2
    have V := V1
    refine W.eq (g2 := F0 m 155 ls []) rfl ?_
    refine lv_goto (tgt := 239) hx hb d_Mo_plain_155 (by decide) ?_
    refine gh_retv hAe C V hr hlocks d_Mo_plain_239 (by first | decide | omega | (dsimp only; omega)) (by first | decide | omega | (dsimp only; omega)) ?_
    exact ⟨rfl, _, _, _, X, hA⟩
  · have c2 : ¬ 59 ≤ cp := by rw [← gq_le (a := 59) (b := cp) (by omega) (by omega)]; exact c2
    refine lv_aload_n hx hb d_Mo_plain_37 rfl (lv_at hl 2 rfl) ?_
    refine mo_getA C V X 33 (by decide) (by decide) f_Mo_82 rfl d_Mo_plain_38 ?_
    refine lv_iload_n hx hb d_Mo_plain_41 rfl (lv_at hl 3 rfl) ?_
    refine lv_iconst (v := 1) hx hb d_Mo_plain_42 (by decide) ?_
    refine gn_iadd (a := cp) (b := 1) hx hb d_Mo_plain_43 ?_
    refine mo_ild (k := 33) (i := cp + 1) (n := 60) C V X (by decide) (by decide) rfl (by omega) (by decide) d_Mo_plain_44 ?_
    refine lv_goto (tgt := 49) hx hb d_Mo_plain_45 (by decide) ?_
    refine lv_istore hx hb d_Mo_plain_49 hl (by decide) rfl (fun ls hl => ?_)
    have hl : lv_has ls 6 [(5, .int ((va_up I 35 (upd (I 35) cp 1)) 33 (cp + 1))), (4, .int (nI v)), (3, .int 0), (0, .ref a), (1, .int (nI cp)), (2, .int 20)] := hl
    refine lv_iload_n hx hb d_Mo_plain_51 rfl (lv_at hl 2 rfl) ?_
    refine lv_if_ne (tgt := 61) hx hb d_Mo_plain_52 (by decide) (fun c10 => absurd (by decide) c10) (fun c10 => ?_)
    refine lv_iload_n hx hb d_Mo_plain_55 rfl (lv_at hl 5 rfl) ?_
    refine lv_bipush (v := 17) hx hb d_Mo_plain_56 (by decide) ?_
    refine lv_icmp_ne (tgt := 69) hx hb d_Mo_plain_58 (by decide) (fun c11 => ?_) (fun c11 => absurd c11 (by decide))
    refine lv_iload_n hx hb d_Mo_plain_69 rfl (lv_at hl 5 rfl) ?_
    refine lv_bipush (v := 18) hx hb d_Mo_plain_70 (by decide) ?_
    refine lv_icmp_ne (tgt := 83) hx hb d_Mo_plain_72 (by decide) (fun c12 => ?_) (fun c12 => absurd c12 (by decide))
    refine lv_iload_n hx hb d_Mo_plain_83 rfl (lv_at hl 5 rfl) ?_
    refine lv_iconst (v := 1) hx hb d_Mo_plain_84 (by decide) ?_
    refine lv_icmp_ne (tgt := 99) hx hb d_Mo_plain_85 (by decide) (fun c13 => ?_) (fun c13 => absurd c13 (by decide))
    refine lv_iload_n hx hb d_Mo_plain_99 rfl (lv_at hl 5 rfl) ?_
    refine lv_iconst (v := 2) hx hb d_Mo_plain_100 (by decide) ?_
    refine lv_icmp_ne (tgt := 119) hx hb d_Mo_plain_101 (by decide) (fun c14 => ?_) (fun c14 => absurd c14 (by decide))
    refine lv_iload_n hx hb d_Mo_plain_119 rfl (lv_at hl 5 rfl) ?_
    refine lv_iconst (v := 5) hx hb d_Mo_plain_120 (by decide) ?_
    refine lv_icmp_ne (tgt := 143) hx hb d_Mo_plain_121 (by decide) (fun c15 => ?_) (fun c15 => absurd c15 (by decide))
    refine lv_iload_n hx hb d_Mo_plain_143 rfl (lv_at hl 5 rfl) ?_
    refine lv_bipush (v := 20) hx hb d_Mo_plain_144 (by decide) ?_
    refine lv_icmp_ne (tgt := 158) hx hb d_Mo_plain_146 (by decide) (fun c16 => absurd (by decide) c16) (fun c16 => ?_)
    refine lv_aload_n hx hb d_Mo_plain_149 rfl (lv_at hl 3 rfl) ?_
    refine lv_iload hx hb d_Mo_plain_150 (lv_at hl 1 rfl) ?_
    refine gh_callV C V hl.1 m_Mo_measure l_Mo_345 (c_Mo_measure l E _ _ a ad _ _ _ b0 nv pb np w v O X.1 h11 h12 hp8 hnv h29 hb0 hpb h45 hc1 hO1) rfl X.1.1 gc_Mo ⟨by first | decide | omega | (dsimp only; omega), by first | decide | omega | (dsimp only; omega)⟩ ⟨by first | decide | omega | (dsimp only; omega), by first | decide | omega | (dsimp only; omega)⟩ (Nat.le_of_ble_eq_true rfl) rfl d_Mo_plain_152 (fun r z9 H locs hp V1 => ?_)
    obtain ⟨rfl, S6, I6, J6, X2, hA⟩ := hp
    have X := X.then X2
    have V := V1
    refine W.eq (g2 := F0 m 155 ls []) rfl ?_
    refine lv_goto (tgt := 239) hx hb d_Mo_plain_155 (by decide) ?_
    refine gh_retv hAe C V hr hlocks d_Mo_plain_239 (by first | decide | omega | (dsimp only; omega)) (by first | decide | omega | (dsimp only; omega)) ?_
    exact ⟨rfl, _, _, _, X, hA⟩
set_option maxHeartbeats 4000000 in
set_option maxRecDepth 100000 in
theorem c_Mo_plain_21 (l : Launch) (E : gh_E) (sz : Nat) (f : gh_F) (a : Nat) (ad : Nat → Nat) (S : Nat → Int32) (I : Nat → Nat → Int32) (J : Nat → Nat → Int64) (w cp φ : Nat) (b0 nv pb np : Nat) (v ve n1 : Nat) (O Y : vt) (hX : mo_R E f a ad S I J) (h45 : S 45 = nI (w + 1)) (hw : w < 14) (hc60 : cp < 60) (hph : I 35 cp = 0) (h11 : S 11 = nI nv) (h12 : S 12 = nI np) (hp8 : np + 32 ≤ 8800) (hnv : nv < 760) (h29 : 29 ≤ nv) (hb0 : b0 ≤ nv) (hpb : pb ≤ np) (hc : mc I J b0 nv pb np) (hit : I 36 cp = nI v) (hO : mw I J b0 nv pb np v O) (hel : I 37 cp = nI ve) (hY : mw I J b0 nv pb np ve Y) : gh_M l y_Mo_plain b_Mo_plain 6 none E sz [.ref a, .int (nI cp), .int 21] f { frames := 9, cells := 0, slots := 0, locals := 260 } (fun r g => r = none ∧ ∃ S2 I2 J2, mo_X E f g a ad S2 I2 J2 ∧ mr_A (if vt_k O = 6 then some (vt_ks O) else none) S (va_up I 35 (upd (I 35) cp 1)) J b0 nv pb np w S2 I2 J2) := by
  refine gh_open (by decide) (Nat.le_of_ble_eq_true rfl) ?_
  intro p e s m args below meth c A ls hAe C V hr hlocks hname hl
  have hx := C.1
  have hb := C.2.1
  have hl : lv_has ls 6 [(0, .ref a), (1, .int (nI cp)), (2, .int 21)] := hl
  have X : mo_X E f f a ad S I J := ⟨hX, gh_fr.rf⟩
  refine lv_aload_n hx hb d_Mo_plain_0 rfl (lv_at hl 0 rfl) ?_
  refine mo_getA C V X 35 (by decide) (by decide) f_Mo_88 rfl d_Mo_plain_1 ?_
  refine lv_iload_n hx hb d_Mo_plain_4 rfl (lv_at hl 1 rfl) ?_
  refine mo_ild (k := 35) (i := cp) (n := 60) C V X (by decide) (by decide) rfl (by omega) (by decide) d_Mo_plain_5 ?_
  rw [show I 35 cp = 0 from hph]
  refine lv_iconst (v := 1) hx hb d_Mo_plain_6 (by decide) ?_
  refine lv_icmp_ne (tgt := 14) hx hb d_Mo_plain_7 (by decide) (fun c1 => ?_) (fun c1 => absurd c1 (by decide))
  refine lv_iconst (v := 0) hx hb d_Mo_plain_14 (by decide) ?_
  refine lv_istore_n hx hb d_Mo_plain_15 rfl hl (by decide) rfl (fun ls hl => ?_)
  have hl : lv_has ls 6 [(3, .int 0), (0, .ref a), (1, .int (nI cp)), (2, .int 21)] := hl
  refine lv_aload_n hx hb d_Mo_plain_16 rfl (lv_at hl 1 rfl) ?_
  refine mo_getA C V X 35 (by decide) (by decide) f_Mo_88 rfl d_Mo_plain_17 ?_
  refine lv_iload_n hx hb d_Mo_plain_20 rfl (lv_at hl 2 rfl) ?_
  refine lv_iconst (v := 1) hx hb d_Mo_plain_21 (by decide) ?_
  refine mo_ist (k := 35) (i := cp) (n := 60) C V X (by decide) (by decide) rfl (by omega) (by decide) d_Mo_plain_22 (fun f1 H locs V1 X1 => ?_)
  clear V X
  have V := V1
  have X := X1
  clear V1 X1
  have hm35 : ma I J (va_up I 35 (upd (I 35) cp 1)) J b0 nv pb np := ma_other (fun k hk => va_up_n (by omega))
  have hO1 := hO.keep hm35 (Nat.le_refl _) (Nat.le_refl _) (by omega)
  have hY1 := hY.keep hm35 (Nat.le_refl _) (Nat.le_refl _) (by omega)
  have hc1 := hc.keep hm35 (Nat.le_refl _) (Nat.le_refl _) (by omega)
  refine lv_aload_n hx hb d_Mo_plain_23 rfl (lv_at hl 1 rfl) ?_
  refine mo_getA C V X 36 (by decide) (by decide) f_Mo_91 rfl d_Mo_plain_24 ?_
  refine lv_iload_n hx hb d_Mo_plain_27 rfl (lv_at hl 2 rfl) ?_
  refine mo_ild (k := 36) (i := cp) (n := 60) C V X (by decide) (by decide) rfl (by omega) (by decide) d_Mo_plain_28 ?_
  rw [show (va_up I 35 (upd (I 35) cp 1)) 36 cp = nI v from ((congrFun (va_up_n (by decide)) cp).trans (hit))]
  refine lv_istore hx hb d_Mo_plain_29 hl (by decide) rfl (fun ls hl => ?_)
  have hl : lv_has ls 6 [(4, .int (nI v)), (3, .int 0), (0, .ref a), (1, .int (nI cp)), (2, .int 21)] := hl
  refine lv_iload_n hx hb d_Mo_plain_31 rfl (lv_at hl 3 rfl) ?_
  refine lv_bipush (v := 59) hx hb d_Mo_plain_32 (by decide) ?_
  refine lv_icmp_ge (tgt := 48) hx hb d_Mo_plain_34 (by decide) (fun c2 => ?_) (fun c2 => ?_)
  · have c2 : 59 ≤ cp := by rw [← gq_le (a := 59) (b := cp) (by omega) (by omega)]; exact c2
    refine lv_iconst (v := 0) hx hb d_Mo_plain_48 (by decide) ?_
    refine lv_istore hx hb d_Mo_plain_49 hl (by decide) rfl (fun ls hl => ?_)
    have hl : lv_has ls 6 [(5, .int 0), (4, .int (nI v)), (3, .int 0), (0, .ref a), (1, .int (nI cp)), (2, .int 21)] := hl
    refine lv_iload_n hx hb d_Mo_plain_51 rfl (lv_at hl 2 rfl) ?_
    refine lv_if_ne (tgt := 61) hx hb d_Mo_plain_52 (by decide) (fun c3 => absurd (by decide) c3) (fun c3 => ?_)
    refine lv_iload_n hx hb d_Mo_plain_55 rfl (lv_at hl 5 rfl) ?_
    refine lv_bipush (v := 17) hx hb d_Mo_plain_56 (by decide) ?_
    refine lv_icmp_ne (tgt := 69) hx hb d_Mo_plain_58 (by decide) (fun c4 => ?_) (fun c4 => absurd c4 (by decide))
    refine lv_iload_n hx hb d_Mo_plain_69 rfl (lv_at hl 5 rfl) ?_
    refine lv_bipush (v := 18) hx hb d_Mo_plain_70 (by decide) ?_
    refine lv_icmp_ne (tgt := 83) hx hb d_Mo_plain_72 (by decide) (fun c5 => ?_) (fun c5 => absurd c5 (by decide))
    refine lv_iload_n hx hb d_Mo_plain_83 rfl (lv_at hl 5 rfl) ?_
    refine lv_iconst (v := 1) hx hb d_Mo_plain_84 (by decide) ?_
    refine lv_icmp_ne (tgt := 99) hx hb d_Mo_plain_85 (by decide) (fun c6 => ?_) (fun c6 => absurd c6 (by decide))
    refine lv_iload_n hx hb d_Mo_plain_99 rfl (lv_at hl 5 rfl) ?_
    refine lv_iconst (v := 2) hx hb d_Mo_plain_100 (by decide) ?_
    refine lv_icmp_ne (tgt := 119) hx hb d_Mo_plain_101 (by decide) (fun c7 => ?_) (fun c7 => absurd c7 (by decide))
    refine lv_iload_n hx hb d_Mo_plain_119 rfl (lv_at hl 5 rfl) ?_
    refine lv_iconst (v := 5) hx hb d_Mo_plain_120 (by decide) ?_
    refine lv_icmp_ne (tgt := 143) hx hb d_Mo_plain_121 (by decide) (fun c8 => ?_) (fun c8 => absurd c8 (by decide))
    refine lv_iload_n hx hb d_Mo_plain_143 rfl (lv_at hl 5 rfl) ?_
    refine lv_bipush (v := 20) hx hb d_Mo_plain_144 (by decide) ?_
    refine lv_icmp_ne (tgt := 158) hx hb d_Mo_plain_146 (by decide) (fun c9 => ?_) (fun c9 => absurd c9 (by decide))
    refine lv_iload_n hx hb d_Mo_plain_158 rfl (lv_at hl 5 rfl) ?_
    refine lv_bipush (v := 21) hx hb d_Mo_plain_159 (by decide) ?_
    refine lv_icmp_ne (tgt := 173) hx hb d_Mo_plain_161 (by decide) (fun c10 => absurd (by decide) c10) (fun c10 => ?_)
    refine lv_aload_n hx hb d_Mo_plain_164 rfl (lv_at hl 3 rfl) ?_
    refine lv_iload hx hb d_Mo_plain_165 (lv_at hl 1 rfl) ?_
    refine gh_callV C V hl.1 m_Mo_keysOf l_Mo_348 (c_Mo_keysOf l E _ _ a ad _ _ _ b0 nv pb np w v O X.1 h11 h12 hp8 hnv h29 hb0 hpb h45 hc1 hO1) rfl X.1.1 gc_Mo ⟨by first | decide | omega | (dsimp only; omega), by first | decide | omega | (dsimp only; omega)⟩ ⟨by first | decide | omega | (dsimp only; omega), by first | decide | omega | (dsimp only; omega)⟩ (Nat.le_of_ble_eq_true rfl) rfl d_Mo_plain_167 (fun r z9 H locs hp V1 => ?_)
    obtain ⟨rfl, S6, I6, J6, X2, hA⟩ := hp
    have X := X.then X2
    have V := V1
    refine W.eq (g2 := F0 m 170 ls []) rfl ?_
    refine lv_goto (tgt := 239) hx hb d_Mo_plain_170 (by decide) ?_
    refine gh_retv hAe C V hr hlocks d_Mo_plain_239 (by first | decide | omega | (dsimp only; omega)) (by first | decide | omega | (dsimp only; omega)) ?_
    exact ⟨rfl, _, _, _, X, hA⟩
  · have c2 : ¬ 59 ≤ cp := by rw [← gq_le (a := 59) (b := cp) (by omega) (by omega)]; exact c2
    refine lv_aload_n hx hb d_Mo_plain_37 rfl (lv_at hl 2 rfl) ?_
    refine mo_getA C V X 33 (by decide) (by decide) f_Mo_82 rfl d_Mo_plain_38 ?_
    refine lv_iload_n hx hb d_Mo_plain_41 rfl (lv_at hl 3 rfl) ?_
    refine lv_iconst (v := 1) hx hb d_Mo_plain_42 (by decide) ?_
    refine gn_iadd (a := cp) (b := 1) hx hb d_Mo_plain_43 ?_
    refine mo_ild (k := 33) (i := cp + 1) (n := 60) C V X (by decide) (by decide) rfl (by omega) (by decide) d_Mo_plain_44 ?_
    refine lv_goto (tgt := 49) hx hb d_Mo_plain_45 (by decide) ?_
    refine lv_istore hx hb d_Mo_plain_49 hl (by decide) rfl (fun ls hl => ?_)
    have hl : lv_has ls 6 [(5, .int ((va_up I 35 (upd (I 35) cp 1)) 33 (cp + 1))), (4, .int (nI v)), (3, .int 0), (0, .ref a), (1, .int (nI cp)), (2, .int 21)] := hl
    refine lv_iload_n hx hb d_Mo_plain_51 rfl (lv_at hl 2 rfl) ?_
    refine lv_if_ne (tgt := 61) hx hb d_Mo_plain_52 (by decide) (fun c11 => absurd (by decide) c11) (fun c11 => ?_)
    refine lv_iload_n hx hb d_Mo_plain_55 rfl (lv_at hl 5 rfl) ?_
    refine lv_bipush (v := 17) hx hb d_Mo_plain_56 (by decide) ?_
    refine lv_icmp_ne (tgt := 69) hx hb d_Mo_plain_58 (by decide) (fun c12 => ?_) (fun c12 => absurd c12 (by decide))
    refine lv_iload_n hx hb d_Mo_plain_69 rfl (lv_at hl 5 rfl) ?_
    refine lv_bipush (v := 18) hx hb d_Mo_plain_70 (by decide) ?_
    refine lv_icmp_ne (tgt := 83) hx hb d_Mo_plain_72 (by decide) (fun c13 => ?_) (fun c13 => absurd c13 (by decide))
    refine lv_iload_n hx hb d_Mo_plain_83 rfl (lv_at hl 5 rfl) ?_
    refine lv_iconst (v := 1) hx hb d_Mo_plain_84 (by decide) ?_
    refine lv_icmp_ne (tgt := 99) hx hb d_Mo_plain_85 (by decide) (fun c14 => ?_) (fun c14 => absurd c14 (by decide))
    refine lv_iload_n hx hb d_Mo_plain_99 rfl (lv_at hl 5 rfl) ?_
    refine lv_iconst (v := 2) hx hb d_Mo_plain_100 (by decide) ?_
    refine lv_icmp_ne (tgt := 119) hx hb d_Mo_plain_101 (by decide) (fun c15 => ?_) (fun c15 => absurd c15 (by decide))
    refine lv_iload_n hx hb d_Mo_plain_119 rfl (lv_at hl 5 rfl) ?_
    refine lv_iconst (v := 5) hx hb d_Mo_plain_120 (by decide) ?_
    refine lv_icmp_ne (tgt := 143) hx hb d_Mo_plain_121 (by decide) (fun c16 => ?_) (fun c16 => absurd c16 (by decide))
    refine lv_iload_n hx hb d_Mo_plain_143 rfl (lv_at hl 5 rfl) ?_
    refine lv_bipush (v := 20) hx hb d_Mo_plain_144 (by decide) ?_
    refine lv_icmp_ne (tgt := 158) hx hb d_Mo_plain_146 (by decide) (fun c17 => ?_) (fun c17 => absurd c17 (by decide))
    refine lv_iload_n hx hb d_Mo_plain_158 rfl (lv_at hl 5 rfl) ?_
    refine lv_bipush (v := 21) hx hb d_Mo_plain_159 (by decide) ?_
    refine lv_icmp_ne (tgt := 173) hx hb d_Mo_plain_161 (by decide) (fun c18 => absurd (by decide) c18) (fun c18 => ?_)
    refine lv_aload_n hx hb d_Mo_plain_164 rfl (lv_at hl 3 rfl) ?_
    refine lv_iload hx hb d_Mo_plain_165 (lv_at hl 1 rfl) ?_
    refine gh_callV C V hl.1 m_Mo_keysOf l_Mo_348 (c_Mo_keysOf l E _ _ a ad _ _ _ b0 nv pb np w v O X.1 h11 h12 hp8 hnv h29 hb0 hpb h45 hc1 hO1) rfl X.1.1 gc_Mo ⟨by first | decide | omega | (dsimp only; omega), by first | decide | omega | (dsimp only; omega)⟩ ⟨by first | decide | omega | (dsimp only; omega), by first | decide | omega | (dsimp only; omega)⟩ (Nat.le_of_ble_eq_true rfl) rfl d_Mo_plain_167 (fun r z9 H locs hp V1 => ?_)
    obtain ⟨rfl, S6, I6, J6, X2, hA⟩ := hp
    have X := X.then X2
    have V := V1
    refine W.eq (g2 := F0 m 170 ls []) rfl ?_
    refine lv_goto (tgt := 239) hx hb d_Mo_plain_170 (by decide) ?_
    refine gh_retv hAe C V hr hlocks d_Mo_plain_239 (by first | decide | omega | (dsimp only; omega)) (by first | decide | omega | (dsimp only; omega)) ?_
    exact ⟨rfl, _, _, _, X, hA⟩
set_option maxHeartbeats 4000000 in
set_option maxRecDepth 100000 in
theorem c_Mo_plain_19t (l : Launch) (E : gh_E) (sz : Nat) (f : gh_F) (a : Nat) (ad : Nat → Nat) (S : Nat → Int32) (I : Nat → Nat → Int32) (J : Nat → Nat → Int64) (w cp φ : Nat) (b0 nv pb np : Nat) (v ve n1 : Nat) (O Y : vt) (hX : mo_R E f a ad S I J) (h45 : S 45 = nI (w + 1)) (hw : w < 14) (hc60 : cp < 60) (hph : I 35 cp = 0) (h11 : S 11 = nI nv) (h12 : S 12 = nI np) (hp8 : np + 32 ≤ 8800) (hnv : nv < 760) (h29 : 29 ≤ nv) (hb0 : b0 ≤ nv) (hpb : pb ≤ np) (hc : mc I J b0 nv pb np) (hit : I 36 cp = nI v) (hO : mw I J b0 nv pb np v O) (hel : I 37 cp = nI ve) (hY : mw I J b0 nv pb np ve Y) (htr : vt_tr O = true) : gh_M l y_Mo_plain b_Mo_plain 6 none E sz [.ref a, .int (nI cp), .int 19] f { frames := 9, cells := 0, slots := 0, locals := 260 } (fun r g => r = none ∧ ∃ S2 I2 J2, mo_X E f g a ad S2 I2 J2 ∧ mr_A (some (vt_0 1)) S (va_up I 35 (upd (I 35) cp 1)) J b0 nv pb np w S2 I2 J2) := by
  refine gh_open (by decide) (Nat.le_of_ble_eq_true rfl) ?_
  intro p e s m args below meth c A ls hAe C V hr hlocks hname hl
  have hx := C.1
  have hb := C.2.1
  have hl : lv_has ls 6 [(0, .ref a), (1, .int (nI cp)), (2, .int 19)] := hl
  have X : mo_X E f f a ad S I J := ⟨hX, gh_fr.rf⟩
  refine lv_aload_n hx hb d_Mo_plain_0 rfl (lv_at hl 0 rfl) ?_
  refine mo_getA C V X 35 (by decide) (by decide) f_Mo_88 rfl d_Mo_plain_1 ?_
  refine lv_iload_n hx hb d_Mo_plain_4 rfl (lv_at hl 1 rfl) ?_
  refine mo_ild (k := 35) (i := cp) (n := 60) C V X (by decide) (by decide) rfl (by omega) (by decide) d_Mo_plain_5 ?_
  rw [show I 35 cp = 0 from hph]
  refine lv_iconst (v := 1) hx hb d_Mo_plain_6 (by decide) ?_
  refine lv_icmp_ne (tgt := 14) hx hb d_Mo_plain_7 (by decide) (fun c1 => ?_) (fun c1 => absurd c1 (by decide))
  refine lv_iconst (v := 0) hx hb d_Mo_plain_14 (by decide) ?_
  refine lv_istore_n hx hb d_Mo_plain_15 rfl hl (by decide) rfl (fun ls hl => ?_)
  have hl : lv_has ls 6 [(3, .int 0), (0, .ref a), (1, .int (nI cp)), (2, .int 19)] := hl
  refine lv_aload_n hx hb d_Mo_plain_16 rfl (lv_at hl 1 rfl) ?_
  refine mo_getA C V X 35 (by decide) (by decide) f_Mo_88 rfl d_Mo_plain_17 ?_
  refine lv_iload_n hx hb d_Mo_plain_20 rfl (lv_at hl 2 rfl) ?_
  refine lv_iconst (v := 1) hx hb d_Mo_plain_21 (by decide) ?_
  refine mo_ist (k := 35) (i := cp) (n := 60) C V X (by decide) (by decide) rfl (by omega) (by decide) d_Mo_plain_22 (fun f1 H locs V1 X1 => ?_)
  clear V X
  have V := V1
  have X := X1
  clear V1 X1
  have hm35 : ma I J (va_up I 35 (upd (I 35) cp 1)) J b0 nv pb np := ma_other (fun k hk => va_up_n (by omega))
  have hO1 := hO.keep hm35 (Nat.le_refl _) (Nat.le_refl _) (by omega)
  have hY1 := hY.keep hm35 (Nat.le_refl _) (Nat.le_refl _) (by omega)
  have hc1 := hc.keep hm35 (Nat.le_refl _) (Nat.le_refl _) (by omega)
  refine lv_aload_n hx hb d_Mo_plain_23 rfl (lv_at hl 1 rfl) ?_
  refine mo_getA C V X 36 (by decide) (by decide) f_Mo_91 rfl d_Mo_plain_24 ?_
  refine lv_iload_n hx hb d_Mo_plain_27 rfl (lv_at hl 2 rfl) ?_
  refine mo_ild (k := 36) (i := cp) (n := 60) C V X (by decide) (by decide) rfl (by omega) (by decide) d_Mo_plain_28 ?_
  rw [show (va_up I 35 (upd (I 35) cp 1)) 36 cp = nI v from ((congrFun (va_up_n (by decide)) cp).trans (hit))]
  refine lv_istore hx hb d_Mo_plain_29 hl (by decide) rfl (fun ls hl => ?_)
  have hl : lv_has ls 6 [(4, .int (nI v)), (3, .int 0), (0, .ref a), (1, .int (nI cp)), (2, .int 19)] := hl
  refine lv_iload_n hx hb d_Mo_plain_31 rfl (lv_at hl 3 rfl) ?_
  refine lv_bipush (v := 59) hx hb d_Mo_plain_32 (by decide) ?_
  refine lv_icmp_ge (tgt := 48) hx hb d_Mo_plain_34 (by decide) (fun c2 => ?_) (fun c2 => ?_)
  · have c2 : 59 ≤ cp := by rw [← gq_le (a := 59) (b := cp) (by omega) (by omega)]; exact c2
    refine lv_iconst (v := 0) hx hb d_Mo_plain_48 (by decide) ?_
    refine lv_istore hx hb d_Mo_plain_49 hl (by decide) rfl (fun ls hl => ?_)
    have hl : lv_has ls 6 [(5, .int 0), (4, .int (nI v)), (3, .int 0), (0, .ref a), (1, .int (nI cp)), (2, .int 19)] := hl
    refine lv_iload_n hx hb d_Mo_plain_51 rfl (lv_at hl 2 rfl) ?_
    refine lv_if_ne (tgt := 61) hx hb d_Mo_plain_52 (by decide) (fun c3 => absurd (by decide) c3) (fun c3 => ?_)
    refine lv_iload_n hx hb d_Mo_plain_55 rfl (lv_at hl 5 rfl) ?_
    refine lv_bipush (v := 17) hx hb d_Mo_plain_56 (by decide) ?_
    refine lv_icmp_ne (tgt := 69) hx hb d_Mo_plain_58 (by decide) (fun c4 => ?_) (fun c4 => absurd c4 (by decide))
    refine lv_iload_n hx hb d_Mo_plain_69 rfl (lv_at hl 5 rfl) ?_
    refine lv_bipush (v := 18) hx hb d_Mo_plain_70 (by decide) ?_
    refine lv_icmp_ne (tgt := 83) hx hb d_Mo_plain_72 (by decide) (fun c5 => ?_) (fun c5 => absurd c5 (by decide))
    refine lv_iload_n hx hb d_Mo_plain_83 rfl (lv_at hl 5 rfl) ?_
    refine lv_iconst (v := 1) hx hb d_Mo_plain_84 (by decide) ?_
    refine lv_icmp_ne (tgt := 99) hx hb d_Mo_plain_85 (by decide) (fun c6 => ?_) (fun c6 => absurd c6 (by decide))
    refine lv_iload_n hx hb d_Mo_plain_99 rfl (lv_at hl 5 rfl) ?_
    refine lv_iconst (v := 2) hx hb d_Mo_plain_100 (by decide) ?_
    refine lv_icmp_ne (tgt := 119) hx hb d_Mo_plain_101 (by decide) (fun c7 => ?_) (fun c7 => absurd c7 (by decide))
    refine lv_iload_n hx hb d_Mo_plain_119 rfl (lv_at hl 5 rfl) ?_
    refine lv_iconst (v := 5) hx hb d_Mo_plain_120 (by decide) ?_
    refine lv_icmp_ne (tgt := 143) hx hb d_Mo_plain_121 (by decide) (fun c8 => ?_) (fun c8 => absurd c8 (by decide))
    refine lv_iload_n hx hb d_Mo_plain_143 rfl (lv_at hl 5 rfl) ?_
    refine lv_bipush (v := 20) hx hb d_Mo_plain_144 (by decide) ?_
    refine lv_icmp_ne (tgt := 158) hx hb d_Mo_plain_146 (by decide) (fun c9 => ?_) (fun c9 => absurd c9 (by decide))
    refine lv_iload_n hx hb d_Mo_plain_158 rfl (lv_at hl 5 rfl) ?_
    refine lv_bipush (v := 21) hx hb d_Mo_plain_159 (by decide) ?_
    refine lv_icmp_ne (tgt := 173) hx hb d_Mo_plain_161 (by decide) (fun c10 => ?_) (fun c10 => absurd c10 (by decide))
    refine lv_aload_n hx hb d_Mo_plain_173 rfl (lv_at hl 3 rfl) ?_
    refine lv_iload_n hx hb d_Mo_plain_174 rfl (lv_at hl 5 rfl) ?_
    refine lv_if_ne (tgt := 183) hx hb d_Mo_plain_175 (by decide) (fun c11 => ?_) (fun c11 => absurd c11 (by decide))
    refine lv_iload_n hx hb d_Mo_plain_183 rfl (lv_at hl 5 rfl) ?_
    refine lv_bipush (v := 6) hx hb d_Mo_plain_184 (by decide) ?_
    refine lv_icmp_ne (tgt := 197) hx hb d_Mo_plain_186 (by decide) (fun c12 => ?_) (fun c12 => absurd c12 (by decide))
    refine lv_iload_n hx hb d_Mo_plain_197 rfl (lv_at hl 5 rfl) ?_
    refine lv_bipush (v := 15) hx hb d_Mo_plain_198 (by decide) ?_
    refine lv_icmp_ne (tgt := 212) hx hb d_Mo_plain_200 (by decide) (fun c13 => ?_) (fun c13 => absurd c13 (by decide))
    refine lv_iload_n hx hb d_Mo_plain_212 rfl (lv_at hl 5 rfl) ?_
    refine lv_bipush (v := 19) hx hb d_Mo_plain_213 (by decide) ?_
    refine lv_icmp_ne (tgt := 235) hx hb d_Mo_plain_215 (by decide) (fun c14 => absurd (by decide) c14) (fun c14 => ?_)
    refine lv_aload_n hx hb d_Mo_plain_218 rfl (lv_at hl 3 rfl) ?_
    refine lv_iload hx hb d_Mo_plain_219 (lv_at hl 1 rfl) ?_
    refine gh_callV C V hl.1 m_Mo_isTrue l_Mo_351 (c_Mo_isTrue l E _ _ a ad _ _ _ v X.1 hO1.lt) rfl X.1.1 gc_Mo ⟨by first | decide | omega | (dsimp only; omega), by first | decide | omega | (dsimp only; omega)⟩ ⟨by first | decide | omega | (dsimp only; omega), by first | decide | omega | (dsimp only; omega)⟩ (Nat.le_of_ble_eq_true rfl) rfl d_Mo_plain_221 (fun r z9 H locs hp V1 => ?_)
    rw [mw_true hO1 hc1, htr] at hp
    obtain ⟨rfl, he9⟩ := hp
    rw [he9] at V1
    have V := V1
    refine W.eq (g2 := F0 m 224 ls [.int (gh_bi true), .ref a]) rfl ?_
    refine lv_if_eq (tgt := 231) hx hb d_Mo_plain_224 (by decide) (fun c15 => absurd c15 (by decide)) (fun c15 => ?_)
    refine lv_iconst (v := 1) hx hb d_Mo_plain_227 (by decide) ?_
    refine lv_goto (tgt := 236) hx hb d_Mo_plain_228 (by decide) ?_
    refine gh_callV C V hl.1 m_Mo_give l_Mo_342 (c_Mo_give l E _ _ a ad _ _ _ 1 w X.1 h45) rfl X.1.1 gc_Mo ⟨by first | decide | omega | (dsimp only; omega), by first | decide | omega | (dsimp only; omega)⟩ ⟨by first | decide | omega | (dsimp only; omega), by first | decide | omega | (dsimp only; omega)⟩ (Nat.le_of_ble_eq_true rfl) rfl d_Mo_plain_236 (fun r z9 H locs hp V1 => ?_)
    obtain ⟨rfl, X2⟩ := hp
    have X := X.then X2
    have V := V1
    refine W.eq (g2 := F0 m 239 ls []) rfl ?_
    refine gh_retv hAe C V hr hlocks d_Mo_plain_239 (by first | decide | omega | (dsimp only; omega)) (by first | decide | omega | (dsimp only; omega)) ?_
    exact ⟨rfl, _, _, _, X, mr_give (u := 1) h11 h12 (by omega) hc1.2.1⟩
  · have c2 : ¬ 59 ≤ cp := by rw [← gq_le (a := 59) (b := cp) (by omega) (by omega)]; exact c2
    refine lv_aload_n hx hb d_Mo_plain_37 rfl (lv_at hl 2 rfl) ?_
    refine mo_getA C V X 33 (by decide) (by decide) f_Mo_82 rfl d_Mo_plain_38 ?_
    refine lv_iload_n hx hb d_Mo_plain_41 rfl (lv_at hl 3 rfl) ?_
    refine lv_iconst (v := 1) hx hb d_Mo_plain_42 (by decide) ?_
    refine gn_iadd (a := cp) (b := 1) hx hb d_Mo_plain_43 ?_
    refine mo_ild (k := 33) (i := cp + 1) (n := 60) C V X (by decide) (by decide) rfl (by omega) (by decide) d_Mo_plain_44 ?_
    refine lv_goto (tgt := 49) hx hb d_Mo_plain_45 (by decide) ?_
    refine lv_istore hx hb d_Mo_plain_49 hl (by decide) rfl (fun ls hl => ?_)
    have hl : lv_has ls 6 [(5, .int ((va_up I 35 (upd (I 35) cp 1)) 33 (cp + 1))), (4, .int (nI v)), (3, .int 0), (0, .ref a), (1, .int (nI cp)), (2, .int 19)] := hl
    refine lv_iload_n hx hb d_Mo_plain_51 rfl (lv_at hl 2 rfl) ?_
    refine lv_if_ne (tgt := 61) hx hb d_Mo_plain_52 (by decide) (fun c16 => absurd (by decide) c16) (fun c16 => ?_)
    refine lv_iload_n hx hb d_Mo_plain_55 rfl (lv_at hl 5 rfl) ?_
    refine lv_bipush (v := 17) hx hb d_Mo_plain_56 (by decide) ?_
    refine lv_icmp_ne (tgt := 69) hx hb d_Mo_plain_58 (by decide) (fun c17 => ?_) (fun c17 => absurd c17 (by decide))
    refine lv_iload_n hx hb d_Mo_plain_69 rfl (lv_at hl 5 rfl) ?_
    refine lv_bipush (v := 18) hx hb d_Mo_plain_70 (by decide) ?_
    refine lv_icmp_ne (tgt := 83) hx hb d_Mo_plain_72 (by decide) (fun c18 => ?_) (fun c18 => absurd c18 (by decide))
    refine lv_iload_n hx hb d_Mo_plain_83 rfl (lv_at hl 5 rfl) ?_
    refine lv_iconst (v := 1) hx hb d_Mo_plain_84 (by decide) ?_
    refine lv_icmp_ne (tgt := 99) hx hb d_Mo_plain_85 (by decide) (fun c19 => ?_) (fun c19 => absurd c19 (by decide))
    refine lv_iload_n hx hb d_Mo_plain_99 rfl (lv_at hl 5 rfl) ?_
    refine lv_iconst (v := 2) hx hb d_Mo_plain_100 (by decide) ?_
    refine lv_icmp_ne (tgt := 119) hx hb d_Mo_plain_101 (by decide) (fun c20 => ?_) (fun c20 => absurd c20 (by decide))
    refine lv_iload_n hx hb d_Mo_plain_119 rfl (lv_at hl 5 rfl) ?_
    refine lv_iconst (v := 5) hx hb d_Mo_plain_120 (by decide) ?_
    refine lv_icmp_ne (tgt := 143) hx hb d_Mo_plain_121 (by decide) (fun c21 => ?_) (fun c21 => absurd c21 (by decide))
    refine lv_iload_n hx hb d_Mo_plain_143 rfl (lv_at hl 5 rfl) ?_
    refine lv_bipush (v := 20) hx hb d_Mo_plain_144 (by decide) ?_
    refine lv_icmp_ne (tgt := 158) hx hb d_Mo_plain_146 (by decide) (fun c22 => ?_) (fun c22 => absurd c22 (by decide))
    refine lv_iload_n hx hb d_Mo_plain_158 rfl (lv_at hl 5 rfl) ?_
    refine lv_bipush (v := 21) hx hb d_Mo_plain_159 (by decide) ?_
    refine lv_icmp_ne (tgt := 173) hx hb d_Mo_plain_161 (by decide) (fun c23 => ?_) (fun c23 => absurd c23 (by decide))
    refine lv_aload_n hx hb d_Mo_plain_173 rfl (lv_at hl 3 rfl) ?_
    refine lv_iload_n hx hb d_Mo_plain_174 rfl (lv_at hl 5 rfl) ?_
    refine lv_if_ne (tgt := 183) hx hb d_Mo_plain_175 (by decide) (fun c24 => ?_) (fun c24 => absurd c24 (by decide))
    refine lv_iload_n hx hb d_Mo_plain_183 rfl (lv_at hl 5 rfl) ?_
    refine lv_bipush (v := 6) hx hb d_Mo_plain_184 (by decide) ?_
    refine lv_icmp_ne (tgt := 197) hx hb d_Mo_plain_186 (by decide) (fun c25 => ?_) (fun c25 => absurd c25 (by decide))
    refine lv_iload_n hx hb d_Mo_plain_197 rfl (lv_at hl 5 rfl) ?_
    refine lv_bipush (v := 15) hx hb d_Mo_plain_198 (by decide) ?_
    refine lv_icmp_ne (tgt := 212) hx hb d_Mo_plain_200 (by decide) (fun c26 => ?_) (fun c26 => absurd c26 (by decide))
    refine lv_iload_n hx hb d_Mo_plain_212 rfl (lv_at hl 5 rfl) ?_
    refine lv_bipush (v := 19) hx hb d_Mo_plain_213 (by decide) ?_
    refine lv_icmp_ne (tgt := 235) hx hb d_Mo_plain_215 (by decide) (fun c27 => absurd (by decide) c27) (fun c27 => ?_)
    refine lv_aload_n hx hb d_Mo_plain_218 rfl (lv_at hl 3 rfl) ?_
    refine lv_iload hx hb d_Mo_plain_219 (lv_at hl 1 rfl) ?_
    refine gh_callV C V hl.1 m_Mo_isTrue l_Mo_351 (c_Mo_isTrue l E _ _ a ad _ _ _ v X.1 hO1.lt) rfl X.1.1 gc_Mo ⟨by first | decide | omega | (dsimp only; omega), by first | decide | omega | (dsimp only; omega)⟩ ⟨by first | decide | omega | (dsimp only; omega), by first | decide | omega | (dsimp only; omega)⟩ (Nat.le_of_ble_eq_true rfl) rfl d_Mo_plain_221 (fun r z9 H locs hp V1 => ?_)
    rw [mw_true hO1 hc1, htr] at hp
    obtain ⟨rfl, he9⟩ := hp
    rw [he9] at V1
    have V := V1
    refine W.eq (g2 := F0 m 224 ls [.int (gh_bi true), .ref a]) rfl ?_
    refine lv_if_eq (tgt := 231) hx hb d_Mo_plain_224 (by decide) (fun c28 => absurd c28 (by decide)) (fun c28 => ?_)
    refine lv_iconst (v := 1) hx hb d_Mo_plain_227 (by decide) ?_
    refine lv_goto (tgt := 236) hx hb d_Mo_plain_228 (by decide) ?_
    refine gh_callV C V hl.1 m_Mo_give l_Mo_342 (c_Mo_give l E _ _ a ad _ _ _ 1 w X.1 h45) rfl X.1.1 gc_Mo ⟨by first | decide | omega | (dsimp only; omega), by first | decide | omega | (dsimp only; omega)⟩ ⟨by first | decide | omega | (dsimp only; omega), by first | decide | omega | (dsimp only; omega)⟩ (Nat.le_of_ble_eq_true rfl) rfl d_Mo_plain_236 (fun r z9 H locs hp V1 => ?_)
    obtain ⟨rfl, X2⟩ := hp
    have X := X.then X2
    have V := V1
    refine W.eq (g2 := F0 m 239 ls []) rfl ?_
    refine gh_retv hAe C V hr hlocks d_Mo_plain_239 (by first | decide | omega | (dsimp only; omega)) (by first | decide | omega | (dsimp only; omega)) ?_
    exact ⟨rfl, _, _, _, X, mr_give (u := 1) h11 h12 (by omega) hc1.2.1⟩
set_option maxHeartbeats 4000000 in
set_option maxRecDepth 100000 in
theorem c_Mo_plain_19f (l : Launch) (E : gh_E) (sz : Nat) (f : gh_F) (a : Nat) (ad : Nat → Nat) (S : Nat → Int32) (I : Nat → Nat → Int32) (J : Nat → Nat → Int64) (w cp φ : Nat) (b0 nv pb np : Nat) (v ve n1 : Nat) (O Y : vt) (hX : mo_R E f a ad S I J) (h45 : S 45 = nI (w + 1)) (hw : w < 14) (hc60 : cp < 60) (hph : I 35 cp = 0) (h11 : S 11 = nI nv) (h12 : S 12 = nI np) (hp8 : np + 32 ≤ 8800) (hnv : nv < 760) (h29 : 29 ≤ nv) (hb0 : b0 ≤ nv) (hpb : pb ≤ np) (hc : mc I J b0 nv pb np) (hit : I 36 cp = nI v) (hO : mw I J b0 nv pb np v O) (hel : I 37 cp = nI ve) (hY : mw I J b0 nv pb np ve Y) (htr : vt_tr O = false) : gh_M l y_Mo_plain b_Mo_plain 6 none E sz [.ref a, .int (nI cp), .int 19] f { frames := 9, cells := 0, slots := 0, locals := 260 } (fun r g => r = none ∧ ∃ S2 I2 J2, mo_X E f g a ad S2 I2 J2 ∧ mr_A (some (vt_0 2)) S (va_up I 35 (upd (I 35) cp 1)) J b0 nv pb np w S2 I2 J2) := by
  refine gh_open (by decide) (Nat.le_of_ble_eq_true rfl) ?_
  intro p e s m args below meth c A ls hAe C V hr hlocks hname hl
  have hx := C.1
  have hb := C.2.1
  have hl : lv_has ls 6 [(0, .ref a), (1, .int (nI cp)), (2, .int 19)] := hl
  have X : mo_X E f f a ad S I J := ⟨hX, gh_fr.rf⟩
  refine lv_aload_n hx hb d_Mo_plain_0 rfl (lv_at hl 0 rfl) ?_
  refine mo_getA C V X 35 (by decide) (by decide) f_Mo_88 rfl d_Mo_plain_1 ?_
  refine lv_iload_n hx hb d_Mo_plain_4 rfl (lv_at hl 1 rfl) ?_
  refine mo_ild (k := 35) (i := cp) (n := 60) C V X (by decide) (by decide) rfl (by omega) (by decide) d_Mo_plain_5 ?_
  rw [show I 35 cp = 0 from hph]
  refine lv_iconst (v := 1) hx hb d_Mo_plain_6 (by decide) ?_
  refine lv_icmp_ne (tgt := 14) hx hb d_Mo_plain_7 (by decide) (fun c1 => ?_) (fun c1 => absurd c1 (by decide))
  refine lv_iconst (v := 0) hx hb d_Mo_plain_14 (by decide) ?_
  refine lv_istore_n hx hb d_Mo_plain_15 rfl hl (by decide) rfl (fun ls hl => ?_)
  have hl : lv_has ls 6 [(3, .int 0), (0, .ref a), (1, .int (nI cp)), (2, .int 19)] := hl
  refine lv_aload_n hx hb d_Mo_plain_16 rfl (lv_at hl 1 rfl) ?_
  refine mo_getA C V X 35 (by decide) (by decide) f_Mo_88 rfl d_Mo_plain_17 ?_
  refine lv_iload_n hx hb d_Mo_plain_20 rfl (lv_at hl 2 rfl) ?_
  refine lv_iconst (v := 1) hx hb d_Mo_plain_21 (by decide) ?_
  refine mo_ist (k := 35) (i := cp) (n := 60) C V X (by decide) (by decide) rfl (by omega) (by decide) d_Mo_plain_22 (fun f1 H locs V1 X1 => ?_)
  clear V X
  have V := V1
  have X := X1
  clear V1 X1
  have hm35 : ma I J (va_up I 35 (upd (I 35) cp 1)) J b0 nv pb np := ma_other (fun k hk => va_up_n (by omega))
  have hO1 := hO.keep hm35 (Nat.le_refl _) (Nat.le_refl _) (by omega)
  have hY1 := hY.keep hm35 (Nat.le_refl _) (Nat.le_refl _) (by omega)
  have hc1 := hc.keep hm35 (Nat.le_refl _) (Nat.le_refl _) (by omega)
  refine lv_aload_n hx hb d_Mo_plain_23 rfl (lv_at hl 1 rfl) ?_
  refine mo_getA C V X 36 (by decide) (by decide) f_Mo_91 rfl d_Mo_plain_24 ?_
  refine lv_iload_n hx hb d_Mo_plain_27 rfl (lv_at hl 2 rfl) ?_
  refine mo_ild (k := 36) (i := cp) (n := 60) C V X (by decide) (by decide) rfl (by omega) (by decide) d_Mo_plain_28 ?_
  rw [show (va_up I 35 (upd (I 35) cp 1)) 36 cp = nI v from ((congrFun (va_up_n (by decide)) cp).trans (hit))]
  refine lv_istore hx hb d_Mo_plain_29 hl (by decide) rfl (fun ls hl => ?_)
  have hl : lv_has ls 6 [(4, .int (nI v)), (3, .int 0), (0, .ref a), (1, .int (nI cp)), (2, .int 19)] := hl
  refine lv_iload_n hx hb d_Mo_plain_31 rfl (lv_at hl 3 rfl) ?_
  refine lv_bipush (v := 59) hx hb d_Mo_plain_32 (by decide) ?_
  refine lv_icmp_ge (tgt := 48) hx hb d_Mo_plain_34 (by decide) (fun c2 => ?_) (fun c2 => ?_)
  · have c2 : 59 ≤ cp := by rw [← gq_le (a := 59) (b := cp) (by omega) (by omega)]; exact c2
    refine lv_iconst (v := 0) hx hb d_Mo_plain_48 (by decide) ?_
    refine lv_istore hx hb d_Mo_plain_49 hl (by decide) rfl (fun ls hl => ?_)
    have hl : lv_has ls 6 [(5, .int 0), (4, .int (nI v)), (3, .int 0), (0, .ref a), (1, .int (nI cp)), (2, .int 19)] := hl
    refine lv_iload_n hx hb d_Mo_plain_51 rfl (lv_at hl 2 rfl) ?_
    refine lv_if_ne (tgt := 61) hx hb d_Mo_plain_52 (by decide) (fun c3 => absurd (by decide) c3) (fun c3 => ?_)
    refine lv_iload_n hx hb d_Mo_plain_55 rfl (lv_at hl 5 rfl) ?_
    refine lv_bipush (v := 17) hx hb d_Mo_plain_56 (by decide) ?_
    refine lv_icmp_ne (tgt := 69) hx hb d_Mo_plain_58 (by decide) (fun c4 => ?_) (fun c4 => absurd c4 (by decide))
    refine lv_iload_n hx hb d_Mo_plain_69 rfl (lv_at hl 5 rfl) ?_
    refine lv_bipush (v := 18) hx hb d_Mo_plain_70 (by decide) ?_
    refine lv_icmp_ne (tgt := 83) hx hb d_Mo_plain_72 (by decide) (fun c5 => ?_) (fun c5 => absurd c5 (by decide))
    refine lv_iload_n hx hb d_Mo_plain_83 rfl (lv_at hl 5 rfl) ?_
    refine lv_iconst (v := 1) hx hb d_Mo_plain_84 (by decide) ?_
    refine lv_icmp_ne (tgt := 99) hx hb d_Mo_plain_85 (by decide) (fun c6 => ?_) (fun c6 => absurd c6 (by decide))
    refine lv_iload_n hx hb d_Mo_plain_99 rfl (lv_at hl 5 rfl) ?_
    refine lv_iconst (v := 2) hx hb d_Mo_plain_100 (by decide) ?_
    refine lv_icmp_ne (tgt := 119) hx hb d_Mo_plain_101 (by decide) (fun c7 => ?_) (fun c7 => absurd c7 (by decide))
    refine lv_iload_n hx hb d_Mo_plain_119 rfl (lv_at hl 5 rfl) ?_
    refine lv_iconst (v := 5) hx hb d_Mo_plain_120 (by decide) ?_
    refine lv_icmp_ne (tgt := 143) hx hb d_Mo_plain_121 (by decide) (fun c8 => ?_) (fun c8 => absurd c8 (by decide))
    refine lv_iload_n hx hb d_Mo_plain_143 rfl (lv_at hl 5 rfl) ?_
    refine lv_bipush (v := 20) hx hb d_Mo_plain_144 (by decide) ?_
    refine lv_icmp_ne (tgt := 158) hx hb d_Mo_plain_146 (by decide) (fun c9 => ?_) (fun c9 => absurd c9 (by decide))
    refine lv_iload_n hx hb d_Mo_plain_158 rfl (lv_at hl 5 rfl) ?_
    refine lv_bipush (v := 21) hx hb d_Mo_plain_159 (by decide) ?_
    refine lv_icmp_ne (tgt := 173) hx hb d_Mo_plain_161 (by decide) (fun c10 => ?_) (fun c10 => absurd c10 (by decide))
    refine lv_aload_n hx hb d_Mo_plain_173 rfl (lv_at hl 3 rfl) ?_
    refine lv_iload_n hx hb d_Mo_plain_174 rfl (lv_at hl 5 rfl) ?_
    refine lv_if_ne (tgt := 183) hx hb d_Mo_plain_175 (by decide) (fun c11 => ?_) (fun c11 => absurd c11 (by decide))
    refine lv_iload_n hx hb d_Mo_plain_183 rfl (lv_at hl 5 rfl) ?_
    refine lv_bipush (v := 6) hx hb d_Mo_plain_184 (by decide) ?_
    refine lv_icmp_ne (tgt := 197) hx hb d_Mo_plain_186 (by decide) (fun c12 => ?_) (fun c12 => absurd c12 (by decide))
    refine lv_iload_n hx hb d_Mo_plain_197 rfl (lv_at hl 5 rfl) ?_
    refine lv_bipush (v := 15) hx hb d_Mo_plain_198 (by decide) ?_
    refine lv_icmp_ne (tgt := 212) hx hb d_Mo_plain_200 (by decide) (fun c13 => ?_) (fun c13 => absurd c13 (by decide))
    refine lv_iload_n hx hb d_Mo_plain_212 rfl (lv_at hl 5 rfl) ?_
    refine lv_bipush (v := 19) hx hb d_Mo_plain_213 (by decide) ?_
    refine lv_icmp_ne (tgt := 235) hx hb d_Mo_plain_215 (by decide) (fun c14 => absurd (by decide) c14) (fun c14 => ?_)
    refine lv_aload_n hx hb d_Mo_plain_218 rfl (lv_at hl 3 rfl) ?_
    refine lv_iload hx hb d_Mo_plain_219 (lv_at hl 1 rfl) ?_
    refine gh_callV C V hl.1 m_Mo_isTrue l_Mo_351 (c_Mo_isTrue l E _ _ a ad _ _ _ v X.1 hO1.lt) rfl X.1.1 gc_Mo ⟨by first | decide | omega | (dsimp only; omega), by first | decide | omega | (dsimp only; omega)⟩ ⟨by first | decide | omega | (dsimp only; omega), by first | decide | omega | (dsimp only; omega)⟩ (Nat.le_of_ble_eq_true rfl) rfl d_Mo_plain_221 (fun r z9 H locs hp V1 => ?_)
    rw [mw_true hO1 hc1, htr] at hp
    obtain ⟨rfl, he9⟩ := hp
    rw [he9] at V1
    have V := V1
    refine W.eq (g2 := F0 m 224 ls [.int (gh_bi false), .ref a]) rfl ?_
    refine lv_if_eq (tgt := 231) hx hb d_Mo_plain_224 (by decide) (fun c15 => ?_) (fun c15 => absurd (by decide) c15)
    refine lv_iconst (v := 2) hx hb d_Mo_plain_231 (by decide) ?_
    refine lv_goto (tgt := 236) hx hb d_Mo_plain_232 (by decide) ?_
    refine gh_callV C V hl.1 m_Mo_give l_Mo_342 (c_Mo_give l E _ _ a ad _ _ _ 2 w X.1 h45) rfl X.1.1 gc_Mo ⟨by first | decide | omega | (dsimp only; omega), by first | decide | omega | (dsimp only; omega)⟩ ⟨by first | decide | omega | (dsimp only; omega), by first | decide | omega | (dsimp only; omega)⟩ (Nat.le_of_ble_eq_true rfl) rfl d_Mo_plain_236 (fun r z9 H locs hp V1 => ?_)
    obtain ⟨rfl, X2⟩ := hp
    have X := X.then X2
    have V := V1
    refine W.eq (g2 := F0 m 239 ls []) rfl ?_
    refine gh_retv hAe C V hr hlocks d_Mo_plain_239 (by first | decide | omega | (dsimp only; omega)) (by first | decide | omega | (dsimp only; omega)) ?_
    exact ⟨rfl, _, _, _, X, mr_give (u := 2) h11 h12 (by omega) hc1.2.2.1⟩
  · have c2 : ¬ 59 ≤ cp := by rw [← gq_le (a := 59) (b := cp) (by omega) (by omega)]; exact c2
    refine lv_aload_n hx hb d_Mo_plain_37 rfl (lv_at hl 2 rfl) ?_
    refine mo_getA C V X 33 (by decide) (by decide) f_Mo_82 rfl d_Mo_plain_38 ?_
    refine lv_iload_n hx hb d_Mo_plain_41 rfl (lv_at hl 3 rfl) ?_
    refine lv_iconst (v := 1) hx hb d_Mo_plain_42 (by decide) ?_
    refine gn_iadd (a := cp) (b := 1) hx hb d_Mo_plain_43 ?_
    refine mo_ild (k := 33) (i := cp + 1) (n := 60) C V X (by decide) (by decide) rfl (by omega) (by decide) d_Mo_plain_44 ?_
    refine lv_goto (tgt := 49) hx hb d_Mo_plain_45 (by decide) ?_
    refine lv_istore hx hb d_Mo_plain_49 hl (by decide) rfl (fun ls hl => ?_)
    have hl : lv_has ls 6 [(5, .int ((va_up I 35 (upd (I 35) cp 1)) 33 (cp + 1))), (4, .int (nI v)), (3, .int 0), (0, .ref a), (1, .int (nI cp)), (2, .int 19)] := hl
    refine lv_iload_n hx hb d_Mo_plain_51 rfl (lv_at hl 2 rfl) ?_
    refine lv_if_ne (tgt := 61) hx hb d_Mo_plain_52 (by decide) (fun c16 => absurd (by decide) c16) (fun c16 => ?_)
    refine lv_iload_n hx hb d_Mo_plain_55 rfl (lv_at hl 5 rfl) ?_
    refine lv_bipush (v := 17) hx hb d_Mo_plain_56 (by decide) ?_
    refine lv_icmp_ne (tgt := 69) hx hb d_Mo_plain_58 (by decide) (fun c17 => ?_) (fun c17 => absurd c17 (by decide))
    refine lv_iload_n hx hb d_Mo_plain_69 rfl (lv_at hl 5 rfl) ?_
    refine lv_bipush (v := 18) hx hb d_Mo_plain_70 (by decide) ?_
    refine lv_icmp_ne (tgt := 83) hx hb d_Mo_plain_72 (by decide) (fun c18 => ?_) (fun c18 => absurd c18 (by decide))
    refine lv_iload_n hx hb d_Mo_plain_83 rfl (lv_at hl 5 rfl) ?_
    refine lv_iconst (v := 1) hx hb d_Mo_plain_84 (by decide) ?_
    refine lv_icmp_ne (tgt := 99) hx hb d_Mo_plain_85 (by decide) (fun c19 => ?_) (fun c19 => absurd c19 (by decide))
    refine lv_iload_n hx hb d_Mo_plain_99 rfl (lv_at hl 5 rfl) ?_
    refine lv_iconst (v := 2) hx hb d_Mo_plain_100 (by decide) ?_
    refine lv_icmp_ne (tgt := 119) hx hb d_Mo_plain_101 (by decide) (fun c20 => ?_) (fun c20 => absurd c20 (by decide))
    refine lv_iload_n hx hb d_Mo_plain_119 rfl (lv_at hl 5 rfl) ?_
    refine lv_iconst (v := 5) hx hb d_Mo_plain_120 (by decide) ?_
    refine lv_icmp_ne (tgt := 143) hx hb d_Mo_plain_121 (by decide) (fun c21 => ?_) (fun c21 => absurd c21 (by decide))
    refine lv_iload_n hx hb d_Mo_plain_143 rfl (lv_at hl 5 rfl) ?_
    refine lv_bipush (v := 20) hx hb d_Mo_plain_144 (by decide) ?_
    refine lv_icmp_ne (tgt := 158) hx hb d_Mo_plain_146 (by decide) (fun c22 => ?_) (fun c22 => absurd c22 (by decide))
    refine lv_iload_n hx hb d_Mo_plain_158 rfl (lv_at hl 5 rfl) ?_
    refine lv_bipush (v := 21) hx hb d_Mo_plain_159 (by decide) ?_
    refine lv_icmp_ne (tgt := 173) hx hb d_Mo_plain_161 (by decide) (fun c23 => ?_) (fun c23 => absurd c23 (by decide))
    refine lv_aload_n hx hb d_Mo_plain_173 rfl (lv_at hl 3 rfl) ?_
    refine lv_iload_n hx hb d_Mo_plain_174 rfl (lv_at hl 5 rfl) ?_
    refine lv_if_ne (tgt := 183) hx hb d_Mo_plain_175 (by decide) (fun c24 => ?_) (fun c24 => absurd c24 (by decide))
    refine lv_iload_n hx hb d_Mo_plain_183 rfl (lv_at hl 5 rfl) ?_
    refine lv_bipush (v := 6) hx hb d_Mo_plain_184 (by decide) ?_
    refine lv_icmp_ne (tgt := 197) hx hb d_Mo_plain_186 (by decide) (fun c25 => ?_) (fun c25 => absurd c25 (by decide))
    refine lv_iload_n hx hb d_Mo_plain_197 rfl (lv_at hl 5 rfl) ?_
    refine lv_bipush (v := 15) hx hb d_Mo_plain_198 (by decide) ?_
    refine lv_icmp_ne (tgt := 212) hx hb d_Mo_plain_200 (by decide) (fun c26 => ?_) (fun c26 => absurd c26 (by decide))
    refine lv_iload_n hx hb d_Mo_plain_212 rfl (lv_at hl 5 rfl) ?_
    refine lv_bipush (v := 19) hx hb d_Mo_plain_213 (by decide) ?_
    refine lv_icmp_ne (tgt := 235) hx hb d_Mo_plain_215 (by decide) (fun c27 => absurd (by decide) c27) (fun c27 => ?_)
    refine lv_aload_n hx hb d_Mo_plain_218 rfl (lv_at hl 3 rfl) ?_
    refine lv_iload hx hb d_Mo_plain_219 (lv_at hl 1 rfl) ?_
    refine gh_callV C V hl.1 m_Mo_isTrue l_Mo_351 (c_Mo_isTrue l E _ _ a ad _ _ _ v X.1 hO1.lt) rfl X.1.1 gc_Mo ⟨by first | decide | omega | (dsimp only; omega), by first | decide | omega | (dsimp only; omega)⟩ ⟨by first | decide | omega | (dsimp only; omega), by first | decide | omega | (dsimp only; omega)⟩ (Nat.le_of_ble_eq_true rfl) rfl d_Mo_plain_221 (fun r z9 H locs hp V1 => ?_)
    rw [mw_true hO1 hc1, htr] at hp
    obtain ⟨rfl, he9⟩ := hp
    rw [he9] at V1
    have V := V1
    refine W.eq (g2 := F0 m 224 ls [.int (gh_bi false), .ref a]) rfl ?_
    refine lv_if_eq (tgt := 231) hx hb d_Mo_plain_224 (by decide) (fun c28 => ?_) (fun c28 => absurd (by decide) c28)
    refine lv_iconst (v := 2) hx hb d_Mo_plain_231 (by decide) ?_
    refine lv_goto (tgt := 236) hx hb d_Mo_plain_232 (by decide) ?_
    refine gh_callV C V hl.1 m_Mo_give l_Mo_342 (c_Mo_give l E _ _ a ad _ _ _ 2 w X.1 h45) rfl X.1.1 gc_Mo ⟨by first | decide | omega | (dsimp only; omega), by first | decide | omega | (dsimp only; omega)⟩ ⟨by first | decide | omega | (dsimp only; omega), by first | decide | omega | (dsimp only; omega)⟩ (Nat.le_of_ble_eq_true rfl) rfl d_Mo_plain_236 (fun r z9 H locs hp V1 => ?_)
    obtain ⟨rfl, X2⟩ := hp
    have X := X.then X2
    have V := V1
    refine W.eq (g2 := F0 m 239 ls []) rfl ?_
    refine gh_retv hAe C V hr hlocks d_Mo_plain_239 (by first | decide | omega | (dsimp only; omega)) (by first | decide | omega | (dsimp only; omega)) ?_
    exact ⟨rfl, _, _, _, X, mr_give (u := 2) h11 h12 (by omega) hc1.2.2.1⟩
set_option maxHeartbeats 4000000 in
set_option maxRecDepth 100000 in
theorem c_Mo_plain_17 (l : Launch) (E : gh_E) (sz : Nat) (f : gh_F) (a : Nat) (ad : Nat → Nat) (S : Nat → Int32) (I : Nat → Nat → Int32) (J : Nat → Nat → Int64) (w cp φ : Nat) (hX : mo_R E f a ad S I J) (h45 : S 45 = nI (w + 1)) (hw : w < 14) (hc60 : cp < 60) (hph : I 35 cp = 0) : gh_M l y_Mo_plain b_Mo_plain 6 none E sz [.ref a, .int (nI cp), .int 17] f { frames := 7, cells := 0, slots := 0, locals := 200 } (fun r g => r = none ∧ ∃ S2 I2, mo_X E f g a ad S2 I2 J ∧ mct cp w (fun _ => False) (va_up (fun k => I k cp) 35 1) S I S2 I2 ∧ oc_t w 2 (S 47) S S2) := by
  refine gh_open (by decide) (Nat.le_of_ble_eq_true rfl) ?_
  intro p e s m args below meth c A ls hAe C V hr hlocks hname hl
  have hx := C.1
  have hb := C.2.1
  have hl : lv_has ls 6 [(0, .ref a), (1, .int (nI cp)), (2, .int 17)] := hl
  have X : mo_X E f f a ad S I J := ⟨hX, gh_fr.rf⟩
  refine lv_aload_n hx hb d_Mo_plain_0 rfl (lv_at hl 0 rfl) ?_
  refine mo_getA C V X 35 (by decide) (by decide) f_Mo_88 rfl d_Mo_plain_1 ?_
  refine lv_iload_n hx hb d_Mo_plain_4 rfl (lv_at hl 1 rfl) ?_
  refine mo_ild (k := 35) (i := cp) (n := 60) C V X (by decide) (by decide) rfl (by omega) (by decide) d_Mo_plain_5 ?_
  rw [show I 35 cp = 0 from hph]
  refine lv_iconst (v := 1) hx hb d_Mo_plain_6 (by decide) ?_
  refine lv_icmp_ne (tgt := 14) hx hb d_Mo_plain_7 (by decide) (fun c1 => ?_) (fun c1 => absurd c1 (by decide))
  refine lv_iconst (v := 0) hx hb d_Mo_plain_14 (by decide) ?_
  refine lv_istore_n hx hb d_Mo_plain_15 rfl hl (by decide) rfl (fun ls hl => ?_)
  have hl : lv_has ls 6 [(3, .int 0), (0, .ref a), (1, .int (nI cp)), (2, .int 17)] := hl
  refine lv_aload_n hx hb d_Mo_plain_16 rfl (lv_at hl 1 rfl) ?_
  refine mo_getA C V X 35 (by decide) (by decide) f_Mo_88 rfl d_Mo_plain_17 ?_
  refine lv_iload_n hx hb d_Mo_plain_20 rfl (lv_at hl 2 rfl) ?_
  refine lv_iconst (v := 1) hx hb d_Mo_plain_21 (by decide) ?_
  refine mo_ist (k := 35) (i := cp) (n := 60) C V X (by decide) (by decide) rfl (by omega) (by decide) d_Mo_plain_22 (fun f1 H locs V1 X1 => ?_)
  clear V X
  have V := V1
  have X := X1
  clear V1 X1
  refine lv_aload_n hx hb d_Mo_plain_23 rfl (lv_at hl 1 rfl) ?_
  refine mo_getA C V X 36 (by decide) (by decide) f_Mo_91 rfl d_Mo_plain_24 ?_
  refine lv_iload_n hx hb d_Mo_plain_27 rfl (lv_at hl 2 rfl) ?_
  refine mo_ild (k := 36) (i := cp) (n := 60) C V X (by decide) (by decide) rfl (by omega) (by decide) d_Mo_plain_28 ?_
  rw [show (va_up I 35 (upd (I 35) cp 1)) 36 cp = I 36 cp from ((congrFun (va_up_n (by decide)) cp).trans (rfl))]
  refine lv_istore hx hb d_Mo_plain_29 hl (by decide) rfl (fun ls hl => ?_)
  have hl : lv_has ls 6 [(4, .int (I 36 cp)), (3, .int 0), (0, .ref a), (1, .int (nI cp)), (2, .int 17)] := hl
  refine lv_iload_n hx hb d_Mo_plain_31 rfl (lv_at hl 3 rfl) ?_
  refine lv_bipush (v := 59) hx hb d_Mo_plain_32 (by decide) ?_
  refine lv_icmp_ge (tgt := 48) hx hb d_Mo_plain_34 (by decide) (fun c2 => ?_) (fun c2 => ?_)
  · have c2 : 59 ≤ cp := by rw [← gq_le (a := 59) (b := cp) (by omega) (by omega)]; exact c2
    refine lv_iconst (v := 0) hx hb d_Mo_plain_48 (by decide) ?_
    refine lv_istore hx hb d_Mo_plain_49 hl (by decide) rfl (fun ls hl => ?_)
    have hl : lv_has ls 6 [(5, .int 0), (4, .int (I 36 cp)), (3, .int 0), (0, .ref a), (1, .int (nI cp)), (2, .int 17)] := hl
    refine lv_iload_n hx hb d_Mo_plain_51 rfl (lv_at hl 2 rfl) ?_
    refine lv_if_ne (tgt := 61) hx hb d_Mo_plain_52 (by decide) (fun c3 => absurd (by decide) c3) (fun c3 => ?_)
    refine lv_iload_n hx hb d_Mo_plain_55 rfl (lv_at hl 5 rfl) ?_
    refine lv_bipush (v := 17) hx hb d_Mo_plain_56 (by decide) ?_
    refine lv_icmp_ne (tgt := 69) hx hb d_Mo_plain_58 (by decide) (fun c4 => absurd (by decide) c4) (fun c4 => ?_)
    refine lv_aload_n hx hb d_Mo_plain_61 rfl (lv_at hl 3 rfl) ?_
    refine lv_iconst (v := 2) hx hb d_Mo_plain_62 (by decide) ?_
    refine gh_callV C V hl.1 m_Mo_tell l_Mo_289 (c_Mo_tell l E _ _ a ad _ _ _ 2 w X.1 h45) rfl X.1.1 gc_Mo ⟨by first | decide | omega | (dsimp only; omega), by first | decide | omega | (dsimp only; omega)⟩ ⟨by first | decide | omega | (dsimp only; omega), by first | decide | omega | (dsimp only; omega)⟩ (Nat.le_of_ble_eq_true rfl) rfl d_Mo_plain_63 (fun r z9 H locs hp V1 => ?_)
    obtain ⟨rfl, X2⟩ := hp
    have X := X.then X2
    have V := V1
    refine W.eq (g2 := F0 m 66 ls []) rfl ?_
    refine lv_goto (tgt := 239) hx hb d_Mo_plain_66 (by decide) ?_
    refine gh_retv hAe C V hr hlocks d_Mo_plain_239 (by first | decide | omega | (dsimp only; omega)) (by first | decide | omega | (dsimp only; omega)) ?_
    exact ⟨rfl, _, _, X, (mct.rf.cell 35 1 (by decide) (by decide)).tell, oc_t1 rfl rfl rfl⟩
  · have c2 : ¬ 59 ≤ cp := by rw [← gq_le (a := 59) (b := cp) (by omega) (by omega)]; exact c2
    refine lv_aload_n hx hb d_Mo_plain_37 rfl (lv_at hl 2 rfl) ?_
    refine mo_getA C V X 33 (by decide) (by decide) f_Mo_82 rfl d_Mo_plain_38 ?_
    refine lv_iload_n hx hb d_Mo_plain_41 rfl (lv_at hl 3 rfl) ?_
    refine lv_iconst (v := 1) hx hb d_Mo_plain_42 (by decide) ?_
    refine gn_iadd (a := cp) (b := 1) hx hb d_Mo_plain_43 ?_
    refine mo_ild (k := 33) (i := cp + 1) (n := 60) C V X (by decide) (by decide) rfl (by omega) (by decide) d_Mo_plain_44 ?_
    refine lv_goto (tgt := 49) hx hb d_Mo_plain_45 (by decide) ?_
    refine lv_istore hx hb d_Mo_plain_49 hl (by decide) rfl (fun ls hl => ?_)
    have hl : lv_has ls 6 [(5, .int ((va_up I 35 (upd (I 35) cp 1)) 33 (cp + 1))), (4, .int (I 36 cp)), (3, .int 0), (0, .ref a), (1, .int (nI cp)), (2, .int 17)] := hl
    refine lv_iload_n hx hb d_Mo_plain_51 rfl (lv_at hl 2 rfl) ?_
    refine lv_if_ne (tgt := 61) hx hb d_Mo_plain_52 (by decide) (fun c5 => absurd (by decide) c5) (fun c5 => ?_)
    refine lv_iload_n hx hb d_Mo_plain_55 rfl (lv_at hl 5 rfl) ?_
    refine lv_bipush (v := 17) hx hb d_Mo_plain_56 (by decide) ?_
    refine lv_icmp_ne (tgt := 69) hx hb d_Mo_plain_58 (by decide) (fun c6 => absurd (by decide) c6) (fun c6 => ?_)
    refine lv_aload_n hx hb d_Mo_plain_61 rfl (lv_at hl 3 rfl) ?_
    refine lv_iconst (v := 2) hx hb d_Mo_plain_62 (by decide) ?_
    refine gh_callV C V hl.1 m_Mo_tell l_Mo_289 (c_Mo_tell l E _ _ a ad _ _ _ 2 w X.1 h45) rfl X.1.1 gc_Mo ⟨by first | decide | omega | (dsimp only; omega), by first | decide | omega | (dsimp only; omega)⟩ ⟨by first | decide | omega | (dsimp only; omega), by first | decide | omega | (dsimp only; omega)⟩ (Nat.le_of_ble_eq_true rfl) rfl d_Mo_plain_63 (fun r z9 H locs hp V1 => ?_)
    obtain ⟨rfl, X2⟩ := hp
    have X := X.then X2
    have V := V1
    refine W.eq (g2 := F0 m 66 ls []) rfl ?_
    refine lv_goto (tgt := 239) hx hb d_Mo_plain_66 (by decide) ?_
    refine gh_retv hAe C V hr hlocks d_Mo_plain_239 (by first | decide | omega | (dsimp only; omega)) (by first | decide | omega | (dsimp only; omega)) ?_
    exact ⟨rfl, _, _, X, (mct.rf.cell 35 1 (by decide) (by decide)).tell, oc_t1 rfl rfl rfl⟩
set_option maxHeartbeats 4000000 in
set_option maxRecDepth 100000 in
theorem c_Mo_plain_again (l : Launch) (E : gh_E) (sz : Nat) (f : gh_F) (a : Nat) (ad : Nat → Nat) (S : Nat → Int32) (I : Nat → Nat → Int32) (J : Nat → Nat → Int64) (w cp φ : Nat) (kk : Nat) (hX : mo_R E f a ad S I J) (h45 : S 45 = nI (w + 1)) (hw : w < 14) (hc60 : cp < 60) (hph : I 35 cp = 1) : gh_M l y_Mo_plain b_Mo_plain 6 none E sz [.ref a, .int (nI cp), .int (nI kk)] f { frames := 7, cells := 0, slots := 0, locals := 200 } (fun r g => r = none ∧ ∃ S2 I2, mo_X E f g a ad S2 I2 J ∧ mct cp w (fun _ => False) (va_up (fun k => I k cp) 35 1) S I S2 I2 ∧ oc_t w 2 (S 47) S S2) := by
  refine gh_open (by decide) (Nat.le_of_ble_eq_true rfl) ?_
  intro p e s m args below meth c A ls hAe C V hr hlocks hname hl
  have hx := C.1
  have hb := C.2.1
  have hl : lv_has ls 6 [(0, .ref a), (1, .int (nI cp)), (2, .int (nI kk))] := hl
  have X : mo_X E f f a ad S I J := ⟨hX, gh_fr.rf⟩
  refine lv_aload_n hx hb d_Mo_plain_0 rfl (lv_at hl 0 rfl) ?_
  refine mo_getA C V X 35 (by decide) (by decide) f_Mo_88 rfl d_Mo_plain_1 ?_
  refine lv_iload_n hx hb d_Mo_plain_4 rfl (lv_at hl 1 rfl) ?_
  refine mo_ild (k := 35) (i := cp) (n := 60) C V X (by decide) (by decide) rfl (by omega) (by decide) d_Mo_plain_5 ?_
  rw [show I 35 cp = 1 from hph]
  refine lv_iconst (v := 1) hx hb d_Mo_plain_6 (by decide) ?_
  refine lv_icmp_ne (tgt := 14) hx hb d_Mo_plain_7 (by decide) (fun c1 => absurd (by decide) c1) (fun c1 => ?_)
  refine lv_iconst (v := 1) hx hb d_Mo_plain_10 (by decide) ?_
  refine lv_goto (tgt := 15) hx hb d_Mo_plain_11 (by decide) ?_
  refine lv_istore_n hx hb d_Mo_plain_15 rfl hl (by decide) rfl (fun ls hl => ?_)
  have hl : lv_has ls 6 [(3, .int 1), (0, .ref a), (1, .int (nI cp)), (2, .int (nI kk))] := hl
  refine lv_aload_n hx hb d_Mo_plain_16 rfl (lv_at hl 1 rfl) ?_
  refine mo_getA C V X 35 (by decide) (by decide) f_Mo_88 rfl d_Mo_plain_17 ?_
  refine lv_iload_n hx hb d_Mo_plain_20 rfl (lv_at hl 2 rfl) ?_
  refine lv_iconst (v := 1) hx hb d_Mo_plain_21 (by decide) ?_
  refine mo_ist (k := 35) (i := cp) (n := 60) C V X (by decide) (by decide) rfl (by omega) (by decide) d_Mo_plain_22 (fun f1 H locs V1 X1 => ?_)
  clear V X
  have V := V1
  have X := X1
  clear V1 X1
  refine lv_aload_n hx hb d_Mo_plain_23 rfl (lv_at hl 1 rfl) ?_
  refine mo_getA C V X 36 (by decide) (by decide) f_Mo_91 rfl d_Mo_plain_24 ?_
  refine lv_iload_n hx hb d_Mo_plain_27 rfl (lv_at hl 2 rfl) ?_
  refine mo_ild (k := 36) (i := cp) (n := 60) C V X (by decide) (by decide) rfl (by omega) (by decide) d_Mo_plain_28 ?_
  rw [show (va_up I 35 (upd (I 35) cp 1)) 36 cp = I 36 cp from ((congrFun (va_up_n (by decide)) cp).trans (rfl))]
  refine lv_istore hx hb d_Mo_plain_29 hl (by decide) rfl (fun ls hl => ?_)
  have hl : lv_has ls 6 [(4, .int (I 36 cp)), (3, .int 1), (0, .ref a), (1, .int (nI cp)), (2, .int (nI kk))] := hl
  refine lv_iload_n hx hb d_Mo_plain_31 rfl (lv_at hl 3 rfl) ?_
  refine lv_bipush (v := 59) hx hb d_Mo_plain_32 (by decide) ?_
  refine lv_icmp_ge (tgt := 48) hx hb d_Mo_plain_34 (by decide) (fun c2 => ?_) (fun c2 => ?_)
  · have c2 : 59 ≤ cp := by rw [← gq_le (a := 59) (b := cp) (by omega) (by omega)]; exact c2
    refine lv_iconst (v := 0) hx hb d_Mo_plain_48 (by decide) ?_
    refine lv_istore hx hb d_Mo_plain_49 hl (by decide) rfl (fun ls hl => ?_)
    have hl : lv_has ls 6 [(5, .int 0), (4, .int (I 36 cp)), (3, .int 1), (0, .ref a), (1, .int (nI cp)), (2, .int (nI kk))] := hl
    refine lv_iload_n hx hb d_Mo_plain_51 rfl (lv_at hl 2 rfl) ?_
    refine lv_if_ne (tgt := 61) hx hb d_Mo_plain_52 (by decide) (fun c3 => ?_) (fun c3 => absurd c3 (by decide))
    refine lv_aload_n hx hb d_Mo_plain_61 rfl (lv_at hl 3 rfl) ?_
    refine lv_iconst (v := 2) hx hb d_Mo_plain_62 (by decide) ?_
    refine gh_callV C V hl.1 m_Mo_tell l_Mo_289 (c_Mo_tell l E _ _ a ad _ _ _ 2 w X.1 h45) rfl X.1.1 gc_Mo ⟨by first | decide | omega | (dsimp only; omega), by first | decide | omega | (dsimp only; omega)⟩ ⟨by first | decide | omega | (dsimp only; omega), by first | decide | omega | (dsimp only; omega)⟩ (Nat.le_of_ble_eq_true rfl) rfl d_Mo_plain_63 (fun r z9 H locs hp V1 => ?_)
    obtain ⟨rfl, X2⟩ := hp
    have X := X.then X2
    have V := V1
    refine W.eq (g2 := F0 m 66 ls []) rfl ?_
    refine lv_goto (tgt := 239) hx hb d_Mo_plain_66 (by decide) ?_
    refine gh_retv hAe C V hr hlocks d_Mo_plain_239 (by first | decide | omega | (dsimp only; omega)) (by first | decide | omega | (dsimp only; omega)) ?_
    exact ⟨rfl, _, _, X, (mct.rf.cell 35 1 (by decide) (by decide)).tell, oc_t1 rfl rfl rfl⟩
  · have c2 : ¬ 59 ≤ cp := by rw [← gq_le (a := 59) (b := cp) (by omega) (by omega)]; exact c2
    refine lv_aload_n hx hb d_Mo_plain_37 rfl (lv_at hl 2 rfl) ?_
    refine mo_getA C V X 33 (by decide) (by decide) f_Mo_82 rfl d_Mo_plain_38 ?_
    refine lv_iload_n hx hb d_Mo_plain_41 rfl (lv_at hl 3 rfl) ?_
    refine lv_iconst (v := 1) hx hb d_Mo_plain_42 (by decide) ?_
    refine gn_iadd (a := cp) (b := 1) hx hb d_Mo_plain_43 ?_
    refine mo_ild (k := 33) (i := cp + 1) (n := 60) C V X (by decide) (by decide) rfl (by omega) (by decide) d_Mo_plain_44 ?_
    refine lv_goto (tgt := 49) hx hb d_Mo_plain_45 (by decide) ?_
    refine lv_istore hx hb d_Mo_plain_49 hl (by decide) rfl (fun ls hl => ?_)
    have hl : lv_has ls 6 [(5, .int ((va_up I 35 (upd (I 35) cp 1)) 33 (cp + 1))), (4, .int (I 36 cp)), (3, .int 1), (0, .ref a), (1, .int (nI cp)), (2, .int (nI kk))] := hl
    refine lv_iload_n hx hb d_Mo_plain_51 rfl (lv_at hl 2 rfl) ?_
    refine lv_if_ne (tgt := 61) hx hb d_Mo_plain_52 (by decide) (fun c4 => ?_) (fun c4 => absurd c4 (by decide))
    refine lv_aload_n hx hb d_Mo_plain_61 rfl (lv_at hl 3 rfl) ?_
    refine lv_iconst (v := 2) hx hb d_Mo_plain_62 (by decide) ?_
    refine gh_callV C V hl.1 m_Mo_tell l_Mo_289 (c_Mo_tell l E _ _ a ad _ _ _ 2 w X.1 h45) rfl X.1.1 gc_Mo ⟨by first | decide | omega | (dsimp only; omega), by first | decide | omega | (dsimp only; omega)⟩ ⟨by first | decide | omega | (dsimp only; omega), by first | decide | omega | (dsimp only; omega)⟩ (Nat.le_of_ble_eq_true rfl) rfl d_Mo_plain_63 (fun r z9 H locs hp V1 => ?_)
    obtain ⟨rfl, X2⟩ := hp
    have X := X.then X2
    have V := V1
    refine W.eq (g2 := F0 m 66 ls []) rfl ?_
    refine lv_goto (tgt := 239) hx hb d_Mo_plain_66 (by decide) ?_
    refine gh_retv hAe C V hr hlocks d_Mo_plain_239 (by first | decide | omega | (dsimp only; omega)) (by first | decide | omega | (dsimp only; omega)) ?_
    exact ⟨rfl, _, _, X, (mct.rf.cell 35 1 (by decide) (by decide)).tell, oc_t1 rfl rfl rfl⟩
