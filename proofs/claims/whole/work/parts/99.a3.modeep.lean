/-! deep of the model, each way. Printed by wip/whole/gen_mo23.py. -/
/-- what is left of a stack when those that are at their end go -/
def dpop (A C : Nat → Nat) : Nat → Nat
  | 0 => 0
  | n + 1 => if A n = C n then dpop A C n else n + 1
theorem dpop_le {A C : Nat → Nat} : ∀ {n : Nat}, dpop A C n ≤ n := by
  intro n
  induction n with
  | zero => exact Nat.le_refl _
  | succ n ih =>
    unfold dpop
    split
    · omega
    · exact Nat.le_refl _
theorem dpop_ne {A C : Nat → Nat} : ∀ {n m : Nat}, dpop A C n = m + 1 → A m ≠ C m := by
  intro n
  induction n with
  | zero => intro m h; cases h
  | succ n ih =>
    intro m h
    unfold dpop at h
    split at h
    · exact ih h
    · rename_i h2; injection h with h; rw [← h]; exact h2
theorem d_Mo_deep_0 : decode b_Mo_deep 0 = .ok (.aload_n 0, 1) := by decide +kernel
theorem d_Mo_deep_1 : decode b_Mo_deep 1 = .ok (.getfield 91, 3) := by decide +kernel
theorem d_Mo_deep_4 : decode b_Mo_deep 4 = .ok (.iload_n 1, 1) := by decide +kernel
theorem d_Mo_deep_5 : decode b_Mo_deep 5 = .ok (.iaload, 1) := by decide +kernel
theorem d_Mo_deep_6 : decode b_Mo_deep 6 = .ok (.istore_n 2, 1) := by decide +kernel
theorem d_Mo_deep_7 : decode b_Mo_deep 7 = .ok (.aload_n 0, 1) := by decide +kernel
theorem d_Mo_deep_8 : decode b_Mo_deep 8 = .ok (.getfield 88, 3) := by decide +kernel
theorem d_Mo_deep_11 : decode b_Mo_deep 11 = .ok (.iload_n 1, 1) := by decide +kernel
theorem d_Mo_deep_12 : decode b_Mo_deep 12 = .ok (.iaload, 1) := by decide +kernel
theorem d_Mo_deep_13 : decode b_Mo_deep 13 = .ok (.ifCond .ne 13, 3) := by decide +kernel
theorem d_Mo_deep_16 : decode b_Mo_deep 16 = .ok (.aload_n 0, 1) := by decide +kernel
theorem d_Mo_deep_17 : decode b_Mo_deep 17 = .ok (.getfield 103, 3) := by decide +kernel
theorem d_Mo_deep_20 : decode b_Mo_deep 20 = .ok (.iload_n 1, 1) := by decide +kernel
theorem d_Mo_deep_21 : decode b_Mo_deep 21 = .ok (.iconst 0, 1) := by decide +kernel
theorem d_Mo_deep_22 : decode b_Mo_deep 22 = .ok (.iastore, 1) := by decide +kernel
theorem d_Mo_deep_23 : decode b_Mo_deep 23 = .ok (.goto 119, 3) := by decide +kernel
theorem d_Mo_deep_26 : decode b_Mo_deep 26 = .ok (.aload_n 0, 1) := by decide +kernel
theorem d_Mo_deep_27 : decode b_Mo_deep 27 = .ok (.getfield 103, 3) := by decide +kernel
theorem d_Mo_deep_30 : decode b_Mo_deep 30 = .ok (.iload_n 1, 1) := by decide +kernel
theorem d_Mo_deep_31 : decode b_Mo_deep 31 = .ok (.iaload, 1) := by decide +kernel
theorem d_Mo_deep_32 : decode b_Mo_deep 32 = .ok (.istore_n 3, 1) := by decide +kernel
theorem d_Mo_deep_33 : decode b_Mo_deep 33 = .ok (.iload_n 3, 1) := by decide +kernel
theorem d_Mo_deep_34 : decode b_Mo_deep 34 = .ok (.ifCond .le 43, 3) := by decide +kernel
theorem d_Mo_deep_37 : decode b_Mo_deep 37 = .ok (.aload_n 0, 1) := by decide +kernel
theorem d_Mo_deep_38 : decode b_Mo_deep 38 = .ok (.getfield 112, 3) := by decide +kernel
theorem d_Mo_deep_41 : decode b_Mo_deep 41 = .ok (.bipush 9, 2) := by decide +kernel
theorem d_Mo_deep_43 : decode b_Mo_deep 43 = .ok (.iload_n 1, 1) := by decide +kernel
theorem d_Mo_deep_44 : decode b_Mo_deep 44 = .ok (.imul, 1) := by decide +kernel
theorem d_Mo_deep_45 : decode b_Mo_deep 45 = .ok (.iload_n 3, 1) := by decide +kernel
theorem d_Mo_deep_46 : decode b_Mo_deep 46 = .ok (.iadd, 1) := by decide +kernel
theorem d_Mo_deep_47 : decode b_Mo_deep 47 = .ok (.iconst 1, 1) := by decide +kernel
theorem d_Mo_deep_48 : decode b_Mo_deep 48 = .ok (.isub, 1) := by decide +kernel
theorem d_Mo_deep_49 : decode b_Mo_deep 49 = .ok (.iaload, 1) := by decide +kernel
theorem d_Mo_deep_50 : decode b_Mo_deep 50 = .ok (.aload_n 0, 1) := by decide +kernel
theorem d_Mo_deep_51 : decode b_Mo_deep 51 = .ok (.getfield 17, 3) := by decide +kernel
theorem d_Mo_deep_54 : decode b_Mo_deep 54 = .ok (.aload_n 0, 1) := by decide +kernel
theorem d_Mo_deep_55 : decode b_Mo_deep 55 = .ok (.getfield 109, 3) := by decide +kernel
theorem d_Mo_deep_58 : decode b_Mo_deep 58 = .ok (.bipush 9, 2) := by decide +kernel
theorem d_Mo_deep_60 : decode b_Mo_deep 60 = .ok (.iload_n 1, 1) := by decide +kernel
theorem d_Mo_deep_61 : decode b_Mo_deep 61 = .ok (.imul, 1) := by decide +kernel
theorem d_Mo_deep_62 : decode b_Mo_deep 62 = .ok (.iload_n 3, 1) := by decide +kernel
theorem d_Mo_deep_63 : decode b_Mo_deep 63 = .ok (.iadd, 1) := by decide +kernel
theorem d_Mo_deep_64 : decode b_Mo_deep 64 = .ok (.iconst 1, 1) := by decide +kernel
theorem d_Mo_deep_65 : decode b_Mo_deep 65 = .ok (.isub, 1) := by decide +kernel
theorem d_Mo_deep_66 : decode b_Mo_deep 66 = .ok (.iaload, 1) := by decide +kernel
theorem d_Mo_deep_67 : decode b_Mo_deep 67 = .ok (.iaload, 1) := by decide +kernel
theorem d_Mo_deep_68 : decode b_Mo_deep 68 = .ok (.if_icmp .ne 9, 3) := by decide +kernel
theorem d_Mo_deep_71 : decode b_Mo_deep 71 = .ok (.iinc 3 (-1), 3) := by decide +kernel
theorem d_Mo_deep_74 : decode b_Mo_deep 74 = .ok (.goto (-41), 3) := by decide +kernel
theorem d_Mo_deep_77 : decode b_Mo_deep 77 = .ok (.aload_n 0, 1) := by decide +kernel
theorem d_Mo_deep_78 : decode b_Mo_deep 78 = .ok (.getfield 103, 3) := by decide +kernel
theorem d_Mo_deep_81 : decode b_Mo_deep 81 = .ok (.iload_n 1, 1) := by decide +kernel
theorem d_Mo_deep_82 : decode b_Mo_deep 82 = .ok (.iload_n 3, 1) := by decide +kernel
theorem d_Mo_deep_83 : decode b_Mo_deep 83 = .ok (.iastore, 1) := by decide +kernel
theorem d_Mo_deep_84 : decode b_Mo_deep 84 = .ok (.iload_n 3, 1) := by decide +kernel
theorem d_Mo_deep_85 : decode b_Mo_deep 85 = .ok (.ifCond .ne 9, 3) := by decide +kernel
theorem d_Mo_deep_88 : decode b_Mo_deep 88 = .ok (.aload_n 0, 1) := by decide +kernel
theorem d_Mo_deep_89 : decode b_Mo_deep 89 = .ok (.iconst 2, 1) := by decide +kernel
theorem d_Mo_deep_90 : decode b_Mo_deep 90 = .ok (.invokevirtual 289, 3) := by decide +kernel
theorem d_Mo_deep_93 : decode b_Mo_deep 93 = .ok (.return_, 1) := by decide +kernel
theorem d_Mo_deep_94 : decode b_Mo_deep 94 = .ok (.aload_n 0, 1) := by decide +kernel
theorem d_Mo_deep_95 : decode b_Mo_deep 95 = .ok (.invokevirtual 280, 3) := by decide +kernel
theorem d_Mo_deep_98 : decode b_Mo_deep 98 = .ok (.ifCond .ne 4, 3) := by decide +kernel
theorem d_Mo_deep_101 : decode b_Mo_deep 101 = .ok (.return_, 1) := by decide +kernel
theorem d_Mo_deep_102 : decode b_Mo_deep 102 = .ok (.bipush 9, 2) := by decide +kernel
theorem d_Mo_deep_104 : decode b_Mo_deep 104 = .ok (.iload_n 1, 1) := by decide +kernel
theorem d_Mo_deep_105 : decode b_Mo_deep 105 = .ok (.imul, 1) := by decide +kernel
theorem d_Mo_deep_106 : decode b_Mo_deep 106 = .ok (.iload_n 3, 1) := by decide +kernel
theorem d_Mo_deep_107 : decode b_Mo_deep 107 = .ok (.iadd, 1) := by decide +kernel
theorem d_Mo_deep_108 : decode b_Mo_deep 108 = .ok (.iconst 1, 1) := by decide +kernel
theorem d_Mo_deep_109 : decode b_Mo_deep 109 = .ok (.isub, 1) := by decide +kernel
theorem d_Mo_deep_110 : decode b_Mo_deep 110 = .ok (.istore 4, 2) := by decide +kernel
theorem d_Mo_deep_112 : decode b_Mo_deep 112 = .ok (.aload_n 0, 1) := by decide +kernel
theorem d_Mo_deep_113 : decode b_Mo_deep 113 = .ok (.aload_n 0, 1) := by decide +kernel
theorem d_Mo_deep_114 : decode b_Mo_deep 114 = .ok (.getfield 109, 3) := by decide +kernel
theorem d_Mo_deep_117 : decode b_Mo_deep 117 = .ok (.iload 4, 2) := by decide +kernel
theorem d_Mo_deep_119 : decode b_Mo_deep 119 = .ok (.iaload, 1) := by decide +kernel
theorem d_Mo_deep_120 : decode b_Mo_deep 120 = .ok (.aload_n 0, 1) := by decide +kernel
theorem d_Mo_deep_121 : decode b_Mo_deep 121 = .ok (.getfield 112, 3) := by decide +kernel
theorem d_Mo_deep_124 : decode b_Mo_deep 124 = .ok (.iload 4, 2) := by decide +kernel
theorem d_Mo_deep_126 : decode b_Mo_deep 126 = .ok (.iaload, 1) := by decide +kernel
theorem d_Mo_deep_127 : decode b_Mo_deep 127 = .ok (.invokevirtual 176, 3) := by decide +kernel
theorem d_Mo_deep_130 : decode b_Mo_deep 130 = .ok (.istore_n 2, 1) := by decide +kernel
theorem d_Mo_deep_131 : decode b_Mo_deep 131 = .ok (.aload_n 0, 1) := by decide +kernel
theorem d_Mo_deep_132 : decode b_Mo_deep 132 = .ok (.getfield 112, 3) := by decide +kernel
theorem d_Mo_deep_135 : decode b_Mo_deep 135 = .ok (.iload 4, 2) := by decide +kernel
theorem d_Mo_deep_137 : decode b_Mo_deep 137 = .ok (.dup2, 1) := by decide +kernel
theorem d_Mo_deep_138 : decode b_Mo_deep 138 = .ok (.iaload, 1) := by decide +kernel
theorem d_Mo_deep_139 : decode b_Mo_deep 139 = .ok (.iconst 1, 1) := by decide +kernel
theorem d_Mo_deep_140 : decode b_Mo_deep 140 = .ok (.iadd, 1) := by decide +kernel
theorem d_Mo_deep_141 : decode b_Mo_deep 141 = .ok (.iastore, 1) := by decide +kernel
theorem d_Mo_deep_142 : decode b_Mo_deep 142 = .ok (.aload_n 0, 1) := by decide +kernel
theorem d_Mo_deep_143 : decode b_Mo_deep 143 = .ok (.getfield 88, 3) := by decide +kernel
theorem d_Mo_deep_146 : decode b_Mo_deep 146 = .ok (.iload_n 1, 1) := by decide +kernel
theorem d_Mo_deep_147 : decode b_Mo_deep 147 = .ok (.iconst 1, 1) := by decide +kernel
theorem d_Mo_deep_148 : decode b_Mo_deep 148 = .ok (.iastore, 1) := by decide +kernel
theorem d_Mo_deep_149 : decode b_Mo_deep 149 = .ok (.aload_n 0, 1) := by decide +kernel
theorem d_Mo_deep_150 : decode b_Mo_deep 150 = .ok (.iload_n 2, 1) := by decide +kernel
theorem d_Mo_deep_151 : decode b_Mo_deep 151 = .ok (.invokevirtual 169, 3) := by decide +kernel
theorem d_Mo_deep_154 : decode b_Mo_deep 154 = .ok (.ifCond .eq 47, 3) := by decide +kernel
theorem d_Mo_deep_157 : decode b_Mo_deep 157 = .ok (.aload_n 0, 1) := by decide +kernel
theorem d_Mo_deep_158 : decode b_Mo_deep 158 = .ok (.getfield 109, 3) := by decide +kernel
theorem d_Mo_deep_161 : decode b_Mo_deep 161 = .ok (.bipush 9, 2) := by decide +kernel
theorem d_Mo_deep_163 : decode b_Mo_deep 163 = .ok (.iload_n 1, 1) := by decide +kernel
theorem d_Mo_deep_164 : decode b_Mo_deep 164 = .ok (.imul, 1) := by decide +kernel
theorem d_Mo_deep_165 : decode b_Mo_deep 165 = .ok (.aload_n 0, 1) := by decide +kernel
theorem d_Mo_deep_166 : decode b_Mo_deep 166 = .ok (.getfield 103, 3) := by decide +kernel
theorem d_Mo_deep_169 : decode b_Mo_deep 169 = .ok (.iload_n 1, 1) := by decide +kernel
theorem d_Mo_deep_170 : decode b_Mo_deep 170 = .ok (.iaload, 1) := by decide +kernel
theorem d_Mo_deep_171 : decode b_Mo_deep 171 = .ok (.iadd, 1) := by decide +kernel
theorem d_Mo_deep_172 : decode b_Mo_deep 172 = .ok (.iload_n 2, 1) := by decide +kernel
theorem d_Mo_deep_173 : decode b_Mo_deep 173 = .ok (.iastore, 1) := by decide +kernel
theorem d_Mo_deep_174 : decode b_Mo_deep 174 = .ok (.aload_n 0, 1) := by decide +kernel
theorem d_Mo_deep_175 : decode b_Mo_deep 175 = .ok (.getfield 112, 3) := by decide +kernel
theorem d_Mo_deep_178 : decode b_Mo_deep 178 = .ok (.bipush 9, 2) := by decide +kernel
theorem d_Mo_deep_180 : decode b_Mo_deep 180 = .ok (.iload_n 1, 1) := by decide +kernel
theorem d_Mo_deep_181 : decode b_Mo_deep 181 = .ok (.imul, 1) := by decide +kernel
theorem d_Mo_deep_182 : decode b_Mo_deep 182 = .ok (.aload_n 0, 1) := by decide +kernel
theorem d_Mo_deep_183 : decode b_Mo_deep 183 = .ok (.getfield 103, 3) := by decide +kernel
theorem d_Mo_deep_186 : decode b_Mo_deep 186 = .ok (.iload_n 1, 1) := by decide +kernel
theorem d_Mo_deep_187 : decode b_Mo_deep 187 = .ok (.iaload, 1) := by decide +kernel
theorem d_Mo_deep_188 : decode b_Mo_deep 188 = .ok (.iadd, 1) := by decide +kernel
theorem d_Mo_deep_189 : decode b_Mo_deep 189 = .ok (.iconst 0, 1) := by decide +kernel
theorem d_Mo_deep_190 : decode b_Mo_deep 190 = .ok (.iastore, 1) := by decide +kernel
theorem d_Mo_deep_191 : decode b_Mo_deep 191 = .ok (.aload_n 0, 1) := by decide +kernel
theorem d_Mo_deep_192 : decode b_Mo_deep 192 = .ok (.getfield 103, 3) := by decide +kernel
theorem d_Mo_deep_195 : decode b_Mo_deep 195 = .ok (.iload_n 1, 1) := by decide +kernel
theorem d_Mo_deep_196 : decode b_Mo_deep 196 = .ok (.dup2, 1) := by decide +kernel
theorem d_Mo_deep_197 : decode b_Mo_deep 197 = .ok (.iaload, 1) := by decide +kernel
theorem d_Mo_deep_198 : decode b_Mo_deep 198 = .ok (.iconst 1, 1) := by decide +kernel
theorem d_Mo_deep_199 : decode b_Mo_deep 199 = .ok (.iadd, 1) := by decide +kernel
theorem d_Mo_deep_200 : decode b_Mo_deep 200 = .ok (.iastore, 1) := by decide +kernel
theorem d_Mo_deep_201 : decode b_Mo_deep 201 = .ok (.aload_n 0, 1) := by decide +kernel
theorem d_Mo_deep_202 : decode b_Mo_deep 202 = .ok (.iload_n 2, 1) := by decide +kernel
theorem d_Mo_deep_203 : decode b_Mo_deep 203 = .ok (.invokevirtual 342, 3) := by decide +kernel
theorem d_Mo_deep_206 : decode b_Mo_deep 206 = .ok (.return_, 1) := by decide +kernel
set_option maxHeartbeats 4000000 in
set_option maxRecDepth 100000 in
theorem c_Mo_deep_0h (l : Launch) (E : gh_E) (sz : Nat) (f : gh_F) (a : Nat) (ad : Nat → Nat) (S : Nat → Int32) (I : Nat → Nat → Int32) (J : Nat → Nat → Int64) (w cp φ : Nat) (b0 nv pb np v : Nat) (O : vt) (hX : mo_R E f a ad S I J) (h45 : S 45 = nI (w + 1)) (hw : w < 14) (hc60 : cp < 60) (hph : I 35 cp = 0) (hit : I 36 cp = nI v) (hO : mw I J b0 nv pb np v O) (hhi : vt_hi O = true) : gh_M l y_Mo_deep b_Mo_deep 5 none E sz [.ref a, .int (nI cp)] f { frames := 7, cells := 0, slots := 0, locals := 200 } (fun r g => r = none ∧ ∃ S2 I2, mo_X E f g a ad S2 I2 J ∧ mct cp w (fun _ => False) (va_up (va_up (va_up (fun k => I k cp) 40 0) 35 1) 40 1) S I S2 I2 ∧ (I2 42 = upd (I 42) (9 * cp) (nI v) ∧ I2 43 = upd (I 43) (9 * cp) 0) ∧ oc_t w 1 (nI v) S S2) := by
  refine gh_open (by decide) (Nat.le_of_ble_eq_true rfl) ?_
  intro p e s m args below meth c A ls hAe C V hr hlocks hname hl
  have hx := C.1
  have hb := C.2.1
  have hl : lv_has ls 5 [(0, .ref a), (1, .int (nI cp))] := hl
  have X : mo_X E f f a ad S I J := ⟨hX, gh_fr.rf⟩
  refine lv_aload_n hx hb d_Mo_deep_0 rfl (lv_at hl 0 rfl) ?_
  refine mo_getA C V X 36 (by decide) (by decide) f_Mo_91 rfl d_Mo_deep_1 ?_
  refine lv_iload_n hx hb d_Mo_deep_4 rfl (lv_at hl 1 rfl) ?_
  refine mo_ild (k := 36) (i := cp) (n := 60) C V X (by decide) (by decide) rfl (by omega) (by decide) d_Mo_deep_5 ?_
  rw [show I 36 cp = nI v from hit]
  refine lv_istore_n hx hb d_Mo_deep_6 rfl hl (by decide) rfl (fun ls hl => ?_)
  have hl : lv_has ls 5 [(2, .int (nI v)), (0, .ref a), (1, .int (nI cp))] := hl
  refine lv_aload_n hx hb d_Mo_deep_7 rfl (lv_at hl 1 rfl) ?_
  refine mo_getA C V X 35 (by decide) (by decide) f_Mo_88 rfl d_Mo_deep_8 ?_
  refine lv_iload_n hx hb d_Mo_deep_11 rfl (lv_at hl 2 rfl) ?_
  refine mo_ild (k := 35) (i := cp) (n := 60) C V X (by decide) (by decide) rfl (by omega) (by decide) d_Mo_deep_12 ?_
  rw [show I 35 cp = 0 from hph]
  refine lv_if_ne (tgt := 26) hx hb d_Mo_deep_13 (by decide) (fun c1 => absurd (by decide) c1) (fun c1 => ?_)
  refine lv_aload_n hx hb d_Mo_deep_16 rfl (lv_at hl 1 rfl) ?_
  refine mo_getA C V X 40 (by decide) (by decide) f_Mo_103 rfl d_Mo_deep_17 ?_
  refine lv_iload_n hx hb d_Mo_deep_20 rfl (lv_at hl 2 rfl) ?_
  refine lv_iconst (v := 0) hx hb d_Mo_deep_21 (by decide) ?_
  refine mo_ist (k := 40) (i := cp) (n := 60) C V X (by decide) (by decide) rfl (by omega) (by decide) d_Mo_deep_22 (fun f1 H locs V1 X1 => ?_)
  clear V X
  have V := V1
  have X := X1
  clear V1 X1
  refine lv_goto (tgt := 142) hx hb d_Mo_deep_23 (by decide) ?_
  refine lv_aload_n hx hb d_Mo_deep_142 rfl (lv_at hl 1 rfl) ?_
  refine mo_getA C V X 35 (by decide) (by decide) f_Mo_88 rfl d_Mo_deep_143 ?_
  refine lv_iload_n hx hb d_Mo_deep_146 rfl (lv_at hl 2 rfl) ?_
  refine lv_iconst (v := 1) hx hb d_Mo_deep_147 (by decide) ?_
  refine mo_ist (k := 35) (i := cp) (n := 60) C V X (by decide) (by decide) rfl (by omega) (by decide) d_Mo_deep_148 (fun f1 H locs V1 X1 => ?_)
  clear V X
  have V := V1
  have X := X1
  clear V1 X1
  refine lv_aload_n hx hb d_Mo_deep_149 rfl (lv_at hl 1 rfl) ?_
  refine lv_iload_n hx hb d_Mo_deep_150 rfl (lv_at hl 0 rfl) ?_
  have h1v := (mv_o.mp hO.1).2.1
  have hv7 := hO.lt
  have hmn : (decide ((va_up (va_up I 40 (upd (I 40) cp 0)) 35 (upd ((va_up I 40 (upd (I 40) cp 0)) 35) cp 1)) 1 v = 5) || decide ((va_up (va_up I 40 (upd (I 40) cp 0)) 35 (upd ((va_up I 40 (upd (I 40) cp 0)) 35) cp 1)) 1 v = 6)) = true := by rw [show (va_up (va_up I 40 (upd (I 40) cp 0)) 35 (upd ((va_up I 40 (upd (I 40) cp 0)) 35) cp 1)) 1 v = I 1 v from (by simp only [va_up_n (show (1 : Nat) ≠ 35 by decide), va_up_n (show (1 : Nat) ≠ 40 by decide), va_up_n (show (1 : Nat) ≠ 43 by decide)]), h1v]; exact mw_many hO hhi
  refine gh_callV C V hl.1 m_Mo_isMany l_Mo_169 (c_Mo_isMany l E _ _ a ad _ _ _ v X.1 hv7) rfl X.1.1 gc_Mo ⟨by first | decide | omega | (dsimp only; omega), by first | decide | omega | (dsimp only; omega)⟩ ⟨by first | decide | omega | (dsimp only; omega), by first | decide | omega | (dsimp only; omega)⟩ (Nat.le_of_ble_eq_true rfl) rfl d_Mo_deep_151 (fun r z9 H locs hp V1 => ?_)
  rw [hmn] at hp
  obtain ⟨rfl, he9⟩ := hp
  rw [he9] at V1
  have V := V1
  refine W.eq (g2 := F0 m 154 ls [.int (gh_bi true)]) rfl ?_
  refine lv_if_eq (tgt := 201) hx hb d_Mo_deep_154 (by decide) (fun c2 => absurd c2 (by decide)) (fun c2 => ?_)
  refine lv_aload_n hx hb d_Mo_deep_157 rfl (lv_at hl 1 rfl) ?_
  refine mo_getA C V X 42 (by decide) (by decide) f_Mo_109 rfl d_Mo_deep_158 ?_
  refine lv_bipush (v := 9) hx hb d_Mo_deep_161 (by decide) ?_
  refine lv_iload_n hx hb d_Mo_deep_163 rfl (lv_at hl 2 rfl) ?_
  refine gn_imul (a := 9) (b := cp) hx hb d_Mo_deep_164 ?_
  refine lv_aload_n hx hb d_Mo_deep_165 rfl (lv_at hl 1 rfl) ?_
  refine mo_getA C V X 40 (by decide) (by decide) f_Mo_103 rfl d_Mo_deep_166 ?_
  refine lv_iload_n hx hb d_Mo_deep_169 rfl (lv_at hl 2 rfl) ?_
  refine mo_ild (k := 40) (i := cp) (n := 60) C V X (by decide) (by decide) rfl (by omega) (by decide) d_Mo_deep_170 ?_
  rw [show (va_up (va_up I 40 (upd (I 40) cp 0)) 35 (upd ((va_up I 40 (upd (I 40) cp 0)) 35) cp 1)) 40 cp = 0 from ((congrFun (va_up_n (by decide)) cp).trans (((congrFun va_up_s cp).trans (by simp [upd]))))]
  refine gn_iadd (a := 9 * cp) (b := 0) hx hb d_Mo_deep_171 ?_
  refine lv_iload_n hx hb d_Mo_deep_172 rfl (lv_at hl 0 rfl) ?_
  refine mo_ist (k := 42) (i := (9 * cp) + 0) (n := 540) C V X (by decide) (by decide) rfl (by omega) (by decide) d_Mo_deep_173 (fun f1 H locs V1 X1 => ?_)
  clear V X
  have V := V1
  have X := X1
  clear V1 X1
  refine lv_aload_n hx hb d_Mo_deep_174 rfl (lv_at hl 1 rfl) ?_
  refine mo_getA C V X 43 (by decide) (by decide) f_Mo_112 rfl d_Mo_deep_175 ?_
  refine lv_bipush (v := 9) hx hb d_Mo_deep_178 (by decide) ?_
  refine lv_iload_n hx hb d_Mo_deep_180 rfl (lv_at hl 2 rfl) ?_
  refine gn_imul (a := 9) (b := cp) hx hb d_Mo_deep_181 ?_
  refine lv_aload_n hx hb d_Mo_deep_182 rfl (lv_at hl 1 rfl) ?_
  refine mo_getA C V X 40 (by decide) (by decide) f_Mo_103 rfl d_Mo_deep_183 ?_
  refine lv_iload_n hx hb d_Mo_deep_186 rfl (lv_at hl 2 rfl) ?_
  refine mo_ild (k := 40) (i := cp) (n := 60) C V X (by decide) (by decide) rfl (by omega) (by decide) d_Mo_deep_187 ?_
  rw [show (va_up (va_up (va_up I 40 (upd (I 40) cp 0)) 35 (upd ((va_up I 40 (upd (I 40) cp 0)) 35) cp 1)) 42 (upd ((va_up (va_up I 40 (upd (I 40) cp 0)) 35 (upd ((va_up I 40 (upd (I 40) cp 0)) 35) cp 1)) 42) ((9 * cp) + 0) (nI v))) 40 cp = 0 from ((congrFun (va_up_n (by decide)) cp).trans (((congrFun (va_up_n (by decide)) cp).trans (((congrFun va_up_s cp).trans (by simp [upd]))))))]
  refine gn_iadd (a := 9 * cp) (b := 0) hx hb d_Mo_deep_188 ?_
  refine lv_iconst (v := 0) hx hb d_Mo_deep_189 (by decide) ?_
  refine mo_ist (k := 43) (i := (9 * cp) + 0) (n := 540) C V X (by decide) (by decide) rfl (by omega) (by decide) d_Mo_deep_190 (fun f1 H locs V1 X1 => ?_)
  clear V X
  have V := V1
  have X := X1
  clear V1 X1
  refine lv_aload_n hx hb d_Mo_deep_191 rfl (lv_at hl 1 rfl) ?_
  refine mo_getA C V X 40 (by decide) (by decide) f_Mo_103 rfl d_Mo_deep_192 ?_
  refine lv_iload_n hx hb d_Mo_deep_195 rfl (lv_at hl 2 rfl) ?_
  refine lv_dup2_11 hx hb d_Mo_deep_196 rfl rfl ?_
  refine mo_ild (k := 40) (i := cp) (n := 60) C V X (by decide) (by decide) rfl (by omega) (by decide) d_Mo_deep_197 ?_
  rw [show (va_up (va_up (va_up (va_up I 40 (upd (I 40) cp 0)) 35 (upd ((va_up I 40 (upd (I 40) cp 0)) 35) cp 1)) 42 (upd ((va_up (va_up I 40 (upd (I 40) cp 0)) 35 (upd ((va_up I 40 (upd (I 40) cp 0)) 35) cp 1)) 42) ((9 * cp) + 0) (nI v))) 43 (upd ((va_up (va_up (va_up I 40 (upd (I 40) cp 0)) 35 (upd ((va_up I 40 (upd (I 40) cp 0)) 35) cp 1)) 42 (upd ((va_up (va_up I 40 (upd (I 40) cp 0)) 35 (upd ((va_up I 40 (upd (I 40) cp 0)) 35) cp 1)) 42) ((9 * cp) + 0) (nI v))) 43) ((9 * cp) + 0) 0)) 40 cp = 0 from ((congrFun (va_up_n (by decide)) cp).trans (((congrFun (va_up_n (by decide)) cp).trans (((congrFun (va_up_n (by decide)) cp).trans (((congrFun va_up_s cp).trans (by simp [upd]))))))))]
  refine lv_iconst (v := 1) hx hb d_Mo_deep_198 (by decide) ?_
  refine gn_iadd (a := 0) (b := 1) hx hb d_Mo_deep_199 ?_
  refine mo_ist (k := 40) (i := cp) (n := 60) C V X (by decide) (by decide) rfl (by omega) (by decide) d_Mo_deep_200 (fun f1 H locs V1 X1 => ?_)
  clear V X
  have V := V1
  have X := X1
  clear V1 X1
  refine lv_aload_n hx hb d_Mo_deep_201 rfl (lv_at hl 1 rfl) ?_
  refine lv_iload_n hx hb d_Mo_deep_202 rfl (lv_at hl 0 rfl) ?_
  refine gh_callV C V hl.1 m_Mo_give l_Mo_342 (c_Mo_give l E _ _ a ad _ _ _ (nI v) w X.1 h45) rfl X.1.1 gc_Mo ⟨by first | decide | omega | (dsimp only; omega), by first | decide | omega | (dsimp only; omega)⟩ ⟨by first | decide | omega | (dsimp only; omega), by first | decide | omega | (dsimp only; omega)⟩ (Nat.le_of_ble_eq_true rfl) rfl d_Mo_deep_203 (fun r z9 H locs hp V1 => ?_)
  obtain ⟨rfl, X2⟩ := hp
  have X := X.then X2
  have V := V1
  refine W.eq (g2 := F0 m 206 ls []) rfl ?_
  refine gh_retv hAe C V hr hlocks d_Mo_deep_206 (by first | decide | omega | (dsimp only; omega)) (by first | decide | omega | (dsimp only; omega)) ?_
  exact ⟨rfl, _, _, X, (((((mct.rf.cell 40 0 (by decide) (by decide)).cell 35 1 (by decide) (by decide)).wide 42 ((9 * cp) + 0) (nI v) (by decide) (by decide) (by first | (simp; omega) | simp)).wide 43 ((9 * cp) + 0) 0 (by decide) (by decide) (by first | (simp; omega) | simp)).cell 40 (nI (0 + 1)) (by decide) (by decide)).give, ⟨by simp [va_up], by simp [va_up]⟩, oc_t2 rfl rfl⟩
set_option maxHeartbeats 4000000 in
set_option maxRecDepth 100000 in
theorem c_Mo_deep_0n (l : Launch) (E : gh_E) (sz : Nat) (f : gh_F) (a : Nat) (ad : Nat → Nat) (S : Nat → Int32) (I : Nat → Nat → Int32) (J : Nat → Nat → Int64) (w cp φ : Nat) (b0 nv pb np v : Nat) (O : vt) (hX : mo_R E f a ad S I J) (h45 : S 45 = nI (w + 1)) (hw : w < 14) (hc60 : cp < 60) (hph : I 35 cp = 0) (hit : I 36 cp = nI v) (hO : mw I J b0 nv pb np v O) (hhi : vt_hi O = false) : gh_M l y_Mo_deep b_Mo_deep 5 none E sz [.ref a, .int (nI cp)] f { frames := 7, cells := 0, slots := 0, locals := 200 } (fun r g => r = none ∧ ∃ S2 I2, mo_X E f g a ad S2 I2 J ∧ mct cp w (fun _ => False) (va_up (va_up (fun k => I k cp) 40 0) 35 1) S I S2 I2 ∧ (I2 42 = I 42 ∧ I2 43 = I 43) ∧ oc_t w 1 (nI v) S S2) := by
  refine gh_open (by decide) (Nat.le_of_ble_eq_true rfl) ?_
  intro p e s m args below meth c A ls hAe C V hr hlocks hname hl
  have hx := C.1
  have hb := C.2.1
  have hl : lv_has ls 5 [(0, .ref a), (1, .int (nI cp))] := hl
  have X : mo_X E f f a ad S I J := ⟨hX, gh_fr.rf⟩
  refine lv_aload_n hx hb d_Mo_deep_0 rfl (lv_at hl 0 rfl) ?_
  refine mo_getA C V X 36 (by decide) (by decide) f_Mo_91 rfl d_Mo_deep_1 ?_
  refine lv_iload_n hx hb d_Mo_deep_4 rfl (lv_at hl 1 rfl) ?_
  refine mo_ild (k := 36) (i := cp) (n := 60) C V X (by decide) (by decide) rfl (by omega) (by decide) d_Mo_deep_5 ?_
  rw [show I 36 cp = nI v from hit]
  refine lv_istore_n hx hb d_Mo_deep_6 rfl hl (by decide) rfl (fun ls hl => ?_)
  have hl : lv_has ls 5 [(2, .int (nI v)), (0, .ref a), (1, .int (nI cp))] := hl
  refine lv_aload_n hx hb d_Mo_deep_7 rfl (lv_at hl 1 rfl) ?_
  refine mo_getA C V X 35 (by decide) (by decide) f_Mo_88 rfl d_Mo_deep_8 ?_
  refine lv_iload_n hx hb d_Mo_deep_11 rfl (lv_at hl 2 rfl) ?_
  refine mo_ild (k := 35) (i := cp) (n := 60) C V X (by decide) (by decide) rfl (by omega) (by decide) d_Mo_deep_12 ?_
  rw [show I 35 cp = 0 from hph]
  refine lv_if_ne (tgt := 26) hx hb d_Mo_deep_13 (by decide) (fun c1 => absurd (by decide) c1) (fun c1 => ?_)
  refine lv_aload_n hx hb d_Mo_deep_16 rfl (lv_at hl 1 rfl) ?_
  refine mo_getA C V X 40 (by decide) (by decide) f_Mo_103 rfl d_Mo_deep_17 ?_
  refine lv_iload_n hx hb d_Mo_deep_20 rfl (lv_at hl 2 rfl) ?_
  refine lv_iconst (v := 0) hx hb d_Mo_deep_21 (by decide) ?_
  refine mo_ist (k := 40) (i := cp) (n := 60) C V X (by decide) (by decide) rfl (by omega) (by decide) d_Mo_deep_22 (fun f1 H locs V1 X1 => ?_)
  clear V X
  have V := V1
  have X := X1
  clear V1 X1
  refine lv_goto (tgt := 142) hx hb d_Mo_deep_23 (by decide) ?_
  refine lv_aload_n hx hb d_Mo_deep_142 rfl (lv_at hl 1 rfl) ?_
  refine mo_getA C V X 35 (by decide) (by decide) f_Mo_88 rfl d_Mo_deep_143 ?_
  refine lv_iload_n hx hb d_Mo_deep_146 rfl (lv_at hl 2 rfl) ?_
  refine lv_iconst (v := 1) hx hb d_Mo_deep_147 (by decide) ?_
  refine mo_ist (k := 35) (i := cp) (n := 60) C V X (by decide) (by decide) rfl (by omega) (by decide) d_Mo_deep_148 (fun f1 H locs V1 X1 => ?_)
  clear V X
  have V := V1
  have X := X1
  clear V1 X1
  refine lv_aload_n hx hb d_Mo_deep_149 rfl (lv_at hl 1 rfl) ?_
  refine lv_iload_n hx hb d_Mo_deep_150 rfl (lv_at hl 0 rfl) ?_
  have h1v := (mv_o.mp hO.1).2.1
  have hv7 := hO.lt
  have hmn : (decide ((va_up (va_up I 40 (upd (I 40) cp 0)) 35 (upd ((va_up I 40 (upd (I 40) cp 0)) 35) cp 1)) 1 v = 5) || decide ((va_up (va_up I 40 (upd (I 40) cp 0)) 35 (upd ((va_up I 40 (upd (I 40) cp 0)) 35) cp 1)) 1 v = 6)) = false := by rw [show (va_up (va_up I 40 (upd (I 40) cp 0)) 35 (upd ((va_up I 40 (upd (I 40) cp 0)) 35) cp 1)) 1 v = I 1 v from (by simp only [va_up_n (show (1 : Nat) ≠ 35 by decide), va_up_n (show (1 : Nat) ≠ 40 by decide), va_up_n (show (1 : Nat) ≠ 43 by decide)]), h1v]; exact mw_many hO hhi
  refine gh_callV C V hl.1 m_Mo_isMany l_Mo_169 (c_Mo_isMany l E _ _ a ad _ _ _ v X.1 hv7) rfl X.1.1 gc_Mo ⟨by first | decide | omega | (dsimp only; omega), by first | decide | omega | (dsimp only; omega)⟩ ⟨by first | decide | omega | (dsimp only; omega), by first | decide | omega | (dsimp only; omega)⟩ (Nat.le_of_ble_eq_true rfl) rfl d_Mo_deep_151 (fun r z9 H locs hp V1 => ?_)
  rw [hmn] at hp
  obtain ⟨rfl, he9⟩ := hp
  rw [he9] at V1
  have V := V1
  refine W.eq (g2 := F0 m 154 ls [.int (gh_bi false)]) rfl ?_
  refine lv_if_eq (tgt := 201) hx hb d_Mo_deep_154 (by decide) (fun c2 => ?_) (fun c2 => absurd (by decide) c2)
  refine lv_aload_n hx hb d_Mo_deep_201 rfl (lv_at hl 1 rfl) ?_
  refine lv_iload_n hx hb d_Mo_deep_202 rfl (lv_at hl 0 rfl) ?_
  refine gh_callV C V hl.1 m_Mo_give l_Mo_342 (c_Mo_give l E _ _ a ad _ _ _ (nI v) w X.1 h45) rfl X.1.1 gc_Mo ⟨by first | decide | omega | (dsimp only; omega), by first | decide | omega | (dsimp only; omega)⟩ ⟨by first | decide | omega | (dsimp only; omega), by first | decide | omega | (dsimp only; omega)⟩ (Nat.le_of_ble_eq_true rfl) rfl d_Mo_deep_203 (fun r z9 H locs hp V1 => ?_)
  obtain ⟨rfl, X2⟩ := hp
  have X := X.then X2
  have V := V1
  refine W.eq (g2 := F0 m 206 ls []) rfl ?_
  refine gh_retv hAe C V hr hlocks d_Mo_deep_206 (by first | decide | omega | (dsimp only; omega)) (by first | decide | omega | (dsimp only; omega)) ?_
  exact ⟨rfl, _, _, X, ((mct.rf.cell 40 0 (by decide) (by decide)).cell 35 1 (by decide) (by decide)).give, ⟨by simp [va_up], by simp [va_up]⟩, oc_t2 rfl rfl⟩
set_option maxHeartbeats 4000000 in
set_option maxRecDepth 100000 in
theorem c_Mo_deep_1e (l : Launch) (E : gh_E) (sz : Nat) (f : gh_F) (a : Nat) (ad : Nat → Nat) (S : Nat → Int32) (I : Nat → Nat → Int32) (J : Nat → Nat → Int64) (w cp φ : Nat) (b0 nv pb np n0 : Nat) (Vx Ax : Nat → Nat) (DV : Nat → vt) (v0 : Int32) (hX : mo_R E f a ad S I J) (h45 : S 45 = nI (w + 1)) (hw : w < 14) (hc60 : cp < 60) (hph : I 35 cp = 1) (hv0 : I 36 cp = v0) (hix : I 40 cp = nI n0) (hn8 : n0 ≤ 8) (hV : ∀ j, j < n0 → I 42 (9 * cp + j) = nI (Vx j) ∧ mw I J b0 nv pb np (Vx j) (DV j) ∧ 5 ≤ vt_k (DV j) ∧ I 43 (9 * cp + j) = nI (Ax j) ∧ Ax j ≤ vt_c (DV j)) (hp8 : np ≤ 8800) (hd : dpop Ax (fun j => vt_c (DV j)) n0 = 0) : gh_M l y_Mo_deep b_Mo_deep 5 none E sz [.ref a, .int (nI cp)] f { frames := 7, cells := 0, slots := 0, locals := 200 } (fun r g => r = none ∧ ∃ S2 I2, mo_X E f g a ad S2 I2 J ∧ mct cp w (fun _ => False) (va_up (fun k => I k cp) 40 0) S I S2 I2 ∧ oc_t w 2 (S 47) S S2) := by
  refine gh_open (by decide) (Nat.le_of_ble_eq_true rfl) ?_
  intro p e s m args below meth c A ls hAe C V hr hlocks hname hl
  have hx := C.1
  have hb := C.2.1
  have hl : lv_has ls 5 [(0, .ref a), (1, .int (nI cp))] := hl
  have X : mo_X E f f a ad S I J := ⟨hX, gh_fr.rf⟩
  refine lv_aload_n hx hb d_Mo_deep_0 rfl (lv_at hl 0 rfl) ?_
  refine mo_getA C V X 36 (by decide) (by decide) f_Mo_91 rfl d_Mo_deep_1 ?_
  refine lv_iload_n hx hb d_Mo_deep_4 rfl (lv_at hl 1 rfl) ?_
  refine mo_ild (k := 36) (i := cp) (n := 60) C V X (by decide) (by decide) rfl (by omega) (by decide) d_Mo_deep_5 ?_
  rw [show I 36 cp = v0 from hv0]
  refine lv_istore_n hx hb d_Mo_deep_6 rfl hl (by decide) rfl (fun ls hl => ?_)
  have hl : lv_has ls 5 [(2, .int v0), (0, .ref a), (1, .int (nI cp))] := hl
  refine lv_aload_n hx hb d_Mo_deep_7 rfl (lv_at hl 1 rfl) ?_
  refine mo_getA C V X 35 (by decide) (by decide) f_Mo_88 rfl d_Mo_deep_8 ?_
  refine lv_iload_n hx hb d_Mo_deep_11 rfl (lv_at hl 2 rfl) ?_
  refine mo_ild (k := 35) (i := cp) (n := 60) C V X (by decide) (by decide) rfl (by omega) (by decide) d_Mo_deep_12 ?_
  rw [show I 35 cp = 1 from hph]
  refine lv_if_ne (tgt := 26) hx hb d_Mo_deep_13 (by decide) (fun c1 => ?_) (fun c1 => absurd c1 (by decide))
  refine lv_aload_n hx hb d_Mo_deep_26 rfl (lv_at hl 1 rfl) ?_
  refine mo_getA C V X 40 (by decide) (by decide) f_Mo_103 rfl d_Mo_deep_27 ?_
  refine lv_iload_n hx hb d_Mo_deep_30 rfl (lv_at hl 2 rfl) ?_
  refine mo_ild (k := 40) (i := cp) (n := 60) C V X (by decide) (by decide) rfl (by omega) (by decide) d_Mo_deep_31 ?_
  rw [show I 40 cp = nI n0 from hix]
  refine lv_istore_n hx hb d_Mo_deep_32 rfl hl (by decide) rfl (fun ls hl => ?_)
  have hl : lv_has ls 5 [(3, .int (nI n0)), (2, .int v0), (0, .ref a), (1, .int (nI cp))] := hl
  have hl : lv_has ls 5 [(3, .int (nI n0)), (0, .ref a), (1, .int (nI cp))] := lv_sub hl [0, 2, 3] rfl
  have loop : ∀ (n9 : Nat) (ls : Array Slot), n9 ≤ n0 → dpop Ax (fun j => vt_c (DV j)) n9 = 0 → lv_has ls 5 [(3, .int (nI n9)), (0, .ref a), (1, .int (nI cp))] → W p l e { frames := 7, cells := 0, slots := 0, locals := 200 } s m args below meth c s.heap [] 0 0 (MQ below (gh_Q E f (fun r g => r = none ∧ ∃ S2 I2, mo_X E f g a ad S2 I2 J ∧ mct cp w (fun _ => False) (va_up (fun k => I k cp) 40 0) S I S2 I2 ∧ oc_t w 2 (S 47) S S2)) args s 0 0 A) (F0 m 33 ls []) := by
    intro n9
    induction n9 with
    | zero =>
      intro ls hle hd hl
      refine lv_iload_n hx hb d_Mo_deep_33 rfl (lv_at hl 0 rfl) ?_
      refine lv_if_le (tgt := 77) hx hb d_Mo_deep_34 (by decide) (fun c2 => ?_) (fun c2 => absurd (by decide) c2)
      refine lv_aload_n hx hb d_Mo_deep_77 rfl (lv_at hl 1 rfl) ?_
      refine mo_getA C V X 40 (by decide) (by decide) f_Mo_103 rfl d_Mo_deep_78 ?_
      refine lv_iload_n hx hb d_Mo_deep_81 rfl (lv_at hl 2 rfl) ?_
      refine lv_iload_n hx hb d_Mo_deep_82 rfl (lv_at hl 0 rfl) ?_
      refine mo_ist (k := 40) (i := cp) (n := 60) C V X (by decide) (by decide) rfl (by omega) (by decide) d_Mo_deep_83 (fun f1 H locs V1 X1 => ?_)
      clear V X
      have V := V1
      have X := X1
      clear V1 X1
      refine lv_iload_n hx hb d_Mo_deep_84 rfl (lv_at hl 0 rfl) ?_
      refine lv_if_ne (tgt := 94) hx hb d_Mo_deep_85 (by decide) (fun c3 => absurd (by decide) c3) (fun c3 => ?_)
      refine lv_aload_n hx hb d_Mo_deep_88 rfl (lv_at hl 1 rfl) ?_
      refine lv_iconst (v := 2) hx hb d_Mo_deep_89 (by decide) ?_
      refine gh_callV C V hl.1 m_Mo_tell l_Mo_289 (c_Mo_tell l E _ _ a ad _ _ _ 2 w X.1 h45) rfl X.1.1 gc_Mo ⟨by first | decide | omega | (dsimp only; omega), by first | decide | omega | (dsimp only; omega)⟩ ⟨by first | decide | omega | (dsimp only; omega), by first | decide | omega | (dsimp only; omega)⟩ (Nat.le_of_ble_eq_true rfl) rfl d_Mo_deep_90 (fun r z9 H locs hp V1 => ?_)
      obtain ⟨rfl, X2⟩ := hp
      have X := X.then X2
      have V := V1
      refine W.eq (g2 := F0 m 93 ls []) rfl ?_
      refine gh_retv hAe C V hr hlocks d_Mo_deep_93 (by first | decide | omega | (dsimp only; omega)) (by first | decide | omega | (dsimp only; omega)) ?_
      exact ⟨rfl, _, _, X, (mct.rf.cell 40 (nI 0) (by decide) (by decide)).tell, oc_t1 rfl rfl rfl⟩
    | succ n9 ih =>
      intro ls hle hd hl
      obtain ⟨e1, e2, e3, e4, e5⟩ := hV n9 (by omega)
      have e16 := (vo_o.mp e2.2).2.2.2.2.2.2.1
      have e6 : I 3 (Vx n9) = nI (vt_c (DV n9)) := by rw [(mv_o.mp e2.1).2.2.2.1]; unfold vt_ln; rw [if_neg (by omega)]
      have e7 := e2.lt
      have g42 : I 42 (9 * cp + (n9 + 1) - 1) = nI (Vx n9) := e1
      have g43 : I 43 (9 * cp + (n9 + 1) - 1) = nI (Ax n9) := e4
      refine lv_iload_n hx hb d_Mo_deep_33 rfl (lv_at hl 0 rfl) ?_
      refine lv_if_le (tgt := 77) hx hb d_Mo_deep_34 (by decide) (fun c4 => absurd c4 (nI_npos (by omega))) (fun c4 => ?_)
      refine lv_aload_n hx hb d_Mo_deep_37 rfl (lv_at hl 1 rfl) ?_
      refine mo_getA C V X 43 (by decide) (by decide) f_Mo_112 rfl d_Mo_deep_38 ?_
      refine lv_bipush (v := 9) hx hb d_Mo_deep_41 (by decide) ?_
      refine lv_iload_n hx hb d_Mo_deep_43 rfl (lv_at hl 2 rfl) ?_
      refine gn_imul (a := 9) (b := cp) hx hb d_Mo_deep_44 ?_
      refine lv_iload_n hx hb d_Mo_deep_45 rfl (lv_at hl 0 rfl) ?_
      refine gn_iadd (a := 9 * cp) (b := n9 + 1) hx hb d_Mo_deep_46 ?_
      refine lv_iconst (v := 1) hx hb d_Mo_deep_47 (by decide) ?_
      refine gn_isub (a := (9 * cp) + (n9 + 1)) (b := 1) hx hb (by omega) d_Mo_deep_48 ?_
      refine mo_ild (k := 43) (i := ((9 * cp) + (n9 + 1)) - 1) (n := 540) C V X (by decide) (by decide) rfl (by omega) (by decide) d_Mo_deep_49 ?_
      rw [show I 43 (((9 * cp) + (n9 + 1)) - 1) = nI (Ax n9) from g43]
      refine lv_aload_n hx hb d_Mo_deep_50 rfl (lv_at hl 1 rfl) ?_
      refine mo_getA C V X 3 (by decide) (by decide) f_Mo_17 rfl d_Mo_deep_51 ?_
      refine lv_aload_n hx hb d_Mo_deep_54 rfl (lv_at hl 1 rfl) ?_
      refine mo_getA C V X 42 (by decide) (by decide) f_Mo_109 rfl d_Mo_deep_55 ?_
      refine lv_bipush (v := 9) hx hb d_Mo_deep_58 (by decide) ?_
      refine lv_iload_n hx hb d_Mo_deep_60 rfl (lv_at hl 2 rfl) ?_
      refine gn_imul (a := 9) (b := cp) hx hb d_Mo_deep_61 ?_
      refine lv_iload_n hx hb d_Mo_deep_62 rfl (lv_at hl 0 rfl) ?_
      refine gn_iadd (a := 9 * cp) (b := n9 + 1) hx hb d_Mo_deep_63 ?_
      refine lv_iconst (v := 1) hx hb d_Mo_deep_64 (by decide) ?_
      refine gn_isub (a := (9 * cp) + (n9 + 1)) (b := 1) hx hb (by omega) d_Mo_deep_65 ?_
      refine mo_ild (k := 42) (i := ((9 * cp) + (n9 + 1)) - 1) (n := 540) C V X (by decide) (by decide) rfl (by omega) (by decide) d_Mo_deep_66 ?_
      rw [show I 42 (((9 * cp) + (n9 + 1)) - 1) = nI (Vx n9) from g42]
      refine mo_ild (k := 3) (i := Vx n9) (n := 760) C V X (by decide) (by decide) rfl (by omega) (by decide) d_Mo_deep_67 ?_
      rw [show I 3 (Vx n9) = nI (vt_c (DV n9)) from e6]
      by_cases hAC : Ax n9 = vt_c (DV n9)
      · have hd1 := hd
        unfold dpop at hd1
        rw [if_pos hAC] at hd1
        refine lv_icmp_ne (tgt := 77) hx hb d_Mo_deep_68 (by decide) (fun c5 => absurd (show nI (Ax n9) = nI (vt_c (DV n9)) by rw [hAC]) c5) (fun c5 => ?_)
        refine lv_iinc (k := 0) (v := (nI (n9 + 1)) + (-1)) hx hb d_Mo_deep_71 hl rfl (by rfl) (by decide) rfl (fun ls hl => ?_)
        have hl : lv_has ls 5 [(3, .int (nI ((n9 + 1) - 1))), (0, .ref a), (1, .int (nI cp))] := by rw [nI_dec (by omega)]; exact hl
        refine lv_goto (tgt := 33) hx hb d_Mo_deep_74 (by decide) ?_
        have hl : lv_has ls 5 [(3, .int (nI ((n9 + 1) - 1))), (0, .ref a), (1, .int (nI cp))] := lv_sub hl [0, 1, 2] rfl
        exact ih ls (by omega) hd1 hl
      · have hd1 := hd
        unfold dpop at hd1
        rw [if_neg hAC] at hd1
        exact absurd hd1 (by omega)
  exact loop n0 ls (Nat.le_refl _) hd hl
set_option maxHeartbeats 4000000 in
set_option maxRecDepth 100000 in
theorem c_Mo_deep_1h (l : Launch) (E : gh_E) (sz : Nat) (f : gh_F) (a : Nat) (ad : Nat → Nat) (S : Nat → Int32) (I : Nat → Nat → Int32) (J : Nat → Nat → Int64) (w cp φ : Nat) (b0 nv pb np n0 : Nat) (Vx Ax : Nat → Nat) (DV : Nat → vt) (v0 : Int32) (m9 : Nat) (hX : mo_R E f a ad S I J) (h45 : S 45 = nI (w + 1)) (hw : w < 14) (hc60 : cp < 60) (h48 : S 48 = nI φ) (hφ : φ < 1000) (h49 : ¬ 0 ≤ S 49) (hph : I 35 cp = 1) (hv0 : I 36 cp = v0) (hix : I 40 cp = nI n0) (hn8 : n0 ≤ 8) (hV : ∀ j, j < n0 → I 42 (9 * cp + j) = nI (Vx j) ∧ mw I J b0 nv pb np (Vx j) (DV j) ∧ 5 ≤ vt_k (DV j) ∧ I 43 (9 * cp + j) = nI (Ax j) ∧ Ax j ≤ vt_c (DV j)) (hp8 : np ≤ 8800) (hd : dpop Ax (fun j => vt_c (DV j)) n0 = m9 + 1) (hhi : vt_hi (vt_s (DV m9) (Ax m9)) = true) : gh_M l y_Mo_deep b_Mo_deep 5 none E sz [.ref a, .int (nI cp)] f { frames := 7, cells := 0, slots := 0, locals := 200 } (fun r g => r = none ∧ ∃ S2 I2, mo_X E f g a ad S2 I2 J ∧ ((φ = 0 ∧ S2 49 = 2 ∧ S2 48 = S 48 ∧ mct cp w (fun _ => False) (va_up (fun k => I k cp) 40 (nI (m9 + 1))) S I S2 I2) ∨ (0 < φ ∧ mct cp w (fun _ => False) (va_up (va_up (va_up (fun k => I k cp) 40 (nI (m9 + 1))) 35 1) 40 (nI (m9 + 1 + 1))) S I S2 I2 ∧ ∃ b, (I2 42 = upd (I 42) (9 * cp + (m9 + 1)) (nI b) ∧ I2 43 = upd (upd (I 43) (9 * cp + m9) (nI (Ax m9 + 1))) (9 * cp + (m9 + 1)) 0) ∧ mw I J b0 nv pb np b (vt_s (DV m9) (Ax m9)) ∧ oc_t w 1 (nI b) (va_up S 48 (nI (φ - 1))) S2))) := by
  refine gh_open (by decide) (Nat.le_of_ble_eq_true rfl) ?_
  intro p e s m args below meth c A ls hAe C V hr hlocks hname hl
  have hx := C.1
  have hb := C.2.1
  have hl : lv_has ls 5 [(0, .ref a), (1, .int (nI cp))] := hl
  have X : mo_X E f f a ad S I J := ⟨hX, gh_fr.rf⟩
  refine lv_aload_n hx hb d_Mo_deep_0 rfl (lv_at hl 0 rfl) ?_
  refine mo_getA C V X 36 (by decide) (by decide) f_Mo_91 rfl d_Mo_deep_1 ?_
  refine lv_iload_n hx hb d_Mo_deep_4 rfl (lv_at hl 1 rfl) ?_
  refine mo_ild (k := 36) (i := cp) (n := 60) C V X (by decide) (by decide) rfl (by omega) (by decide) d_Mo_deep_5 ?_
  rw [show I 36 cp = v0 from hv0]
  refine lv_istore_n hx hb d_Mo_deep_6 rfl hl (by decide) rfl (fun ls hl => ?_)
  have hl : lv_has ls 5 [(2, .int v0), (0, .ref a), (1, .int (nI cp))] := hl
  refine lv_aload_n hx hb d_Mo_deep_7 rfl (lv_at hl 1 rfl) ?_
  refine mo_getA C V X 35 (by decide) (by decide) f_Mo_88 rfl d_Mo_deep_8 ?_
  refine lv_iload_n hx hb d_Mo_deep_11 rfl (lv_at hl 2 rfl) ?_
  refine mo_ild (k := 35) (i := cp) (n := 60) C V X (by decide) (by decide) rfl (by omega) (by decide) d_Mo_deep_12 ?_
  rw [show I 35 cp = 1 from hph]
  refine lv_if_ne (tgt := 26) hx hb d_Mo_deep_13 (by decide) (fun c1 => ?_) (fun c1 => absurd c1 (by decide))
  refine lv_aload_n hx hb d_Mo_deep_26 rfl (lv_at hl 1 rfl) ?_
  refine mo_getA C V X 40 (by decide) (by decide) f_Mo_103 rfl d_Mo_deep_27 ?_
  refine lv_iload_n hx hb d_Mo_deep_30 rfl (lv_at hl 2 rfl) ?_
  refine mo_ild (k := 40) (i := cp) (n := 60) C V X (by decide) (by decide) rfl (by omega) (by decide) d_Mo_deep_31 ?_
  rw [show I 40 cp = nI n0 from hix]
  refine lv_istore_n hx hb d_Mo_deep_32 rfl hl (by decide) rfl (fun ls hl => ?_)
  have hl : lv_has ls 5 [(3, .int (nI n0)), (2, .int v0), (0, .ref a), (1, .int (nI cp))] := hl
  have hl : lv_has ls 5 [(3, .int (nI n0)), (0, .ref a), (1, .int (nI cp))] := lv_sub hl [0, 2, 3] rfl
  have loop : ∀ (n9 : Nat) (ls : Array Slot), n9 ≤ n0 → dpop Ax (fun j => vt_c (DV j)) n9 = m9 + 1 → lv_has ls 5 [(3, .int (nI n9)), (0, .ref a), (1, .int (nI cp))] → W p l e { frames := 7, cells := 0, slots := 0, locals := 200 } s m args below meth c s.heap [] 0 0 (MQ below (gh_Q E f (fun r g => r = none ∧ ∃ S2 I2, mo_X E f g a ad S2 I2 J ∧ ((φ = 0 ∧ S2 49 = 2 ∧ S2 48 = S 48 ∧ mct cp w (fun _ => False) (va_up (fun k => I k cp) 40 (nI (m9 + 1))) S I S2 I2) ∨ (0 < φ ∧ mct cp w (fun _ => False) (va_up (va_up (va_up (fun k => I k cp) 40 (nI (m9 + 1))) 35 1) 40 (nI (m9 + 1 + 1))) S I S2 I2 ∧ ∃ b, (I2 42 = upd (I 42) (9 * cp + (m9 + 1)) (nI b) ∧ I2 43 = upd (upd (I 43) (9 * cp + m9) (nI (Ax m9 + 1))) (9 * cp + (m9 + 1)) 0) ∧ mw I J b0 nv pb np b (vt_s (DV m9) (Ax m9)) ∧ oc_t w 1 (nI b) (va_up S 48 (nI (φ - 1))) S2)))) args s 0 0 A) (F0 m 33 ls []) := by
    intro n9
    induction n9 with
    | zero =>
      intro ls hle hd hl
      exact absurd hd (by show ¬ 0 = m9 + 1; omega)
    | succ n9 ih =>
      intro ls hle hd hl
      obtain ⟨e1, e2, e3, e4, e5⟩ := hV n9 (by omega)
      have e16 := (vo_o.mp e2.2).2.2.2.2.2.2.1
      have e6 : I 3 (Vx n9) = nI (vt_c (DV n9)) := by rw [(mv_o.mp e2.1).2.2.2.1]; unfold vt_ln; rw [if_neg (by omega)]
      have e7 := e2.lt
      have g42 : I 42 (9 * cp + (n9 + 1) - 1) = nI (Vx n9) := e1
      have g43 : I 43 (9 * cp + (n9 + 1) - 1) = nI (Ax n9) := e4
      refine lv_iload_n hx hb d_Mo_deep_33 rfl (lv_at hl 0 rfl) ?_
      refine lv_if_le (tgt := 77) hx hb d_Mo_deep_34 (by decide) (fun c2 => absurd c2 (nI_npos (by omega))) (fun c2 => ?_)
      refine lv_aload_n hx hb d_Mo_deep_37 rfl (lv_at hl 1 rfl) ?_
      refine mo_getA C V X 43 (by decide) (by decide) f_Mo_112 rfl d_Mo_deep_38 ?_
      refine lv_bipush (v := 9) hx hb d_Mo_deep_41 (by decide) ?_
      refine lv_iload_n hx hb d_Mo_deep_43 rfl (lv_at hl 2 rfl) ?_
      refine gn_imul (a := 9) (b := cp) hx hb d_Mo_deep_44 ?_
      refine lv_iload_n hx hb d_Mo_deep_45 rfl (lv_at hl 0 rfl) ?_
      refine gn_iadd (a := 9 * cp) (b := n9 + 1) hx hb d_Mo_deep_46 ?_
      refine lv_iconst (v := 1) hx hb d_Mo_deep_47 (by decide) ?_
      refine gn_isub (a := (9 * cp) + (n9 + 1)) (b := 1) hx hb (by omega) d_Mo_deep_48 ?_
      refine mo_ild (k := 43) (i := ((9 * cp) + (n9 + 1)) - 1) (n := 540) C V X (by decide) (by decide) rfl (by omega) (by decide) d_Mo_deep_49 ?_
      rw [show I 43 (((9 * cp) + (n9 + 1)) - 1) = nI (Ax n9) from g43]
      refine lv_aload_n hx hb d_Mo_deep_50 rfl (lv_at hl 1 rfl) ?_
      refine mo_getA C V X 3 (by decide) (by decide) f_Mo_17 rfl d_Mo_deep_51 ?_
      refine lv_aload_n hx hb d_Mo_deep_54 rfl (lv_at hl 1 rfl) ?_
      refine mo_getA C V X 42 (by decide) (by decide) f_Mo_109 rfl d_Mo_deep_55 ?_
      refine lv_bipush (v := 9) hx hb d_Mo_deep_58 (by decide) ?_
      refine lv_iload_n hx hb d_Mo_deep_60 rfl (lv_at hl 2 rfl) ?_
      refine gn_imul (a := 9) (b := cp) hx hb d_Mo_deep_61 ?_
      refine lv_iload_n hx hb d_Mo_deep_62 rfl (lv_at hl 0 rfl) ?_
      refine gn_iadd (a := 9 * cp) (b := n9 + 1) hx hb d_Mo_deep_63 ?_
      refine lv_iconst (v := 1) hx hb d_Mo_deep_64 (by decide) ?_
      refine gn_isub (a := (9 * cp) + (n9 + 1)) (b := 1) hx hb (by omega) d_Mo_deep_65 ?_
      refine mo_ild (k := 42) (i := ((9 * cp) + (n9 + 1)) - 1) (n := 540) C V X (by decide) (by decide) rfl (by omega) (by decide) d_Mo_deep_66 ?_
      rw [show I 42 (((9 * cp) + (n9 + 1)) - 1) = nI (Vx n9) from g42]
      refine mo_ild (k := 3) (i := Vx n9) (n := 760) C V X (by decide) (by decide) rfl (by omega) (by decide) d_Mo_deep_67 ?_
      rw [show I 3 (Vx n9) = nI (vt_c (DV n9)) from e6]
      by_cases hAC : Ax n9 = vt_c (DV n9)
      · have hd1 := hd
        unfold dpop at hd1
        rw [if_pos hAC] at hd1
        refine lv_icmp_ne (tgt := 77) hx hb d_Mo_deep_68 (by decide) (fun c3 => absurd (show nI (Ax n9) = nI (vt_c (DV n9)) by rw [hAC]) c3) (fun c3 => ?_)
        refine lv_iinc (k := 0) (v := (nI (n9 + 1)) + (-1)) hx hb d_Mo_deep_71 hl rfl (by rfl) (by decide) rfl (fun ls hl => ?_)
        have hl : lv_has ls 5 [(3, .int (nI ((n9 + 1) - 1))), (0, .ref a), (1, .int (nI cp))] := by rw [nI_dec (by omega)]; exact hl
        refine lv_goto (tgt := 33) hx hb d_Mo_deep_74 (by decide) ?_
        have hl : lv_has ls 5 [(3, .int (nI ((n9 + 1) - 1))), (0, .ref a), (1, .int (nI cp))] := lv_sub hl [0, 1, 2] rfl
        exact ih ls (by omega) hd1 hl
      · have hd1 := hd
        unfold dpop at hd1
        rw [if_neg hAC] at hd1
        have hm : n9 = m9 := by omega
        refine lv_icmp_ne (tgt := 77) hx hb d_Mo_deep_68 (by decide) (fun c4 => ?_) (fun c4 => absurd c4 (nI_nem (by omega) (by omega) hAC))
        refine lv_aload_n hx hb d_Mo_deep_77 rfl (lv_at hl 1 rfl) ?_
        refine mo_getA C V X 40 (by decide) (by decide) f_Mo_103 rfl d_Mo_deep_78 ?_
        refine lv_iload_n hx hb d_Mo_deep_81 rfl (lv_at hl 2 rfl) ?_
        refine lv_iload_n hx hb d_Mo_deep_82 rfl (lv_at hl 0 rfl) ?_
        refine mo_ist (k := 40) (i := cp) (n := 60) C V X (by decide) (by decide) rfl (by omega) (by decide) d_Mo_deep_83 (fun f1 H locs V1 X1 => ?_)
        clear V X
        have V := V1
        have X := X1
        clear V1 X1
        refine lv_iload_n hx hb d_Mo_deep_84 rfl (lv_at hl 0 rfl) ?_
        refine lv_if_ne (tgt := 94) hx hb d_Mo_deep_85 (by decide) (fun c5 => ?_) (fun c5 => absurd c5 (nI_nem (y := 0) (by omega) (by decide) (by omega)))
        refine lv_aload_n hx hb d_Mo_deep_94 rfl (lv_at hl 1 rfl) ?_
        refine gh_callV C V hl.1 m_Mo_spent l_Mo_280 (c_Mo_spent l E _ _ a ad _ _ _ φ X.1 h48 hφ) rfl X.1.1 gc_Mo ⟨by first | decide | omega | (dsimp only; omega), by first | decide | omega | (dsimp only; omega)⟩ ⟨by first | decide | omega | (dsimp only; omega), by first | decide | omega | (dsimp only; omega)⟩ (Nat.le_of_ble_eq_true rfl) rfl d_Mo_deep_95 (fun r z9 H locs hp V1 => ?_)
        have V := V1
        by_cases hz : φ = 0
        · obtain ⟨rfl, X2⟩ := hp.1 hz
          have X := X.then X2
          refine W.eq (g2 := F0 m 98 ls [.int (gh_bi false)]) rfl ?_
          refine lv_if_ne (tgt := 102) hx hb d_Mo_deep_98 (by decide) (fun c6 => absurd (by decide) c6) (fun c6 => ?_)
          refine gh_retv hAe C V hr hlocks d_Mo_deep_101 (by first | decide | omega | (dsimp only; omega)) (by first | decide | omega | (dsimp only; omega)) ?_
          subst hm
          exact ⟨rfl, _, _, X, Or.inl ⟨hz, va_up_s, va_up_n (by decide), (mct.rf.cell 40 (nI (n9 + 1)) (by decide) (by decide)).s (k := 49) (by omega)⟩⟩
        · obtain ⟨rfl, X2⟩ := hp.2 (by omega)
          rw [decide_eq_false (show ¬ 0 ≤ S 49 from h49)]
          have X := X.then X2
          refine W.eq (g2 := F0 m 98 ls [.int (gh_bi true)]) rfl ?_
          refine lv_if_ne (tgt := 102) hx hb d_Mo_deep_98 (by decide) (fun c7 => ?_) (fun c7 => absurd c7 (by decide))
          refine lv_bipush (v := 9) hx hb d_Mo_deep_102 (by decide) ?_
          refine lv_iload_n hx hb d_Mo_deep_104 rfl (lv_at hl 2 rfl) ?_
          refine gn_imul (a := 9) (b := cp) hx hb d_Mo_deep_105 ?_
          refine lv_iload_n hx hb d_Mo_deep_106 rfl (lv_at hl 0 rfl) ?_
          refine gn_iadd (a := 9 * cp) (b := n9 + 1) hx hb d_Mo_deep_107 ?_
          refine lv_iconst (v := 1) hx hb d_Mo_deep_108 (by decide) ?_
          refine gn_isub (a := (9 * cp) + (n9 + 1)) (b := 1) hx hb (by omega) d_Mo_deep_109 ?_
          refine lv_istore hx hb d_Mo_deep_110 hl (by decide) rfl (fun ls hl => ?_)
          have hl : lv_has ls 5 [(4, .int (nI (((9 * cp) + (n9 + 1)) - 1))), (3, .int (nI (n9 + 1))), (0, .ref a), (1, .int (nI cp))] := hl
          refine lv_aload_n hx hb d_Mo_deep_112 rfl (lv_at hl 2 rfl) ?_
          refine lv_aload_n hx hb d_Mo_deep_113 rfl (lv_at hl 2 rfl) ?_
          refine mo_getA C V X 42 (by decide) (by decide) f_Mo_109 rfl d_Mo_deep_114 ?_
          refine lv_iload hx hb d_Mo_deep_117 (lv_at hl 0 rfl) ?_
          refine mo_ild (k := 42) (i := ((9 * cp) + (n9 + 1)) - 1) (n := 540) C V X (by decide) (by decide) rfl (by omega) (by decide) d_Mo_deep_119 ?_
          rw [show (va_up I 40 (upd (I 40) cp (nI (n9 + 1)))) 42 (((9 * cp) + (n9 + 1)) - 1) = nI (Vx n9) from ((congrFun (va_up_n (by decide)) (((9 * cp) + (n9 + 1)) - 1)).trans (g42))]
          refine lv_aload_n hx hb d_Mo_deep_120 rfl (lv_at hl 2 rfl) ?_
          refine mo_getA C V X 43 (by decide) (by decide) f_Mo_112 rfl d_Mo_deep_121 ?_
          refine lv_iload hx hb d_Mo_deep_124 (lv_at hl 0 rfl) ?_
          refine mo_ild (k := 43) (i := ((9 * cp) + (n9 + 1)) - 1) (n := 540) C V X (by decide) (by decide) rfl (by omega) (by decide) d_Mo_deep_126 ?_
          rw [show (va_up I 40 (upd (I 40) cp (nI (n9 + 1)))) 43 (((9 * cp) + (n9 + 1)) - 1) = nI (Ax n9) from ((congrFun (va_up_n (by decide)) (((9 * cp) + (n9 + 1)) - 1)).trans (g43))]
          have hlt : Ax n9 < vt_c (DV n9) := by omega
          obtain ⟨fv, B, K, hfv, ⟨hf1, hf2, hf3⟩, hB, hK⟩ := (mv_o.mp e2.1).2.2.2.2.2.2.2 e3
          have hb1 : mw I J b0 nv pb np (B (Ax n9)) (vt_s (DV n9) (Ax n9)) := mw_item e2.2 hlt (hB _ hlt).2
          have hfv1 : (va_up I 40 (upd (I 40) cp (nI (n9 + 1)))) 9 (Vx n9) = nI fv := by rw [va_up_n (by decide)]; exact hfv
          have hBi : (va_up I 40 (upd (I 40) cp (nI (n9 + 1)))) 10 (fv + Ax n9) = nI (B (Ax n9)) := by rw [va_up_n (by decide)]; exact (hB _ hlt).1
          have h45 : (va_up S 48 (nI (φ - 1))) 45 = nI (w + 1) := by rw [va_up_n (by decide)]; exact h45
          refine gh_callV C V hl.1 m_Mo_itemOf l_Mo_176 (c_Mo_itemOf l E _ _ a ad _ _ _ (Vx n9) (Ax n9) fv X.1 e7 hfv1 (by omega)) rfl X.1.1 gc_Mo ⟨by first | decide | omega | (dsimp only; omega), by first | decide | omega | (dsimp only; omega)⟩ ⟨by first | decide | omega | (dsimp only; omega), by first | decide | omega | (dsimp only; omega)⟩ (Nat.le_of_ble_eq_true rfl) rfl d_Mo_deep_127 (fun r z9 H locs hp V1 => ?_)
          rw [hBi] at hp
          obtain ⟨rfl, he9⟩ := hp
          rw [he9] at V1
          have V := V1
          refine W.eq (g2 := F0 m 130 ls [.int (nI (B (Ax n9)))]) rfl ?_
          refine lv_istore_n hx hb d_Mo_deep_130 rfl hl (by decide) rfl (fun ls hl => ?_)
          have hl : lv_has ls 5 [(2, .int (nI (B (Ax n9)))), (4, .int (nI (((9 * cp) + (n9 + 1)) - 1))), (3, .int (nI (n9 + 1))), (0, .ref a), (1, .int (nI cp))] := hl
          refine lv_aload_n hx hb d_Mo_deep_131 rfl (lv_at hl 3 rfl) ?_
          refine mo_getA C V X 43 (by decide) (by decide) f_Mo_112 rfl d_Mo_deep_132 ?_
          refine lv_iload hx hb d_Mo_deep_135 (lv_at hl 1 rfl) ?_
          refine lv_dup2_11 hx hb d_Mo_deep_137 rfl rfl ?_
          refine mo_ild (k := 43) (i := ((9 * cp) + (n9 + 1)) - 1) (n := 540) C V X (by decide) (by decide) rfl (by omega) (by decide) d_Mo_deep_138 ?_
          rw [show (va_up I 40 (upd (I 40) cp (nI (n9 + 1)))) 43 (((9 * cp) + (n9 + 1)) - 1) = nI (Ax n9) from ((congrFun (va_up_n (by decide)) (((9 * cp) + (n9 + 1)) - 1)).trans (g43))]
          refine lv_iconst (v := 1) hx hb d_Mo_deep_139 (by decide) ?_
          refine gn_iadd (a := Ax n9) (b := 1) hx hb d_Mo_deep_140 ?_
          refine mo_ist (k := 43) (i := ((9 * cp) + (n9 + 1)) - 1) (n := 540) C V X (by decide) (by decide) rfl (by omega) (by decide) d_Mo_deep_141 (fun f1 H locs V1 X1 => ?_)
          clear V X
          have V := V1
          have X := X1
          clear V1 X1
          refine lv_aload_n hx hb d_Mo_deep_142 rfl (lv_at hl 3 rfl) ?_
          refine mo_getA C V X 35 (by decide) (by decide) f_Mo_88 rfl d_Mo_deep_143 ?_
          refine lv_iload_n hx hb d_Mo_deep_146 rfl (lv_at hl 4 rfl) ?_
          refine lv_iconst (v := 1) hx hb d_Mo_deep_147 (by decide) ?_
          refine mo_ist (k := 35) (i := cp) (n := 60) C V X (by decide) (by decide) rfl (by omega) (by decide) d_Mo_deep_148 (fun f1 H locs V1 X1 => ?_)
          clear V X
          have V := V1
          have X := X1
          clear V1 X1
          refine lv_aload_n hx hb d_Mo_deep_149 rfl (lv_at hl 3 rfl) ?_
          refine lv_iload_n hx hb d_Mo_deep_150 rfl (lv_at hl 0 rfl) ?_
          have h1v := (mv_o.mp hb1.1).2.1
          have hv7 := hb1.lt
          have hmn : (decide ((va_up (va_up (va_up I 40 (upd (I 40) cp (nI (n9 + 1)))) 43 (upd ((va_up I 40 (upd (I 40) cp (nI (n9 + 1)))) 43) (((9 * cp) + (n9 + 1)) - 1) (nI ((Ax n9) + 1)))) 35 (upd ((va_up (va_up I 40 (upd (I 40) cp (nI (n9 + 1)))) 43 (upd ((va_up I 40 (upd (I 40) cp (nI (n9 + 1)))) 43) (((9 * cp) + (n9 + 1)) - 1) (nI ((Ax n9) + 1)))) 35) cp 1)) 1 (B (Ax n9)) = 5) || decide ((va_up (va_up (va_up I 40 (upd (I 40) cp (nI (n9 + 1)))) 43 (upd ((va_up I 40 (upd (I 40) cp (nI (n9 + 1)))) 43) (((9 * cp) + (n9 + 1)) - 1) (nI ((Ax n9) + 1)))) 35 (upd ((va_up (va_up I 40 (upd (I 40) cp (nI (n9 + 1)))) 43 (upd ((va_up I 40 (upd (I 40) cp (nI (n9 + 1)))) 43) (((9 * cp) + (n9 + 1)) - 1) (nI ((Ax n9) + 1)))) 35) cp 1)) 1 (B (Ax n9)) = 6)) = true := by rw [show (va_up (va_up (va_up I 40 (upd (I 40) cp (nI (n9 + 1)))) 43 (upd ((va_up I 40 (upd (I 40) cp (nI (n9 + 1)))) 43) (((9 * cp) + (n9 + 1)) - 1) (nI ((Ax n9) + 1)))) 35 (upd ((va_up (va_up I 40 (upd (I 40) cp (nI (n9 + 1)))) 43 (upd ((va_up I 40 (upd (I 40) cp (nI (n9 + 1)))) 43) (((9 * cp) + (n9 + 1)) - 1) (nI ((Ax n9) + 1)))) 35) cp 1)) 1 (B (Ax n9)) = I 1 (B (Ax n9)) from (by simp only [va_up_n (show (1 : Nat) ≠ 35 by decide), va_up_n (show (1 : Nat) ≠ 40 by decide), va_up_n (show (1 : Nat) ≠ 43 by decide)]), h1v]; exact mw_many hb1 (by rw [hm]; exact hhi)
          refine gh_callV C V hl.1 m_Mo_isMany l_Mo_169 (c_Mo_isMany l E _ _ a ad _ _ _ (B (Ax n9)) X.1 hv7) rfl X.1.1 gc_Mo ⟨by first | decide | omega | (dsimp only; omega), by first | decide | omega | (dsimp only; omega)⟩ ⟨by first | decide | omega | (dsimp only; omega), by first | decide | omega | (dsimp only; omega)⟩ (Nat.le_of_ble_eq_true rfl) rfl d_Mo_deep_151 (fun r z9 H locs hp V1 => ?_)
          rw [hmn] at hp
          obtain ⟨rfl, he9⟩ := hp
          rw [he9] at V1
          have V := V1
          refine W.eq (g2 := F0 m 154 ls [.int (gh_bi true)]) rfl ?_
          refine lv_if_eq (tgt := 201) hx hb d_Mo_deep_154 (by decide) (fun c8 => absurd c8 (by decide)) (fun c8 => ?_)
          refine lv_aload_n hx hb d_Mo_deep_157 rfl (lv_at hl 3 rfl) ?_
          refine mo_getA C V X 42 (by decide) (by decide) f_Mo_109 rfl d_Mo_deep_158 ?_
          refine lv_bipush (v := 9) hx hb d_Mo_deep_161 (by decide) ?_
          refine lv_iload_n hx hb d_Mo_deep_163 rfl (lv_at hl 4 rfl) ?_
          refine gn_imul (a := 9) (b := cp) hx hb d_Mo_deep_164 ?_
          refine lv_aload_n hx hb d_Mo_deep_165 rfl (lv_at hl 3 rfl) ?_
          refine mo_getA C V X 40 (by decide) (by decide) f_Mo_103 rfl d_Mo_deep_166 ?_
          refine lv_iload_n hx hb d_Mo_deep_169 rfl (lv_at hl 4 rfl) ?_
          refine mo_ild (k := 40) (i := cp) (n := 60) C V X (by decide) (by decide) rfl (by omega) (by decide) d_Mo_deep_170 ?_
          rw [show (va_up (va_up (va_up I 40 (upd (I 40) cp (nI (n9 + 1)))) 43 (upd ((va_up I 40 (upd (I 40) cp (nI (n9 + 1)))) 43) (((9 * cp) + (n9 + 1)) - 1) (nI ((Ax n9) + 1)))) 35 (upd ((va_up (va_up I 40 (upd (I 40) cp (nI (n9 + 1)))) 43 (upd ((va_up I 40 (upd (I 40) cp (nI (n9 + 1)))) 43) (((9 * cp) + (n9 + 1)) - 1) (nI ((Ax n9) + 1)))) 35) cp 1)) 40 cp = nI (n9 + 1) from ((congrFun (va_up_n (by decide)) cp).trans (((congrFun (va_up_n (by decide)) cp).trans (((congrFun va_up_s cp).trans (by simp [upd]))))))]
          refine gn_iadd (a := 9 * cp) (b := n9 + 1) hx hb d_Mo_deep_171 ?_
          refine lv_iload_n hx hb d_Mo_deep_172 rfl (lv_at hl 0 rfl) ?_
          refine mo_ist (k := 42) (i := (9 * cp) + (n9 + 1)) (n := 540) C V X (by decide) (by decide) rfl (by omega) (by decide) d_Mo_deep_173 (fun f1 H locs V1 X1 => ?_)
          clear V X
          have V := V1
          have X := X1
          clear V1 X1
          refine lv_aload_n hx hb d_Mo_deep_174 rfl (lv_at hl 3 rfl) ?_
          refine mo_getA C V X 43 (by decide) (by decide) f_Mo_112 rfl d_Mo_deep_175 ?_
          refine lv_bipush (v := 9) hx hb d_Mo_deep_178 (by decide) ?_
          refine lv_iload_n hx hb d_Mo_deep_180 rfl (lv_at hl 4 rfl) ?_
          refine gn_imul (a := 9) (b := cp) hx hb d_Mo_deep_181 ?_
          refine lv_aload_n hx hb d_Mo_deep_182 rfl (lv_at hl 3 rfl) ?_
          refine mo_getA C V X 40 (by decide) (by decide) f_Mo_103 rfl d_Mo_deep_183 ?_
          refine lv_iload_n hx hb d_Mo_deep_186 rfl (lv_at hl 4 rfl) ?_
          refine mo_ild (k := 40) (i := cp) (n := 60) C V X (by decide) (by decide) rfl (by omega) (by decide) d_Mo_deep_187 ?_
          rw [show (va_up (va_up (va_up (va_up I 40 (upd (I 40) cp (nI (n9 + 1)))) 43 (upd ((va_up I 40 (upd (I 40) cp (nI (n9 + 1)))) 43) (((9 * cp) + (n9 + 1)) - 1) (nI ((Ax n9) + 1)))) 35 (upd ((va_up (va_up I 40 (upd (I 40) cp (nI (n9 + 1)))) 43 (upd ((va_up I 40 (upd (I 40) cp (nI (n9 + 1)))) 43) (((9 * cp) + (n9 + 1)) - 1) (nI ((Ax n9) + 1)))) 35) cp 1)) 42 (upd ((va_up (va_up (va_up I 40 (upd (I 40) cp (nI (n9 + 1)))) 43 (upd ((va_up I 40 (upd (I 40) cp (nI (n9 + 1)))) 43) (((9 * cp) + (n9 + 1)) - 1) (nI ((Ax n9) + 1)))) 35 (upd ((va_up (va_up I 40 (upd (I 40) cp (nI (n9 + 1)))) 43 (upd ((va_up I 40 (upd (I 40) cp (nI (n9 + 1)))) 43) (((9 * cp) + (n9 + 1)) - 1) (nI ((Ax n9) + 1)))) 35) cp 1)) 42) ((9 * cp) + (n9 + 1)) (nI (B (Ax n9))))) 40 cp = nI (n9 + 1) from ((congrFun (va_up_n (by decide)) cp).trans (((congrFun (va_up_n (by decide)) cp).trans (((congrFun (va_up_n (by decide)) cp).trans (((congrFun va_up_s cp).trans (by simp [upd]))))))))]
          refine gn_iadd (a := 9 * cp) (b := n9 + 1) hx hb d_Mo_deep_188 ?_
          refine lv_iconst (v := 0) hx hb d_Mo_deep_189 (by decide) ?_
          refine mo_ist (k := 43) (i := (9 * cp) + (n9 + 1)) (n := 540) C V X (by decide) (by decide) rfl (by omega) (by decide) d_Mo_deep_190 (fun f1 H locs V1 X1 => ?_)
          clear V X
          have V := V1
          have X := X1
          clear V1 X1
          refine lv_aload_n hx hb d_Mo_deep_191 rfl (lv_at hl 3 rfl) ?_
          refine mo_getA C V X 40 (by decide) (by decide) f_Mo_103 rfl d_Mo_deep_192 ?_
          refine lv_iload_n hx hb d_Mo_deep_195 rfl (lv_at hl 4 rfl) ?_
          refine lv_dup2_11 hx hb d_Mo_deep_196 rfl rfl ?_
          refine mo_ild (k := 40) (i := cp) (n := 60) C V X (by decide) (by decide) rfl (by omega) (by decide) d_Mo_deep_197 ?_
          rw [show (va_up (va_up (va_up (va_up (va_up I 40 (upd (I 40) cp (nI (n9 + 1)))) 43 (upd ((va_up I 40 (upd (I 40) cp (nI (n9 + 1)))) 43) (((9 * cp) + (n9 + 1)) - 1) (nI ((Ax n9) + 1)))) 35 (upd ((va_up (va_up I 40 (upd (I 40) cp (nI (n9 + 1)))) 43 (upd ((va_up I 40 (upd (I 40) cp (nI (n9 + 1)))) 43) (((9 * cp) + (n9 + 1)) - 1) (nI ((Ax n9) + 1)))) 35) cp 1)) 42 (upd ((va_up (va_up (va_up I 40 (upd (I 40) cp (nI (n9 + 1)))) 43 (upd ((va_up I 40 (upd (I 40) cp (nI (n9 + 1)))) 43) (((9 * cp) + (n9 + 1)) - 1) (nI ((Ax n9) + 1)))) 35 (upd ((va_up (va_up I 40 (upd (I 40) cp (nI (n9 + 1)))) 43 (upd ((va_up I 40 (upd (I 40) cp (nI (n9 + 1)))) 43) (((9 * cp) + (n9 + 1)) - 1) (nI ((Ax n9) + 1)))) 35) cp 1)) 42) ((9 * cp) + (n9 + 1)) (nI (B (Ax n9))))) 43 (upd ((va_up (va_up (va_up (va_up I 40 (upd (I 40) cp (nI (n9 + 1)))) 43 (upd ((va_up I 40 (upd (I 40) cp (nI (n9 + 1)))) 43) (((9 * cp) + (n9 + 1)) - 1) (nI ((Ax n9) + 1)))) 35 (upd ((va_up (va_up I 40 (upd (I 40) cp (nI (n9 + 1)))) 43 (upd ((va_up I 40 (upd (I 40) cp (nI (n9 + 1)))) 43) (((9 * cp) + (n9 + 1)) - 1) (nI ((Ax n9) + 1)))) 35) cp 1)) 42 (upd ((va_up (va_up (va_up I 40 (upd (I 40) cp (nI (n9 + 1)))) 43 (upd ((va_up I 40 (upd (I 40) cp (nI (n9 + 1)))) 43) (((9 * cp) + (n9 + 1)) - 1) (nI ((Ax n9) + 1)))) 35 (upd ((va_up (va_up I 40 (upd (I 40) cp (nI (n9 + 1)))) 43 (upd ((va_up I 40 (upd (I 40) cp (nI (n9 + 1)))) 43) (((9 * cp) + (n9 + 1)) - 1) (nI ((Ax n9) + 1)))) 35) cp 1)) 42) ((9 * cp) + (n9 + 1)) (nI (B (Ax n9))))) 43) ((9 * cp) + (n9 + 1)) 0)) 40 cp = nI (n9 + 1) from ((congrFun (va_up_n (by decide)) cp).trans (((congrFun (va_up_n (by decide)) cp).trans (((congrFun (va_up_n (by decide)) cp).trans (((congrFun (va_up_n (by decide)) cp).trans (((congrFun va_up_s cp).trans (by simp [upd]))))))))))]
          refine lv_iconst (v := 1) hx hb d_Mo_deep_198 (by decide) ?_
          refine gn_iadd (a := n9 + 1) (b := 1) hx hb d_Mo_deep_199 ?_
          refine mo_ist (k := 40) (i := cp) (n := 60) C V X (by decide) (by decide) rfl (by omega) (by decide) d_Mo_deep_200 (fun f1 H locs V1 X1 => ?_)
          clear V X
          have V := V1
          have X := X1
          clear V1 X1
          refine lv_aload_n hx hb d_Mo_deep_201 rfl (lv_at hl 3 rfl) ?_
          refine lv_iload_n hx hb d_Mo_deep_202 rfl (lv_at hl 0 rfl) ?_
          refine gh_callV C V hl.1 m_Mo_give l_Mo_342 (c_Mo_give l E _ _ a ad _ _ _ (nI (B (Ax n9))) w X.1 h45) rfl X.1.1 gc_Mo ⟨by first | decide | omega | (dsimp only; omega), by first | decide | omega | (dsimp only; omega)⟩ ⟨by first | decide | omega | (dsimp only; omega), by first | decide | omega | (dsimp only; omega)⟩ (Nat.le_of_ble_eq_true rfl) rfl d_Mo_deep_203 (fun r z9 H locs hp V1 => ?_)
          obtain ⟨rfl, X2⟩ := hp
          have X := X.then X2
          have V := V1
          refine W.eq (g2 := F0 m 206 ls []) rfl ?_
          refine gh_retv hAe C V hr hlocks d_Mo_deep_206 (by first | decide | omega | (dsimp only; omega)) (by first | decide | omega | (dsimp only; omega)) ?_
          subst hm
          exact ⟨rfl, _, _, X, Or.inr ⟨by omega, (((((((mct.rf.cell 40 (nI (n9 + 1)) (by decide) (by decide)).wide 43 (((9 * cp) + (n9 + 1)) - 1) (nI ((Ax n9) + 1)) (by decide) (by decide) (by first | (simp; omega) | simp)).cell 35 1 (by decide) (by decide)).wide 42 ((9 * cp) + (n9 + 1)) (nI (B (Ax n9))) (by decide) (by decide) (by first | (simp; omega) | simp)).wide 43 ((9 * cp) + (n9 + 1)) 0 (by decide) (by decide) (by first | (simp; omega) | simp)).cell 40 (nI ((n9 + 1) + 1)) (by decide) (by decide)).s (k := 48) (by omega)).give, _, ⟨by first | rfl | simp [va_up], by first | rfl | simp [va_up]⟩, hb1, oc_t2 rfl rfl⟩⟩
  exact loop n0 ls (Nat.le_refl _) hd hl
set_option maxHeartbeats 4000000 in
set_option maxRecDepth 100000 in
theorem c_Mo_deep_1n (l : Launch) (E : gh_E) (sz : Nat) (f : gh_F) (a : Nat) (ad : Nat → Nat) (S : Nat → Int32) (I : Nat → Nat → Int32) (J : Nat → Nat → Int64) (w cp φ : Nat) (b0 nv pb np n0 : Nat) (Vx Ax : Nat → Nat) (DV : Nat → vt) (v0 : Int32) (m9 : Nat) (hX : mo_R E f a ad S I J) (h45 : S 45 = nI (w + 1)) (hw : w < 14) (hc60 : cp < 60) (h48 : S 48 = nI φ) (hφ : φ < 1000) (h49 : ¬ 0 ≤ S 49) (hph : I 35 cp = 1) (hv0 : I 36 cp = v0) (hix : I 40 cp = nI n0) (hn8 : n0 ≤ 8) (hV : ∀ j, j < n0 → I 42 (9 * cp + j) = nI (Vx j) ∧ mw I J b0 nv pb np (Vx j) (DV j) ∧ 5 ≤ vt_k (DV j) ∧ I 43 (9 * cp + j) = nI (Ax j) ∧ Ax j ≤ vt_c (DV j)) (hp8 : np ≤ 8800) (hd : dpop Ax (fun j => vt_c (DV j)) n0 = m9 + 1) (hhi : vt_hi (vt_s (DV m9) (Ax m9)) = false) : gh_M l y_Mo_deep b_Mo_deep 5 none E sz [.ref a, .int (nI cp)] f { frames := 7, cells := 0, slots := 0, locals := 200 } (fun r g => r = none ∧ ∃ S2 I2, mo_X E f g a ad S2 I2 J ∧ ((φ = 0 ∧ S2 49 = 2 ∧ S2 48 = S 48 ∧ mct cp w (fun _ => False) (va_up (fun k => I k cp) 40 (nI (m9 + 1))) S I S2 I2) ∨ (0 < φ ∧ mct cp w (fun _ => False) (va_up (va_up (fun k => I k cp) 40 (nI (m9 + 1))) 35 1) S I S2 I2 ∧ ∃ b, (I2 42 = I 42 ∧ I2 43 = upd (I 43) (9 * cp + m9) (nI (Ax m9 + 1))) ∧ mw I J b0 nv pb np b (vt_s (DV m9) (Ax m9)) ∧ oc_t w 1 (nI b) (va_up S 48 (nI (φ - 1))) S2))) := by
  refine gh_open (by decide) (Nat.le_of_ble_eq_true rfl) ?_
  intro p e s m args below meth c A ls hAe C V hr hlocks hname hl
  have hx := C.1
  have hb := C.2.1
  have hl : lv_has ls 5 [(0, .ref a), (1, .int (nI cp))] := hl
  have X : mo_X E f f a ad S I J := ⟨hX, gh_fr.rf⟩
  refine lv_aload_n hx hb d_Mo_deep_0 rfl (lv_at hl 0 rfl) ?_
  refine mo_getA C V X 36 (by decide) (by decide) f_Mo_91 rfl d_Mo_deep_1 ?_
  refine lv_iload_n hx hb d_Mo_deep_4 rfl (lv_at hl 1 rfl) ?_
  refine mo_ild (k := 36) (i := cp) (n := 60) C V X (by decide) (by decide) rfl (by omega) (by decide) d_Mo_deep_5 ?_
  rw [show I 36 cp = v0 from hv0]
  refine lv_istore_n hx hb d_Mo_deep_6 rfl hl (by decide) rfl (fun ls hl => ?_)
  have hl : lv_has ls 5 [(2, .int v0), (0, .ref a), (1, .int (nI cp))] := hl
  refine lv_aload_n hx hb d_Mo_deep_7 rfl (lv_at hl 1 rfl) ?_
  refine mo_getA C V X 35 (by decide) (by decide) f_Mo_88 rfl d_Mo_deep_8 ?_
  refine lv_iload_n hx hb d_Mo_deep_11 rfl (lv_at hl 2 rfl) ?_
  refine mo_ild (k := 35) (i := cp) (n := 60) C V X (by decide) (by decide) rfl (by omega) (by decide) d_Mo_deep_12 ?_
  rw [show I 35 cp = 1 from hph]
  refine lv_if_ne (tgt := 26) hx hb d_Mo_deep_13 (by decide) (fun c1 => ?_) (fun c1 => absurd c1 (by decide))
  refine lv_aload_n hx hb d_Mo_deep_26 rfl (lv_at hl 1 rfl) ?_
  refine mo_getA C V X 40 (by decide) (by decide) f_Mo_103 rfl d_Mo_deep_27 ?_
  refine lv_iload_n hx hb d_Mo_deep_30 rfl (lv_at hl 2 rfl) ?_
  refine mo_ild (k := 40) (i := cp) (n := 60) C V X (by decide) (by decide) rfl (by omega) (by decide) d_Mo_deep_31 ?_
  rw [show I 40 cp = nI n0 from hix]
  refine lv_istore_n hx hb d_Mo_deep_32 rfl hl (by decide) rfl (fun ls hl => ?_)
  have hl : lv_has ls 5 [(3, .int (nI n0)), (2, .int v0), (0, .ref a), (1, .int (nI cp))] := hl
  have hl : lv_has ls 5 [(3, .int (nI n0)), (0, .ref a), (1, .int (nI cp))] := lv_sub hl [0, 2, 3] rfl
  have loop : ∀ (n9 : Nat) (ls : Array Slot), n9 ≤ n0 → dpop Ax (fun j => vt_c (DV j)) n9 = m9 + 1 → lv_has ls 5 [(3, .int (nI n9)), (0, .ref a), (1, .int (nI cp))] → W p l e { frames := 7, cells := 0, slots := 0, locals := 200 } s m args below meth c s.heap [] 0 0 (MQ below (gh_Q E f (fun r g => r = none ∧ ∃ S2 I2, mo_X E f g a ad S2 I2 J ∧ ((φ = 0 ∧ S2 49 = 2 ∧ S2 48 = S 48 ∧ mct cp w (fun _ => False) (va_up (fun k => I k cp) 40 (nI (m9 + 1))) S I S2 I2) ∨ (0 < φ ∧ mct cp w (fun _ => False) (va_up (va_up (fun k => I k cp) 40 (nI (m9 + 1))) 35 1) S I S2 I2 ∧ ∃ b, (I2 42 = I 42 ∧ I2 43 = upd (I 43) (9 * cp + m9) (nI (Ax m9 + 1))) ∧ mw I J b0 nv pb np b (vt_s (DV m9) (Ax m9)) ∧ oc_t w 1 (nI b) (va_up S 48 (nI (φ - 1))) S2)))) args s 0 0 A) (F0 m 33 ls []) := by
    intro n9
    induction n9 with
    | zero =>
      intro ls hle hd hl
      exact absurd hd (by show ¬ 0 = m9 + 1; omega)
    | succ n9 ih =>
      intro ls hle hd hl
      obtain ⟨e1, e2, e3, e4, e5⟩ := hV n9 (by omega)
      have e16 := (vo_o.mp e2.2).2.2.2.2.2.2.1
      have e6 : I 3 (Vx n9) = nI (vt_c (DV n9)) := by rw [(mv_o.mp e2.1).2.2.2.1]; unfold vt_ln; rw [if_neg (by omega)]
      have e7 := e2.lt
      have g42 : I 42 (9 * cp + (n9 + 1) - 1) = nI (Vx n9) := e1
      have g43 : I 43 (9 * cp + (n9 + 1) - 1) = nI (Ax n9) := e4
      refine lv_iload_n hx hb d_Mo_deep_33 rfl (lv_at hl 0 rfl) ?_
      refine lv_if_le (tgt := 77) hx hb d_Mo_deep_34 (by decide) (fun c2 => absurd c2 (nI_npos (by omega))) (fun c2 => ?_)
      refine lv_aload_n hx hb d_Mo_deep_37 rfl (lv_at hl 1 rfl) ?_
      refine mo_getA C V X 43 (by decide) (by decide) f_Mo_112 rfl d_Mo_deep_38 ?_
      refine lv_bipush (v := 9) hx hb d_Mo_deep_41 (by decide) ?_
      refine lv_iload_n hx hb d_Mo_deep_43 rfl (lv_at hl 2 rfl) ?_
      refine gn_imul (a := 9) (b := cp) hx hb d_Mo_deep_44 ?_
      refine lv_iload_n hx hb d_Mo_deep_45 rfl (lv_at hl 0 rfl) ?_
      refine gn_iadd (a := 9 * cp) (b := n9 + 1) hx hb d_Mo_deep_46 ?_
      refine lv_iconst (v := 1) hx hb d_Mo_deep_47 (by decide) ?_
      refine gn_isub (a := (9 * cp) + (n9 + 1)) (b := 1) hx hb (by omega) d_Mo_deep_48 ?_
      refine mo_ild (k := 43) (i := ((9 * cp) + (n9 + 1)) - 1) (n := 540) C V X (by decide) (by decide) rfl (by omega) (by decide) d_Mo_deep_49 ?_
      rw [show I 43 (((9 * cp) + (n9 + 1)) - 1) = nI (Ax n9) from g43]
      refine lv_aload_n hx hb d_Mo_deep_50 rfl (lv_at hl 1 rfl) ?_
      refine mo_getA C V X 3 (by decide) (by decide) f_Mo_17 rfl d_Mo_deep_51 ?_
      refine lv_aload_n hx hb d_Mo_deep_54 rfl (lv_at hl 1 rfl) ?_
      refine mo_getA C V X 42 (by decide) (by decide) f_Mo_109 rfl d_Mo_deep_55 ?_
      refine lv_bipush (v := 9) hx hb d_Mo_deep_58 (by decide) ?_
      refine lv_iload_n hx hb d_Mo_deep_60 rfl (lv_at hl 2 rfl) ?_
      refine gn_imul (a := 9) (b := cp) hx hb d_Mo_deep_61 ?_
      refine lv_iload_n hx hb d_Mo_deep_62 rfl (lv_at hl 0 rfl) ?_
      refine gn_iadd (a := 9 * cp) (b := n9 + 1) hx hb d_Mo_deep_63 ?_
      refine lv_iconst (v := 1) hx hb d_Mo_deep_64 (by decide) ?_
      refine gn_isub (a := (9 * cp) + (n9 + 1)) (b := 1) hx hb (by omega) d_Mo_deep_65 ?_
      refine mo_ild (k := 42) (i := ((9 * cp) + (n9 + 1)) - 1) (n := 540) C V X (by decide) (by decide) rfl (by omega) (by decide) d_Mo_deep_66 ?_
      rw [show I 42 (((9 * cp) + (n9 + 1)) - 1) = nI (Vx n9) from g42]
      refine mo_ild (k := 3) (i := Vx n9) (n := 760) C V X (by decide) (by decide) rfl (by omega) (by decide) d_Mo_deep_67 ?_
      rw [show I 3 (Vx n9) = nI (vt_c (DV n9)) from e6]
      by_cases hAC : Ax n9 = vt_c (DV n9)
      · have hd1 := hd
        unfold dpop at hd1
        rw [if_pos hAC] at hd1
        refine lv_icmp_ne (tgt := 77) hx hb d_Mo_deep_68 (by decide) (fun c3 => absurd (show nI (Ax n9) = nI (vt_c (DV n9)) by rw [hAC]) c3) (fun c3 => ?_)
        refine lv_iinc (k := 0) (v := (nI (n9 + 1)) + (-1)) hx hb d_Mo_deep_71 hl rfl (by rfl) (by decide) rfl (fun ls hl => ?_)
        have hl : lv_has ls 5 [(3, .int (nI ((n9 + 1) - 1))), (0, .ref a), (1, .int (nI cp))] := by rw [nI_dec (by omega)]; exact hl
        refine lv_goto (tgt := 33) hx hb d_Mo_deep_74 (by decide) ?_
        have hl : lv_has ls 5 [(3, .int (nI ((n9 + 1) - 1))), (0, .ref a), (1, .int (nI cp))] := lv_sub hl [0, 1, 2] rfl
        exact ih ls (by omega) hd1 hl
      · have hd1 := hd
        unfold dpop at hd1
        rw [if_neg hAC] at hd1
        have hm : n9 = m9 := by omega
        refine lv_icmp_ne (tgt := 77) hx hb d_Mo_deep_68 (by decide) (fun c4 => ?_) (fun c4 => absurd c4 (nI_nem (by omega) (by omega) hAC))
        refine lv_aload_n hx hb d_Mo_deep_77 rfl (lv_at hl 1 rfl) ?_
        refine mo_getA C V X 40 (by decide) (by decide) f_Mo_103 rfl d_Mo_deep_78 ?_
        refine lv_iload_n hx hb d_Mo_deep_81 rfl (lv_at hl 2 rfl) ?_
        refine lv_iload_n hx hb d_Mo_deep_82 rfl (lv_at hl 0 rfl) ?_
        refine mo_ist (k := 40) (i := cp) (n := 60) C V X (by decide) (by decide) rfl (by omega) (by decide) d_Mo_deep_83 (fun f1 H locs V1 X1 => ?_)
        clear V X
        have V := V1
        have X := X1
        clear V1 X1
        refine lv_iload_n hx hb d_Mo_deep_84 rfl (lv_at hl 0 rfl) ?_
        refine lv_if_ne (tgt := 94) hx hb d_Mo_deep_85 (by decide) (fun c5 => ?_) (fun c5 => absurd c5 (nI_nem (y := 0) (by omega) (by decide) (by omega)))
        refine lv_aload_n hx hb d_Mo_deep_94 rfl (lv_at hl 1 rfl) ?_
        refine gh_callV C V hl.1 m_Mo_spent l_Mo_280 (c_Mo_spent l E _ _ a ad _ _ _ φ X.1 h48 hφ) rfl X.1.1 gc_Mo ⟨by first | decide | omega | (dsimp only; omega), by first | decide | omega | (dsimp only; omega)⟩ ⟨by first | decide | omega | (dsimp only; omega), by first | decide | omega | (dsimp only; omega)⟩ (Nat.le_of_ble_eq_true rfl) rfl d_Mo_deep_95 (fun r z9 H locs hp V1 => ?_)
        have V := V1
        by_cases hz : φ = 0
        · obtain ⟨rfl, X2⟩ := hp.1 hz
          have X := X.then X2
          refine W.eq (g2 := F0 m 98 ls [.int (gh_bi false)]) rfl ?_
          refine lv_if_ne (tgt := 102) hx hb d_Mo_deep_98 (by decide) (fun c6 => absurd (by decide) c6) (fun c6 => ?_)
          refine gh_retv hAe C V hr hlocks d_Mo_deep_101 (by first | decide | omega | (dsimp only; omega)) (by first | decide | omega | (dsimp only; omega)) ?_
          subst hm
          exact ⟨rfl, _, _, X, Or.inl ⟨hz, va_up_s, va_up_n (by decide), (mct.rf.cell 40 (nI (n9 + 1)) (by decide) (by decide)).s (k := 49) (by omega)⟩⟩
        · obtain ⟨rfl, X2⟩ := hp.2 (by omega)
          rw [decide_eq_false (show ¬ 0 ≤ S 49 from h49)]
          have X := X.then X2
          refine W.eq (g2 := F0 m 98 ls [.int (gh_bi true)]) rfl ?_
          refine lv_if_ne (tgt := 102) hx hb d_Mo_deep_98 (by decide) (fun c7 => ?_) (fun c7 => absurd c7 (by decide))
          refine lv_bipush (v := 9) hx hb d_Mo_deep_102 (by decide) ?_
          refine lv_iload_n hx hb d_Mo_deep_104 rfl (lv_at hl 2 rfl) ?_
          refine gn_imul (a := 9) (b := cp) hx hb d_Mo_deep_105 ?_
          refine lv_iload_n hx hb d_Mo_deep_106 rfl (lv_at hl 0 rfl) ?_
          refine gn_iadd (a := 9 * cp) (b := n9 + 1) hx hb d_Mo_deep_107 ?_
          refine lv_iconst (v := 1) hx hb d_Mo_deep_108 (by decide) ?_
          refine gn_isub (a := (9 * cp) + (n9 + 1)) (b := 1) hx hb (by omega) d_Mo_deep_109 ?_
          refine lv_istore hx hb d_Mo_deep_110 hl (by decide) rfl (fun ls hl => ?_)
          have hl : lv_has ls 5 [(4, .int (nI (((9 * cp) + (n9 + 1)) - 1))), (3, .int (nI (n9 + 1))), (0, .ref a), (1, .int (nI cp))] := hl
          refine lv_aload_n hx hb d_Mo_deep_112 rfl (lv_at hl 2 rfl) ?_
          refine lv_aload_n hx hb d_Mo_deep_113 rfl (lv_at hl 2 rfl) ?_
          refine mo_getA C V X 42 (by decide) (by decide) f_Mo_109 rfl d_Mo_deep_114 ?_
          refine lv_iload hx hb d_Mo_deep_117 (lv_at hl 0 rfl) ?_
          refine mo_ild (k := 42) (i := ((9 * cp) + (n9 + 1)) - 1) (n := 540) C V X (by decide) (by decide) rfl (by omega) (by decide) d_Mo_deep_119 ?_
          rw [show (va_up I 40 (upd (I 40) cp (nI (n9 + 1)))) 42 (((9 * cp) + (n9 + 1)) - 1) = nI (Vx n9) from ((congrFun (va_up_n (by decide)) (((9 * cp) + (n9 + 1)) - 1)).trans (g42))]
          refine lv_aload_n hx hb d_Mo_deep_120 rfl (lv_at hl 2 rfl) ?_
          refine mo_getA C V X 43 (by decide) (by decide) f_Mo_112 rfl d_Mo_deep_121 ?_
          refine lv_iload hx hb d_Mo_deep_124 (lv_at hl 0 rfl) ?_
          refine mo_ild (k := 43) (i := ((9 * cp) + (n9 + 1)) - 1) (n := 540) C V X (by decide) (by decide) rfl (by omega) (by decide) d_Mo_deep_126 ?_
          rw [show (va_up I 40 (upd (I 40) cp (nI (n9 + 1)))) 43 (((9 * cp) + (n9 + 1)) - 1) = nI (Ax n9) from ((congrFun (va_up_n (by decide)) (((9 * cp) + (n9 + 1)) - 1)).trans (g43))]
          have hlt : Ax n9 < vt_c (DV n9) := by omega
          obtain ⟨fv, B, K, hfv, ⟨hf1, hf2, hf3⟩, hB, hK⟩ := (mv_o.mp e2.1).2.2.2.2.2.2.2 e3
          have hb1 : mw I J b0 nv pb np (B (Ax n9)) (vt_s (DV n9) (Ax n9)) := mw_item e2.2 hlt (hB _ hlt).2
          have hfv1 : (va_up I 40 (upd (I 40) cp (nI (n9 + 1)))) 9 (Vx n9) = nI fv := by rw [va_up_n (by decide)]; exact hfv
          have hBi : (va_up I 40 (upd (I 40) cp (nI (n9 + 1)))) 10 (fv + Ax n9) = nI (B (Ax n9)) := by rw [va_up_n (by decide)]; exact (hB _ hlt).1
          have h45 : (va_up S 48 (nI (φ - 1))) 45 = nI (w + 1) := by rw [va_up_n (by decide)]; exact h45
          refine gh_callV C V hl.1 m_Mo_itemOf l_Mo_176 (c_Mo_itemOf l E _ _ a ad _ _ _ (Vx n9) (Ax n9) fv X.1 e7 hfv1 (by omega)) rfl X.1.1 gc_Mo ⟨by first | decide | omega | (dsimp only; omega), by first | decide | omega | (dsimp only; omega)⟩ ⟨by first | decide | omega | (dsimp only; omega), by first | decide | omega | (dsimp only; omega)⟩ (Nat.le_of_ble_eq_true rfl) rfl d_Mo_deep_127 (fun r z9 H locs hp V1 => ?_)
          rw [hBi] at hp
          obtain ⟨rfl, he9⟩ := hp
          rw [he9] at V1
          have V := V1
          refine W.eq (g2 := F0 m 130 ls [.int (nI (B (Ax n9)))]) rfl ?_
          refine lv_istore_n hx hb d_Mo_deep_130 rfl hl (by decide) rfl (fun ls hl => ?_)
          have hl : lv_has ls 5 [(2, .int (nI (B (Ax n9)))), (4, .int (nI (((9 * cp) + (n9 + 1)) - 1))), (3, .int (nI (n9 + 1))), (0, .ref a), (1, .int (nI cp))] := hl
          refine lv_aload_n hx hb d_Mo_deep_131 rfl (lv_at hl 3 rfl) ?_
          refine mo_getA C V X 43 (by decide) (by decide) f_Mo_112 rfl d_Mo_deep_132 ?_
          refine lv_iload hx hb d_Mo_deep_135 (lv_at hl 1 rfl) ?_
          refine lv_dup2_11 hx hb d_Mo_deep_137 rfl rfl ?_
          refine mo_ild (k := 43) (i := ((9 * cp) + (n9 + 1)) - 1) (n := 540) C V X (by decide) (by decide) rfl (by omega) (by decide) d_Mo_deep_138 ?_
          rw [show (va_up I 40 (upd (I 40) cp (nI (n9 + 1)))) 43 (((9 * cp) + (n9 + 1)) - 1) = nI (Ax n9) from ((congrFun (va_up_n (by decide)) (((9 * cp) + (n9 + 1)) - 1)).trans (g43))]
          refine lv_iconst (v := 1) hx hb d_Mo_deep_139 (by decide) ?_
          refine gn_iadd (a := Ax n9) (b := 1) hx hb d_Mo_deep_140 ?_
          refine mo_ist (k := 43) (i := ((9 * cp) + (n9 + 1)) - 1) (n := 540) C V X (by decide) (by decide) rfl (by omega) (by decide) d_Mo_deep_141 (fun f1 H locs V1 X1 => ?_)
          clear V X
          have V := V1
          have X := X1
          clear V1 X1
          refine lv_aload_n hx hb d_Mo_deep_142 rfl (lv_at hl 3 rfl) ?_
          refine mo_getA C V X 35 (by decide) (by decide) f_Mo_88 rfl d_Mo_deep_143 ?_
          refine lv_iload_n hx hb d_Mo_deep_146 rfl (lv_at hl 4 rfl) ?_
          refine lv_iconst (v := 1) hx hb d_Mo_deep_147 (by decide) ?_
          refine mo_ist (k := 35) (i := cp) (n := 60) C V X (by decide) (by decide) rfl (by omega) (by decide) d_Mo_deep_148 (fun f1 H locs V1 X1 => ?_)
          clear V X
          have V := V1
          have X := X1
          clear V1 X1
          refine lv_aload_n hx hb d_Mo_deep_149 rfl (lv_at hl 3 rfl) ?_
          refine lv_iload_n hx hb d_Mo_deep_150 rfl (lv_at hl 0 rfl) ?_
          have h1v := (mv_o.mp hb1.1).2.1
          have hv7 := hb1.lt
          have hmn : (decide ((va_up (va_up (va_up I 40 (upd (I 40) cp (nI (n9 + 1)))) 43 (upd ((va_up I 40 (upd (I 40) cp (nI (n9 + 1)))) 43) (((9 * cp) + (n9 + 1)) - 1) (nI ((Ax n9) + 1)))) 35 (upd ((va_up (va_up I 40 (upd (I 40) cp (nI (n9 + 1)))) 43 (upd ((va_up I 40 (upd (I 40) cp (nI (n9 + 1)))) 43) (((9 * cp) + (n9 + 1)) - 1) (nI ((Ax n9) + 1)))) 35) cp 1)) 1 (B (Ax n9)) = 5) || decide ((va_up (va_up (va_up I 40 (upd (I 40) cp (nI (n9 + 1)))) 43 (upd ((va_up I 40 (upd (I 40) cp (nI (n9 + 1)))) 43) (((9 * cp) + (n9 + 1)) - 1) (nI ((Ax n9) + 1)))) 35 (upd ((va_up (va_up I 40 (upd (I 40) cp (nI (n9 + 1)))) 43 (upd ((va_up I 40 (upd (I 40) cp (nI (n9 + 1)))) 43) (((9 * cp) + (n9 + 1)) - 1) (nI ((Ax n9) + 1)))) 35) cp 1)) 1 (B (Ax n9)) = 6)) = false := by rw [show (va_up (va_up (va_up I 40 (upd (I 40) cp (nI (n9 + 1)))) 43 (upd ((va_up I 40 (upd (I 40) cp (nI (n9 + 1)))) 43) (((9 * cp) + (n9 + 1)) - 1) (nI ((Ax n9) + 1)))) 35 (upd ((va_up (va_up I 40 (upd (I 40) cp (nI (n9 + 1)))) 43 (upd ((va_up I 40 (upd (I 40) cp (nI (n9 + 1)))) 43) (((9 * cp) + (n9 + 1)) - 1) (nI ((Ax n9) + 1)))) 35) cp 1)) 1 (B (Ax n9)) = I 1 (B (Ax n9)) from (by simp only [va_up_n (show (1 : Nat) ≠ 35 by decide), va_up_n (show (1 : Nat) ≠ 40 by decide), va_up_n (show (1 : Nat) ≠ 43 by decide)]), h1v]; exact mw_many hb1 (by rw [hm]; exact hhi)
          refine gh_callV C V hl.1 m_Mo_isMany l_Mo_169 (c_Mo_isMany l E _ _ a ad _ _ _ (B (Ax n9)) X.1 hv7) rfl X.1.1 gc_Mo ⟨by first | decide | omega | (dsimp only; omega), by first | decide | omega | (dsimp only; omega)⟩ ⟨by first | decide | omega | (dsimp only; omega), by first | decide | omega | (dsimp only; omega)⟩ (Nat.le_of_ble_eq_true rfl) rfl d_Mo_deep_151 (fun r z9 H locs hp V1 => ?_)
          rw [hmn] at hp
          obtain ⟨rfl, he9⟩ := hp
          rw [he9] at V1
          have V := V1
          refine W.eq (g2 := F0 m 154 ls [.int (gh_bi false)]) rfl ?_
          refine lv_if_eq (tgt := 201) hx hb d_Mo_deep_154 (by decide) (fun c8 => ?_) (fun c8 => absurd (by decide) c8)
          refine lv_aload_n hx hb d_Mo_deep_201 rfl (lv_at hl 3 rfl) ?_
          refine lv_iload_n hx hb d_Mo_deep_202 rfl (lv_at hl 0 rfl) ?_
          refine gh_callV C V hl.1 m_Mo_give l_Mo_342 (c_Mo_give l E _ _ a ad _ _ _ (nI (B (Ax n9))) w X.1 h45) rfl X.1.1 gc_Mo ⟨by first | decide | omega | (dsimp only; omega), by first | decide | omega | (dsimp only; omega)⟩ ⟨by first | decide | omega | (dsimp only; omega), by first | decide | omega | (dsimp only; omega)⟩ (Nat.le_of_ble_eq_true rfl) rfl d_Mo_deep_203 (fun r z9 H locs hp V1 => ?_)
          obtain ⟨rfl, X2⟩ := hp
          have X := X.then X2
          have V := V1
          refine W.eq (g2 := F0 m 206 ls []) rfl ?_
          refine gh_retv hAe C V hr hlocks d_Mo_deep_206 (by first | decide | omega | (dsimp only; omega)) (by first | decide | omega | (dsimp only; omega)) ?_
          subst hm
          exact ⟨rfl, _, _, X, Or.inr ⟨by omega, ((((mct.rf.cell 40 (nI (n9 + 1)) (by decide) (by decide)).wide 43 (((9 * cp) + (n9 + 1)) - 1) (nI ((Ax n9) + 1)) (by decide) (by decide) (by first | (simp; omega) | simp)).cell 35 1 (by decide) (by decide)).s (k := 48) (by omega)).give, _, ⟨by first | rfl | simp [va_up], by first | rfl | simp [va_up]⟩, hb1, oc_t2 rfl rfl⟩⟩
  exact loop n0 ls (Nat.le_refl _) hd hl
