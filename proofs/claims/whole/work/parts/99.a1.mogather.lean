/-! gather, put of the model, each way. Printed by wip/whole/gen_mo20.py. -/
theorem mct.wide {c w : Nat} {D : Nat → Prop} {C : Nat → Int32} {S S2 : Nat → Int32} {I I2 : mo_I} (h : mct c w D C S I S2 I2) (k j0 : Nat) (v : Int32) (h41 : 41 ≤ k) (h43 : k ≤ 43) (hj : j0 / (if k = 41 then 16 else 9) = c) : mct c w D C S I S2 (va_up I2 k (upd (I2 k) j0 v)) := by
  refine ⟨h.1, fun q h1 h2 h3 h4 h5 => (va_up_n (by omega)).trans (h.2.1 q h1 h2 h3 h4 h5), fun q h1 h2 j hj2 => ?_, fun j hj => (congrFun (va_up_n (by omega)) j).trans (h.2.2.2.1 j hj), fun q h1 h2 => ⟨fun j hj hD => (congrFun (va_up_n (by omega)) j).trans ((h.2.2.2.2 q h1 h2).1 j hj hD), by rw [va_up_n (by omega)]; exact (h.2.2.2.2 q h1 h2).2⟩⟩
  by_cases e : q = k
  · subst e
    rw [va_up_s]; simp only [upd]; rw [if_neg (fun z => hj2 (by rw [z]; exact hj))]; exact h.2.2.1 q h1 h2 j hj2
  · exact (congrFun (va_up_n e) j).trans (h.2.2.1 q h1 h2 j hj2)
theorem vt_wm_u {O X : vt} {L : List Int32} : vt_wm O L X = vt_mku 6 (vt_pu (vt_pua O (vt_c O) 0 ([], [])) L X).1 (vt_pu (vt_pua O (vt_c O) 0 ([], [])) L X).2 := by
  unfold vt_wm vt_mku
  rw [vt_pa_pua (Nat.zero_le _)]
  by_cases h : (vt_pua O (vt_c O) 0 ([], [])).2.length ≤ 16
  · rw [if_pos h]
    show (match vt_put (vt_pua O (vt_c O) 0 ([], [])) L X with | none => none | some t => vt_mk 6 t.1 t.2) = _
    rw [vt_put_pu h]
    split <;> rename_i h2
    · split at h2
      · exact absurd h2 (by simp)
      · rename_i h3; rw [if_neg h3]
    · split at h2
      · rename_i h3; rw [if_pos h3]; injection h2 with h2; rw [h2]
      · exact absurd h2 (by simp)
  · rw [if_neg h, if_neg (by have := (vt_pu_len (s := vt_pua O (vt_c O) 0 ([], [])) (L := L) (X := X)).1; omega)]
theorem d_Mo_gather_0 : decode b_Mo_gather 0 = .ok (.aload_n 0, 1) := by decide +kernel
theorem d_Mo_gather_1 : decode b_Mo_gather 1 = .ok (.getfield 277, 3) := by decide +kernel
theorem d_Mo_gather_4 : decode b_Mo_gather 4 = .ok (.ifCond .ne 72, 3) := by decide +kernel
theorem d_Mo_gather_7 : decode b_Mo_gather 7 = .ok (.aload_n 0, 1) := by decide +kernel
theorem d_Mo_gather_8 : decode b_Mo_gather 8 = .ok (.getfield 88, 3) := by decide +kernel
theorem d_Mo_gather_11 : decode b_Mo_gather 11 = .ok (.iload_n 1, 1) := by decide +kernel
theorem d_Mo_gather_12 : decode b_Mo_gather 12 = .ok (.iaload, 1) := by decide +kernel
theorem d_Mo_gather_13 : decode b_Mo_gather 13 = .ok (.iconst 1, 1) := by decide +kernel
theorem d_Mo_gather_14 : decode b_Mo_gather 14 = .ok (.if_icmp .ne 7, 3) := by decide +kernel
theorem d_Mo_gather_17 : decode b_Mo_gather 17 = .ok (.iconst 1, 1) := by decide +kernel
theorem d_Mo_gather_18 : decode b_Mo_gather 18 = .ok (.goto 4, 3) := by decide +kernel
theorem d_Mo_gather_21 : decode b_Mo_gather 21 = .ok (.iconst 0, 1) := by decide +kernel
theorem d_Mo_gather_22 : decode b_Mo_gather 22 = .ok (.istore_n 2, 1) := by decide +kernel
theorem d_Mo_gather_23 : decode b_Mo_gather 23 = .ok (.aload_n 0, 1) := by decide +kernel
theorem d_Mo_gather_24 : decode b_Mo_gather 24 = .ok (.getfield 88, 3) := by decide +kernel
theorem d_Mo_gather_27 : decode b_Mo_gather 27 = .ok (.iload_n 1, 1) := by decide +kernel
theorem d_Mo_gather_28 : decode b_Mo_gather 28 = .ok (.iconst 1, 1) := by decide +kernel
theorem d_Mo_gather_29 : decode b_Mo_gather 29 = .ok (.iastore, 1) := by decide +kernel
theorem d_Mo_gather_30 : decode b_Mo_gather 30 = .ok (.aload_n 0, 1) := by decide +kernel
theorem d_Mo_gather_31 : decode b_Mo_gather 31 = .ok (.getfield 103, 3) := by decide +kernel
theorem d_Mo_gather_34 : decode b_Mo_gather 34 = .ok (.iload_n 1, 1) := by decide +kernel
theorem d_Mo_gather_35 : decode b_Mo_gather 35 = .ok (.iconst 0, 1) := by decide +kernel
theorem d_Mo_gather_36 : decode b_Mo_gather 36 = .ok (.iastore, 1) := by decide +kernel
theorem d_Mo_gather_37 : decode b_Mo_gather 37 = .ok (.iload_n 2, 1) := by decide +kernel
theorem d_Mo_gather_38 : decode b_Mo_gather 38 = .ok (.ifCond .eq 11, 3) := by decide +kernel
theorem d_Mo_gather_41 : decode b_Mo_gather 41 = .ok (.aload_n 0, 1) := by decide +kernel
theorem d_Mo_gather_42 : decode b_Mo_gather 42 = .ok (.iconst 2, 1) := by decide +kernel
theorem d_Mo_gather_43 : decode b_Mo_gather 43 = .ok (.invokevirtual 289, 3) := by decide +kernel
theorem d_Mo_gather_46 : decode b_Mo_gather 46 = .ok (.goto 27, 3) := by decide +kernel
theorem d_Mo_gather_49 : decode b_Mo_gather 49 = .ok (.aload_n 0, 1) := by decide +kernel
theorem d_Mo_gather_50 : decode b_Mo_gather 50 = .ok (.aload_n 0, 1) := by decide +kernel
theorem d_Mo_gather_51 : decode b_Mo_gather 51 = .ok (.getfield 85, 3) := by decide +kernel
theorem d_Mo_gather_54 : decode b_Mo_gather 54 = .ok (.iconst 3, 1) := by decide +kernel
theorem d_Mo_gather_55 : decode b_Mo_gather 55 = .ok (.iload_n 1, 1) := by decide +kernel
theorem d_Mo_gather_56 : decode b_Mo_gather 56 = .ok (.imul, 1) := by decide +kernel
theorem d_Mo_gather_57 : decode b_Mo_gather 57 = .ok (.iaload, 1) := by decide +kernel
theorem d_Mo_gather_58 : decode b_Mo_gather 58 = .ok (.aload_n 0, 1) := by decide +kernel
theorem d_Mo_gather_59 : decode b_Mo_gather 59 = .ok (.getfield 91, 3) := by decide +kernel
theorem d_Mo_gather_62 : decode b_Mo_gather 62 = .ok (.iload_n 1, 1) := by decide +kernel
theorem d_Mo_gather_63 : decode b_Mo_gather 63 = .ok (.iaload, 1) := by decide +kernel
theorem d_Mo_gather_64 : decode b_Mo_gather 64 = .ok (.aload_n 0, 1) := by decide +kernel
theorem d_Mo_gather_65 : decode b_Mo_gather 65 = .ok (.getfield 94, 3) := by decide +kernel
theorem d_Mo_gather_68 : decode b_Mo_gather 68 = .ok (.iload_n 1, 1) := by decide +kernel
theorem d_Mo_gather_69 : decode b_Mo_gather 69 = .ok (.iaload, 1) := by decide +kernel
theorem d_Mo_gather_70 : decode b_Mo_gather 70 = .ok (.invokevirtual 299, 3) := by decide +kernel
theorem d_Mo_gather_73 : decode b_Mo_gather 73 = .ok (.goto 141, 3) := by decide +kernel
theorem d_Mo_gather_76 : decode b_Mo_gather 76 = .ok (.aload_n 0, 1) := by decide +kernel
theorem d_Mo_gather_77 : decode b_Mo_gather 77 = .ok (.getfield 277, 3) := by decide +kernel
theorem d_Mo_gather_80 : decode b_Mo_gather 80 = .ok (.iconst 1, 1) := by decide +kernel
theorem d_Mo_gather_81 : decode b_Mo_gather 81 = .ok (.if_icmp .ne 65, 3) := by decide +kernel
theorem d_Mo_gather_84 : decode b_Mo_gather 84 = .ok (.aload_n 0, 1) := by decide +kernel
theorem d_Mo_gather_85 : decode b_Mo_gather 85 = .ok (.getfield 103, 3) := by decide +kernel
theorem d_Mo_gather_88 : decode b_Mo_gather 88 = .ok (.iload_n 1, 1) := by decide +kernel
theorem d_Mo_gather_89 : decode b_Mo_gather 89 = .ok (.iaload, 1) := by decide +kernel
theorem d_Mo_gather_90 : decode b_Mo_gather 90 = .ok (.bipush 16, 2) := by decide +kernel
theorem d_Mo_gather_92 : decode b_Mo_gather 92 = .ok (.if_icmp .ne 9, 3) := by decide +kernel
theorem d_Mo_gather_95 : decode b_Mo_gather 95 = .ok (.aload_n 0, 1) := by decide +kernel
theorem d_Mo_gather_96 : decode b_Mo_gather 96 = .ok (.iconst 3, 1) := by decide +kernel
theorem d_Mo_gather_97 : decode b_Mo_gather 97 = .ok (.invokevirtual 289, 3) := by decide +kernel
theorem d_Mo_gather_100 : decode b_Mo_gather 100 = .ok (.return_, 1) := by decide +kernel
theorem d_Mo_gather_101 : decode b_Mo_gather 101 = .ok (.aload_n 0, 1) := by decide +kernel
theorem d_Mo_gather_102 : decode b_Mo_gather 102 = .ok (.getfield 106, 3) := by decide +kernel
theorem d_Mo_gather_105 : decode b_Mo_gather 105 = .ok (.bipush 16, 2) := by decide +kernel
theorem d_Mo_gather_107 : decode b_Mo_gather 107 = .ok (.iload_n 1, 1) := by decide +kernel
theorem d_Mo_gather_108 : decode b_Mo_gather 108 = .ok (.imul, 1) := by decide +kernel
theorem d_Mo_gather_109 : decode b_Mo_gather 109 = .ok (.aload_n 0, 1) := by decide +kernel
theorem d_Mo_gather_110 : decode b_Mo_gather 110 = .ok (.getfield 103, 3) := by decide +kernel
theorem d_Mo_gather_113 : decode b_Mo_gather 113 = .ok (.iload_n 1, 1) := by decide +kernel
theorem d_Mo_gather_114 : decode b_Mo_gather 114 = .ok (.iaload, 1) := by decide +kernel
theorem d_Mo_gather_115 : decode b_Mo_gather 115 = .ok (.iadd, 1) := by decide +kernel
theorem d_Mo_gather_116 : decode b_Mo_gather 116 = .ok (.aload_n 0, 1) := by decide +kernel
theorem d_Mo_gather_117 : decode b_Mo_gather 117 = .ok (.getfield 286, 3) := by decide +kernel
theorem d_Mo_gather_120 : decode b_Mo_gather 120 = .ok (.iastore, 1) := by decide +kernel
theorem d_Mo_gather_121 : decode b_Mo_gather 121 = .ok (.aload_n 0, 1) := by decide +kernel
theorem d_Mo_gather_122 : decode b_Mo_gather 122 = .ok (.getfield 103, 3) := by decide +kernel
theorem d_Mo_gather_125 : decode b_Mo_gather 125 = .ok (.iload_n 1, 1) := by decide +kernel
theorem d_Mo_gather_126 : decode b_Mo_gather 126 = .ok (.dup2, 1) := by decide +kernel
theorem d_Mo_gather_127 : decode b_Mo_gather 127 = .ok (.iaload, 1) := by decide +kernel
theorem d_Mo_gather_128 : decode b_Mo_gather 128 = .ok (.iconst 1, 1) := by decide +kernel
theorem d_Mo_gather_129 : decode b_Mo_gather 129 = .ok (.iadd, 1) := by decide +kernel
theorem d_Mo_gather_130 : decode b_Mo_gather 130 = .ok (.iastore, 1) := by decide +kernel
theorem d_Mo_gather_131 : decode b_Mo_gather 131 = .ok (.aload_n 0, 1) := by decide +kernel
theorem d_Mo_gather_132 : decode b_Mo_gather 132 = .ok (.aload_n 0, 1) := by decide +kernel
theorem d_Mo_gather_133 : decode b_Mo_gather 133 = .ok (.getfield 85, 3) := by decide +kernel
theorem d_Mo_gather_136 : decode b_Mo_gather 136 = .ok (.iconst 3, 1) := by decide +kernel
theorem d_Mo_gather_137 : decode b_Mo_gather 137 = .ok (.iload_n 1, 1) := by decide +kernel
theorem d_Mo_gather_138 : decode b_Mo_gather 138 = .ok (.imul, 1) := by decide +kernel
theorem d_Mo_gather_139 : decode b_Mo_gather 139 = .ok (.iaload, 1) := by decide +kernel
theorem d_Mo_gather_140 : decode b_Mo_gather 140 = .ok (.invokevirtual 283, 3) := by decide +kernel
theorem d_Mo_gather_143 : decode b_Mo_gather 143 = .ok (.goto 71, 3) := by decide +kernel
theorem d_Mo_gather_146 : decode b_Mo_gather 146 = .ok (.aload_n 0, 1) := by decide +kernel
theorem d_Mo_gather_147 : decode b_Mo_gather 147 = .ok (.getfield 277, 3) := by decide +kernel
theorem d_Mo_gather_150 : decode b_Mo_gather 150 = .ok (.iconst 3, 1) := by decide +kernel
theorem d_Mo_gather_151 : decode b_Mo_gather 151 = .ok (.if_icmp .ne 11, 3) := by decide +kernel
theorem d_Mo_gather_154 : decode b_Mo_gather 154 = .ok (.aload_n 0, 1) := by decide +kernel
theorem d_Mo_gather_155 : decode b_Mo_gather 155 = .ok (.iconst 3, 1) := by decide +kernel
theorem d_Mo_gather_156 : decode b_Mo_gather 156 = .ok (.invokevirtual 289, 3) := by decide +kernel
theorem d_Mo_gather_159 : decode b_Mo_gather 159 = .ok (.goto 55, 3) := by decide +kernel
theorem d_Mo_gather_162 : decode b_Mo_gather 162 = .ok (.aload_n 0, 1) := by decide +kernel
theorem d_Mo_gather_163 : decode b_Mo_gather 163 = .ok (.aload_n 0, 1) := by decide +kernel
theorem d_Mo_gather_164 : decode b_Mo_gather 164 = .ok (.getfield 103, 3) := by decide +kernel
theorem d_Mo_gather_167 : decode b_Mo_gather 167 = .ok (.iload_n 1, 1) := by decide +kernel
theorem d_Mo_gather_168 : decode b_Mo_gather 168 = .ok (.iaload, 1) := by decide +kernel
theorem d_Mo_gather_169 : decode b_Mo_gather 169 = .ok (.putfield 156, 3) := by decide +kernel
theorem d_Mo_gather_172 : decode b_Mo_gather 172 = .ok (.iconst 0, 1) := by decide +kernel
theorem d_Mo_gather_173 : decode b_Mo_gather 173 = .ok (.istore_n 2, 1) := by decide +kernel
theorem d_Mo_gather_174 : decode b_Mo_gather 174 = .ok (.iload_n 2, 1) := by decide +kernel
theorem d_Mo_gather_175 : decode b_Mo_gather 175 = .ok (.aload_n 0, 1) := by decide +kernel
theorem d_Mo_gather_176 : decode b_Mo_gather 176 = .ok (.getfield 156, 3) := by decide +kernel
theorem d_Mo_gather_179 : decode b_Mo_gather 179 = .ok (.if_icmp .ge 26, 3) := by decide +kernel
theorem d_Mo_gather_182 : decode b_Mo_gather 182 = .ok (.aload_n 0, 1) := by decide +kernel
theorem d_Mo_gather_183 : decode b_Mo_gather 183 = .ok (.getfield 44, 3) := by decide +kernel
theorem d_Mo_gather_186 : decode b_Mo_gather 186 = .ok (.iload_n 2, 1) := by decide +kernel
theorem d_Mo_gather_187 : decode b_Mo_gather 187 = .ok (.aload_n 0, 1) := by decide +kernel
theorem d_Mo_gather_188 : decode b_Mo_gather 188 = .ok (.getfield 106, 3) := by decide +kernel
theorem d_Mo_gather_191 : decode b_Mo_gather 191 = .ok (.bipush 16, 2) := by decide +kernel
theorem d_Mo_gather_193 : decode b_Mo_gather 193 = .ok (.iload_n 1, 1) := by decide +kernel
theorem d_Mo_gather_194 : decode b_Mo_gather 194 = .ok (.imul, 1) := by decide +kernel
theorem d_Mo_gather_195 : decode b_Mo_gather 195 = .ok (.iload_n 2, 1) := by decide +kernel
theorem d_Mo_gather_196 : decode b_Mo_gather 196 = .ok (.iadd, 1) := by decide +kernel
theorem d_Mo_gather_197 : decode b_Mo_gather 197 = .ok (.iaload, 1) := by decide +kernel
theorem d_Mo_gather_198 : decode b_Mo_gather 198 = .ok (.iastore, 1) := by decide +kernel
theorem d_Mo_gather_199 : decode b_Mo_gather 199 = .ok (.iinc 2 1, 3) := by decide +kernel
theorem d_Mo_gather_202 : decode b_Mo_gather 202 = .ok (.goto (-28), 3) := by decide +kernel
theorem d_Mo_gather_205 : decode b_Mo_gather 205 = .ok (.aload_n 0, 1) := by decide +kernel
theorem d_Mo_gather_206 : decode b_Mo_gather 206 = .ok (.aload_n 0, 1) := by decide +kernel
theorem d_Mo_gather_207 : decode b_Mo_gather 207 = .ok (.iconst 5, 1) := by decide +kernel
theorem d_Mo_gather_208 : decode b_Mo_gather 208 = .ok (.invokevirtual 230, 3) := by decide +kernel
theorem d_Mo_gather_211 : decode b_Mo_gather 211 = .ok (.invokevirtual 358, 3) := by decide +kernel
theorem d_Mo_gather_214 : decode b_Mo_gather 214 = .ok (.return_, 1) := by decide +kernel
set_option maxHeartbeats 4000000 in
set_option maxRecDepth 100000 in
theorem c_Mo_gather_00 (l : Launch) (E : gh_E) (sz : Nat) (f : gh_F) (a : Nat) (ad : Nat → Nat) (S : Nat → Int32) (I : Nat → Nat → Int32) (J : Nat → Nat → Int64) (w cp φ : Nat) (p0 : Nat) (hX : mo_R E f a ad S I J) (h45 : S 45 = nI (w + 1)) (hw : w < 14) (hc60 : cp < 60) (h48 : S 48 = nI φ) (hφ : φ < 1000) (h49 : ¬ 0 ≤ S 49) (hp0c : I 34 (3 * cp) = nI p0) (hq0 : cp < p0 ∧ p0 < 60) (hS46 : S 46 = 0) (hph : I 35 cp = 0) : gh_M l y_Mo_gather b_Mo_gather 3 none E sz [.ref a, .int (nI cp)] f { frames := 7, cells := 0, slots := 0, locals := 200 } (fun r g => r = none ∧ ∃ S2 I2, mo_X E f g a ad S2 I2 J ∧ mct cp w (fun j => j = p0) (va_up (va_up (fun k => I k cp) 35 1) 40 0) S I S2 I2 ∧ oc_e w p0 (I 36 cp) (I 37 cp) φ S S2 I2) := by
  refine gh_open (by decide) (Nat.le_of_ble_eq_true rfl) ?_
  intro p e s m args below meth c A ls hAe C V hr hlocks hname hl
  have hx := C.1
  have hb := C.2.1
  have hl : lv_has ls 3 [(0, .ref a), (1, .int (nI cp))] := hl
  have X : mo_X E f f a ad S I J := ⟨hX, gh_fr.rf⟩
  refine lv_aload_n hx hb d_Mo_gather_0 rfl (lv_at hl 0 rfl) ?_
  refine mo_getS (v := 0) C V X 46 (by decide) (by decide) (by first | rfl | exact hS46) f_Mo_277 rfl d_Mo_gather_1 ?_
  refine lv_if_ne (tgt := 76) hx hb d_Mo_gather_4 (by decide) (fun c1 => absurd (by decide) c1) (fun c1 => ?_)
  refine lv_aload_n hx hb d_Mo_gather_7 rfl (lv_at hl 0 rfl) ?_
  refine mo_getA C V X 35 (by decide) (by decide) f_Mo_88 rfl d_Mo_gather_8 ?_
  refine lv_iload_n hx hb d_Mo_gather_11 rfl (lv_at hl 1 rfl) ?_
  refine mo_ild (k := 35) (i := cp) (n := 60) C V X (by decide) (by decide) rfl (by omega) (by decide) d_Mo_gather_12 ?_
  rw [show I 35 cp = 0 from hph]
  refine lv_iconst (v := 1) hx hb d_Mo_gather_13 (by decide) ?_
  refine lv_icmp_ne (tgt := 21) hx hb d_Mo_gather_14 (by decide) (fun c2 => ?_) (fun c2 => absurd c2 (by decide))
  refine lv_iconst (v := 0) hx hb d_Mo_gather_21 (by decide) ?_
  refine lv_istore_n hx hb d_Mo_gather_22 rfl hl (by decide) rfl (fun ls hl => ?_)
  have hl : lv_has ls 3 [(2, .int 0), (0, .ref a), (1, .int (nI cp))] := hl
  refine lv_aload_n hx hb d_Mo_gather_23 rfl (lv_at hl 1 rfl) ?_
  refine mo_getA C V X 35 (by decide) (by decide) f_Mo_88 rfl d_Mo_gather_24 ?_
  refine lv_iload_n hx hb d_Mo_gather_27 rfl (lv_at hl 2 rfl) ?_
  refine lv_iconst (v := 1) hx hb d_Mo_gather_28 (by decide) ?_
  refine mo_ist (k := 35) (i := cp) (n := 60) C V X (by decide) (by decide) rfl (by omega) (by decide) d_Mo_gather_29 (fun f1 H locs V1 X1 => ?_)
  clear V X
  have V := V1
  have X := X1
  clear V1 X1
  refine lv_aload_n hx hb d_Mo_gather_30 rfl (lv_at hl 1 rfl) ?_
  refine mo_getA C V X 40 (by decide) (by decide) f_Mo_103 rfl d_Mo_gather_31 ?_
  refine lv_iload_n hx hb d_Mo_gather_34 rfl (lv_at hl 2 rfl) ?_
  refine lv_iconst (v := 0) hx hb d_Mo_gather_35 (by decide) ?_
  refine mo_ist (k := 40) (i := cp) (n := 60) C V X (by decide) (by decide) rfl (by omega) (by decide) d_Mo_gather_36 (fun f1 H locs V1 X1 => ?_)
  clear V X
  have V := V1
  have X := X1
  clear V1 X1
  refine lv_iload_n hx hb d_Mo_gather_37 rfl (lv_at hl 0 rfl) ?_
  refine lv_if_eq (tgt := 49) hx hb d_Mo_gather_38 (by decide) (fun c3 => ?_) (fun c3 => absurd (by decide) c3)
  refine lv_aload_n hx hb d_Mo_gather_49 rfl (lv_at hl 1 rfl) ?_
  refine lv_aload_n hx hb d_Mo_gather_50 rfl (lv_at hl 1 rfl) ?_
  refine mo_getA C V X 34 (by decide) (by decide) f_Mo_85 rfl d_Mo_gather_51 ?_
  refine lv_iconst (v := 3) hx hb d_Mo_gather_54 (by decide) ?_
  refine lv_iload_n hx hb d_Mo_gather_55 rfl (lv_at hl 2 rfl) ?_
  refine gn_imul (a := 3) (b := cp) hx hb d_Mo_gather_56 ?_
  refine mo_ild (k := 34) (i := 3 * cp) (n := 180) C V X (by decide) (by decide) rfl (by omega) (by decide) d_Mo_gather_57 ?_
  rw [show (va_up (va_up I 35 (upd (I 35) cp 1)) 40 (upd ((va_up I 35 (upd (I 35) cp 1)) 40) cp 0)) 34 (3 * cp) = nI p0 from ((congrFun (va_up_n (by decide)) (3 * cp)).trans (((congrFun (va_up_n (by decide)) (3 * cp)).trans (hp0c))))]
  refine lv_aload_n hx hb d_Mo_gather_58 rfl (lv_at hl 1 rfl) ?_
  refine mo_getA C V X 36 (by decide) (by decide) f_Mo_91 rfl d_Mo_gather_59 ?_
  refine lv_iload_n hx hb d_Mo_gather_62 rfl (lv_at hl 2 rfl) ?_
  refine mo_ild (k := 36) (i := cp) (n := 60) C V X (by decide) (by decide) rfl (by omega) (by decide) d_Mo_gather_63 ?_
  rw [show (va_up (va_up I 35 (upd (I 35) cp 1)) 40 (upd ((va_up I 35 (upd (I 35) cp 1)) 40) cp 0)) 36 cp = I 36 cp from ((congrFun (va_up_n (by decide)) cp).trans (((congrFun (va_up_n (by decide)) cp).trans (rfl))))]
  refine lv_aload_n hx hb d_Mo_gather_64 rfl (lv_at hl 1 rfl) ?_
  refine mo_getA C V X 37 (by decide) (by decide) f_Mo_94 rfl d_Mo_gather_65 ?_
  refine lv_iload_n hx hb d_Mo_gather_68 rfl (lv_at hl 2 rfl) ?_
  refine mo_ild (k := 37) (i := cp) (n := 60) C V X (by decide) (by decide) rfl (by omega) (by decide) d_Mo_gather_69 ?_
  rw [show (va_up (va_up I 35 (upd (I 35) cp 1)) 40 (upd ((va_up I 35 (upd (I 35) cp 1)) 40) cp 0)) 37 cp = I 37 cp from ((congrFun (va_up_n (by decide)) cp).trans (((congrFun (va_up_n (by decide)) cp).trans (rfl))))]
  refine gh_callV C V hl.1 m_Mo_enter l_Mo_299 (c_Mo_enter l E _ _ a ad _ _ _ p0 (I 36 cp) (I 37 cp) φ (w + 1) X.1 (by omega) h48 hφ h49 h45 (by omega)) rfl X.1.1 gc_Mo ⟨by first | decide | omega | (dsimp only; omega), by first | decide | omega | (dsimp only; omega)⟩ ⟨by first | decide | omega | (dsimp only; omega), by first | decide | omega | (dsimp only; omega)⟩ (Nat.le_of_ble_eq_true rfl) rfl d_Mo_gather_70 (fun r z9 H locs hp V1 => ?_)
  obtain ⟨rfl, hp0, hp1⟩ := hp
  have V := V1
  by_cases hz : φ = 0
  · have X := X.then (hp0 hz)
    refine W.eq (g2 := F0 m 73 ls []) rfl ?_
    refine lv_goto (tgt := 214) hx hb d_Mo_gather_73 (by decide) ?_
    refine gh_retv hAe C V hr hlocks d_Mo_gather_214 (by first | decide | omega | (dsimp only; omega)) (by first | decide | omega | (dsimp only; omega)) ?_
    exact ⟨rfl, _, _, X, (((mct.rf.cell 35 1 (by decide) (by decide)).cell 40 0 (by decide) (by decide)).s (k := 49) (by omega)).mono (fun _ z => z.elim), oc_e0 hz rfl⟩
  · have X := X.then (hp1 (by omega))
    refine W.eq (g2 := F0 m 73 ls []) rfl ?_
    refine lv_goto (tgt := 214) hx hb d_Mo_gather_73 (by decide) ?_
    refine gh_retv hAe C V hr hlocks d_Mo_gather_214 (by first | decide | omega | (dsimp only; omega)) (by first | decide | omega | (dsimp only; omega)) ?_
    exact ⟨rfl, _, _, X, ((mct.rf.cell 35 1 (by decide) (by decide)).cell 40 0 (by decide) (by decide)).enter (by omega), oc_e1 (by omega) rfl⟩
set_option maxHeartbeats 4000000 in
set_option maxRecDepth 100000 in
theorem c_Mo_gather_01 (l : Launch) (E : gh_E) (sz : Nat) (f : gh_F) (a : Nat) (ad : Nat → Nat) (S : Nat → Int32) (I : Nat → Nat → Int32) (J : Nat → Nat → Int64) (w cp φ : Nat) (p0 : Nat) (hX : mo_R E f a ad S I J) (h45 : S 45 = nI (w + 1)) (hw : w < 14) (hc60 : cp < 60) (hp0c : I 34 (3 * cp) = nI p0) (hq0 : cp < p0 ∧ p0 < 60) (hS46 : S 46 = 0) (hph : I 35 cp = 1) : gh_M l y_Mo_gather b_Mo_gather 3 none E sz [.ref a, .int (nI cp)] f { frames := 7, cells := 0, slots := 0, locals := 200 } (fun r g => r = none ∧ ∃ S2 I2, mo_X E f g a ad S2 I2 J ∧ mct cp w (fun _ => False) (va_up (va_up (fun k => I k cp) 35 1) 40 0) S I S2 I2 ∧ oc_t w 2 (S 47) S S2) := by
  refine gh_open (by decide) (Nat.le_of_ble_eq_true rfl) ?_
  intro p e s m args below meth c A ls hAe C V hr hlocks hname hl
  have hx := C.1
  have hb := C.2.1
  have hl : lv_has ls 3 [(0, .ref a), (1, .int (nI cp))] := hl
  have X : mo_X E f f a ad S I J := ⟨hX, gh_fr.rf⟩
  refine lv_aload_n hx hb d_Mo_gather_0 rfl (lv_at hl 0 rfl) ?_
  refine mo_getS (v := 0) C V X 46 (by decide) (by decide) (by first | rfl | exact hS46) f_Mo_277 rfl d_Mo_gather_1 ?_
  refine lv_if_ne (tgt := 76) hx hb d_Mo_gather_4 (by decide) (fun c1 => absurd (by decide) c1) (fun c1 => ?_)
  refine lv_aload_n hx hb d_Mo_gather_7 rfl (lv_at hl 0 rfl) ?_
  refine mo_getA C V X 35 (by decide) (by decide) f_Mo_88 rfl d_Mo_gather_8 ?_
  refine lv_iload_n hx hb d_Mo_gather_11 rfl (lv_at hl 1 rfl) ?_
  refine mo_ild (k := 35) (i := cp) (n := 60) C V X (by decide) (by decide) rfl (by omega) (by decide) d_Mo_gather_12 ?_
  rw [show I 35 cp = 1 from hph]
  refine lv_iconst (v := 1) hx hb d_Mo_gather_13 (by decide) ?_
  refine lv_icmp_ne (tgt := 21) hx hb d_Mo_gather_14 (by decide) (fun c2 => absurd (by decide) c2) (fun c2 => ?_)
  refine lv_iconst (v := 1) hx hb d_Mo_gather_17 (by decide) ?_
  refine lv_goto (tgt := 22) hx hb d_Mo_gather_18 (by decide) ?_
  refine lv_istore_n hx hb d_Mo_gather_22 rfl hl (by decide) rfl (fun ls hl => ?_)
  have hl : lv_has ls 3 [(2, .int 1), (0, .ref a), (1, .int (nI cp))] := hl
  refine lv_aload_n hx hb d_Mo_gather_23 rfl (lv_at hl 1 rfl) ?_
  refine mo_getA C V X 35 (by decide) (by decide) f_Mo_88 rfl d_Mo_gather_24 ?_
  refine lv_iload_n hx hb d_Mo_gather_27 rfl (lv_at hl 2 rfl) ?_
  refine lv_iconst (v := 1) hx hb d_Mo_gather_28 (by decide) ?_
  refine mo_ist (k := 35) (i := cp) (n := 60) C V X (by decide) (by decide) rfl (by omega) (by decide) d_Mo_gather_29 (fun f1 H locs V1 X1 => ?_)
  clear V X
  have V := V1
  have X := X1
  clear V1 X1
  refine lv_aload_n hx hb d_Mo_gather_30 rfl (lv_at hl 1 rfl) ?_
  refine mo_getA C V X 40 (by decide) (by decide) f_Mo_103 rfl d_Mo_gather_31 ?_
  refine lv_iload_n hx hb d_Mo_gather_34 rfl (lv_at hl 2 rfl) ?_
  refine lv_iconst (v := 0) hx hb d_Mo_gather_35 (by decide) ?_
  refine mo_ist (k := 40) (i := cp) (n := 60) C V X (by decide) (by decide) rfl (by omega) (by decide) d_Mo_gather_36 (fun f1 H locs V1 X1 => ?_)
  clear V X
  have V := V1
  have X := X1
  clear V1 X1
  refine lv_iload_n hx hb d_Mo_gather_37 rfl (lv_at hl 0 rfl) ?_
  refine lv_if_eq (tgt := 49) hx hb d_Mo_gather_38 (by decide) (fun c3 => absurd c3 (by decide)) (fun c3 => ?_)
  refine lv_aload_n hx hb d_Mo_gather_41 rfl (lv_at hl 1 rfl) ?_
  refine lv_iconst (v := 2) hx hb d_Mo_gather_42 (by decide) ?_
  refine gh_callV C V hl.1 m_Mo_tell l_Mo_289 (c_Mo_tell l E _ _ a ad _ _ _ 2 w X.1 h45) rfl X.1.1 gc_Mo ⟨by first | decide | omega | (dsimp only; omega), by first | decide | omega | (dsimp only; omega)⟩ ⟨by first | decide | omega | (dsimp only; omega), by first | decide | omega | (dsimp only; omega)⟩ (Nat.le_of_ble_eq_true rfl) rfl d_Mo_gather_43 (fun r z9 H locs hp V1 => ?_)
  obtain ⟨rfl, X2⟩ := hp
  have X := X.then X2
  have V := V1
  refine W.eq (g2 := F0 m 46 ls []) rfl ?_
  refine lv_goto (tgt := 73) hx hb d_Mo_gather_46 (by decide) ?_
  refine lv_goto (tgt := 214) hx hb d_Mo_gather_73 (by decide) ?_
  refine gh_retv hAe C V hr hlocks d_Mo_gather_214 (by first | decide | omega | (dsimp only; omega)) (by first | decide | omega | (dsimp only; omega)) ?_
  exact ⟨rfl, _, _, X, ((mct.rf.cell 35 1 (by decide) (by decide)).cell 40 0 (by decide) (by decide)).tell, oc_t1 rfl rfl rfl⟩
set_option maxHeartbeats 4000000 in
set_option maxRecDepth 100000 in
theorem c_Mo_gather_1f (l : Launch) (E : gh_E) (sz : Nat) (f : gh_F) (a : Nat) (ad : Nat → Nat) (S : Nat → Int32) (I : Nat → Nat → Int32) (J : Nat → Nat → Int64) (w cp φ : Nat) (p0 : Nat) (hX : mo_R E f a ad S I J) (h45 : S 45 = nI (w + 1)) (hw : w < 14) (hc60 : cp < 60) (hp0c : I 34 (3 * cp) = nI p0) (hq0 : cp < p0 ∧ p0 < 60) (hS46 : S 46 = 1) (hix : I 40 cp = 16) : gh_M l y_Mo_gather b_Mo_gather 3 none E sz [.ref a, .int (nI cp)] f { frames := 7, cells := 0, slots := 0, locals := 200 } (fun r g => r = none ∧ ∃ S2 I2, mo_X E f g a ad S2 I2 J ∧ mct cp w (fun _ => False) (fun k => I k cp) S I S2 I2 ∧ oc_t w 3 (S 47) S S2) := by
  refine gh_open (by decide) (Nat.le_of_ble_eq_true rfl) ?_
  intro p e s m args below meth c A ls hAe C V hr hlocks hname hl
  have hx := C.1
  have hb := C.2.1
  have hl : lv_has ls 3 [(0, .ref a), (1, .int (nI cp))] := hl
  have X : mo_X E f f a ad S I J := ⟨hX, gh_fr.rf⟩
  refine lv_aload_n hx hb d_Mo_gather_0 rfl (lv_at hl 0 rfl) ?_
  refine mo_getS (v := 1) C V X 46 (by decide) (by decide) (by first | rfl | exact hS46) f_Mo_277 rfl d_Mo_gather_1 ?_
  refine lv_if_ne (tgt := 76) hx hb d_Mo_gather_4 (by decide) (fun c1 => ?_) (fun c1 => absurd c1 (by decide))
  refine lv_aload_n hx hb d_Mo_gather_76 rfl (lv_at hl 0 rfl) ?_
  refine mo_getS (v := 1) C V X 46 (by decide) (by decide) (by first | rfl | exact hS46) f_Mo_277 rfl d_Mo_gather_77 ?_
  refine lv_iconst (v := 1) hx hb d_Mo_gather_80 (by decide) ?_
  refine lv_icmp_ne (tgt := 146) hx hb d_Mo_gather_81 (by decide) (fun c2 => absurd (by decide) c2) (fun c2 => ?_)
  refine lv_aload_n hx hb d_Mo_gather_84 rfl (lv_at hl 0 rfl) ?_
  refine mo_getA C V X 40 (by decide) (by decide) f_Mo_103 rfl d_Mo_gather_85 ?_
  refine lv_iload_n hx hb d_Mo_gather_88 rfl (lv_at hl 1 rfl) ?_
  refine mo_ild (k := 40) (i := cp) (n := 60) C V X (by decide) (by decide) rfl (by omega) (by decide) d_Mo_gather_89 ?_
  rw [show I 40 cp = 16 from hix]
  refine lv_bipush (v := 16) hx hb d_Mo_gather_90 (by decide) ?_
  refine lv_icmp_ne (tgt := 101) hx hb d_Mo_gather_92 (by decide) (fun c3 => absurd (by decide) c3) (fun c3 => ?_)
  refine lv_aload_n hx hb d_Mo_gather_95 rfl (lv_at hl 0 rfl) ?_
  refine lv_iconst (v := 3) hx hb d_Mo_gather_96 (by decide) ?_
  refine gh_callV C V hl.1 m_Mo_tell l_Mo_289 (c_Mo_tell l E _ _ a ad _ _ _ 3 w X.1 h45) rfl X.1.1 gc_Mo ⟨by first | decide | omega | (dsimp only; omega), by first | decide | omega | (dsimp only; omega)⟩ ⟨by first | decide | omega | (dsimp only; omega), by first | decide | omega | (dsimp only; omega)⟩ (Nat.le_of_ble_eq_true rfl) rfl d_Mo_gather_97 (fun r z9 H locs hp V1 => ?_)
  obtain ⟨rfl, X2⟩ := hp
  have X := X.then X2
  have V := V1
  refine W.eq (g2 := F0 m 100 ls []) rfl ?_
  refine gh_retv hAe C V hr hlocks d_Mo_gather_100 (by first | decide | omega | (dsimp only; omega)) (by first | decide | omega | (dsimp only; omega)) ?_
  exact ⟨rfl, _, _, X, mct.rf.tell, oc_t1 rfl rfl rfl⟩
set_option maxHeartbeats 4000000 in
set_option maxRecDepth 100000 in
theorem c_Mo_gather_1 (l : Launch) (E : gh_E) (sz : Nat) (f : gh_F) (a : Nat) (ad : Nat → Nat) (S : Nat → Int32) (I : Nat → Nat → Int32) (J : Nat → Nat → Int64) (w cp φ : Nat) (p0 : Nat) (i9 : Nat) (u : Nat) (hX : mo_R E f a ad S I J) (h45 : S 45 = nI (w + 1)) (hw : w < 14) (hc60 : cp < 60) (hp0c : I 34 (3 * cp) = nI p0) (hq0 : cp < p0 ∧ p0 < 60) (hS46 : S 46 = 1) (hS47 : S 47 = nI u) (hix : I 40 cp = nI i9) (hi16 : i9 < 16) : gh_M l y_Mo_gather b_Mo_gather 3 none E sz [.ref a, .int (nI cp)] f { frames := 7, cells := 0, slots := 0, locals := 200 } (fun r g => r = none ∧ ∃ S2 I2, mo_X E f g a ad S2 I2 J ∧ mct cp w (fun _ => False) (va_up (fun k => I k cp) 40 (nI (i9 + 1))) S I S2 I2 ∧ I2 41 = upd (I 41) (16 * cp + i9) (nI u) ∧ oc_a w p0 S S2 I2) := by
  refine gh_open (by decide) (Nat.le_of_ble_eq_true rfl) ?_
  intro p e s m args below meth c A ls hAe C V hr hlocks hname hl
  have hx := C.1
  have hb := C.2.1
  have hl : lv_has ls 3 [(0, .ref a), (1, .int (nI cp))] := hl
  have X : mo_X E f f a ad S I J := ⟨hX, gh_fr.rf⟩
  refine lv_aload_n hx hb d_Mo_gather_0 rfl (lv_at hl 0 rfl) ?_
  refine mo_getS (v := 1) C V X 46 (by decide) (by decide) (by first | rfl | exact hS46) f_Mo_277 rfl d_Mo_gather_1 ?_
  refine lv_if_ne (tgt := 76) hx hb d_Mo_gather_4 (by decide) (fun c1 => ?_) (fun c1 => absurd c1 (by decide))
  refine lv_aload_n hx hb d_Mo_gather_76 rfl (lv_at hl 0 rfl) ?_
  refine mo_getS (v := 1) C V X 46 (by decide) (by decide) (by first | rfl | exact hS46) f_Mo_277 rfl d_Mo_gather_77 ?_
  refine lv_iconst (v := 1) hx hb d_Mo_gather_80 (by decide) ?_
  refine lv_icmp_ne (tgt := 146) hx hb d_Mo_gather_81 (by decide) (fun c2 => absurd (by decide) c2) (fun c2 => ?_)
  refine lv_aload_n hx hb d_Mo_gather_84 rfl (lv_at hl 0 rfl) ?_
  refine mo_getA C V X 40 (by decide) (by decide) f_Mo_103 rfl d_Mo_gather_85 ?_
  refine lv_iload_n hx hb d_Mo_gather_88 rfl (lv_at hl 1 rfl) ?_
  refine mo_ild (k := 40) (i := cp) (n := 60) C V X (by decide) (by decide) rfl (by omega) (by decide) d_Mo_gather_89 ?_
  rw [show I 40 cp = nI i9 from hix]
  refine lv_bipush (v := 16) hx hb d_Mo_gather_90 (by decide) ?_
  refine lv_icmp_ne (tgt := 101) hx hb d_Mo_gather_92 (by decide) (fun c3 => ?_) (fun c3 => absurd c3 (nI_nem (y := 16) (by omega) (by decide) (by omega)))
  refine lv_aload_n hx hb d_Mo_gather_101 rfl (lv_at hl 0 rfl) ?_
  refine mo_getA C V X 41 (by decide) (by decide) f_Mo_106 rfl d_Mo_gather_102 ?_
  refine lv_bipush (v := 16) hx hb d_Mo_gather_105 (by decide) ?_
  refine lv_iload_n hx hb d_Mo_gather_107 rfl (lv_at hl 1 rfl) ?_
  refine gn_imul (a := 16) (b := cp) hx hb d_Mo_gather_108 ?_
  refine lv_aload_n hx hb d_Mo_gather_109 rfl (lv_at hl 0 rfl) ?_
  refine mo_getA C V X 40 (by decide) (by decide) f_Mo_103 rfl d_Mo_gather_110 ?_
  refine lv_iload_n hx hb d_Mo_gather_113 rfl (lv_at hl 1 rfl) ?_
  refine mo_ild (k := 40) (i := cp) (n := 60) C V X (by decide) (by decide) rfl (by omega) (by decide) d_Mo_gather_114 ?_
  rw [show I 40 cp = nI i9 from hix]
  refine gn_iadd (a := 16 * cp) (b := i9) hx hb d_Mo_gather_115 ?_
  refine lv_aload_n hx hb d_Mo_gather_116 rfl (lv_at hl 0 rfl) ?_
  refine mo_getS (v := nI u) C V X 47 (by decide) (by decide) (by first | rfl | exact hS47) f_Mo_286 rfl d_Mo_gather_117 ?_
  refine mo_ist (k := 41) (i := (16 * cp) + i9) (n := 960) C V X (by decide) (by decide) rfl (by omega) (by decide) d_Mo_gather_120 (fun f1 H locs V1 X1 => ?_)
  clear V X
  have V := V1
  have X := X1
  clear V1 X1
  refine lv_aload_n hx hb d_Mo_gather_121 rfl (lv_at hl 0 rfl) ?_
  refine mo_getA C V X 40 (by decide) (by decide) f_Mo_103 rfl d_Mo_gather_122 ?_
  refine lv_iload_n hx hb d_Mo_gather_125 rfl (lv_at hl 1 rfl) ?_
  refine lv_dup2_11 hx hb d_Mo_gather_126 rfl rfl ?_
  refine mo_ild (k := 40) (i := cp) (n := 60) C V X (by decide) (by decide) rfl (by omega) (by decide) d_Mo_gather_127 ?_
  rw [show (va_up I 41 (upd (I 41) ((16 * cp) + i9) (nI u))) 40 cp = nI i9 from ((congrFun (va_up_n (by decide)) cp).trans (hix))]
  refine lv_iconst (v := 1) hx hb d_Mo_gather_128 (by decide) ?_
  refine gn_iadd (a := i9) (b := 1) hx hb d_Mo_gather_129 ?_
  refine mo_ist (k := 40) (i := cp) (n := 60) C V X (by decide) (by decide) rfl (by omega) (by decide) d_Mo_gather_130 (fun f1 H locs V1 X1 => ?_)
  clear V X
  have V := V1
  have X := X1
  clear V1 X1
  refine lv_aload_n hx hb d_Mo_gather_131 rfl (lv_at hl 0 rfl) ?_
  refine lv_aload_n hx hb d_Mo_gather_132 rfl (lv_at hl 0 rfl) ?_
  refine mo_getA C V X 34 (by decide) (by decide) f_Mo_85 rfl d_Mo_gather_133 ?_
  refine lv_iconst (v := 3) hx hb d_Mo_gather_136 (by decide) ?_
  refine lv_iload_n hx hb d_Mo_gather_137 rfl (lv_at hl 1 rfl) ?_
  refine gn_imul (a := 3) (b := cp) hx hb d_Mo_gather_138 ?_
  refine mo_ild (k := 34) (i := 3 * cp) (n := 180) C V X (by decide) (by decide) rfl (by omega) (by decide) d_Mo_gather_139 ?_
  rw [show (va_up (va_up I 41 (upd (I 41) ((16 * cp) + i9) (nI u))) 40 (upd ((va_up I 41 (upd (I 41) ((16 * cp) + i9) (nI u))) 40) cp (nI (i9 + 1)))) 34 (3 * cp) = nI p0 from ((congrFun (va_up_n (by decide)) (3 * cp)).trans (((congrFun (va_up_n (by decide)) (3 * cp)).trans (hp0c))))]
  refine gh_callV C V hl.1 m_Mo_ask l_Mo_283 (c_Mo_ask l E _ _ a ad _ _ _ (nI p0) (w + 1) X.1 h45 (by omega)) rfl X.1.1 gc_Mo ⟨by first | decide | omega | (dsimp only; omega), by first | decide | omega | (dsimp only; omega)⟩ ⟨by first | decide | omega | (dsimp only; omega), by first | decide | omega | (dsimp only; omega)⟩ (Nat.le_of_ble_eq_true rfl) rfl d_Mo_gather_140 (fun r z9 H locs hp V1 => ?_)
  obtain ⟨rfl, X2⟩ := hp
  have X := X.then X2
  have V := V1
  refine W.eq (g2 := F0 m 143 ls []) rfl ?_
  refine lv_goto (tgt := 214) hx hb d_Mo_gather_143 (by decide) ?_
  refine gh_retv hAe C V hr hlocks d_Mo_gather_214 (by first | decide | omega | (dsimp only; omega)) (by first | decide | omega | (dsimp only; omega)) ?_
  exact ⟨rfl, _, _, X, ((mct.rf.wide 41 ((16 * cp) + i9) (nI u) (by decide) (by decide) (by simp; omega)).cell 40 (nI (i9 + 1)) (by decide) (by decide)).ask, by rw [va_up_n (by decide), va_up_n (by decide), va_up_s], oc_a1 rfl rfl⟩
set_option maxHeartbeats 4000000 in
set_option maxRecDepth 100000 in
theorem c_Mo_gather_3 (l : Launch) (E : gh_E) (sz : Nat) (f : gh_F) (a : Nat) (ad : Nat → Nat) (S : Nat → Int32) (I : Nat → Nat → Int32) (J : Nat → Nat → Int64) (w cp φ : Nat) (p0 : Nat) (hX : mo_R E f a ad S I J) (h45 : S 45 = nI (w + 1)) (hw : w < 14) (hc60 : cp < 60) (hp0c : I 34 (3 * cp) = nI p0) (hq0 : cp < p0 ∧ p0 < 60) (hS46 : S 46 = 3) : gh_M l y_Mo_gather b_Mo_gather 3 none E sz [.ref a, .int (nI cp)] f { frames := 7, cells := 0, slots := 0, locals := 200 } (fun r g => r = none ∧ ∃ S2 I2, mo_X E f g a ad S2 I2 J ∧ mct cp w (fun _ => False) (fun k => I k cp) S I S2 I2 ∧ oc_t w 3 (S 47) S S2) := by
  refine gh_open (by decide) (Nat.le_of_ble_eq_true rfl) ?_
  intro p e s m args below meth c A ls hAe C V hr hlocks hname hl
  have hx := C.1
  have hb := C.2.1
  have hl : lv_has ls 3 [(0, .ref a), (1, .int (nI cp))] := hl
  have X : mo_X E f f a ad S I J := ⟨hX, gh_fr.rf⟩
  refine lv_aload_n hx hb d_Mo_gather_0 rfl (lv_at hl 0 rfl) ?_
  refine mo_getS (v := 3) C V X 46 (by decide) (by decide) (by first | rfl | exact hS46) f_Mo_277 rfl d_Mo_gather_1 ?_
  refine lv_if_ne (tgt := 76) hx hb d_Mo_gather_4 (by decide) (fun c1 => ?_) (fun c1 => absurd c1 (by decide))
  refine lv_aload_n hx hb d_Mo_gather_76 rfl (lv_at hl 0 rfl) ?_
  refine mo_getS (v := 3) C V X 46 (by decide) (by decide) (by first | rfl | exact hS46) f_Mo_277 rfl d_Mo_gather_77 ?_
  refine lv_iconst (v := 1) hx hb d_Mo_gather_80 (by decide) ?_
  refine lv_icmp_ne (tgt := 146) hx hb d_Mo_gather_81 (by decide) (fun c2 => ?_) (fun c2 => absurd c2 (by decide))
  refine lv_aload_n hx hb d_Mo_gather_146 rfl (lv_at hl 0 rfl) ?_
  refine mo_getS (v := 3) C V X 46 (by decide) (by decide) (by first | rfl | exact hS46) f_Mo_277 rfl d_Mo_gather_147 ?_
  refine lv_iconst (v := 3) hx hb d_Mo_gather_150 (by decide) ?_
  refine lv_icmp_ne (tgt := 162) hx hb d_Mo_gather_151 (by decide) (fun c3 => absurd (by decide) c3) (fun c3 => ?_)
  refine lv_aload_n hx hb d_Mo_gather_154 rfl (lv_at hl 0 rfl) ?_
  refine lv_iconst (v := 3) hx hb d_Mo_gather_155 (by decide) ?_
  refine gh_callV C V hl.1 m_Mo_tell l_Mo_289 (c_Mo_tell l E _ _ a ad _ _ _ 3 w X.1 h45) rfl X.1.1 gc_Mo ⟨by first | decide | omega | (dsimp only; omega), by first | decide | omega | (dsimp only; omega)⟩ ⟨by first | decide | omega | (dsimp only; omega), by first | decide | omega | (dsimp only; omega)⟩ (Nat.le_of_ble_eq_true rfl) rfl d_Mo_gather_156 (fun r z9 H locs hp V1 => ?_)
  obtain ⟨rfl, X2⟩ := hp
  have X := X.then X2
  have V := V1
  refine W.eq (g2 := F0 m 159 ls []) rfl ?_
  refine lv_goto (tgt := 214) hx hb d_Mo_gather_159 (by decide) ?_
  refine gh_retv hAe C V hr hlocks d_Mo_gather_214 (by first | decide | omega | (dsimp only; omega)) (by first | decide | omega | (dsimp only; omega)) ?_
  exact ⟨rfl, _, _, X, mct.rf.tell, oc_t1 rfl rfl rfl⟩
set_option maxHeartbeats 4000000 in
set_option maxRecDepth 100000 in
theorem c_Mo_gather_2 (l : Launch) (E : gh_E) (sz : Nat) (f : gh_F) (a : Nat) (ad : Nat → Nat) (S : Nat → Int32) (I : Nat → Nat → Int32) (J : Nat → Nat → Int64) (w cp φ : Nat) (b0 nv pb np : Nat) (xs : List vt) (B : Nat → Nat) (hX : mo_R E f a ad S I J) (h45 : S 45 = nI (w + 1)) (hw : w < 14) (hc60 : cp < 60) (hS46 : S 46 = 2) (h11 : S 11 = nI nv) (h12 : S 12 = nI np) (hp8 : np + 32 ≤ 8800) (hnv : nv < 760) (h29 : 29 ≤ nv) (hb0 : b0 ≤ nv) (hpb : pb ≤ np) (hc : mc I J b0 nv pb np) (hix : I 40 cp = nI xs.length) (hx16 : xs.length ≤ 16) (hB : ∀ j, j < xs.length → I 41 (16 * cp + j) = nI (B j) ∧ mw I J b0 nv pb np (B j) (xs.getD j (vt_0 0))) : gh_M l y_Mo_gather b_Mo_gather 3 none E sz [.ref a, .int (nI cp)] f { frames := 8, cells := 0, slots := 0, locals := 260 } (fun r g => r = none ∧ ∃ S2 I2 J2, mo_X E f g a ad S2 I2 J2 ∧ mr_A (vt_mk 5 [] xs) S I J b0 nv pb np w S2 I2 J2) := by
  refine gh_open (by decide) (Nat.le_of_ble_eq_true rfl) ?_
  intro p e s m args below meth c A ls hAe C V hr hlocks hname hl
  have hx := C.1
  have hb := C.2.1
  have hl : lv_has ls 3 [(0, .ref a), (1, .int (nI cp))] := hl
  have X : mo_X E f f a ad S I J := ⟨hX, gh_fr.rf⟩
  refine lv_aload_n hx hb d_Mo_gather_0 rfl (lv_at hl 0 rfl) ?_
  refine mo_getS (v := 2) C V X 46 (by decide) (by decide) (by first | rfl | exact hS46) f_Mo_277 rfl d_Mo_gather_1 ?_
  refine lv_if_ne (tgt := 76) hx hb d_Mo_gather_4 (by decide) (fun c1 => ?_) (fun c1 => absurd c1 (by decide))
  refine lv_aload_n hx hb d_Mo_gather_76 rfl (lv_at hl 0 rfl) ?_
  refine mo_getS (v := 2) C V X 46 (by decide) (by decide) (by first | rfl | exact hS46) f_Mo_277 rfl d_Mo_gather_77 ?_
  refine lv_iconst (v := 1) hx hb d_Mo_gather_80 (by decide) ?_
  refine lv_icmp_ne (tgt := 146) hx hb d_Mo_gather_81 (by decide) (fun c2 => ?_) (fun c2 => absurd c2 (by decide))
  refine lv_aload_n hx hb d_Mo_gather_146 rfl (lv_at hl 0 rfl) ?_
  refine mo_getS (v := 2) C V X 46 (by decide) (by decide) (by first | rfl | exact hS46) f_Mo_277 rfl d_Mo_gather_147 ?_
  refine lv_iconst (v := 3) hx hb d_Mo_gather_150 (by decide) ?_
  refine lv_icmp_ne (tgt := 162) hx hb d_Mo_gather_151 (by decide) (fun c3 => ?_) (fun c3 => absurd c3 (by decide))
  refine lv_aload_n hx hb d_Mo_gather_162 rfl (lv_at hl 0 rfl) ?_
  refine lv_aload_n hx hb d_Mo_gather_163 rfl (lv_at hl 0 rfl) ?_
  refine mo_getA C V X 40 (by decide) (by decide) f_Mo_103 rfl d_Mo_gather_164 ?_
  refine lv_iload_n hx hb d_Mo_gather_167 rfl (lv_at hl 1 rfl) ?_
  refine mo_ild (k := 40) (i := cp) (n := 60) C V X (by decide) (by decide) rfl (by omega) (by decide) d_Mo_gather_168 ?_
  rw [show I 40 cp = nI (xs.length) from hix]
  refine mo_putS C V X 16 (by decide) (by decide) f_Mo_156 rfl rfl rfl d_Mo_gather_169 (fun f1 H locs V1 X1 => ?_)
  clear V X
  have V := V1
  have X := X1
  clear V1 X1
  refine lv_iconst (v := 0) hx hb d_Mo_gather_172 (by decide) ?_
  refine lv_istore_n hx hb d_Mo_gather_173 rfl hl (by decide) rfl (fun ls hl => ?_)
  have hl : lv_has ls 3 [(2, .int 0), (0, .ref a), (1, .int (nI cp))] := hl
  have hl : lv_has ls 3 [(2, .int 0), (0, .ref a), (1, .int (nI cp))] := lv_sub hl [0, 1, 2] rfl
  have hl : lv_has ls 3 [(2, .int (nI 0)), (0, .ref a), (1, .int (nI cp))] := hl
  have loop : ∀ (n9 i9 : Nat) (S1 : Nat → Int32) (I1 : mo_I) (f1 : gh_F) (H : Heap) (locs : List Loc) (ls : Array Slot), i9 + n9 = xs.length → (∀ j, j < i9 → I1 14 j = nI (B j)) → (∀ k, k ≠ 14 → I1 k = I k) → (S1 = (va_up S 16 (nI xs.length))) → mo_X E f f1 a ad S1 I1 J → gh_V E A f1 s H locs → lv_has ls 3 [(2, .int (nI i9)), (0, .ref a), (1, .int (nI cp))] → W p l e { frames := 8, cells := 0, slots := 0, locals := 260 } s m args below meth c H locs 0 0 (MQ below (gh_Q E f (fun r g => r = none ∧ ∃ S2 I2 J2, mo_X E f g a ad S2 I2 J2 ∧ mr_A (vt_mk 5 [] xs) S I J b0 nv pb np w S2 I2 J2)) args s 0 0 A) (F0 m 174 ls []) := by
    intro n9
    induction n9 with
    | zero =>
      intro i9 S1 I1 f1 H locs ls hi h14 hI1 hS1 X V hl
      subst hS1
      have hi0 : i9 = xs.length := by omega
      subst hi0
      have hgo : mg_o S I (va_up S 16 (nI xs.length)) I1 := ⟨fun k h1 _ => hI1 k h1, fun k h => va_up_n h⟩
      have hg : mg (va_up S 16 (nI xs.length)) I1 J b0 nv pb np [] xs := ⟨B, fun _ => 0, va_up_s, by omega, Nat.zero_le _, fun j hj => ⟨h14 j hj, (hB j hj).2.keep hgo.ma (Nat.le_refl _) (Nat.le_refl _) (by omega)⟩, fun j hj => absurd hj (Nat.not_lt_zero j)⟩
      have h11a : (va_up S 16 (nI xs.length)) 11 = nI nv := by rw [va_up_n (by decide)]; exact h11
      have h12a : (va_up S 16 (nI xs.length)) 12 = nI np := by rw [va_up_n (by decide)]; exact h12
      refine lv_iload_n hx hb d_Mo_gather_174 rfl (lv_at hl 0 rfl) ?_
      refine lv_aload_n hx hb d_Mo_gather_175 rfl (lv_at hl 1 rfl) ?_
      refine mo_getS (v := nI (xs.length)) C V X 16 (by decide) (by decide) (by first | rfl | exact hS16) f_Mo_156 rfl d_Mo_gather_176 ?_
      refine lv_icmp_ge (tgt := 205) hx hb d_Mo_gather_179 (by decide) (fun c4 => ?_) (fun c4 => absurd (nI_le (by omega) (by omega)) c4)
      refine lv_aload_n hx hb d_Mo_gather_205 rfl (lv_at hl 1 rfl) ?_
      refine lv_aload_n hx hb d_Mo_gather_206 rfl (lv_at hl 1 rfl) ?_
      refine lv_iconst (v := 5) hx hb d_Mo_gather_207 (by decide) ?_
      refine gh_callV C V hl.1 m_Mo_seal l_Mo_230 (c_Mo_seal l E _ _ a ad _ _ _ b0 nv pb np 5 [] xs X.1 hg h11a h12a hnv h29 (by omega) (by omega) (Or.inl rfl)) rfl X.1.1 gc_Mo ⟨by first | decide | omega | (dsimp only; omega), by first | decide | omega | (dsimp only; omega)⟩ ⟨by first | decide | omega | (dsimp only; omega), by first | decide | omega | (dsimp only; omega)⟩ (Nat.le_of_ble_eq_true rfl) rfl d_Mo_gather_208 (fun r z9 H locs hp V1 => ?_)
      obtain ⟨rfl, S6, I6, J6, X2, hsl⟩ := hp
      have hsl : sl_o (va_up S 16 (nI xs.length)) I1 J b0 nv pb np 5 xs S6 I6 J6 := hsl
      have X := X.then X2
      have V := V1
      have h456 : S6 45 = nI (w + 1) := by rw [hsl.2.2.2.1 45 (by decide) (by decide)]; exact (by rw [va_up_n (by decide)]; exact h45)
      refine W.eq (g2 := F0 m 211 ls [.int (nI nv), .ref a]) rfl ?_
      have hlim := mg_lim hg
      refine gh_callV C V hl.1 m_Mo_check l_Mo_358 (c_Mo_check l E _ _ a ad _ _ _ nv (vt_wsum xs) (vt_hmax xs + 1) w X.1 hnv hsl.2.2.2.2.2.2.2.1 hsl.2.2.2.2.2.2.2.2.1 hlim.1 (Nat.lt_of_lt_of_le (Nat.succ_lt_succ hlim.2) (by decide)) h456) rfl X.1.1 gc_Mo ⟨by first | decide | omega | (dsimp only; omega), by first | decide | omega | (dsimp only; omega)⟩ ⟨by first | decide | omega | (dsimp only; omega), by first | decide | omega | (dsimp only; omega)⟩ (Nat.le_of_ble_eq_true rfl) rfl d_Mo_gather_211 (fun r z9 H locs hp V1 => ?_)
      obtain ⟨rfl, X2⟩ := hp
      have X := X.then X2
      have V := V1
      refine W.eq (g2 := F0 m 214 ls []) rfl ?_
      refine gh_retv hAe C V hr hlocks d_Mo_gather_214 (by first | decide | omega | (dsimp only; omega)) (by first | decide | omega | (dsimp only; omega)) ?_
      exact ⟨rfl, _, _, _, X, mr_check hgo.un hgo.ma hg hsl (Or.inl ⟨rfl, rfl⟩) hb0 hnv hpb (by omega) (by omega)⟩
    | succ n9 ih =>
      intro i9 S1 I1 f1 H locs ls hi h14 hI1 hS1 X V hl
      subst hS1
      have hB1 : I1 41 (16 * cp + i9) = nI (B i9) := by rw [hI1 41 (by decide)]; exact (hB i9 (by omega)).1
      refine lv_iload_n hx hb d_Mo_gather_174 rfl (lv_at hl 0 rfl) ?_
      refine lv_aload_n hx hb d_Mo_gather_175 rfl (lv_at hl 1 rfl) ?_
      refine mo_getS (v := nI (xs.length)) C V X 16 (by decide) (by decide) (by first | rfl | exact hS16) f_Mo_156 rfl d_Mo_gather_176 ?_
      refine lv_icmp_ge (tgt := 205) hx hb d_Mo_gather_179 (by decide) (fun c5 => absurd c5 (nI_ge (by omega) (by omega))) (fun c5 => ?_)
      refine lv_aload_n hx hb d_Mo_gather_182 rfl (lv_at hl 1 rfl) ?_
      refine mo_getA C V X 14 (by decide) (by decide) f_Mo_44 rfl d_Mo_gather_183 ?_
      refine lv_iload_n hx hb d_Mo_gather_186 rfl (lv_at hl 0 rfl) ?_
      refine lv_aload_n hx hb d_Mo_gather_187 rfl (lv_at hl 1 rfl) ?_
      refine mo_getA C V X 41 (by decide) (by decide) f_Mo_106 rfl d_Mo_gather_188 ?_
      refine lv_bipush (v := 16) hx hb d_Mo_gather_191 (by decide) ?_
      refine lv_iload_n hx hb d_Mo_gather_193 rfl (lv_at hl 2 rfl) ?_
      refine gn_imul (a := 16) (b := cp) hx hb d_Mo_gather_194 ?_
      refine lv_iload_n hx hb d_Mo_gather_195 rfl (lv_at hl 0 rfl) ?_
      refine gn_iadd (a := 16 * cp) (b := i9) hx hb d_Mo_gather_196 ?_
      refine mo_ild (k := 41) (i := (16 * cp) + i9) (n := 960) C V X (by decide) (by decide) rfl (by omega) (by decide) d_Mo_gather_197 ?_
      rw [show I1 41 ((16 * cp) + i9) = nI (B i9) from hB1]
      refine mo_ist (k := 14) (i := i9) (n := 32) C V X (by decide) (by decide) rfl (by omega) (by decide) d_Mo_gather_198 (fun f1 H locs V1 X1 => ?_)
      clear V X
      have V := V1
      have X := X1
      clear V1 X1
      refine lv_iinc (k := 0) (v := (nI i9) + 1) hx hb d_Mo_gather_199 hl rfl (by rfl) (by decide) rfl (fun ls hl => ?_)
      have hl : lv_has ls 3 [(2, .int (nI (i9 + 1))), (0, .ref a), (1, .int (nI cp))] := by rw [nI_succ]; exact hl
      refine lv_goto (tgt := 174) hx hb d_Mo_gather_202 (by decide) ?_
      have hl : lv_has ls 3 [(2, .int (nI (i9 + 1))), (0, .ref a), (1, .int (nI cp))] := lv_sub hl [0, 1, 2] rfl
      have hl : lv_has ls 3 [(2, .int (nI (i9 + 1))), (0, .ref a), (1, .int (nI cp))] := hl
      refine ih (i9 + 1) _ _ _ H locs ls (by omega) (fun j hj => ?_) (fun k hk => (va_up_n hk).trans (hI1 k hk)) rfl X V hl
      rw [va_up_s]; simp only [upd]; by_cases e : j = i9; (rw [if_pos e, e]); (rw [if_neg e]; exact h14 j (by omega))
  exact loop (xs.length) 0 (va_up S 16 (nI xs.length)) I _ _ _ ls (by omega) (fun j hj => absurd hj (Nat.not_lt_zero j)) (fun _ _ => rfl) rfl X V hl
