/-! put of the model, each way. Printed by wip/whole/gen_mo21.py. -/
set_option maxHeartbeats 4000000 in
set_option maxRecDepth 100000 in
theorem c_Mo_addAll0 (l : Launch) (E : gh_E) (sz : Nat) (f : gh_F) (a : Nat) (ad : Nat → Nat) (S : Nat → Int32) (I : Nat → Nat → Int32) (J : Nat → Nat → Int64) (v : Nat) (hX : mo_R E f a ad S I J) (hv7 : v < 760) (h1v : I 1 v = nI 0) : gh_M l y_Mo_addAll b_Mo_addAll 3 none E sz [.ref a, .int (nI v)] f { frames := 6, cells := 0, slots := 0, locals := 180 } (fun r g => r = none ∧ g = f) := by
  refine gh_open (by decide) (Nat.le_of_ble_eq_true rfl) ?_
  intro p e s m args below meth c A ls hAe C V hr hlocks hname hl
  have hx := C.1
  have hb := C.2.1
  have hl : lv_has ls 3 [(0, .ref a), (1, .int (nI v))] := hl
  have X : mo_X E f f a ad S I J := ⟨hX, gh_fr.rf⟩
  refine lv_iconst (v := 0) hx hb d_Mo_addAll_0 (by decide) ?_
  refine lv_istore_n hx hb d_Mo_addAll_1 rfl hl (by decide) rfl (fun ls hl => ?_)
  have hl : lv_has ls 3 [(2, .int 0), (0, .ref a), (1, .int (nI v))] := hl
  refine lv_aload_n hx hb d_Mo_addAll_2 rfl (lv_at hl 1 rfl) ?_
  refine lv_iload_n hx hb d_Mo_addAll_3 rfl (lv_at hl 2 rfl) ?_
  refine gh_callV C V hl.1 m_Mo_isMany l_Mo_169 (c_Mo_isMany l E _ _ a ad _ _ _ v X.1 hv7) rfl X.1.1 gc_Mo ⟨by first | decide | omega | (dsimp only; omega), by first | decide | omega | (dsimp only; omega)⟩ ⟨by first | decide | omega | (dsimp only; omega), by first | decide | omega | (dsimp only; omega)⟩ (Nat.le_of_ble_eq_true rfl) rfl d_Mo_addAll_4 (fun r z9 H locs hp V1 => ?_)
  rw [h1v] at hp
  obtain ⟨rfl, he9⟩ := hp
  rw [he9] at V1
  have V := V1
  refine W.eq (g2 := F0 m 7 ls [.int (gh_bi false)]) rfl ?_
  refine lv_if_eq (tgt := 81) hx hb d_Mo_addAll_7 (by decide) (fun c1 => ?_) (fun c1 => absurd (by decide) c1)
  refine gh_retv hAe C V hr hlocks d_Mo_addAll_81 (by first | decide | omega | (dsimp only; omega)) (by first | decide | omega | (dsimp only; omega)) ?_
  exact ⟨rfl, rfl⟩
theorem d_Mo_put_0 : decode b_Mo_put 0 = .ok (.aload_n 0, 1) := by decide +kernel
theorem d_Mo_put_1 : decode b_Mo_put 1 = .ok (.getfield 91, 3) := by decide +kernel
theorem d_Mo_put_4 : decode b_Mo_put 4 = .ok (.iload_n 1, 1) := by decide +kernel
theorem d_Mo_put_5 : decode b_Mo_put 5 = .ok (.iaload, 1) := by decide +kernel
theorem d_Mo_put_6 : decode b_Mo_put 6 = .ok (.istore_n 2, 1) := by decide +kernel
theorem d_Mo_put_7 : decode b_Mo_put 7 = .ok (.aload_n 0, 1) := by decide +kernel
theorem d_Mo_put_8 : decode b_Mo_put 8 = .ok (.getfield 277, 3) := by decide +kernel
theorem d_Mo_put_11 : decode b_Mo_put 11 = .ok (.ifCond .ne 69, 3) := by decide +kernel
theorem d_Mo_put_14 : decode b_Mo_put 14 = .ok (.aload_n 0, 1) := by decide +kernel
theorem d_Mo_put_15 : decode b_Mo_put 15 = .ok (.getfield 88, 3) := by decide +kernel
theorem d_Mo_put_18 : decode b_Mo_put 18 = .ok (.iload_n 1, 1) := by decide +kernel
theorem d_Mo_put_19 : decode b_Mo_put 19 = .ok (.iaload, 1) := by decide +kernel
theorem d_Mo_put_20 : decode b_Mo_put 20 = .ok (.ifCond .ne 60, 3) := by decide +kernel
theorem d_Mo_put_23 : decode b_Mo_put 23 = .ok (.aload_n 0, 1) := by decide +kernel
theorem d_Mo_put_24 : decode b_Mo_put 24 = .ok (.getfield 88, 3) := by decide +kernel
theorem d_Mo_put_27 : decode b_Mo_put 27 = .ok (.iload_n 1, 1) := by decide +kernel
theorem d_Mo_put_28 : decode b_Mo_put 28 = .ok (.iconst 1, 1) := by decide +kernel
theorem d_Mo_put_29 : decode b_Mo_put 29 = .ok (.iastore, 1) := by decide +kernel
theorem d_Mo_put_30 : decode b_Mo_put 30 = .ok (.aload_n 0, 1) := by decide +kernel
theorem d_Mo_put_31 : decode b_Mo_put 31 = .ok (.getfield 7, 3) := by decide +kernel
theorem d_Mo_put_34 : decode b_Mo_put 34 = .ok (.iload_n 2, 1) := by decide +kernel
theorem d_Mo_put_35 : decode b_Mo_put 35 = .ok (.iaload, 1) := by decide +kernel
theorem d_Mo_put_36 : decode b_Mo_put 36 = .ok (.bipush 6, 2) := by decide +kernel
theorem d_Mo_put_38 : decode b_Mo_put 38 = .ok (.if_icmp .eq 12, 3) := by decide +kernel
theorem d_Mo_put_41 : decode b_Mo_put 41 = .ok (.aload_n 0, 1) := by decide +kernel
theorem d_Mo_put_42 : decode b_Mo_put 42 = .ok (.getfield 7, 3) := by decide +kernel
theorem d_Mo_put_45 : decode b_Mo_put 45 = .ok (.iload_n 2, 1) := by decide +kernel
theorem d_Mo_put_46 : decode b_Mo_put 46 = .ok (.iaload, 1) := by decide +kernel
theorem d_Mo_put_47 : decode b_Mo_put 47 = .ok (.ifCond .ne 25, 3) := by decide +kernel
theorem d_Mo_put_50 : decode b_Mo_put 50 = .ok (.aload_n 0, 1) := by decide +kernel
theorem d_Mo_put_51 : decode b_Mo_put 51 = .ok (.aload_n 0, 1) := by decide +kernel
theorem d_Mo_put_52 : decode b_Mo_put 52 = .ok (.getfield 85, 3) := by decide +kernel
theorem d_Mo_put_55 : decode b_Mo_put 55 = .ok (.iconst 3, 1) := by decide +kernel
theorem d_Mo_put_56 : decode b_Mo_put 56 = .ok (.iload_n 1, 1) := by decide +kernel
theorem d_Mo_put_57 : decode b_Mo_put 57 = .ok (.imul, 1) := by decide +kernel
theorem d_Mo_put_58 : decode b_Mo_put 58 = .ok (.iaload, 1) := by decide +kernel
theorem d_Mo_put_59 : decode b_Mo_put 59 = .ok (.iload_n 2, 1) := by decide +kernel
theorem d_Mo_put_60 : decode b_Mo_put 60 = .ok (.aload_n 0, 1) := by decide +kernel
theorem d_Mo_put_61 : decode b_Mo_put 61 = .ok (.getfield 94, 3) := by decide +kernel
theorem d_Mo_put_64 : decode b_Mo_put 64 = .ok (.iload_n 1, 1) := by decide +kernel
theorem d_Mo_put_65 : decode b_Mo_put 65 = .ok (.iaload, 1) := by decide +kernel
theorem d_Mo_put_66 : decode b_Mo_put 66 = .ok (.invokevirtual 299, 3) := by decide +kernel
theorem d_Mo_put_69 : decode b_Mo_put 69 = .ok (.goto 115, 3) := by decide +kernel
theorem d_Mo_put_72 : decode b_Mo_put 72 = .ok (.aload_n 0, 1) := by decide +kernel
theorem d_Mo_put_73 : decode b_Mo_put 73 = .ok (.iconst 3, 1) := by decide +kernel
theorem d_Mo_put_74 : decode b_Mo_put 74 = .ok (.invokevirtual 289, 3) := by decide +kernel
theorem d_Mo_put_77 : decode b_Mo_put 77 = .ok (.goto 107, 3) := by decide +kernel
theorem d_Mo_put_80 : decode b_Mo_put 80 = .ok (.aload_n 0, 1) := by decide +kernel
theorem d_Mo_put_81 : decode b_Mo_put 81 = .ok (.getfield 277, 3) := by decide +kernel
theorem d_Mo_put_84 : decode b_Mo_put 84 = .ok (.ifCond .ne 18, 3) := by decide +kernel
theorem d_Mo_put_87 : decode b_Mo_put 87 = .ok (.aload_n 0, 1) := by decide +kernel
theorem d_Mo_put_88 : decode b_Mo_put 88 = .ok (.aload_n 0, 1) := by decide +kernel
theorem d_Mo_put_89 : decode b_Mo_put 89 = .ok (.getfield 85, 3) := by decide +kernel
theorem d_Mo_put_92 : decode b_Mo_put 92 = .ok (.iconst 3, 1) := by decide +kernel
theorem d_Mo_put_93 : decode b_Mo_put 93 = .ok (.iload_n 1, 1) := by decide +kernel
theorem d_Mo_put_94 : decode b_Mo_put 94 = .ok (.imul, 1) := by decide +kernel
theorem d_Mo_put_95 : decode b_Mo_put 95 = .ok (.iaload, 1) := by decide +kernel
theorem d_Mo_put_96 : decode b_Mo_put 96 = .ok (.invokevirtual 283, 3) := by decide +kernel
theorem d_Mo_put_99 : decode b_Mo_put 99 = .ok (.goto 85, 3) := by decide +kernel
theorem d_Mo_put_102 : decode b_Mo_put 102 = .ok (.aload_n 0, 1) := by decide +kernel
theorem d_Mo_put_103 : decode b_Mo_put 103 = .ok (.getfield 277, 3) := by decide +kernel
theorem d_Mo_put_106 : decode b_Mo_put 106 = .ok (.iconst 1, 1) := by decide +kernel
theorem d_Mo_put_107 : decode b_Mo_put 107 = .ok (.if_icmp .eq 14, 3) := by decide +kernel
theorem d_Mo_put_110 : decode b_Mo_put 110 = .ok (.aload_n 0, 1) := by decide +kernel
theorem d_Mo_put_111 : decode b_Mo_put 111 = .ok (.aload_n 0, 1) := by decide +kernel
theorem d_Mo_put_112 : decode b_Mo_put 112 = .ok (.getfield 277, 3) := by decide +kernel
theorem d_Mo_put_115 : decode b_Mo_put 115 = .ok (.invokevirtual 289, 3) := by decide +kernel
theorem d_Mo_put_118 : decode b_Mo_put 118 = .ok (.goto 66, 3) := by decide +kernel
theorem d_Mo_put_121 : decode b_Mo_put 121 = .ok (.aload_n 0, 1) := by decide +kernel
theorem d_Mo_put_122 : decode b_Mo_put 122 = .ok (.invokevirtual 280, 3) := by decide +kernel
theorem d_Mo_put_125 : decode b_Mo_put 125 = .ok (.ifCond .eq 59, 3) := by decide +kernel
theorem d_Mo_put_128 : decode b_Mo_put 128 = .ok (.aload_n 0, 1) := by decide +kernel
theorem d_Mo_put_129 : decode b_Mo_put 129 = .ok (.iconst 0, 1) := by decide +kernel
theorem d_Mo_put_130 : decode b_Mo_put 130 = .ok (.putfield 156, 3) := by decide +kernel
theorem d_Mo_put_133 : decode b_Mo_put 133 = .ok (.aload_n 0, 1) := by decide +kernel
theorem d_Mo_put_134 : decode b_Mo_put 134 = .ok (.iload_n 2, 1) := by decide +kernel
theorem d_Mo_put_135 : decode b_Mo_put 135 = .ok (.invokevirtual 361, 3) := by decide +kernel
theorem d_Mo_put_138 : decode b_Mo_put 138 = .ok (.aload_n 0, 1) := by decide +kernel
theorem d_Mo_put_139 : decode b_Mo_put 139 = .ok (.aload_n 0, 1) := by decide +kernel
theorem d_Mo_put_140 : decode b_Mo_put 140 = .ok (.getfield 82, 3) := by decide +kernel
theorem d_Mo_put_143 : decode b_Mo_put 143 = .ok (.iload_n 1, 1) := by decide +kernel
theorem d_Mo_put_144 : decode b_Mo_put 144 = .ok (.iconst 1, 1) := by decide +kernel
theorem d_Mo_put_145 : decode b_Mo_put 145 = .ok (.iadd, 1) := by decide +kernel
theorem d_Mo_put_146 : decode b_Mo_put 146 = .ok (.iaload, 1) := by decide +kernel
theorem d_Mo_put_147 : decode b_Mo_put 147 = .ok (.bipush 94, 2) := by decide +kernel
theorem d_Mo_put_149 : decode b_Mo_put 149 = .ok (.isub, 1) := by decide +kernel
theorem d_Mo_put_150 : decode b_Mo_put 150 = .ok (.aload_n 0, 1) := by decide +kernel
theorem d_Mo_put_151 : decode b_Mo_put 151 = .ok (.getfield 286, 3) := by decide +kernel
theorem d_Mo_put_154 : decode b_Mo_put 154 = .ok (.invokevirtual 227, 3) := by decide +kernel
theorem d_Mo_put_157 : decode b_Mo_put 157 = .ok (.aload_n 0, 1) := by decide +kernel
theorem d_Mo_put_158 : decode b_Mo_put 158 = .ok (.getfield 156, 3) := by decide +kernel
theorem d_Mo_put_161 : decode b_Mo_put 161 = .ok (.bipush 16, 2) := by decide +kernel
theorem d_Mo_put_163 : decode b_Mo_put 163 = .ok (.if_icmp .le 11, 3) := by decide +kernel
theorem d_Mo_put_166 : decode b_Mo_put 166 = .ok (.aload_n 0, 1) := by decide +kernel
theorem d_Mo_put_167 : decode b_Mo_put 167 = .ok (.iconst 3, 1) := by decide +kernel
theorem d_Mo_put_168 : decode b_Mo_put 168 = .ok (.invokevirtual 289, 3) := by decide +kernel
theorem d_Mo_put_171 : decode b_Mo_put 171 = .ok (.goto 13, 3) := by decide +kernel
theorem d_Mo_put_174 : decode b_Mo_put 174 = .ok (.aload_n 0, 1) := by decide +kernel
theorem d_Mo_put_175 : decode b_Mo_put 175 = .ok (.aload_n 0, 1) := by decide +kernel
theorem d_Mo_put_176 : decode b_Mo_put 176 = .ok (.bipush 6, 2) := by decide +kernel
theorem d_Mo_put_178 : decode b_Mo_put 178 = .ok (.invokevirtual 230, 3) := by decide +kernel
theorem d_Mo_put_181 : decode b_Mo_put 181 = .ok (.invokevirtual 358, 3) := by decide +kernel
theorem d_Mo_put_184 : decode b_Mo_put 184 = .ok (.return_, 1) := by decide +kernel
set_option maxHeartbeats 4000000 in
set_option maxRecDepth 100000 in
theorem c_Mo_put_00_6 (l : Launch) (E : gh_E) (sz : Nat) (f : gh_F) (a : Nat) (ad : Nat → Nat) (S : Nat → Int32) (I : Nat → Nat → Int32) (J : Nat → Nat → Int64) (w cp φ : Nat) (p0 : Nat) (v : Nat) (hX : mo_R E f a ad S I J) (h45 : S 45 = nI (w + 1)) (hw : w < 14) (hc60 : cp < 60) (h48 : S 48 = nI φ) (hφ : φ < 1000) (h49 : ¬ 0 ≤ S 49) (hp0c : I 34 (3 * cp) = nI p0) (hq0 : cp < p0 ∧ p0 < 60) (hS46 : S 46 = 0) (hph : I 35 cp = 0) (hit : I 36 cp = nI v) (hv7 : v < 760) (h1v : I 1 v = nI 6) : gh_M l y_Mo_put b_Mo_put 3 none E sz [.ref a, .int (nI cp)] f { frames := 7, cells := 0, slots := 0, locals := 200 } (fun r g => r = none ∧ ∃ S2 I2, mo_X E f g a ad S2 I2 J ∧ mct cp w (fun j => j = p0) (va_up (fun k => I k cp) 35 1) S I S2 I2 ∧ oc_e w p0 (nI v) (I 37 cp) φ S S2 I2) := by
  refine gh_open (by decide) (Nat.le_of_ble_eq_true rfl) ?_
  intro p e s m args below meth c A ls hAe C V hr hlocks hname hl
  have hx := C.1
  have hb := C.2.1
  have hl : lv_has ls 3 [(0, .ref a), (1, .int (nI cp))] := hl
  have X : mo_X E f f a ad S I J := ⟨hX, gh_fr.rf⟩
  refine lv_aload_n hx hb d_Mo_put_0 rfl (lv_at hl 0 rfl) ?_
  refine mo_getA C V X 36 (by decide) (by decide) f_Mo_91 rfl d_Mo_put_1 ?_
  refine lv_iload_n hx hb d_Mo_put_4 rfl (lv_at hl 1 rfl) ?_
  refine mo_ild (k := 36) (i := cp) (n := 60) C V X (by decide) (by decide) rfl (by omega) (by decide) d_Mo_put_5 ?_
  rw [show I 36 cp = nI v from hit]
  refine lv_istore_n hx hb d_Mo_put_6 rfl hl (by decide) rfl (fun ls hl => ?_)
  have hl : lv_has ls 3 [(2, .int (nI v)), (0, .ref a), (1, .int (nI cp))] := hl
  refine lv_aload_n hx hb d_Mo_put_7 rfl (lv_at hl 1 rfl) ?_
  refine mo_getS (v := 0) C V X 46 (by decide) (by decide) (by first | rfl | exact hS46) f_Mo_277 rfl d_Mo_put_8 ?_
  refine lv_if_ne (tgt := 80) hx hb d_Mo_put_11 (by decide) (fun c1 => absurd (by decide) c1) (fun c1 => ?_)
  refine lv_aload_n hx hb d_Mo_put_14 rfl (lv_at hl 1 rfl) ?_
  refine mo_getA C V X 35 (by decide) (by decide) f_Mo_88 rfl d_Mo_put_15 ?_
  refine lv_iload_n hx hb d_Mo_put_18 rfl (lv_at hl 2 rfl) ?_
  refine mo_ild (k := 35) (i := cp) (n := 60) C V X (by decide) (by decide) rfl (by omega) (by decide) d_Mo_put_19 ?_
  rw [show I 35 cp = 0 from hph]
  refine lv_if_ne (tgt := 80) hx hb d_Mo_put_20 (by decide) (fun c2 => absurd (by decide) c2) (fun c2 => ?_)
  refine lv_aload_n hx hb d_Mo_put_23 rfl (lv_at hl 1 rfl) ?_
  refine mo_getA C V X 35 (by decide) (by decide) f_Mo_88 rfl d_Mo_put_24 ?_
  refine lv_iload_n hx hb d_Mo_put_27 rfl (lv_at hl 2 rfl) ?_
  refine lv_iconst (v := 1) hx hb d_Mo_put_28 (by decide) ?_
  refine mo_ist (k := 35) (i := cp) (n := 60) C V X (by decide) (by decide) rfl (by omega) (by decide) d_Mo_put_29 (fun f1 H locs V1 X1 => ?_)
  clear V X
  have V := V1
  have X := X1
  clear V1 X1
  refine lv_aload_n hx hb d_Mo_put_30 rfl (lv_at hl 1 rfl) ?_
  refine mo_getA C V X 1 (by decide) (by decide) f_Mo_7 rfl d_Mo_put_31 ?_
  refine lv_iload_n hx hb d_Mo_put_34 rfl (lv_at hl 0 rfl) ?_
  refine mo_ild (k := 1) (i := v) (n := 760) C V X (by decide) (by decide) rfl (by omega) (by decide) d_Mo_put_35 ?_
  rw [show (va_up I 35 (upd (I 35) cp 1)) 1 v = nI 6 from ((congrFun (va_up_n (by decide)) v).trans (h1v))]
  refine lv_bipush (v := 6) hx hb d_Mo_put_36 (by decide) ?_
  refine lv_icmp_eq (tgt := 50) hx hb d_Mo_put_38 (by decide) (fun c3 => ?_) (fun c3 => absurd (by decide) c3)
  refine lv_aload_n hx hb d_Mo_put_50 rfl (lv_at hl 1 rfl) ?_
  refine lv_aload_n hx hb d_Mo_put_51 rfl (lv_at hl 1 rfl) ?_
  refine mo_getA C V X 34 (by decide) (by decide) f_Mo_85 rfl d_Mo_put_52 ?_
  refine lv_iconst (v := 3) hx hb d_Mo_put_55 (by decide) ?_
  refine lv_iload_n hx hb d_Mo_put_56 rfl (lv_at hl 2 rfl) ?_
  refine gn_imul (a := 3) (b := cp) hx hb d_Mo_put_57 ?_
  refine mo_ild (k := 34) (i := 3 * cp) (n := 180) C V X (by decide) (by decide) rfl (by omega) (by decide) d_Mo_put_58 ?_
  rw [show (va_up I 35 (upd (I 35) cp 1)) 34 (3 * cp) = nI p0 from ((congrFun (va_up_n (by decide)) (3 * cp)).trans (hp0c))]
  refine lv_iload_n hx hb d_Mo_put_59 rfl (lv_at hl 0 rfl) ?_
  refine lv_aload_n hx hb d_Mo_put_60 rfl (lv_at hl 1 rfl) ?_
  refine mo_getA C V X 37 (by decide) (by decide) f_Mo_94 rfl d_Mo_put_61 ?_
  refine lv_iload_n hx hb d_Mo_put_64 rfl (lv_at hl 2 rfl) ?_
  refine mo_ild (k := 37) (i := cp) (n := 60) C V X (by decide) (by decide) rfl (by omega) (by decide) d_Mo_put_65 ?_
  rw [show (va_up I 35 (upd (I 35) cp 1)) 37 cp = I 37 cp from ((congrFun (va_up_n (by decide)) cp).trans (rfl))]
  refine gh_callV C V hl.1 m_Mo_enter l_Mo_299 (c_Mo_enter l E _ _ a ad _ _ _ p0 (nI v) (I 37 cp) φ (w + 1) X.1 (by omega) h48 hφ h49 h45 (by omega)) rfl X.1.1 gc_Mo ⟨by first | decide | omega | (dsimp only; omega), by first | decide | omega | (dsimp only; omega)⟩ ⟨by first | decide | omega | (dsimp only; omega), by first | decide | omega | (dsimp only; omega)⟩ (Nat.le_of_ble_eq_true rfl) rfl d_Mo_put_66 (fun r z9 H locs hp V1 => ?_)
  obtain ⟨rfl, hp0, hp1⟩ := hp
  have V := V1
  by_cases hz : φ = 0
  · have X := X.then (hp0 hz)
    refine W.eq (g2 := F0 m 69 ls []) rfl ?_
    refine lv_goto (tgt := 184) hx hb d_Mo_put_69 (by decide) ?_
    refine gh_retv hAe C V hr hlocks d_Mo_put_184 (by first | decide | omega | (dsimp only; omega)) (by first | decide | omega | (dsimp only; omega)) ?_
    exact ⟨rfl, _, _, X, ((mct.rf.cell 35 1 (by decide) (by decide)).s (k := 49) (by omega)).mono (fun _ z => z.elim), oc_e0 hz rfl⟩
  · have X := X.then (hp1 (by omega))
    refine W.eq (g2 := F0 m 69 ls []) rfl ?_
    refine lv_goto (tgt := 184) hx hb d_Mo_put_69 (by decide) ?_
    refine gh_retv hAe C V hr hlocks d_Mo_put_184 (by first | decide | omega | (dsimp only; omega)) (by first | decide | omega | (dsimp only; omega)) ?_
    exact ⟨rfl, _, _, X, (mct.rf.cell 35 1 (by decide) (by decide)).enter (by omega), oc_e1 (by omega) rfl⟩
set_option maxHeartbeats 4000000 in
set_option maxRecDepth 100000 in
theorem c_Mo_put_00_0 (l : Launch) (E : gh_E) (sz : Nat) (f : gh_F) (a : Nat) (ad : Nat → Nat) (S : Nat → Int32) (I : Nat → Nat → Int32) (J : Nat → Nat → Int64) (w cp φ : Nat) (p0 : Nat) (v : Nat) (hX : mo_R E f a ad S I J) (h45 : S 45 = nI (w + 1)) (hw : w < 14) (hc60 : cp < 60) (h48 : S 48 = nI φ) (hφ : φ < 1000) (h49 : ¬ 0 ≤ S 49) (hp0c : I 34 (3 * cp) = nI p0) (hq0 : cp < p0 ∧ p0 < 60) (hS46 : S 46 = 0) (hph : I 35 cp = 0) (hit : I 36 cp = nI v) (hv7 : v < 760) (h1v : I 1 v = nI 0) : gh_M l y_Mo_put b_Mo_put 3 none E sz [.ref a, .int (nI cp)] f { frames := 7, cells := 0, slots := 0, locals := 200 } (fun r g => r = none ∧ ∃ S2 I2, mo_X E f g a ad S2 I2 J ∧ mct cp w (fun j => j = p0) (va_up (fun k => I k cp) 35 1) S I S2 I2 ∧ oc_e w p0 (nI v) (I 37 cp) φ S S2 I2) := by
  refine gh_open (by decide) (Nat.le_of_ble_eq_true rfl) ?_
  intro p e s m args below meth c A ls hAe C V hr hlocks hname hl
  have hx := C.1
  have hb := C.2.1
  have hl : lv_has ls 3 [(0, .ref a), (1, .int (nI cp))] := hl
  have X : mo_X E f f a ad S I J := ⟨hX, gh_fr.rf⟩
  refine lv_aload_n hx hb d_Mo_put_0 rfl (lv_at hl 0 rfl) ?_
  refine mo_getA C V X 36 (by decide) (by decide) f_Mo_91 rfl d_Mo_put_1 ?_
  refine lv_iload_n hx hb d_Mo_put_4 rfl (lv_at hl 1 rfl) ?_
  refine mo_ild (k := 36) (i := cp) (n := 60) C V X (by decide) (by decide) rfl (by omega) (by decide) d_Mo_put_5 ?_
  rw [show I 36 cp = nI v from hit]
  refine lv_istore_n hx hb d_Mo_put_6 rfl hl (by decide) rfl (fun ls hl => ?_)
  have hl : lv_has ls 3 [(2, .int (nI v)), (0, .ref a), (1, .int (nI cp))] := hl
  refine lv_aload_n hx hb d_Mo_put_7 rfl (lv_at hl 1 rfl) ?_
  refine mo_getS (v := 0) C V X 46 (by decide) (by decide) (by first | rfl | exact hS46) f_Mo_277 rfl d_Mo_put_8 ?_
  refine lv_if_ne (tgt := 80) hx hb d_Mo_put_11 (by decide) (fun c1 => absurd (by decide) c1) (fun c1 => ?_)
  refine lv_aload_n hx hb d_Mo_put_14 rfl (lv_at hl 1 rfl) ?_
  refine mo_getA C V X 35 (by decide) (by decide) f_Mo_88 rfl d_Mo_put_15 ?_
  refine lv_iload_n hx hb d_Mo_put_18 rfl (lv_at hl 2 rfl) ?_
  refine mo_ild (k := 35) (i := cp) (n := 60) C V X (by decide) (by decide) rfl (by omega) (by decide) d_Mo_put_19 ?_
  rw [show I 35 cp = 0 from hph]
  refine lv_if_ne (tgt := 80) hx hb d_Mo_put_20 (by decide) (fun c2 => absurd (by decide) c2) (fun c2 => ?_)
  refine lv_aload_n hx hb d_Mo_put_23 rfl (lv_at hl 1 rfl) ?_
  refine mo_getA C V X 35 (by decide) (by decide) f_Mo_88 rfl d_Mo_put_24 ?_
  refine lv_iload_n hx hb d_Mo_put_27 rfl (lv_at hl 2 rfl) ?_
  refine lv_iconst (v := 1) hx hb d_Mo_put_28 (by decide) ?_
  refine mo_ist (k := 35) (i := cp) (n := 60) C V X (by decide) (by decide) rfl (by omega) (by decide) d_Mo_put_29 (fun f1 H locs V1 X1 => ?_)
  clear V X
  have V := V1
  have X := X1
  clear V1 X1
  refine lv_aload_n hx hb d_Mo_put_30 rfl (lv_at hl 1 rfl) ?_
  refine mo_getA C V X 1 (by decide) (by decide) f_Mo_7 rfl d_Mo_put_31 ?_
  refine lv_iload_n hx hb d_Mo_put_34 rfl (lv_at hl 0 rfl) ?_
  refine mo_ild (k := 1) (i := v) (n := 760) C V X (by decide) (by decide) rfl (by omega) (by decide) d_Mo_put_35 ?_
  rw [show (va_up I 35 (upd (I 35) cp 1)) 1 v = nI 0 from ((congrFun (va_up_n (by decide)) v).trans (h1v))]
  refine lv_bipush (v := 6) hx hb d_Mo_put_36 (by decide) ?_
  refine lv_icmp_eq (tgt := 50) hx hb d_Mo_put_38 (by decide) (fun c3 => absurd c3 (by decide)) (fun c3 => ?_)
  refine lv_aload_n hx hb d_Mo_put_41 rfl (lv_at hl 1 rfl) ?_
  refine mo_getA C V X 1 (by decide) (by decide) f_Mo_7 rfl d_Mo_put_42 ?_
  refine lv_iload_n hx hb d_Mo_put_45 rfl (lv_at hl 0 rfl) ?_
  refine mo_ild (k := 1) (i := v) (n := 760) C V X (by decide) (by decide) rfl (by omega) (by decide) d_Mo_put_46 ?_
  rw [show (va_up I 35 (upd (I 35) cp 1)) 1 v = nI 0 from ((congrFun (va_up_n (by decide)) v).trans (h1v))]
  refine lv_if_ne (tgt := 72) hx hb d_Mo_put_47 (by decide) (fun c4 => absurd (by decide) c4) (fun c4 => ?_)
  refine lv_aload_n hx hb d_Mo_put_50 rfl (lv_at hl 1 rfl) ?_
  refine lv_aload_n hx hb d_Mo_put_51 rfl (lv_at hl 1 rfl) ?_
  refine mo_getA C V X 34 (by decide) (by decide) f_Mo_85 rfl d_Mo_put_52 ?_
  refine lv_iconst (v := 3) hx hb d_Mo_put_55 (by decide) ?_
  refine lv_iload_n hx hb d_Mo_put_56 rfl (lv_at hl 2 rfl) ?_
  refine gn_imul (a := 3) (b := cp) hx hb d_Mo_put_57 ?_
  refine mo_ild (k := 34) (i := 3 * cp) (n := 180) C V X (by decide) (by decide) rfl (by omega) (by decide) d_Mo_put_58 ?_
  rw [show (va_up I 35 (upd (I 35) cp 1)) 34 (3 * cp) = nI p0 from ((congrFun (va_up_n (by decide)) (3 * cp)).trans (hp0c))]
  refine lv_iload_n hx hb d_Mo_put_59 rfl (lv_at hl 0 rfl) ?_
  refine lv_aload_n hx hb d_Mo_put_60 rfl (lv_at hl 1 rfl) ?_
  refine mo_getA C V X 37 (by decide) (by decide) f_Mo_94 rfl d_Mo_put_61 ?_
  refine lv_iload_n hx hb d_Mo_put_64 rfl (lv_at hl 2 rfl) ?_
  refine mo_ild (k := 37) (i := cp) (n := 60) C V X (by decide) (by decide) rfl (by omega) (by decide) d_Mo_put_65 ?_
  rw [show (va_up I 35 (upd (I 35) cp 1)) 37 cp = I 37 cp from ((congrFun (va_up_n (by decide)) cp).trans (rfl))]
  refine gh_callV C V hl.1 m_Mo_enter l_Mo_299 (c_Mo_enter l E _ _ a ad _ _ _ p0 (nI v) (I 37 cp) φ (w + 1) X.1 (by omega) h48 hφ h49 h45 (by omega)) rfl X.1.1 gc_Mo ⟨by first | decide | omega | (dsimp only; omega), by first | decide | omega | (dsimp only; omega)⟩ ⟨by first | decide | omega | (dsimp only; omega), by first | decide | omega | (dsimp only; omega)⟩ (Nat.le_of_ble_eq_true rfl) rfl d_Mo_put_66 (fun r z9 H locs hp V1 => ?_)
  obtain ⟨rfl, hp0, hp1⟩ := hp
  have V := V1
  by_cases hz : φ = 0
  · have X := X.then (hp0 hz)
    refine W.eq (g2 := F0 m 69 ls []) rfl ?_
    refine lv_goto (tgt := 184) hx hb d_Mo_put_69 (by decide) ?_
    refine gh_retv hAe C V hr hlocks d_Mo_put_184 (by first | decide | omega | (dsimp only; omega)) (by first | decide | omega | (dsimp only; omega)) ?_
    exact ⟨rfl, _, _, X, ((mct.rf.cell 35 1 (by decide) (by decide)).s (k := 49) (by omega)).mono (fun _ z => z.elim), oc_e0 hz rfl⟩
  · have X := X.then (hp1 (by omega))
    refine W.eq (g2 := F0 m 69 ls []) rfl ?_
    refine lv_goto (tgt := 184) hx hb d_Mo_put_69 (by decide) ?_
    refine gh_retv hAe C V hr hlocks d_Mo_put_184 (by first | decide | omega | (dsimp only; omega)) (by first | decide | omega | (dsimp only; omega)) ?_
    exact ⟨rfl, _, _, X, (mct.rf.cell 35 1 (by decide) (by decide)).enter (by omega), oc_e1 (by omega) rfl⟩
set_option maxHeartbeats 4000000 in
set_option maxRecDepth 100000 in
theorem c_Mo_put_00_x (l : Launch) (E : gh_E) (sz : Nat) (f : gh_F) (a : Nat) (ad : Nat → Nat) (S : Nat → Int32) (I : Nat → Nat → Int32) (J : Nat → Nat → Int64) (w cp φ : Nat) (v kk : Nat) (hX : mo_R E f a ad S I J) (h45 : S 45 = nI (w + 1)) (hw : w < 14) (hc60 : cp < 60) (hS46 : S 46 = 0) (hph : I 35 cp = 0) (hit : I 36 cp = nI v) (hv7 : v < 760) (h1v : I 1 v = nI kk) (hkk : kk ≠ 6 ∧ kk ≠ 0 ∧ kk < 100) : gh_M l y_Mo_put b_Mo_put 3 none E sz [.ref a, .int (nI cp)] f { frames := 7, cells := 0, slots := 0, locals := 200 } (fun r g => r = none ∧ ∃ S2 I2, mo_X E f g a ad S2 I2 J ∧ mct cp w (fun _ => False) (va_up (fun k => I k cp) 35 1) S I S2 I2 ∧ oc_t w 3 (S 47) S S2) := by
  refine gh_open (by decide) (Nat.le_of_ble_eq_true rfl) ?_
  intro p e s m args below meth c A ls hAe C V hr hlocks hname hl
  have hx := C.1
  have hb := C.2.1
  have hl : lv_has ls 3 [(0, .ref a), (1, .int (nI cp))] := hl
  have X : mo_X E f f a ad S I J := ⟨hX, gh_fr.rf⟩
  refine lv_aload_n hx hb d_Mo_put_0 rfl (lv_at hl 0 rfl) ?_
  refine mo_getA C V X 36 (by decide) (by decide) f_Mo_91 rfl d_Mo_put_1 ?_
  refine lv_iload_n hx hb d_Mo_put_4 rfl (lv_at hl 1 rfl) ?_
  refine mo_ild (k := 36) (i := cp) (n := 60) C V X (by decide) (by decide) rfl (by omega) (by decide) d_Mo_put_5 ?_
  rw [show I 36 cp = nI v from hit]
  refine lv_istore_n hx hb d_Mo_put_6 rfl hl (by decide) rfl (fun ls hl => ?_)
  have hl : lv_has ls 3 [(2, .int (nI v)), (0, .ref a), (1, .int (nI cp))] := hl
  refine lv_aload_n hx hb d_Mo_put_7 rfl (lv_at hl 1 rfl) ?_
  refine mo_getS (v := 0) C V X 46 (by decide) (by decide) (by first | rfl | exact hS46) f_Mo_277 rfl d_Mo_put_8 ?_
  refine lv_if_ne (tgt := 80) hx hb d_Mo_put_11 (by decide) (fun c1 => absurd (by decide) c1) (fun c1 => ?_)
  refine lv_aload_n hx hb d_Mo_put_14 rfl (lv_at hl 1 rfl) ?_
  refine mo_getA C V X 35 (by decide) (by decide) f_Mo_88 rfl d_Mo_put_15 ?_
  refine lv_iload_n hx hb d_Mo_put_18 rfl (lv_at hl 2 rfl) ?_
  refine mo_ild (k := 35) (i := cp) (n := 60) C V X (by decide) (by decide) rfl (by omega) (by decide) d_Mo_put_19 ?_
  rw [show I 35 cp = 0 from hph]
  refine lv_if_ne (tgt := 80) hx hb d_Mo_put_20 (by decide) (fun c2 => absurd (by decide) c2) (fun c2 => ?_)
  refine lv_aload_n hx hb d_Mo_put_23 rfl (lv_at hl 1 rfl) ?_
  refine mo_getA C V X 35 (by decide) (by decide) f_Mo_88 rfl d_Mo_put_24 ?_
  refine lv_iload_n hx hb d_Mo_put_27 rfl (lv_at hl 2 rfl) ?_
  refine lv_iconst (v := 1) hx hb d_Mo_put_28 (by decide) ?_
  refine mo_ist (k := 35) (i := cp) (n := 60) C V X (by decide) (by decide) rfl (by omega) (by decide) d_Mo_put_29 (fun f1 H locs V1 X1 => ?_)
  clear V X
  have V := V1
  have X := X1
  clear V1 X1
  refine lv_aload_n hx hb d_Mo_put_30 rfl (lv_at hl 1 rfl) ?_
  refine mo_getA C V X 1 (by decide) (by decide) f_Mo_7 rfl d_Mo_put_31 ?_
  refine lv_iload_n hx hb d_Mo_put_34 rfl (lv_at hl 0 rfl) ?_
  refine mo_ild (k := 1) (i := v) (n := 760) C V X (by decide) (by decide) rfl (by omega) (by decide) d_Mo_put_35 ?_
  rw [show (va_up I 35 (upd (I 35) cp 1)) 1 v = nI kk from ((congrFun (va_up_n (by decide)) v).trans (h1v))]
  refine lv_bipush (v := 6) hx hb d_Mo_put_36 (by decide) ?_
  refine lv_icmp_eq (tgt := 50) hx hb d_Mo_put_38 (by decide) (fun c3 => absurd c3 (nI_nem (y := 6) (by omega) (by decide) (by omega))) (fun c3 => ?_)
  refine lv_aload_n hx hb d_Mo_put_41 rfl (lv_at hl 1 rfl) ?_
  refine mo_getA C V X 1 (by decide) (by decide) f_Mo_7 rfl d_Mo_put_42 ?_
  refine lv_iload_n hx hb d_Mo_put_45 rfl (lv_at hl 0 rfl) ?_
  refine mo_ild (k := 1) (i := v) (n := 760) C V X (by decide) (by decide) rfl (by omega) (by decide) d_Mo_put_46 ?_
  rw [show (va_up I 35 (upd (I 35) cp 1)) 1 v = nI kk from ((congrFun (va_up_n (by decide)) v).trans (h1v))]
  refine lv_if_ne (tgt := 72) hx hb d_Mo_put_47 (by decide) (fun c4 => ?_) (fun c4 => absurd c4 (nI_nem (y := 0) (by omega) (by decide) (by omega)))
  refine lv_aload_n hx hb d_Mo_put_72 rfl (lv_at hl 1 rfl) ?_
  refine lv_iconst (v := 3) hx hb d_Mo_put_73 (by decide) ?_
  refine gh_callV C V hl.1 m_Mo_tell l_Mo_289 (c_Mo_tell l E _ _ a ad _ _ _ 3 w X.1 h45) rfl X.1.1 gc_Mo ⟨by first | decide | omega | (dsimp only; omega), by first | decide | omega | (dsimp only; omega)⟩ ⟨by first | decide | omega | (dsimp only; omega), by first | decide | omega | (dsimp only; omega)⟩ (Nat.le_of_ble_eq_true rfl) rfl d_Mo_put_74 (fun r z9 H locs hp V1 => ?_)
  obtain ⟨rfl, X2⟩ := hp
  have X := X.then X2
  have V := V1
  refine W.eq (g2 := F0 m 77 ls []) rfl ?_
  refine lv_goto (tgt := 184) hx hb d_Mo_put_77 (by decide) ?_
  refine gh_retv hAe C V hr hlocks d_Mo_put_184 (by first | decide | omega | (dsimp only; omega)) (by first | decide | omega | (dsimp only; omega)) ?_
  exact ⟨rfl, _, _, X, (mct.rf.cell 35 1 (by decide) (by decide)).tell, oc_t1 rfl rfl rfl⟩
set_option maxHeartbeats 4000000 in
set_option maxRecDepth 100000 in
theorem c_Mo_put_01 (l : Launch) (E : gh_E) (sz : Nat) (f : gh_F) (a : Nat) (ad : Nat → Nat) (S : Nat → Int32) (I : Nat → Nat → Int32) (J : Nat → Nat → Int64) (w cp φ : Nat) (p0 : Nat) (hX : mo_R E f a ad S I J) (h45 : S 45 = nI (w + 1)) (hw : w < 14) (hc60 : cp < 60) (hp0c : I 34 (3 * cp) = nI p0) (hq0 : cp < p0 ∧ p0 < 60) (hS46 : S 46 = 0) (hph : I 35 cp = 1) : gh_M l y_Mo_put b_Mo_put 3 none E sz [.ref a, .int (nI cp)] f { frames := 7, cells := 0, slots := 0, locals := 200 } (fun r g => r = none ∧ ∃ S2 I2, mo_X E f g a ad S2 I2 J ∧ mct cp w (fun _ => False) (fun k => I k cp) S I S2 I2 ∧ oc_a w p0 S S2 I2) := by
  refine gh_open (by decide) (Nat.le_of_ble_eq_true rfl) ?_
  intro p e s m args below meth c A ls hAe C V hr hlocks hname hl
  have hx := C.1
  have hb := C.2.1
  have hl : lv_has ls 3 [(0, .ref a), (1, .int (nI cp))] := hl
  have X : mo_X E f f a ad S I J := ⟨hX, gh_fr.rf⟩
  refine lv_aload_n hx hb d_Mo_put_0 rfl (lv_at hl 0 rfl) ?_
  refine mo_getA C V X 36 (by decide) (by decide) f_Mo_91 rfl d_Mo_put_1 ?_
  refine lv_iload_n hx hb d_Mo_put_4 rfl (lv_at hl 1 rfl) ?_
  refine mo_ild (k := 36) (i := cp) (n := 60) C V X (by decide) (by decide) rfl (by omega) (by decide) d_Mo_put_5 ?_
  rw [show I 36 cp = I 36 cp from rfl]
  refine lv_istore_n hx hb d_Mo_put_6 rfl hl (by decide) rfl (fun ls hl => ?_)
  have hl : lv_has ls 3 [(2, .int (I 36 cp)), (0, .ref a), (1, .int (nI cp))] := hl
  refine lv_aload_n hx hb d_Mo_put_7 rfl (lv_at hl 1 rfl) ?_
  refine mo_getS (v := 0) C V X 46 (by decide) (by decide) (by first | rfl | exact hS46) f_Mo_277 rfl d_Mo_put_8 ?_
  refine lv_if_ne (tgt := 80) hx hb d_Mo_put_11 (by decide) (fun c1 => absurd (by decide) c1) (fun c1 => ?_)
  refine lv_aload_n hx hb d_Mo_put_14 rfl (lv_at hl 1 rfl) ?_
  refine mo_getA C V X 35 (by decide) (by decide) f_Mo_88 rfl d_Mo_put_15 ?_
  refine lv_iload_n hx hb d_Mo_put_18 rfl (lv_at hl 2 rfl) ?_
  refine mo_ild (k := 35) (i := cp) (n := 60) C V X (by decide) (by decide) rfl (by omega) (by decide) d_Mo_put_19 ?_
  rw [show I 35 cp = 1 from hph]
  refine lv_if_ne (tgt := 80) hx hb d_Mo_put_20 (by decide) (fun c2 => ?_) (fun c2 => absurd c2 (by decide))
  refine lv_aload_n hx hb d_Mo_put_80 rfl (lv_at hl 1 rfl) ?_
  refine mo_getS (v := 0) C V X 46 (by decide) (by decide) (by first | rfl | exact hS46) f_Mo_277 rfl d_Mo_put_81 ?_
  refine lv_if_ne (tgt := 102) hx hb d_Mo_put_84 (by decide) (fun c3 => absurd (by decide) c3) (fun c3 => ?_)
  refine lv_aload_n hx hb d_Mo_put_87 rfl (lv_at hl 1 rfl) ?_
  refine lv_aload_n hx hb d_Mo_put_88 rfl (lv_at hl 1 rfl) ?_
  refine mo_getA C V X 34 (by decide) (by decide) f_Mo_85 rfl d_Mo_put_89 ?_
  refine lv_iconst (v := 3) hx hb d_Mo_put_92 (by decide) ?_
  refine lv_iload_n hx hb d_Mo_put_93 rfl (lv_at hl 2 rfl) ?_
  refine gn_imul (a := 3) (b := cp) hx hb d_Mo_put_94 ?_
  refine mo_ild (k := 34) (i := 3 * cp) (n := 180) C V X (by decide) (by decide) rfl (by omega) (by decide) d_Mo_put_95 ?_
  rw [show I 34 (3 * cp) = nI p0 from hp0c]
  refine gh_callV C V hl.1 m_Mo_ask l_Mo_283 (c_Mo_ask l E _ _ a ad _ _ _ (nI p0) (w + 1) X.1 h45 (by omega)) rfl X.1.1 gc_Mo ⟨by first | decide | omega | (dsimp only; omega), by first | decide | omega | (dsimp only; omega)⟩ ⟨by first | decide | omega | (dsimp only; omega), by first | decide | omega | (dsimp only; omega)⟩ (Nat.le_of_ble_eq_true rfl) rfl d_Mo_put_96 (fun r z9 H locs hp V1 => ?_)
  obtain ⟨rfl, X2⟩ := hp
  have X := X.then X2
  have V := V1
  refine W.eq (g2 := F0 m 99 ls []) rfl ?_
  refine lv_goto (tgt := 184) hx hb d_Mo_put_99 (by decide) ?_
  refine gh_retv hAe C V hr hlocks d_Mo_put_184 (by first | decide | omega | (dsimp only; omega)) (by first | decide | omega | (dsimp only; omega)) ?_
  exact ⟨rfl, _, _, X, mct.rf.ask, oc_a1 rfl rfl⟩
set_option maxHeartbeats 4000000 in
set_option maxRecDepth 100000 in
theorem c_Mo_put_2 (l : Launch) (E : gh_E) (sz : Nat) (f : gh_F) (a : Nat) (ad : Nat → Nat) (S : Nat → Int32) (I : Nat → Nat → Int32) (J : Nat → Nat → Int64) (w cp φ : Nat) (hX : mo_R E f a ad S I J) (h45 : S 45 = nI (w + 1)) (hw : w < 14) (hc60 : cp < 60) (hS46 : S 46 = 2) : gh_M l y_Mo_put b_Mo_put 3 none E sz [.ref a, .int (nI cp)] f { frames := 7, cells := 0, slots := 0, locals := 200 } (fun r g => r = none ∧ ∃ S2 I2, mo_X E f g a ad S2 I2 J ∧ mct cp w (fun _ => False) (fun k => I k cp) S I S2 I2 ∧ oc_t w 2 (S 47) S S2) := by
  refine gh_open (by decide) (Nat.le_of_ble_eq_true rfl) ?_
  intro p e s m args below meth c A ls hAe C V hr hlocks hname hl
  have hx := C.1
  have hb := C.2.1
  have hl : lv_has ls 3 [(0, .ref a), (1, .int (nI cp))] := hl
  have X : mo_X E f f a ad S I J := ⟨hX, gh_fr.rf⟩
  refine lv_aload_n hx hb d_Mo_put_0 rfl (lv_at hl 0 rfl) ?_
  refine mo_getA C V X 36 (by decide) (by decide) f_Mo_91 rfl d_Mo_put_1 ?_
  refine lv_iload_n hx hb d_Mo_put_4 rfl (lv_at hl 1 rfl) ?_
  refine mo_ild (k := 36) (i := cp) (n := 60) C V X (by decide) (by decide) rfl (by omega) (by decide) d_Mo_put_5 ?_
  rw [show I 36 cp = I 36 cp from rfl]
  refine lv_istore_n hx hb d_Mo_put_6 rfl hl (by decide) rfl (fun ls hl => ?_)
  have hl : lv_has ls 3 [(2, .int (I 36 cp)), (0, .ref a), (1, .int (nI cp))] := hl
  refine lv_aload_n hx hb d_Mo_put_7 rfl (lv_at hl 1 rfl) ?_
  refine mo_getS (v := 2) C V X 46 (by decide) (by decide) (by first | rfl | exact hS46) f_Mo_277 rfl d_Mo_put_8 ?_
  refine lv_if_ne (tgt := 80) hx hb d_Mo_put_11 (by decide) (fun c1 => ?_) (fun c1 => absurd c1 (by decide))
  refine lv_aload_n hx hb d_Mo_put_80 rfl (lv_at hl 1 rfl) ?_
  refine mo_getS (v := 2) C V X 46 (by decide) (by decide) (by first | rfl | exact hS46) f_Mo_277 rfl d_Mo_put_81 ?_
  refine lv_if_ne (tgt := 102) hx hb d_Mo_put_84 (by decide) (fun c2 => ?_) (fun c2 => absurd c2 (by decide))
  refine lv_aload_n hx hb d_Mo_put_102 rfl (lv_at hl 1 rfl) ?_
  refine mo_getS (v := 2) C V X 46 (by decide) (by decide) (by first | rfl | exact hS46) f_Mo_277 rfl d_Mo_put_103 ?_
  refine lv_iconst (v := 1) hx hb d_Mo_put_106 (by decide) ?_
  refine lv_icmp_eq (tgt := 121) hx hb d_Mo_put_107 (by decide) (fun c3 => absurd c3 (by decide)) (fun c3 => ?_)
  refine lv_aload_n hx hb d_Mo_put_110 rfl (lv_at hl 1 rfl) ?_
  refine lv_aload_n hx hb d_Mo_put_111 rfl (lv_at hl 1 rfl) ?_
  refine mo_getS (v := 2) C V X 46 (by decide) (by decide) (by first | rfl | exact hS46) f_Mo_277 rfl d_Mo_put_112 ?_
  refine gh_callV C V hl.1 m_Mo_tell l_Mo_289 (c_Mo_tell l E _ _ a ad _ _ _ 2 w X.1 h45) rfl X.1.1 gc_Mo ⟨by first | decide | omega | (dsimp only; omega), by first | decide | omega | (dsimp only; omega)⟩ ⟨by first | decide | omega | (dsimp only; omega), by first | decide | omega | (dsimp only; omega)⟩ (Nat.le_of_ble_eq_true rfl) rfl d_Mo_put_115 (fun r z9 H locs hp V1 => ?_)
  obtain ⟨rfl, X2⟩ := hp
  have X := X.then X2
  have V := V1
  refine W.eq (g2 := F0 m 118 ls []) rfl ?_
  refine lv_goto (tgt := 184) hx hb d_Mo_put_118 (by decide) ?_
  refine gh_retv hAe C V hr hlocks d_Mo_put_184 (by first | decide | omega | (dsimp only; omega)) (by first | decide | omega | (dsimp only; omega)) ?_
  exact ⟨rfl, _, _, X, mct.rf.tell, oc_t1 rfl rfl rfl⟩
set_option maxHeartbeats 4000000 in
set_option maxRecDepth 100000 in
theorem c_Mo_put_3 (l : Launch) (E : gh_E) (sz : Nat) (f : gh_F) (a : Nat) (ad : Nat → Nat) (S : Nat → Int32) (I : Nat → Nat → Int32) (J : Nat → Nat → Int64) (w cp φ : Nat) (hX : mo_R E f a ad S I J) (h45 : S 45 = nI (w + 1)) (hw : w < 14) (hc60 : cp < 60) (hS46 : S 46 = 3) : gh_M l y_Mo_put b_Mo_put 3 none E sz [.ref a, .int (nI cp)] f { frames := 7, cells := 0, slots := 0, locals := 200 } (fun r g => r = none ∧ ∃ S2 I2, mo_X E f g a ad S2 I2 J ∧ mct cp w (fun _ => False) (fun k => I k cp) S I S2 I2 ∧ oc_t w 3 (S 47) S S2) := by
  refine gh_open (by decide) (Nat.le_of_ble_eq_true rfl) ?_
  intro p e s m args below meth c A ls hAe C V hr hlocks hname hl
  have hx := C.1
  have hb := C.2.1
  have hl : lv_has ls 3 [(0, .ref a), (1, .int (nI cp))] := hl
  have X : mo_X E f f a ad S I J := ⟨hX, gh_fr.rf⟩
  refine lv_aload_n hx hb d_Mo_put_0 rfl (lv_at hl 0 rfl) ?_
  refine mo_getA C V X 36 (by decide) (by decide) f_Mo_91 rfl d_Mo_put_1 ?_
  refine lv_iload_n hx hb d_Mo_put_4 rfl (lv_at hl 1 rfl) ?_
  refine mo_ild (k := 36) (i := cp) (n := 60) C V X (by decide) (by decide) rfl (by omega) (by decide) d_Mo_put_5 ?_
  rw [show I 36 cp = I 36 cp from rfl]
  refine lv_istore_n hx hb d_Mo_put_6 rfl hl (by decide) rfl (fun ls hl => ?_)
  have hl : lv_has ls 3 [(2, .int (I 36 cp)), (0, .ref a), (1, .int (nI cp))] := hl
  refine lv_aload_n hx hb d_Mo_put_7 rfl (lv_at hl 1 rfl) ?_
  refine mo_getS (v := 3) C V X 46 (by decide) (by decide) (by first | rfl | exact hS46) f_Mo_277 rfl d_Mo_put_8 ?_
  refine lv_if_ne (tgt := 80) hx hb d_Mo_put_11 (by decide) (fun c1 => ?_) (fun c1 => absurd c1 (by decide))
  refine lv_aload_n hx hb d_Mo_put_80 rfl (lv_at hl 1 rfl) ?_
  refine mo_getS (v := 3) C V X 46 (by decide) (by decide) (by first | rfl | exact hS46) f_Mo_277 rfl d_Mo_put_81 ?_
  refine lv_if_ne (tgt := 102) hx hb d_Mo_put_84 (by decide) (fun c2 => ?_) (fun c2 => absurd c2 (by decide))
  refine lv_aload_n hx hb d_Mo_put_102 rfl (lv_at hl 1 rfl) ?_
  refine mo_getS (v := 3) C V X 46 (by decide) (by decide) (by first | rfl | exact hS46) f_Mo_277 rfl d_Mo_put_103 ?_
  refine lv_iconst (v := 1) hx hb d_Mo_put_106 (by decide) ?_
  refine lv_icmp_eq (tgt := 121) hx hb d_Mo_put_107 (by decide) (fun c3 => absurd c3 (by decide)) (fun c3 => ?_)
  refine lv_aload_n hx hb d_Mo_put_110 rfl (lv_at hl 1 rfl) ?_
  refine lv_aload_n hx hb d_Mo_put_111 rfl (lv_at hl 1 rfl) ?_
  refine mo_getS (v := 3) C V X 46 (by decide) (by decide) (by first | rfl | exact hS46) f_Mo_277 rfl d_Mo_put_112 ?_
  refine gh_callV C V hl.1 m_Mo_tell l_Mo_289 (c_Mo_tell l E _ _ a ad _ _ _ 3 w X.1 h45) rfl X.1.1 gc_Mo ⟨by first | decide | omega | (dsimp only; omega), by first | decide | omega | (dsimp only; omega)⟩ ⟨by first | decide | omega | (dsimp only; omega), by first | decide | omega | (dsimp only; omega)⟩ (Nat.le_of_ble_eq_true rfl) rfl d_Mo_put_115 (fun r z9 H locs hp V1 => ?_)
  obtain ⟨rfl, X2⟩ := hp
  have X := X.then X2
  have V := V1
  refine W.eq (g2 := F0 m 118 ls []) rfl ?_
  refine lv_goto (tgt := 184) hx hb d_Mo_put_118 (by decide) ?_
  refine gh_retv hAe C V hr hlocks d_Mo_put_184 (by first | decide | omega | (dsimp only; omega)) (by first | decide | omega | (dsimp only; omega)) ?_
  exact ⟨rfl, _, _, X, mct.rf.tell, oc_t1 rfl rfl rfl⟩
set_option maxHeartbeats 4000000 in
set_option maxRecDepth 100000 in
theorem c_Mo_put_1_6 (l : Launch) (E : gh_E) (sz : Nat) (f : gh_F) (a : Nat) (ad : Nat → Nat) (S : Nat → Int32) (I : Nat → Nat → Int32) (J : Nat → Nat → Int64) (w cp φ : Nat) (b0 nv pb np : Nat) (v n1 : Nat) (O Z : vt) (u : Nat) (hX : mo_R E f a ad S I J) (h45 : S 45 = nI (w + 1)) (hw : w < 14) (hc60 : cp < 60) (h48 : S 48 = nI φ) (hφ : φ < 1000) (h49 : ¬ 0 ≤ S 49) (hS46 : S 46 = 1) (hS47 : S 47 = nI u) (h11 : S 11 = nI nv) (h12 : S 12 = nI np) (hp8 : np + 32 ≤ 8800) (hnv : nv < 760) (h29 : 29 ≤ nv) (hb0 : b0 ≤ nv) (hpb : pb ≤ np) (hc : mc I J b0 nv pb np) (hit : I 36 cp = nI v) (hO : mw I J b0 nv pb np v O) (hk : vt_k O = 6) (hZ : mw I J b0 nv pb np u Z) (h59 : cp < 59) (hn1 : I 33 (cp + 1) = nI n1) (hlt : 97 ≤ n1 ∧ n1 ≤ 122) : gh_M l y_Mo_put b_Mo_put 3 none E sz [.ref a, .int (nI cp)] f { frames := 9, cells := 0, slots := 0, locals := 280 } (fun r g => r = none ∧ ∃ S2 I2 J2, mo_X E f g a ad S2 I2 J2 ∧ mr_sp (vt_wm O [nI n1] Z) φ S I J b0 nv pb np w S2 I2 J2) := by
  refine gh_open (by decide) (Nat.le_of_ble_eq_true rfl) ?_
  intro p e s m args below meth c A ls hAe C V hr hlocks hname hl
  have hx := C.1
  have hb := C.2.1
  have hl : lv_has ls 3 [(0, .ref a), (1, .int (nI cp))] := hl
  have X : mo_X E f f a ad S I J := ⟨hX, gh_fr.rf⟩
  refine lv_aload_n hx hb d_Mo_put_0 rfl (lv_at hl 0 rfl) ?_
  refine mo_getA C V X 36 (by decide) (by decide) f_Mo_91 rfl d_Mo_put_1 ?_
  refine lv_iload_n hx hb d_Mo_put_4 rfl (lv_at hl 1 rfl) ?_
  refine mo_ild (k := 36) (i := cp) (n := 60) C V X (by decide) (by decide) rfl (by omega) (by decide) d_Mo_put_5 ?_
  rw [show I 36 cp = nI v from hit]
  refine lv_istore_n hx hb d_Mo_put_6 rfl hl (by decide) rfl (fun ls hl => ?_)
  have hl : lv_has ls 3 [(2, .int (nI v)), (0, .ref a), (1, .int (nI cp))] := hl
  refine lv_aload_n hx hb d_Mo_put_7 rfl (lv_at hl 1 rfl) ?_
  refine mo_getS (v := 1) C V X 46 (by decide) (by decide) (by first | rfl | exact hS46) f_Mo_277 rfl d_Mo_put_8 ?_
  refine lv_if_ne (tgt := 80) hx hb d_Mo_put_11 (by decide) (fun c1 => ?_) (fun c1 => absurd c1 (by decide))
  refine lv_aload_n hx hb d_Mo_put_80 rfl (lv_at hl 1 rfl) ?_
  refine mo_getS (v := 1) C V X 46 (by decide) (by decide) (by first | rfl | exact hS46) f_Mo_277 rfl d_Mo_put_81 ?_
  refine lv_if_ne (tgt := 102) hx hb d_Mo_put_84 (by decide) (fun c2 => ?_) (fun c2 => absurd c2 (by decide))
  refine lv_aload_n hx hb d_Mo_put_102 rfl (lv_at hl 1 rfl) ?_
  refine mo_getS (v := 1) C V X 46 (by decide) (by decide) (by first | rfl | exact hS46) f_Mo_277 rfl d_Mo_put_103 ?_
  refine lv_iconst (v := 1) hx hb d_Mo_put_106 (by decide) ?_
  refine lv_icmp_eq (tgt := 121) hx hb d_Mo_put_107 (by decide) (fun c3 => ?_) (fun c3 => absurd (by decide) c3)
  refine lv_aload_n hx hb d_Mo_put_121 rfl (lv_at hl 1 rfl) ?_
  refine gh_callV C V hl.1 m_Mo_spent l_Mo_280 (c_Mo_spent l E _ _ a ad _ _ _ φ X.1 h48 hφ) rfl X.1.1 gc_Mo ⟨by first | decide | omega | (dsimp only; omega), by first | decide | omega | (dsimp only; omega)⟩ ⟨by first | decide | omega | (dsimp only; omega), by first | decide | omega | (dsimp only; omega)⟩ (Nat.le_of_ble_eq_true rfl) rfl d_Mo_put_122 (fun r z9 H locs hp V1 => ?_)
  have V := V1
  by_cases hz : φ = 0
  · obtain ⟨rfl, X2⟩ := hp.1 hz
    have X := X.then X2
    refine W.eq (g2 := F0 m 125 ls [.int (gh_bi false)]) rfl ?_
    refine lv_if_eq (tgt := 184) hx hb d_Mo_put_125 (by decide) (fun c4 => ?_) (fun c4 => absurd (by decide) c4)
    refine gh_retv hAe C V hr hlocks d_Mo_put_184 (by first | decide | omega | (dsimp only; omega)) (by first | decide | omega | (dsimp only; omega)) ?_
    exact ⟨rfl, _, _, _, X, Or.inl ⟨hz, rfl, rfl, rfl⟩⟩
  · obtain ⟨rfl, X2⟩ := hp.2 (by omega)
    rw [decide_eq_false (show ¬ 0 ≤ S 49 from h49)]
    have X := X.then X2
    refine W.eq (g2 := F0 m 125 ls [.int (gh_bi true)]) rfl ?_
    refine lv_if_eq (tgt := 184) hx hb d_Mo_put_125 (by decide) (fun c5 => absurd c5 (by decide)) (fun c5 => ?_)
    refine lv_aload_n hx hb d_Mo_put_128 rfl (lv_at hl 1 rfl) ?_
    refine lv_iconst (v := 0) hx hb d_Mo_put_129 (by decide) ?_
    refine mo_putS C V X 16 (by decide) (by decide) f_Mo_156 rfl rfl rfl d_Mo_put_130 (fun f1 H locs V1 X1 => ?_)
    clear V X
    have V := V1
    have X := X1
    clear V1 X1
    refine lv_aload_n hx hb d_Mo_put_133 rfl (lv_at hl 1 rfl) ?_
    refine lv_iload_n hx hb d_Mo_put_134 rfl (lv_at hl 0 rfl) ?_
    have hg0 : mg (va_up (va_up S 48 (nI (φ - 1))) 16 0) I J b0 nv pb np [] [] := ⟨fun _ => 0, fun _ => 0, va_up_s, Nat.zero_le _, Nat.le_refl _, fun j hj => absurd hj (Nat.not_lt_zero j), fun j hj => absurd hj (Nat.not_lt_zero j)⟩
    have hc16 := (vo_o.mp hO.2).2.2.2.2.2.2.1
    refine gh_callV C V hl.1 m_Mo_addAll l_Mo_361 (c_Mo_addAll6 l E _ _ a ad _ _ _ b0 nv pb np v [] [] O X.1 hg0 hO (by omega) (by simp; omega) rfl hk) rfl X.1.1 gc_Mo ⟨by first | decide | omega | (dsimp only; omega), by first | decide | omega | (dsimp only; omega)⟩ ⟨by first | decide | omega | (dsimp only; omega), by first | decide | omega | (dsimp only; omega)⟩ (Nat.le_of_ble_eq_true rfl) rfl d_Mo_put_135 (fun r z9 H locs hp V1 => ?_)
    obtain ⟨rfl, S3, I3, X2, hg3, ho3⟩ := hp
    have X := X.then X2
    have V := V1
    have hgo3 : mg_o (va_up S 48 (nI (φ - 1))) I S3 I3 := mg_o.tr ⟨fun _ _ _ => rfl, fun k h => va_up_n h⟩ ho3
    have hm3 : ma I J I3 J b0 nv pb np := hgo3.ma
    have hn3 : I3 33 (cp + 1) = nI n1 := by rw [hgo3.1 33 (by decide) (by decide)]; exact hn1
    have hS47b : S3 47 = nI u := by rw [hgo3.2 47 (by decide), va_up_n (by decide)]; exact hS47
    have hS47 := hS47b
    have hl1 := vt_pua_up (O := O) (n := vt_c O) (i := 0) (s := ([], []))
    simp only [List.length_nil] at hl1
    refine W.eq (g2 := F0 m 138 ls []) rfl ?_
    refine lv_aload_n hx hb d_Mo_put_138 rfl (lv_at hl 1 rfl) ?_
    refine lv_aload_n hx hb d_Mo_put_139 rfl (lv_at hl 1 rfl) ?_
    refine mo_getA C V X 33 (by decide) (by decide) f_Mo_82 rfl d_Mo_put_140 ?_
    refine lv_iload_n hx hb d_Mo_put_143 rfl (lv_at hl 2 rfl) ?_
    refine lv_iconst (v := 1) hx hb d_Mo_put_144 (by decide) ?_
    refine gn_iadd (a := cp) (b := 1) hx hb d_Mo_put_145 ?_
    refine mo_ild (k := 33) (i := cp + 1) (n := 60) C V X (by decide) (by decide) rfl (by omega) (by decide) d_Mo_put_146 ?_
    rw [show I3 33 (cp + 1) = nI n1 from hn3]
    refine lv_bipush (v := 94) hx hb d_Mo_put_147 (by decide) ?_
    refine gn_isub (a := n1) (b := 94) hx hb (by omega) d_Mo_put_149 ?_
    refine lv_aload_n hx hb d_Mo_put_150 rfl (lv_at hl 1 rfl) ?_
    refine mo_getS (v := nI u) C V X 47 (by decide) (by decide) (by first | rfl | exact hS47) f_Mo_286 rfl d_Mo_put_151 ?_
    have hle := (hc.keep hm3 (Nat.le_refl _) (Nat.le_refl _) (by omega)).2.2.2 (n1 - 97) (by omega)
    rw [show 3 + (n1 - 97) = n1 - 94 by omega, show 97 + (n1 - 97) = n1 by omega] at hle
    refine gh_callV C V hl.1 m_Mo_member l_Mo_227 (c_Mo_member l E _ _ a ad _ _ _ b0 nv pb np (n1 - 94) u (vt_pua O (vt_c O) 0 ([], [])).1 (vt_pua O (vt_c O) 0 ([], [])).2 [nI n1] Z X.1 hg3 (vt_pua_eq rfl) (by omega) (hZ.keep hm3 (Nat.le_refl _) (Nat.le_refl _) (by omega)) hle (lt_one hlt) (by omega)) rfl X.1.1 gc_Mo ⟨by first | decide | omega | (dsimp only; omega), by first | decide | omega | (dsimp only; omega)⟩ ⟨by first | decide | omega | (dsimp only; omega), by first | decide | omega | (dsimp only; omega)⟩ (Nat.le_of_ble_eq_true rfl) rfl d_Mo_put_154 (fun r z9 H locs hp V1 => ?_)
    obtain ⟨rfl, S4, I4, X2, hg4, ho4⟩ := hp
    have X := X.then X2
    have V := V1
    have hg4 : mg S4 I4 J b0 nv pb np (vt_pu (vt_pua O (vt_c O) 0 ([], [])) [nI n1] Z).1 (vt_pu (vt_pua O (vt_c O) 0 ([], [])) [nI n1] Z).2 := hg4
    have hgo4 : mg_o (va_up S 48 (nI (φ - 1))) I S4 I4 := hgo3.tr ho4
    have hl2 := (vt_pu_len (s := (vt_pua O (vt_c O) 0 ([], []))) (L := [nI n1]) (X := Z)).2
    have he2 : (vt_pu (vt_pua O (vt_c O) 0 ([], [])) [nI n1] Z).1.length = (vt_pu (vt_pua O (vt_c O) 0 ([], [])) [nI n1] Z).2.length := vt_pu_eq (vt_pua_eq rfl)
    have hS16 : S4 16 = nI (vt_pu (vt_pua O (vt_c O) 0 ([], [])) [nI n1] Z).2.length := hg4.choose_spec.choose_spec.1
    have h11a : S4 11 = nI nv := by rw [hgo4.2 11 (by decide), va_up_n (by decide)]; exact h11
    have h12a : S4 12 = nI np := by rw [hgo4.2 12 (by decide), va_up_n (by decide)]; exact h12
    have h45 : S4 45 = nI (w + 1) := by rw [hgo4.2 45 (by decide), va_up_n (by decide)]; exact h45
    refine W.eq (g2 := F0 m 157 ls []) rfl ?_
    refine lv_aload_n hx hb d_Mo_put_157 rfl (lv_at hl 1 rfl) ?_
    refine mo_getS (v := nI ((vt_pu (vt_pua O (vt_c O) 0 ([], [])) [nI n1] Z).2.length)) C V X 16 (by decide) (by decide) (by first | rfl | exact hS16) f_Mo_156 rfl d_Mo_put_158 ?_
    refine lv_bipush (v := 16) hx hb d_Mo_put_161 (by decide) ?_
    refine lv_icmp_le (tgt := 174) hx hb d_Mo_put_163 (by decide) (fun c6 => ?_) (fun c6 => ?_)
    · have c6 : ((vt_pu (vt_pua O (vt_c O) 0 ([], [])) [nI n1] Z).2.length) ≤ 16 := by rw [← gq_le (a := (vt_pu (vt_pua O (vt_c O) 0 ([], [])) [nI n1] Z).2.length) (b := 16) (by omega) (by omega)]; exact c6
      refine lv_aload_n hx hb d_Mo_put_174 rfl (lv_at hl 1 rfl) ?_
      refine lv_aload_n hx hb d_Mo_put_175 rfl (lv_at hl 1 rfl) ?_
      refine lv_bipush (v := 6) hx hb d_Mo_put_176 (by decide) ?_
      refine gh_callV C V hl.1 m_Mo_seal l_Mo_230 (c_Mo_seal l E _ _ a ad _ _ _ b0 nv pb np 6 (vt_pu (vt_pua O (vt_c O) 0 ([], [])) [nI n1] Z).1 (vt_pu (vt_pua O (vt_c O) 0 ([], [])) [nI n1] Z).2 X.1 hg4 h11a h12a hnv h29 (by omega) (by omega) (Or.inr rfl)) rfl X.1.1 gc_Mo ⟨by first | decide | omega | (dsimp only; omega), by first | decide | omega | (dsimp only; omega)⟩ ⟨by first | decide | omega | (dsimp only; omega), by first | decide | omega | (dsimp only; omega)⟩ (Nat.le_of_ble_eq_true rfl) rfl d_Mo_put_178 (fun r z9 H locs hp V1 => ?_)
      obtain ⟨rfl, S6, I6, J6, X2, hsl⟩ := hp
      have hsl : sl_o S4 I4 J b0 nv pb np 6 (vt_pu (vt_pua O (vt_c O) 0 ([], [])) [nI n1] Z).2 S6 I6 J6 := hsl
      have X := X.then X2
      have V := V1
      have h456 : S6 45 = nI (w + 1) := by rw [hsl.2.2.2.1 45 (by decide) (by decide)]; exact h45
      refine W.eq (g2 := F0 m 181 ls [.int (nI nv), .ref a]) rfl ?_
      have hlim := mg_lim hg4
      refine gh_callV C V hl.1 m_Mo_check l_Mo_358 (c_Mo_check l E _ _ a ad _ _ _ nv (vt_wsum (vt_pu (vt_pua O (vt_c O) 0 ([], [])) [nI n1] Z).2) (vt_hmax (vt_pu (vt_pua O (vt_c O) 0 ([], [])) [nI n1] Z).2 + 1) w X.1 hnv hsl.2.2.2.2.2.2.2.1 hsl.2.2.2.2.2.2.2.2.1 hlim.1 (Nat.lt_of_lt_of_le (Nat.succ_lt_succ hlim.2) (by decide)) h456) rfl X.1.1 gc_Mo ⟨by first | decide | omega | (dsimp only; omega), by first | decide | omega | (dsimp only; omega)⟩ ⟨by first | decide | omega | (dsimp only; omega), by first | decide | omega | (dsimp only; omega)⟩ (Nat.le_of_ble_eq_true rfl) rfl d_Mo_put_181 (fun r z9 H locs hp V1 => ?_)
      obtain ⟨rfl, X2⟩ := hp
      have X := X.then X2
      have V := V1
      refine W.eq (g2 := F0 m 184 ls []) rfl ?_
      refine gh_retv hAe C V hr hlocks d_Mo_put_184 (by first | decide | omega | (dsimp only; omega)) (by first | decide | omega | (dsimp only; omega)) ?_
      exact ⟨rfl, _, _, _, X, Or.inr ⟨by omega, by rw [vt_wm_u]; unfold vt_mku; rw [if_pos (by omega)]; exact mr_check hgo4.un hgo4.ma hg4 hsl (Or.inr ⟨rfl, rfl, he2⟩) hb0 hnv hpb (by omega) (by omega)⟩⟩
    · have c6 : ¬ ((vt_pu (vt_pua O (vt_c O) 0 ([], [])) [nI n1] Z).2.length) ≤ 16 := by rw [← gq_le (a := (vt_pu (vt_pua O (vt_c O) 0 ([], [])) [nI n1] Z).2.length) (b := 16) (by omega) (by omega)]; exact c6
      refine lv_aload_n hx hb d_Mo_put_166 rfl (lv_at hl 1 rfl) ?_
      refine lv_iconst (v := 3) hx hb d_Mo_put_167 (by decide) ?_
      refine gh_callV C V hl.1 m_Mo_tell l_Mo_289 (c_Mo_tell l E _ _ a ad _ _ _ 3 w X.1 h45) rfl X.1.1 gc_Mo ⟨by first | decide | omega | (dsimp only; omega), by first | decide | omega | (dsimp only; omega)⟩ ⟨by first | decide | omega | (dsimp only; omega), by first | decide | omega | (dsimp only; omega)⟩ (Nat.le_of_ble_eq_true rfl) rfl d_Mo_put_168 (fun r z9 H locs hp V1 => ?_)
      obtain ⟨rfl, X2⟩ := hp
      have X := X.then X2
      have V := V1
      refine W.eq (g2 := F0 m 171 ls []) rfl ?_
      refine lv_goto (tgt := 184) hx hb d_Mo_put_171 (by decide) ?_
      refine gh_retv hAe C V hr hlocks d_Mo_put_184 (by first | decide | omega | (dsimp only; omega)) (by first | decide | omega | (dsimp only; omega)) ?_
      exact ⟨rfl, _, _, _, X, Or.inr ⟨by omega, by rw [vt_wm_u]; unfold vt_mku; rw [if_neg (by omega)]; exact mr_failG hgo4.un hgo4.ma h11a h12a (by omega)⟩⟩
set_option maxHeartbeats 4000000 in
set_option maxRecDepth 100000 in
theorem c_Mo_put_1_0 (l : Launch) (E : gh_E) (sz : Nat) (f : gh_F) (a : Nat) (ad : Nat → Nat) (S : Nat → Int32) (I : Nat → Nat → Int32) (J : Nat → Nat → Int64) (w cp φ : Nat) (b0 nv pb np : Nat) (v n1 : Nat) (O Z : vt) (u : Nat) (hX : mo_R E f a ad S I J) (h45 : S 45 = nI (w + 1)) (hw : w < 14) (hc60 : cp < 60) (h48 : S 48 = nI φ) (hφ : φ < 1000) (h49 : ¬ 0 ≤ S 49) (hS46 : S 46 = 1) (hS47 : S 47 = nI u) (h11 : S 11 = nI nv) (h12 : S 12 = nI np) (hp8 : np + 32 ≤ 8800) (hnv : nv < 760) (h29 : 29 ≤ nv) (hb0 : b0 ≤ nv) (hpb : pb ≤ np) (hc : mc I J b0 nv pb np) (hit : I 36 cp = nI v) (hO : mw I J b0 nv pb np v O) (hk : vt_k O = 0) (hZ : mw I J b0 nv pb np u Z) (h59 : cp < 59) (hn1 : I 33 (cp + 1) = nI n1) (hlt : 97 ≤ n1 ∧ n1 ≤ 122) : gh_M l y_Mo_put b_Mo_put 3 none E sz [.ref a, .int (nI cp)] f { frames := 9, cells := 0, slots := 0, locals := 280 } (fun r g => r = none ∧ ∃ S2 I2 J2, mo_X E f g a ad S2 I2 J2 ∧ mr_sp (vt_wm O [nI n1] Z) φ S I J b0 nv pb np w S2 I2 J2) := by
  refine gh_open (by decide) (Nat.le_of_ble_eq_true rfl) ?_
  intro p e s m args below meth c A ls hAe C V hr hlocks hname hl
  have hx := C.1
  have hb := C.2.1
  have hl : lv_has ls 3 [(0, .ref a), (1, .int (nI cp))] := hl
  have X : mo_X E f f a ad S I J := ⟨hX, gh_fr.rf⟩
  refine lv_aload_n hx hb d_Mo_put_0 rfl (lv_at hl 0 rfl) ?_
  refine mo_getA C V X 36 (by decide) (by decide) f_Mo_91 rfl d_Mo_put_1 ?_
  refine lv_iload_n hx hb d_Mo_put_4 rfl (lv_at hl 1 rfl) ?_
  refine mo_ild (k := 36) (i := cp) (n := 60) C V X (by decide) (by decide) rfl (by omega) (by decide) d_Mo_put_5 ?_
  rw [show I 36 cp = nI v from hit]
  refine lv_istore_n hx hb d_Mo_put_6 rfl hl (by decide) rfl (fun ls hl => ?_)
  have hl : lv_has ls 3 [(2, .int (nI v)), (0, .ref a), (1, .int (nI cp))] := hl
  refine lv_aload_n hx hb d_Mo_put_7 rfl (lv_at hl 1 rfl) ?_
  refine mo_getS (v := 1) C V X 46 (by decide) (by decide) (by first | rfl | exact hS46) f_Mo_277 rfl d_Mo_put_8 ?_
  refine lv_if_ne (tgt := 80) hx hb d_Mo_put_11 (by decide) (fun c1 => ?_) (fun c1 => absurd c1 (by decide))
  refine lv_aload_n hx hb d_Mo_put_80 rfl (lv_at hl 1 rfl) ?_
  refine mo_getS (v := 1) C V X 46 (by decide) (by decide) (by first | rfl | exact hS46) f_Mo_277 rfl d_Mo_put_81 ?_
  refine lv_if_ne (tgt := 102) hx hb d_Mo_put_84 (by decide) (fun c2 => ?_) (fun c2 => absurd c2 (by decide))
  refine lv_aload_n hx hb d_Mo_put_102 rfl (lv_at hl 1 rfl) ?_
  refine mo_getS (v := 1) C V X 46 (by decide) (by decide) (by first | rfl | exact hS46) f_Mo_277 rfl d_Mo_put_103 ?_
  refine lv_iconst (v := 1) hx hb d_Mo_put_106 (by decide) ?_
  refine lv_icmp_eq (tgt := 121) hx hb d_Mo_put_107 (by decide) (fun c3 => ?_) (fun c3 => absurd (by decide) c3)
  refine lv_aload_n hx hb d_Mo_put_121 rfl (lv_at hl 1 rfl) ?_
  refine gh_callV C V hl.1 m_Mo_spent l_Mo_280 (c_Mo_spent l E _ _ a ad _ _ _ φ X.1 h48 hφ) rfl X.1.1 gc_Mo ⟨by first | decide | omega | (dsimp only; omega), by first | decide | omega | (dsimp only; omega)⟩ ⟨by first | decide | omega | (dsimp only; omega), by first | decide | omega | (dsimp only; omega)⟩ (Nat.le_of_ble_eq_true rfl) rfl d_Mo_put_122 (fun r z9 H locs hp V1 => ?_)
  have V := V1
  by_cases hz : φ = 0
  · obtain ⟨rfl, X2⟩ := hp.1 hz
    have X := X.then X2
    refine W.eq (g2 := F0 m 125 ls [.int (gh_bi false)]) rfl ?_
    refine lv_if_eq (tgt := 184) hx hb d_Mo_put_125 (by decide) (fun c4 => ?_) (fun c4 => absurd (by decide) c4)
    refine gh_retv hAe C V hr hlocks d_Mo_put_184 (by first | decide | omega | (dsimp only; omega)) (by first | decide | omega | (dsimp only; omega)) ?_
    exact ⟨rfl, _, _, _, X, Or.inl ⟨hz, rfl, rfl, rfl⟩⟩
  · obtain ⟨rfl, X2⟩ := hp.2 (by omega)
    rw [decide_eq_false (show ¬ 0 ≤ S 49 from h49)]
    have X := X.then X2
    refine W.eq (g2 := F0 m 125 ls [.int (gh_bi true)]) rfl ?_
    refine lv_if_eq (tgt := 184) hx hb d_Mo_put_125 (by decide) (fun c5 => absurd c5 (by decide)) (fun c5 => ?_)
    refine lv_aload_n hx hb d_Mo_put_128 rfl (lv_at hl 1 rfl) ?_
    refine lv_iconst (v := 0) hx hb d_Mo_put_129 (by decide) ?_
    refine mo_putS C V X 16 (by decide) (by decide) f_Mo_156 rfl rfl rfl d_Mo_put_130 (fun f1 H locs V1 X1 => ?_)
    clear V X
    have V := V1
    have X := X1
    clear V1 X1
    refine lv_aload_n hx hb d_Mo_put_133 rfl (lv_at hl 1 rfl) ?_
    refine lv_iload_n hx hb d_Mo_put_134 rfl (lv_at hl 0 rfl) ?_
    have hg0 : mg (va_up (va_up S 48 (nI (φ - 1))) 16 0) I J b0 nv pb np [] [] := ⟨fun _ => 0, fun _ => 0, va_up_s, Nat.zero_le _, Nat.le_refl _, fun j hj => absurd hj (Nat.not_lt_zero j), fun j hj => absurd hj (Nat.not_lt_zero j)⟩
    have hc16 := (vo_o.mp hO.2).2.2.2.2.2.2.1
    refine gh_callV C V hl.1 m_Mo_addAll l_Mo_361 (c_Mo_addAll0 l E _ _ a ad _ _ _ v X.1 hO.lt (by rw [(mv_o.mp hO.1).2.1, hk])) rfl X.1.1 gc_Mo ⟨by first | decide | omega | (dsimp only; omega), by first | decide | omega | (dsimp only; omega)⟩ ⟨by first | decide | omega | (dsimp only; omega), by first | decide | omega | (dsimp only; omega)⟩ (Nat.le_of_ble_eq_true rfl) rfl d_Mo_put_135 (fun r z9 H locs hp V1 => ?_)
    obtain ⟨rfl, he9⟩ := hp
    rw [he9] at V1
    have hc0 : vt_c O = 0 := (vo_o.mp hO.2).2.2.2.2.2.1 (by omega)
    have hP1 : (vt_pua O (vt_c O) 0 ([], [])) = ([], []) := by rw [hc0]; rfl
    obtain ⟨S3, hS3⟩ : ∃ q, q = (va_up (va_up S 48 (nI (φ - 1))) 16 0) := ⟨_, rfl⟩
    obtain ⟨I3, hI3⟩ : ∃ q, q = I := ⟨_, rfl⟩
    have ho3 : mg_o (va_up (va_up S 48 (nI (φ - 1))) 16 0) I S3 I3 := by rw [hS3, hI3]; exact ⟨fun _ _ _ => rfl, fun _ _ => rfl⟩
    have hg3 : mg S3 I3 J b0 nv pb np (vt_pua O (vt_c O) 0 ([], [])).1 (vt_pua O (vt_c O) 0 ([], [])).2 := by rw [hP1, hS3, hI3]; exact hg0
    rw [show (mo_X E f _ a ad (va_up (va_up S 48 (nI (φ - 1))) 16 0) I J) = (mo_X E f _ a ad S3 I3 J) by rw [hS3, hI3]] at X
    have V := V1
    have hgo3 : mg_o (va_up S 48 (nI (φ - 1))) I S3 I3 := mg_o.tr ⟨fun _ _ _ => rfl, fun k h => va_up_n h⟩ ho3
    have hm3 : ma I J I3 J b0 nv pb np := hgo3.ma
    have hn3 : I3 33 (cp + 1) = nI n1 := by rw [hgo3.1 33 (by decide) (by decide)]; exact hn1
    have hS47b : S3 47 = nI u := by rw [hgo3.2 47 (by decide), va_up_n (by decide)]; exact hS47
    have hS47 := hS47b
    have hl1 := vt_pua_up (O := O) (n := vt_c O) (i := 0) (s := ([], []))
    simp only [List.length_nil] at hl1
    refine W.eq (g2 := F0 m 138 ls []) rfl ?_
    refine lv_aload_n hx hb d_Mo_put_138 rfl (lv_at hl 1 rfl) ?_
    refine lv_aload_n hx hb d_Mo_put_139 rfl (lv_at hl 1 rfl) ?_
    refine mo_getA C V X 33 (by decide) (by decide) f_Mo_82 rfl d_Mo_put_140 ?_
    refine lv_iload_n hx hb d_Mo_put_143 rfl (lv_at hl 2 rfl) ?_
    refine lv_iconst (v := 1) hx hb d_Mo_put_144 (by decide) ?_
    refine gn_iadd (a := cp) (b := 1) hx hb d_Mo_put_145 ?_
    refine mo_ild (k := 33) (i := cp + 1) (n := 60) C V X (by decide) (by decide) rfl (by omega) (by decide) d_Mo_put_146 ?_
    rw [show I3 33 (cp + 1) = nI n1 from hn3]
    refine lv_bipush (v := 94) hx hb d_Mo_put_147 (by decide) ?_
    refine gn_isub (a := n1) (b := 94) hx hb (by omega) d_Mo_put_149 ?_
    refine lv_aload_n hx hb d_Mo_put_150 rfl (lv_at hl 1 rfl) ?_
    refine mo_getS (v := nI u) C V X 47 (by decide) (by decide) (by first | rfl | exact hS47) f_Mo_286 rfl d_Mo_put_151 ?_
    have hle := (hc.keep hm3 (Nat.le_refl _) (Nat.le_refl _) (by omega)).2.2.2 (n1 - 97) (by omega)
    rw [show 3 + (n1 - 97) = n1 - 94 by omega, show 97 + (n1 - 97) = n1 by omega] at hle
    refine gh_callV C V hl.1 m_Mo_member l_Mo_227 (c_Mo_member l E _ _ a ad _ _ _ b0 nv pb np (n1 - 94) u (vt_pua O (vt_c O) 0 ([], [])).1 (vt_pua O (vt_c O) 0 ([], [])).2 [nI n1] Z X.1 hg3 (vt_pua_eq rfl) (by omega) (hZ.keep hm3 (Nat.le_refl _) (Nat.le_refl _) (by omega)) hle (lt_one hlt) (by omega)) rfl X.1.1 gc_Mo ⟨by first | decide | omega | (dsimp only; omega), by first | decide | omega | (dsimp only; omega)⟩ ⟨by first | decide | omega | (dsimp only; omega), by first | decide | omega | (dsimp only; omega)⟩ (Nat.le_of_ble_eq_true rfl) rfl d_Mo_put_154 (fun r z9 H locs hp V1 => ?_)
    obtain ⟨rfl, S4, I4, X2, hg4, ho4⟩ := hp
    have X := X.then X2
    have V := V1
    have hg4 : mg S4 I4 J b0 nv pb np (vt_pu (vt_pua O (vt_c O) 0 ([], [])) [nI n1] Z).1 (vt_pu (vt_pua O (vt_c O) 0 ([], [])) [nI n1] Z).2 := hg4
    have hgo4 : mg_o (va_up S 48 (nI (φ - 1))) I S4 I4 := hgo3.tr ho4
    have hl2 := (vt_pu_len (s := (vt_pua O (vt_c O) 0 ([], []))) (L := [nI n1]) (X := Z)).2
    have he2 : (vt_pu (vt_pua O (vt_c O) 0 ([], [])) [nI n1] Z).1.length = (vt_pu (vt_pua O (vt_c O) 0 ([], [])) [nI n1] Z).2.length := vt_pu_eq (vt_pua_eq rfl)
    have hS16 : S4 16 = nI (vt_pu (vt_pua O (vt_c O) 0 ([], [])) [nI n1] Z).2.length := hg4.choose_spec.choose_spec.1
    have h11a : S4 11 = nI nv := by rw [hgo4.2 11 (by decide), va_up_n (by decide)]; exact h11
    have h12a : S4 12 = nI np := by rw [hgo4.2 12 (by decide), va_up_n (by decide)]; exact h12
    have h45 : S4 45 = nI (w + 1) := by rw [hgo4.2 45 (by decide), va_up_n (by decide)]; exact h45
    refine W.eq (g2 := F0 m 157 ls []) rfl ?_
    refine lv_aload_n hx hb d_Mo_put_157 rfl (lv_at hl 1 rfl) ?_
    refine mo_getS (v := nI ((vt_pu (vt_pua O (vt_c O) 0 ([], [])) [nI n1] Z).2.length)) C V X 16 (by decide) (by decide) (by first | rfl | exact hS16) f_Mo_156 rfl d_Mo_put_158 ?_
    refine lv_bipush (v := 16) hx hb d_Mo_put_161 (by decide) ?_
    refine lv_icmp_le (tgt := 174) hx hb d_Mo_put_163 (by decide) (fun c6 => ?_) (fun c6 => ?_)
    · have c6 : ((vt_pu (vt_pua O (vt_c O) 0 ([], [])) [nI n1] Z).2.length) ≤ 16 := by rw [← gq_le (a := (vt_pu (vt_pua O (vt_c O) 0 ([], [])) [nI n1] Z).2.length) (b := 16) (by omega) (by omega)]; exact c6
      refine lv_aload_n hx hb d_Mo_put_174 rfl (lv_at hl 1 rfl) ?_
      refine lv_aload_n hx hb d_Mo_put_175 rfl (lv_at hl 1 rfl) ?_
      refine lv_bipush (v := 6) hx hb d_Mo_put_176 (by decide) ?_
      refine gh_callV C V hl.1 m_Mo_seal l_Mo_230 (c_Mo_seal l E _ _ a ad _ _ _ b0 nv pb np 6 (vt_pu (vt_pua O (vt_c O) 0 ([], [])) [nI n1] Z).1 (vt_pu (vt_pua O (vt_c O) 0 ([], [])) [nI n1] Z).2 X.1 hg4 h11a h12a hnv h29 (by omega) (by omega) (Or.inr rfl)) rfl X.1.1 gc_Mo ⟨by first | decide | omega | (dsimp only; omega), by first | decide | omega | (dsimp only; omega)⟩ ⟨by first | decide | omega | (dsimp only; omega), by first | decide | omega | (dsimp only; omega)⟩ (Nat.le_of_ble_eq_true rfl) rfl d_Mo_put_178 (fun r z9 H locs hp V1 => ?_)
      obtain ⟨rfl, S6, I6, J6, X2, hsl⟩ := hp
      have hsl : sl_o S4 I4 J b0 nv pb np 6 (vt_pu (vt_pua O (vt_c O) 0 ([], [])) [nI n1] Z).2 S6 I6 J6 := hsl
      have X := X.then X2
      have V := V1
      have h456 : S6 45 = nI (w + 1) := by rw [hsl.2.2.2.1 45 (by decide) (by decide)]; exact h45
      refine W.eq (g2 := F0 m 181 ls [.int (nI nv), .ref a]) rfl ?_
      have hlim := mg_lim hg4
      refine gh_callV C V hl.1 m_Mo_check l_Mo_358 (c_Mo_check l E _ _ a ad _ _ _ nv (vt_wsum (vt_pu (vt_pua O (vt_c O) 0 ([], [])) [nI n1] Z).2) (vt_hmax (vt_pu (vt_pua O (vt_c O) 0 ([], [])) [nI n1] Z).2 + 1) w X.1 hnv hsl.2.2.2.2.2.2.2.1 hsl.2.2.2.2.2.2.2.2.1 hlim.1 (Nat.lt_of_lt_of_le (Nat.succ_lt_succ hlim.2) (by decide)) h456) rfl X.1.1 gc_Mo ⟨by first | decide | omega | (dsimp only; omega), by first | decide | omega | (dsimp only; omega)⟩ ⟨by first | decide | omega | (dsimp only; omega), by first | decide | omega | (dsimp only; omega)⟩ (Nat.le_of_ble_eq_true rfl) rfl d_Mo_put_181 (fun r z9 H locs hp V1 => ?_)
      obtain ⟨rfl, X2⟩ := hp
      have X := X.then X2
      have V := V1
      refine W.eq (g2 := F0 m 184 ls []) rfl ?_
      refine gh_retv hAe C V hr hlocks d_Mo_put_184 (by first | decide | omega | (dsimp only; omega)) (by first | decide | omega | (dsimp only; omega)) ?_
      exact ⟨rfl, _, _, _, X, Or.inr ⟨by omega, by rw [vt_wm_u]; unfold vt_mku; rw [if_pos (by omega)]; exact mr_check hgo4.un hgo4.ma hg4 hsl (Or.inr ⟨rfl, rfl, he2⟩) hb0 hnv hpb (by omega) (by omega)⟩⟩
    · have c6 : ¬ ((vt_pu (vt_pua O (vt_c O) 0 ([], [])) [nI n1] Z).2.length) ≤ 16 := by rw [← gq_le (a := (vt_pu (vt_pua O (vt_c O) 0 ([], [])) [nI n1] Z).2.length) (b := 16) (by omega) (by omega)]; exact c6
      refine lv_aload_n hx hb d_Mo_put_166 rfl (lv_at hl 1 rfl) ?_
      refine lv_iconst (v := 3) hx hb d_Mo_put_167 (by decide) ?_
      refine gh_callV C V hl.1 m_Mo_tell l_Mo_289 (c_Mo_tell l E _ _ a ad _ _ _ 3 w X.1 h45) rfl X.1.1 gc_Mo ⟨by first | decide | omega | (dsimp only; omega), by first | decide | omega | (dsimp only; omega)⟩ ⟨by first | decide | omega | (dsimp only; omega), by first | decide | omega | (dsimp only; omega)⟩ (Nat.le_of_ble_eq_true rfl) rfl d_Mo_put_168 (fun r z9 H locs hp V1 => ?_)
      obtain ⟨rfl, X2⟩ := hp
      have X := X.then X2
      have V := V1
      refine W.eq (g2 := F0 m 171 ls []) rfl ?_
      refine lv_goto (tgt := 184) hx hb d_Mo_put_171 (by decide) ?_
      refine gh_retv hAe C V hr hlocks d_Mo_put_184 (by first | decide | omega | (dsimp only; omega)) (by first | decide | omega | (dsimp only; omega)) ?_
      exact ⟨rfl, _, _, _, X, Or.inr ⟨by omega, by rw [vt_wm_u]; unfold vt_mku; rw [if_neg (by omega)]; exact mr_failG hgo4.un hgo4.ma h11a h12a (by omega)⟩⟩
