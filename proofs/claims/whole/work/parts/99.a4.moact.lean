/-! act of the model. Printed by wip/whole/gen_mo22.py. -/
theorem d_Mo_act_0 : decode b_Mo_act 0 = .ok (.aload_n 0, 1) := by decide +kernel
theorem d_Mo_act_1 : decode b_Mo_act 1 = .ok (.getfield 82, 3) := by decide +kernel
theorem d_Mo_act_4 : decode b_Mo_act 4 = .ok (.iload_n 1, 1) := by decide +kernel
theorem d_Mo_act_5 : decode b_Mo_act 5 = .ok (.iaload, 1) := by decide +kernel
theorem d_Mo_act_6 : decode b_Mo_act 6 = .ok (.istore_n 2, 1) := by decide +kernel
theorem d_Mo_act_7 : decode b_Mo_act 7 = .ok (.iload_n 2, 1) := by decide +kernel
theorem d_Mo_act_8 : decode b_Mo_act 8 = .ok (.bipush 8, 2) := by decide +kernel
theorem d_Mo_act_10 : decode b_Mo_act 10 = .ok (.if_icmp .ge 13, 3) := by decide +kernel
theorem d_Mo_act_13 : decode b_Mo_act 13 = .ok (.iload_n 2, 1) := by decide +kernel
theorem d_Mo_act_14 : decode b_Mo_act 14 = .ok (.iconst 3, 1) := by decide +kernel
theorem d_Mo_act_15 : decode b_Mo_act 15 = .ok (.if_icmp .eq 8, 3) := by decide +kernel
theorem d_Mo_act_18 : decode b_Mo_act 18 = .ok (.iload_n 2, 1) := by decide +kernel
theorem d_Mo_act_19 : decode b_Mo_act 19 = .ok (.iconst 4, 1) := by decide +kernel
theorem d_Mo_act_20 : decode b_Mo_act 20 = .ok (.if_icmp .ne 21, 3) := by decide +kernel
theorem d_Mo_act_23 : decode b_Mo_act 23 = .ok (.iload_n 2, 1) := by decide +kernel
theorem d_Mo_act_24 : decode b_Mo_act 24 = .ok (.bipush 15, 2) := by decide +kernel
theorem d_Mo_act_26 : decode b_Mo_act 26 = .ok (.if_icmp .eq 15, 3) := by decide +kernel
theorem d_Mo_act_29 : decode b_Mo_act 29 = .ok (.iload_n 2, 1) := by decide +kernel
theorem d_Mo_act_30 : decode b_Mo_act 30 = .ok (.bipush 16, 2) := by decide +kernel
theorem d_Mo_act_32 : decode b_Mo_act 32 = .ok (.if_icmp .le 13, 3) := by decide +kernel
theorem d_Mo_act_35 : decode b_Mo_act 35 = .ok (.iload_n 2, 1) := by decide +kernel
theorem d_Mo_act_36 : decode b_Mo_act 36 = .ok (.bipush 22, 2) := by decide +kernel
theorem d_Mo_act_38 : decode b_Mo_act 38 = .ok (.if_icmp .ge 7, 3) := by decide +kernel
theorem d_Mo_act_41 : decode b_Mo_act 41 = .ok (.iconst 1, 1) := by decide +kernel
theorem d_Mo_act_42 : decode b_Mo_act 42 = .ok (.goto 4, 3) := by decide +kernel
theorem d_Mo_act_45 : decode b_Mo_act 45 = .ok (.iconst 0, 1) := by decide +kernel
theorem d_Mo_act_46 : decode b_Mo_act 46 = .ok (.istore_n 3, 1) := by decide +kernel
theorem d_Mo_act_47 : decode b_Mo_act 47 = .ok (.iload_n 3, 1) := by decide +kernel
theorem d_Mo_act_48 : decode b_Mo_act 48 = .ok (.ifCond .eq 12, 3) := by decide +kernel
theorem d_Mo_act_51 : decode b_Mo_act 51 = .ok (.aload_n 0, 1) := by decide +kernel
theorem d_Mo_act_52 : decode b_Mo_act 52 = .ok (.iload_n 1, 1) := by decide +kernel
theorem d_Mo_act_53 : decode b_Mo_act 53 = .ok (.iload_n 2, 1) := by decide +kernel
theorem d_Mo_act_54 : decode b_Mo_act 54 = .ok (.invokevirtual 306, 3) := by decide +kernel
theorem d_Mo_act_57 : decode b_Mo_act 57 = .ok (.goto 122, 3) := by decide +kernel
theorem d_Mo_act_60 : decode b_Mo_act 60 = .ok (.iload_n 2, 1) := by decide +kernel
theorem d_Mo_act_61 : decode b_Mo_act 61 = .ok (.iconst 3, 1) := by decide +kernel
theorem d_Mo_act_62 : decode b_Mo_act 62 = .ok (.if_icmp .ne 11, 3) := by decide +kernel
theorem d_Mo_act_65 : decode b_Mo_act 65 = .ok (.aload_n 0, 1) := by decide +kernel
theorem d_Mo_act_66 : decode b_Mo_act 66 = .ok (.iload_n 1, 1) := by decide +kernel
theorem d_Mo_act_67 : decode b_Mo_act 67 = .ok (.invokevirtual 309, 3) := by decide +kernel
theorem d_Mo_act_70 : decode b_Mo_act 70 = .ok (.goto 109, 3) := by decide +kernel
theorem d_Mo_act_73 : decode b_Mo_act 73 = .ok (.iload_n 2, 1) := by decide +kernel
theorem d_Mo_act_74 : decode b_Mo_act 74 = .ok (.iconst 4, 1) := by decide +kernel
theorem d_Mo_act_75 : decode b_Mo_act 75 = .ok (.if_icmp .ne 11, 3) := by decide +kernel
theorem d_Mo_act_78 : decode b_Mo_act 78 = .ok (.aload_n 0, 1) := by decide +kernel
theorem d_Mo_act_79 : decode b_Mo_act 79 = .ok (.iload_n 1, 1) := by decide +kernel
theorem d_Mo_act_80 : decode b_Mo_act 80 = .ok (.invokevirtual 312, 3) := by decide +kernel
theorem d_Mo_act_83 : decode b_Mo_act 83 = .ok (.goto 96, 3) := by decide +kernel
theorem d_Mo_act_86 : decode b_Mo_act 86 = .ok (.iload_n 2, 1) := by decide +kernel
theorem d_Mo_act_87 : decode b_Mo_act 87 = .ok (.bipush 12, 2) := by decide +kernel
theorem d_Mo_act_89 : decode b_Mo_act 89 = .ok (.if_icmp .ne 11, 3) := by decide +kernel
theorem d_Mo_act_92 : decode b_Mo_act 92 = .ok (.aload_n 0, 1) := by decide +kernel
theorem d_Mo_act_93 : decode b_Mo_act 93 = .ok (.iload_n 1, 1) := by decide +kernel
theorem d_Mo_act_94 : decode b_Mo_act 94 = .ok (.invokevirtual 315, 3) := by decide +kernel
theorem d_Mo_act_97 : decode b_Mo_act 97 = .ok (.goto 82, 3) := by decide +kernel
theorem d_Mo_act_100 : decode b_Mo_act 100 = .ok (.iload_n 2, 1) := by decide +kernel
theorem d_Mo_act_101 : decode b_Mo_act 101 = .ok (.bipush 14, 2) := by decide +kernel
theorem d_Mo_act_103 : decode b_Mo_act 103 = .ok (.if_icmp .ne 11, 3) := by decide +kernel
theorem d_Mo_act_106 : decode b_Mo_act 106 = .ok (.aload_n 0, 1) := by decide +kernel
theorem d_Mo_act_107 : decode b_Mo_act 107 = .ok (.iload_n 1, 1) := by decide +kernel
theorem d_Mo_act_108 : decode b_Mo_act 108 = .ok (.invokevirtual 318, 3) := by decide +kernel
theorem d_Mo_act_111 : decode b_Mo_act 111 = .ok (.goto 68, 3) := by decide +kernel
theorem d_Mo_act_114 : decode b_Mo_act 114 = .ok (.iload_n 2, 1) := by decide +kernel
theorem d_Mo_act_115 : decode b_Mo_act 115 = .ok (.bipush 16, 2) := by decide +kernel
theorem d_Mo_act_117 : decode b_Mo_act 117 = .ok (.if_icmp .ne 11, 3) := by decide +kernel
theorem d_Mo_act_120 : decode b_Mo_act 120 = .ok (.aload_n 0, 1) := by decide +kernel
theorem d_Mo_act_121 : decode b_Mo_act 121 = .ok (.iload_n 1, 1) := by decide +kernel
theorem d_Mo_act_122 : decode b_Mo_act 122 = .ok (.invokevirtual 321, 3) := by decide +kernel
theorem d_Mo_act_125 : decode b_Mo_act 125 = .ok (.goto 54, 3) := by decide +kernel
theorem d_Mo_act_128 : decode b_Mo_act 128 = .ok (.iload_n 2, 1) := by decide +kernel
theorem d_Mo_act_129 : decode b_Mo_act 129 = .ok (.bipush 9, 2) := by decide +kernel
theorem d_Mo_act_131 : decode b_Mo_act 131 = .ok (.if_icmp .eq 9, 3) := by decide +kernel
theorem d_Mo_act_134 : decode b_Mo_act 134 = .ok (.iload_n 2, 1) := by decide +kernel
theorem d_Mo_act_135 : decode b_Mo_act 135 = .ok (.bipush 10, 2) := by decide +kernel
theorem d_Mo_act_137 : decode b_Mo_act 137 = .ok (.if_icmp .ne 22, 3) := by decide +kernel
theorem d_Mo_act_140 : decode b_Mo_act 140 = .ok (.aload_n 0, 1) := by decide +kernel
theorem d_Mo_act_141 : decode b_Mo_act 141 = .ok (.iload_n 1, 1) := by decide +kernel
theorem d_Mo_act_142 : decode b_Mo_act 142 = .ok (.iload_n 2, 1) := by decide +kernel
theorem d_Mo_act_143 : decode b_Mo_act 143 = .ok (.bipush 10, 2) := by decide +kernel
theorem d_Mo_act_145 : decode b_Mo_act 145 = .ok (.if_icmp .ne 7, 3) := by decide +kernel
theorem d_Mo_act_148 : decode b_Mo_act 148 = .ok (.iconst 1, 1) := by decide +kernel
theorem d_Mo_act_149 : decode b_Mo_act 149 = .ok (.goto 4, 3) := by decide +kernel
theorem d_Mo_act_152 : decode b_Mo_act 152 = .ok (.iconst 0, 1) := by decide +kernel
theorem d_Mo_act_153 : decode b_Mo_act 153 = .ok (.invokevirtual 324, 3) := by decide +kernel
theorem d_Mo_act_156 : decode b_Mo_act 156 = .ok (.goto 23, 3) := by decide +kernel
theorem d_Mo_act_159 : decode b_Mo_act 159 = .ok (.iload_n 2, 1) := by decide +kernel
theorem d_Mo_act_160 : decode b_Mo_act 160 = .ok (.bipush 13, 2) := by decide +kernel
theorem d_Mo_act_162 : decode b_Mo_act 162 = .ok (.if_icmp .ne 11, 3) := by decide +kernel
theorem d_Mo_act_165 : decode b_Mo_act 165 = .ok (.aload_n 0, 1) := by decide +kernel
theorem d_Mo_act_166 : decode b_Mo_act 166 = .ok (.iload_n 1, 1) := by decide +kernel
theorem d_Mo_act_167 : decode b_Mo_act 167 = .ok (.invokevirtual 328, 3) := by decide +kernel
theorem d_Mo_act_170 : decode b_Mo_act 170 = .ok (.goto 9, 3) := by decide +kernel
theorem d_Mo_act_173 : decode b_Mo_act 173 = .ok (.aload_n 0, 1) := by decide +kernel
theorem d_Mo_act_174 : decode b_Mo_act 174 = .ok (.iload_n 1, 1) := by decide +kernel
theorem d_Mo_act_175 : decode b_Mo_act 175 = .ok (.iload_n 2, 1) := by decide +kernel
theorem d_Mo_act_176 : decode b_Mo_act 176 = .ok (.invokevirtual 331, 3) := by decide +kernel
theorem d_Mo_act_179 : decode b_Mo_act 179 = .ok (.return_, 1) := by decide +kernel
set_option maxHeartbeats 4000000 in
set_option maxRecDepth 100000 in
theorem c_Mo_act_0 (l : Launch) (E : gh_E) (sz : Nat) (f : gh_F) (a : Nat) (ad : Nat → Nat) (S : Nat → Int32) (I : Nat → Nat → Int32) (J : Nat → Nat → Int64) (cp fr lo : Nat) (Q : gh_F → Prop) (hX : mo_R E f a ad S I J) (hc60 : cp < 60) (hfr : fr ≤ 10) (hlo : lo ≤ 320) (hkb : I 33 cp = 0) (hM : ∀ sz, gh_M l y_Mo_plain b_Mo_plain 6 none E sz [.ref a, .int (nI cp), .int 0] f { frames := fr, cells := 0, slots := 0, locals := lo } (fun r g => r = none ∧ Q g)) : gh_M l y_Mo_act b_Mo_act 4 none E sz [.ref a, .int (nI cp)] f { frames := 11, cells := 0, slots := 0, locals := 360 } (fun r g => r = none ∧ Q g) := by
  refine gh_open (by decide) (Nat.le_of_ble_eq_true rfl) ?_
  intro p e s m args below meth c A ls hAe C V hr hlocks hname hl
  have hx := C.1
  have hb := C.2.1
  have hl : lv_has ls 4 [(0, .ref a), (1, .int (nI cp))] := hl
  have X : mo_X E f f a ad S I J := ⟨hX, gh_fr.rf⟩
  refine lv_aload_n hx hb d_Mo_act_0 rfl (lv_at hl 0 rfl) ?_
  refine mo_getA C V X 33 (by decide) (by decide) f_Mo_82 rfl d_Mo_act_1 ?_
  refine lv_iload_n hx hb d_Mo_act_4 rfl (lv_at hl 1 rfl) ?_
  refine mo_ild (k := 33) (i := cp) (n := 60) C V X (by decide) (by decide) rfl (by omega) (by decide) d_Mo_act_5 ?_
  rw [show I 33 cp = 0 from hkb]
  refine lv_istore_n hx hb d_Mo_act_6 rfl hl (by decide) rfl (fun ls hl => ?_)
  have hl : lv_has ls 4 [(2, .int 0), (0, .ref a), (1, .int (nI cp))] := hl
  refine lv_iload_n hx hb d_Mo_act_7 rfl (lv_at hl 0 rfl) ?_
  refine lv_bipush (v := 8) hx hb d_Mo_act_8 (by decide) ?_
  refine lv_icmp_ge (tgt := 23) hx hb d_Mo_act_10 (by decide) (fun c1 => absurd c1 (by decide)) (fun c1 => ?_)
  refine lv_iload_n hx hb d_Mo_act_13 rfl (lv_at hl 0 rfl) ?_
  refine lv_iconst (v := 3) hx hb d_Mo_act_14 (by decide) ?_
  refine lv_icmp_eq (tgt := 23) hx hb d_Mo_act_15 (by decide) (fun c2 => absurd c2 (by decide)) (fun c2 => ?_)
  refine lv_iload_n hx hb d_Mo_act_18 rfl (lv_at hl 0 rfl) ?_
  refine lv_iconst (v := 4) hx hb d_Mo_act_19 (by decide) ?_
  refine lv_icmp_ne (tgt := 41) hx hb d_Mo_act_20 (by decide) (fun c3 => ?_) (fun c3 => absurd c3 (by decide))
  refine lv_iconst (v := 1) hx hb d_Mo_act_41 (by decide) ?_
  refine lv_goto (tgt := 46) hx hb d_Mo_act_42 (by decide) ?_
  refine lv_istore_n hx hb d_Mo_act_46 rfl hl (by decide) rfl (fun ls hl => ?_)
  have hl : lv_has ls 4 [(3, .int 1), (2, .int 0), (0, .ref a), (1, .int (nI cp))] := hl
  refine lv_iload_n hx hb d_Mo_act_47 rfl (lv_at hl 0 rfl) ?_
  refine lv_if_eq (tgt := 60) hx hb d_Mo_act_48 (by decide) (fun c4 => absurd c4 (by decide)) (fun c4 => ?_)
  refine lv_aload_n hx hb d_Mo_act_51 rfl (lv_at hl 2 rfl) ?_
  refine lv_iload_n hx hb d_Mo_act_52 rfl (lv_at hl 3 rfl) ?_
  refine lv_iload_n hx hb d_Mo_act_53 rfl (lv_at hl 1 rfl) ?_
  refine gh_callV C V hl.1 m_Mo_plain l_Mo_306 (hM _) rfl X.1.1 gc_Mo ⟨by show fr + 1 ≤ 11; omega, by show 8 + (6 + 11) + lo ≤ 360; omega⟩ ⟨Nat.le_refl _, Nat.le_refl _⟩ (Nat.le_of_ble_eq_true rfl) rfl d_Mo_act_54 (fun r z9 H locs hp V1 => ?_)
  obtain ⟨rfl, hQ⟩ := hp
  have V := V1
  refine W.eq (g2 := F0 m 57 ls []) rfl ?_
  refine lv_goto (tgt := 179) hx hb d_Mo_act_57 (by decide) ?_
  refine gh_retv hAe C V hr hlocks d_Mo_act_179 (by first | decide | omega | (dsimp only; omega)) (by first | decide | omega | (dsimp only; omega)) ?_
  exact ⟨rfl, hQ⟩
set_option maxHeartbeats 4000000 in
set_option maxRecDepth 100000 in
theorem c_Mo_act_1 (l : Launch) (E : gh_E) (sz : Nat) (f : gh_F) (a : Nat) (ad : Nat → Nat) (S : Nat → Int32) (I : Nat → Nat → Int32) (J : Nat → Nat → Int64) (cp fr lo : Nat) (Q : gh_F → Prop) (hX : mo_R E f a ad S I J) (hc60 : cp < 60) (hfr : fr ≤ 10) (hlo : lo ≤ 320) (hkb : I 33 cp = 1) (hM : ∀ sz, gh_M l y_Mo_plain b_Mo_plain 6 none E sz [.ref a, .int (nI cp), .int 1] f { frames := fr, cells := 0, slots := 0, locals := lo } (fun r g => r = none ∧ Q g)) : gh_M l y_Mo_act b_Mo_act 4 none E sz [.ref a, .int (nI cp)] f { frames := 11, cells := 0, slots := 0, locals := 360 } (fun r g => r = none ∧ Q g) := by
  refine gh_open (by decide) (Nat.le_of_ble_eq_true rfl) ?_
  intro p e s m args below meth c A ls hAe C V hr hlocks hname hl
  have hx := C.1
  have hb := C.2.1
  have hl : lv_has ls 4 [(0, .ref a), (1, .int (nI cp))] := hl
  have X : mo_X E f f a ad S I J := ⟨hX, gh_fr.rf⟩
  refine lv_aload_n hx hb d_Mo_act_0 rfl (lv_at hl 0 rfl) ?_
  refine mo_getA C V X 33 (by decide) (by decide) f_Mo_82 rfl d_Mo_act_1 ?_
  refine lv_iload_n hx hb d_Mo_act_4 rfl (lv_at hl 1 rfl) ?_
  refine mo_ild (k := 33) (i := cp) (n := 60) C V X (by decide) (by decide) rfl (by omega) (by decide) d_Mo_act_5 ?_
  rw [show I 33 cp = 1 from hkb]
  refine lv_istore_n hx hb d_Mo_act_6 rfl hl (by decide) rfl (fun ls hl => ?_)
  have hl : lv_has ls 4 [(2, .int 1), (0, .ref a), (1, .int (nI cp))] := hl
  refine lv_iload_n hx hb d_Mo_act_7 rfl (lv_at hl 0 rfl) ?_
  refine lv_bipush (v := 8) hx hb d_Mo_act_8 (by decide) ?_
  refine lv_icmp_ge (tgt := 23) hx hb d_Mo_act_10 (by decide) (fun c1 => absurd c1 (by decide)) (fun c1 => ?_)
  refine lv_iload_n hx hb d_Mo_act_13 rfl (lv_at hl 0 rfl) ?_
  refine lv_iconst (v := 3) hx hb d_Mo_act_14 (by decide) ?_
  refine lv_icmp_eq (tgt := 23) hx hb d_Mo_act_15 (by decide) (fun c2 => absurd c2 (by decide)) (fun c2 => ?_)
  refine lv_iload_n hx hb d_Mo_act_18 rfl (lv_at hl 0 rfl) ?_
  refine lv_iconst (v := 4) hx hb d_Mo_act_19 (by decide) ?_
  refine lv_icmp_ne (tgt := 41) hx hb d_Mo_act_20 (by decide) (fun c3 => ?_) (fun c3 => absurd c3 (by decide))
  refine lv_iconst (v := 1) hx hb d_Mo_act_41 (by decide) ?_
  refine lv_goto (tgt := 46) hx hb d_Mo_act_42 (by decide) ?_
  refine lv_istore_n hx hb d_Mo_act_46 rfl hl (by decide) rfl (fun ls hl => ?_)
  have hl : lv_has ls 4 [(3, .int 1), (2, .int 1), (0, .ref a), (1, .int (nI cp))] := hl
  refine lv_iload_n hx hb d_Mo_act_47 rfl (lv_at hl 0 rfl) ?_
  refine lv_if_eq (tgt := 60) hx hb d_Mo_act_48 (by decide) (fun c4 => absurd c4 (by decide)) (fun c4 => ?_)
  refine lv_aload_n hx hb d_Mo_act_51 rfl (lv_at hl 2 rfl) ?_
  refine lv_iload_n hx hb d_Mo_act_52 rfl (lv_at hl 3 rfl) ?_
  refine lv_iload_n hx hb d_Mo_act_53 rfl (lv_at hl 1 rfl) ?_
  refine gh_callV C V hl.1 m_Mo_plain l_Mo_306 (hM _) rfl X.1.1 gc_Mo ⟨by show fr + 1 ≤ 11; omega, by show 8 + (6 + 11) + lo ≤ 360; omega⟩ ⟨Nat.le_refl _, Nat.le_refl _⟩ (Nat.le_of_ble_eq_true rfl) rfl d_Mo_act_54 (fun r z9 H locs hp V1 => ?_)
  obtain ⟨rfl, hQ⟩ := hp
  have V := V1
  refine W.eq (g2 := F0 m 57 ls []) rfl ?_
  refine lv_goto (tgt := 179) hx hb d_Mo_act_57 (by decide) ?_
  refine gh_retv hAe C V hr hlocks d_Mo_act_179 (by first | decide | omega | (dsimp only; omega)) (by first | decide | omega | (dsimp only; omega)) ?_
  exact ⟨rfl, hQ⟩
set_option maxHeartbeats 4000000 in
set_option maxRecDepth 100000 in
theorem c_Mo_act_2 (l : Launch) (E : gh_E) (sz : Nat) (f : gh_F) (a : Nat) (ad : Nat → Nat) (S : Nat → Int32) (I : Nat → Nat → Int32) (J : Nat → Nat → Int64) (cp fr lo : Nat) (Q : gh_F → Prop) (hX : mo_R E f a ad S I J) (hc60 : cp < 60) (hfr : fr ≤ 10) (hlo : lo ≤ 320) (hkb : I 33 cp = 2) (hM : ∀ sz, gh_M l y_Mo_plain b_Mo_plain 6 none E sz [.ref a, .int (nI cp), .int 2] f { frames := fr, cells := 0, slots := 0, locals := lo } (fun r g => r = none ∧ Q g)) : gh_M l y_Mo_act b_Mo_act 4 none E sz [.ref a, .int (nI cp)] f { frames := 11, cells := 0, slots := 0, locals := 360 } (fun r g => r = none ∧ Q g) := by
  refine gh_open (by decide) (Nat.le_of_ble_eq_true rfl) ?_
  intro p e s m args below meth c A ls hAe C V hr hlocks hname hl
  have hx := C.1
  have hb := C.2.1
  have hl : lv_has ls 4 [(0, .ref a), (1, .int (nI cp))] := hl
  have X : mo_X E f f a ad S I J := ⟨hX, gh_fr.rf⟩
  refine lv_aload_n hx hb d_Mo_act_0 rfl (lv_at hl 0 rfl) ?_
  refine mo_getA C V X 33 (by decide) (by decide) f_Mo_82 rfl d_Mo_act_1 ?_
  refine lv_iload_n hx hb d_Mo_act_4 rfl (lv_at hl 1 rfl) ?_
  refine mo_ild (k := 33) (i := cp) (n := 60) C V X (by decide) (by decide) rfl (by omega) (by decide) d_Mo_act_5 ?_
  rw [show I 33 cp = 2 from hkb]
  refine lv_istore_n hx hb d_Mo_act_6 rfl hl (by decide) rfl (fun ls hl => ?_)
  have hl : lv_has ls 4 [(2, .int 2), (0, .ref a), (1, .int (nI cp))] := hl
  refine lv_iload_n hx hb d_Mo_act_7 rfl (lv_at hl 0 rfl) ?_
  refine lv_bipush (v := 8) hx hb d_Mo_act_8 (by decide) ?_
  refine lv_icmp_ge (tgt := 23) hx hb d_Mo_act_10 (by decide) (fun c1 => absurd c1 (by decide)) (fun c1 => ?_)
  refine lv_iload_n hx hb d_Mo_act_13 rfl (lv_at hl 0 rfl) ?_
  refine lv_iconst (v := 3) hx hb d_Mo_act_14 (by decide) ?_
  refine lv_icmp_eq (tgt := 23) hx hb d_Mo_act_15 (by decide) (fun c2 => absurd c2 (by decide)) (fun c2 => ?_)
  refine lv_iload_n hx hb d_Mo_act_18 rfl (lv_at hl 0 rfl) ?_
  refine lv_iconst (v := 4) hx hb d_Mo_act_19 (by decide) ?_
  refine lv_icmp_ne (tgt := 41) hx hb d_Mo_act_20 (by decide) (fun c3 => ?_) (fun c3 => absurd c3 (by decide))
  refine lv_iconst (v := 1) hx hb d_Mo_act_41 (by decide) ?_
  refine lv_goto (tgt := 46) hx hb d_Mo_act_42 (by decide) ?_
  refine lv_istore_n hx hb d_Mo_act_46 rfl hl (by decide) rfl (fun ls hl => ?_)
  have hl : lv_has ls 4 [(3, .int 1), (2, .int 2), (0, .ref a), (1, .int (nI cp))] := hl
  refine lv_iload_n hx hb d_Mo_act_47 rfl (lv_at hl 0 rfl) ?_
  refine lv_if_eq (tgt := 60) hx hb d_Mo_act_48 (by decide) (fun c4 => absurd c4 (by decide)) (fun c4 => ?_)
  refine lv_aload_n hx hb d_Mo_act_51 rfl (lv_at hl 2 rfl) ?_
  refine lv_iload_n hx hb d_Mo_act_52 rfl (lv_at hl 3 rfl) ?_
  refine lv_iload_n hx hb d_Mo_act_53 rfl (lv_at hl 1 rfl) ?_
  refine gh_callV C V hl.1 m_Mo_plain l_Mo_306 (hM _) rfl X.1.1 gc_Mo ⟨by show fr + 1 ≤ 11; omega, by show 8 + (6 + 11) + lo ≤ 360; omega⟩ ⟨Nat.le_refl _, Nat.le_refl _⟩ (Nat.le_of_ble_eq_true rfl) rfl d_Mo_act_54 (fun r z9 H locs hp V1 => ?_)
  obtain ⟨rfl, hQ⟩ := hp
  have V := V1
  refine W.eq (g2 := F0 m 57 ls []) rfl ?_
  refine lv_goto (tgt := 179) hx hb d_Mo_act_57 (by decide) ?_
  refine gh_retv hAe C V hr hlocks d_Mo_act_179 (by first | decide | omega | (dsimp only; omega)) (by first | decide | omega | (dsimp only; omega)) ?_
  exact ⟨rfl, hQ⟩
set_option maxHeartbeats 4000000 in
set_option maxRecDepth 100000 in
theorem c_Mo_act_3 (l : Launch) (E : gh_E) (sz : Nat) (f : gh_F) (a : Nat) (ad : Nat → Nat) (S : Nat → Int32) (I : Nat → Nat → Int32) (J : Nat → Nat → Int64) (cp fr lo : Nat) (Q : gh_F → Prop) (hX : mo_R E f a ad S I J) (hc60 : cp < 60) (hfr : fr ≤ 10) (hlo : lo ≤ 320) (hkb : I 33 cp = 3) (hM : ∀ sz, gh_M l y_Mo_each b_Mo_each 4 none E sz [.ref a, .int (nI cp)] f { frames := fr, cells := 0, slots := 0, locals := lo } (fun r g => r = none ∧ Q g)) : gh_M l y_Mo_act b_Mo_act 4 none E sz [.ref a, .int (nI cp)] f { frames := 11, cells := 0, slots := 0, locals := 360 } (fun r g => r = none ∧ Q g) := by
  refine gh_open (by decide) (Nat.le_of_ble_eq_true rfl) ?_
  intro p e s m args below meth c A ls hAe C V hr hlocks hname hl
  have hx := C.1
  have hb := C.2.1
  have hl : lv_has ls 4 [(0, .ref a), (1, .int (nI cp))] := hl
  have X : mo_X E f f a ad S I J := ⟨hX, gh_fr.rf⟩
  refine lv_aload_n hx hb d_Mo_act_0 rfl (lv_at hl 0 rfl) ?_
  refine mo_getA C V X 33 (by decide) (by decide) f_Mo_82 rfl d_Mo_act_1 ?_
  refine lv_iload_n hx hb d_Mo_act_4 rfl (lv_at hl 1 rfl) ?_
  refine mo_ild (k := 33) (i := cp) (n := 60) C V X (by decide) (by decide) rfl (by omega) (by decide) d_Mo_act_5 ?_
  rw [show I 33 cp = 3 from hkb]
  refine lv_istore_n hx hb d_Mo_act_6 rfl hl (by decide) rfl (fun ls hl => ?_)
  have hl : lv_has ls 4 [(2, .int 3), (0, .ref a), (1, .int (nI cp))] := hl
  refine lv_iload_n hx hb d_Mo_act_7 rfl (lv_at hl 0 rfl) ?_
  refine lv_bipush (v := 8) hx hb d_Mo_act_8 (by decide) ?_
  refine lv_icmp_ge (tgt := 23) hx hb d_Mo_act_10 (by decide) (fun c1 => absurd c1 (by decide)) (fun c1 => ?_)
  refine lv_iload_n hx hb d_Mo_act_13 rfl (lv_at hl 0 rfl) ?_
  refine lv_iconst (v := 3) hx hb d_Mo_act_14 (by decide) ?_
  refine lv_icmp_eq (tgt := 23) hx hb d_Mo_act_15 (by decide) (fun c2 => ?_) (fun c2 => absurd (by decide) c2)
  refine lv_iload_n hx hb d_Mo_act_23 rfl (lv_at hl 0 rfl) ?_
  refine lv_bipush (v := 15) hx hb d_Mo_act_24 (by decide) ?_
  refine lv_icmp_eq (tgt := 41) hx hb d_Mo_act_26 (by decide) (fun c3 => absurd c3 (by decide)) (fun c3 => ?_)
  refine lv_iload_n hx hb d_Mo_act_29 rfl (lv_at hl 0 rfl) ?_
  refine lv_bipush (v := 16) hx hb d_Mo_act_30 (by decide) ?_
  refine lv_icmp_le (tgt := 45) hx hb d_Mo_act_32 (by decide) (fun c4 => ?_) (fun c4 => absurd (by decide) c4)
  refine lv_iconst (v := 0) hx hb d_Mo_act_45 (by decide) ?_
  refine lv_istore_n hx hb d_Mo_act_46 rfl hl (by decide) rfl (fun ls hl => ?_)
  have hl : lv_has ls 4 [(3, .int 0), (2, .int 3), (0, .ref a), (1, .int (nI cp))] := hl
  refine lv_iload_n hx hb d_Mo_act_47 rfl (lv_at hl 0 rfl) ?_
  refine lv_if_eq (tgt := 60) hx hb d_Mo_act_48 (by decide) (fun c5 => ?_) (fun c5 => absurd (by decide) c5)
  refine lv_iload_n hx hb d_Mo_act_60 rfl (lv_at hl 1 rfl) ?_
  refine lv_iconst (v := 3) hx hb d_Mo_act_61 (by decide) ?_
  refine lv_icmp_ne (tgt := 73) hx hb d_Mo_act_62 (by decide) (fun c6 => absurd (by decide) c6) (fun c6 => ?_)
  refine lv_aload_n hx hb d_Mo_act_65 rfl (lv_at hl 2 rfl) ?_
  refine lv_iload_n hx hb d_Mo_act_66 rfl (lv_at hl 3 rfl) ?_
  refine gh_callV C V hl.1 m_Mo_each l_Mo_309 (hM _) rfl X.1.1 gc_Mo ⟨by show fr + 1 ≤ 11; omega, by show 8 + (4 + 11) + lo ≤ 360; omega⟩ ⟨Nat.le_refl _, Nat.le_refl _⟩ (Nat.le_of_ble_eq_true rfl) rfl d_Mo_act_67 (fun r z9 H locs hp V1 => ?_)
  obtain ⟨rfl, hQ⟩ := hp
  have V := V1
  refine W.eq (g2 := F0 m 70 ls []) rfl ?_
  refine lv_goto (tgt := 179) hx hb d_Mo_act_70 (by decide) ?_
  refine gh_retv hAe C V hr hlocks d_Mo_act_179 (by first | decide | omega | (dsimp only; omega)) (by first | decide | omega | (dsimp only; omega)) ?_
  exact ⟨rfl, hQ⟩
set_option maxHeartbeats 4000000 in
set_option maxRecDepth 100000 in
theorem c_Mo_act_4 (l : Launch) (E : gh_E) (sz : Nat) (f : gh_F) (a : Nat) (ad : Nat → Nat) (S : Nat → Int32) (I : Nat → Nat → Int32) (J : Nat → Nat → Int64) (cp fr lo : Nat) (Q : gh_F → Prop) (hX : mo_R E f a ad S I J) (hc60 : cp < 60) (hfr : fr ≤ 10) (hlo : lo ≤ 320) (hkb : I 33 cp = 4) (hM : ∀ sz, gh_M l y_Mo_deep b_Mo_deep 5 none E sz [.ref a, .int (nI cp)] f { frames := fr, cells := 0, slots := 0, locals := lo } (fun r g => r = none ∧ Q g)) : gh_M l y_Mo_act b_Mo_act 4 none E sz [.ref a, .int (nI cp)] f { frames := 11, cells := 0, slots := 0, locals := 360 } (fun r g => r = none ∧ Q g) := by
  refine gh_open (by decide) (Nat.le_of_ble_eq_true rfl) ?_
  intro p e s m args below meth c A ls hAe C V hr hlocks hname hl
  have hx := C.1
  have hb := C.2.1
  have hl : lv_has ls 4 [(0, .ref a), (1, .int (nI cp))] := hl
  have X : mo_X E f f a ad S I J := ⟨hX, gh_fr.rf⟩
  refine lv_aload_n hx hb d_Mo_act_0 rfl (lv_at hl 0 rfl) ?_
  refine mo_getA C V X 33 (by decide) (by decide) f_Mo_82 rfl d_Mo_act_1 ?_
  refine lv_iload_n hx hb d_Mo_act_4 rfl (lv_at hl 1 rfl) ?_
  refine mo_ild (k := 33) (i := cp) (n := 60) C V X (by decide) (by decide) rfl (by omega) (by decide) d_Mo_act_5 ?_
  rw [show I 33 cp = 4 from hkb]
  refine lv_istore_n hx hb d_Mo_act_6 rfl hl (by decide) rfl (fun ls hl => ?_)
  have hl : lv_has ls 4 [(2, .int 4), (0, .ref a), (1, .int (nI cp))] := hl
  refine lv_iload_n hx hb d_Mo_act_7 rfl (lv_at hl 0 rfl) ?_
  refine lv_bipush (v := 8) hx hb d_Mo_act_8 (by decide) ?_
  refine lv_icmp_ge (tgt := 23) hx hb d_Mo_act_10 (by decide) (fun c1 => absurd c1 (by decide)) (fun c1 => ?_)
  refine lv_iload_n hx hb d_Mo_act_13 rfl (lv_at hl 0 rfl) ?_
  refine lv_iconst (v := 3) hx hb d_Mo_act_14 (by decide) ?_
  refine lv_icmp_eq (tgt := 23) hx hb d_Mo_act_15 (by decide) (fun c2 => absurd c2 (by decide)) (fun c2 => ?_)
  refine lv_iload_n hx hb d_Mo_act_18 rfl (lv_at hl 0 rfl) ?_
  refine lv_iconst (v := 4) hx hb d_Mo_act_19 (by decide) ?_
  refine lv_icmp_ne (tgt := 41) hx hb d_Mo_act_20 (by decide) (fun c3 => absurd (by decide) c3) (fun c3 => ?_)
  refine lv_iload_n hx hb d_Mo_act_23 rfl (lv_at hl 0 rfl) ?_
  refine lv_bipush (v := 15) hx hb d_Mo_act_24 (by decide) ?_
  refine lv_icmp_eq (tgt := 41) hx hb d_Mo_act_26 (by decide) (fun c4 => absurd c4 (by decide)) (fun c4 => ?_)
  refine lv_iload_n hx hb d_Mo_act_29 rfl (lv_at hl 0 rfl) ?_
  refine lv_bipush (v := 16) hx hb d_Mo_act_30 (by decide) ?_
  refine lv_icmp_le (tgt := 45) hx hb d_Mo_act_32 (by decide) (fun c5 => ?_) (fun c5 => absurd (by decide) c5)
  refine lv_iconst (v := 0) hx hb d_Mo_act_45 (by decide) ?_
  refine lv_istore_n hx hb d_Mo_act_46 rfl hl (by decide) rfl (fun ls hl => ?_)
  have hl : lv_has ls 4 [(3, .int 0), (2, .int 4), (0, .ref a), (1, .int (nI cp))] := hl
  refine lv_iload_n hx hb d_Mo_act_47 rfl (lv_at hl 0 rfl) ?_
  refine lv_if_eq (tgt := 60) hx hb d_Mo_act_48 (by decide) (fun c6 => ?_) (fun c6 => absurd (by decide) c6)
  refine lv_iload_n hx hb d_Mo_act_60 rfl (lv_at hl 1 rfl) ?_
  refine lv_iconst (v := 3) hx hb d_Mo_act_61 (by decide) ?_
  refine lv_icmp_ne (tgt := 73) hx hb d_Mo_act_62 (by decide) (fun c7 => ?_) (fun c7 => absurd c7 (by decide))
  refine lv_iload_n hx hb d_Mo_act_73 rfl (lv_at hl 1 rfl) ?_
  refine lv_iconst (v := 4) hx hb d_Mo_act_74 (by decide) ?_
  refine lv_icmp_ne (tgt := 86) hx hb d_Mo_act_75 (by decide) (fun c8 => absurd (by decide) c8) (fun c8 => ?_)
  refine lv_aload_n hx hb d_Mo_act_78 rfl (lv_at hl 2 rfl) ?_
  refine lv_iload_n hx hb d_Mo_act_79 rfl (lv_at hl 3 rfl) ?_
  refine gh_callV C V hl.1 m_Mo_deep l_Mo_312 (hM _) rfl X.1.1 gc_Mo ⟨by show fr + 1 ≤ 11; omega, by show 8 + (5 + 11) + lo ≤ 360; omega⟩ ⟨Nat.le_refl _, Nat.le_refl _⟩ (Nat.le_of_ble_eq_true rfl) rfl d_Mo_act_80 (fun r z9 H locs hp V1 => ?_)
  obtain ⟨rfl, hQ⟩ := hp
  have V := V1
  refine W.eq (g2 := F0 m 83 ls []) rfl ?_
  refine lv_goto (tgt := 179) hx hb d_Mo_act_83 (by decide) ?_
  refine gh_retv hAe C V hr hlocks d_Mo_act_179 (by first | decide | omega | (dsimp only; omega)) (by first | decide | omega | (dsimp only; omega)) ?_
  exact ⟨rfl, hQ⟩
set_option maxHeartbeats 4000000 in
set_option maxRecDepth 100000 in
theorem c_Mo_act_5 (l : Launch) (E : gh_E) (sz : Nat) (f : gh_F) (a : Nat) (ad : Nat → Nat) (S : Nat → Int32) (I : Nat → Nat → Int32) (J : Nat → Nat → Int64) (cp fr lo : Nat) (Q : gh_F → Prop) (hX : mo_R E f a ad S I J) (hc60 : cp < 60) (hfr : fr ≤ 10) (hlo : lo ≤ 320) (hkb : I 33 cp = 5) (hM : ∀ sz, gh_M l y_Mo_plain b_Mo_plain 6 none E sz [.ref a, .int (nI cp), .int 5] f { frames := fr, cells := 0, slots := 0, locals := lo } (fun r g => r = none ∧ Q g)) : gh_M l y_Mo_act b_Mo_act 4 none E sz [.ref a, .int (nI cp)] f { frames := 11, cells := 0, slots := 0, locals := 360 } (fun r g => r = none ∧ Q g) := by
  refine gh_open (by decide) (Nat.le_of_ble_eq_true rfl) ?_
  intro p e s m args below meth c A ls hAe C V hr hlocks hname hl
  have hx := C.1
  have hb := C.2.1
  have hl : lv_has ls 4 [(0, .ref a), (1, .int (nI cp))] := hl
  have X : mo_X E f f a ad S I J := ⟨hX, gh_fr.rf⟩
  refine lv_aload_n hx hb d_Mo_act_0 rfl (lv_at hl 0 rfl) ?_
  refine mo_getA C V X 33 (by decide) (by decide) f_Mo_82 rfl d_Mo_act_1 ?_
  refine lv_iload_n hx hb d_Mo_act_4 rfl (lv_at hl 1 rfl) ?_
  refine mo_ild (k := 33) (i := cp) (n := 60) C V X (by decide) (by decide) rfl (by omega) (by decide) d_Mo_act_5 ?_
  rw [show I 33 cp = 5 from hkb]
  refine lv_istore_n hx hb d_Mo_act_6 rfl hl (by decide) rfl (fun ls hl => ?_)
  have hl : lv_has ls 4 [(2, .int 5), (0, .ref a), (1, .int (nI cp))] := hl
  refine lv_iload_n hx hb d_Mo_act_7 rfl (lv_at hl 0 rfl) ?_
  refine lv_bipush (v := 8) hx hb d_Mo_act_8 (by decide) ?_
  refine lv_icmp_ge (tgt := 23) hx hb d_Mo_act_10 (by decide) (fun c1 => absurd c1 (by decide)) (fun c1 => ?_)
  refine lv_iload_n hx hb d_Mo_act_13 rfl (lv_at hl 0 rfl) ?_
  refine lv_iconst (v := 3) hx hb d_Mo_act_14 (by decide) ?_
  refine lv_icmp_eq (tgt := 23) hx hb d_Mo_act_15 (by decide) (fun c2 => absurd c2 (by decide)) (fun c2 => ?_)
  refine lv_iload_n hx hb d_Mo_act_18 rfl (lv_at hl 0 rfl) ?_
  refine lv_iconst (v := 4) hx hb d_Mo_act_19 (by decide) ?_
  refine lv_icmp_ne (tgt := 41) hx hb d_Mo_act_20 (by decide) (fun c3 => ?_) (fun c3 => absurd c3 (by decide))
  refine lv_iconst (v := 1) hx hb d_Mo_act_41 (by decide) ?_
  refine lv_goto (tgt := 46) hx hb d_Mo_act_42 (by decide) ?_
  refine lv_istore_n hx hb d_Mo_act_46 rfl hl (by decide) rfl (fun ls hl => ?_)
  have hl : lv_has ls 4 [(3, .int 1), (2, .int 5), (0, .ref a), (1, .int (nI cp))] := hl
  refine lv_iload_n hx hb d_Mo_act_47 rfl (lv_at hl 0 rfl) ?_
  refine lv_if_eq (tgt := 60) hx hb d_Mo_act_48 (by decide) (fun c4 => absurd c4 (by decide)) (fun c4 => ?_)
  refine lv_aload_n hx hb d_Mo_act_51 rfl (lv_at hl 2 rfl) ?_
  refine lv_iload_n hx hb d_Mo_act_52 rfl (lv_at hl 3 rfl) ?_
  refine lv_iload_n hx hb d_Mo_act_53 rfl (lv_at hl 1 rfl) ?_
  refine gh_callV C V hl.1 m_Mo_plain l_Mo_306 (hM _) rfl X.1.1 gc_Mo ⟨by show fr + 1 ≤ 11; omega, by show 8 + (6 + 11) + lo ≤ 360; omega⟩ ⟨Nat.le_refl _, Nat.le_refl _⟩ (Nat.le_of_ble_eq_true rfl) rfl d_Mo_act_54 (fun r z9 H locs hp V1 => ?_)
  obtain ⟨rfl, hQ⟩ := hp
  have V := V1
  refine W.eq (g2 := F0 m 57 ls []) rfl ?_
  refine lv_goto (tgt := 179) hx hb d_Mo_act_57 (by decide) ?_
  refine gh_retv hAe C V hr hlocks d_Mo_act_179 (by first | decide | omega | (dsimp only; omega)) (by first | decide | omega | (dsimp only; omega)) ?_
  exact ⟨rfl, hQ⟩
set_option maxHeartbeats 4000000 in
set_option maxRecDepth 100000 in
theorem c_Mo_act_6 (l : Launch) (E : gh_E) (sz : Nat) (f : gh_F) (a : Nat) (ad : Nat → Nat) (S : Nat → Int32) (I : Nat → Nat → Int32) (J : Nat → Nat → Int64) (cp fr lo : Nat) (Q : gh_F → Prop) (hX : mo_R E f a ad S I J) (hc60 : cp < 60) (hfr : fr ≤ 10) (hlo : lo ≤ 320) (hkb : I 33 cp = 6) (hM : ∀ sz, gh_M l y_Mo_plain b_Mo_plain 6 none E sz [.ref a, .int (nI cp), .int 6] f { frames := fr, cells := 0, slots := 0, locals := lo } (fun r g => r = none ∧ Q g)) : gh_M l y_Mo_act b_Mo_act 4 none E sz [.ref a, .int (nI cp)] f { frames := 11, cells := 0, slots := 0, locals := 360 } (fun r g => r = none ∧ Q g) := by
  refine gh_open (by decide) (Nat.le_of_ble_eq_true rfl) ?_
  intro p e s m args below meth c A ls hAe C V hr hlocks hname hl
  have hx := C.1
  have hb := C.2.1
  have hl : lv_has ls 4 [(0, .ref a), (1, .int (nI cp))] := hl
  have X : mo_X E f f a ad S I J := ⟨hX, gh_fr.rf⟩
  refine lv_aload_n hx hb d_Mo_act_0 rfl (lv_at hl 0 rfl) ?_
  refine mo_getA C V X 33 (by decide) (by decide) f_Mo_82 rfl d_Mo_act_1 ?_
  refine lv_iload_n hx hb d_Mo_act_4 rfl (lv_at hl 1 rfl) ?_
  refine mo_ild (k := 33) (i := cp) (n := 60) C V X (by decide) (by decide) rfl (by omega) (by decide) d_Mo_act_5 ?_
  rw [show I 33 cp = 6 from hkb]
  refine lv_istore_n hx hb d_Mo_act_6 rfl hl (by decide) rfl (fun ls hl => ?_)
  have hl : lv_has ls 4 [(2, .int 6), (0, .ref a), (1, .int (nI cp))] := hl
  refine lv_iload_n hx hb d_Mo_act_7 rfl (lv_at hl 0 rfl) ?_
  refine lv_bipush (v := 8) hx hb d_Mo_act_8 (by decide) ?_
  refine lv_icmp_ge (tgt := 23) hx hb d_Mo_act_10 (by decide) (fun c1 => absurd c1 (by decide)) (fun c1 => ?_)
  refine lv_iload_n hx hb d_Mo_act_13 rfl (lv_at hl 0 rfl) ?_
  refine lv_iconst (v := 3) hx hb d_Mo_act_14 (by decide) ?_
  refine lv_icmp_eq (tgt := 23) hx hb d_Mo_act_15 (by decide) (fun c2 => absurd c2 (by decide)) (fun c2 => ?_)
  refine lv_iload_n hx hb d_Mo_act_18 rfl (lv_at hl 0 rfl) ?_
  refine lv_iconst (v := 4) hx hb d_Mo_act_19 (by decide) ?_
  refine lv_icmp_ne (tgt := 41) hx hb d_Mo_act_20 (by decide) (fun c3 => ?_) (fun c3 => absurd c3 (by decide))
  refine lv_iconst (v := 1) hx hb d_Mo_act_41 (by decide) ?_
  refine lv_goto (tgt := 46) hx hb d_Mo_act_42 (by decide) ?_
  refine lv_istore_n hx hb d_Mo_act_46 rfl hl (by decide) rfl (fun ls hl => ?_)
  have hl : lv_has ls 4 [(3, .int 1), (2, .int 6), (0, .ref a), (1, .int (nI cp))] := hl
  refine lv_iload_n hx hb d_Mo_act_47 rfl (lv_at hl 0 rfl) ?_
  refine lv_if_eq (tgt := 60) hx hb d_Mo_act_48 (by decide) (fun c4 => absurd c4 (by decide)) (fun c4 => ?_)
  refine lv_aload_n hx hb d_Mo_act_51 rfl (lv_at hl 2 rfl) ?_
  refine lv_iload_n hx hb d_Mo_act_52 rfl (lv_at hl 3 rfl) ?_
  refine lv_iload_n hx hb d_Mo_act_53 rfl (lv_at hl 1 rfl) ?_
  refine gh_callV C V hl.1 m_Mo_plain l_Mo_306 (hM _) rfl X.1.1 gc_Mo ⟨by show fr + 1 ≤ 11; omega, by show 8 + (6 + 11) + lo ≤ 360; omega⟩ ⟨Nat.le_refl _, Nat.le_refl _⟩ (Nat.le_of_ble_eq_true rfl) rfl d_Mo_act_54 (fun r z9 H locs hp V1 => ?_)
  obtain ⟨rfl, hQ⟩ := hp
  have V := V1
  refine W.eq (g2 := F0 m 57 ls []) rfl ?_
  refine lv_goto (tgt := 179) hx hb d_Mo_act_57 (by decide) ?_
  refine gh_retv hAe C V hr hlocks d_Mo_act_179 (by first | decide | omega | (dsimp only; omega)) (by first | decide | omega | (dsimp only; omega)) ?_
  exact ⟨rfl, hQ⟩
set_option maxHeartbeats 4000000 in
set_option maxRecDepth 100000 in
theorem c_Mo_act_7 (l : Launch) (E : gh_E) (sz : Nat) (f : gh_F) (a : Nat) (ad : Nat → Nat) (S : Nat → Int32) (I : Nat → Nat → Int32) (J : Nat → Nat → Int64) (cp fr lo : Nat) (Q : gh_F → Prop) (hX : mo_R E f a ad S I J) (hc60 : cp < 60) (hfr : fr ≤ 10) (hlo : lo ≤ 320) (hkb : I 33 cp = 7) (hM : ∀ sz, gh_M l y_Mo_plain b_Mo_plain 6 none E sz [.ref a, .int (nI cp), .int 7] f { frames := fr, cells := 0, slots := 0, locals := lo } (fun r g => r = none ∧ Q g)) : gh_M l y_Mo_act b_Mo_act 4 none E sz [.ref a, .int (nI cp)] f { frames := 11, cells := 0, slots := 0, locals := 360 } (fun r g => r = none ∧ Q g) := by
  refine gh_open (by decide) (Nat.le_of_ble_eq_true rfl) ?_
  intro p e s m args below meth c A ls hAe C V hr hlocks hname hl
  have hx := C.1
  have hb := C.2.1
  have hl : lv_has ls 4 [(0, .ref a), (1, .int (nI cp))] := hl
  have X : mo_X E f f a ad S I J := ⟨hX, gh_fr.rf⟩
  refine lv_aload_n hx hb d_Mo_act_0 rfl (lv_at hl 0 rfl) ?_
  refine mo_getA C V X 33 (by decide) (by decide) f_Mo_82 rfl d_Mo_act_1 ?_
  refine lv_iload_n hx hb d_Mo_act_4 rfl (lv_at hl 1 rfl) ?_
  refine mo_ild (k := 33) (i := cp) (n := 60) C V X (by decide) (by decide) rfl (by omega) (by decide) d_Mo_act_5 ?_
  rw [show I 33 cp = 7 from hkb]
  refine lv_istore_n hx hb d_Mo_act_6 rfl hl (by decide) rfl (fun ls hl => ?_)
  have hl : lv_has ls 4 [(2, .int 7), (0, .ref a), (1, .int (nI cp))] := hl
  refine lv_iload_n hx hb d_Mo_act_7 rfl (lv_at hl 0 rfl) ?_
  refine lv_bipush (v := 8) hx hb d_Mo_act_8 (by decide) ?_
  refine lv_icmp_ge (tgt := 23) hx hb d_Mo_act_10 (by decide) (fun c1 => absurd c1 (by decide)) (fun c1 => ?_)
  refine lv_iload_n hx hb d_Mo_act_13 rfl (lv_at hl 0 rfl) ?_
  refine lv_iconst (v := 3) hx hb d_Mo_act_14 (by decide) ?_
  refine lv_icmp_eq (tgt := 23) hx hb d_Mo_act_15 (by decide) (fun c2 => absurd c2 (by decide)) (fun c2 => ?_)
  refine lv_iload_n hx hb d_Mo_act_18 rfl (lv_at hl 0 rfl) ?_
  refine lv_iconst (v := 4) hx hb d_Mo_act_19 (by decide) ?_
  refine lv_icmp_ne (tgt := 41) hx hb d_Mo_act_20 (by decide) (fun c3 => ?_) (fun c3 => absurd c3 (by decide))
  refine lv_iconst (v := 1) hx hb d_Mo_act_41 (by decide) ?_
  refine lv_goto (tgt := 46) hx hb d_Mo_act_42 (by decide) ?_
  refine lv_istore_n hx hb d_Mo_act_46 rfl hl (by decide) rfl (fun ls hl => ?_)
  have hl : lv_has ls 4 [(3, .int 1), (2, .int 7), (0, .ref a), (1, .int (nI cp))] := hl
  refine lv_iload_n hx hb d_Mo_act_47 rfl (lv_at hl 0 rfl) ?_
  refine lv_if_eq (tgt := 60) hx hb d_Mo_act_48 (by decide) (fun c4 => absurd c4 (by decide)) (fun c4 => ?_)
  refine lv_aload_n hx hb d_Mo_act_51 rfl (lv_at hl 2 rfl) ?_
  refine lv_iload_n hx hb d_Mo_act_52 rfl (lv_at hl 3 rfl) ?_
  refine lv_iload_n hx hb d_Mo_act_53 rfl (lv_at hl 1 rfl) ?_
  refine gh_callV C V hl.1 m_Mo_plain l_Mo_306 (hM _) rfl X.1.1 gc_Mo ⟨by show fr + 1 ≤ 11; omega, by show 8 + (6 + 11) + lo ≤ 360; omega⟩ ⟨Nat.le_refl _, Nat.le_refl _⟩ (Nat.le_of_ble_eq_true rfl) rfl d_Mo_act_54 (fun r z9 H locs hp V1 => ?_)
  obtain ⟨rfl, hQ⟩ := hp
  have V := V1
  refine W.eq (g2 := F0 m 57 ls []) rfl ?_
  refine lv_goto (tgt := 179) hx hb d_Mo_act_57 (by decide) ?_
  refine gh_retv hAe C V hr hlocks d_Mo_act_179 (by first | decide | omega | (dsimp only; omega)) (by first | decide | omega | (dsimp only; omega)) ?_
  exact ⟨rfl, hQ⟩
set_option maxHeartbeats 4000000 in
set_option maxRecDepth 100000 in
theorem c_Mo_act_8 (l : Launch) (E : gh_E) (sz : Nat) (f : gh_F) (a : Nat) (ad : Nat → Nat) (S : Nat → Int32) (I : Nat → Nat → Int32) (J : Nat → Nat → Int64) (cp fr lo : Nat) (Q : gh_F → Prop) (hX : mo_R E f a ad S I J) (hc60 : cp < 60) (hfr : fr ≤ 10) (hlo : lo ≤ 320) (hkb : I 33 cp = 8) (hM : ∀ sz, gh_M l y_Mo_two b_Mo_two 4 none E sz [.ref a, .int (nI cp), .int 8] f { frames := fr, cells := 0, slots := 0, locals := lo } (fun r g => r = none ∧ Q g)) : gh_M l y_Mo_act b_Mo_act 4 none E sz [.ref a, .int (nI cp)] f { frames := 11, cells := 0, slots := 0, locals := 360 } (fun r g => r = none ∧ Q g) := by
  refine gh_open (by decide) (Nat.le_of_ble_eq_true rfl) ?_
  intro p e s m args below meth c A ls hAe C V hr hlocks hname hl
  have hx := C.1
  have hb := C.2.1
  have hl : lv_has ls 4 [(0, .ref a), (1, .int (nI cp))] := hl
  have X : mo_X E f f a ad S I J := ⟨hX, gh_fr.rf⟩
  refine lv_aload_n hx hb d_Mo_act_0 rfl (lv_at hl 0 rfl) ?_
  refine mo_getA C V X 33 (by decide) (by decide) f_Mo_82 rfl d_Mo_act_1 ?_
  refine lv_iload_n hx hb d_Mo_act_4 rfl (lv_at hl 1 rfl) ?_
  refine mo_ild (k := 33) (i := cp) (n := 60) C V X (by decide) (by decide) rfl (by omega) (by decide) d_Mo_act_5 ?_
  rw [show I 33 cp = 8 from hkb]
  refine lv_istore_n hx hb d_Mo_act_6 rfl hl (by decide) rfl (fun ls hl => ?_)
  have hl : lv_has ls 4 [(2, .int 8), (0, .ref a), (1, .int (nI cp))] := hl
  refine lv_iload_n hx hb d_Mo_act_7 rfl (lv_at hl 0 rfl) ?_
  refine lv_bipush (v := 8) hx hb d_Mo_act_8 (by decide) ?_
  refine lv_icmp_ge (tgt := 23) hx hb d_Mo_act_10 (by decide) (fun c1 => ?_) (fun c1 => absurd (by decide) c1)
  refine lv_iload_n hx hb d_Mo_act_23 rfl (lv_at hl 0 rfl) ?_
  refine lv_bipush (v := 15) hx hb d_Mo_act_24 (by decide) ?_
  refine lv_icmp_eq (tgt := 41) hx hb d_Mo_act_26 (by decide) (fun c2 => absurd c2 (by decide)) (fun c2 => ?_)
  refine lv_iload_n hx hb d_Mo_act_29 rfl (lv_at hl 0 rfl) ?_
  refine lv_bipush (v := 16) hx hb d_Mo_act_30 (by decide) ?_
  refine lv_icmp_le (tgt := 45) hx hb d_Mo_act_32 (by decide) (fun c3 => ?_) (fun c3 => absurd (by decide) c3)
  refine lv_iconst (v := 0) hx hb d_Mo_act_45 (by decide) ?_
  refine lv_istore_n hx hb d_Mo_act_46 rfl hl (by decide) rfl (fun ls hl => ?_)
  have hl : lv_has ls 4 [(3, .int 0), (2, .int 8), (0, .ref a), (1, .int (nI cp))] := hl
  refine lv_iload_n hx hb d_Mo_act_47 rfl (lv_at hl 0 rfl) ?_
  refine lv_if_eq (tgt := 60) hx hb d_Mo_act_48 (by decide) (fun c4 => ?_) (fun c4 => absurd (by decide) c4)
  refine lv_iload_n hx hb d_Mo_act_60 rfl (lv_at hl 1 rfl) ?_
  refine lv_iconst (v := 3) hx hb d_Mo_act_61 (by decide) ?_
  refine lv_icmp_ne (tgt := 73) hx hb d_Mo_act_62 (by decide) (fun c5 => ?_) (fun c5 => absurd c5 (by decide))
  refine lv_iload_n hx hb d_Mo_act_73 rfl (lv_at hl 1 rfl) ?_
  refine lv_iconst (v := 4) hx hb d_Mo_act_74 (by decide) ?_
  refine lv_icmp_ne (tgt := 86) hx hb d_Mo_act_75 (by decide) (fun c6 => ?_) (fun c6 => absurd c6 (by decide))
  refine lv_iload_n hx hb d_Mo_act_86 rfl (lv_at hl 1 rfl) ?_
  refine lv_bipush (v := 12) hx hb d_Mo_act_87 (by decide) ?_
  refine lv_icmp_ne (tgt := 100) hx hb d_Mo_act_89 (by decide) (fun c7 => ?_) (fun c7 => absurd c7 (by decide))
  refine lv_iload_n hx hb d_Mo_act_100 rfl (lv_at hl 1 rfl) ?_
  refine lv_bipush (v := 14) hx hb d_Mo_act_101 (by decide) ?_
  refine lv_icmp_ne (tgt := 114) hx hb d_Mo_act_103 (by decide) (fun c8 => ?_) (fun c8 => absurd c8 (by decide))
  refine lv_iload_n hx hb d_Mo_act_114 rfl (lv_at hl 1 rfl) ?_
  refine lv_bipush (v := 16) hx hb d_Mo_act_115 (by decide) ?_
  refine lv_icmp_ne (tgt := 128) hx hb d_Mo_act_117 (by decide) (fun c9 => ?_) (fun c9 => absurd c9 (by decide))
  refine lv_iload_n hx hb d_Mo_act_128 rfl (lv_at hl 1 rfl) ?_
  refine lv_bipush (v := 9) hx hb d_Mo_act_129 (by decide) ?_
  refine lv_icmp_eq (tgt := 140) hx hb d_Mo_act_131 (by decide) (fun c10 => absurd c10 (by decide)) (fun c10 => ?_)
  refine lv_iload_n hx hb d_Mo_act_134 rfl (lv_at hl 1 rfl) ?_
  refine lv_bipush (v := 10) hx hb d_Mo_act_135 (by decide) ?_
  refine lv_icmp_ne (tgt := 159) hx hb d_Mo_act_137 (by decide) (fun c11 => ?_) (fun c11 => absurd c11 (by decide))
  refine lv_iload_n hx hb d_Mo_act_159 rfl (lv_at hl 1 rfl) ?_
  refine lv_bipush (v := 13) hx hb d_Mo_act_160 (by decide) ?_
  refine lv_icmp_ne (tgt := 173) hx hb d_Mo_act_162 (by decide) (fun c12 => ?_) (fun c12 => absurd c12 (by decide))
  refine lv_aload_n hx hb d_Mo_act_173 rfl (lv_at hl 2 rfl) ?_
  refine lv_iload_n hx hb d_Mo_act_174 rfl (lv_at hl 3 rfl) ?_
  refine lv_iload_n hx hb d_Mo_act_175 rfl (lv_at hl 1 rfl) ?_
  refine gh_callV C V hl.1 m_Mo_two l_Mo_331 (hM _) rfl X.1.1 gc_Mo ⟨by show fr + 1 ≤ 11; omega, by show 8 + (4 + 11) + lo ≤ 360; omega⟩ ⟨Nat.le_refl _, Nat.le_refl _⟩ (Nat.le_of_ble_eq_true rfl) rfl d_Mo_act_176 (fun r z9 H locs hp V1 => ?_)
  obtain ⟨rfl, hQ⟩ := hp
  have V := V1
  refine W.eq (g2 := F0 m 179 ls []) rfl ?_
  refine gh_retv hAe C V hr hlocks d_Mo_act_179 (by first | decide | omega | (dsimp only; omega)) (by first | decide | omega | (dsimp only; omega)) ?_
  exact ⟨rfl, hQ⟩
set_option maxHeartbeats 4000000 in
set_option maxRecDepth 100000 in
theorem c_Mo_act_9 (l : Launch) (E : gh_E) (sz : Nat) (f : gh_F) (a : Nat) (ad : Nat → Nat) (S : Nat → Int32) (I : Nat → Nat → Int32) (J : Nat → Nat → Int64) (cp fr lo : Nat) (Q : gh_F → Prop) (hX : mo_R E f a ad S I J) (hc60 : cp < 60) (hfr : fr ≤ 10) (hlo : lo ≤ 320) (hkb : I 33 cp = 9) (hM : ∀ sz, gh_M l y_Mo_either b_Mo_either 6 none E sz [.ref a, .int (nI cp), .int 0] f { frames := fr, cells := 0, slots := 0, locals := lo } (fun r g => r = none ∧ Q g)) : gh_M l y_Mo_act b_Mo_act 4 none E sz [.ref a, .int (nI cp)] f { frames := 11, cells := 0, slots := 0, locals := 360 } (fun r g => r = none ∧ Q g) := by
  refine gh_open (by decide) (Nat.le_of_ble_eq_true rfl) ?_
  intro p e s m args below meth c A ls hAe C V hr hlocks hname hl
  have hx := C.1
  have hb := C.2.1
  have hl : lv_has ls 4 [(0, .ref a), (1, .int (nI cp))] := hl
  have X : mo_X E f f a ad S I J := ⟨hX, gh_fr.rf⟩
  refine lv_aload_n hx hb d_Mo_act_0 rfl (lv_at hl 0 rfl) ?_
  refine mo_getA C V X 33 (by decide) (by decide) f_Mo_82 rfl d_Mo_act_1 ?_
  refine lv_iload_n hx hb d_Mo_act_4 rfl (lv_at hl 1 rfl) ?_
  refine mo_ild (k := 33) (i := cp) (n := 60) C V X (by decide) (by decide) rfl (by omega) (by decide) d_Mo_act_5 ?_
  rw [show I 33 cp = 9 from hkb]
  refine lv_istore_n hx hb d_Mo_act_6 rfl hl (by decide) rfl (fun ls hl => ?_)
  have hl : lv_has ls 4 [(2, .int 9), (0, .ref a), (1, .int (nI cp))] := hl
  refine lv_iload_n hx hb d_Mo_act_7 rfl (lv_at hl 0 rfl) ?_
  refine lv_bipush (v := 8) hx hb d_Mo_act_8 (by decide) ?_
  refine lv_icmp_ge (tgt := 23) hx hb d_Mo_act_10 (by decide) (fun c1 => ?_) (fun c1 => absurd (by decide) c1)
  refine lv_iload_n hx hb d_Mo_act_23 rfl (lv_at hl 0 rfl) ?_
  refine lv_bipush (v := 15) hx hb d_Mo_act_24 (by decide) ?_
  refine lv_icmp_eq (tgt := 41) hx hb d_Mo_act_26 (by decide) (fun c2 => absurd c2 (by decide)) (fun c2 => ?_)
  refine lv_iload_n hx hb d_Mo_act_29 rfl (lv_at hl 0 rfl) ?_
  refine lv_bipush (v := 16) hx hb d_Mo_act_30 (by decide) ?_
  refine lv_icmp_le (tgt := 45) hx hb d_Mo_act_32 (by decide) (fun c3 => ?_) (fun c3 => absurd (by decide) c3)
  refine lv_iconst (v := 0) hx hb d_Mo_act_45 (by decide) ?_
  refine lv_istore_n hx hb d_Mo_act_46 rfl hl (by decide) rfl (fun ls hl => ?_)
  have hl : lv_has ls 4 [(3, .int 0), (2, .int 9), (0, .ref a), (1, .int (nI cp))] := hl
  refine lv_iload_n hx hb d_Mo_act_47 rfl (lv_at hl 0 rfl) ?_
  refine lv_if_eq (tgt := 60) hx hb d_Mo_act_48 (by decide) (fun c4 => ?_) (fun c4 => absurd (by decide) c4)
  refine lv_iload_n hx hb d_Mo_act_60 rfl (lv_at hl 1 rfl) ?_
  refine lv_iconst (v := 3) hx hb d_Mo_act_61 (by decide) ?_
  refine lv_icmp_ne (tgt := 73) hx hb d_Mo_act_62 (by decide) (fun c5 => ?_) (fun c5 => absurd c5 (by decide))
  refine lv_iload_n hx hb d_Mo_act_73 rfl (lv_at hl 1 rfl) ?_
  refine lv_iconst (v := 4) hx hb d_Mo_act_74 (by decide) ?_
  refine lv_icmp_ne (tgt := 86) hx hb d_Mo_act_75 (by decide) (fun c6 => ?_) (fun c6 => absurd c6 (by decide))
  refine lv_iload_n hx hb d_Mo_act_86 rfl (lv_at hl 1 rfl) ?_
  refine lv_bipush (v := 12) hx hb d_Mo_act_87 (by decide) ?_
  refine lv_icmp_ne (tgt := 100) hx hb d_Mo_act_89 (by decide) (fun c7 => ?_) (fun c7 => absurd c7 (by decide))
  refine lv_iload_n hx hb d_Mo_act_100 rfl (lv_at hl 1 rfl) ?_
  refine lv_bipush (v := 14) hx hb d_Mo_act_101 (by decide) ?_
  refine lv_icmp_ne (tgt := 114) hx hb d_Mo_act_103 (by decide) (fun c8 => ?_) (fun c8 => absurd c8 (by decide))
  refine lv_iload_n hx hb d_Mo_act_114 rfl (lv_at hl 1 rfl) ?_
  refine lv_bipush (v := 16) hx hb d_Mo_act_115 (by decide) ?_
  refine lv_icmp_ne (tgt := 128) hx hb d_Mo_act_117 (by decide) (fun c9 => ?_) (fun c9 => absurd c9 (by decide))
  refine lv_iload_n hx hb d_Mo_act_128 rfl (lv_at hl 1 rfl) ?_
  refine lv_bipush (v := 9) hx hb d_Mo_act_129 (by decide) ?_
  refine lv_icmp_eq (tgt := 140) hx hb d_Mo_act_131 (by decide) (fun c10 => ?_) (fun c10 => absurd (by decide) c10)
  refine lv_aload_n hx hb d_Mo_act_140 rfl (lv_at hl 2 rfl) ?_
  refine lv_iload_n hx hb d_Mo_act_141 rfl (lv_at hl 3 rfl) ?_
  refine lv_iload_n hx hb d_Mo_act_142 rfl (lv_at hl 1 rfl) ?_
  refine lv_bipush (v := 10) hx hb d_Mo_act_143 (by decide) ?_
  refine lv_icmp_ne (tgt := 152) hx hb d_Mo_act_145 (by decide) (fun c11 => ?_) (fun c11 => absurd c11 (by decide))
  refine lv_iconst (v := 0) hx hb d_Mo_act_152 (by decide) ?_
  refine gh_callV C V hl.1 m_Mo_either l_Mo_324 (hM _) rfl X.1.1 gc_Mo ⟨by show fr + 1 ≤ 11; omega, by show 8 + (6 + 11) + lo ≤ 360; omega⟩ ⟨Nat.le_refl _, Nat.le_refl _⟩ (Nat.le_of_ble_eq_true rfl) rfl d_Mo_act_153 (fun r z9 H locs hp V1 => ?_)
  obtain ⟨rfl, hQ⟩ := hp
  have V := V1
  refine W.eq (g2 := F0 m 156 ls []) rfl ?_
  refine lv_goto (tgt := 179) hx hb d_Mo_act_156 (by decide) ?_
  refine gh_retv hAe C V hr hlocks d_Mo_act_179 (by first | decide | omega | (dsimp only; omega)) (by first | decide | omega | (dsimp only; omega)) ?_
  exact ⟨rfl, hQ⟩
set_option maxHeartbeats 4000000 in
set_option maxRecDepth 100000 in
theorem c_Mo_act_10 (l : Launch) (E : gh_E) (sz : Nat) (f : gh_F) (a : Nat) (ad : Nat → Nat) (S : Nat → Int32) (I : Nat → Nat → Int32) (J : Nat → Nat → Int64) (cp fr lo : Nat) (Q : gh_F → Prop) (hX : mo_R E f a ad S I J) (hc60 : cp < 60) (hfr : fr ≤ 10) (hlo : lo ≤ 320) (hkb : I 33 cp = 10) (hM : ∀ sz, gh_M l y_Mo_either b_Mo_either 6 none E sz [.ref a, .int (nI cp), .int 1] f { frames := fr, cells := 0, slots := 0, locals := lo } (fun r g => r = none ∧ Q g)) : gh_M l y_Mo_act b_Mo_act 4 none E sz [.ref a, .int (nI cp)] f { frames := 11, cells := 0, slots := 0, locals := 360 } (fun r g => r = none ∧ Q g) := by
  refine gh_open (by decide) (Nat.le_of_ble_eq_true rfl) ?_
  intro p e s m args below meth c A ls hAe C V hr hlocks hname hl
  have hx := C.1
  have hb := C.2.1
  have hl : lv_has ls 4 [(0, .ref a), (1, .int (nI cp))] := hl
  have X : mo_X E f f a ad S I J := ⟨hX, gh_fr.rf⟩
  refine lv_aload_n hx hb d_Mo_act_0 rfl (lv_at hl 0 rfl) ?_
  refine mo_getA C V X 33 (by decide) (by decide) f_Mo_82 rfl d_Mo_act_1 ?_
  refine lv_iload_n hx hb d_Mo_act_4 rfl (lv_at hl 1 rfl) ?_
  refine mo_ild (k := 33) (i := cp) (n := 60) C V X (by decide) (by decide) rfl (by omega) (by decide) d_Mo_act_5 ?_
  rw [show I 33 cp = 10 from hkb]
  refine lv_istore_n hx hb d_Mo_act_6 rfl hl (by decide) rfl (fun ls hl => ?_)
  have hl : lv_has ls 4 [(2, .int 10), (0, .ref a), (1, .int (nI cp))] := hl
  refine lv_iload_n hx hb d_Mo_act_7 rfl (lv_at hl 0 rfl) ?_
  refine lv_bipush (v := 8) hx hb d_Mo_act_8 (by decide) ?_
  refine lv_icmp_ge (tgt := 23) hx hb d_Mo_act_10 (by decide) (fun c1 => ?_) (fun c1 => absurd (by decide) c1)
  refine lv_iload_n hx hb d_Mo_act_23 rfl (lv_at hl 0 rfl) ?_
  refine lv_bipush (v := 15) hx hb d_Mo_act_24 (by decide) ?_
  refine lv_icmp_eq (tgt := 41) hx hb d_Mo_act_26 (by decide) (fun c2 => absurd c2 (by decide)) (fun c2 => ?_)
  refine lv_iload_n hx hb d_Mo_act_29 rfl (lv_at hl 0 rfl) ?_
  refine lv_bipush (v := 16) hx hb d_Mo_act_30 (by decide) ?_
  refine lv_icmp_le (tgt := 45) hx hb d_Mo_act_32 (by decide) (fun c3 => ?_) (fun c3 => absurd (by decide) c3)
  refine lv_iconst (v := 0) hx hb d_Mo_act_45 (by decide) ?_
  refine lv_istore_n hx hb d_Mo_act_46 rfl hl (by decide) rfl (fun ls hl => ?_)
  have hl : lv_has ls 4 [(3, .int 0), (2, .int 10), (0, .ref a), (1, .int (nI cp))] := hl
  refine lv_iload_n hx hb d_Mo_act_47 rfl (lv_at hl 0 rfl) ?_
  refine lv_if_eq (tgt := 60) hx hb d_Mo_act_48 (by decide) (fun c4 => ?_) (fun c4 => absurd (by decide) c4)
  refine lv_iload_n hx hb d_Mo_act_60 rfl (lv_at hl 1 rfl) ?_
  refine lv_iconst (v := 3) hx hb d_Mo_act_61 (by decide) ?_
  refine lv_icmp_ne (tgt := 73) hx hb d_Mo_act_62 (by decide) (fun c5 => ?_) (fun c5 => absurd c5 (by decide))
  refine lv_iload_n hx hb d_Mo_act_73 rfl (lv_at hl 1 rfl) ?_
  refine lv_iconst (v := 4) hx hb d_Mo_act_74 (by decide) ?_
  refine lv_icmp_ne (tgt := 86) hx hb d_Mo_act_75 (by decide) (fun c6 => ?_) (fun c6 => absurd c6 (by decide))
  refine lv_iload_n hx hb d_Mo_act_86 rfl (lv_at hl 1 rfl) ?_
  refine lv_bipush (v := 12) hx hb d_Mo_act_87 (by decide) ?_
  refine lv_icmp_ne (tgt := 100) hx hb d_Mo_act_89 (by decide) (fun c7 => ?_) (fun c7 => absurd c7 (by decide))
  refine lv_iload_n hx hb d_Mo_act_100 rfl (lv_at hl 1 rfl) ?_
  refine lv_bipush (v := 14) hx hb d_Mo_act_101 (by decide) ?_
  refine lv_icmp_ne (tgt := 114) hx hb d_Mo_act_103 (by decide) (fun c8 => ?_) (fun c8 => absurd c8 (by decide))
  refine lv_iload_n hx hb d_Mo_act_114 rfl (lv_at hl 1 rfl) ?_
  refine lv_bipush (v := 16) hx hb d_Mo_act_115 (by decide) ?_
  refine lv_icmp_ne (tgt := 128) hx hb d_Mo_act_117 (by decide) (fun c9 => ?_) (fun c9 => absurd c9 (by decide))
  refine lv_iload_n hx hb d_Mo_act_128 rfl (lv_at hl 1 rfl) ?_
  refine lv_bipush (v := 9) hx hb d_Mo_act_129 (by decide) ?_
  refine lv_icmp_eq (tgt := 140) hx hb d_Mo_act_131 (by decide) (fun c10 => absurd c10 (by decide)) (fun c10 => ?_)
  refine lv_iload_n hx hb d_Mo_act_134 rfl (lv_at hl 1 rfl) ?_
  refine lv_bipush (v := 10) hx hb d_Mo_act_135 (by decide) ?_
  refine lv_icmp_ne (tgt := 159) hx hb d_Mo_act_137 (by decide) (fun c11 => absurd (by decide) c11) (fun c11 => ?_)
  refine lv_aload_n hx hb d_Mo_act_140 rfl (lv_at hl 2 rfl) ?_
  refine lv_iload_n hx hb d_Mo_act_141 rfl (lv_at hl 3 rfl) ?_
  refine lv_iload_n hx hb d_Mo_act_142 rfl (lv_at hl 1 rfl) ?_
  refine lv_bipush (v := 10) hx hb d_Mo_act_143 (by decide) ?_
  refine lv_icmp_ne (tgt := 152) hx hb d_Mo_act_145 (by decide) (fun c12 => absurd (by decide) c12) (fun c12 => ?_)
  refine lv_iconst (v := 1) hx hb d_Mo_act_148 (by decide) ?_
  refine lv_goto (tgt := 153) hx hb d_Mo_act_149 (by decide) ?_
  refine gh_callV C V hl.1 m_Mo_either l_Mo_324 (hM _) rfl X.1.1 gc_Mo ⟨by show fr + 1 ≤ 11; omega, by show 8 + (6 + 11) + lo ≤ 360; omega⟩ ⟨Nat.le_refl _, Nat.le_refl _⟩ (Nat.le_of_ble_eq_true rfl) rfl d_Mo_act_153 (fun r z9 H locs hp V1 => ?_)
  obtain ⟨rfl, hQ⟩ := hp
  have V := V1
  refine W.eq (g2 := F0 m 156 ls []) rfl ?_
  refine lv_goto (tgt := 179) hx hb d_Mo_act_156 (by decide) ?_
  refine gh_retv hAe C V hr hlocks d_Mo_act_179 (by first | decide | omega | (dsimp only; omega)) (by first | decide | omega | (dsimp only; omega)) ?_
  exact ⟨rfl, hQ⟩
set_option maxHeartbeats 4000000 in
set_option maxRecDepth 100000 in
theorem c_Mo_act_11 (l : Launch) (E : gh_E) (sz : Nat) (f : gh_F) (a : Nat) (ad : Nat → Nat) (S : Nat → Int32) (I : Nat → Nat → Int32) (J : Nat → Nat → Int64) (cp fr lo : Nat) (Q : gh_F → Prop) (hX : mo_R E f a ad S I J) (hc60 : cp < 60) (hfr : fr ≤ 10) (hlo : lo ≤ 320) (hkb : I 33 cp = 11) (hM : ∀ sz, gh_M l y_Mo_two b_Mo_two 4 none E sz [.ref a, .int (nI cp), .int 11] f { frames := fr, cells := 0, slots := 0, locals := lo } (fun r g => r = none ∧ Q g)) : gh_M l y_Mo_act b_Mo_act 4 none E sz [.ref a, .int (nI cp)] f { frames := 11, cells := 0, slots := 0, locals := 360 } (fun r g => r = none ∧ Q g) := by
  refine gh_open (by decide) (Nat.le_of_ble_eq_true rfl) ?_
  intro p e s m args below meth c A ls hAe C V hr hlocks hname hl
  have hx := C.1
  have hb := C.2.1
  have hl : lv_has ls 4 [(0, .ref a), (1, .int (nI cp))] := hl
  have X : mo_X E f f a ad S I J := ⟨hX, gh_fr.rf⟩
  refine lv_aload_n hx hb d_Mo_act_0 rfl (lv_at hl 0 rfl) ?_
  refine mo_getA C V X 33 (by decide) (by decide) f_Mo_82 rfl d_Mo_act_1 ?_
  refine lv_iload_n hx hb d_Mo_act_4 rfl (lv_at hl 1 rfl) ?_
  refine mo_ild (k := 33) (i := cp) (n := 60) C V X (by decide) (by decide) rfl (by omega) (by decide) d_Mo_act_5 ?_
  rw [show I 33 cp = 11 from hkb]
  refine lv_istore_n hx hb d_Mo_act_6 rfl hl (by decide) rfl (fun ls hl => ?_)
  have hl : lv_has ls 4 [(2, .int 11), (0, .ref a), (1, .int (nI cp))] := hl
  refine lv_iload_n hx hb d_Mo_act_7 rfl (lv_at hl 0 rfl) ?_
  refine lv_bipush (v := 8) hx hb d_Mo_act_8 (by decide) ?_
  refine lv_icmp_ge (tgt := 23) hx hb d_Mo_act_10 (by decide) (fun c1 => ?_) (fun c1 => absurd (by decide) c1)
  refine lv_iload_n hx hb d_Mo_act_23 rfl (lv_at hl 0 rfl) ?_
  refine lv_bipush (v := 15) hx hb d_Mo_act_24 (by decide) ?_
  refine lv_icmp_eq (tgt := 41) hx hb d_Mo_act_26 (by decide) (fun c2 => absurd c2 (by decide)) (fun c2 => ?_)
  refine lv_iload_n hx hb d_Mo_act_29 rfl (lv_at hl 0 rfl) ?_
  refine lv_bipush (v := 16) hx hb d_Mo_act_30 (by decide) ?_
  refine lv_icmp_le (tgt := 45) hx hb d_Mo_act_32 (by decide) (fun c3 => ?_) (fun c3 => absurd (by decide) c3)
  refine lv_iconst (v := 0) hx hb d_Mo_act_45 (by decide) ?_
  refine lv_istore_n hx hb d_Mo_act_46 rfl hl (by decide) rfl (fun ls hl => ?_)
  have hl : lv_has ls 4 [(3, .int 0), (2, .int 11), (0, .ref a), (1, .int (nI cp))] := hl
  refine lv_iload_n hx hb d_Mo_act_47 rfl (lv_at hl 0 rfl) ?_
  refine lv_if_eq (tgt := 60) hx hb d_Mo_act_48 (by decide) (fun c4 => ?_) (fun c4 => absurd (by decide) c4)
  refine lv_iload_n hx hb d_Mo_act_60 rfl (lv_at hl 1 rfl) ?_
  refine lv_iconst (v := 3) hx hb d_Mo_act_61 (by decide) ?_
  refine lv_icmp_ne (tgt := 73) hx hb d_Mo_act_62 (by decide) (fun c5 => ?_) (fun c5 => absurd c5 (by decide))
  refine lv_iload_n hx hb d_Mo_act_73 rfl (lv_at hl 1 rfl) ?_
  refine lv_iconst (v := 4) hx hb d_Mo_act_74 (by decide) ?_
  refine lv_icmp_ne (tgt := 86) hx hb d_Mo_act_75 (by decide) (fun c6 => ?_) (fun c6 => absurd c6 (by decide))
  refine lv_iload_n hx hb d_Mo_act_86 rfl (lv_at hl 1 rfl) ?_
  refine lv_bipush (v := 12) hx hb d_Mo_act_87 (by decide) ?_
  refine lv_icmp_ne (tgt := 100) hx hb d_Mo_act_89 (by decide) (fun c7 => ?_) (fun c7 => absurd c7 (by decide))
  refine lv_iload_n hx hb d_Mo_act_100 rfl (lv_at hl 1 rfl) ?_
  refine lv_bipush (v := 14) hx hb d_Mo_act_101 (by decide) ?_
  refine lv_icmp_ne (tgt := 114) hx hb d_Mo_act_103 (by decide) (fun c8 => ?_) (fun c8 => absurd c8 (by decide))
  refine lv_iload_n hx hb d_Mo_act_114 rfl (lv_at hl 1 rfl) ?_
  refine lv_bipush (v := 16) hx hb d_Mo_act_115 (by decide) ?_
  refine lv_icmp_ne (tgt := 128) hx hb d_Mo_act_117 (by decide) (fun c9 => ?_) (fun c9 => absurd c9 (by decide))
  refine lv_iload_n hx hb d_Mo_act_128 rfl (lv_at hl 1 rfl) ?_
  refine lv_bipush (v := 9) hx hb d_Mo_act_129 (by decide) ?_
  refine lv_icmp_eq (tgt := 140) hx hb d_Mo_act_131 (by decide) (fun c10 => absurd c10 (by decide)) (fun c10 => ?_)
  refine lv_iload_n hx hb d_Mo_act_134 rfl (lv_at hl 1 rfl) ?_
  refine lv_bipush (v := 10) hx hb d_Mo_act_135 (by decide) ?_
  refine lv_icmp_ne (tgt := 159) hx hb d_Mo_act_137 (by decide) (fun c11 => ?_) (fun c11 => absurd c11 (by decide))
  refine lv_iload_n hx hb d_Mo_act_159 rfl (lv_at hl 1 rfl) ?_
  refine lv_bipush (v := 13) hx hb d_Mo_act_160 (by decide) ?_
  refine lv_icmp_ne (tgt := 173) hx hb d_Mo_act_162 (by decide) (fun c12 => ?_) (fun c12 => absurd c12 (by decide))
  refine lv_aload_n hx hb d_Mo_act_173 rfl (lv_at hl 2 rfl) ?_
  refine lv_iload_n hx hb d_Mo_act_174 rfl (lv_at hl 3 rfl) ?_
  refine lv_iload_n hx hb d_Mo_act_175 rfl (lv_at hl 1 rfl) ?_
  refine gh_callV C V hl.1 m_Mo_two l_Mo_331 (hM _) rfl X.1.1 gc_Mo ⟨by show fr + 1 ≤ 11; omega, by show 8 + (4 + 11) + lo ≤ 360; omega⟩ ⟨Nat.le_refl _, Nat.le_refl _⟩ (Nat.le_of_ble_eq_true rfl) rfl d_Mo_act_176 (fun r z9 H locs hp V1 => ?_)
  obtain ⟨rfl, hQ⟩ := hp
  have V := V1
  refine W.eq (g2 := F0 m 179 ls []) rfl ?_
  refine gh_retv hAe C V hr hlocks d_Mo_act_179 (by first | decide | omega | (dsimp only; omega)) (by first | decide | omega | (dsimp only; omega)) ?_
  exact ⟨rfl, hQ⟩
set_option maxHeartbeats 4000000 in
set_option maxRecDepth 100000 in
theorem c_Mo_act_12 (l : Launch) (E : gh_E) (sz : Nat) (f : gh_F) (a : Nat) (ad : Nat → Nat) (S : Nat → Int32) (I : Nat → Nat → Int32) (J : Nat → Nat → Int64) (cp fr lo : Nat) (Q : gh_F → Prop) (hX : mo_R E f a ad S I J) (hc60 : cp < 60) (hfr : fr ≤ 10) (hlo : lo ≤ 320) (hkb : I 33 cp = 12) (hM : ∀ sz, gh_M l y_Mo_gather b_Mo_gather 3 none E sz [.ref a, .int (nI cp)] f { frames := fr, cells := 0, slots := 0, locals := lo } (fun r g => r = none ∧ Q g)) : gh_M l y_Mo_act b_Mo_act 4 none E sz [.ref a, .int (nI cp)] f { frames := 11, cells := 0, slots := 0, locals := 360 } (fun r g => r = none ∧ Q g) := by
  refine gh_open (by decide) (Nat.le_of_ble_eq_true rfl) ?_
  intro p e s m args below meth c A ls hAe C V hr hlocks hname hl
  have hx := C.1
  have hb := C.2.1
  have hl : lv_has ls 4 [(0, .ref a), (1, .int (nI cp))] := hl
  have X : mo_X E f f a ad S I J := ⟨hX, gh_fr.rf⟩
  refine lv_aload_n hx hb d_Mo_act_0 rfl (lv_at hl 0 rfl) ?_
  refine mo_getA C V X 33 (by decide) (by decide) f_Mo_82 rfl d_Mo_act_1 ?_
  refine lv_iload_n hx hb d_Mo_act_4 rfl (lv_at hl 1 rfl) ?_
  refine mo_ild (k := 33) (i := cp) (n := 60) C V X (by decide) (by decide) rfl (by omega) (by decide) d_Mo_act_5 ?_
  rw [show I 33 cp = 12 from hkb]
  refine lv_istore_n hx hb d_Mo_act_6 rfl hl (by decide) rfl (fun ls hl => ?_)
  have hl : lv_has ls 4 [(2, .int 12), (0, .ref a), (1, .int (nI cp))] := hl
  refine lv_iload_n hx hb d_Mo_act_7 rfl (lv_at hl 0 rfl) ?_
  refine lv_bipush (v := 8) hx hb d_Mo_act_8 (by decide) ?_
  refine lv_icmp_ge (tgt := 23) hx hb d_Mo_act_10 (by decide) (fun c1 => ?_) (fun c1 => absurd (by decide) c1)
  refine lv_iload_n hx hb d_Mo_act_23 rfl (lv_at hl 0 rfl) ?_
  refine lv_bipush (v := 15) hx hb d_Mo_act_24 (by decide) ?_
  refine lv_icmp_eq (tgt := 41) hx hb d_Mo_act_26 (by decide) (fun c2 => absurd c2 (by decide)) (fun c2 => ?_)
  refine lv_iload_n hx hb d_Mo_act_29 rfl (lv_at hl 0 rfl) ?_
  refine lv_bipush (v := 16) hx hb d_Mo_act_30 (by decide) ?_
  refine lv_icmp_le (tgt := 45) hx hb d_Mo_act_32 (by decide) (fun c3 => ?_) (fun c3 => absurd (by decide) c3)
  refine lv_iconst (v := 0) hx hb d_Mo_act_45 (by decide) ?_
  refine lv_istore_n hx hb d_Mo_act_46 rfl hl (by decide) rfl (fun ls hl => ?_)
  have hl : lv_has ls 4 [(3, .int 0), (2, .int 12), (0, .ref a), (1, .int (nI cp))] := hl
  refine lv_iload_n hx hb d_Mo_act_47 rfl (lv_at hl 0 rfl) ?_
  refine lv_if_eq (tgt := 60) hx hb d_Mo_act_48 (by decide) (fun c4 => ?_) (fun c4 => absurd (by decide) c4)
  refine lv_iload_n hx hb d_Mo_act_60 rfl (lv_at hl 1 rfl) ?_
  refine lv_iconst (v := 3) hx hb d_Mo_act_61 (by decide) ?_
  refine lv_icmp_ne (tgt := 73) hx hb d_Mo_act_62 (by decide) (fun c5 => ?_) (fun c5 => absurd c5 (by decide))
  refine lv_iload_n hx hb d_Mo_act_73 rfl (lv_at hl 1 rfl) ?_
  refine lv_iconst (v := 4) hx hb d_Mo_act_74 (by decide) ?_
  refine lv_icmp_ne (tgt := 86) hx hb d_Mo_act_75 (by decide) (fun c6 => ?_) (fun c6 => absurd c6 (by decide))
  refine lv_iload_n hx hb d_Mo_act_86 rfl (lv_at hl 1 rfl) ?_
  refine lv_bipush (v := 12) hx hb d_Mo_act_87 (by decide) ?_
  refine lv_icmp_ne (tgt := 100) hx hb d_Mo_act_89 (by decide) (fun c7 => absurd (by decide) c7) (fun c7 => ?_)
  refine lv_aload_n hx hb d_Mo_act_92 rfl (lv_at hl 2 rfl) ?_
  refine lv_iload_n hx hb d_Mo_act_93 rfl (lv_at hl 3 rfl) ?_
  refine gh_callV C V hl.1 m_Mo_gather l_Mo_315 (hM _) rfl X.1.1 gc_Mo ⟨by show fr + 1 ≤ 11; omega, by show 8 + (3 + 11) + lo ≤ 360; omega⟩ ⟨Nat.le_refl _, Nat.le_refl _⟩ (Nat.le_of_ble_eq_true rfl) rfl d_Mo_act_94 (fun r z9 H locs hp V1 => ?_)
  obtain ⟨rfl, hQ⟩ := hp
  have V := V1
  refine W.eq (g2 := F0 m 97 ls []) rfl ?_
  refine lv_goto (tgt := 179) hx hb d_Mo_act_97 (by decide) ?_
  refine gh_retv hAe C V hr hlocks d_Mo_act_179 (by first | decide | omega | (dsimp only; omega)) (by first | decide | omega | (dsimp only; omega)) ?_
  exact ⟨rfl, hQ⟩
set_option maxHeartbeats 4000000 in
set_option maxRecDepth 100000 in
theorem c_Mo_act_13 (l : Launch) (E : gh_E) (sz : Nat) (f : gh_F) (a : Nat) (ad : Nat → Nat) (S : Nat → Int32) (I : Nat → Nat → Int32) (J : Nat → Nat → Int64) (cp fr lo : Nat) (Q : gh_F → Prop) (hX : mo_R E f a ad S I J) (hc60 : cp < 60) (hfr : fr ≤ 10) (hlo : lo ≤ 320) (hkb : I 33 cp = 13) (hM : ∀ sz, gh_M l y_Mo_attempt b_Mo_attempt 2 none E sz [.ref a, .int (nI cp)] f { frames := fr, cells := 0, slots := 0, locals := lo } (fun r g => r = none ∧ Q g)) : gh_M l y_Mo_act b_Mo_act 4 none E sz [.ref a, .int (nI cp)] f { frames := 11, cells := 0, slots := 0, locals := 360 } (fun r g => r = none ∧ Q g) := by
  refine gh_open (by decide) (Nat.le_of_ble_eq_true rfl) ?_
  intro p e s m args below meth c A ls hAe C V hr hlocks hname hl
  have hx := C.1
  have hb := C.2.1
  have hl : lv_has ls 4 [(0, .ref a), (1, .int (nI cp))] := hl
  have X : mo_X E f f a ad S I J := ⟨hX, gh_fr.rf⟩
  refine lv_aload_n hx hb d_Mo_act_0 rfl (lv_at hl 0 rfl) ?_
  refine mo_getA C V X 33 (by decide) (by decide) f_Mo_82 rfl d_Mo_act_1 ?_
  refine lv_iload_n hx hb d_Mo_act_4 rfl (lv_at hl 1 rfl) ?_
  refine mo_ild (k := 33) (i := cp) (n := 60) C V X (by decide) (by decide) rfl (by omega) (by decide) d_Mo_act_5 ?_
  rw [show I 33 cp = 13 from hkb]
  refine lv_istore_n hx hb d_Mo_act_6 rfl hl (by decide) rfl (fun ls hl => ?_)
  have hl : lv_has ls 4 [(2, .int 13), (0, .ref a), (1, .int (nI cp))] := hl
  refine lv_iload_n hx hb d_Mo_act_7 rfl (lv_at hl 0 rfl) ?_
  refine lv_bipush (v := 8) hx hb d_Mo_act_8 (by decide) ?_
  refine lv_icmp_ge (tgt := 23) hx hb d_Mo_act_10 (by decide) (fun c1 => ?_) (fun c1 => absurd (by decide) c1)
  refine lv_iload_n hx hb d_Mo_act_23 rfl (lv_at hl 0 rfl) ?_
  refine lv_bipush (v := 15) hx hb d_Mo_act_24 (by decide) ?_
  refine lv_icmp_eq (tgt := 41) hx hb d_Mo_act_26 (by decide) (fun c2 => absurd c2 (by decide)) (fun c2 => ?_)
  refine lv_iload_n hx hb d_Mo_act_29 rfl (lv_at hl 0 rfl) ?_
  refine lv_bipush (v := 16) hx hb d_Mo_act_30 (by decide) ?_
  refine lv_icmp_le (tgt := 45) hx hb d_Mo_act_32 (by decide) (fun c3 => ?_) (fun c3 => absurd (by decide) c3)
  refine lv_iconst (v := 0) hx hb d_Mo_act_45 (by decide) ?_
  refine lv_istore_n hx hb d_Mo_act_46 rfl hl (by decide) rfl (fun ls hl => ?_)
  have hl : lv_has ls 4 [(3, .int 0), (2, .int 13), (0, .ref a), (1, .int (nI cp))] := hl
  refine lv_iload_n hx hb d_Mo_act_47 rfl (lv_at hl 0 rfl) ?_
  refine lv_if_eq (tgt := 60) hx hb d_Mo_act_48 (by decide) (fun c4 => ?_) (fun c4 => absurd (by decide) c4)
  refine lv_iload_n hx hb d_Mo_act_60 rfl (lv_at hl 1 rfl) ?_
  refine lv_iconst (v := 3) hx hb d_Mo_act_61 (by decide) ?_
  refine lv_icmp_ne (tgt := 73) hx hb d_Mo_act_62 (by decide) (fun c5 => ?_) (fun c5 => absurd c5 (by decide))
  refine lv_iload_n hx hb d_Mo_act_73 rfl (lv_at hl 1 rfl) ?_
  refine lv_iconst (v := 4) hx hb d_Mo_act_74 (by decide) ?_
  refine lv_icmp_ne (tgt := 86) hx hb d_Mo_act_75 (by decide) (fun c6 => ?_) (fun c6 => absurd c6 (by decide))
  refine lv_iload_n hx hb d_Mo_act_86 rfl (lv_at hl 1 rfl) ?_
  refine lv_bipush (v := 12) hx hb d_Mo_act_87 (by decide) ?_
  refine lv_icmp_ne (tgt := 100) hx hb d_Mo_act_89 (by decide) (fun c7 => ?_) (fun c7 => absurd c7 (by decide))
  refine lv_iload_n hx hb d_Mo_act_100 rfl (lv_at hl 1 rfl) ?_
  refine lv_bipush (v := 14) hx hb d_Mo_act_101 (by decide) ?_
  refine lv_icmp_ne (tgt := 114) hx hb d_Mo_act_103 (by decide) (fun c8 => ?_) (fun c8 => absurd c8 (by decide))
  refine lv_iload_n hx hb d_Mo_act_114 rfl (lv_at hl 1 rfl) ?_
  refine lv_bipush (v := 16) hx hb d_Mo_act_115 (by decide) ?_
  refine lv_icmp_ne (tgt := 128) hx hb d_Mo_act_117 (by decide) (fun c9 => ?_) (fun c9 => absurd c9 (by decide))
  refine lv_iload_n hx hb d_Mo_act_128 rfl (lv_at hl 1 rfl) ?_
  refine lv_bipush (v := 9) hx hb d_Mo_act_129 (by decide) ?_
  refine lv_icmp_eq (tgt := 140) hx hb d_Mo_act_131 (by decide) (fun c10 => absurd c10 (by decide)) (fun c10 => ?_)
  refine lv_iload_n hx hb d_Mo_act_134 rfl (lv_at hl 1 rfl) ?_
  refine lv_bipush (v := 10) hx hb d_Mo_act_135 (by decide) ?_
  refine lv_icmp_ne (tgt := 159) hx hb d_Mo_act_137 (by decide) (fun c11 => ?_) (fun c11 => absurd c11 (by decide))
  refine lv_iload_n hx hb d_Mo_act_159 rfl (lv_at hl 1 rfl) ?_
  refine lv_bipush (v := 13) hx hb d_Mo_act_160 (by decide) ?_
  refine lv_icmp_ne (tgt := 173) hx hb d_Mo_act_162 (by decide) (fun c12 => absurd (by decide) c12) (fun c12 => ?_)
  refine lv_aload_n hx hb d_Mo_act_165 rfl (lv_at hl 2 rfl) ?_
  refine lv_iload_n hx hb d_Mo_act_166 rfl (lv_at hl 3 rfl) ?_
  refine gh_callV C V hl.1 m_Mo_attempt l_Mo_328 (hM _) rfl X.1.1 gc_Mo ⟨by show fr + 1 ≤ 11; omega, by show 8 + (2 + 11) + lo ≤ 360; omega⟩ ⟨Nat.le_refl _, Nat.le_refl _⟩ (Nat.le_of_ble_eq_true rfl) rfl d_Mo_act_167 (fun r z9 H locs hp V1 => ?_)
  obtain ⟨rfl, hQ⟩ := hp
  have V := V1
  refine W.eq (g2 := F0 m 170 ls []) rfl ?_
  refine lv_goto (tgt := 179) hx hb d_Mo_act_170 (by decide) ?_
  refine gh_retv hAe C V hr hlocks d_Mo_act_179 (by first | decide | omega | (dsimp only; omega)) (by first | decide | omega | (dsimp only; omega)) ?_
  exact ⟨rfl, hQ⟩
set_option maxHeartbeats 4000000 in
set_option maxRecDepth 100000 in
theorem c_Mo_act_14 (l : Launch) (E : gh_E) (sz : Nat) (f : gh_F) (a : Nat) (ad : Nat → Nat) (S : Nat → Int32) (I : Nat → Nat → Int32) (J : Nat → Nat → Int64) (cp fr lo : Nat) (Q : gh_F → Prop) (hX : mo_R E f a ad S I J) (hc60 : cp < 60) (hfr : fr ≤ 10) (hlo : lo ≤ 320) (hkb : I 33 cp = 14) (hM : ∀ sz, gh_M l y_Mo_fold b_Mo_fold 6 none E sz [.ref a, .int (nI cp)] f { frames := fr, cells := 0, slots := 0, locals := lo } (fun r g => r = none ∧ Q g)) : gh_M l y_Mo_act b_Mo_act 4 none E sz [.ref a, .int (nI cp)] f { frames := 11, cells := 0, slots := 0, locals := 360 } (fun r g => r = none ∧ Q g) := by
  refine gh_open (by decide) (Nat.le_of_ble_eq_true rfl) ?_
  intro p e s m args below meth c A ls hAe C V hr hlocks hname hl
  have hx := C.1
  have hb := C.2.1
  have hl : lv_has ls 4 [(0, .ref a), (1, .int (nI cp))] := hl
  have X : mo_X E f f a ad S I J := ⟨hX, gh_fr.rf⟩
  refine lv_aload_n hx hb d_Mo_act_0 rfl (lv_at hl 0 rfl) ?_
  refine mo_getA C V X 33 (by decide) (by decide) f_Mo_82 rfl d_Mo_act_1 ?_
  refine lv_iload_n hx hb d_Mo_act_4 rfl (lv_at hl 1 rfl) ?_
  refine mo_ild (k := 33) (i := cp) (n := 60) C V X (by decide) (by decide) rfl (by omega) (by decide) d_Mo_act_5 ?_
  rw [show I 33 cp = 14 from hkb]
  refine lv_istore_n hx hb d_Mo_act_6 rfl hl (by decide) rfl (fun ls hl => ?_)
  have hl : lv_has ls 4 [(2, .int 14), (0, .ref a), (1, .int (nI cp))] := hl
  refine lv_iload_n hx hb d_Mo_act_7 rfl (lv_at hl 0 rfl) ?_
  refine lv_bipush (v := 8) hx hb d_Mo_act_8 (by decide) ?_
  refine lv_icmp_ge (tgt := 23) hx hb d_Mo_act_10 (by decide) (fun c1 => ?_) (fun c1 => absurd (by decide) c1)
  refine lv_iload_n hx hb d_Mo_act_23 rfl (lv_at hl 0 rfl) ?_
  refine lv_bipush (v := 15) hx hb d_Mo_act_24 (by decide) ?_
  refine lv_icmp_eq (tgt := 41) hx hb d_Mo_act_26 (by decide) (fun c2 => absurd c2 (by decide)) (fun c2 => ?_)
  refine lv_iload_n hx hb d_Mo_act_29 rfl (lv_at hl 0 rfl) ?_
  refine lv_bipush (v := 16) hx hb d_Mo_act_30 (by decide) ?_
  refine lv_icmp_le (tgt := 45) hx hb d_Mo_act_32 (by decide) (fun c3 => ?_) (fun c3 => absurd (by decide) c3)
  refine lv_iconst (v := 0) hx hb d_Mo_act_45 (by decide) ?_
  refine lv_istore_n hx hb d_Mo_act_46 rfl hl (by decide) rfl (fun ls hl => ?_)
  have hl : lv_has ls 4 [(3, .int 0), (2, .int 14), (0, .ref a), (1, .int (nI cp))] := hl
  refine lv_iload_n hx hb d_Mo_act_47 rfl (lv_at hl 0 rfl) ?_
  refine lv_if_eq (tgt := 60) hx hb d_Mo_act_48 (by decide) (fun c4 => ?_) (fun c4 => absurd (by decide) c4)
  refine lv_iload_n hx hb d_Mo_act_60 rfl (lv_at hl 1 rfl) ?_
  refine lv_iconst (v := 3) hx hb d_Mo_act_61 (by decide) ?_
  refine lv_icmp_ne (tgt := 73) hx hb d_Mo_act_62 (by decide) (fun c5 => ?_) (fun c5 => absurd c5 (by decide))
  refine lv_iload_n hx hb d_Mo_act_73 rfl (lv_at hl 1 rfl) ?_
  refine lv_iconst (v := 4) hx hb d_Mo_act_74 (by decide) ?_
  refine lv_icmp_ne (tgt := 86) hx hb d_Mo_act_75 (by decide) (fun c6 => ?_) (fun c6 => absurd c6 (by decide))
  refine lv_iload_n hx hb d_Mo_act_86 rfl (lv_at hl 1 rfl) ?_
  refine lv_bipush (v := 12) hx hb d_Mo_act_87 (by decide) ?_
  refine lv_icmp_ne (tgt := 100) hx hb d_Mo_act_89 (by decide) (fun c7 => ?_) (fun c7 => absurd c7 (by decide))
  refine lv_iload_n hx hb d_Mo_act_100 rfl (lv_at hl 1 rfl) ?_
  refine lv_bipush (v := 14) hx hb d_Mo_act_101 (by decide) ?_
  refine lv_icmp_ne (tgt := 114) hx hb d_Mo_act_103 (by decide) (fun c8 => absurd (by decide) c8) (fun c8 => ?_)
  refine lv_aload_n hx hb d_Mo_act_106 rfl (lv_at hl 2 rfl) ?_
  refine lv_iload_n hx hb d_Mo_act_107 rfl (lv_at hl 3 rfl) ?_
  refine gh_callV C V hl.1 m_Mo_fold l_Mo_318 (hM _) rfl X.1.1 gc_Mo ⟨by show fr + 1 ≤ 11; omega, by show 8 + (6 + 11) + lo ≤ 360; omega⟩ ⟨Nat.le_refl _, Nat.le_refl _⟩ (Nat.le_of_ble_eq_true rfl) rfl d_Mo_act_108 (fun r z9 H locs hp V1 => ?_)
  obtain ⟨rfl, hQ⟩ := hp
  have V := V1
  refine W.eq (g2 := F0 m 111 ls []) rfl ?_
  refine lv_goto (tgt := 179) hx hb d_Mo_act_111 (by decide) ?_
  refine gh_retv hAe C V hr hlocks d_Mo_act_179 (by first | decide | omega | (dsimp only; omega)) (by first | decide | omega | (dsimp only; omega)) ?_
  exact ⟨rfl, hQ⟩
set_option maxHeartbeats 4000000 in
set_option maxRecDepth 100000 in
theorem c_Mo_act_15 (l : Launch) (E : gh_E) (sz : Nat) (f : gh_F) (a : Nat) (ad : Nat → Nat) (S : Nat → Int32) (I : Nat → Nat → Int32) (J : Nat → Nat → Int64) (cp fr lo : Nat) (Q : gh_F → Prop) (hX : mo_R E f a ad S I J) (hc60 : cp < 60) (hfr : fr ≤ 10) (hlo : lo ≤ 320) (hkb : I 33 cp = 15) (hM : ∀ sz, gh_M l y_Mo_plain b_Mo_plain 6 none E sz [.ref a, .int (nI cp), .int 15] f { frames := fr, cells := 0, slots := 0, locals := lo } (fun r g => r = none ∧ Q g)) : gh_M l y_Mo_act b_Mo_act 4 none E sz [.ref a, .int (nI cp)] f { frames := 11, cells := 0, slots := 0, locals := 360 } (fun r g => r = none ∧ Q g) := by
  refine gh_open (by decide) (Nat.le_of_ble_eq_true rfl) ?_
  intro p e s m args below meth c A ls hAe C V hr hlocks hname hl
  have hx := C.1
  have hb := C.2.1
  have hl : lv_has ls 4 [(0, .ref a), (1, .int (nI cp))] := hl
  have X : mo_X E f f a ad S I J := ⟨hX, gh_fr.rf⟩
  refine lv_aload_n hx hb d_Mo_act_0 rfl (lv_at hl 0 rfl) ?_
  refine mo_getA C V X 33 (by decide) (by decide) f_Mo_82 rfl d_Mo_act_1 ?_
  refine lv_iload_n hx hb d_Mo_act_4 rfl (lv_at hl 1 rfl) ?_
  refine mo_ild (k := 33) (i := cp) (n := 60) C V X (by decide) (by decide) rfl (by omega) (by decide) d_Mo_act_5 ?_
  rw [show I 33 cp = 15 from hkb]
  refine lv_istore_n hx hb d_Mo_act_6 rfl hl (by decide) rfl (fun ls hl => ?_)
  have hl : lv_has ls 4 [(2, .int 15), (0, .ref a), (1, .int (nI cp))] := hl
  refine lv_iload_n hx hb d_Mo_act_7 rfl (lv_at hl 0 rfl) ?_
  refine lv_bipush (v := 8) hx hb d_Mo_act_8 (by decide) ?_
  refine lv_icmp_ge (tgt := 23) hx hb d_Mo_act_10 (by decide) (fun c1 => ?_) (fun c1 => absurd (by decide) c1)
  refine lv_iload_n hx hb d_Mo_act_23 rfl (lv_at hl 0 rfl) ?_
  refine lv_bipush (v := 15) hx hb d_Mo_act_24 (by decide) ?_
  refine lv_icmp_eq (tgt := 41) hx hb d_Mo_act_26 (by decide) (fun c2 => ?_) (fun c2 => absurd (by decide) c2)
  refine lv_iconst (v := 1) hx hb d_Mo_act_41 (by decide) ?_
  refine lv_goto (tgt := 46) hx hb d_Mo_act_42 (by decide) ?_
  refine lv_istore_n hx hb d_Mo_act_46 rfl hl (by decide) rfl (fun ls hl => ?_)
  have hl : lv_has ls 4 [(3, .int 1), (2, .int 15), (0, .ref a), (1, .int (nI cp))] := hl
  refine lv_iload_n hx hb d_Mo_act_47 rfl (lv_at hl 0 rfl) ?_
  refine lv_if_eq (tgt := 60) hx hb d_Mo_act_48 (by decide) (fun c3 => absurd c3 (by decide)) (fun c3 => ?_)
  refine lv_aload_n hx hb d_Mo_act_51 rfl (lv_at hl 2 rfl) ?_
  refine lv_iload_n hx hb d_Mo_act_52 rfl (lv_at hl 3 rfl) ?_
  refine lv_iload_n hx hb d_Mo_act_53 rfl (lv_at hl 1 rfl) ?_
  refine gh_callV C V hl.1 m_Mo_plain l_Mo_306 (hM _) rfl X.1.1 gc_Mo ⟨by show fr + 1 ≤ 11; omega, by show 8 + (6 + 11) + lo ≤ 360; omega⟩ ⟨Nat.le_refl _, Nat.le_refl _⟩ (Nat.le_of_ble_eq_true rfl) rfl d_Mo_act_54 (fun r z9 H locs hp V1 => ?_)
  obtain ⟨rfl, hQ⟩ := hp
  have V := V1
  refine W.eq (g2 := F0 m 57 ls []) rfl ?_
  refine lv_goto (tgt := 179) hx hb d_Mo_act_57 (by decide) ?_
  refine gh_retv hAe C V hr hlocks d_Mo_act_179 (by first | decide | omega | (dsimp only; omega)) (by first | decide | omega | (dsimp only; omega)) ?_
  exact ⟨rfl, hQ⟩
set_option maxHeartbeats 4000000 in
set_option maxRecDepth 100000 in
theorem c_Mo_act_16 (l : Launch) (E : gh_E) (sz : Nat) (f : gh_F) (a : Nat) (ad : Nat → Nat) (S : Nat → Int32) (I : Nat → Nat → Int32) (J : Nat → Nat → Int64) (cp fr lo : Nat) (Q : gh_F → Prop) (hX : mo_R E f a ad S I J) (hc60 : cp < 60) (hfr : fr ≤ 10) (hlo : lo ≤ 320) (hkb : I 33 cp = 16) (hM : ∀ sz, gh_M l y_Mo_put b_Mo_put 3 none E sz [.ref a, .int (nI cp)] f { frames := fr, cells := 0, slots := 0, locals := lo } (fun r g => r = none ∧ Q g)) : gh_M l y_Mo_act b_Mo_act 4 none E sz [.ref a, .int (nI cp)] f { frames := 11, cells := 0, slots := 0, locals := 360 } (fun r g => r = none ∧ Q g) := by
  refine gh_open (by decide) (Nat.le_of_ble_eq_true rfl) ?_
  intro p e s m args below meth c A ls hAe C V hr hlocks hname hl
  have hx := C.1
  have hb := C.2.1
  have hl : lv_has ls 4 [(0, .ref a), (1, .int (nI cp))] := hl
  have X : mo_X E f f a ad S I J := ⟨hX, gh_fr.rf⟩
  refine lv_aload_n hx hb d_Mo_act_0 rfl (lv_at hl 0 rfl) ?_
  refine mo_getA C V X 33 (by decide) (by decide) f_Mo_82 rfl d_Mo_act_1 ?_
  refine lv_iload_n hx hb d_Mo_act_4 rfl (lv_at hl 1 rfl) ?_
  refine mo_ild (k := 33) (i := cp) (n := 60) C V X (by decide) (by decide) rfl (by omega) (by decide) d_Mo_act_5 ?_
  rw [show I 33 cp = 16 from hkb]
  refine lv_istore_n hx hb d_Mo_act_6 rfl hl (by decide) rfl (fun ls hl => ?_)
  have hl : lv_has ls 4 [(2, .int 16), (0, .ref a), (1, .int (nI cp))] := hl
  refine lv_iload_n hx hb d_Mo_act_7 rfl (lv_at hl 0 rfl) ?_
  refine lv_bipush (v := 8) hx hb d_Mo_act_8 (by decide) ?_
  refine lv_icmp_ge (tgt := 23) hx hb d_Mo_act_10 (by decide) (fun c1 => ?_) (fun c1 => absurd (by decide) c1)
  refine lv_iload_n hx hb d_Mo_act_23 rfl (lv_at hl 0 rfl) ?_
  refine lv_bipush (v := 15) hx hb d_Mo_act_24 (by decide) ?_
  refine lv_icmp_eq (tgt := 41) hx hb d_Mo_act_26 (by decide) (fun c2 => absurd c2 (by decide)) (fun c2 => ?_)
  refine lv_iload_n hx hb d_Mo_act_29 rfl (lv_at hl 0 rfl) ?_
  refine lv_bipush (v := 16) hx hb d_Mo_act_30 (by decide) ?_
  refine lv_icmp_le (tgt := 45) hx hb d_Mo_act_32 (by decide) (fun c3 => ?_) (fun c3 => absurd (by decide) c3)
  refine lv_iconst (v := 0) hx hb d_Mo_act_45 (by decide) ?_
  refine lv_istore_n hx hb d_Mo_act_46 rfl hl (by decide) rfl (fun ls hl => ?_)
  have hl : lv_has ls 4 [(3, .int 0), (2, .int 16), (0, .ref a), (1, .int (nI cp))] := hl
  refine lv_iload_n hx hb d_Mo_act_47 rfl (lv_at hl 0 rfl) ?_
  refine lv_if_eq (tgt := 60) hx hb d_Mo_act_48 (by decide) (fun c4 => ?_) (fun c4 => absurd (by decide) c4)
  refine lv_iload_n hx hb d_Mo_act_60 rfl (lv_at hl 1 rfl) ?_
  refine lv_iconst (v := 3) hx hb d_Mo_act_61 (by decide) ?_
  refine lv_icmp_ne (tgt := 73) hx hb d_Mo_act_62 (by decide) (fun c5 => ?_) (fun c5 => absurd c5 (by decide))
  refine lv_iload_n hx hb d_Mo_act_73 rfl (lv_at hl 1 rfl) ?_
  refine lv_iconst (v := 4) hx hb d_Mo_act_74 (by decide) ?_
  refine lv_icmp_ne (tgt := 86) hx hb d_Mo_act_75 (by decide) (fun c6 => ?_) (fun c6 => absurd c6 (by decide))
  refine lv_iload_n hx hb d_Mo_act_86 rfl (lv_at hl 1 rfl) ?_
  refine lv_bipush (v := 12) hx hb d_Mo_act_87 (by decide) ?_
  refine lv_icmp_ne (tgt := 100) hx hb d_Mo_act_89 (by decide) (fun c7 => ?_) (fun c7 => absurd c7 (by decide))
  refine lv_iload_n hx hb d_Mo_act_100 rfl (lv_at hl 1 rfl) ?_
  refine lv_bipush (v := 14) hx hb d_Mo_act_101 (by decide) ?_
  refine lv_icmp_ne (tgt := 114) hx hb d_Mo_act_103 (by decide) (fun c8 => ?_) (fun c8 => absurd c8 (by decide))
  refine lv_iload_n hx hb d_Mo_act_114 rfl (lv_at hl 1 rfl) ?_
  refine lv_bipush (v := 16) hx hb d_Mo_act_115 (by decide) ?_
  refine lv_icmp_ne (tgt := 128) hx hb d_Mo_act_117 (by decide) (fun c9 => absurd (by decide) c9) (fun c9 => ?_)
  refine lv_aload_n hx hb d_Mo_act_120 rfl (lv_at hl 2 rfl) ?_
  refine lv_iload_n hx hb d_Mo_act_121 rfl (lv_at hl 3 rfl) ?_
  refine gh_callV C V hl.1 m_Mo_put l_Mo_321 (hM _) rfl X.1.1 gc_Mo ⟨by show fr + 1 ≤ 11; omega, by show 8 + (3 + 11) + lo ≤ 360; omega⟩ ⟨Nat.le_refl _, Nat.le_refl _⟩ (Nat.le_of_ble_eq_true rfl) rfl d_Mo_act_122 (fun r z9 H locs hp V1 => ?_)
  obtain ⟨rfl, hQ⟩ := hp
  have V := V1
  refine W.eq (g2 := F0 m 125 ls []) rfl ?_
  refine lv_goto (tgt := 179) hx hb d_Mo_act_125 (by decide) ?_
  refine gh_retv hAe C V hr hlocks d_Mo_act_179 (by first | decide | omega | (dsimp only; omega)) (by first | decide | omega | (dsimp only; omega)) ?_
  exact ⟨rfl, hQ⟩
set_option maxHeartbeats 4000000 in
set_option maxRecDepth 100000 in
theorem c_Mo_act_17 (l : Launch) (E : gh_E) (sz : Nat) (f : gh_F) (a : Nat) (ad : Nat → Nat) (S : Nat → Int32) (I : Nat → Nat → Int32) (J : Nat → Nat → Int64) (cp fr lo : Nat) (Q : gh_F → Prop) (hX : mo_R E f a ad S I J) (hc60 : cp < 60) (hfr : fr ≤ 10) (hlo : lo ≤ 320) (hkb : I 33 cp = 17) (hM : ∀ sz, gh_M l y_Mo_plain b_Mo_plain 6 none E sz [.ref a, .int (nI cp), .int 17] f { frames := fr, cells := 0, slots := 0, locals := lo } (fun r g => r = none ∧ Q g)) : gh_M l y_Mo_act b_Mo_act 4 none E sz [.ref a, .int (nI cp)] f { frames := 11, cells := 0, slots := 0, locals := 360 } (fun r g => r = none ∧ Q g) := by
  refine gh_open (by decide) (Nat.le_of_ble_eq_true rfl) ?_
  intro p e s m args below meth c A ls hAe C V hr hlocks hname hl
  have hx := C.1
  have hb := C.2.1
  have hl : lv_has ls 4 [(0, .ref a), (1, .int (nI cp))] := hl
  have X : mo_X E f f a ad S I J := ⟨hX, gh_fr.rf⟩
  refine lv_aload_n hx hb d_Mo_act_0 rfl (lv_at hl 0 rfl) ?_
  refine mo_getA C V X 33 (by decide) (by decide) f_Mo_82 rfl d_Mo_act_1 ?_
  refine lv_iload_n hx hb d_Mo_act_4 rfl (lv_at hl 1 rfl) ?_
  refine mo_ild (k := 33) (i := cp) (n := 60) C V X (by decide) (by decide) rfl (by omega) (by decide) d_Mo_act_5 ?_
  rw [show I 33 cp = 17 from hkb]
  refine lv_istore_n hx hb d_Mo_act_6 rfl hl (by decide) rfl (fun ls hl => ?_)
  have hl : lv_has ls 4 [(2, .int 17), (0, .ref a), (1, .int (nI cp))] := hl
  refine lv_iload_n hx hb d_Mo_act_7 rfl (lv_at hl 0 rfl) ?_
  refine lv_bipush (v := 8) hx hb d_Mo_act_8 (by decide) ?_
  refine lv_icmp_ge (tgt := 23) hx hb d_Mo_act_10 (by decide) (fun c1 => ?_) (fun c1 => absurd (by decide) c1)
  refine lv_iload_n hx hb d_Mo_act_23 rfl (lv_at hl 0 rfl) ?_
  refine lv_bipush (v := 15) hx hb d_Mo_act_24 (by decide) ?_
  refine lv_icmp_eq (tgt := 41) hx hb d_Mo_act_26 (by decide) (fun c2 => absurd c2 (by decide)) (fun c2 => ?_)
  refine lv_iload_n hx hb d_Mo_act_29 rfl (lv_at hl 0 rfl) ?_
  refine lv_bipush (v := 16) hx hb d_Mo_act_30 (by decide) ?_
  refine lv_icmp_le (tgt := 45) hx hb d_Mo_act_32 (by decide) (fun c3 => absurd c3 (by decide)) (fun c3 => ?_)
  refine lv_iload_n hx hb d_Mo_act_35 rfl (lv_at hl 0 rfl) ?_
  refine lv_bipush (v := 22) hx hb d_Mo_act_36 (by decide) ?_
  refine lv_icmp_ge (tgt := 45) hx hb d_Mo_act_38 (by decide) (fun c4 => absurd c4 (by decide)) (fun c4 => ?_)
  refine lv_iconst (v := 1) hx hb d_Mo_act_41 (by decide) ?_
  refine lv_goto (tgt := 46) hx hb d_Mo_act_42 (by decide) ?_
  refine lv_istore_n hx hb d_Mo_act_46 rfl hl (by decide) rfl (fun ls hl => ?_)
  have hl : lv_has ls 4 [(3, .int 1), (2, .int 17), (0, .ref a), (1, .int (nI cp))] := hl
  refine lv_iload_n hx hb d_Mo_act_47 rfl (lv_at hl 0 rfl) ?_
  refine lv_if_eq (tgt := 60) hx hb d_Mo_act_48 (by decide) (fun c5 => absurd c5 (by decide)) (fun c5 => ?_)
  refine lv_aload_n hx hb d_Mo_act_51 rfl (lv_at hl 2 rfl) ?_
  refine lv_iload_n hx hb d_Mo_act_52 rfl (lv_at hl 3 rfl) ?_
  refine lv_iload_n hx hb d_Mo_act_53 rfl (lv_at hl 1 rfl) ?_
  refine gh_callV C V hl.1 m_Mo_plain l_Mo_306 (hM _) rfl X.1.1 gc_Mo ⟨by show fr + 1 ≤ 11; omega, by show 8 + (6 + 11) + lo ≤ 360; omega⟩ ⟨Nat.le_refl _, Nat.le_refl _⟩ (Nat.le_of_ble_eq_true rfl) rfl d_Mo_act_54 (fun r z9 H locs hp V1 => ?_)
  obtain ⟨rfl, hQ⟩ := hp
  have V := V1
  refine W.eq (g2 := F0 m 57 ls []) rfl ?_
  refine lv_goto (tgt := 179) hx hb d_Mo_act_57 (by decide) ?_
  refine gh_retv hAe C V hr hlocks d_Mo_act_179 (by first | decide | omega | (dsimp only; omega)) (by first | decide | omega | (dsimp only; omega)) ?_
  exact ⟨rfl, hQ⟩
set_option maxHeartbeats 4000000 in
set_option maxRecDepth 100000 in
theorem c_Mo_act_18 (l : Launch) (E : gh_E) (sz : Nat) (f : gh_F) (a : Nat) (ad : Nat → Nat) (S : Nat → Int32) (I : Nat → Nat → Int32) (J : Nat → Nat → Int64) (cp fr lo : Nat) (Q : gh_F → Prop) (hX : mo_R E f a ad S I J) (hc60 : cp < 60) (hfr : fr ≤ 10) (hlo : lo ≤ 320) (hkb : I 33 cp = 18) (hM : ∀ sz, gh_M l y_Mo_plain b_Mo_plain 6 none E sz [.ref a, .int (nI cp), .int 18] f { frames := fr, cells := 0, slots := 0, locals := lo } (fun r g => r = none ∧ Q g)) : gh_M l y_Mo_act b_Mo_act 4 none E sz [.ref a, .int (nI cp)] f { frames := 11, cells := 0, slots := 0, locals := 360 } (fun r g => r = none ∧ Q g) := by
  refine gh_open (by decide) (Nat.le_of_ble_eq_true rfl) ?_
  intro p e s m args below meth c A ls hAe C V hr hlocks hname hl
  have hx := C.1
  have hb := C.2.1
  have hl : lv_has ls 4 [(0, .ref a), (1, .int (nI cp))] := hl
  have X : mo_X E f f a ad S I J := ⟨hX, gh_fr.rf⟩
  refine lv_aload_n hx hb d_Mo_act_0 rfl (lv_at hl 0 rfl) ?_
  refine mo_getA C V X 33 (by decide) (by decide) f_Mo_82 rfl d_Mo_act_1 ?_
  refine lv_iload_n hx hb d_Mo_act_4 rfl (lv_at hl 1 rfl) ?_
  refine mo_ild (k := 33) (i := cp) (n := 60) C V X (by decide) (by decide) rfl (by omega) (by decide) d_Mo_act_5 ?_
  rw [show I 33 cp = 18 from hkb]
  refine lv_istore_n hx hb d_Mo_act_6 rfl hl (by decide) rfl (fun ls hl => ?_)
  have hl : lv_has ls 4 [(2, .int 18), (0, .ref a), (1, .int (nI cp))] := hl
  refine lv_iload_n hx hb d_Mo_act_7 rfl (lv_at hl 0 rfl) ?_
  refine lv_bipush (v := 8) hx hb d_Mo_act_8 (by decide) ?_
  refine lv_icmp_ge (tgt := 23) hx hb d_Mo_act_10 (by decide) (fun c1 => ?_) (fun c1 => absurd (by decide) c1)
  refine lv_iload_n hx hb d_Mo_act_23 rfl (lv_at hl 0 rfl) ?_
  refine lv_bipush (v := 15) hx hb d_Mo_act_24 (by decide) ?_
  refine lv_icmp_eq (tgt := 41) hx hb d_Mo_act_26 (by decide) (fun c2 => absurd c2 (by decide)) (fun c2 => ?_)
  refine lv_iload_n hx hb d_Mo_act_29 rfl (lv_at hl 0 rfl) ?_
  refine lv_bipush (v := 16) hx hb d_Mo_act_30 (by decide) ?_
  refine lv_icmp_le (tgt := 45) hx hb d_Mo_act_32 (by decide) (fun c3 => absurd c3 (by decide)) (fun c3 => ?_)
  refine lv_iload_n hx hb d_Mo_act_35 rfl (lv_at hl 0 rfl) ?_
  refine lv_bipush (v := 22) hx hb d_Mo_act_36 (by decide) ?_
  refine lv_icmp_ge (tgt := 45) hx hb d_Mo_act_38 (by decide) (fun c4 => absurd c4 (by decide)) (fun c4 => ?_)
  refine lv_iconst (v := 1) hx hb d_Mo_act_41 (by decide) ?_
  refine lv_goto (tgt := 46) hx hb d_Mo_act_42 (by decide) ?_
  refine lv_istore_n hx hb d_Mo_act_46 rfl hl (by decide) rfl (fun ls hl => ?_)
  have hl : lv_has ls 4 [(3, .int 1), (2, .int 18), (0, .ref a), (1, .int (nI cp))] := hl
  refine lv_iload_n hx hb d_Mo_act_47 rfl (lv_at hl 0 rfl) ?_
  refine lv_if_eq (tgt := 60) hx hb d_Mo_act_48 (by decide) (fun c5 => absurd c5 (by decide)) (fun c5 => ?_)
  refine lv_aload_n hx hb d_Mo_act_51 rfl (lv_at hl 2 rfl) ?_
  refine lv_iload_n hx hb d_Mo_act_52 rfl (lv_at hl 3 rfl) ?_
  refine lv_iload_n hx hb d_Mo_act_53 rfl (lv_at hl 1 rfl) ?_
  refine gh_callV C V hl.1 m_Mo_plain l_Mo_306 (hM _) rfl X.1.1 gc_Mo ⟨by show fr + 1 ≤ 11; omega, by show 8 + (6 + 11) + lo ≤ 360; omega⟩ ⟨Nat.le_refl _, Nat.le_refl _⟩ (Nat.le_of_ble_eq_true rfl) rfl d_Mo_act_54 (fun r z9 H locs hp V1 => ?_)
  obtain ⟨rfl, hQ⟩ := hp
  have V := V1
  refine W.eq (g2 := F0 m 57 ls []) rfl ?_
  refine lv_goto (tgt := 179) hx hb d_Mo_act_57 (by decide) ?_
  refine gh_retv hAe C V hr hlocks d_Mo_act_179 (by first | decide | omega | (dsimp only; omega)) (by first | decide | omega | (dsimp only; omega)) ?_
  exact ⟨rfl, hQ⟩
set_option maxHeartbeats 4000000 in
set_option maxRecDepth 100000 in
theorem c_Mo_act_19 (l : Launch) (E : gh_E) (sz : Nat) (f : gh_F) (a : Nat) (ad : Nat → Nat) (S : Nat → Int32) (I : Nat → Nat → Int32) (J : Nat → Nat → Int64) (cp fr lo : Nat) (Q : gh_F → Prop) (hX : mo_R E f a ad S I J) (hc60 : cp < 60) (hfr : fr ≤ 10) (hlo : lo ≤ 320) (hkb : I 33 cp = 19) (hM : ∀ sz, gh_M l y_Mo_plain b_Mo_plain 6 none E sz [.ref a, .int (nI cp), .int 19] f { frames := fr, cells := 0, slots := 0, locals := lo } (fun r g => r = none ∧ Q g)) : gh_M l y_Mo_act b_Mo_act 4 none E sz [.ref a, .int (nI cp)] f { frames := 11, cells := 0, slots := 0, locals := 360 } (fun r g => r = none ∧ Q g) := by
  refine gh_open (by decide) (Nat.le_of_ble_eq_true rfl) ?_
  intro p e s m args below meth c A ls hAe C V hr hlocks hname hl
  have hx := C.1
  have hb := C.2.1
  have hl : lv_has ls 4 [(0, .ref a), (1, .int (nI cp))] := hl
  have X : mo_X E f f a ad S I J := ⟨hX, gh_fr.rf⟩
  refine lv_aload_n hx hb d_Mo_act_0 rfl (lv_at hl 0 rfl) ?_
  refine mo_getA C V X 33 (by decide) (by decide) f_Mo_82 rfl d_Mo_act_1 ?_
  refine lv_iload_n hx hb d_Mo_act_4 rfl (lv_at hl 1 rfl) ?_
  refine mo_ild (k := 33) (i := cp) (n := 60) C V X (by decide) (by decide) rfl (by omega) (by decide) d_Mo_act_5 ?_
  rw [show I 33 cp = 19 from hkb]
  refine lv_istore_n hx hb d_Mo_act_6 rfl hl (by decide) rfl (fun ls hl => ?_)
  have hl : lv_has ls 4 [(2, .int 19), (0, .ref a), (1, .int (nI cp))] := hl
  refine lv_iload_n hx hb d_Mo_act_7 rfl (lv_at hl 0 rfl) ?_
  refine lv_bipush (v := 8) hx hb d_Mo_act_8 (by decide) ?_
  refine lv_icmp_ge (tgt := 23) hx hb d_Mo_act_10 (by decide) (fun c1 => ?_) (fun c1 => absurd (by decide) c1)
  refine lv_iload_n hx hb d_Mo_act_23 rfl (lv_at hl 0 rfl) ?_
  refine lv_bipush (v := 15) hx hb d_Mo_act_24 (by decide) ?_
  refine lv_icmp_eq (tgt := 41) hx hb d_Mo_act_26 (by decide) (fun c2 => absurd c2 (by decide)) (fun c2 => ?_)
  refine lv_iload_n hx hb d_Mo_act_29 rfl (lv_at hl 0 rfl) ?_
  refine lv_bipush (v := 16) hx hb d_Mo_act_30 (by decide) ?_
  refine lv_icmp_le (tgt := 45) hx hb d_Mo_act_32 (by decide) (fun c3 => absurd c3 (by decide)) (fun c3 => ?_)
  refine lv_iload_n hx hb d_Mo_act_35 rfl (lv_at hl 0 rfl) ?_
  refine lv_bipush (v := 22) hx hb d_Mo_act_36 (by decide) ?_
  refine lv_icmp_ge (tgt := 45) hx hb d_Mo_act_38 (by decide) (fun c4 => absurd c4 (by decide)) (fun c4 => ?_)
  refine lv_iconst (v := 1) hx hb d_Mo_act_41 (by decide) ?_
  refine lv_goto (tgt := 46) hx hb d_Mo_act_42 (by decide) ?_
  refine lv_istore_n hx hb d_Mo_act_46 rfl hl (by decide) rfl (fun ls hl => ?_)
  have hl : lv_has ls 4 [(3, .int 1), (2, .int 19), (0, .ref a), (1, .int (nI cp))] := hl
  refine lv_iload_n hx hb d_Mo_act_47 rfl (lv_at hl 0 rfl) ?_
  refine lv_if_eq (tgt := 60) hx hb d_Mo_act_48 (by decide) (fun c5 => absurd c5 (by decide)) (fun c5 => ?_)
  refine lv_aload_n hx hb d_Mo_act_51 rfl (lv_at hl 2 rfl) ?_
  refine lv_iload_n hx hb d_Mo_act_52 rfl (lv_at hl 3 rfl) ?_
  refine lv_iload_n hx hb d_Mo_act_53 rfl (lv_at hl 1 rfl) ?_
  refine gh_callV C V hl.1 m_Mo_plain l_Mo_306 (hM _) rfl X.1.1 gc_Mo ⟨by show fr + 1 ≤ 11; omega, by show 8 + (6 + 11) + lo ≤ 360; omega⟩ ⟨Nat.le_refl _, Nat.le_refl _⟩ (Nat.le_of_ble_eq_true rfl) rfl d_Mo_act_54 (fun r z9 H locs hp V1 => ?_)
  obtain ⟨rfl, hQ⟩ := hp
  have V := V1
  refine W.eq (g2 := F0 m 57 ls []) rfl ?_
  refine lv_goto (tgt := 179) hx hb d_Mo_act_57 (by decide) ?_
  refine gh_retv hAe C V hr hlocks d_Mo_act_179 (by first | decide | omega | (dsimp only; omega)) (by first | decide | omega | (dsimp only; omega)) ?_
  exact ⟨rfl, hQ⟩
set_option maxHeartbeats 4000000 in
set_option maxRecDepth 100000 in
theorem c_Mo_act_20 (l : Launch) (E : gh_E) (sz : Nat) (f : gh_F) (a : Nat) (ad : Nat → Nat) (S : Nat → Int32) (I : Nat → Nat → Int32) (J : Nat → Nat → Int64) (cp fr lo : Nat) (Q : gh_F → Prop) (hX : mo_R E f a ad S I J) (hc60 : cp < 60) (hfr : fr ≤ 10) (hlo : lo ≤ 320) (hkb : I 33 cp = 20) (hM : ∀ sz, gh_M l y_Mo_plain b_Mo_plain 6 none E sz [.ref a, .int (nI cp), .int 20] f { frames := fr, cells := 0, slots := 0, locals := lo } (fun r g => r = none ∧ Q g)) : gh_M l y_Mo_act b_Mo_act 4 none E sz [.ref a, .int (nI cp)] f { frames := 11, cells := 0, slots := 0, locals := 360 } (fun r g => r = none ∧ Q g) := by
  refine gh_open (by decide) (Nat.le_of_ble_eq_true rfl) ?_
  intro p e s m args below meth c A ls hAe C V hr hlocks hname hl
  have hx := C.1
  have hb := C.2.1
  have hl : lv_has ls 4 [(0, .ref a), (1, .int (nI cp))] := hl
  have X : mo_X E f f a ad S I J := ⟨hX, gh_fr.rf⟩
  refine lv_aload_n hx hb d_Mo_act_0 rfl (lv_at hl 0 rfl) ?_
  refine mo_getA C V X 33 (by decide) (by decide) f_Mo_82 rfl d_Mo_act_1 ?_
  refine lv_iload_n hx hb d_Mo_act_4 rfl (lv_at hl 1 rfl) ?_
  refine mo_ild (k := 33) (i := cp) (n := 60) C V X (by decide) (by decide) rfl (by omega) (by decide) d_Mo_act_5 ?_
  rw [show I 33 cp = 20 from hkb]
  refine lv_istore_n hx hb d_Mo_act_6 rfl hl (by decide) rfl (fun ls hl => ?_)
  have hl : lv_has ls 4 [(2, .int 20), (0, .ref a), (1, .int (nI cp))] := hl
  refine lv_iload_n hx hb d_Mo_act_7 rfl (lv_at hl 0 rfl) ?_
  refine lv_bipush (v := 8) hx hb d_Mo_act_8 (by decide) ?_
  refine lv_icmp_ge (tgt := 23) hx hb d_Mo_act_10 (by decide) (fun c1 => ?_) (fun c1 => absurd (by decide) c1)
  refine lv_iload_n hx hb d_Mo_act_23 rfl (lv_at hl 0 rfl) ?_
  refine lv_bipush (v := 15) hx hb d_Mo_act_24 (by decide) ?_
  refine lv_icmp_eq (tgt := 41) hx hb d_Mo_act_26 (by decide) (fun c2 => absurd c2 (by decide)) (fun c2 => ?_)
  refine lv_iload_n hx hb d_Mo_act_29 rfl (lv_at hl 0 rfl) ?_
  refine lv_bipush (v := 16) hx hb d_Mo_act_30 (by decide) ?_
  refine lv_icmp_le (tgt := 45) hx hb d_Mo_act_32 (by decide) (fun c3 => absurd c3 (by decide)) (fun c3 => ?_)
  refine lv_iload_n hx hb d_Mo_act_35 rfl (lv_at hl 0 rfl) ?_
  refine lv_bipush (v := 22) hx hb d_Mo_act_36 (by decide) ?_
  refine lv_icmp_ge (tgt := 45) hx hb d_Mo_act_38 (by decide) (fun c4 => absurd c4 (by decide)) (fun c4 => ?_)
  refine lv_iconst (v := 1) hx hb d_Mo_act_41 (by decide) ?_
  refine lv_goto (tgt := 46) hx hb d_Mo_act_42 (by decide) ?_
  refine lv_istore_n hx hb d_Mo_act_46 rfl hl (by decide) rfl (fun ls hl => ?_)
  have hl : lv_has ls 4 [(3, .int 1), (2, .int 20), (0, .ref a), (1, .int (nI cp))] := hl
  refine lv_iload_n hx hb d_Mo_act_47 rfl (lv_at hl 0 rfl) ?_
  refine lv_if_eq (tgt := 60) hx hb d_Mo_act_48 (by decide) (fun c5 => absurd c5 (by decide)) (fun c5 => ?_)
  refine lv_aload_n hx hb d_Mo_act_51 rfl (lv_at hl 2 rfl) ?_
  refine lv_iload_n hx hb d_Mo_act_52 rfl (lv_at hl 3 rfl) ?_
  refine lv_iload_n hx hb d_Mo_act_53 rfl (lv_at hl 1 rfl) ?_
  refine gh_callV C V hl.1 m_Mo_plain l_Mo_306 (hM _) rfl X.1.1 gc_Mo ⟨by show fr + 1 ≤ 11; omega, by show 8 + (6 + 11) + lo ≤ 360; omega⟩ ⟨Nat.le_refl _, Nat.le_refl _⟩ (Nat.le_of_ble_eq_true rfl) rfl d_Mo_act_54 (fun r z9 H locs hp V1 => ?_)
  obtain ⟨rfl, hQ⟩ := hp
  have V := V1
  refine W.eq (g2 := F0 m 57 ls []) rfl ?_
  refine lv_goto (tgt := 179) hx hb d_Mo_act_57 (by decide) ?_
  refine gh_retv hAe C V hr hlocks d_Mo_act_179 (by first | decide | omega | (dsimp only; omega)) (by first | decide | omega | (dsimp only; omega)) ?_
  exact ⟨rfl, hQ⟩
set_option maxHeartbeats 4000000 in
set_option maxRecDepth 100000 in
theorem c_Mo_act_21 (l : Launch) (E : gh_E) (sz : Nat) (f : gh_F) (a : Nat) (ad : Nat → Nat) (S : Nat → Int32) (I : Nat → Nat → Int32) (J : Nat → Nat → Int64) (cp fr lo : Nat) (Q : gh_F → Prop) (hX : mo_R E f a ad S I J) (hc60 : cp < 60) (hfr : fr ≤ 10) (hlo : lo ≤ 320) (hkb : I 33 cp = 21) (hM : ∀ sz, gh_M l y_Mo_plain b_Mo_plain 6 none E sz [.ref a, .int (nI cp), .int 21] f { frames := fr, cells := 0, slots := 0, locals := lo } (fun r g => r = none ∧ Q g)) : gh_M l y_Mo_act b_Mo_act 4 none E sz [.ref a, .int (nI cp)] f { frames := 11, cells := 0, slots := 0, locals := 360 } (fun r g => r = none ∧ Q g) := by
  refine gh_open (by decide) (Nat.le_of_ble_eq_true rfl) ?_
  intro p e s m args below meth c A ls hAe C V hr hlocks hname hl
  have hx := C.1
  have hb := C.2.1
  have hl : lv_has ls 4 [(0, .ref a), (1, .int (nI cp))] := hl
  have X : mo_X E f f a ad S I J := ⟨hX, gh_fr.rf⟩
  refine lv_aload_n hx hb d_Mo_act_0 rfl (lv_at hl 0 rfl) ?_
  refine mo_getA C V X 33 (by decide) (by decide) f_Mo_82 rfl d_Mo_act_1 ?_
  refine lv_iload_n hx hb d_Mo_act_4 rfl (lv_at hl 1 rfl) ?_
  refine mo_ild (k := 33) (i := cp) (n := 60) C V X (by decide) (by decide) rfl (by omega) (by decide) d_Mo_act_5 ?_
  rw [show I 33 cp = 21 from hkb]
  refine lv_istore_n hx hb d_Mo_act_6 rfl hl (by decide) rfl (fun ls hl => ?_)
  have hl : lv_has ls 4 [(2, .int 21), (0, .ref a), (1, .int (nI cp))] := hl
  refine lv_iload_n hx hb d_Mo_act_7 rfl (lv_at hl 0 rfl) ?_
  refine lv_bipush (v := 8) hx hb d_Mo_act_8 (by decide) ?_
  refine lv_icmp_ge (tgt := 23) hx hb d_Mo_act_10 (by decide) (fun c1 => ?_) (fun c1 => absurd (by decide) c1)
  refine lv_iload_n hx hb d_Mo_act_23 rfl (lv_at hl 0 rfl) ?_
  refine lv_bipush (v := 15) hx hb d_Mo_act_24 (by decide) ?_
  refine lv_icmp_eq (tgt := 41) hx hb d_Mo_act_26 (by decide) (fun c2 => absurd c2 (by decide)) (fun c2 => ?_)
  refine lv_iload_n hx hb d_Mo_act_29 rfl (lv_at hl 0 rfl) ?_
  refine lv_bipush (v := 16) hx hb d_Mo_act_30 (by decide) ?_
  refine lv_icmp_le (tgt := 45) hx hb d_Mo_act_32 (by decide) (fun c3 => absurd c3 (by decide)) (fun c3 => ?_)
  refine lv_iload_n hx hb d_Mo_act_35 rfl (lv_at hl 0 rfl) ?_
  refine lv_bipush (v := 22) hx hb d_Mo_act_36 (by decide) ?_
  refine lv_icmp_ge (tgt := 45) hx hb d_Mo_act_38 (by decide) (fun c4 => absurd c4 (by decide)) (fun c4 => ?_)
  refine lv_iconst (v := 1) hx hb d_Mo_act_41 (by decide) ?_
  refine lv_goto (tgt := 46) hx hb d_Mo_act_42 (by decide) ?_
  refine lv_istore_n hx hb d_Mo_act_46 rfl hl (by decide) rfl (fun ls hl => ?_)
  have hl : lv_has ls 4 [(3, .int 1), (2, .int 21), (0, .ref a), (1, .int (nI cp))] := hl
  refine lv_iload_n hx hb d_Mo_act_47 rfl (lv_at hl 0 rfl) ?_
  refine lv_if_eq (tgt := 60) hx hb d_Mo_act_48 (by decide) (fun c5 => absurd c5 (by decide)) (fun c5 => ?_)
  refine lv_aload_n hx hb d_Mo_act_51 rfl (lv_at hl 2 rfl) ?_
  refine lv_iload_n hx hb d_Mo_act_52 rfl (lv_at hl 3 rfl) ?_
  refine lv_iload_n hx hb d_Mo_act_53 rfl (lv_at hl 1 rfl) ?_
  refine gh_callV C V hl.1 m_Mo_plain l_Mo_306 (hM _) rfl X.1.1 gc_Mo ⟨by show fr + 1 ≤ 11; omega, by show 8 + (6 + 11) + lo ≤ 360; omega⟩ ⟨Nat.le_refl _, Nat.le_refl _⟩ (Nat.le_of_ble_eq_true rfl) rfl d_Mo_act_54 (fun r z9 H locs hp V1 => ?_)
  obtain ⟨rfl, hQ⟩ := hp
  have V := V1
  refine W.eq (g2 := F0 m 57 ls []) rfl ?_
  refine lv_goto (tgt := 179) hx hb d_Mo_act_57 (by decide) ?_
  refine gh_retv hAe C V hr hlocks d_Mo_act_179 (by first | decide | omega | (dsimp only; omega)) (by first | decide | omega | (dsimp only; omega)) ?_
  exact ⟨rfl, hQ⟩
set_option maxHeartbeats 4000000 in
set_option maxRecDepth 100000 in
theorem c_Mo_act_22 (l : Launch) (E : gh_E) (sz : Nat) (f : gh_F) (a : Nat) (ad : Nat → Nat) (S : Nat → Int32) (I : Nat → Nat → Int32) (J : Nat → Nat → Int64) (cp fr lo : Nat) (Q : gh_F → Prop) (hX : mo_R E f a ad S I J) (hc60 : cp < 60) (hfr : fr ≤ 10) (hlo : lo ≤ 320) (hkb : I 33 cp = 22) (hM : ∀ sz, gh_M l y_Mo_two b_Mo_two 4 none E sz [.ref a, .int (nI cp), .int 22] f { frames := fr, cells := 0, slots := 0, locals := lo } (fun r g => r = none ∧ Q g)) : gh_M l y_Mo_act b_Mo_act 4 none E sz [.ref a, .int (nI cp)] f { frames := 11, cells := 0, slots := 0, locals := 360 } (fun r g => r = none ∧ Q g) := by
  refine gh_open (by decide) (Nat.le_of_ble_eq_true rfl) ?_
  intro p e s m args below meth c A ls hAe C V hr hlocks hname hl
  have hx := C.1
  have hb := C.2.1
  have hl : lv_has ls 4 [(0, .ref a), (1, .int (nI cp))] := hl
  have X : mo_X E f f a ad S I J := ⟨hX, gh_fr.rf⟩
  refine lv_aload_n hx hb d_Mo_act_0 rfl (lv_at hl 0 rfl) ?_
  refine mo_getA C V X 33 (by decide) (by decide) f_Mo_82 rfl d_Mo_act_1 ?_
  refine lv_iload_n hx hb d_Mo_act_4 rfl (lv_at hl 1 rfl) ?_
  refine mo_ild (k := 33) (i := cp) (n := 60) C V X (by decide) (by decide) rfl (by omega) (by decide) d_Mo_act_5 ?_
  rw [show I 33 cp = 22 from hkb]
  refine lv_istore_n hx hb d_Mo_act_6 rfl hl (by decide) rfl (fun ls hl => ?_)
  have hl : lv_has ls 4 [(2, .int 22), (0, .ref a), (1, .int (nI cp))] := hl
  refine lv_iload_n hx hb d_Mo_act_7 rfl (lv_at hl 0 rfl) ?_
  refine lv_bipush (v := 8) hx hb d_Mo_act_8 (by decide) ?_
  refine lv_icmp_ge (tgt := 23) hx hb d_Mo_act_10 (by decide) (fun c1 => ?_) (fun c1 => absurd (by decide) c1)
  refine lv_iload_n hx hb d_Mo_act_23 rfl (lv_at hl 0 rfl) ?_
  refine lv_bipush (v := 15) hx hb d_Mo_act_24 (by decide) ?_
  refine lv_icmp_eq (tgt := 41) hx hb d_Mo_act_26 (by decide) (fun c2 => absurd c2 (by decide)) (fun c2 => ?_)
  refine lv_iload_n hx hb d_Mo_act_29 rfl (lv_at hl 0 rfl) ?_
  refine lv_bipush (v := 16) hx hb d_Mo_act_30 (by decide) ?_
  refine lv_icmp_le (tgt := 45) hx hb d_Mo_act_32 (by decide) (fun c3 => absurd c3 (by decide)) (fun c3 => ?_)
  refine lv_iload_n hx hb d_Mo_act_35 rfl (lv_at hl 0 rfl) ?_
  refine lv_bipush (v := 22) hx hb d_Mo_act_36 (by decide) ?_
  refine lv_icmp_ge (tgt := 45) hx hb d_Mo_act_38 (by decide) (fun c4 => ?_) (fun c4 => absurd (by decide) c4)
  refine lv_iconst (v := 0) hx hb d_Mo_act_45 (by decide) ?_
  refine lv_istore_n hx hb d_Mo_act_46 rfl hl (by decide) rfl (fun ls hl => ?_)
  have hl : lv_has ls 4 [(3, .int 0), (2, .int 22), (0, .ref a), (1, .int (nI cp))] := hl
  refine lv_iload_n hx hb d_Mo_act_47 rfl (lv_at hl 0 rfl) ?_
  refine lv_if_eq (tgt := 60) hx hb d_Mo_act_48 (by decide) (fun c5 => ?_) (fun c5 => absurd (by decide) c5)
  refine lv_iload_n hx hb d_Mo_act_60 rfl (lv_at hl 1 rfl) ?_
  refine lv_iconst (v := 3) hx hb d_Mo_act_61 (by decide) ?_
  refine lv_icmp_ne (tgt := 73) hx hb d_Mo_act_62 (by decide) (fun c6 => ?_) (fun c6 => absurd c6 (by decide))
  refine lv_iload_n hx hb d_Mo_act_73 rfl (lv_at hl 1 rfl) ?_
  refine lv_iconst (v := 4) hx hb d_Mo_act_74 (by decide) ?_
  refine lv_icmp_ne (tgt := 86) hx hb d_Mo_act_75 (by decide) (fun c7 => ?_) (fun c7 => absurd c7 (by decide))
  refine lv_iload_n hx hb d_Mo_act_86 rfl (lv_at hl 1 rfl) ?_
  refine lv_bipush (v := 12) hx hb d_Mo_act_87 (by decide) ?_
  refine lv_icmp_ne (tgt := 100) hx hb d_Mo_act_89 (by decide) (fun c8 => ?_) (fun c8 => absurd c8 (by decide))
  refine lv_iload_n hx hb d_Mo_act_100 rfl (lv_at hl 1 rfl) ?_
  refine lv_bipush (v := 14) hx hb d_Mo_act_101 (by decide) ?_
  refine lv_icmp_ne (tgt := 114) hx hb d_Mo_act_103 (by decide) (fun c9 => ?_) (fun c9 => absurd c9 (by decide))
  refine lv_iload_n hx hb d_Mo_act_114 rfl (lv_at hl 1 rfl) ?_
  refine lv_bipush (v := 16) hx hb d_Mo_act_115 (by decide) ?_
  refine lv_icmp_ne (tgt := 128) hx hb d_Mo_act_117 (by decide) (fun c10 => ?_) (fun c10 => absurd c10 (by decide))
  refine lv_iload_n hx hb d_Mo_act_128 rfl (lv_at hl 1 rfl) ?_
  refine lv_bipush (v := 9) hx hb d_Mo_act_129 (by decide) ?_
  refine lv_icmp_eq (tgt := 140) hx hb d_Mo_act_131 (by decide) (fun c11 => absurd c11 (by decide)) (fun c11 => ?_)
  refine lv_iload_n hx hb d_Mo_act_134 rfl (lv_at hl 1 rfl) ?_
  refine lv_bipush (v := 10) hx hb d_Mo_act_135 (by decide) ?_
  refine lv_icmp_ne (tgt := 159) hx hb d_Mo_act_137 (by decide) (fun c12 => ?_) (fun c12 => absurd c12 (by decide))
  refine lv_iload_n hx hb d_Mo_act_159 rfl (lv_at hl 1 rfl) ?_
  refine lv_bipush (v := 13) hx hb d_Mo_act_160 (by decide) ?_
  refine lv_icmp_ne (tgt := 173) hx hb d_Mo_act_162 (by decide) (fun c13 => ?_) (fun c13 => absurd c13 (by decide))
  refine lv_aload_n hx hb d_Mo_act_173 rfl (lv_at hl 2 rfl) ?_
  refine lv_iload_n hx hb d_Mo_act_174 rfl (lv_at hl 3 rfl) ?_
  refine lv_iload_n hx hb d_Mo_act_175 rfl (lv_at hl 1 rfl) ?_
  refine gh_callV C V hl.1 m_Mo_two l_Mo_331 (hM _) rfl X.1.1 gc_Mo ⟨by show fr + 1 ≤ 11; omega, by show 8 + (4 + 11) + lo ≤ 360; omega⟩ ⟨Nat.le_refl _, Nat.le_refl _⟩ (Nat.le_of_ble_eq_true rfl) rfl d_Mo_act_176 (fun r z9 H locs hp V1 => ?_)
  obtain ⟨rfl, hQ⟩ := hp
  have V := V1
  refine W.eq (g2 := F0 m 179 ls []) rfl ?_
  refine gh_retv hAe C V hr hlocks d_Mo_act_179 (by first | decide | omega | (dsimp only; omega)) (by first | decide | omega | (dsimp only; omega)) ?_
  exact ⟨rfl, hQ⟩
set_option maxHeartbeats 4000000 in
set_option maxRecDepth 100000 in
theorem c_Mo_act_23 (l : Launch) (E : gh_E) (sz : Nat) (f : gh_F) (a : Nat) (ad : Nat → Nat) (S : Nat → Int32) (I : Nat → Nat → Int32) (J : Nat → Nat → Int64) (cp fr lo : Nat) (Q : gh_F → Prop) (hX : mo_R E f a ad S I J) (hc60 : cp < 60) (hfr : fr ≤ 10) (hlo : lo ≤ 320) (hkb : I 33 cp = 23) (hM : ∀ sz, gh_M l y_Mo_two b_Mo_two 4 none E sz [.ref a, .int (nI cp), .int 23] f { frames := fr, cells := 0, slots := 0, locals := lo } (fun r g => r = none ∧ Q g)) : gh_M l y_Mo_act b_Mo_act 4 none E sz [.ref a, .int (nI cp)] f { frames := 11, cells := 0, slots := 0, locals := 360 } (fun r g => r = none ∧ Q g) := by
  refine gh_open (by decide) (Nat.le_of_ble_eq_true rfl) ?_
  intro p e s m args below meth c A ls hAe C V hr hlocks hname hl
  have hx := C.1
  have hb := C.2.1
  have hl : lv_has ls 4 [(0, .ref a), (1, .int (nI cp))] := hl
  have X : mo_X E f f a ad S I J := ⟨hX, gh_fr.rf⟩
  refine lv_aload_n hx hb d_Mo_act_0 rfl (lv_at hl 0 rfl) ?_
  refine mo_getA C V X 33 (by decide) (by decide) f_Mo_82 rfl d_Mo_act_1 ?_
  refine lv_iload_n hx hb d_Mo_act_4 rfl (lv_at hl 1 rfl) ?_
  refine mo_ild (k := 33) (i := cp) (n := 60) C V X (by decide) (by decide) rfl (by omega) (by decide) d_Mo_act_5 ?_
  rw [show I 33 cp = 23 from hkb]
  refine lv_istore_n hx hb d_Mo_act_6 rfl hl (by decide) rfl (fun ls hl => ?_)
  have hl : lv_has ls 4 [(2, .int 23), (0, .ref a), (1, .int (nI cp))] := hl
  refine lv_iload_n hx hb d_Mo_act_7 rfl (lv_at hl 0 rfl) ?_
  refine lv_bipush (v := 8) hx hb d_Mo_act_8 (by decide) ?_
  refine lv_icmp_ge (tgt := 23) hx hb d_Mo_act_10 (by decide) (fun c1 => ?_) (fun c1 => absurd (by decide) c1)
  refine lv_iload_n hx hb d_Mo_act_23 rfl (lv_at hl 0 rfl) ?_
  refine lv_bipush (v := 15) hx hb d_Mo_act_24 (by decide) ?_
  refine lv_icmp_eq (tgt := 41) hx hb d_Mo_act_26 (by decide) (fun c2 => absurd c2 (by decide)) (fun c2 => ?_)
  refine lv_iload_n hx hb d_Mo_act_29 rfl (lv_at hl 0 rfl) ?_
  refine lv_bipush (v := 16) hx hb d_Mo_act_30 (by decide) ?_
  refine lv_icmp_le (tgt := 45) hx hb d_Mo_act_32 (by decide) (fun c3 => absurd c3 (by decide)) (fun c3 => ?_)
  refine lv_iload_n hx hb d_Mo_act_35 rfl (lv_at hl 0 rfl) ?_
  refine lv_bipush (v := 22) hx hb d_Mo_act_36 (by decide) ?_
  refine lv_icmp_ge (tgt := 45) hx hb d_Mo_act_38 (by decide) (fun c4 => ?_) (fun c4 => absurd (by decide) c4)
  refine lv_iconst (v := 0) hx hb d_Mo_act_45 (by decide) ?_
  refine lv_istore_n hx hb d_Mo_act_46 rfl hl (by decide) rfl (fun ls hl => ?_)
  have hl : lv_has ls 4 [(3, .int 0), (2, .int 23), (0, .ref a), (1, .int (nI cp))] := hl
  refine lv_iload_n hx hb d_Mo_act_47 rfl (lv_at hl 0 rfl) ?_
  refine lv_if_eq (tgt := 60) hx hb d_Mo_act_48 (by decide) (fun c5 => ?_) (fun c5 => absurd (by decide) c5)
  refine lv_iload_n hx hb d_Mo_act_60 rfl (lv_at hl 1 rfl) ?_
  refine lv_iconst (v := 3) hx hb d_Mo_act_61 (by decide) ?_
  refine lv_icmp_ne (tgt := 73) hx hb d_Mo_act_62 (by decide) (fun c6 => ?_) (fun c6 => absurd c6 (by decide))
  refine lv_iload_n hx hb d_Mo_act_73 rfl (lv_at hl 1 rfl) ?_
  refine lv_iconst (v := 4) hx hb d_Mo_act_74 (by decide) ?_
  refine lv_icmp_ne (tgt := 86) hx hb d_Mo_act_75 (by decide) (fun c7 => ?_) (fun c7 => absurd c7 (by decide))
  refine lv_iload_n hx hb d_Mo_act_86 rfl (lv_at hl 1 rfl) ?_
  refine lv_bipush (v := 12) hx hb d_Mo_act_87 (by decide) ?_
  refine lv_icmp_ne (tgt := 100) hx hb d_Mo_act_89 (by decide) (fun c8 => ?_) (fun c8 => absurd c8 (by decide))
  refine lv_iload_n hx hb d_Mo_act_100 rfl (lv_at hl 1 rfl) ?_
  refine lv_bipush (v := 14) hx hb d_Mo_act_101 (by decide) ?_
  refine lv_icmp_ne (tgt := 114) hx hb d_Mo_act_103 (by decide) (fun c9 => ?_) (fun c9 => absurd c9 (by decide))
  refine lv_iload_n hx hb d_Mo_act_114 rfl (lv_at hl 1 rfl) ?_
  refine lv_bipush (v := 16) hx hb d_Mo_act_115 (by decide) ?_
  refine lv_icmp_ne (tgt := 128) hx hb d_Mo_act_117 (by decide) (fun c10 => ?_) (fun c10 => absurd c10 (by decide))
  refine lv_iload_n hx hb d_Mo_act_128 rfl (lv_at hl 1 rfl) ?_
  refine lv_bipush (v := 9) hx hb d_Mo_act_129 (by decide) ?_
  refine lv_icmp_eq (tgt := 140) hx hb d_Mo_act_131 (by decide) (fun c11 => absurd c11 (by decide)) (fun c11 => ?_)
  refine lv_iload_n hx hb d_Mo_act_134 rfl (lv_at hl 1 rfl) ?_
  refine lv_bipush (v := 10) hx hb d_Mo_act_135 (by decide) ?_
  refine lv_icmp_ne (tgt := 159) hx hb d_Mo_act_137 (by decide) (fun c12 => ?_) (fun c12 => absurd c12 (by decide))
  refine lv_iload_n hx hb d_Mo_act_159 rfl (lv_at hl 1 rfl) ?_
  refine lv_bipush (v := 13) hx hb d_Mo_act_160 (by decide) ?_
  refine lv_icmp_ne (tgt := 173) hx hb d_Mo_act_162 (by decide) (fun c13 => ?_) (fun c13 => absurd c13 (by decide))
  refine lv_aload_n hx hb d_Mo_act_173 rfl (lv_at hl 2 rfl) ?_
  refine lv_iload_n hx hb d_Mo_act_174 rfl (lv_at hl 3 rfl) ?_
  refine lv_iload_n hx hb d_Mo_act_175 rfl (lv_at hl 1 rfl) ?_
  refine gh_callV C V hl.1 m_Mo_two l_Mo_331 (hM _) rfl X.1.1 gc_Mo ⟨by show fr + 1 ≤ 11; omega, by show 8 + (4 + 11) + lo ≤ 360; omega⟩ ⟨Nat.le_refl _, Nat.le_refl _⟩ (Nat.le_of_ble_eq_true rfl) rfl d_Mo_act_176 (fun r z9 H locs hp V1 => ?_)
  obtain ⟨rfl, hQ⟩ := hp
  have V := V1
  refine W.eq (g2 := F0 m 179 ls []) rfl ?_
  refine gh_retv hAe C V hr hlocks d_Mo_act_179 (by first | decide | omega | (dsimp only; omega)) (by first | decide | omega | (dsimp only; omega)) ?_
  exact ⟨rfl, hQ⟩
set_option maxHeartbeats 4000000 in
set_option maxRecDepth 100000 in
theorem c_Mo_act_24 (l : Launch) (E : gh_E) (sz : Nat) (f : gh_F) (a : Nat) (ad : Nat → Nat) (S : Nat → Int32) (I : Nat → Nat → Int32) (J : Nat → Nat → Int64) (cp fr lo : Nat) (Q : gh_F → Prop) (hX : mo_R E f a ad S I J) (hc60 : cp < 60) (hfr : fr ≤ 10) (hlo : lo ≤ 320) (hkb : I 33 cp = 24) (hM : ∀ sz, gh_M l y_Mo_two b_Mo_two 4 none E sz [.ref a, .int (nI cp), .int 24] f { frames := fr, cells := 0, slots := 0, locals := lo } (fun r g => r = none ∧ Q g)) : gh_M l y_Mo_act b_Mo_act 4 none E sz [.ref a, .int (nI cp)] f { frames := 11, cells := 0, slots := 0, locals := 360 } (fun r g => r = none ∧ Q g) := by
  refine gh_open (by decide) (Nat.le_of_ble_eq_true rfl) ?_
  intro p e s m args below meth c A ls hAe C V hr hlocks hname hl
  have hx := C.1
  have hb := C.2.1
  have hl : lv_has ls 4 [(0, .ref a), (1, .int (nI cp))] := hl
  have X : mo_X E f f a ad S I J := ⟨hX, gh_fr.rf⟩
  refine lv_aload_n hx hb d_Mo_act_0 rfl (lv_at hl 0 rfl) ?_
  refine mo_getA C V X 33 (by decide) (by decide) f_Mo_82 rfl d_Mo_act_1 ?_
  refine lv_iload_n hx hb d_Mo_act_4 rfl (lv_at hl 1 rfl) ?_
  refine mo_ild (k := 33) (i := cp) (n := 60) C V X (by decide) (by decide) rfl (by omega) (by decide) d_Mo_act_5 ?_
  rw [show I 33 cp = 24 from hkb]
  refine lv_istore_n hx hb d_Mo_act_6 rfl hl (by decide) rfl (fun ls hl => ?_)
  have hl : lv_has ls 4 [(2, .int 24), (0, .ref a), (1, .int (nI cp))] := hl
  refine lv_iload_n hx hb d_Mo_act_7 rfl (lv_at hl 0 rfl) ?_
  refine lv_bipush (v := 8) hx hb d_Mo_act_8 (by decide) ?_
  refine lv_icmp_ge (tgt := 23) hx hb d_Mo_act_10 (by decide) (fun c1 => ?_) (fun c1 => absurd (by decide) c1)
  refine lv_iload_n hx hb d_Mo_act_23 rfl (lv_at hl 0 rfl) ?_
  refine lv_bipush (v := 15) hx hb d_Mo_act_24 (by decide) ?_
  refine lv_icmp_eq (tgt := 41) hx hb d_Mo_act_26 (by decide) (fun c2 => absurd c2 (by decide)) (fun c2 => ?_)
  refine lv_iload_n hx hb d_Mo_act_29 rfl (lv_at hl 0 rfl) ?_
  refine lv_bipush (v := 16) hx hb d_Mo_act_30 (by decide) ?_
  refine lv_icmp_le (tgt := 45) hx hb d_Mo_act_32 (by decide) (fun c3 => absurd c3 (by decide)) (fun c3 => ?_)
  refine lv_iload_n hx hb d_Mo_act_35 rfl (lv_at hl 0 rfl) ?_
  refine lv_bipush (v := 22) hx hb d_Mo_act_36 (by decide) ?_
  refine lv_icmp_ge (tgt := 45) hx hb d_Mo_act_38 (by decide) (fun c4 => ?_) (fun c4 => absurd (by decide) c4)
  refine lv_iconst (v := 0) hx hb d_Mo_act_45 (by decide) ?_
  refine lv_istore_n hx hb d_Mo_act_46 rfl hl (by decide) rfl (fun ls hl => ?_)
  have hl : lv_has ls 4 [(3, .int 0), (2, .int 24), (0, .ref a), (1, .int (nI cp))] := hl
  refine lv_iload_n hx hb d_Mo_act_47 rfl (lv_at hl 0 rfl) ?_
  refine lv_if_eq (tgt := 60) hx hb d_Mo_act_48 (by decide) (fun c5 => ?_) (fun c5 => absurd (by decide) c5)
  refine lv_iload_n hx hb d_Mo_act_60 rfl (lv_at hl 1 rfl) ?_
  refine lv_iconst (v := 3) hx hb d_Mo_act_61 (by decide) ?_
  refine lv_icmp_ne (tgt := 73) hx hb d_Mo_act_62 (by decide) (fun c6 => ?_) (fun c6 => absurd c6 (by decide))
  refine lv_iload_n hx hb d_Mo_act_73 rfl (lv_at hl 1 rfl) ?_
  refine lv_iconst (v := 4) hx hb d_Mo_act_74 (by decide) ?_
  refine lv_icmp_ne (tgt := 86) hx hb d_Mo_act_75 (by decide) (fun c7 => ?_) (fun c7 => absurd c7 (by decide))
  refine lv_iload_n hx hb d_Mo_act_86 rfl (lv_at hl 1 rfl) ?_
  refine lv_bipush (v := 12) hx hb d_Mo_act_87 (by decide) ?_
  refine lv_icmp_ne (tgt := 100) hx hb d_Mo_act_89 (by decide) (fun c8 => ?_) (fun c8 => absurd c8 (by decide))
  refine lv_iload_n hx hb d_Mo_act_100 rfl (lv_at hl 1 rfl) ?_
  refine lv_bipush (v := 14) hx hb d_Mo_act_101 (by decide) ?_
  refine lv_icmp_ne (tgt := 114) hx hb d_Mo_act_103 (by decide) (fun c9 => ?_) (fun c9 => absurd c9 (by decide))
  refine lv_iload_n hx hb d_Mo_act_114 rfl (lv_at hl 1 rfl) ?_
  refine lv_bipush (v := 16) hx hb d_Mo_act_115 (by decide) ?_
  refine lv_icmp_ne (tgt := 128) hx hb d_Mo_act_117 (by decide) (fun c10 => ?_) (fun c10 => absurd c10 (by decide))
  refine lv_iload_n hx hb d_Mo_act_128 rfl (lv_at hl 1 rfl) ?_
  refine lv_bipush (v := 9) hx hb d_Mo_act_129 (by decide) ?_
  refine lv_icmp_eq (tgt := 140) hx hb d_Mo_act_131 (by decide) (fun c11 => absurd c11 (by decide)) (fun c11 => ?_)
  refine lv_iload_n hx hb d_Mo_act_134 rfl (lv_at hl 1 rfl) ?_
  refine lv_bipush (v := 10) hx hb d_Mo_act_135 (by decide) ?_
  refine lv_icmp_ne (tgt := 159) hx hb d_Mo_act_137 (by decide) (fun c12 => ?_) (fun c12 => absurd c12 (by decide))
  refine lv_iload_n hx hb d_Mo_act_159 rfl (lv_at hl 1 rfl) ?_
  refine lv_bipush (v := 13) hx hb d_Mo_act_160 (by decide) ?_
  refine lv_icmp_ne (tgt := 173) hx hb d_Mo_act_162 (by decide) (fun c13 => ?_) (fun c13 => absurd c13 (by decide))
  refine lv_aload_n hx hb d_Mo_act_173 rfl (lv_at hl 2 rfl) ?_
  refine lv_iload_n hx hb d_Mo_act_174 rfl (lv_at hl 3 rfl) ?_
  refine lv_iload_n hx hb d_Mo_act_175 rfl (lv_at hl 1 rfl) ?_
  refine gh_callV C V hl.1 m_Mo_two l_Mo_331 (hM _) rfl X.1.1 gc_Mo ⟨by show fr + 1 ≤ 11; omega, by show 8 + (4 + 11) + lo ≤ 360; omega⟩ ⟨Nat.le_refl _, Nat.le_refl _⟩ (Nat.le_of_ble_eq_true rfl) rfl d_Mo_act_176 (fun r z9 H locs hp V1 => ?_)
  obtain ⟨rfl, hQ⟩ := hp
  have V := V1
  refine W.eq (g2 := F0 m 179 ls []) rfl ?_
  refine gh_retv hAe C V hr hlocks d_Mo_act_179 (by first | decide | omega | (dsimp only; omega)) (by first | decide | omega | (dsimp only; omega)) ?_
  exact ⟨rfl, hQ⟩
set_option maxHeartbeats 4000000 in
set_option maxRecDepth 100000 in
theorem c_Mo_act_25 (l : Launch) (E : gh_E) (sz : Nat) (f : gh_F) (a : Nat) (ad : Nat → Nat) (S : Nat → Int32) (I : Nat → Nat → Int32) (J : Nat → Nat → Int64) (cp fr lo : Nat) (Q : gh_F → Prop) (hX : mo_R E f a ad S I J) (hc60 : cp < 60) (hfr : fr ≤ 10) (hlo : lo ≤ 320) (hkb : I 33 cp = 25) (hM : ∀ sz, gh_M l y_Mo_two b_Mo_two 4 none E sz [.ref a, .int (nI cp), .int 25] f { frames := fr, cells := 0, slots := 0, locals := lo } (fun r g => r = none ∧ Q g)) : gh_M l y_Mo_act b_Mo_act 4 none E sz [.ref a, .int (nI cp)] f { frames := 11, cells := 0, slots := 0, locals := 360 } (fun r g => r = none ∧ Q g) := by
  refine gh_open (by decide) (Nat.le_of_ble_eq_true rfl) ?_
  intro p e s m args below meth c A ls hAe C V hr hlocks hname hl
  have hx := C.1
  have hb := C.2.1
  have hl : lv_has ls 4 [(0, .ref a), (1, .int (nI cp))] := hl
  have X : mo_X E f f a ad S I J := ⟨hX, gh_fr.rf⟩
  refine lv_aload_n hx hb d_Mo_act_0 rfl (lv_at hl 0 rfl) ?_
  refine mo_getA C V X 33 (by decide) (by decide) f_Mo_82 rfl d_Mo_act_1 ?_
  refine lv_iload_n hx hb d_Mo_act_4 rfl (lv_at hl 1 rfl) ?_
  refine mo_ild (k := 33) (i := cp) (n := 60) C V X (by decide) (by decide) rfl (by omega) (by decide) d_Mo_act_5 ?_
  rw [show I 33 cp = 25 from hkb]
  refine lv_istore_n hx hb d_Mo_act_6 rfl hl (by decide) rfl (fun ls hl => ?_)
  have hl : lv_has ls 4 [(2, .int 25), (0, .ref a), (1, .int (nI cp))] := hl
  refine lv_iload_n hx hb d_Mo_act_7 rfl (lv_at hl 0 rfl) ?_
  refine lv_bipush (v := 8) hx hb d_Mo_act_8 (by decide) ?_
  refine lv_icmp_ge (tgt := 23) hx hb d_Mo_act_10 (by decide) (fun c1 => ?_) (fun c1 => absurd (by decide) c1)
  refine lv_iload_n hx hb d_Mo_act_23 rfl (lv_at hl 0 rfl) ?_
  refine lv_bipush (v := 15) hx hb d_Mo_act_24 (by decide) ?_
  refine lv_icmp_eq (tgt := 41) hx hb d_Mo_act_26 (by decide) (fun c2 => absurd c2 (by decide)) (fun c2 => ?_)
  refine lv_iload_n hx hb d_Mo_act_29 rfl (lv_at hl 0 rfl) ?_
  refine lv_bipush (v := 16) hx hb d_Mo_act_30 (by decide) ?_
  refine lv_icmp_le (tgt := 45) hx hb d_Mo_act_32 (by decide) (fun c3 => absurd c3 (by decide)) (fun c3 => ?_)
  refine lv_iload_n hx hb d_Mo_act_35 rfl (lv_at hl 0 rfl) ?_
  refine lv_bipush (v := 22) hx hb d_Mo_act_36 (by decide) ?_
  refine lv_icmp_ge (tgt := 45) hx hb d_Mo_act_38 (by decide) (fun c4 => ?_) (fun c4 => absurd (by decide) c4)
  refine lv_iconst (v := 0) hx hb d_Mo_act_45 (by decide) ?_
  refine lv_istore_n hx hb d_Mo_act_46 rfl hl (by decide) rfl (fun ls hl => ?_)
  have hl : lv_has ls 4 [(3, .int 0), (2, .int 25), (0, .ref a), (1, .int (nI cp))] := hl
  refine lv_iload_n hx hb d_Mo_act_47 rfl (lv_at hl 0 rfl) ?_
  refine lv_if_eq (tgt := 60) hx hb d_Mo_act_48 (by decide) (fun c5 => ?_) (fun c5 => absurd (by decide) c5)
  refine lv_iload_n hx hb d_Mo_act_60 rfl (lv_at hl 1 rfl) ?_
  refine lv_iconst (v := 3) hx hb d_Mo_act_61 (by decide) ?_
  refine lv_icmp_ne (tgt := 73) hx hb d_Mo_act_62 (by decide) (fun c6 => ?_) (fun c6 => absurd c6 (by decide))
  refine lv_iload_n hx hb d_Mo_act_73 rfl (lv_at hl 1 rfl) ?_
  refine lv_iconst (v := 4) hx hb d_Mo_act_74 (by decide) ?_
  refine lv_icmp_ne (tgt := 86) hx hb d_Mo_act_75 (by decide) (fun c7 => ?_) (fun c7 => absurd c7 (by decide))
  refine lv_iload_n hx hb d_Mo_act_86 rfl (lv_at hl 1 rfl) ?_
  refine lv_bipush (v := 12) hx hb d_Mo_act_87 (by decide) ?_
  refine lv_icmp_ne (tgt := 100) hx hb d_Mo_act_89 (by decide) (fun c8 => ?_) (fun c8 => absurd c8 (by decide))
  refine lv_iload_n hx hb d_Mo_act_100 rfl (lv_at hl 1 rfl) ?_
  refine lv_bipush (v := 14) hx hb d_Mo_act_101 (by decide) ?_
  refine lv_icmp_ne (tgt := 114) hx hb d_Mo_act_103 (by decide) (fun c9 => ?_) (fun c9 => absurd c9 (by decide))
  refine lv_iload_n hx hb d_Mo_act_114 rfl (lv_at hl 1 rfl) ?_
  refine lv_bipush (v := 16) hx hb d_Mo_act_115 (by decide) ?_
  refine lv_icmp_ne (tgt := 128) hx hb d_Mo_act_117 (by decide) (fun c10 => ?_) (fun c10 => absurd c10 (by decide))
  refine lv_iload_n hx hb d_Mo_act_128 rfl (lv_at hl 1 rfl) ?_
  refine lv_bipush (v := 9) hx hb d_Mo_act_129 (by decide) ?_
  refine lv_icmp_eq (tgt := 140) hx hb d_Mo_act_131 (by decide) (fun c11 => absurd c11 (by decide)) (fun c11 => ?_)
  refine lv_iload_n hx hb d_Mo_act_134 rfl (lv_at hl 1 rfl) ?_
  refine lv_bipush (v := 10) hx hb d_Mo_act_135 (by decide) ?_
  refine lv_icmp_ne (tgt := 159) hx hb d_Mo_act_137 (by decide) (fun c12 => ?_) (fun c12 => absurd c12 (by decide))
  refine lv_iload_n hx hb d_Mo_act_159 rfl (lv_at hl 1 rfl) ?_
  refine lv_bipush (v := 13) hx hb d_Mo_act_160 (by decide) ?_
  refine lv_icmp_ne (tgt := 173) hx hb d_Mo_act_162 (by decide) (fun c13 => ?_) (fun c13 => absurd c13 (by decide))
  refine lv_aload_n hx hb d_Mo_act_173 rfl (lv_at hl 2 rfl) ?_
  refine lv_iload_n hx hb d_Mo_act_174 rfl (lv_at hl 3 rfl) ?_
  refine lv_iload_n hx hb d_Mo_act_175 rfl (lv_at hl 1 rfl) ?_
  refine gh_callV C V hl.1 m_Mo_two l_Mo_331 (hM _) rfl X.1.1 gc_Mo ⟨by show fr + 1 ≤ 11; omega, by show 8 + (4 + 11) + lo ≤ 360; omega⟩ ⟨Nat.le_refl _, Nat.le_refl _⟩ (Nat.le_of_ble_eq_true rfl) rfl d_Mo_act_176 (fun r z9 H locs hp V1 => ?_)
  obtain ⟨rfl, hQ⟩ := hp
  have V := V1
  refine W.eq (g2 := F0 m 179 ls []) rfl ?_
  refine gh_retv hAe C V hr hlocks d_Mo_act_179 (by first | decide | omega | (dsimp only; omega)) (by first | decide | omega | (dsimp only; omega)) ?_
  exact ⟨rfl, hQ⟩
set_option maxHeartbeats 4000000 in
set_option maxRecDepth 100000 in
theorem c_Mo_act_26 (l : Launch) (E : gh_E) (sz : Nat) (f : gh_F) (a : Nat) (ad : Nat → Nat) (S : Nat → Int32) (I : Nat → Nat → Int32) (J : Nat → Nat → Int64) (cp fr lo : Nat) (Q : gh_F → Prop) (hX : mo_R E f a ad S I J) (hc60 : cp < 60) (hfr : fr ≤ 10) (hlo : lo ≤ 320) (hkb : I 33 cp = 26) (hM : ∀ sz, gh_M l y_Mo_two b_Mo_two 4 none E sz [.ref a, .int (nI cp), .int 26] f { frames := fr, cells := 0, slots := 0, locals := lo } (fun r g => r = none ∧ Q g)) : gh_M l y_Mo_act b_Mo_act 4 none E sz [.ref a, .int (nI cp)] f { frames := 11, cells := 0, slots := 0, locals := 360 } (fun r g => r = none ∧ Q g) := by
  refine gh_open (by decide) (Nat.le_of_ble_eq_true rfl) ?_
  intro p e s m args below meth c A ls hAe C V hr hlocks hname hl
  have hx := C.1
  have hb := C.2.1
  have hl : lv_has ls 4 [(0, .ref a), (1, .int (nI cp))] := hl
  have X : mo_X E f f a ad S I J := ⟨hX, gh_fr.rf⟩
  refine lv_aload_n hx hb d_Mo_act_0 rfl (lv_at hl 0 rfl) ?_
  refine mo_getA C V X 33 (by decide) (by decide) f_Mo_82 rfl d_Mo_act_1 ?_
  refine lv_iload_n hx hb d_Mo_act_4 rfl (lv_at hl 1 rfl) ?_
  refine mo_ild (k := 33) (i := cp) (n := 60) C V X (by decide) (by decide) rfl (by omega) (by decide) d_Mo_act_5 ?_
  rw [show I 33 cp = 26 from hkb]
  refine lv_istore_n hx hb d_Mo_act_6 rfl hl (by decide) rfl (fun ls hl => ?_)
  have hl : lv_has ls 4 [(2, .int 26), (0, .ref a), (1, .int (nI cp))] := hl
  refine lv_iload_n hx hb d_Mo_act_7 rfl (lv_at hl 0 rfl) ?_
  refine lv_bipush (v := 8) hx hb d_Mo_act_8 (by decide) ?_
  refine lv_icmp_ge (tgt := 23) hx hb d_Mo_act_10 (by decide) (fun c1 => ?_) (fun c1 => absurd (by decide) c1)
  refine lv_iload_n hx hb d_Mo_act_23 rfl (lv_at hl 0 rfl) ?_
  refine lv_bipush (v := 15) hx hb d_Mo_act_24 (by decide) ?_
  refine lv_icmp_eq (tgt := 41) hx hb d_Mo_act_26 (by decide) (fun c2 => absurd c2 (by decide)) (fun c2 => ?_)
  refine lv_iload_n hx hb d_Mo_act_29 rfl (lv_at hl 0 rfl) ?_
  refine lv_bipush (v := 16) hx hb d_Mo_act_30 (by decide) ?_
  refine lv_icmp_le (tgt := 45) hx hb d_Mo_act_32 (by decide) (fun c3 => absurd c3 (by decide)) (fun c3 => ?_)
  refine lv_iload_n hx hb d_Mo_act_35 rfl (lv_at hl 0 rfl) ?_
  refine lv_bipush (v := 22) hx hb d_Mo_act_36 (by decide) ?_
  refine lv_icmp_ge (tgt := 45) hx hb d_Mo_act_38 (by decide) (fun c4 => ?_) (fun c4 => absurd (by decide) c4)
  refine lv_iconst (v := 0) hx hb d_Mo_act_45 (by decide) ?_
  refine lv_istore_n hx hb d_Mo_act_46 rfl hl (by decide) rfl (fun ls hl => ?_)
  have hl : lv_has ls 4 [(3, .int 0), (2, .int 26), (0, .ref a), (1, .int (nI cp))] := hl
  refine lv_iload_n hx hb d_Mo_act_47 rfl (lv_at hl 0 rfl) ?_
  refine lv_if_eq (tgt := 60) hx hb d_Mo_act_48 (by decide) (fun c5 => ?_) (fun c5 => absurd (by decide) c5)
  refine lv_iload_n hx hb d_Mo_act_60 rfl (lv_at hl 1 rfl) ?_
  refine lv_iconst (v := 3) hx hb d_Mo_act_61 (by decide) ?_
  refine lv_icmp_ne (tgt := 73) hx hb d_Mo_act_62 (by decide) (fun c6 => ?_) (fun c6 => absurd c6 (by decide))
  refine lv_iload_n hx hb d_Mo_act_73 rfl (lv_at hl 1 rfl) ?_
  refine lv_iconst (v := 4) hx hb d_Mo_act_74 (by decide) ?_
  refine lv_icmp_ne (tgt := 86) hx hb d_Mo_act_75 (by decide) (fun c7 => ?_) (fun c7 => absurd c7 (by decide))
  refine lv_iload_n hx hb d_Mo_act_86 rfl (lv_at hl 1 rfl) ?_
  refine lv_bipush (v := 12) hx hb d_Mo_act_87 (by decide) ?_
  refine lv_icmp_ne (tgt := 100) hx hb d_Mo_act_89 (by decide) (fun c8 => ?_) (fun c8 => absurd c8 (by decide))
  refine lv_iload_n hx hb d_Mo_act_100 rfl (lv_at hl 1 rfl) ?_
  refine lv_bipush (v := 14) hx hb d_Mo_act_101 (by decide) ?_
  refine lv_icmp_ne (tgt := 114) hx hb d_Mo_act_103 (by decide) (fun c9 => ?_) (fun c9 => absurd c9 (by decide))
  refine lv_iload_n hx hb d_Mo_act_114 rfl (lv_at hl 1 rfl) ?_
  refine lv_bipush (v := 16) hx hb d_Mo_act_115 (by decide) ?_
  refine lv_icmp_ne (tgt := 128) hx hb d_Mo_act_117 (by decide) (fun c10 => ?_) (fun c10 => absurd c10 (by decide))
  refine lv_iload_n hx hb d_Mo_act_128 rfl (lv_at hl 1 rfl) ?_
  refine lv_bipush (v := 9) hx hb d_Mo_act_129 (by decide) ?_
  refine lv_icmp_eq (tgt := 140) hx hb d_Mo_act_131 (by decide) (fun c11 => absurd c11 (by decide)) (fun c11 => ?_)
  refine lv_iload_n hx hb d_Mo_act_134 rfl (lv_at hl 1 rfl) ?_
  refine lv_bipush (v := 10) hx hb d_Mo_act_135 (by decide) ?_
  refine lv_icmp_ne (tgt := 159) hx hb d_Mo_act_137 (by decide) (fun c12 => ?_) (fun c12 => absurd c12 (by decide))
  refine lv_iload_n hx hb d_Mo_act_159 rfl (lv_at hl 1 rfl) ?_
  refine lv_bipush (v := 13) hx hb d_Mo_act_160 (by decide) ?_
  refine lv_icmp_ne (tgt := 173) hx hb d_Mo_act_162 (by decide) (fun c13 => ?_) (fun c13 => absurd c13 (by decide))
  refine lv_aload_n hx hb d_Mo_act_173 rfl (lv_at hl 2 rfl) ?_
  refine lv_iload_n hx hb d_Mo_act_174 rfl (lv_at hl 3 rfl) ?_
  refine lv_iload_n hx hb d_Mo_act_175 rfl (lv_at hl 1 rfl) ?_
  refine gh_callV C V hl.1 m_Mo_two l_Mo_331 (hM _) rfl X.1.1 gc_Mo ⟨by show fr + 1 ≤ 11; omega, by show 8 + (4 + 11) + lo ≤ 360; omega⟩ ⟨Nat.le_refl _, Nat.le_refl _⟩ (Nat.le_of_ble_eq_true rfl) rfl d_Mo_act_176 (fun r z9 H locs hp V1 => ?_)
  obtain ⟨rfl, hQ⟩ := hp
  have V := V1
  refine W.eq (g2 := F0 m 179 ls []) rfl ?_
  refine gh_retv hAe C V hr hlocks d_Mo_act_179 (by first | decide | omega | (dsimp only; omega)) (by first | decide | omega | (dsimp only; omega)) ?_
  exact ⟨rfl, hQ⟩
