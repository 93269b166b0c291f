/-! writeValue, writeAll of the model. Printed by wip/whole/gen_mo32.py. -/
theorem d_Mo_writeValue_0 : decode b_Mo_writeValue 0 = .ok (.aload_n 0, 1) := by decide +kernel
theorem d_Mo_writeValue_1 : decode b_Mo_writeValue 1 = .ok (.getfield 7, 3) := by decide +kernel
theorem d_Mo_writeValue_4 : decode b_Mo_writeValue 4 = .ok (.iload_n 1, 1) := by decide +kernel
theorem d_Mo_writeValue_5 : decode b_Mo_writeValue 5 = .ok (.iaload, 1) := by decide +kernel
theorem d_Mo_writeValue_6 : decode b_Mo_writeValue 6 = .ok (.ifCond .ne 15, 3) := by decide +kernel
theorem d_Mo_writeValue_9 : decode b_Mo_writeValue 9 = .ok (.aload_n 0, 1) := by decide +kernel
theorem d_Mo_writeValue_10 : decode b_Mo_writeValue 10 = .ok (.bipush 110, 2) := by decide +kernel
theorem d_Mo_writeValue_12 : decode b_Mo_writeValue 12 = .ok (.bipush 117, 2) := by decide +kernel
theorem d_Mo_writeValue_14 : decode b_Mo_writeValue 14 = .ok (.bipush 108, 2) := by decide +kernel
theorem d_Mo_writeValue_16 : decode b_Mo_writeValue 16 = .ok (.bipush 108, 2) := by decide +kernel
theorem d_Mo_writeValue_18 : decode b_Mo_writeValue 18 = .ok (.invokevirtual 393, 3) := by decide +kernel
theorem d_Mo_writeValue_21 : decode b_Mo_writeValue 21 = .ok (.aload_n 0, 1) := by decide +kernel
theorem d_Mo_writeValue_22 : decode b_Mo_writeValue 22 = .ok (.getfield 7, 3) := by decide +kernel
theorem d_Mo_writeValue_25 : decode b_Mo_writeValue 25 = .ok (.iload_n 1, 1) := by decide +kernel
theorem d_Mo_writeValue_26 : decode b_Mo_writeValue 26 = .ok (.iaload, 1) := by decide +kernel
theorem d_Mo_writeValue_27 : decode b_Mo_writeValue 27 = .ok (.iconst 2, 1) := by decide +kernel
theorem d_Mo_writeValue_28 : decode b_Mo_writeValue 28 = .ok (.if_icmp .ne 15, 3) := by decide +kernel
theorem d_Mo_writeValue_31 : decode b_Mo_writeValue 31 = .ok (.aload_n 0, 1) := by decide +kernel
theorem d_Mo_writeValue_32 : decode b_Mo_writeValue 32 = .ok (.bipush 116, 2) := by decide +kernel
theorem d_Mo_writeValue_34 : decode b_Mo_writeValue 34 = .ok (.bipush 114, 2) := by decide +kernel
theorem d_Mo_writeValue_36 : decode b_Mo_writeValue 36 = .ok (.bipush 117, 2) := by decide +kernel
theorem d_Mo_writeValue_38 : decode b_Mo_writeValue 38 = .ok (.bipush 101, 2) := by decide +kernel
theorem d_Mo_writeValue_40 : decode b_Mo_writeValue 40 = .ok (.invokevirtual 393, 3) := by decide +kernel
theorem d_Mo_writeValue_43 : decode b_Mo_writeValue 43 = .ok (.aload_n 0, 1) := by decide +kernel
theorem d_Mo_writeValue_44 : decode b_Mo_writeValue 44 = .ok (.getfield 7, 3) := by decide +kernel
theorem d_Mo_writeValue_47 : decode b_Mo_writeValue 47 = .ok (.iload_n 1, 1) := by decide +kernel
theorem d_Mo_writeValue_48 : decode b_Mo_writeValue 48 = .ok (.iaload, 1) := by decide +kernel
theorem d_Mo_writeValue_49 : decode b_Mo_writeValue 49 = .ok (.iconst 1, 1) := by decide +kernel
theorem d_Mo_writeValue_50 : decode b_Mo_writeValue 50 = .ok (.if_icmp .ne 21, 3) := by decide +kernel
theorem d_Mo_writeValue_53 : decode b_Mo_writeValue 53 = .ok (.aload_n 0, 1) := by decide +kernel
theorem d_Mo_writeValue_54 : decode b_Mo_writeValue 54 = .ok (.bipush 102, 2) := by decide +kernel
theorem d_Mo_writeValue_56 : decode b_Mo_writeValue 56 = .ok (.bipush 97, 2) := by decide +kernel
theorem d_Mo_writeValue_58 : decode b_Mo_writeValue 58 = .ok (.bipush 108, 2) := by decide +kernel
theorem d_Mo_writeValue_60 : decode b_Mo_writeValue 60 = .ok (.bipush 115, 2) := by decide +kernel
theorem d_Mo_writeValue_62 : decode b_Mo_writeValue 62 = .ok (.invokevirtual 393, 3) := by decide +kernel
theorem d_Mo_writeValue_65 : decode b_Mo_writeValue 65 = .ok (.aload_n 0, 1) := by decide +kernel
theorem d_Mo_writeValue_66 : decode b_Mo_writeValue 66 = .ok (.bipush 101, 2) := by decide +kernel
theorem d_Mo_writeValue_68 : decode b_Mo_writeValue 68 = .ok (.invokevirtual 388, 3) := by decide +kernel
theorem d_Mo_writeValue_71 : decode b_Mo_writeValue 71 = .ok (.aload_n 0, 1) := by decide +kernel
theorem d_Mo_writeValue_72 : decode b_Mo_writeValue 72 = .ok (.getfield 7, 3) := by decide +kernel
theorem d_Mo_writeValue_75 : decode b_Mo_writeValue 75 = .ok (.iload_n 1, 1) := by decide +kernel
theorem d_Mo_writeValue_76 : decode b_Mo_writeValue 76 = .ok (.iaload, 1) := by decide +kernel
theorem d_Mo_writeValue_77 : decode b_Mo_writeValue 77 = .ok (.iconst 3, 1) := by decide +kernel
theorem d_Mo_writeValue_78 : decode b_Mo_writeValue 78 = .ok (.if_icmp .ne 13, 3) := by decide +kernel
theorem d_Mo_writeValue_81 : decode b_Mo_writeValue 81 = .ok (.aload_n 0, 1) := by decide +kernel
theorem d_Mo_writeValue_82 : decode b_Mo_writeValue 82 = .ok (.aload_n 0, 1) := by decide +kernel
theorem d_Mo_writeValue_83 : decode b_Mo_writeValue 83 = .ok (.getfield 13, 3) := by decide +kernel
theorem d_Mo_writeValue_86 : decode b_Mo_writeValue 86 = .ok (.iload_n 1, 1) := by decide +kernel
theorem d_Mo_writeValue_87 : decode b_Mo_writeValue 87 = .ok (.laload, 1) := by decide +kernel
theorem d_Mo_writeValue_88 : decode b_Mo_writeValue 88 = .ok (.invokevirtual 397, 3) := by decide +kernel
theorem d_Mo_writeValue_91 : decode b_Mo_writeValue 91 = .ok (.aload_n 0, 1) := by decide +kernel
theorem d_Mo_writeValue_92 : decode b_Mo_writeValue 92 = .ok (.getfield 7, 3) := by decide +kernel
theorem d_Mo_writeValue_95 : decode b_Mo_writeValue 95 = .ok (.iload_n 1, 1) := by decide +kernel
theorem d_Mo_writeValue_96 : decode b_Mo_writeValue 96 = .ok (.iaload, 1) := by decide +kernel
theorem d_Mo_writeValue_97 : decode b_Mo_writeValue 97 = .ok (.iconst 4, 1) := by decide +kernel
theorem d_Mo_writeValue_98 : decode b_Mo_writeValue 98 = .ok (.if_icmp .ne 8, 3) := by decide +kernel
theorem d_Mo_writeValue_101 : decode b_Mo_writeValue 101 = .ok (.aload_n 0, 1) := by decide +kernel
theorem d_Mo_writeValue_102 : decode b_Mo_writeValue 102 = .ok (.iload_n 1, 1) := by decide +kernel
theorem d_Mo_writeValue_103 : decode b_Mo_writeValue 103 = .ok (.invokevirtual 401, 3) := by decide +kernel
theorem d_Mo_writeValue_106 : decode b_Mo_writeValue 106 = .ok (.aload_n 0, 1) := by decide +kernel
theorem d_Mo_writeValue_107 : decode b_Mo_writeValue 107 = .ok (.iload_n 1, 1) := by decide +kernel
theorem d_Mo_writeValue_108 : decode b_Mo_writeValue 108 = .ok (.invokevirtual 169, 3) := by decide +kernel
theorem d_Mo_writeValue_111 : decode b_Mo_writeValue 111 = .ok (.ifCond .ne 4, 3) := by decide +kernel
theorem d_Mo_writeValue_114 : decode b_Mo_writeValue 114 = .ok (.return_, 1) := by decide +kernel
theorem d_Mo_writeValue_115 : decode b_Mo_writeValue 115 = .ok (.aload_n 0, 1) := by decide +kernel
theorem d_Mo_writeValue_116 : decode b_Mo_writeValue 116 = .ok (.aload_n 0, 1) := by decide +kernel
theorem d_Mo_writeValue_117 : decode b_Mo_writeValue 117 = .ok (.getfield 7, 3) := by decide +kernel
theorem d_Mo_writeValue_120 : decode b_Mo_writeValue 120 = .ok (.iload_n 1, 1) := by decide +kernel
theorem d_Mo_writeValue_121 : decode b_Mo_writeValue 121 = .ok (.iaload, 1) := by decide +kernel
theorem d_Mo_writeValue_122 : decode b_Mo_writeValue 122 = .ok (.bipush 6, 2) := by decide +kernel
theorem d_Mo_writeValue_124 : decode b_Mo_writeValue 124 = .ok (.if_icmp .ne 8, 3) := by decide +kernel
theorem d_Mo_writeValue_127 : decode b_Mo_writeValue 127 = .ok (.bipush 123, 2) := by decide +kernel
theorem d_Mo_writeValue_129 : decode b_Mo_writeValue 129 = .ok (.goto 5, 3) := by decide +kernel
theorem d_Mo_writeValue_132 : decode b_Mo_writeValue 132 = .ok (.bipush 91, 2) := by decide +kernel
theorem d_Mo_writeValue_134 : decode b_Mo_writeValue 134 = .ok (.invokevirtual 388, 3) := by decide +kernel
theorem d_Mo_writeValue_137 : decode b_Mo_writeValue 137 = .ok (.aload_n 0, 1) := by decide +kernel
theorem d_Mo_writeValue_138 : decode b_Mo_writeValue 138 = .ok (.getfield 124, 3) := by decide +kernel
theorem d_Mo_writeValue_141 : decode b_Mo_writeValue 141 = .ok (.aload_n 0, 1) := by decide +kernel
theorem d_Mo_writeValue_142 : decode b_Mo_writeValue 142 = .ok (.getfield 404, 3) := by decide +kernel
theorem d_Mo_writeValue_145 : decode b_Mo_writeValue 145 = .ok (.iload_n 1, 1) := by decide +kernel
theorem d_Mo_writeValue_146 : decode b_Mo_writeValue 146 = .ok (.iastore, 1) := by decide +kernel
theorem d_Mo_writeValue_147 : decode b_Mo_writeValue 147 = .ok (.aload_n 0, 1) := by decide +kernel
theorem d_Mo_writeValue_148 : decode b_Mo_writeValue 148 = .ok (.getfield 127, 3) := by decide +kernel
theorem d_Mo_writeValue_151 : decode b_Mo_writeValue 151 = .ok (.aload_n 0, 1) := by decide +kernel
theorem d_Mo_writeValue_152 : decode b_Mo_writeValue 152 = .ok (.getfield 404, 3) := by decide +kernel
theorem d_Mo_writeValue_155 : decode b_Mo_writeValue 155 = .ok (.iconst 0, 1) := by decide +kernel
theorem d_Mo_writeValue_156 : decode b_Mo_writeValue 156 = .ok (.iastore, 1) := by decide +kernel
theorem d_Mo_writeValue_157 : decode b_Mo_writeValue 157 = .ok (.aload_n 0, 1) := by decide +kernel
theorem d_Mo_writeValue_158 : decode b_Mo_writeValue 158 = .ok (.dup, 1) := by decide +kernel
theorem d_Mo_writeValue_159 : decode b_Mo_writeValue 159 = .ok (.getfield 404, 3) := by decide +kernel
theorem d_Mo_writeValue_162 : decode b_Mo_writeValue 162 = .ok (.iconst 1, 1) := by decide +kernel
theorem d_Mo_writeValue_163 : decode b_Mo_writeValue 163 = .ok (.iadd, 1) := by decide +kernel
theorem d_Mo_writeValue_164 : decode b_Mo_writeValue 164 = .ok (.putfield 404, 3) := by decide +kernel
theorem d_Mo_writeValue_167 : decode b_Mo_writeValue 167 = .ok (.return_, 1) := by decide +kernel
set_option maxHeartbeats 4000000 in
set_option maxRecDepth 100000 in
theorem c_Mo_writeValue_0 (l : Launch) (E : gh_E) (sz : Nat) (f : gh_F) (a : Nat) (ad : Nat → Nat) (S : Nat → Int32) (I : Nat → Nat → Int32) (J : Nat → Nat → Int64) (b nv pb np v n : Nat) (O : vt) (hX : mo_R E f a ad S I J) (hO : mw I J b nv pb np v O) (hk : vt_k O = 0) (h55 : S 55 = nI n) : gh_M l y_Mo_writeValue b_Mo_writeValue 2 none E sz [.ref a, .int (nI v)] f { frames := 8, cells := 0, slots := 0, locals := 220 } (fun r g => r = none ∧ ∃ S2, mo_X E f g a ad S2 I J ∧ wQ n S (wr_v 1 O) S2) := by
  have h1v : I 1 v = 0 := by rw [(mv_o.mp hO.1).2.1, hk]; rfl
  have hv7 := hO.lt
  have h2v := (mv_o.mp hO.1).2.2.1
  have hq : wQ n S [] S := wQ.nil h55
  refine gh_open (by decide) (Nat.le_of_ble_eq_true rfl) ?_
  intro p e s m args below meth c A ls hAe C V hr hlocks hname hl
  have hx := C.1
  have hb := C.2.1
  have hl : lv_has ls 2 [(0, .ref a), (1, .int (nI v))] := hl
  have X : mo_X E f f a ad S I J := ⟨hX, gh_fr.rf⟩
  refine lv_aload_n hx hb d_Mo_writeValue_0 rfl (lv_at hl 0 rfl) ?_
  refine mo_getA C V X 1 (by decide) (by decide) f_Mo_7 rfl d_Mo_writeValue_1 ?_
  refine lv_iload_n hx hb d_Mo_writeValue_4 rfl (lv_at hl 1 rfl) ?_
  refine mo_ild (k := 1) (i := v) (n := 760) C V X (by decide) (by decide) rfl (by omega) (by decide) d_Mo_writeValue_5 ?_
  rw [show I 1 v = 0 from h1v]
  refine lv_if_ne (tgt := 21) hx hb d_Mo_writeValue_6 (by decide) (fun c1 => absurd (by decide) c1) (fun c1 => ?_)
  refine lv_aload_n hx hb d_Mo_writeValue_9 rfl (lv_at hl 0 rfl) ?_
  refine lv_bipush (v := 110) hx hb d_Mo_writeValue_10 (by decide) ?_
  refine lv_bipush (v := 117) hx hb d_Mo_writeValue_12 (by decide) ?_
  refine lv_bipush (v := 108) hx hb d_Mo_writeValue_14 (by decide) ?_
  refine lv_bipush (v := 108) hx hb d_Mo_writeValue_16 (by decide) ?_
  refine gh_callV C V hl.1 m_Mo_writeWord l_Mo_393 (c_Mo_writeWord l E _ _ a ad _ _ _ 110 117 108 108 _ X.1 hq.at55) rfl X.1.1 gc_Mo ⟨by first | decide | omega | (dsimp only; omega), by first | decide | omega | (dsimp only; omega)⟩ ⟨by first | decide | omega | (dsimp only; omega), by first | decide | omega | (dsimp only; omega)⟩ (Nat.le_of_ble_eq_true rfl) rfl d_Mo_writeValue_18 (fun r z9 H locs hp V1 => ?_)
  obtain ⟨rfl, S2, X2, hq2⟩ := hp
  have hq := hq.tr hq2
  have X := X.then X2
  have V := V1
  refine W.eq (g2 := F0 m 21 ls []) rfl ?_
  refine lv_aload_n hx hb d_Mo_writeValue_21 rfl (lv_at hl 0 rfl) ?_
  refine mo_getA C V X 1 (by decide) (by decide) f_Mo_7 rfl d_Mo_writeValue_22 ?_
  refine lv_iload_n hx hb d_Mo_writeValue_25 rfl (lv_at hl 1 rfl) ?_
  refine mo_ild (k := 1) (i := v) (n := 760) C V X (by decide) (by decide) rfl (by omega) (by decide) d_Mo_writeValue_26 ?_
  rw [show I 1 v = 0 from h1v]
  refine lv_iconst (v := 2) hx hb d_Mo_writeValue_27 (by decide) ?_
  refine lv_icmp_ne (tgt := 43) hx hb d_Mo_writeValue_28 (by decide) (fun c3 => ?_) (fun c3 => absurd c3 (by decide))
  refine lv_aload_n hx hb d_Mo_writeValue_43 rfl (lv_at hl 0 rfl) ?_
  refine mo_getA C V X 1 (by decide) (by decide) f_Mo_7 rfl d_Mo_writeValue_44 ?_
  refine lv_iload_n hx hb d_Mo_writeValue_47 rfl (lv_at hl 1 rfl) ?_
  refine mo_ild (k := 1) (i := v) (n := 760) C V X (by decide) (by decide) rfl (by omega) (by decide) d_Mo_writeValue_48 ?_
  rw [show I 1 v = 0 from h1v]
  refine lv_iconst (v := 1) hx hb d_Mo_writeValue_49 (by decide) ?_
  refine lv_icmp_ne (tgt := 71) hx hb d_Mo_writeValue_50 (by decide) (fun c4 => ?_) (fun c4 => absurd c4 (by decide))
  refine lv_aload_n hx hb d_Mo_writeValue_71 rfl (lv_at hl 0 rfl) ?_
  refine mo_getA C V X 1 (by decide) (by decide) f_Mo_7 rfl d_Mo_writeValue_72 ?_
  refine lv_iload_n hx hb d_Mo_writeValue_75 rfl (lv_at hl 1 rfl) ?_
  refine mo_ild (k := 1) (i := v) (n := 760) C V X (by decide) (by decide) rfl (by omega) (by decide) d_Mo_writeValue_76 ?_
  rw [show I 1 v = 0 from h1v]
  refine lv_iconst (v := 3) hx hb d_Mo_writeValue_77 (by decide) ?_
  refine lv_icmp_ne (tgt := 91) hx hb d_Mo_writeValue_78 (by decide) (fun c5 => ?_) (fun c5 => absurd c5 (by decide))
  refine lv_aload_n hx hb d_Mo_writeValue_91 rfl (lv_at hl 0 rfl) ?_
  refine mo_getA C V X 1 (by decide) (by decide) f_Mo_7 rfl d_Mo_writeValue_92 ?_
  refine lv_iload_n hx hb d_Mo_writeValue_95 rfl (lv_at hl 1 rfl) ?_
  refine mo_ild (k := 1) (i := v) (n := 760) C V X (by decide) (by decide) rfl (by omega) (by decide) d_Mo_writeValue_96 ?_
  rw [show I 1 v = 0 from h1v]
  refine lv_iconst (v := 4) hx hb d_Mo_writeValue_97 (by decide) ?_
  refine lv_icmp_ne (tgt := 106) hx hb d_Mo_writeValue_98 (by decide) (fun c6 => ?_) (fun c6 => absurd c6 (by decide))
  refine lv_aload_n hx hb d_Mo_writeValue_106 rfl (lv_at hl 0 rfl) ?_
  refine lv_iload_n hx hb d_Mo_writeValue_107 rfl (lv_at hl 1 rfl) ?_
  refine gh_callV C V hl.1 m_Mo_isMany l_Mo_169 (c_Mo_isMany l E _ _ a ad _ _ _ v X.1 hv7) rfl X.1.1 gc_Mo ⟨by first | decide | omega | (dsimp only; omega), by first | decide | omega | (dsimp only; omega)⟩ ⟨by first | decide | omega | (dsimp only; omega), by first | decide | omega | (dsimp only; omega)⟩ (Nat.le_of_ble_eq_true rfl) rfl d_Mo_writeValue_108 (fun r z9 H locs hp V1 => ?_)
  obtain ⟨rfl, he9⟩ := hp
  rw [he9] at V1
  have V := V1
  rw [show (decide (I 1 v = 5) || decide (I 1 v = 6)) = false by rw [h1v]; decide]
  refine W.eq (g2 := F0 m 111 ls [.int (gh_bi false)]) rfl ?_
  refine lv_if_ne (tgt := 115) hx hb d_Mo_writeValue_111 (by decide) (fun c7 => absurd (by decide) c7) (fun c7 => ?_)
  refine gh_retv hAe C V hr hlocks d_Mo_writeValue_114 (by first | decide | omega | (dsimp only; omega)) (by first | decide | omega | (dsimp only; omega)) ?_
  exact ⟨rfl, _, X, hq.eq (by unfold wr_v; simp [hk, h2v])⟩
set_option maxHeartbeats 4000000 in
set_option maxRecDepth 100000 in
theorem c_Mo_writeValue_1 (l : Launch) (E : gh_E) (sz : Nat) (f : gh_F) (a : Nat) (ad : Nat → Nat) (S : Nat → Int32) (I : Nat → Nat → Int32) (J : Nat → Nat → Int64) (b nv pb np v n : Nat) (O : vt) (hX : mo_R E f a ad S I J) (hO : mw I J b nv pb np v O) (hk : vt_k O = 1) (h55 : S 55 = nI n) : gh_M l y_Mo_writeValue b_Mo_writeValue 2 none E sz [.ref a, .int (nI v)] f { frames := 8, cells := 0, slots := 0, locals := 220 } (fun r g => r = none ∧ ∃ S2, mo_X E f g a ad S2 I J ∧ wQ n S (wr_v 1 O) S2) := by
  have h1v : I 1 v = 1 := by rw [(mv_o.mp hO.1).2.1, hk]; rfl
  have hv7 := hO.lt
  have h2v := (mv_o.mp hO.1).2.2.1
  have hq : wQ n S [] S := wQ.nil h55
  refine gh_open (by decide) (Nat.le_of_ble_eq_true rfl) ?_
  intro p e s m args below meth c A ls hAe C V hr hlocks hname hl
  have hx := C.1
  have hb := C.2.1
  have hl : lv_has ls 2 [(0, .ref a), (1, .int (nI v))] := hl
  have X : mo_X E f f a ad S I J := ⟨hX, gh_fr.rf⟩
  refine lv_aload_n hx hb d_Mo_writeValue_0 rfl (lv_at hl 0 rfl) ?_
  refine mo_getA C V X 1 (by decide) (by decide) f_Mo_7 rfl d_Mo_writeValue_1 ?_
  refine lv_iload_n hx hb d_Mo_writeValue_4 rfl (lv_at hl 1 rfl) ?_
  refine mo_ild (k := 1) (i := v) (n := 760) C V X (by decide) (by decide) rfl (by omega) (by decide) d_Mo_writeValue_5 ?_
  rw [show I 1 v = 1 from h1v]
  refine lv_if_ne (tgt := 21) hx hb d_Mo_writeValue_6 (by decide) (fun c1 => ?_) (fun c1 => absurd c1 (by decide))
  refine lv_aload_n hx hb d_Mo_writeValue_21 rfl (lv_at hl 0 rfl) ?_
  refine mo_getA C V X 1 (by decide) (by decide) f_Mo_7 rfl d_Mo_writeValue_22 ?_
  refine lv_iload_n hx hb d_Mo_writeValue_25 rfl (lv_at hl 1 rfl) ?_
  refine mo_ild (k := 1) (i := v) (n := 760) C V X (by decide) (by decide) rfl (by omega) (by decide) d_Mo_writeValue_26 ?_
  rw [show I 1 v = 1 from h1v]
  refine lv_iconst (v := 2) hx hb d_Mo_writeValue_27 (by decide) ?_
  refine lv_icmp_ne (tgt := 43) hx hb d_Mo_writeValue_28 (by decide) (fun c2 => ?_) (fun c2 => absurd c2 (by decide))
  refine lv_aload_n hx hb d_Mo_writeValue_43 rfl (lv_at hl 0 rfl) ?_
  refine mo_getA C V X 1 (by decide) (by decide) f_Mo_7 rfl d_Mo_writeValue_44 ?_
  refine lv_iload_n hx hb d_Mo_writeValue_47 rfl (lv_at hl 1 rfl) ?_
  refine mo_ild (k := 1) (i := v) (n := 760) C V X (by decide) (by decide) rfl (by omega) (by decide) d_Mo_writeValue_48 ?_
  rw [show I 1 v = 1 from h1v]
  refine lv_iconst (v := 1) hx hb d_Mo_writeValue_49 (by decide) ?_
  refine lv_icmp_ne (tgt := 71) hx hb d_Mo_writeValue_50 (by decide) (fun c3 => absurd (by decide) c3) (fun c3 => ?_)
  refine lv_aload_n hx hb d_Mo_writeValue_53 rfl (lv_at hl 0 rfl) ?_
  refine lv_bipush (v := 102) hx hb d_Mo_writeValue_54 (by decide) ?_
  refine lv_bipush (v := 97) hx hb d_Mo_writeValue_56 (by decide) ?_
  refine lv_bipush (v := 108) hx hb d_Mo_writeValue_58 (by decide) ?_
  refine lv_bipush (v := 115) hx hb d_Mo_writeValue_60 (by decide) ?_
  refine gh_callV C V hl.1 m_Mo_writeWord l_Mo_393 (c_Mo_writeWord l E _ _ a ad _ _ _ 102 97 108 115 _ X.1 hq.at55) rfl X.1.1 gc_Mo ⟨by first | decide | omega | (dsimp only; omega), by first | decide | omega | (dsimp only; omega)⟩ ⟨by first | decide | omega | (dsimp only; omega), by first | decide | omega | (dsimp only; omega)⟩ (Nat.le_of_ble_eq_true rfl) rfl d_Mo_writeValue_62 (fun r z9 H locs hp V1 => ?_)
  obtain ⟨rfl, S4, X2, hq2⟩ := hp
  have hq := hq.tr hq2
  have X := X.then X2
  have V := V1
  refine W.eq (g2 := F0 m 65 ls []) rfl ?_
  refine lv_aload_n hx hb d_Mo_writeValue_65 rfl (lv_at hl 0 rfl) ?_
  refine lv_bipush (v := 101) hx hb d_Mo_writeValue_66 (by decide) ?_
  refine gh_callV C V hl.1 m_Mo_write l_Mo_388 (c_Mo_wr l E _ _ a ad _ _ _ 101 _ X.1 hq.at55) rfl X.1.1 gc_Mo ⟨by first | decide | omega | (dsimp only; omega), by first | decide | omega | (dsimp only; omega)⟩ ⟨by first | decide | omega | (dsimp only; omega), by first | decide | omega | (dsimp only; omega)⟩ (Nat.le_of_ble_eq_true rfl) rfl d_Mo_writeValue_68 (fun r z9 H locs hp V1 => ?_)
  obtain ⟨rfl, S5, X2, hq2⟩ := hp
  have hq := hq.tr hq2
  have X := X.then X2
  have V := V1
  refine W.eq (g2 := F0 m 71 ls []) rfl ?_
  refine lv_aload_n hx hb d_Mo_writeValue_71 rfl (lv_at hl 0 rfl) ?_
  refine mo_getA C V X 1 (by decide) (by decide) f_Mo_7 rfl d_Mo_writeValue_72 ?_
  refine lv_iload_n hx hb d_Mo_writeValue_75 rfl (lv_at hl 1 rfl) ?_
  refine mo_ild (k := 1) (i := v) (n := 760) C V X (by decide) (by decide) rfl (by omega) (by decide) d_Mo_writeValue_76 ?_
  rw [show I 1 v = 1 from h1v]
  refine lv_iconst (v := 3) hx hb d_Mo_writeValue_77 (by decide) ?_
  refine lv_icmp_ne (tgt := 91) hx hb d_Mo_writeValue_78 (by decide) (fun c6 => ?_) (fun c6 => absurd c6 (by decide))
  refine lv_aload_n hx hb d_Mo_writeValue_91 rfl (lv_at hl 0 rfl) ?_
  refine mo_getA C V X 1 (by decide) (by decide) f_Mo_7 rfl d_Mo_writeValue_92 ?_
  refine lv_iload_n hx hb d_Mo_writeValue_95 rfl (lv_at hl 1 rfl) ?_
  refine mo_ild (k := 1) (i := v) (n := 760) C V X (by decide) (by decide) rfl (by omega) (by decide) d_Mo_writeValue_96 ?_
  rw [show I 1 v = 1 from h1v]
  refine lv_iconst (v := 4) hx hb d_Mo_writeValue_97 (by decide) ?_
  refine lv_icmp_ne (tgt := 106) hx hb d_Mo_writeValue_98 (by decide) (fun c7 => ?_) (fun c7 => absurd c7 (by decide))
  refine lv_aload_n hx hb d_Mo_writeValue_106 rfl (lv_at hl 0 rfl) ?_
  refine lv_iload_n hx hb d_Mo_writeValue_107 rfl (lv_at hl 1 rfl) ?_
  refine gh_callV C V hl.1 m_Mo_isMany l_Mo_169 (c_Mo_isMany l E _ _ a ad _ _ _ v X.1 hv7) rfl X.1.1 gc_Mo ⟨by first | decide | omega | (dsimp only; omega), by first | decide | omega | (dsimp only; omega)⟩ ⟨by first | decide | omega | (dsimp only; omega), by first | decide | omega | (dsimp only; omega)⟩ (Nat.le_of_ble_eq_true rfl) rfl d_Mo_writeValue_108 (fun r z9 H locs hp V1 => ?_)
  obtain ⟨rfl, he9⟩ := hp
  rw [he9] at V1
  have V := V1
  rw [show (decide (I 1 v = 5) || decide (I 1 v = 6)) = false by rw [h1v]; decide]
  refine W.eq (g2 := F0 m 111 ls [.int (gh_bi false)]) rfl ?_
  refine lv_if_ne (tgt := 115) hx hb d_Mo_writeValue_111 (by decide) (fun c8 => absurd (by decide) c8) (fun c8 => ?_)
  refine gh_retv hAe C V hr hlocks d_Mo_writeValue_114 (by first | decide | omega | (dsimp only; omega)) (by first | decide | omega | (dsimp only; omega)) ?_
  exact ⟨rfl, _, X, hq.eq (by unfold wr_v; simp [hk, h2v])⟩
set_option maxHeartbeats 4000000 in
set_option maxRecDepth 100000 in
theorem c_Mo_writeValue_2 (l : Launch) (E : gh_E) (sz : Nat) (f : gh_F) (a : Nat) (ad : Nat → Nat) (S : Nat → Int32) (I : Nat → Nat → Int32) (J : Nat → Nat → Int64) (b nv pb np v n : Nat) (O : vt) (hX : mo_R E f a ad S I J) (hO : mw I J b nv pb np v O) (hk : vt_k O = 2) (h55 : S 55 = nI n) : gh_M l y_Mo_writeValue b_Mo_writeValue 2 none E sz [.ref a, .int (nI v)] f { frames := 8, cells := 0, slots := 0, locals := 220 } (fun r g => r = none ∧ ∃ S2, mo_X E f g a ad S2 I J ∧ wQ n S (wr_v 1 O) S2) := by
  have h1v : I 1 v = 2 := by rw [(mv_o.mp hO.1).2.1, hk]; rfl
  have hv7 := hO.lt
  have h2v := (mv_o.mp hO.1).2.2.1
  have hq : wQ n S [] S := wQ.nil h55
  refine gh_open (by decide) (Nat.le_of_ble_eq_true rfl) ?_
  intro p e s m args below meth c A ls hAe C V hr hlocks hname hl
  have hx := C.1
  have hb := C.2.1
  have hl : lv_has ls 2 [(0, .ref a), (1, .int (nI v))] := hl
  have X : mo_X E f f a ad S I J := ⟨hX, gh_fr.rf⟩
  refine lv_aload_n hx hb d_Mo_writeValue_0 rfl (lv_at hl 0 rfl) ?_
  refine mo_getA C V X 1 (by decide) (by decide) f_Mo_7 rfl d_Mo_writeValue_1 ?_
  refine lv_iload_n hx hb d_Mo_writeValue_4 rfl (lv_at hl 1 rfl) ?_
  refine mo_ild (k := 1) (i := v) (n := 760) C V X (by decide) (by decide) rfl (by omega) (by decide) d_Mo_writeValue_5 ?_
  rw [show I 1 v = 2 from h1v]
  refine lv_if_ne (tgt := 21) hx hb d_Mo_writeValue_6 (by decide) (fun c1 => ?_) (fun c1 => absurd c1 (by decide))
  refine lv_aload_n hx hb d_Mo_writeValue_21 rfl (lv_at hl 0 rfl) ?_
  refine mo_getA C V X 1 (by decide) (by decide) f_Mo_7 rfl d_Mo_writeValue_22 ?_
  refine lv_iload_n hx hb d_Mo_writeValue_25 rfl (lv_at hl 1 rfl) ?_
  refine mo_ild (k := 1) (i := v) (n := 760) C V X (by decide) (by decide) rfl (by omega) (by decide) d_Mo_writeValue_26 ?_
  rw [show I 1 v = 2 from h1v]
  refine lv_iconst (v := 2) hx hb d_Mo_writeValue_27 (by decide) ?_
  refine lv_icmp_ne (tgt := 43) hx hb d_Mo_writeValue_28 (by decide) (fun c2 => absurd (by decide) c2) (fun c2 => ?_)
  refine lv_aload_n hx hb d_Mo_writeValue_31 rfl (lv_at hl 0 rfl) ?_
  refine lv_bipush (v := 116) hx hb d_Mo_writeValue_32 (by decide) ?_
  refine lv_bipush (v := 114) hx hb d_Mo_writeValue_34 (by decide) ?_
  refine lv_bipush (v := 117) hx hb d_Mo_writeValue_36 (by decide) ?_
  refine lv_bipush (v := 101) hx hb d_Mo_writeValue_38 (by decide) ?_
  refine gh_callV C V hl.1 m_Mo_writeWord l_Mo_393 (c_Mo_writeWord l E _ _ a ad _ _ _ 116 114 117 101 _ X.1 hq.at55) rfl X.1.1 gc_Mo ⟨by first | decide | omega | (dsimp only; omega), by first | decide | omega | (dsimp only; omega)⟩ ⟨by first | decide | omega | (dsimp only; omega), by first | decide | omega | (dsimp only; omega)⟩ (Nat.le_of_ble_eq_true rfl) rfl d_Mo_writeValue_40 (fun r z9 H locs hp V1 => ?_)
  obtain ⟨rfl, S3, X2, hq2⟩ := hp
  have hq := hq.tr hq2
  have X := X.then X2
  have V := V1
  refine W.eq (g2 := F0 m 43 ls []) rfl ?_
  refine lv_aload_n hx hb d_Mo_writeValue_43 rfl (lv_at hl 0 rfl) ?_
  refine mo_getA C V X 1 (by decide) (by decide) f_Mo_7 rfl d_Mo_writeValue_44 ?_
  refine lv_iload_n hx hb d_Mo_writeValue_47 rfl (lv_at hl 1 rfl) ?_
  refine mo_ild (k := 1) (i := v) (n := 760) C V X (by decide) (by decide) rfl (by omega) (by decide) d_Mo_writeValue_48 ?_
  rw [show I 1 v = 2 from h1v]
  refine lv_iconst (v := 1) hx hb d_Mo_writeValue_49 (by decide) ?_
  refine lv_icmp_ne (tgt := 71) hx hb d_Mo_writeValue_50 (by decide) (fun c4 => ?_) (fun c4 => absurd c4 (by decide))
  refine lv_aload_n hx hb d_Mo_writeValue_71 rfl (lv_at hl 0 rfl) ?_
  refine mo_getA C V X 1 (by decide) (by decide) f_Mo_7 rfl d_Mo_writeValue_72 ?_
  refine lv_iload_n hx hb d_Mo_writeValue_75 rfl (lv_at hl 1 rfl) ?_
  refine mo_ild (k := 1) (i := v) (n := 760) C V X (by decide) (by decide) rfl (by omega) (by decide) d_Mo_writeValue_76 ?_
  rw [show I 1 v = 2 from h1v]
  refine lv_iconst (v := 3) hx hb d_Mo_writeValue_77 (by decide) ?_
  refine lv_icmp_ne (tgt := 91) hx hb d_Mo_writeValue_78 (by decide) (fun c5 => ?_) (fun c5 => absurd c5 (by decide))
  refine lv_aload_n hx hb d_Mo_writeValue_91 rfl (lv_at hl 0 rfl) ?_
  refine mo_getA C V X 1 (by decide) (by decide) f_Mo_7 rfl d_Mo_writeValue_92 ?_
  refine lv_iload_n hx hb d_Mo_writeValue_95 rfl (lv_at hl 1 rfl) ?_
  refine mo_ild (k := 1) (i := v) (n := 760) C V X (by decide) (by decide) rfl (by omega) (by decide) d_Mo_writeValue_96 ?_
  rw [show I 1 v = 2 from h1v]
  refine lv_iconst (v := 4) hx hb d_Mo_writeValue_97 (by decide) ?_
  refine lv_icmp_ne (tgt := 106) hx hb d_Mo_writeValue_98 (by decide) (fun c6 => ?_) (fun c6 => absurd c6 (by decide))
  refine lv_aload_n hx hb d_Mo_writeValue_106 rfl (lv_at hl 0 rfl) ?_
  refine lv_iload_n hx hb d_Mo_writeValue_107 rfl (lv_at hl 1 rfl) ?_
  refine gh_callV C V hl.1 m_Mo_isMany l_Mo_169 (c_Mo_isMany l E _ _ a ad _ _ _ v X.1 hv7) rfl X.1.1 gc_Mo ⟨by first | decide | omega | (dsimp only; omega), by first | decide | omega | (dsimp only; omega)⟩ ⟨by first | decide | omega | (dsimp only; omega), by first | decide | omega | (dsimp only; omega)⟩ (Nat.le_of_ble_eq_true rfl) rfl d_Mo_writeValue_108 (fun r z9 H locs hp V1 => ?_)
  obtain ⟨rfl, he9⟩ := hp
  rw [he9] at V1
  have V := V1
  rw [show (decide (I 1 v = 5) || decide (I 1 v = 6)) = false by rw [h1v]; decide]
  refine W.eq (g2 := F0 m 111 ls [.int (gh_bi false)]) rfl ?_
  refine lv_if_ne (tgt := 115) hx hb d_Mo_writeValue_111 (by decide) (fun c7 => absurd (by decide) c7) (fun c7 => ?_)
  refine gh_retv hAe C V hr hlocks d_Mo_writeValue_114 (by first | decide | omega | (dsimp only; omega)) (by first | decide | omega | (dsimp only; omega)) ?_
  exact ⟨rfl, _, X, hq.eq (by unfold wr_v; simp [hk, h2v])⟩
set_option maxHeartbeats 4000000 in
set_option maxRecDepth 100000 in
theorem c_Mo_writeValue_3 (l : Launch) (E : gh_E) (sz : Nat) (f : gh_F) (a : Nat) (ad : Nat → Nat) (S : Nat → Int32) (I : Nat → Nat → Int32) (J : Nat → Nat → Int64) (b nv pb np v n : Nat) (O : vt) (hX : mo_R E f a ad S I J) (hO : mw I J b nv pb np v O) (hk : vt_k O = 3) (h55 : S 55 = nI n) : gh_M l y_Mo_writeValue b_Mo_writeValue 2 none E sz [.ref a, .int (nI v)] f { frames := 8, cells := 0, slots := 0, locals := 220 } (fun r g => r = none ∧ ∃ S2, mo_X E f g a ad S2 I J ∧ wQ n S (wr_v 1 O) S2) := by
  have h1v : I 1 v = 3 := by rw [(mv_o.mp hO.1).2.1, hk]; rfl
  have hv7 := hO.lt
  have h2v := (mv_o.mp hO.1).2.2.1
  have hq : wQ n S [] S := wQ.nil h55
  refine gh_open (by decide) (Nat.le_of_ble_eq_true rfl) ?_
  intro p e s m args below meth c A ls hAe C V hr hlocks hname hl
  have hx := C.1
  have hb := C.2.1
  have hl : lv_has ls 2 [(0, .ref a), (1, .int (nI v))] := hl
  have X : mo_X E f f a ad S I J := ⟨hX, gh_fr.rf⟩
  refine lv_aload_n hx hb d_Mo_writeValue_0 rfl (lv_at hl 0 rfl) ?_
  refine mo_getA C V X 1 (by decide) (by decide) f_Mo_7 rfl d_Mo_writeValue_1 ?_
  refine lv_iload_n hx hb d_Mo_writeValue_4 rfl (lv_at hl 1 rfl) ?_
  refine mo_ild (k := 1) (i := v) (n := 760) C V X (by decide) (by decide) rfl (by omega) (by decide) d_Mo_writeValue_5 ?_
  rw [show I 1 v = 3 from h1v]
  refine lv_if_ne (tgt := 21) hx hb d_Mo_writeValue_6 (by decide) (fun c1 => ?_) (fun c1 => absurd c1 (by decide))
  refine lv_aload_n hx hb d_Mo_writeValue_21 rfl (lv_at hl 0 rfl) ?_
  refine mo_getA C V X 1 (by decide) (by decide) f_Mo_7 rfl d_Mo_writeValue_22 ?_
  refine lv_iload_n hx hb d_Mo_writeValue_25 rfl (lv_at hl 1 rfl) ?_
  refine mo_ild (k := 1) (i := v) (n := 760) C V X (by decide) (by decide) rfl (by omega) (by decide) d_Mo_writeValue_26 ?_
  rw [show I 1 v = 3 from h1v]
  refine lv_iconst (v := 2) hx hb d_Mo_writeValue_27 (by decide) ?_
  refine lv_icmp_ne (tgt := 43) hx hb d_Mo_writeValue_28 (by decide) (fun c2 => ?_) (fun c2 => absurd c2 (by decide))
  refine lv_aload_n hx hb d_Mo_writeValue_43 rfl (lv_at hl 0 rfl) ?_
  refine mo_getA C V X 1 (by decide) (by decide) f_Mo_7 rfl d_Mo_writeValue_44 ?_
  refine lv_iload_n hx hb d_Mo_writeValue_47 rfl (lv_at hl 1 rfl) ?_
  refine mo_ild (k := 1) (i := v) (n := 760) C V X (by decide) (by decide) rfl (by omega) (by decide) d_Mo_writeValue_48 ?_
  rw [show I 1 v = 3 from h1v]
  refine lv_iconst (v := 1) hx hb d_Mo_writeValue_49 (by decide) ?_
  refine lv_icmp_ne (tgt := 71) hx hb d_Mo_writeValue_50 (by decide) (fun c3 => ?_) (fun c3 => absurd c3 (by decide))
  refine lv_aload_n hx hb d_Mo_writeValue_71 rfl (lv_at hl 0 rfl) ?_
  refine mo_getA C V X 1 (by decide) (by decide) f_Mo_7 rfl d_Mo_writeValue_72 ?_
  refine lv_iload_n hx hb d_Mo_writeValue_75 rfl (lv_at hl 1 rfl) ?_
  refine mo_ild (k := 1) (i := v) (n := 760) C V X (by decide) (by decide) rfl (by omega) (by decide) d_Mo_writeValue_76 ?_
  rw [show I 1 v = 3 from h1v]
  refine lv_iconst (v := 3) hx hb d_Mo_writeValue_77 (by decide) ?_
  refine lv_icmp_ne (tgt := 91) hx hb d_Mo_writeValue_78 (by decide) (fun c4 => absurd (by decide) c4) (fun c4 => ?_)
  refine lv_aload_n hx hb d_Mo_writeValue_81 rfl (lv_at hl 0 rfl) ?_
  refine lv_aload_n hx hb d_Mo_writeValue_82 rfl (lv_at hl 0 rfl) ?_
  refine mo_getA C V X 2 (by decide) (by decide) f_Mo_13 rfl d_Mo_writeValue_83 ?_
  refine lv_iload_n hx hb d_Mo_writeValue_86 rfl (lv_at hl 1 rfl) ?_
  refine mo_lld (k := 2) (i := v) (n := 760) C V X (by decide) (by decide) rfl (by omega) (by decide) d_Mo_writeValue_87 ?_
  refine gh_callV C V hl.1 m_Mo_writeInteger l_Mo_397 (c_Mo_writeInteger l E _ _ a ad _ _ _ (J 2 v) _ X.1 hq.at55) rfl X.1.1 gc_Mo ⟨by first | decide | omega | (dsimp only; omega), by first | decide | omega | (dsimp only; omega)⟩ ⟨by first | decide | omega | (dsimp only; omega), by first | decide | omega | (dsimp only; omega)⟩ (Nat.le_of_ble_eq_true rfl) rfl d_Mo_writeValue_88 (fun r z9 H locs hp V1 => ?_)
  obtain ⟨rfl, S5, X2, hq2⟩ := hp
  have hq := hq.tr hq2
  have X := X.then X2
  have V := V1
  refine W.eq (g2 := F0 m 91 ls []) rfl ?_
  refine lv_aload_n hx hb d_Mo_writeValue_91 rfl (lv_at hl 0 rfl) ?_
  refine mo_getA C V X 1 (by decide) (by decide) f_Mo_7 rfl d_Mo_writeValue_92 ?_
  refine lv_iload_n hx hb d_Mo_writeValue_95 rfl (lv_at hl 1 rfl) ?_
  refine mo_ild (k := 1) (i := v) (n := 760) C V X (by decide) (by decide) rfl (by omega) (by decide) d_Mo_writeValue_96 ?_
  rw [show I 1 v = 3 from h1v]
  refine lv_iconst (v := 4) hx hb d_Mo_writeValue_97 (by decide) ?_
  refine lv_icmp_ne (tgt := 106) hx hb d_Mo_writeValue_98 (by decide) (fun c6 => ?_) (fun c6 => absurd c6 (by decide))
  refine lv_aload_n hx hb d_Mo_writeValue_106 rfl (lv_at hl 0 rfl) ?_
  refine lv_iload_n hx hb d_Mo_writeValue_107 rfl (lv_at hl 1 rfl) ?_
  refine gh_callV C V hl.1 m_Mo_isMany l_Mo_169 (c_Mo_isMany l E _ _ a ad _ _ _ v X.1 hv7) rfl X.1.1 gc_Mo ⟨by first | decide | omega | (dsimp only; omega), by first | decide | omega | (dsimp only; omega)⟩ ⟨by first | decide | omega | (dsimp only; omega), by first | decide | omega | (dsimp only; omega)⟩ (Nat.le_of_ble_eq_true rfl) rfl d_Mo_writeValue_108 (fun r z9 H locs hp V1 => ?_)
  obtain ⟨rfl, he9⟩ := hp
  rw [he9] at V1
  have V := V1
  rw [show (decide (I 1 v = 5) || decide (I 1 v = 6)) = false by rw [h1v]; decide]
  refine W.eq (g2 := F0 m 111 ls [.int (gh_bi false)]) rfl ?_
  refine lv_if_ne (tgt := 115) hx hb d_Mo_writeValue_111 (by decide) (fun c7 => absurd (by decide) c7) (fun c7 => ?_)
  refine gh_retv hAe C V hr hlocks d_Mo_writeValue_114 (by first | decide | omega | (dsimp only; omega)) (by first | decide | omega | (dsimp only; omega)) ?_
  exact ⟨rfl, _, X, hq.eq (by unfold wr_v; simp [hk, h2v])⟩
set_option maxHeartbeats 4000000 in
set_option maxRecDepth 100000 in
theorem c_Mo_writeValue_4 (l : Launch) (E : gh_E) (sz : Nat) (f : gh_F) (a : Nat) (ad : Nat → Nat) (S : Nat → Int32) (I : Nat → Nat → Int32) (J : Nat → Nat → Int64) (b nv pb np v n : Nat) (O : vt) (hX : mo_R E f a ad S I J) (hO : mw I J b nv pb np v O) (hk : vt_k O = 4) (h55 : S 55 = nI n) : gh_M l y_Mo_writeValue b_Mo_writeValue 2 none E sz [.ref a, .int (nI v)] f { frames := 8, cells := 0, slots := 0, locals := 220 } (fun r g => r = none ∧ ∃ S2, mo_X E f g a ad S2 I J ∧ wQ n S (wr_v 1 O) S2) := by
  have h1v : I 1 v = 4 := by rw [(mv_o.mp hO.1).2.1, hk]; rfl
  have hv7 := hO.lt
  have h2v := (mv_o.mp hO.1).2.2.1
  have hq : wQ n S [] S := wQ.nil h55
  have h3v : I 3 v = nI (vt_l O).length := by rw [(mv_o.mp hO.1).2.2.2.1]; unfold vt_ln; rw [if_pos hk]
  have h4v := (mv_o.mp hO.1).2.2.2.2.1
  refine gh_open (by decide) (Nat.le_of_ble_eq_true rfl) ?_
  intro p e s m args below meth c A ls hAe C V hr hlocks hname hl
  have hx := C.1
  have hb := C.2.1
  have hl : lv_has ls 2 [(0, .ref a), (1, .int (nI v))] := hl
  have X : mo_X E f f a ad S I J := ⟨hX, gh_fr.rf⟩
  refine lv_aload_n hx hb d_Mo_writeValue_0 rfl (lv_at hl 0 rfl) ?_
  refine mo_getA C V X 1 (by decide) (by decide) f_Mo_7 rfl d_Mo_writeValue_1 ?_
  refine lv_iload_n hx hb d_Mo_writeValue_4 rfl (lv_at hl 1 rfl) ?_
  refine mo_ild (k := 1) (i := v) (n := 760) C V X (by decide) (by decide) rfl (by omega) (by decide) d_Mo_writeValue_5 ?_
  rw [show I 1 v = 4 from h1v]
  refine lv_if_ne (tgt := 21) hx hb d_Mo_writeValue_6 (by decide) (fun c1 => ?_) (fun c1 => absurd c1 (by decide))
  refine lv_aload_n hx hb d_Mo_writeValue_21 rfl (lv_at hl 0 rfl) ?_
  refine mo_getA C V X 1 (by decide) (by decide) f_Mo_7 rfl d_Mo_writeValue_22 ?_
  refine lv_iload_n hx hb d_Mo_writeValue_25 rfl (lv_at hl 1 rfl) ?_
  refine mo_ild (k := 1) (i := v) (n := 760) C V X (by decide) (by decide) rfl (by omega) (by decide) d_Mo_writeValue_26 ?_
  rw [show I 1 v = 4 from h1v]
  refine lv_iconst (v := 2) hx hb d_Mo_writeValue_27 (by decide) ?_
  refine lv_icmp_ne (tgt := 43) hx hb d_Mo_writeValue_28 (by decide) (fun c2 => ?_) (fun c2 => absurd c2 (by decide))
  refine lv_aload_n hx hb d_Mo_writeValue_43 rfl (lv_at hl 0 rfl) ?_
  refine mo_getA C V X 1 (by decide) (by decide) f_Mo_7 rfl d_Mo_writeValue_44 ?_
  refine lv_iload_n hx hb d_Mo_writeValue_47 rfl (lv_at hl 1 rfl) ?_
  refine mo_ild (k := 1) (i := v) (n := 760) C V X (by decide) (by decide) rfl (by omega) (by decide) d_Mo_writeValue_48 ?_
  rw [show I 1 v = 4 from h1v]
  refine lv_iconst (v := 1) hx hb d_Mo_writeValue_49 (by decide) ?_
  refine lv_icmp_ne (tgt := 71) hx hb d_Mo_writeValue_50 (by decide) (fun c3 => ?_) (fun c3 => absurd c3 (by decide))
  refine lv_aload_n hx hb d_Mo_writeValue_71 rfl (lv_at hl 0 rfl) ?_
  refine mo_getA C V X 1 (by decide) (by decide) f_Mo_7 rfl d_Mo_writeValue_72 ?_
  refine lv_iload_n hx hb d_Mo_writeValue_75 rfl (lv_at hl 1 rfl) ?_
  refine mo_ild (k := 1) (i := v) (n := 760) C V X (by decide) (by decide) rfl (by omega) (by decide) d_Mo_writeValue_76 ?_
  rw [show I 1 v = 4 from h1v]
  refine lv_iconst (v := 3) hx hb d_Mo_writeValue_77 (by decide) ?_
  refine lv_icmp_ne (tgt := 91) hx hb d_Mo_writeValue_78 (by decide) (fun c4 => ?_) (fun c4 => absurd c4 (by decide))
  refine lv_aload_n hx hb d_Mo_writeValue_91 rfl (lv_at hl 0 rfl) ?_
  refine mo_getA C V X 1 (by decide) (by decide) f_Mo_7 rfl d_Mo_writeValue_92 ?_
  refine lv_iload_n hx hb d_Mo_writeValue_95 rfl (lv_at hl 1 rfl) ?_
  refine mo_ild (k := 1) (i := v) (n := 760) C V X (by decide) (by decide) rfl (by omega) (by decide) d_Mo_writeValue_96 ?_
  rw [show I 1 v = 4 from h1v]
  refine lv_iconst (v := 4) hx hb d_Mo_writeValue_97 (by decide) ?_
  refine lv_icmp_ne (tgt := 106) hx hb d_Mo_writeValue_98 (by decide) (fun c5 => absurd (by decide) c5) (fun c5 => ?_)
  refine lv_aload_n hx hb d_Mo_writeValue_101 rfl (lv_at hl 0 rfl) ?_
  refine lv_iload_n hx hb d_Mo_writeValue_102 rfl (lv_at hl 1 rfl) ?_
  refine gh_callV C V hl.1 m_Mo_writeLetters l_Mo_401 (c_Mo_writeLetters l E _ _ a ad _ _ _ v _ (vt_l O) X.1 hv7 h3v h4v hq.at55) rfl X.1.1 gc_Mo ⟨by first | decide | omega | (dsimp only; omega), by first | decide | omega | (dsimp only; omega)⟩ ⟨by first | decide | omega | (dsimp only; omega), by first | decide | omega | (dsimp only; omega)⟩ (Nat.le_of_ble_eq_true rfl) rfl d_Mo_writeValue_103 (fun r z9 H locs hp V1 => ?_)
  obtain ⟨rfl, S6, X2, hq2⟩ := hp
  have hq := hq.tr hq2
  have X := X.then X2
  have V := V1
  refine W.eq (g2 := F0 m 106 ls []) rfl ?_
  refine lv_aload_n hx hb d_Mo_writeValue_106 rfl (lv_at hl 0 rfl) ?_
  refine lv_iload_n hx hb d_Mo_writeValue_107 rfl (lv_at hl 1 rfl) ?_
  refine gh_callV C V hl.1 m_Mo_isMany l_Mo_169 (c_Mo_isMany l E _ _ a ad _ _ _ v X.1 hv7) rfl X.1.1 gc_Mo ⟨by first | decide | omega | (dsimp only; omega), by first | decide | omega | (dsimp only; omega)⟩ ⟨by first | decide | omega | (dsimp only; omega), by first | decide | omega | (dsimp only; omega)⟩ (Nat.le_of_ble_eq_true rfl) rfl d_Mo_writeValue_108 (fun r z9 H locs hp V1 => ?_)
  obtain ⟨rfl, he9⟩ := hp
  rw [he9] at V1
  have V := V1
  rw [show (decide (I 1 v = 5) || decide (I 1 v = 6)) = false by rw [h1v]; decide]
  refine W.eq (g2 := F0 m 111 ls [.int (gh_bi false)]) rfl ?_
  refine lv_if_ne (tgt := 115) hx hb d_Mo_writeValue_111 (by decide) (fun c7 => absurd (by decide) c7) (fun c7 => ?_)
  refine gh_retv hAe C V hr hlocks d_Mo_writeValue_114 (by first | decide | omega | (dsimp only; omega)) (by first | decide | omega | (dsimp only; omega)) ?_
  exact ⟨rfl, _, X, hq.eq (by unfold wr_v; simp [hk, h2v])⟩
theorem c_Mo_writeValueS (l : Launch) (E : gh_E) (sz : Nat) (f : gh_F) (a : Nat) (ad : Nat → Nat) (S : Nat → Int32) (I : Nat → Nat → Int32) (J : Nat → Nat → Int64) (b nv pb np v n : Nat) (O : vt) (hX : mo_R E f a ad S I J) (hO : mw I J b nv pb np v O) (hk : vt_k O < 5) (h55 : S 55 = nI n) : gh_M l y_Mo_writeValue b_Mo_writeValue 2 none E sz [.ref a, .int (nI v)] f { frames := 8, cells := 0, slots := 0, locals := 220 } (fun r g => r = none ∧ ∃ S2, mo_X E f g a ad S2 I J ∧ wQ n S (wr_v 1 O) S2) := by
  rcases (show vt_k O = 0 ∨ vt_k O = 1 ∨ vt_k O = 2 ∨ vt_k O = 3 ∨ vt_k O = 4 by omega) with e | e | e | e | e
  · exact c_Mo_writeValue_0 l E sz f a ad S I J b nv pb np v n O hX hO e h55
  · exact c_Mo_writeValue_1 l E sz f a ad S I J b nv pb np v n O hX hO e h55
  · exact c_Mo_writeValue_2 l E sz f a ad S I J b nv pb np v n O hX hO e h55
  · exact c_Mo_writeValue_3 l E sz f a ad S I J b nv pb np v n O hX hO e h55
  · exact c_Mo_writeValue_4 l E sz f a ad S I J b nv pb np v n O hX hO e h55
set_option maxHeartbeats 4000000 in
set_option maxRecDepth 100000 in
theorem c_Mo_writeValue_5 (l : Launch) (E : gh_E) (sz : Nat) (f : gh_F) (a : Nat) (ad : Nat → Nat) (S : Nat → Int32) (I : Nat → Nat → Int32) (J : Nat → Nat → Int64) (b nv pb np v n lv : Nat) (O : vt) (hX : mo_R E f a ad S I J) (hO : mw I J b nv pb np v O) (hk : vt_k O = 5) (h55 : S 55 = nI n) (h54 : S 54 = nI lv) (hlv : lv < 10) : gh_M l y_Mo_writeValue b_Mo_writeValue 2 none E sz [.ref a, .int (nI v)] f { frames := 8, cells := 0, slots := 0, locals := 220 } (fun r g => r = none ∧ ∃ S2 I2, mo_X E f g a ad (va_up S2 54 (nI (lv + 1))) I2 J ∧ wQ n S [wr_op O] S2 ∧ I2 52 = upd (I 52) lv (nI v) ∧ I2 53 = upd (I 53) lv 0 ∧ ∀ q, q ≠ 52 → q ≠ 53 → I2 q = I q) := by
  have h1v : I 1 v = 5 := by rw [(mv_o.mp hO.1).2.1, hk]; rfl
  have hv7 := hO.lt
  have h2v := (mv_o.mp hO.1).2.2.1
  have hq : wQ n S [] S := wQ.nil h55
  refine gh_open (by decide) (Nat.le_of_ble_eq_true rfl) ?_
  intro p e s m args below meth c A ls hAe C V hr hlocks hname hl
  have hx := C.1
  have hb := C.2.1
  have hl : lv_has ls 2 [(0, .ref a), (1, .int (nI v))] := hl
  have X : mo_X E f f a ad S I J := ⟨hX, gh_fr.rf⟩
  refine lv_aload_n hx hb d_Mo_writeValue_0 rfl (lv_at hl 0 rfl) ?_
  refine mo_getA C V X 1 (by decide) (by decide) f_Mo_7 rfl d_Mo_writeValue_1 ?_
  refine lv_iload_n hx hb d_Mo_writeValue_4 rfl (lv_at hl 1 rfl) ?_
  refine mo_ild (k := 1) (i := v) (n := 760) C V X (by decide) (by decide) rfl (by omega) (by decide) d_Mo_writeValue_5 ?_
  rw [show I 1 v = 5 from h1v]
  refine lv_if_ne (tgt := 21) hx hb d_Mo_writeValue_6 (by decide) (fun c1 => ?_) (fun c1 => absurd c1 (by decide))
  refine lv_aload_n hx hb d_Mo_writeValue_21 rfl (lv_at hl 0 rfl) ?_
  refine mo_getA C V X 1 (by decide) (by decide) f_Mo_7 rfl d_Mo_writeValue_22 ?_
  refine lv_iload_n hx hb d_Mo_writeValue_25 rfl (lv_at hl 1 rfl) ?_
  refine mo_ild (k := 1) (i := v) (n := 760) C V X (by decide) (by decide) rfl (by omega) (by decide) d_Mo_writeValue_26 ?_
  rw [show I 1 v = 5 from h1v]
  refine lv_iconst (v := 2) hx hb d_Mo_writeValue_27 (by decide) ?_
  refine lv_icmp_ne (tgt := 43) hx hb d_Mo_writeValue_28 (by decide) (fun c2 => ?_) (fun c2 => absurd c2 (by decide))
  refine lv_aload_n hx hb d_Mo_writeValue_43 rfl (lv_at hl 0 rfl) ?_
  refine mo_getA C V X 1 (by decide) (by decide) f_Mo_7 rfl d_Mo_writeValue_44 ?_
  refine lv_iload_n hx hb d_Mo_writeValue_47 rfl (lv_at hl 1 rfl) ?_
  refine mo_ild (k := 1) (i := v) (n := 760) C V X (by decide) (by decide) rfl (by omega) (by decide) d_Mo_writeValue_48 ?_
  rw [show I 1 v = 5 from h1v]
  refine lv_iconst (v := 1) hx hb d_Mo_writeValue_49 (by decide) ?_
  refine lv_icmp_ne (tgt := 71) hx hb d_Mo_writeValue_50 (by decide) (fun c3 => ?_) (fun c3 => absurd c3 (by decide))
  refine lv_aload_n hx hb d_Mo_writeValue_71 rfl (lv_at hl 0 rfl) ?_
  refine mo_getA C V X 1 (by decide) (by decide) f_Mo_7 rfl d_Mo_writeValue_72 ?_
  refine lv_iload_n hx hb d_Mo_writeValue_75 rfl (lv_at hl 1 rfl) ?_
  refine mo_ild (k := 1) (i := v) (n := 760) C V X (by decide) (by decide) rfl (by omega) (by decide) d_Mo_writeValue_76 ?_
  rw [show I 1 v = 5 from h1v]
  refine lv_iconst (v := 3) hx hb d_Mo_writeValue_77 (by decide) ?_
  refine lv_icmp_ne (tgt := 91) hx hb d_Mo_writeValue_78 (by decide) (fun c4 => ?_) (fun c4 => absurd c4 (by decide))
  refine lv_aload_n hx hb d_Mo_writeValue_91 rfl (lv_at hl 0 rfl) ?_
  refine mo_getA C V X 1 (by decide) (by decide) f_Mo_7 rfl d_Mo_writeValue_92 ?_
  refine lv_iload_n hx hb d_Mo_writeValue_95 rfl (lv_at hl 1 rfl) ?_
  refine mo_ild (k := 1) (i := v) (n := 760) C V X (by decide) (by decide) rfl (by omega) (by decide) d_Mo_writeValue_96 ?_
  rw [show I 1 v = 5 from h1v]
  refine lv_iconst (v := 4) hx hb d_Mo_writeValue_97 (by decide) ?_
  refine lv_icmp_ne (tgt := 106) hx hb d_Mo_writeValue_98 (by decide) (fun c5 => ?_) (fun c5 => absurd c5 (by decide))
  refine lv_aload_n hx hb d_Mo_writeValue_106 rfl (lv_at hl 0 rfl) ?_
  refine lv_iload_n hx hb d_Mo_writeValue_107 rfl (lv_at hl 1 rfl) ?_
  refine gh_callV C V hl.1 m_Mo_isMany l_Mo_169 (c_Mo_isMany l E _ _ a ad _ _ _ v X.1 hv7) rfl X.1.1 gc_Mo ⟨by first | decide | omega | (dsimp only; omega), by first | decide | omega | (dsimp only; omega)⟩ ⟨by first | decide | omega | (dsimp only; omega), by first | decide | omega | (dsimp only; omega)⟩ (Nat.le_of_ble_eq_true rfl) rfl d_Mo_writeValue_108 (fun r z9 H locs hp V1 => ?_)
  obtain ⟨rfl, he9⟩ := hp
  rw [he9] at V1
  have V := V1
  rw [show (decide (I 1 v = 5) || decide (I 1 v = 6)) = true by rw [h1v]; decide]
  refine W.eq (g2 := F0 m 111 ls [.int (gh_bi true)]) rfl ?_
  refine lv_if_ne (tgt := 115) hx hb d_Mo_writeValue_111 (by decide) (fun c6 => ?_) (fun c6 => absurd c6 (by decide))
  refine lv_aload_n hx hb d_Mo_writeValue_115 rfl (lv_at hl 0 rfl) ?_
  refine lv_aload_n hx hb d_Mo_writeValue_116 rfl (lv_at hl 0 rfl) ?_
  refine mo_getA C V X 1 (by decide) (by decide) f_Mo_7 rfl d_Mo_writeValue_117 ?_
  refine lv_iload_n hx hb d_Mo_writeValue_120 rfl (lv_at hl 1 rfl) ?_
  refine mo_ild (k := 1) (i := v) (n := 760) C V X (by decide) (by decide) rfl (by omega) (by decide) d_Mo_writeValue_121 ?_
  rw [show I 1 v = 5 from h1v]
  refine lv_bipush (v := 6) hx hb d_Mo_writeValue_122 (by decide) ?_
  refine lv_icmp_ne (tgt := 132) hx hb d_Mo_writeValue_124 (by decide) (fun c7 => ?_) (fun c7 => absurd c7 (by decide))
  refine lv_bipush (v := 91) hx hb d_Mo_writeValue_132 (by decide) ?_
  refine gh_callV C V hl.1 m_Mo_write l_Mo_388 (c_Mo_wr l E _ _ a ad _ _ _ 91 _ X.1 hq.at55) rfl X.1.1 gc_Mo ⟨by first | decide | omega | (dsimp only; omega), by first | decide | omega | (dsimp only; omega)⟩ ⟨by first | decide | omega | (dsimp only; omega), by first | decide | omega | (dsimp only; omega)⟩ (Nat.le_of_ble_eq_true rfl) rfl d_Mo_writeValue_134 (fun r z9 H locs hp V1 => ?_)
  obtain ⟨rfl, S8, X2, hq2⟩ := hp
  have hq := hq.tr hq2
  have X := X.then X2
  have V := V1
  refine W.eq (g2 := F0 m 137 ls []) rfl ?_
  have hS54 : S8 54 = nI lv := (hq.2.2 54 (by decide) (by decide)).trans h54
  refine lv_aload_n hx hb d_Mo_writeValue_137 rfl (lv_at hl 0 rfl) ?_
  refine mo_getA C V X 52 (by decide) (by decide) f_Mo_124 rfl d_Mo_writeValue_138 ?_
  refine lv_aload_n hx hb d_Mo_writeValue_141 rfl (lv_at hl 0 rfl) ?_
  refine mo_getS (v := nI lv) C V X 54 (by decide) (by decide) (by first | rfl | exact hS54) f_Mo_404 rfl d_Mo_writeValue_142 ?_
  refine lv_iload_n hx hb d_Mo_writeValue_145 rfl (lv_at hl 1 rfl) ?_
  refine mo_ist (k := 52) (i := lv) (n := 10) C V X (by decide) (by decide) rfl (by omega) (by decide) d_Mo_writeValue_146 (fun f1 H locs V1 X1 => ?_)
  clear V X
  have V := V1
  have X := X1
  clear V1 X1
  refine lv_aload_n hx hb d_Mo_writeValue_147 rfl (lv_at hl 0 rfl) ?_
  refine mo_getA C V X 53 (by decide) (by decide) f_Mo_127 rfl d_Mo_writeValue_148 ?_
  refine lv_aload_n hx hb d_Mo_writeValue_151 rfl (lv_at hl 0 rfl) ?_
  refine mo_getS (v := nI lv) C V X 54 (by decide) (by decide) (by first | rfl | exact hS54) f_Mo_404 rfl d_Mo_writeValue_152 ?_
  refine lv_iconst (v := 0) hx hb d_Mo_writeValue_155 (by decide) ?_
  refine mo_ist (k := 53) (i := lv) (n := 10) C V X (by decide) (by decide) rfl (by omega) (by decide) d_Mo_writeValue_156 (fun f1 H locs V1 X1 => ?_)
  clear V X
  have V := V1
  have X := X1
  clear V1 X1
  refine lv_aload_n hx hb d_Mo_writeValue_157 rfl (lv_at hl 0 rfl) ?_
  refine lv_dup hx hb d_Mo_writeValue_158 rfl ?_
  refine mo_getS (v := nI lv) C V X 54 (by decide) (by decide) (by first | rfl | exact hS54) f_Mo_404 rfl d_Mo_writeValue_159 ?_
  refine lv_iconst (v := 1) hx hb d_Mo_writeValue_162 (by decide) ?_
  refine gn_iadd (a := lv) (b := 1) hx hb d_Mo_writeValue_163 ?_
  refine mo_putS C V X 54 (by decide) (by decide) f_Mo_404 rfl rfl rfl d_Mo_writeValue_164 (fun f1 H locs V1 X1 => ?_)
  clear V X
  have V := V1
  have X := X1
  clear V1 X1
  refine gh_retv hAe C V hr hlocks d_Mo_writeValue_167 (by first | decide | omega | (dsimp only; omega)) (by first | decide | omega | (dsimp only; omega)) ?_
  refine ⟨rfl, _, _, X, hq.eq ?_, ?_⟩
  · unfold wr_op; rw [if_neg (by omega)]; rfl
  · exact ⟨by rw [va_up_n (by decide), va_up_s], by rw [va_up_s, va_up_n (by decide)], fun q q1 q2 => by rw [va_up_n q2, va_up_n q1]⟩
set_option maxHeartbeats 4000000 in
set_option maxRecDepth 100000 in
theorem c_Mo_writeValue_6 (l : Launch) (E : gh_E) (sz : Nat) (f : gh_F) (a : Nat) (ad : Nat → Nat) (S : Nat → Int32) (I : Nat → Nat → Int32) (J : Nat → Nat → Int64) (b nv pb np v n lv : Nat) (O : vt) (hX : mo_R E f a ad S I J) (hO : mw I J b nv pb np v O) (hk : vt_k O = 6) (h55 : S 55 = nI n) (h54 : S 54 = nI lv) (hlv : lv < 10) : gh_M l y_Mo_writeValue b_Mo_writeValue 2 none E sz [.ref a, .int (nI v)] f { frames := 8, cells := 0, slots := 0, locals := 220 } (fun r g => r = none ∧ ∃ S2 I2, mo_X E f g a ad (va_up S2 54 (nI (lv + 1))) I2 J ∧ wQ n S [wr_op O] S2 ∧ I2 52 = upd (I 52) lv (nI v) ∧ I2 53 = upd (I 53) lv 0 ∧ ∀ q, q ≠ 52 → q ≠ 53 → I2 q = I q) := by
  have h1v : I 1 v = 6 := by rw [(mv_o.mp hO.1).2.1, hk]; rfl
  have hv7 := hO.lt
  have h2v := (mv_o.mp hO.1).2.2.1
  have hq : wQ n S [] S := wQ.nil h55
  refine gh_open (by decide) (Nat.le_of_ble_eq_true rfl) ?_
  intro p e s m args below meth c A ls hAe C V hr hlocks hname hl
  have hx := C.1
  have hb := C.2.1
  have hl : lv_has ls 2 [(0, .ref a), (1, .int (nI v))] := hl
  have X : mo_X E f f a ad S I J := ⟨hX, gh_fr.rf⟩
  refine lv_aload_n hx hb d_Mo_writeValue_0 rfl (lv_at hl 0 rfl) ?_
  refine mo_getA C V X 1 (by decide) (by decide) f_Mo_7 rfl d_Mo_writeValue_1 ?_
  refine lv_iload_n hx hb d_Mo_writeValue_4 rfl (lv_at hl 1 rfl) ?_
  refine mo_ild (k := 1) (i := v) (n := 760) C V X (by decide) (by decide) rfl (by omega) (by decide) d_Mo_writeValue_5 ?_
  rw [show I 1 v = 6 from h1v]
  refine lv_if_ne (tgt := 21) hx hb d_Mo_writeValue_6 (by decide) (fun c1 => ?_) (fun c1 => absurd c1 (by decide))
  refine lv_aload_n hx hb d_Mo_writeValue_21 rfl (lv_at hl 0 rfl) ?_
  refine mo_getA C V X 1 (by decide) (by decide) f_Mo_7 rfl d_Mo_writeValue_22 ?_
  refine lv_iload_n hx hb d_Mo_writeValue_25 rfl (lv_at hl 1 rfl) ?_
  refine mo_ild (k := 1) (i := v) (n := 760) C V X (by decide) (by decide) rfl (by omega) (by decide) d_Mo_writeValue_26 ?_
  rw [show I 1 v = 6 from h1v]
  refine lv_iconst (v := 2) hx hb d_Mo_writeValue_27 (by decide) ?_
  refine lv_icmp_ne (tgt := 43) hx hb d_Mo_writeValue_28 (by decide) (fun c2 => ?_) (fun c2 => absurd c2 (by decide))
  refine lv_aload_n hx hb d_Mo_writeValue_43 rfl (lv_at hl 0 rfl) ?_
  refine mo_getA C V X 1 (by decide) (by decide) f_Mo_7 rfl d_Mo_writeValue_44 ?_
  refine lv_iload_n hx hb d_Mo_writeValue_47 rfl (lv_at hl 1 rfl) ?_
  refine mo_ild (k := 1) (i := v) (n := 760) C V X (by decide) (by decide) rfl (by omega) (by decide) d_Mo_writeValue_48 ?_
  rw [show I 1 v = 6 from h1v]
  refine lv_iconst (v := 1) hx hb d_Mo_writeValue_49 (by decide) ?_
  refine lv_icmp_ne (tgt := 71) hx hb d_Mo_writeValue_50 (by decide) (fun c3 => ?_) (fun c3 => absurd c3 (by decide))
  refine lv_aload_n hx hb d_Mo_writeValue_71 rfl (lv_at hl 0 rfl) ?_
  refine mo_getA C V X 1 (by decide) (by decide) f_Mo_7 rfl d_Mo_writeValue_72 ?_
  refine lv_iload_n hx hb d_Mo_writeValue_75 rfl (lv_at hl 1 rfl) ?_
  refine mo_ild (k := 1) (i := v) (n := 760) C V X (by decide) (by decide) rfl (by omega) (by decide) d_Mo_writeValue_76 ?_
  rw [show I 1 v = 6 from h1v]
  refine lv_iconst (v := 3) hx hb d_Mo_writeValue_77 (by decide) ?_
  refine lv_icmp_ne (tgt := 91) hx hb d_Mo_writeValue_78 (by decide) (fun c4 => ?_) (fun c4 => absurd c4 (by decide))
  refine lv_aload_n hx hb d_Mo_writeValue_91 rfl (lv_at hl 0 rfl) ?_
  refine mo_getA C V X 1 (by decide) (by decide) f_Mo_7 rfl d_Mo_writeValue_92 ?_
  refine lv_iload_n hx hb d_Mo_writeValue_95 rfl (lv_at hl 1 rfl) ?_
  refine mo_ild (k := 1) (i := v) (n := 760) C V X (by decide) (by decide) rfl (by omega) (by decide) d_Mo_writeValue_96 ?_
  rw [show I 1 v = 6 from h1v]
  refine lv_iconst (v := 4) hx hb d_Mo_writeValue_97 (by decide) ?_
  refine lv_icmp_ne (tgt := 106) hx hb d_Mo_writeValue_98 (by decide) (fun c5 => ?_) (fun c5 => absurd c5 (by decide))
  refine lv_aload_n hx hb d_Mo_writeValue_106 rfl (lv_at hl 0 rfl) ?_
  refine lv_iload_n hx hb d_Mo_writeValue_107 rfl (lv_at hl 1 rfl) ?_
  refine gh_callV C V hl.1 m_Mo_isMany l_Mo_169 (c_Mo_isMany l E _ _ a ad _ _ _ v X.1 hv7) rfl X.1.1 gc_Mo ⟨by first | decide | omega | (dsimp only; omega), by first | decide | omega | (dsimp only; omega)⟩ ⟨by first | decide | omega | (dsimp only; omega), by first | decide | omega | (dsimp only; omega)⟩ (Nat.le_of_ble_eq_true rfl) rfl d_Mo_writeValue_108 (fun r z9 H locs hp V1 => ?_)
  obtain ⟨rfl, he9⟩ := hp
  rw [he9] at V1
  have V := V1
  rw [show (decide (I 1 v = 5) || decide (I 1 v = 6)) = true by rw [h1v]; decide]
  refine W.eq (g2 := F0 m 111 ls [.int (gh_bi true)]) rfl ?_
  refine lv_if_ne (tgt := 115) hx hb d_Mo_writeValue_111 (by decide) (fun c6 => ?_) (fun c6 => absurd c6 (by decide))
  refine lv_aload_n hx hb d_Mo_writeValue_115 rfl (lv_at hl 0 rfl) ?_
  refine lv_aload_n hx hb d_Mo_writeValue_116 rfl (lv_at hl 0 rfl) ?_
  refine mo_getA C V X 1 (by decide) (by decide) f_Mo_7 rfl d_Mo_writeValue_117 ?_
  refine lv_iload_n hx hb d_Mo_writeValue_120 rfl (lv_at hl 1 rfl) ?_
  refine mo_ild (k := 1) (i := v) (n := 760) C V X (by decide) (by decide) rfl (by omega) (by decide) d_Mo_writeValue_121 ?_
  rw [show I 1 v = 6 from h1v]
  refine lv_bipush (v := 6) hx hb d_Mo_writeValue_122 (by decide) ?_
  refine lv_icmp_ne (tgt := 132) hx hb d_Mo_writeValue_124 (by decide) (fun c7 => absurd (by decide) c7) (fun c7 => ?_)
  refine lv_bipush (v := 123) hx hb d_Mo_writeValue_127 (by decide) ?_
  refine lv_goto (tgt := 134) hx hb d_Mo_writeValue_129 (by decide) ?_
  refine gh_callV C V hl.1 m_Mo_write l_Mo_388 (c_Mo_wr l E _ _ a ad _ _ _ 123 _ X.1 hq.at55) rfl X.1.1 gc_Mo ⟨by first | decide | omega | (dsimp only; omega), by first | decide | omega | (dsimp only; omega)⟩ ⟨by first | decide | omega | (dsimp only; omega), by first | decide | omega | (dsimp only; omega)⟩ (Nat.le_of_ble_eq_true rfl) rfl d_Mo_writeValue_134 (fun r z9 H locs hp V1 => ?_)
  obtain ⟨rfl, S8, X2, hq2⟩ := hp
  have hq := hq.tr hq2
  have X := X.then X2
  have V := V1
  refine W.eq (g2 := F0 m 137 ls []) rfl ?_
  have hS54 : S8 54 = nI lv := (hq.2.2 54 (by decide) (by decide)).trans h54
  refine lv_aload_n hx hb d_Mo_writeValue_137 rfl (lv_at hl 0 rfl) ?_
  refine mo_getA C V X 52 (by decide) (by decide) f_Mo_124 rfl d_Mo_writeValue_138 ?_
  refine lv_aload_n hx hb d_Mo_writeValue_141 rfl (lv_at hl 0 rfl) ?_
  refine mo_getS (v := nI lv) C V X 54 (by decide) (by decide) (by first | rfl | exact hS54) f_Mo_404 rfl d_Mo_writeValue_142 ?_
  refine lv_iload_n hx hb d_Mo_writeValue_145 rfl (lv_at hl 1 rfl) ?_
  refine mo_ist (k := 52) (i := lv) (n := 10) C V X (by decide) (by decide) rfl (by omega) (by decide) d_Mo_writeValue_146 (fun f1 H locs V1 X1 => ?_)
  clear V X
  have V := V1
  have X := X1
  clear V1 X1
  refine lv_aload_n hx hb d_Mo_writeValue_147 rfl (lv_at hl 0 rfl) ?_
  refine mo_getA C V X 53 (by decide) (by decide) f_Mo_127 rfl d_Mo_writeValue_148 ?_
  refine lv_aload_n hx hb d_Mo_writeValue_151 rfl (lv_at hl 0 rfl) ?_
  refine mo_getS (v := nI lv) C V X 54 (by decide) (by decide) (by first | rfl | exact hS54) f_Mo_404 rfl d_Mo_writeValue_152 ?_
  refine lv_iconst (v := 0) hx hb d_Mo_writeValue_155 (by decide) ?_
  refine mo_ist (k := 53) (i := lv) (n := 10) C V X (by decide) (by decide) rfl (by omega) (by decide) d_Mo_writeValue_156 (fun f1 H locs V1 X1 => ?_)
  clear V X
  have V := V1
  have X := X1
  clear V1 X1
  refine lv_aload_n hx hb d_Mo_writeValue_157 rfl (lv_at hl 0 rfl) ?_
  refine lv_dup hx hb d_Mo_writeValue_158 rfl ?_
  refine mo_getS (v := nI lv) C V X 54 (by decide) (by decide) (by first | rfl | exact hS54) f_Mo_404 rfl d_Mo_writeValue_159 ?_
  refine lv_iconst (v := 1) hx hb d_Mo_writeValue_162 (by decide) ?_
  refine gn_iadd (a := lv) (b := 1) hx hb d_Mo_writeValue_163 ?_
  refine mo_putS C V X 54 (by decide) (by decide) f_Mo_404 rfl rfl rfl d_Mo_writeValue_164 (fun f1 H locs V1 X1 => ?_)
  clear V X
  have V := V1
  have X := X1
  clear V1 X1
  refine gh_retv hAe C V hr hlocks d_Mo_writeValue_167 (by first | decide | omega | (dsimp only; omega)) (by first | decide | omega | (dsimp only; omega)) ?_
  refine ⟨rfl, _, _, X, hq.eq ?_, ?_⟩
  · unfold wr_op; rw [if_pos hk]; rfl
  · exact ⟨by rw [va_up_n (by decide), va_up_s], by rw [va_up_s, va_up_n (by decide)], fun q q1 q2 => by rw [va_up_n q2, va_up_n q1]⟩
theorem c_Mo_writeValueM (l : Launch) (E : gh_E) (sz : Nat) (f : gh_F) (a : Nat) (ad : Nat → Nat) (S : Nat → Int32) (I : Nat → Nat → Int32) (J : Nat → Nat → Int64) (b nv pb np v n lv : Nat) (O : vt) (hX : mo_R E f a ad S I J) (hO : mw I J b nv pb np v O) (hk : 5 ≤ vt_k O) (h55 : S 55 = nI n) (h54 : S 54 = nI lv) (hlv : lv < 10) : gh_M l y_Mo_writeValue b_Mo_writeValue 2 none E sz [.ref a, .int (nI v)] f { frames := 8, cells := 0, slots := 0, locals := 220 } (fun r g => r = none ∧ ∃ S2 I2, mo_X E f g a ad (va_up S2 54 (nI (lv + 1))) I2 J ∧ wQ n S [wr_op O] S2 ∧ I2 52 = upd (I 52) lv (nI v) ∧ I2 53 = upd (I 53) lv 0 ∧ ∀ q, q ≠ 52 → q ≠ 53 → I2 q = I q) := by
  have h6 := (vo_o.mp hO.2).1
  rcases (show vt_k O = 5 ∨ vt_k O = 6 by omega) with e | e
  · exact c_Mo_writeValue_5 l E sz f a ad S I J b nv pb np v n lv O hX hO e h55 h54 hlv
  · exact c_Mo_writeValue_6 l E sz f a ad S I J b nv pb np v n lv O hX hO e h55 h54 hlv
theorem d_Mo_writeAll_0 : decode b_Mo_writeAll 0 = .ok (.aload_n 0, 1) := by decide +kernel
theorem d_Mo_writeAll_1 : decode b_Mo_writeAll 1 = .ok (.iconst 0, 1) := by decide +kernel
theorem d_Mo_writeAll_2 : decode b_Mo_writeAll 2 = .ok (.putfield 379, 3) := by decide +kernel
theorem d_Mo_writeAll_5 : decode b_Mo_writeAll 5 = .ok (.aload_n 0, 1) := by decide +kernel
theorem d_Mo_writeAll_6 : decode b_Mo_writeAll 6 = .ok (.iload_n 2, 1) := by decide +kernel
theorem d_Mo_writeAll_7 : decode b_Mo_writeAll 7 = .ok (.putfield 382, 3) := by decide +kernel
theorem d_Mo_writeAll_10 : decode b_Mo_writeAll 10 = .ok (.aload_n 0, 1) := by decide +kernel
theorem d_Mo_writeAll_11 : decode b_Mo_writeAll 11 = .ok (.iconst 0, 1) := by decide +kernel
theorem d_Mo_writeAll_12 : decode b_Mo_writeAll 12 = .ok (.putfield 404, 3) := by decide +kernel
theorem d_Mo_writeAll_15 : decode b_Mo_writeAll 15 = .ok (.aload_n 0, 1) := by decide +kernel
theorem d_Mo_writeAll_16 : decode b_Mo_writeAll 16 = .ok (.iload_n 1, 1) := by decide +kernel
theorem d_Mo_writeAll_17 : decode b_Mo_writeAll 17 = .ok (.invokevirtual 407, 3) := by decide +kernel
theorem d_Mo_writeAll_20 : decode b_Mo_writeAll 20 = .ok (.aload_n 0, 1) := by decide +kernel
theorem d_Mo_writeAll_21 : decode b_Mo_writeAll 21 = .ok (.getfield 404, 3) := by decide +kernel
theorem d_Mo_writeAll_24 : decode b_Mo_writeAll 24 = .ok (.ifCond .le 142, 3) := by decide +kernel
theorem d_Mo_writeAll_27 : decode b_Mo_writeAll 27 = .ok (.aload_n 0, 1) := by decide +kernel
theorem d_Mo_writeAll_28 : decode b_Mo_writeAll 28 = .ok (.getfield 124, 3) := by decide +kernel
theorem d_Mo_writeAll_31 : decode b_Mo_writeAll 31 = .ok (.aload_n 0, 1) := by decide +kernel
theorem d_Mo_writeAll_32 : decode b_Mo_writeAll 32 = .ok (.getfield 404, 3) := by decide +kernel
theorem d_Mo_writeAll_35 : decode b_Mo_writeAll 35 = .ok (.iconst 1, 1) := by decide +kernel
theorem d_Mo_writeAll_36 : decode b_Mo_writeAll 36 = .ok (.isub, 1) := by decide +kernel
theorem d_Mo_writeAll_37 : decode b_Mo_writeAll 37 = .ok (.iaload, 1) := by decide +kernel
theorem d_Mo_writeAll_38 : decode b_Mo_writeAll 38 = .ok (.istore_n 3, 1) := by decide +kernel
theorem d_Mo_writeAll_39 : decode b_Mo_writeAll 39 = .ok (.aload_n 0, 1) := by decide +kernel
theorem d_Mo_writeAll_40 : decode b_Mo_writeAll 40 = .ok (.getfield 127, 3) := by decide +kernel
theorem d_Mo_writeAll_43 : decode b_Mo_writeAll 43 = .ok (.aload_n 0, 1) := by decide +kernel
theorem d_Mo_writeAll_44 : decode b_Mo_writeAll 44 = .ok (.getfield 404, 3) := by decide +kernel
theorem d_Mo_writeAll_47 : decode b_Mo_writeAll 47 = .ok (.iconst 1, 1) := by decide +kernel
theorem d_Mo_writeAll_48 : decode b_Mo_writeAll 48 = .ok (.isub, 1) := by decide +kernel
theorem d_Mo_writeAll_49 : decode b_Mo_writeAll 49 = .ok (.iaload, 1) := by decide +kernel
theorem d_Mo_writeAll_50 : decode b_Mo_writeAll 50 = .ok (.istore 4, 2) := by decide +kernel
theorem d_Mo_writeAll_52 : decode b_Mo_writeAll 52 = .ok (.aload_n 0, 1) := by decide +kernel
theorem d_Mo_writeAll_53 : decode b_Mo_writeAll 53 = .ok (.getfield 127, 3) := by decide +kernel
theorem d_Mo_writeAll_56 : decode b_Mo_writeAll 56 = .ok (.aload_n 0, 1) := by decide +kernel
theorem d_Mo_writeAll_57 : decode b_Mo_writeAll 57 = .ok (.getfield 404, 3) := by decide +kernel
theorem d_Mo_writeAll_60 : decode b_Mo_writeAll 60 = .ok (.iconst 1, 1) := by decide +kernel
theorem d_Mo_writeAll_61 : decode b_Mo_writeAll 61 = .ok (.isub, 1) := by decide +kernel
theorem d_Mo_writeAll_62 : decode b_Mo_writeAll 62 = .ok (.iload 4, 2) := by decide +kernel
theorem d_Mo_writeAll_64 : decode b_Mo_writeAll 64 = .ok (.iconst 1, 1) := by decide +kernel
theorem d_Mo_writeAll_65 : decode b_Mo_writeAll 65 = .ok (.iadd, 1) := by decide +kernel
theorem d_Mo_writeAll_66 : decode b_Mo_writeAll 66 = .ok (.iastore, 1) := by decide +kernel
theorem d_Mo_writeAll_67 : decode b_Mo_writeAll 67 = .ok (.iload 4, 2) := by decide +kernel
theorem d_Mo_writeAll_69 : decode b_Mo_writeAll 69 = .ok (.aload_n 0, 1) := by decide +kernel
theorem d_Mo_writeAll_70 : decode b_Mo_writeAll 70 = .ok (.getfield 17, 3) := by decide +kernel
theorem d_Mo_writeAll_73 : decode b_Mo_writeAll 73 = .ok (.iload_n 3, 1) := by decide +kernel
theorem d_Mo_writeAll_74 : decode b_Mo_writeAll 74 = .ok (.iaload, 1) := by decide +kernel
theorem d_Mo_writeAll_75 : decode b_Mo_writeAll 75 = .ok (.if_icmp .ne 38, 3) := by decide +kernel
theorem d_Mo_writeAll_78 : decode b_Mo_writeAll 78 = .ok (.aload_n 0, 1) := by decide +kernel
theorem d_Mo_writeAll_79 : decode b_Mo_writeAll 79 = .ok (.aload_n 0, 1) := by decide +kernel
theorem d_Mo_writeAll_80 : decode b_Mo_writeAll 80 = .ok (.getfield 7, 3) := by decide +kernel
theorem d_Mo_writeAll_83 : decode b_Mo_writeAll 83 = .ok (.iload_n 3, 1) := by decide +kernel
theorem d_Mo_writeAll_84 : decode b_Mo_writeAll 84 = .ok (.iaload, 1) := by decide +kernel
theorem d_Mo_writeAll_85 : decode b_Mo_writeAll 85 = .ok (.bipush 6, 2) := by decide +kernel
theorem d_Mo_writeAll_87 : decode b_Mo_writeAll 87 = .ok (.if_icmp .ne 8, 3) := by decide +kernel
theorem d_Mo_writeAll_90 : decode b_Mo_writeAll 90 = .ok (.bipush 125, 2) := by decide +kernel
theorem d_Mo_writeAll_92 : decode b_Mo_writeAll 92 = .ok (.goto 5, 3) := by decide +kernel
theorem d_Mo_writeAll_95 : decode b_Mo_writeAll 95 = .ok (.bipush 93, 2) := by decide +kernel
theorem d_Mo_writeAll_97 : decode b_Mo_writeAll 97 = .ok (.invokevirtual 388, 3) := by decide +kernel
theorem d_Mo_writeAll_100 : decode b_Mo_writeAll 100 = .ok (.aload_n 0, 1) := by decide +kernel
theorem d_Mo_writeAll_101 : decode b_Mo_writeAll 101 = .ok (.dup, 1) := by decide +kernel
theorem d_Mo_writeAll_102 : decode b_Mo_writeAll 102 = .ok (.getfield 404, 3) := by decide +kernel
theorem d_Mo_writeAll_105 : decode b_Mo_writeAll 105 = .ok (.iconst 1, 1) := by decide +kernel
theorem d_Mo_writeAll_106 : decode b_Mo_writeAll 106 = .ok (.isub, 1) := by decide +kernel
theorem d_Mo_writeAll_107 : decode b_Mo_writeAll 107 = .ok (.putfield 404, 3) := by decide +kernel
theorem d_Mo_writeAll_110 : decode b_Mo_writeAll 110 = .ok (.goto (-90), 3) := by decide +kernel
theorem d_Mo_writeAll_113 : decode b_Mo_writeAll 113 = .ok (.iload 4, 2) := by decide +kernel
theorem d_Mo_writeAll_115 : decode b_Mo_writeAll 115 = .ok (.ifCond .le 9, 3) := by decide +kernel
theorem d_Mo_writeAll_118 : decode b_Mo_writeAll 118 = .ok (.aload_n 0, 1) := by decide +kernel
theorem d_Mo_writeAll_119 : decode b_Mo_writeAll 119 = .ok (.bipush 44, 2) := by decide +kernel
theorem d_Mo_writeAll_121 : decode b_Mo_writeAll 121 = .ok (.invokevirtual 388, 3) := by decide +kernel
theorem d_Mo_writeAll_124 : decode b_Mo_writeAll 124 = .ok (.aload_n 0, 1) := by decide +kernel
theorem d_Mo_writeAll_125 : decode b_Mo_writeAll 125 = .ok (.getfield 7, 3) := by decide +kernel
theorem d_Mo_writeAll_128 : decode b_Mo_writeAll 128 = .ok (.iload_n 3, 1) := by decide +kernel
theorem d_Mo_writeAll_129 : decode b_Mo_writeAll 129 = .ok (.iaload, 1) := by decide +kernel
theorem d_Mo_writeAll_130 : decode b_Mo_writeAll 130 = .ok (.bipush 6, 2) := by decide +kernel
theorem d_Mo_writeAll_132 : decode b_Mo_writeAll 132 = .ok (.if_icmp .ne 20, 3) := by decide +kernel
theorem d_Mo_writeAll_135 : decode b_Mo_writeAll 135 = .ok (.aload_n 0, 1) := by decide +kernel
theorem d_Mo_writeAll_136 : decode b_Mo_writeAll 136 = .ok (.aload_n 0, 1) := by decide +kernel
theorem d_Mo_writeAll_137 : decode b_Mo_writeAll 137 = .ok (.iload_n 3, 1) := by decide +kernel
theorem d_Mo_writeAll_138 : decode b_Mo_writeAll 138 = .ok (.iload 4, 2) := by decide +kernel
theorem d_Mo_writeAll_140 : decode b_Mo_writeAll 140 = .ok (.invokevirtual 150, 3) := by decide +kernel
theorem d_Mo_writeAll_143 : decode b_Mo_writeAll 143 = .ok (.invokevirtual 401, 3) := by decide +kernel
theorem d_Mo_writeAll_146 : decode b_Mo_writeAll 146 = .ok (.aload_n 0, 1) := by decide +kernel
theorem d_Mo_writeAll_147 : decode b_Mo_writeAll 147 = .ok (.bipush 58, 2) := by decide +kernel
theorem d_Mo_writeAll_149 : decode b_Mo_writeAll 149 = .ok (.invokevirtual 388, 3) := by decide +kernel
theorem d_Mo_writeAll_152 : decode b_Mo_writeAll 152 = .ok (.aload_n 0, 1) := by decide +kernel
theorem d_Mo_writeAll_153 : decode b_Mo_writeAll 153 = .ok (.aload_n 0, 1) := by decide +kernel
theorem d_Mo_writeAll_154 : decode b_Mo_writeAll 154 = .ok (.iload_n 3, 1) := by decide +kernel
theorem d_Mo_writeAll_155 : decode b_Mo_writeAll 155 = .ok (.iload 4, 2) := by decide +kernel
theorem d_Mo_writeAll_157 : decode b_Mo_writeAll 157 = .ok (.invokevirtual 176, 3) := by decide +kernel
theorem d_Mo_writeAll_160 : decode b_Mo_writeAll 160 = .ok (.invokevirtual 407, 3) := by decide +kernel
theorem d_Mo_writeAll_163 : decode b_Mo_writeAll 163 = .ok (.goto (-143), 3) := by decide +kernel
theorem d_Mo_writeAll_166 : decode b_Mo_writeAll 166 = .ok (.return_, 1) := by decide +kernel
set_option maxHeartbeats 4000000 in
set_option maxRecDepth 100000 in
theorem c_Mo_writeAll (l : Launch) (E : gh_E) (sz : Nat) (f : gh_F) (a : Nat) (ad : Nat → Nat) (S : Nat → Int32) (I : Nat → Nat → Int32) (J : Nat → Nat → Int64) (b nv pb np v : Nat) (i : Int32) (O : vt) (hX : mo_R E f a ad S I J) (hO : mw I J b nv pb np v O) (hp8 : np ≤ 8800) : gh_M l y_Mo_writeAll b_Mo_writeAll 5 none E sz [.ref a, .int (nI v), .int i] f { frames := 10, cells := 0, slots := 0, locals := 280 } (fun r g => r = none ∧ ∃ S2 I2, mo_X E f g a ad S2 I2 J ∧ S2 55 = nI (wr_v 8 O).length ∧ S2 57 = (wr_l i (0, S 57) (wr_v 8 O)).2 ∧ (∀ k, k ≠ 54 → k ≠ 55 → k ≠ 56 → k ≠ 57 → S2 k = S k) ∧ ∀ q, q ≠ 52 → q ≠ 53 → I2 q = I q) := by
  refine gh_open (by decide) (Nat.le_of_ble_eq_true rfl) ?_
  intro p e s m args below meth c A ls hAe C V hr hlocks hname hl
  have hx := C.1
  have hb := C.2.1
  have hl : lv_has ls 5 [(0, .ref a), (1, .int (nI v)), (2, .int i)] := hl
  have X : mo_X E f f a ad S I J := ⟨hX, gh_fr.rf⟩
  refine lv_aload_n hx hb d_Mo_writeAll_0 rfl (lv_at hl 0 rfl) ?_
  refine lv_iconst (v := 0) hx hb d_Mo_writeAll_1 (by decide) ?_
  refine mo_putS C V X 55 (by decide) (by decide) f_Mo_379 rfl rfl rfl d_Mo_writeAll_2 (fun f1 H locs V1 X1 => ?_)
  clear V X
  have V := V1
  have X := X1
  clear V1 X1
  refine lv_aload_n hx hb d_Mo_writeAll_5 rfl (lv_at hl 0 rfl) ?_
  refine lv_iload_n hx hb d_Mo_writeAll_6 rfl (lv_at hl 2 rfl) ?_
  refine mo_putS C V X 56 (by decide) (by decide) f_Mo_382 rfl rfl rfl d_Mo_writeAll_7 (fun f1 H locs V1 X1 => ?_)
  clear V X
  have V := V1
  have X := X1
  clear V1 X1
  refine lv_aload_n hx hb d_Mo_writeAll_10 rfl (lv_at hl 0 rfl) ?_
  refine lv_iconst (v := 0) hx hb d_Mo_writeAll_11 (by decide) ?_
  refine mo_putS C V X 54 (by decide) (by decide) f_Mo_404 rfl rfl rfl d_Mo_writeAll_12 (fun f1 H locs V1 X1 => ?_)
  clear V X
  have V := V1
  have X := X1
  clear V1 X1
  refine lv_aload_n hx hb d_Mo_writeAll_15 rfl (lv_at hl 0 rfl) ?_
  refine lv_iload_n hx hb d_Mo_writeAll_16 rfl (lv_at hl 1 rfl) ?_
  obtain ⟨S0, hS0⟩ : ∃ S0 : Nat → Int32, S0 = va_up (va_up (va_up S 55 0) 56 i) 54 0 := ⟨_, rfl⟩
  rw [← hS0] at X
  have e55 : S0 55 = nI 0 := by rw [hS0]; simp [va_up]; rfl
  have e54 : S0 54 = nI 0 := by rw [hS0, va_up_s]; rfl
  have e56 : S0 56 = i := by rw [hS0]; simp [va_up]
  have e57 : S0 57 = S 57 := by rw [hS0]; simp [va_up]
  have eo : ∀ k, k ≠ 54 → k ≠ 55 → k ≠ 56 → k ≠ 57 → S0 k = S k := fun k a1 a2 a3 a4 => by rw [hS0, va_up_n a1, va_up_n a3, va_up_n a2]
  obtain ⟨RL, hRL⟩ : ∃ RL : (Nat → Int32) → mo_I → Prop, RL = (fun (S1 : Nat → Int32) (I1 : mo_I) => ∀ (f1 : gh_F) (H : Heap) (locs : List Loc) (ls : Array Slot), mo_X E f f1 a ad S1 I1 J → gh_V E A f1 s H locs → lv_has ls 5 [(0, .ref a), (1, .int (nI v)), (2, .int i)] → W p l e { frames := 10, cells := 0, slots := 0, locals := 280 } s m args below meth c H locs 0 0 (MQ below (gh_Q E f (fun r g => r = none ∧ ∃ S2 I2, mo_X E f g a ad S2 I2 J ∧ S2 55 = nI (wr_v 8 O).length ∧ S2 57 = (wr_l i (0, S 57) (wr_v 8 O)).2 ∧ (∀ k, k ≠ 54 → k ≠ 55 → k ≠ 56 → k ≠ 57 → S2 k = S k) ∧ ∀ q, q ≠ 52 → q ≠ 53 → I2 q = I q)) args s 0 0 A) (F0 m 20 ls [])) := ⟨_, rfl⟩
  have hfin : ∀ S1 I1, wP 0 S0 (wr_v 8 O) S1 → S1 54 = nI 0 → (∀ q, q ≠ 52 → q ≠ 53 → I1 q = I q) → RL S1 I1 := by
    rw [hRL]
    intro S1 I1 g1 g2 g3 f1 H locs ls X V hl
    have hS54 := g2
    refine lv_aload_n hx hb d_Mo_writeAll_20 rfl (lv_at hl 0 rfl) ?_
    refine mo_getS (v := nI 0) C V X 54 (by decide) (by decide) (by first | rfl | exact hS54) f_Mo_404 rfl d_Mo_writeAll_21 ?_
    refine lv_if_le (tgt := 166) hx hb d_Mo_writeAll_24 (by decide) (fun c1 => ?_) (fun c1 => absurd (by decide) c1)
    refine gh_retv hAe C V hr hlocks d_Mo_writeAll_166 (by first | decide | omega | (dsimp only; omega)) (by first | decide | omega | (dsimp only; omega)) ?_
    exact ⟨rfl, _, _, X, by have := g1.at55; rw [Nat.zero_add] at this; exact this, by have := g1.2.1; rw [e56, e57] at this; exact this, fun k a1 a2 a3 a4 => (g1.2.2 k a1 a2 a4).trans (eo k a1 a2 a3 a4), g3⟩
  have hcl : wl_cl J b nv pb np RL := by
    rw [hRL]
    refine ⟨?_, ?_, ?_⟩
    · intro S1 I1 lv o n Xo hlv h54 h55 h52 h53 hXo h5 hk f1 H locs ls X V hl
      obtain ⟨hav, h1o, -, h3o, -, -, -, h7o⟩ := mv_o.mp hXo.1
      have hvo := vo_o.mp hXo.2
      have ho7 := hav.2
      have hc16 := hvo.2.2.2.2.2.2.1
      have hk6 := hvo.1
      rw [show vt_ln Xo = vt_c Xo by unfold vt_ln; rw [if_neg (by omega)]] at h3o
      have hS54 := h54
      have hq : wQ n S1 [] S1 := wQ.nil h55
      rcases (show vt_k Xo = 5 ∨ vt_k Xo = 6 by omega) with hk56 | hk56
      · refine lv_aload_n hx hb d_Mo_writeAll_20 rfl (lv_at hl 0 rfl) ?_
        refine mo_getS (v := nI (lv + 1)) C V X 54 (by decide) (by decide) (by first | rfl | exact hS54) f_Mo_404 rfl d_Mo_writeAll_21 ?_
        refine lv_if_le (tgt := 166) hx hb d_Mo_writeAll_24 (by decide) (fun c2 => absurd c2 (nI_npos (by omega))) (fun c2 => ?_)
        refine lv_aload_n hx hb d_Mo_writeAll_27 rfl (lv_at hl 0 rfl) ?_
        refine mo_getA C V X 52 (by decide) (by decide) f_Mo_124 rfl d_Mo_writeAll_28 ?_
        refine lv_aload_n hx hb d_Mo_writeAll_31 rfl (lv_at hl 0 rfl) ?_
        refine mo_getS (v := nI (lv + 1)) C V X 54 (by decide) (by decide) (by first | rfl | exact hS54) f_Mo_404 rfl d_Mo_writeAll_32 ?_
        refine lv_iconst (v := 1) hx hb d_Mo_writeAll_35 (by decide) ?_
        refine gn_isub (a := lv + 1) (b := 1) hx hb (by omega) d_Mo_writeAll_36 ?_
        refine mo_ild (k := 52) (i := (lv + 1) - 1) (n := 10) C V X (by decide) (by decide) rfl (by omega) (by decide) d_Mo_writeAll_37 ?_
        rw [show I1 52 ((lv + 1) - 1) = nI o from h52]
        refine lv_istore_n hx hb d_Mo_writeAll_38 rfl hl (by decide) rfl (fun ls hl => ?_)
        have hl : lv_has ls 5 [(3, .int (nI o)), (0, .ref a), (1, .int (nI v)), (2, .int i)] := hl
        refine lv_aload_n hx hb d_Mo_writeAll_39 rfl (lv_at hl 1 rfl) ?_
        refine mo_getA C V X 53 (by decide) (by decide) f_Mo_127 rfl d_Mo_writeAll_40 ?_
        refine lv_aload_n hx hb d_Mo_writeAll_43 rfl (lv_at hl 1 rfl) ?_
        refine mo_getS (v := nI (lv + 1)) C V X 54 (by decide) (by decide) (by first | rfl | exact hS54) f_Mo_404 rfl d_Mo_writeAll_44 ?_
        refine lv_iconst (v := 1) hx hb d_Mo_writeAll_47 (by decide) ?_
        refine gn_isub (a := lv + 1) (b := 1) hx hb (by omega) d_Mo_writeAll_48 ?_
        refine mo_ild (k := 53) (i := (lv + 1) - 1) (n := 10) C V X (by decide) (by decide) rfl (by omega) (by decide) d_Mo_writeAll_49 ?_
        rw [show I1 53 ((lv + 1) - 1) = nI (vt_c Xo) from h53]
        refine lv_istore hx hb d_Mo_writeAll_50 hl (by decide) rfl (fun ls hl => ?_)
        have hl : lv_has ls 5 [(4, .int (nI (vt_c Xo))), (3, .int (nI o)), (0, .ref a), (1, .int (nI v)), (2, .int i)] := hl
        refine lv_aload_n hx hb d_Mo_writeAll_52 rfl (lv_at hl 2 rfl) ?_
        refine mo_getA C V X 53 (by decide) (by decide) f_Mo_127 rfl d_Mo_writeAll_53 ?_
        refine lv_aload_n hx hb d_Mo_writeAll_56 rfl (lv_at hl 2 rfl) ?_
        refine mo_getS (v := nI (lv + 1)) C V X 54 (by decide) (by decide) (by first | rfl | exact hS54) f_Mo_404 rfl d_Mo_writeAll_57 ?_
        refine lv_iconst (v := 1) hx hb d_Mo_writeAll_60 (by decide) ?_
        refine gn_isub (a := lv + 1) (b := 1) hx hb (by omega) d_Mo_writeAll_61 ?_
        refine lv_iload hx hb d_Mo_writeAll_62 (lv_at hl 0 rfl) ?_
        refine lv_iconst (v := 1) hx hb d_Mo_writeAll_64 (by decide) ?_
        refine gn_iadd (a := vt_c Xo) (b := 1) hx hb d_Mo_writeAll_65 ?_
        refine mo_ist (k := 53) (i := (lv + 1) - 1) (n := 10) C V X (by decide) (by decide) rfl (by omega) (by decide) d_Mo_writeAll_66 (fun f1 H locs V1 X1 => ?_)
        clear V X
        have V := V1
        have X := X1
        clear V1 X1
        refine lv_iload hx hb d_Mo_writeAll_67 (lv_at hl 0 rfl) ?_
        refine lv_aload_n hx hb d_Mo_writeAll_69 rfl (lv_at hl 2 rfl) ?_
        refine mo_getA C V X 3 (by decide) (by decide) f_Mo_17 rfl d_Mo_writeAll_70 ?_
        refine lv_iload_n hx hb d_Mo_writeAll_73 rfl (lv_at hl 1 rfl) ?_
        refine mo_ild (k := 3) (i := o) (n := 760) C V X (by decide) (by decide) rfl (by omega) (by decide) d_Mo_writeAll_74 ?_
        rw [show (va_up I1 53 (upd (I1 53) ((lv + 1) - 1) (nI ((vt_c Xo) + 1)))) 3 o = nI (vt_c Xo) from (by first | exact h3o | (simp [va_up]; exact h3o))]
        refine lv_icmp_ne (tgt := 113) hx hb d_Mo_writeAll_75 (by decide) (fun c3 => absurd rfl c3) (fun c3 => ?_)
        refine lv_aload_n hx hb d_Mo_writeAll_78 rfl (lv_at hl 2 rfl) ?_
        refine lv_aload_n hx hb d_Mo_writeAll_79 rfl (lv_at hl 2 rfl) ?_
        refine mo_getA C V X 1 (by decide) (by decide) f_Mo_7 rfl d_Mo_writeAll_80 ?_
        refine lv_iload_n hx hb d_Mo_writeAll_83 rfl (lv_at hl 1 rfl) ?_
        refine mo_ild (k := 1) (i := o) (n := 760) C V X (by decide) (by decide) rfl (by omega) (by decide) d_Mo_writeAll_84 ?_
        rw [show (va_up I1 53 (upd (I1 53) ((lv + 1) - 1) (nI ((vt_c Xo) + 1)))) 1 o = 5 from (by first | (rw [h1o, hk56]; rfl) | (simp [va_up]; rw [h1o, hk56]; rfl))]
        refine lv_bipush (v := 6) hx hb d_Mo_writeAll_85 (by decide) ?_
        refine lv_icmp_ne (tgt := 95) hx hb d_Mo_writeAll_87 (by decide) (fun c4 => ?_) (fun c4 => absurd c4 (by decide))
        refine lv_bipush (v := 93) hx hb d_Mo_writeAll_95 (by decide) ?_
        refine gh_callV C V hl.1 m_Mo_write l_Mo_388 (c_Mo_wr l E _ _ a ad _ _ _ 93 _ X.1 hq.at55) rfl X.1.1 gc_Mo ⟨by first | decide | omega | (dsimp only; omega), by first | decide | omega | (dsimp only; omega)⟩ ⟨by first | decide | omega | (dsimp only; omega), by first | decide | omega | (dsimp only; omega)⟩ (Nat.le_of_ble_eq_true rfl) rfl d_Mo_writeAll_97 (fun r z9 H locs hp V1 => ?_)
        obtain ⟨rfl, S5, X2, hq2⟩ := hp
        have hq := hq.tr hq2
        have X := X.then X2
        have V := V1
        refine W.eq (g2 := F0 m 100 ls []) rfl ?_
        have hS54 : S5 54 = nI (lv + 1) := (hq.2.2 54 (by decide) (by decide)).trans h54
        refine lv_aload_n hx hb d_Mo_writeAll_100 rfl (lv_at hl 2 rfl) ?_
        refine lv_dup hx hb d_Mo_writeAll_101 rfl ?_
        refine mo_getS (v := nI (lv + 1)) C V X 54 (by decide) (by decide) (by first | rfl | exact hS54) f_Mo_404 rfl d_Mo_writeAll_102 ?_
        refine lv_iconst (v := 1) hx hb d_Mo_writeAll_105 (by decide) ?_
        refine gn_isub (a := lv + 1) (b := 1) hx hb (by omega) d_Mo_writeAll_106 ?_
        refine mo_putS C V X 54 (by decide) (by decide) f_Mo_404 rfl rfl rfl d_Mo_writeAll_107 (fun f1 H locs V1 X1 => ?_)
        clear V X
        have V := V1
        have X := X1
        clear V1 X1
        refine lv_goto (tgt := 20) hx hb d_Mo_writeAll_110 (by decide) ?_
        have hl : lv_has ls 5 [(0, .ref a), (1, .int (nI v)), (2, .int i)] := lv_sub hl [2, 3, 4] rfl
        exact hk _ _ ((hq.P (x := nI (lv + 1 - 1))).eq (by unfold wr_cl; rw [if_neg (by omega)]; rfl)) va_up_s (fun q q1 => va_up_n q1) (fun j hj => by rw [va_up_s]; simp only [upd]; rw [if_neg (by omega)]) _ _ _ ls X V hl
      · refine lv_aload_n hx hb d_Mo_writeAll_20 rfl (lv_at hl 0 rfl) ?_
        refine mo_getS (v := nI (lv + 1)) C V X 54 (by decide) (by decide) (by first | rfl | exact hS54) f_Mo_404 rfl d_Mo_writeAll_21 ?_
        refine lv_if_le (tgt := 166) hx hb d_Mo_writeAll_24 (by decide) (fun c6 => absurd c6 (nI_npos (by omega))) (fun c6 => ?_)
        refine lv_aload_n hx hb d_Mo_writeAll_27 rfl (lv_at hl 0 rfl) ?_
        refine mo_getA C V X 52 (by decide) (by decide) f_Mo_124 rfl d_Mo_writeAll_28 ?_
        refine lv_aload_n hx hb d_Mo_writeAll_31 rfl (lv_at hl 0 rfl) ?_
        refine mo_getS (v := nI (lv + 1)) C V X 54 (by decide) (by decide) (by first | rfl | exact hS54) f_Mo_404 rfl d_Mo_writeAll_32 ?_
        refine lv_iconst (v := 1) hx hb d_Mo_writeAll_35 (by decide) ?_
        refine gn_isub (a := lv + 1) (b := 1) hx hb (by omega) d_Mo_writeAll_36 ?_
        refine mo_ild (k := 52) (i := (lv + 1) - 1) (n := 10) C V X (by decide) (by decide) rfl (by omega) (by decide) d_Mo_writeAll_37 ?_
        rw [show I1 52 ((lv + 1) - 1) = nI o from h52]
        refine lv_istore_n hx hb d_Mo_writeAll_38 rfl hl (by decide) rfl (fun ls hl => ?_)
        have hl : lv_has ls 5 [(3, .int (nI o)), (0, .ref a), (1, .int (nI v)), (2, .int i)] := hl
        refine lv_aload_n hx hb d_Mo_writeAll_39 rfl (lv_at hl 1 rfl) ?_
        refine mo_getA C V X 53 (by decide) (by decide) f_Mo_127 rfl d_Mo_writeAll_40 ?_
        refine lv_aload_n hx hb d_Mo_writeAll_43 rfl (lv_at hl 1 rfl) ?_
        refine mo_getS (v := nI (lv + 1)) C V X 54 (by decide) (by decide) (by first | rfl | exact hS54) f_Mo_404 rfl d_Mo_writeAll_44 ?_
        refine lv_iconst (v := 1) hx hb d_Mo_writeAll_47 (by decide) ?_
        refine gn_isub (a := lv + 1) (b := 1) hx hb (by omega) d_Mo_writeAll_48 ?_
        refine mo_ild (k := 53) (i := (lv + 1) - 1) (n := 10) C V X (by decide) (by decide) rfl (by omega) (by decide) d_Mo_writeAll_49 ?_
        rw [show I1 53 ((lv + 1) - 1) = nI (vt_c Xo) from h53]
        refine lv_istore hx hb d_Mo_writeAll_50 hl (by decide) rfl (fun ls hl => ?_)
        have hl : lv_has ls 5 [(4, .int (nI (vt_c Xo))), (3, .int (nI o)), (0, .ref a), (1, .int (nI v)), (2, .int i)] := hl
        refine lv_aload_n hx hb d_Mo_writeAll_52 rfl (lv_at hl 2 rfl) ?_
        refine mo_getA C V X 53 (by decide) (by decide) f_Mo_127 rfl d_Mo_writeAll_53 ?_
        refine lv_aload_n hx hb d_Mo_writeAll_56 rfl (lv_at hl 2 rfl) ?_
        refine mo_getS (v := nI (lv + 1)) C V X 54 (by decide) (by decide) (by first | rfl | exact hS54) f_Mo_404 rfl d_Mo_writeAll_57 ?_
        refine lv_iconst (v := 1) hx hb d_Mo_writeAll_60 (by decide) ?_
        refine gn_isub (a := lv + 1) (b := 1) hx hb (by omega) d_Mo_writeAll_61 ?_
        refine lv_iload hx hb d_Mo_writeAll_62 (lv_at hl 0 rfl) ?_
        refine lv_iconst (v := 1) hx hb d_Mo_writeAll_64 (by decide) ?_
        refine gn_iadd (a := vt_c Xo) (b := 1) hx hb d_Mo_writeAll_65 ?_
        refine mo_ist (k := 53) (i := (lv + 1) - 1) (n := 10) C V X (by decide) (by decide) rfl (by omega) (by decide) d_Mo_writeAll_66 (fun f1 H locs V1 X1 => ?_)
        clear V X
        have V := V1
        have X := X1
        clear V1 X1
        refine lv_iload hx hb d_Mo_writeAll_67 (lv_at hl 0 rfl) ?_
        refine lv_aload_n hx hb d_Mo_writeAll_69 rfl (lv_at hl 2 rfl) ?_
        refine mo_getA C V X 3 (by decide) (by decide) f_Mo_17 rfl d_Mo_writeAll_70 ?_
        refine lv_iload_n hx hb d_Mo_writeAll_73 rfl (lv_at hl 1 rfl) ?_
        refine mo_ild (k := 3) (i := o) (n := 760) C V X (by decide) (by decide) rfl (by omega) (by decide) d_Mo_writeAll_74 ?_
        rw [show (va_up I1 53 (upd (I1 53) ((lv + 1) - 1) (nI ((vt_c Xo) + 1)))) 3 o = nI (vt_c Xo) from (by first | exact h3o | (simp [va_up]; exact h3o))]
        refine lv_icmp_ne (tgt := 113) hx hb d_Mo_writeAll_75 (by decide) (fun c7 => absurd rfl c7) (fun c7 => ?_)
        refine lv_aload_n hx hb d_Mo_writeAll_78 rfl (lv_at hl 2 rfl) ?_
        refine lv_aload_n hx hb d_Mo_writeAll_79 rfl (lv_at hl 2 rfl) ?_
        refine mo_getA C V X 1 (by decide) (by decide) f_Mo_7 rfl d_Mo_writeAll_80 ?_
        refine lv_iload_n hx hb d_Mo_writeAll_83 rfl (lv_at hl 1 rfl) ?_
        refine mo_ild (k := 1) (i := o) (n := 760) C V X (by decide) (by decide) rfl (by omega) (by decide) d_Mo_writeAll_84 ?_
        rw [show (va_up I1 53 (upd (I1 53) ((lv + 1) - 1) (nI ((vt_c Xo) + 1)))) 1 o = 6 from (by first | (rw [h1o, hk56]; rfl) | (simp [va_up]; rw [h1o, hk56]; rfl))]
        refine lv_bipush (v := 6) hx hb d_Mo_writeAll_85 (by decide) ?_
        refine lv_icmp_ne (tgt := 95) hx hb d_Mo_writeAll_87 (by decide) (fun c8 => absurd (by decide) c8) (fun c8 => ?_)
        refine lv_bipush (v := 125) hx hb d_Mo_writeAll_90 (by decide) ?_
        refine lv_goto (tgt := 97) hx hb d_Mo_writeAll_92 (by decide) ?_
        refine gh_callV C V hl.1 m_Mo_write l_Mo_388 (c_Mo_wr l E _ _ a ad _ _ _ 125 _ X.1 hq.at55) rfl X.1.1 gc_Mo ⟨by first | decide | omega | (dsimp only; omega), by first | decide | omega | (dsimp only; omega)⟩ ⟨by first | decide | omega | (dsimp only; omega), by first | decide | omega | (dsimp only; omega)⟩ (Nat.le_of_ble_eq_true rfl) rfl d_Mo_writeAll_97 (fun r z9 H locs hp V1 => ?_)
        obtain ⟨rfl, S9, X2, hq2⟩ := hp
        have hq := hq.tr hq2
        have X := X.then X2
        have V := V1
        refine W.eq (g2 := F0 m 100 ls []) rfl ?_
        have hS54 : S9 54 = nI (lv + 1) := (hq.2.2 54 (by decide) (by decide)).trans h54
        refine lv_aload_n hx hb d_Mo_writeAll_100 rfl (lv_at hl 2 rfl) ?_
        refine lv_dup hx hb d_Mo_writeAll_101 rfl ?_
        refine mo_getS (v := nI (lv + 1)) C V X 54 (by decide) (by decide) (by first | rfl | exact hS54) f_Mo_404 rfl d_Mo_writeAll_102 ?_
        refine lv_iconst (v := 1) hx hb d_Mo_writeAll_105 (by decide) ?_
        refine gn_isub (a := lv + 1) (b := 1) hx hb (by omega) d_Mo_writeAll_106 ?_
        refine mo_putS C V X 54 (by decide) (by decide) f_Mo_404 rfl rfl rfl d_Mo_writeAll_107 (fun f1 H locs V1 X1 => ?_)
        clear V X
        have V := V1
        have X := X1
        clear V1 X1
        refine lv_goto (tgt := 20) hx hb d_Mo_writeAll_110 (by decide) ?_
        have hl : lv_has ls 5 [(0, .ref a), (1, .int (nI v)), (2, .int i)] := lv_sub hl [2, 3, 4] rfl
        exact hk _ _ ((hq.P (x := nI (lv + 1 - 1))).eq (by unfold wr_cl; rw [if_pos hk56]; rfl)) va_up_s (fun q q1 => va_up_n q1) (fun j hj => by rw [va_up_s]; simp only [upd]; rw [if_neg (by omega)]) _ _ _ ls X V hl
    · intro S1 I1 lv o k n Xo hlv h54 h55 h52 h53 hXo h5 hlt hkz hk f1 H locs ls X V hl
      obtain ⟨hav, h1o, -, h3o, -, -, -, h7o⟩ := mv_o.mp hXo.1
      have hvo := vo_o.mp hXo.2
      have ho7 := hav.2
      have hc16 := hvo.2.2.2.2.2.2.1
      have hk6 := hvo.1
      rw [show vt_ln Xo = vt_c Xo by unfold vt_ln; rw [if_neg (by omega)]] at h3o
      have hS54 := h54
      have hq : wQ n S1 [] S1 := wQ.nil h55
      obtain ⟨fv, Bx, Kx, hfv, ⟨hf1, hf2, hf3⟩, hBx, hKx⟩ := h7o (by omega)
      have hB9 := hBx k hlt
      have hit := mw_item hXo.2 hlt hB9.2
      have hmaI : ma I1 J (va_up I1 53 (upd (I1 53) (lv + 1 - 1) (nI (k + 1)))) J b nv pb np := ma_other (fun q hq => va_up_n (by omega))
      have hit2 := hit.keep hmaI (Nat.le_refl _) (Nat.le_refl _) hp8
      by_cases hk0 : k = 0
      · rcases (show vt_k Xo = 5 ∨ vt_k Xo = 6 by omega) with hk56 | hk56
        · refine lv_aload_n hx hb d_Mo_writeAll_20 rfl (lv_at hl 0 rfl) ?_
          refine mo_getS (v := nI (lv + 1)) C V X 54 (by decide) (by decide) (by first | rfl | exact hS54) f_Mo_404 rfl d_Mo_writeAll_21 ?_
          refine lv_if_le (tgt := 166) hx hb d_Mo_writeAll_24 (by decide) (fun c10 => absurd c10 (nI_npos (by omega))) (fun c10 => ?_)
          refine lv_aload_n hx hb d_Mo_writeAll_27 rfl (lv_at hl 0 rfl) ?_
          refine mo_getA C V X 52 (by decide) (by decide) f_Mo_124 rfl d_Mo_writeAll_28 ?_
          refine lv_aload_n hx hb d_Mo_writeAll_31 rfl (lv_at hl 0 rfl) ?_
          refine mo_getS (v := nI (lv + 1)) C V X 54 (by decide) (by decide) (by first | rfl | exact hS54) f_Mo_404 rfl d_Mo_writeAll_32 ?_
          refine lv_iconst (v := 1) hx hb d_Mo_writeAll_35 (by decide) ?_
          refine gn_isub (a := lv + 1) (b := 1) hx hb (by omega) d_Mo_writeAll_36 ?_
          refine mo_ild (k := 52) (i := (lv + 1) - 1) (n := 10) C V X (by decide) (by decide) rfl (by omega) (by decide) d_Mo_writeAll_37 ?_
          rw [show I1 52 ((lv + 1) - 1) = nI o from h52]
          refine lv_istore_n hx hb d_Mo_writeAll_38 rfl hl (by decide) rfl (fun ls hl => ?_)
          have hl : lv_has ls 5 [(3, .int (nI o)), (0, .ref a), (1, .int (nI v)), (2, .int i)] := hl
          refine lv_aload_n hx hb d_Mo_writeAll_39 rfl (lv_at hl 1 rfl) ?_
          refine mo_getA C V X 53 (by decide) (by decide) f_Mo_127 rfl d_Mo_writeAll_40 ?_
          refine lv_aload_n hx hb d_Mo_writeAll_43 rfl (lv_at hl 1 rfl) ?_
          refine mo_getS (v := nI (lv + 1)) C V X 54 (by decide) (by decide) (by first | rfl | exact hS54) f_Mo_404 rfl d_Mo_writeAll_44 ?_
          refine lv_iconst (v := 1) hx hb d_Mo_writeAll_47 (by decide) ?_
          refine gn_isub (a := lv + 1) (b := 1) hx hb (by omega) d_Mo_writeAll_48 ?_
          refine mo_ild (k := 53) (i := (lv + 1) - 1) (n := 10) C V X (by decide) (by decide) rfl (by omega) (by decide) d_Mo_writeAll_49 ?_
          rw [show I1 53 ((lv + 1) - 1) = nI k from h53]
          refine lv_istore hx hb d_Mo_writeAll_50 hl (by decide) rfl (fun ls hl => ?_)
          have hl : lv_has ls 5 [(4, .int (nI k)), (3, .int (nI o)), (0, .ref a), (1, .int (nI v)), (2, .int i)] := hl
          refine lv_aload_n hx hb d_Mo_writeAll_52 rfl (lv_at hl 2 rfl) ?_
          refine mo_getA C V X 53 (by decide) (by decide) f_Mo_127 rfl d_Mo_writeAll_53 ?_
          refine lv_aload_n hx hb d_Mo_writeAll_56 rfl (lv_at hl 2 rfl) ?_
          refine mo_getS (v := nI (lv + 1)) C V X 54 (by decide) (by decide) (by first | rfl | exact hS54) f_Mo_404 rfl d_Mo_writeAll_57 ?_
          refine lv_iconst (v := 1) hx hb d_Mo_writeAll_60 (by decide) ?_
          refine gn_isub (a := lv + 1) (b := 1) hx hb (by omega) d_Mo_writeAll_61 ?_
          refine lv_iload hx hb d_Mo_writeAll_62 (lv_at hl 0 rfl) ?_
          refine lv_iconst (v := 1) hx hb d_Mo_writeAll_64 (by decide) ?_
          refine gn_iadd (a := k) (b := 1) hx hb d_Mo_writeAll_65 ?_
          refine mo_ist (k := 53) (i := (lv + 1) - 1) (n := 10) C V X (by decide) (by decide) rfl (by omega) (by decide) d_Mo_writeAll_66 (fun f1 H locs V1 X1 => ?_)
          clear V X
          have V := V1
          have X := X1
          clear V1 X1
          refine lv_iload hx hb d_Mo_writeAll_67 (lv_at hl 0 rfl) ?_
          refine lv_aload_n hx hb d_Mo_writeAll_69 rfl (lv_at hl 2 rfl) ?_
          refine mo_getA C V X 3 (by decide) (by decide) f_Mo_17 rfl d_Mo_writeAll_70 ?_
          refine lv_iload_n hx hb d_Mo_writeAll_73 rfl (lv_at hl 1 rfl) ?_
          refine mo_ild (k := 3) (i := o) (n := 760) C V X (by decide) (by decide) rfl (by omega) (by decide) d_Mo_writeAll_74 ?_
          rw [show (va_up I1 53 (upd (I1 53) ((lv + 1) - 1) (nI (k + 1)))) 3 o = nI (vt_c Xo) from (by first | exact h3o | (simp [va_up]; exact h3o))]
          refine lv_icmp_ne (tgt := 113) hx hb d_Mo_writeAll_75 (by decide) (fun c11 => ?_) (fun c11 => absurd c11 (nI_nem (by omega) (by omega) (by omega)))
          refine lv_iload hx hb d_Mo_writeAll_113 (lv_at hl 0 rfl) ?_
          refine lv_if_le (tgt := 124) hx hb d_Mo_writeAll_115 (by decide) (fun c12 => ?_) (fun c12 => absurd (by rw [hk0]; decide) c12)
          refine lv_aload_n hx hb d_Mo_writeAll_124 rfl (lv_at hl 2 rfl) ?_
          refine mo_getA C V X 1 (by decide) (by decide) f_Mo_7 rfl d_Mo_writeAll_125 ?_
          refine lv_iload_n hx hb d_Mo_writeAll_128 rfl (lv_at hl 1 rfl) ?_
          refine mo_ild (k := 1) (i := o) (n := 760) C V X (by decide) (by decide) rfl (by omega) (by decide) d_Mo_writeAll_129 ?_
          rw [show (va_up I1 53 (upd (I1 53) ((lv + 1) - 1) (nI (k + 1)))) 1 o = 5 from (by first | (rw [h1o, hk56]; rfl) | (simp [va_up]; rw [h1o, hk56]; rfl))]
          refine lv_bipush (v := 6) hx hb d_Mo_writeAll_130 (by decide) ?_
          refine lv_icmp_ne (tgt := 152) hx hb d_Mo_writeAll_132 (by decide) (fun c13 => ?_) (fun c13 => absurd c13 (by decide))
          refine lv_aload_n hx hb d_Mo_writeAll_152 rfl (lv_at hl 2 rfl) ?_
          refine lv_aload_n hx hb d_Mo_writeAll_153 rfl (lv_at hl 2 rfl) ?_
          refine lv_iload_n hx hb d_Mo_writeAll_154 rfl (lv_at hl 1 rfl) ?_
          refine lv_iload hx hb d_Mo_writeAll_155 (lv_at hl 0 rfl) ?_
          refine gh_callV C V hl.1 m_Mo_itemOf l_Mo_176 (c_Mo_itemOf l E _ _ a ad _ _ _ o k fv X.1 ho7 (by rw [va_up_n (by decide)]; exact hfv) (by omega)) rfl X.1.1 gc_Mo ⟨by first | decide | omega | (dsimp only; omega), by first | decide | omega | (dsimp only; omega)⟩ ⟨by first | decide | omega | (dsimp only; omega), by first | decide | omega | (dsimp only; omega)⟩ (Nat.le_of_ble_eq_true rfl) rfl d_Mo_writeAll_157 (fun r z9 H locs hp V1 => ?_)
          obtain ⟨rfl, he9⟩ := hp
          rw [he9] at V1
          have V := V1
          rw [va_up_n (show (10 : Nat) ≠ 53 by decide), hB9.1]
          refine W.eq (g2 := F0 m 160 ls [.int (nI (Bx k)), .ref a]) rfl ?_
          refine gh_callV C V hl.1 m_Mo_writeValue l_Mo_407 (c_Mo_writeValueS l E _ _ a ad _ _ _ b nv pb np (Bx k) _ (vt_s Xo k) X.1 hit2 hkz hq.at55) rfl X.1.1 gc_Mo ⟨by first | decide | omega | (dsimp only; omega), by first | decide | omega | (dsimp only; omega)⟩ ⟨by first | decide | omega | (dsimp only; omega), by first | decide | omega | (dsimp only; omega)⟩ (Nat.le_of_ble_eq_true rfl) rfl d_Mo_writeAll_160 (fun r z9 H locs hp V1 => ?_)
          obtain ⟨rfl, S9, X2, hq2⟩ := hp
          have hq := hq.tr hq2
          have X := X.then X2
          have V := V1
          refine W.eq (g2 := F0 m 163 ls []) rfl ?_
          refine lv_goto (tgt := 20) hx hb d_Mo_writeAll_163 (by decide) ?_
          have hl : lv_has ls 5 [(0, .ref a), (1, .int (nI v)), (2, .int i)] := lv_sub hl [2, 3, 4] rfl
          exact hk _ _ (hq.P0.eq (by unfold wr_sp; rw [if_pos hk0, if_neg (by omega)]; simp only [List.nil_append, List.append_nil, List.append_assoc])) ((hq.2.2 54 (by decide) (by decide)).trans h54) (by rw [va_up_s]; simp only [upd]; rw [if_pos (Nat.add_sub_cancel lv 1).symm]) (fun q q1 => va_up_n q1) (fun j hj => by rw [va_up_s]; simp only [upd]; rw [if_neg (by omega)]) _ _ _ ls X V hl
        · have hqc := hvo.2.2.2.2.1
          rw [if_pos hk56] at hqc
          have hK9 := hKx k (by omega)
          have hK2 := hK9.2.keep hmaI (Nat.le_refl _)
          refine lv_aload_n hx hb d_Mo_writeAll_20 rfl (lv_at hl 0 rfl) ?_
          refine mo_getS (v := nI (lv + 1)) C V X 54 (by decide) (by decide) (by first | rfl | exact hS54) f_Mo_404 rfl d_Mo_writeAll_21 ?_
          refine lv_if_le (tgt := 166) hx hb d_Mo_writeAll_24 (by decide) (fun c14 => absurd c14 (nI_npos (by omega))) (fun c14 => ?_)
          refine lv_aload_n hx hb d_Mo_writeAll_27 rfl (lv_at hl 0 rfl) ?_
          refine mo_getA C V X 52 (by decide) (by decide) f_Mo_124 rfl d_Mo_writeAll_28 ?_
          refine lv_aload_n hx hb d_Mo_writeAll_31 rfl (lv_at hl 0 rfl) ?_
          refine mo_getS (v := nI (lv + 1)) C V X 54 (by decide) (by decide) (by first | rfl | exact hS54) f_Mo_404 rfl d_Mo_writeAll_32 ?_
          refine lv_iconst (v := 1) hx hb d_Mo_writeAll_35 (by decide) ?_
          refine gn_isub (a := lv + 1) (b := 1) hx hb (by omega) d_Mo_writeAll_36 ?_
          refine mo_ild (k := 52) (i := (lv + 1) - 1) (n := 10) C V X (by decide) (by decide) rfl (by omega) (by decide) d_Mo_writeAll_37 ?_
          rw [show I1 52 ((lv + 1) - 1) = nI o from h52]
          refine lv_istore_n hx hb d_Mo_writeAll_38 rfl hl (by decide) rfl (fun ls hl => ?_)
          have hl : lv_has ls 5 [(3, .int (nI o)), (0, .ref a), (1, .int (nI v)), (2, .int i)] := hl
          refine lv_aload_n hx hb d_Mo_writeAll_39 rfl (lv_at hl 1 rfl) ?_
          refine mo_getA C V X 53 (by decide) (by decide) f_Mo_127 rfl d_Mo_writeAll_40 ?_
          refine lv_aload_n hx hb d_Mo_writeAll_43 rfl (lv_at hl 1 rfl) ?_
          refine mo_getS (v := nI (lv + 1)) C V X 54 (by decide) (by decide) (by first | rfl | exact hS54) f_Mo_404 rfl d_Mo_writeAll_44 ?_
          refine lv_iconst (v := 1) hx hb d_Mo_writeAll_47 (by decide) ?_
          refine gn_isub (a := lv + 1) (b := 1) hx hb (by omega) d_Mo_writeAll_48 ?_
          refine mo_ild (k := 53) (i := (lv + 1) - 1) (n := 10) C V X (by decide) (by decide) rfl (by omega) (by decide) d_Mo_writeAll_49 ?_
          rw [show I1 53 ((lv + 1) - 1) = nI k from h53]
          refine lv_istore hx hb d_Mo_writeAll_50 hl (by decide) rfl (fun ls hl => ?_)
          have hl : lv_has ls 5 [(4, .int (nI k)), (3, .int (nI o)), (0, .ref a), (1, .int (nI v)), (2, .int i)] := hl
          refine lv_aload_n hx hb d_Mo_writeAll_52 rfl (lv_at hl 2 rfl) ?_
          refine mo_getA C V X 53 (by decide) (by decide) f_Mo_127 rfl d_Mo_writeAll_53 ?_
          refine lv_aload_n hx hb d_Mo_writeAll_56 rfl (lv_at hl 2 rfl) ?_
          refine mo_getS (v := nI (lv + 1)) C V X 54 (by decide) (by decide) (by first | rfl | exact hS54) f_Mo_404 rfl d_Mo_writeAll_57 ?_
          refine lv_iconst (v := 1) hx hb d_Mo_writeAll_60 (by decide) ?_
          refine gn_isub (a := lv + 1) (b := 1) hx hb (by omega) d_Mo_writeAll_61 ?_
          refine lv_iload hx hb d_Mo_writeAll_62 (lv_at hl 0 rfl) ?_
          refine lv_iconst (v := 1) hx hb d_Mo_writeAll_64 (by decide) ?_
          refine gn_iadd (a := k) (b := 1) hx hb d_Mo_writeAll_65 ?_
          refine mo_ist (k := 53) (i := (lv + 1) - 1) (n := 10) C V X (by decide) (by decide) rfl (by omega) (by decide) d_Mo_writeAll_66 (fun f1 H locs V1 X1 => ?_)
          clear V X
          have V := V1
          have X := X1
          clear V1 X1
          refine lv_iload hx hb d_Mo_writeAll_67 (lv_at hl 0 rfl) ?_
          refine lv_aload_n hx hb d_Mo_writeAll_69 rfl (lv_at hl 2 rfl) ?_
          refine mo_getA C V X 3 (by decide) (by decide) f_Mo_17 rfl d_Mo_writeAll_70 ?_
          refine lv_iload_n hx hb d_Mo_writeAll_73 rfl (lv_at hl 1 rfl) ?_
          refine mo_ild (k := 3) (i := o) (n := 760) C V X (by decide) (by decide) rfl (by omega) (by decide) d_Mo_writeAll_74 ?_
          rw [show (va_up I1 53 (upd (I1 53) ((lv + 1) - 1) (nI (k + 1)))) 3 o = nI (vt_c Xo) from (by first | exact h3o | (simp [va_up]; exact h3o))]
          refine lv_icmp_ne (tgt := 113) hx hb d_Mo_writeAll_75 (by decide) (fun c15 => ?_) (fun c15 => absurd c15 (nI_nem (by omega) (by omega) (by omega)))
          refine lv_iload hx hb d_Mo_writeAll_113 (lv_at hl 0 rfl) ?_
          refine lv_if_le (tgt := 124) hx hb d_Mo_writeAll_115 (by decide) (fun c16 => ?_) (fun c16 => absurd (by rw [hk0]; decide) c16)
          refine lv_aload_n hx hb d_Mo_writeAll_124 rfl (lv_at hl 2 rfl) ?_
          refine mo_getA C V X 1 (by decide) (by decide) f_Mo_7 rfl d_Mo_writeAll_125 ?_
          refine lv_iload_n hx hb d_Mo_writeAll_128 rfl (lv_at hl 1 rfl) ?_
          refine mo_ild (k := 1) (i := o) (n := 760) C V X (by decide) (by decide) rfl (by omega) (by decide) d_Mo_writeAll_129 ?_
          rw [show (va_up I1 53 (upd (I1 53) ((lv + 1) - 1) (nI (k + 1)))) 1 o = 6 from (by first | (rw [h1o, hk56]; rfl) | (simp [va_up]; rw [h1o, hk56]; rfl))]
          refine lv_bipush (v := 6) hx hb d_Mo_writeAll_130 (by decide) ?_
          refine lv_icmp_ne (tgt := 152) hx hb d_Mo_writeAll_132 (by decide) (fun c17 => absurd (by decide) c17) (fun c17 => ?_)
          refine lv_aload_n hx hb d_Mo_writeAll_135 rfl (lv_at hl 2 rfl) ?_
          refine lv_aload_n hx hb d_Mo_writeAll_136 rfl (lv_at hl 2 rfl) ?_
          refine lv_iload_n hx hb d_Mo_writeAll_137 rfl (lv_at hl 1 rfl) ?_
          refine lv_iload hx hb d_Mo_writeAll_138 (lv_at hl 0 rfl) ?_
          refine gh_callV C V hl.1 m_Mo_keyOf l_Mo_150 (c_Mo_keyOf l E _ _ a ad _ _ _ o k fv (vt_c Xo) X.1 ho7 (by rw [va_up_n (by decide)]; exact hfv) (by rw [va_up_n (by decide)]; exact h3o) (by omega)) rfl X.1.1 gc_Mo ⟨by first | decide | omega | (dsimp only; omega), by first | decide | omega | (dsimp only; omega)⟩ ⟨by first | decide | omega | (dsimp only; omega), by first | decide | omega | (dsimp only; omega)⟩ (Nat.le_of_ble_eq_true rfl) rfl d_Mo_writeAll_140 (fun r z9 H locs hp V1 => ?_)
          obtain ⟨rfl, he9⟩ := hp
          rw [he9] at V1
          have V := V1
          rw [va_up_n (show (10 : Nat) ≠ 53 by decide), hK9.1]
          refine W.eq (g2 := F0 m 143 ls [.int (nI (Kx k)), .ref a]) rfl ?_
          refine gh_callV C V hl.1 m_Mo_writeLetters l_Mo_401 (c_Mo_writeLetters l E _ _ a ad _ _ _ (Kx k) _ ((vt_q Xo).getD k []) X.1 hK2.1.2 hK2.2.2.2.1 hK2.2.2.2.2.1 hq.at55) rfl X.1.1 gc_Mo ⟨by first | decide | omega | (dsimp only; omega), by first | decide | omega | (dsimp only; omega)⟩ ⟨by first | decide | omega | (dsimp only; omega), by first | decide | omega | (dsimp only; omega)⟩ (Nat.le_of_ble_eq_true rfl) rfl d_Mo_writeAll_143 (fun r z9 H locs hp V1 => ?_)
          obtain ⟨rfl, S18, X2, hq2⟩ := hp
          have hq := hq.tr hq2
          have X := X.then X2
          have V := V1
          have hS54 : S18 54 = nI (lv + 1) := (hq.2.2 54 (by decide) (by decide)).trans h54
          refine W.eq (g2 := F0 m 146 ls []) rfl ?_
          refine lv_aload_n hx hb d_Mo_writeAll_146 rfl (lv_at hl 2 rfl) ?_
          refine lv_bipush (v := 58) hx hb d_Mo_writeAll_147 (by decide) ?_
          refine gh_callV C V hl.1 m_Mo_write l_Mo_388 (c_Mo_wr l E _ _ a ad _ _ _ 58 _ X.1 hq.at55) rfl X.1.1 gc_Mo ⟨by first | decide | omega | (dsimp only; omega), by first | decide | omega | (dsimp only; omega)⟩ ⟨by first | decide | omega | (dsimp only; omega), by first | decide | omega | (dsimp only; omega)⟩ (Nat.le_of_ble_eq_true rfl) rfl d_Mo_writeAll_149 (fun r z9 H locs hp V1 => ?_)
          obtain ⟨rfl, S19, X2, hq2⟩ := hp
          have hq := hq.tr hq2
          have X := X.then X2
          have V := V1
          refine W.eq (g2 := F0 m 152 ls []) rfl ?_
          have hS54 : S19 54 = nI (lv + 1) := (hq.2.2 54 (by decide) (by decide)).trans h54
          refine lv_aload_n hx hb d_Mo_writeAll_152 rfl (lv_at hl 2 rfl) ?_
          refine lv_aload_n hx hb d_Mo_writeAll_153 rfl (lv_at hl 2 rfl) ?_
          refine lv_iload_n hx hb d_Mo_writeAll_154 rfl (lv_at hl 1 rfl) ?_
          refine lv_iload hx hb d_Mo_writeAll_155 (lv_at hl 0 rfl) ?_
          refine gh_callV C V hl.1 m_Mo_itemOf l_Mo_176 (c_Mo_itemOf l E _ _ a ad _ _ _ o k fv X.1 ho7 (by rw [va_up_n (by decide)]; exact hfv) (by omega)) rfl X.1.1 gc_Mo ⟨by first | decide | omega | (dsimp only; omega), by first | decide | omega | (dsimp only; omega)⟩ ⟨by first | decide | omega | (dsimp only; omega), by first | decide | omega | (dsimp only; omega)⟩ (Nat.le_of_ble_eq_true rfl) rfl d_Mo_writeAll_157 (fun r z9 H locs hp V1 => ?_)
          obtain ⟨rfl, he9⟩ := hp
          rw [he9] at V1
          have V := V1
          rw [va_up_n (show (10 : Nat) ≠ 53 by decide), hB9.1]
          refine W.eq (g2 := F0 m 160 ls [.int (nI (Bx k)), .ref a]) rfl ?_
          refine gh_callV C V hl.1 m_Mo_writeValue l_Mo_407 (c_Mo_writeValueS l E _ _ a ad _ _ _ b nv pb np (Bx k) _ (vt_s Xo k) X.1 hit2 hkz hq.at55) rfl X.1.1 gc_Mo ⟨by first | decide | omega | (dsimp only; omega), by first | decide | omega | (dsimp only; omega)⟩ ⟨by first | decide | omega | (dsimp only; omega), by first | decide | omega | (dsimp only; omega)⟩ (Nat.le_of_ble_eq_true rfl) rfl d_Mo_writeAll_160 (fun r z9 H locs hp V1 => ?_)
          obtain ⟨rfl, S9, X2, hq2⟩ := hp
          have hq := hq.tr hq2
          have X := X.then X2
          have V := V1
          refine W.eq (g2 := F0 m 163 ls []) rfl ?_
          refine lv_goto (tgt := 20) hx hb d_Mo_writeAll_163 (by decide) ?_
          have hl : lv_has ls 5 [(0, .ref a), (1, .int (nI v)), (2, .int i)] := lv_sub hl [2, 3, 4] rfl
          exact hk _ _ (hq.P0.eq (by unfold wr_sp; rw [if_pos hk0, if_pos hk56]; simp only [List.nil_append, List.append_nil, List.append_assoc])) ((hq.2.2 54 (by decide) (by decide)).trans h54) (by rw [va_up_s]; simp only [upd]; rw [if_pos (Nat.add_sub_cancel lv 1).symm]) (fun q q1 => va_up_n q1) (fun j hj => by rw [va_up_s]; simp only [upd]; rw [if_neg (by omega)]) _ _ _ ls X V hl
      · rcases (show vt_k Xo = 5 ∨ vt_k Xo = 6 by omega) with hk56 | hk56
        · refine lv_aload_n hx hb d_Mo_writeAll_20 rfl (lv_at hl 0 rfl) ?_
          refine mo_getS (v := nI (lv + 1)) C V X 54 (by decide) (by decide) (by first | rfl | exact hS54) f_Mo_404 rfl d_Mo_writeAll_21 ?_
          refine lv_if_le (tgt := 166) hx hb d_Mo_writeAll_24 (by decide) (fun c20 => absurd c20 (nI_npos (by omega))) (fun c20 => ?_)
          refine lv_aload_n hx hb d_Mo_writeAll_27 rfl (lv_at hl 0 rfl) ?_
          refine mo_getA C V X 52 (by decide) (by decide) f_Mo_124 rfl d_Mo_writeAll_28 ?_
          refine lv_aload_n hx hb d_Mo_writeAll_31 rfl (lv_at hl 0 rfl) ?_
          refine mo_getS (v := nI (lv + 1)) C V X 54 (by decide) (by decide) (by first | rfl | exact hS54) f_Mo_404 rfl d_Mo_writeAll_32 ?_
          refine lv_iconst (v := 1) hx hb d_Mo_writeAll_35 (by decide) ?_
          refine gn_isub (a := lv + 1) (b := 1) hx hb (by omega) d_Mo_writeAll_36 ?_
          refine mo_ild (k := 52) (i := (lv + 1) - 1) (n := 10) C V X (by decide) (by decide) rfl (by omega) (by decide) d_Mo_writeAll_37 ?_
          rw [show I1 52 ((lv + 1) - 1) = nI o from h52]
          refine lv_istore_n hx hb d_Mo_writeAll_38 rfl hl (by decide) rfl (fun ls hl => ?_)
          have hl : lv_has ls 5 [(3, .int (nI o)), (0, .ref a), (1, .int (nI v)), (2, .int i)] := hl
          refine lv_aload_n hx hb d_Mo_writeAll_39 rfl (lv_at hl 1 rfl) ?_
          refine mo_getA C V X 53 (by decide) (by decide) f_Mo_127 rfl d_Mo_writeAll_40 ?_
          refine lv_aload_n hx hb d_Mo_writeAll_43 rfl (lv_at hl 1 rfl) ?_
          refine mo_getS (v := nI (lv + 1)) C V X 54 (by decide) (by decide) (by first | rfl | exact hS54) f_Mo_404 rfl d_Mo_writeAll_44 ?_
          refine lv_iconst (v := 1) hx hb d_Mo_writeAll_47 (by decide) ?_
          refine gn_isub (a := lv + 1) (b := 1) hx hb (by omega) d_Mo_writeAll_48 ?_
          refine mo_ild (k := 53) (i := (lv + 1) - 1) (n := 10) C V X (by decide) (by decide) rfl (by omega) (by decide) d_Mo_writeAll_49 ?_
          rw [show I1 53 ((lv + 1) - 1) = nI k from h53]
          refine lv_istore hx hb d_Mo_writeAll_50 hl (by decide) rfl (fun ls hl => ?_)
          have hl : lv_has ls 5 [(4, .int (nI k)), (3, .int (nI o)), (0, .ref a), (1, .int (nI v)), (2, .int i)] := hl
          refine lv_aload_n hx hb d_Mo_writeAll_52 rfl (lv_at hl 2 rfl) ?_
          refine mo_getA C V X 53 (by decide) (by decide) f_Mo_127 rfl d_Mo_writeAll_53 ?_
          refine lv_aload_n hx hb d_Mo_writeAll_56 rfl (lv_at hl 2 rfl) ?_
          refine mo_getS (v := nI (lv + 1)) C V X 54 (by decide) (by decide) (by first | rfl | exact hS54) f_Mo_404 rfl d_Mo_writeAll_57 ?_
          refine lv_iconst (v := 1) hx hb d_Mo_writeAll_60 (by decide) ?_
          refine gn_isub (a := lv + 1) (b := 1) hx hb (by omega) d_Mo_writeAll_61 ?_
          refine lv_iload hx hb d_Mo_writeAll_62 (lv_at hl 0 rfl) ?_
          refine lv_iconst (v := 1) hx hb d_Mo_writeAll_64 (by decide) ?_
          refine gn_iadd (a := k) (b := 1) hx hb d_Mo_writeAll_65 ?_
          refine mo_ist (k := 53) (i := (lv + 1) - 1) (n := 10) C V X (by decide) (by decide) rfl (by omega) (by decide) d_Mo_writeAll_66 (fun f1 H locs V1 X1 => ?_)
          clear V X
          have V := V1
          have X := X1
          clear V1 X1
          refine lv_iload hx hb d_Mo_writeAll_67 (lv_at hl 0 rfl) ?_
          refine lv_aload_n hx hb d_Mo_writeAll_69 rfl (lv_at hl 2 rfl) ?_
          refine mo_getA C V X 3 (by decide) (by decide) f_Mo_17 rfl d_Mo_writeAll_70 ?_
          refine lv_iload_n hx hb d_Mo_writeAll_73 rfl (lv_at hl 1 rfl) ?_
          refine mo_ild (k := 3) (i := o) (n := 760) C V X (by decide) (by decide) rfl (by omega) (by decide) d_Mo_writeAll_74 ?_
          rw [show (va_up I1 53 (upd (I1 53) ((lv + 1) - 1) (nI (k + 1)))) 3 o = nI (vt_c Xo) from (by first | exact h3o | (simp [va_up]; exact h3o))]
          refine lv_icmp_ne (tgt := 113) hx hb d_Mo_writeAll_75 (by decide) (fun c21 => ?_) (fun c21 => absurd c21 (nI_nem (by omega) (by omega) (by omega)))
          refine lv_iload hx hb d_Mo_writeAll_113 (lv_at hl 0 rfl) ?_
          refine lv_if_le (tgt := 124) hx hb d_Mo_writeAll_115 (by decide) (fun c22 => absurd c22 (nI_nle (by omega) (by omega))) (fun c22 => ?_)
          refine lv_aload_n hx hb d_Mo_writeAll_118 rfl (lv_at hl 2 rfl) ?_
          refine lv_bipush (v := 44) hx hb d_Mo_writeAll_119 (by decide) ?_
          refine gh_callV C V hl.1 m_Mo_write l_Mo_388 (c_Mo_wr l E _ _ a ad _ _ _ 44 _ X.1 hq.at55) rfl X.1.1 gc_Mo ⟨by first | decide | omega | (dsimp only; omega), by first | decide | omega | (dsimp only; omega)⟩ ⟨by first | decide | omega | (dsimp only; omega), by first | decide | omega | (dsimp only; omega)⟩ (Nat.le_of_ble_eq_true rfl) rfl d_Mo_writeAll_121 (fun r z9 H locs hp V1 => ?_)
          obtain ⟨rfl, S23, X2, hq2⟩ := hp
          have hq := hq.tr hq2
          have X := X.then X2
          have V := V1
          refine W.eq (g2 := F0 m 124 ls []) rfl ?_
          have hS54 : S23 54 = nI (lv + 1) := (hq.2.2 54 (by decide) (by decide)).trans h54
          refine lv_aload_n hx hb d_Mo_writeAll_124 rfl (lv_at hl 2 rfl) ?_
          refine mo_getA C V X 1 (by decide) (by decide) f_Mo_7 rfl d_Mo_writeAll_125 ?_
          refine lv_iload_n hx hb d_Mo_writeAll_128 rfl (lv_at hl 1 rfl) ?_
          refine mo_ild (k := 1) (i := o) (n := 760) C V X (by decide) (by decide) rfl (by omega) (by decide) d_Mo_writeAll_129 ?_
          rw [show (va_up I1 53 (upd (I1 53) ((lv + 1) - 1) (nI (k + 1)))) 1 o = 5 from (by first | (rw [h1o, hk56]; rfl) | (simp [va_up]; rw [h1o, hk56]; rfl))]
          refine lv_bipush (v := 6) hx hb d_Mo_writeAll_130 (by decide) ?_
          refine lv_icmp_ne (tgt := 152) hx hb d_Mo_writeAll_132 (by decide) (fun c24 => ?_) (fun c24 => absurd c24 (by decide))
          refine lv_aload_n hx hb d_Mo_writeAll_152 rfl (lv_at hl 2 rfl) ?_
          refine lv_aload_n hx hb d_Mo_writeAll_153 rfl (lv_at hl 2 rfl) ?_
          refine lv_iload_n hx hb d_Mo_writeAll_154 rfl (lv_at hl 1 rfl) ?_
          refine lv_iload hx hb d_Mo_writeAll_155 (lv_at hl 0 rfl) ?_
          refine gh_callV C V hl.1 m_Mo_itemOf l_Mo_176 (c_Mo_itemOf l E _ _ a ad _ _ _ o k fv X.1 ho7 (by rw [va_up_n (by decide)]; exact hfv) (by omega)) rfl X.1.1 gc_Mo ⟨by first | decide | omega | (dsimp only; omega), by first | decide | omega | (dsimp only; omega)⟩ ⟨by first | decide | omega | (dsimp only; omega), by first | decide | omega | (dsimp only; omega)⟩ (Nat.le_of_ble_eq_true rfl) rfl d_Mo_writeAll_157 (fun r z9 H locs hp V1 => ?_)
          obtain ⟨rfl, he9⟩ := hp
          rw [he9] at V1
          have V := V1
          rw [va_up_n (show (10 : Nat) ≠ 53 by decide), hB9.1]
          refine W.eq (g2 := F0 m 160 ls [.int (nI (Bx k)), .ref a]) rfl ?_
          refine gh_callV C V hl.1 m_Mo_writeValue l_Mo_407 (c_Mo_writeValueS l E _ _ a ad _ _ _ b nv pb np (Bx k) _ (vt_s Xo k) X.1 hit2 hkz hq.at55) rfl X.1.1 gc_Mo ⟨by first | decide | omega | (dsimp only; omega), by first | decide | omega | (dsimp only; omega)⟩ ⟨by first | decide | omega | (dsimp only; omega), by first | decide | omega | (dsimp only; omega)⟩ (Nat.le_of_ble_eq_true rfl) rfl d_Mo_writeAll_160 (fun r z9 H locs hp V1 => ?_)
          obtain ⟨rfl, S9, X2, hq2⟩ := hp
          have hq := hq.tr hq2
          have X := X.then X2
          have V := V1
          refine W.eq (g2 := F0 m 163 ls []) rfl ?_
          refine lv_goto (tgt := 20) hx hb d_Mo_writeAll_163 (by decide) ?_
          have hl : lv_has ls 5 [(0, .ref a), (1, .int (nI v)), (2, .int i)] := lv_sub hl [2, 3, 4] rfl
          exact hk _ _ (hq.P0.eq (by unfold wr_sp; rw [if_neg hk0, if_neg (by omega)]; simp only [List.nil_append, List.append_nil, List.append_assoc])) ((hq.2.2 54 (by decide) (by decide)).trans h54) (by rw [va_up_s]; simp only [upd]; rw [if_pos (Nat.add_sub_cancel lv 1).symm]) (fun q q1 => va_up_n q1) (fun j hj => by rw [va_up_s]; simp only [upd]; rw [if_neg (by omega)]) _ _ _ ls X V hl
        · have hqc := hvo.2.2.2.2.1
          rw [if_pos hk56] at hqc
          have hK9 := hKx k (by omega)
          have hK2 := hK9.2.keep hmaI (Nat.le_refl _)
          refine lv_aload_n hx hb d_Mo_writeAll_20 rfl (lv_at hl 0 rfl) ?_
          refine mo_getS (v := nI (lv + 1)) C V X 54 (by decide) (by decide) (by first | rfl | exact hS54) f_Mo_404 rfl d_Mo_writeAll_21 ?_
          refine lv_if_le (tgt := 166) hx hb d_Mo_writeAll_24 (by decide) (fun c25 => absurd c25 (nI_npos (by omega))) (fun c25 => ?_)
          refine lv_aload_n hx hb d_Mo_writeAll_27 rfl (lv_at hl 0 rfl) ?_
          refine mo_getA C V X 52 (by decide) (by decide) f_Mo_124 rfl d_Mo_writeAll_28 ?_
          refine lv_aload_n hx hb d_Mo_writeAll_31 rfl (lv_at hl 0 rfl) ?_
          refine mo_getS (v := nI (lv + 1)) C V X 54 (by decide) (by decide) (by first | rfl | exact hS54) f_Mo_404 rfl d_Mo_writeAll_32 ?_
          refine lv_iconst (v := 1) hx hb d_Mo_writeAll_35 (by decide) ?_
          refine gn_isub (a := lv + 1) (b := 1) hx hb (by omega) d_Mo_writeAll_36 ?_
          refine mo_ild (k := 52) (i := (lv + 1) - 1) (n := 10) C V X (by decide) (by decide) rfl (by omega) (by decide) d_Mo_writeAll_37 ?_
          rw [show I1 52 ((lv + 1) - 1) = nI o from h52]
          refine lv_istore_n hx hb d_Mo_writeAll_38 rfl hl (by decide) rfl (fun ls hl => ?_)
          have hl : lv_has ls 5 [(3, .int (nI o)), (0, .ref a), (1, .int (nI v)), (2, .int i)] := hl
          refine lv_aload_n hx hb d_Mo_writeAll_39 rfl (lv_at hl 1 rfl) ?_
          refine mo_getA C V X 53 (by decide) (by decide) f_Mo_127 rfl d_Mo_writeAll_40 ?_
          refine lv_aload_n hx hb d_Mo_writeAll_43 rfl (lv_at hl 1 rfl) ?_
          refine mo_getS (v := nI (lv + 1)) C V X 54 (by decide) (by decide) (by first | rfl | exact hS54) f_Mo_404 rfl d_Mo_writeAll_44 ?_
          refine lv_iconst (v := 1) hx hb d_Mo_writeAll_47 (by decide) ?_
          refine gn_isub (a := lv + 1) (b := 1) hx hb (by omega) d_Mo_writeAll_48 ?_
          refine mo_ild (k := 53) (i := (lv + 1) - 1) (n := 10) C V X (by decide) (by decide) rfl (by omega) (by decide) d_Mo_writeAll_49 ?_
          rw [show I1 53 ((lv + 1) - 1) = nI k from h53]
          refine lv_istore hx hb d_Mo_writeAll_50 hl (by decide) rfl (fun ls hl => ?_)
          have hl : lv_has ls 5 [(4, .int (nI k)), (3, .int (nI o)), (0, .ref a), (1, .int (nI v)), (2, .int i)] := hl
          refine lv_aload_n hx hb d_Mo_writeAll_52 rfl (lv_at hl 2 rfl) ?_
          refine mo_getA C V X 53 (by decide) (by decide) f_Mo_127 rfl d_Mo_writeAll_53 ?_
          refine lv_aload_n hx hb d_Mo_writeAll_56 rfl (lv_at hl 2 rfl) ?_
          refine mo_getS (v := nI (lv + 1)) C V X 54 (by decide) (by decide) (by first | rfl | exact hS54) f_Mo_404 rfl d_Mo_writeAll_57 ?_
          refine lv_iconst (v := 1) hx hb d_Mo_writeAll_60 (by decide) ?_
          refine gn_isub (a := lv + 1) (b := 1) hx hb (by omega) d_Mo_writeAll_61 ?_
          refine lv_iload hx hb d_Mo_writeAll_62 (lv_at hl 0 rfl) ?_
          refine lv_iconst (v := 1) hx hb d_Mo_writeAll_64 (by decide) ?_
          refine gn_iadd (a := k) (b := 1) hx hb d_Mo_writeAll_65 ?_
          refine mo_ist (k := 53) (i := (lv + 1) - 1) (n := 10) C V X (by decide) (by decide) rfl (by omega) (by decide) d_Mo_writeAll_66 (fun f1 H locs V1 X1 => ?_)
          clear V X
          have V := V1
          have X := X1
          clear V1 X1
          refine lv_iload hx hb d_Mo_writeAll_67 (lv_at hl 0 rfl) ?_
          refine lv_aload_n hx hb d_Mo_writeAll_69 rfl (lv_at hl 2 rfl) ?_
          refine mo_getA C V X 3 (by decide) (by decide) f_Mo_17 rfl d_Mo_writeAll_70 ?_
          refine lv_iload_n hx hb d_Mo_writeAll_73 rfl (lv_at hl 1 rfl) ?_
          refine mo_ild (k := 3) (i := o) (n := 760) C V X (by decide) (by decide) rfl (by omega) (by decide) d_Mo_writeAll_74 ?_
          rw [show (va_up I1 53 (upd (I1 53) ((lv + 1) - 1) (nI (k + 1)))) 3 o = nI (vt_c Xo) from (by first | exact h3o | (simp [va_up]; exact h3o))]
          refine lv_icmp_ne (tgt := 113) hx hb d_Mo_writeAll_75 (by decide) (fun c26 => ?_) (fun c26 => absurd c26 (nI_nem (by omega) (by omega) (by omega)))
          refine lv_iload hx hb d_Mo_writeAll_113 (lv_at hl 0 rfl) ?_
          refine lv_if_le (tgt := 124) hx hb d_Mo_writeAll_115 (by decide) (fun c27 => absurd c27 (nI_nle (by omega) (by omega))) (fun c27 => ?_)
          refine lv_aload_n hx hb d_Mo_writeAll_118 rfl (lv_at hl 2 rfl) ?_
          refine lv_bipush (v := 44) hx hb d_Mo_writeAll_119 (by decide) ?_
          refine gh_callV C V hl.1 m_Mo_write l_Mo_388 (c_Mo_wr l E _ _ a ad _ _ _ 44 _ X.1 hq.at55) rfl X.1.1 gc_Mo ⟨by first | decide | omega | (dsimp only; omega), by first | decide | omega | (dsimp only; omega)⟩ ⟨by first | decide | omega | (dsimp only; omega), by first | decide | omega | (dsimp only; omega)⟩ (Nat.le_of_ble_eq_true rfl) rfl d_Mo_writeAll_121 (fun r z9 H locs hp V1 => ?_)
          obtain ⟨rfl, S28, X2, hq2⟩ := hp
          have hq := hq.tr hq2
          have X := X.then X2
          have V := V1
          refine W.eq (g2 := F0 m 124 ls []) rfl ?_
          have hS54 : S28 54 = nI (lv + 1) := (hq.2.2 54 (by decide) (by decide)).trans h54
          refine lv_aload_n hx hb d_Mo_writeAll_124 rfl (lv_at hl 2 rfl) ?_
          refine mo_getA C V X 1 (by decide) (by decide) f_Mo_7 rfl d_Mo_writeAll_125 ?_
          refine lv_iload_n hx hb d_Mo_writeAll_128 rfl (lv_at hl 1 rfl) ?_
          refine mo_ild (k := 1) (i := o) (n := 760) C V X (by decide) (by decide) rfl (by omega) (by decide) d_Mo_writeAll_129 ?_
          rw [show (va_up I1 53 (upd (I1 53) ((lv + 1) - 1) (nI (k + 1)))) 1 o = 6 from (by first | (rw [h1o, hk56]; rfl) | (simp [va_up]; rw [h1o, hk56]; rfl))]
          refine lv_bipush (v := 6) hx hb d_Mo_writeAll_130 (by decide) ?_
          refine lv_icmp_ne (tgt := 152) hx hb d_Mo_writeAll_132 (by decide) (fun c29 => absurd (by decide) c29) (fun c29 => ?_)
          refine lv_aload_n hx hb d_Mo_writeAll_135 rfl (lv_at hl 2 rfl) ?_
          refine lv_aload_n hx hb d_Mo_writeAll_136 rfl (lv_at hl 2 rfl) ?_
          refine lv_iload_n hx hb d_Mo_writeAll_137 rfl (lv_at hl 1 rfl) ?_
          refine lv_iload hx hb d_Mo_writeAll_138 (lv_at hl 0 rfl) ?_
          refine gh_callV C V hl.1 m_Mo_keyOf l_Mo_150 (c_Mo_keyOf l E _ _ a ad _ _ _ o k fv (vt_c Xo) X.1 ho7 (by rw [va_up_n (by decide)]; exact hfv) (by rw [va_up_n (by decide)]; exact h3o) (by omega)) rfl X.1.1 gc_Mo ⟨by first | decide | omega | (dsimp only; omega), by first | decide | omega | (dsimp only; omega)⟩ ⟨by first | decide | omega | (dsimp only; omega), by first | decide | omega | (dsimp only; omega)⟩ (Nat.le_of_ble_eq_true rfl) rfl d_Mo_writeAll_140 (fun r z9 H locs hp V1 => ?_)
          obtain ⟨rfl, he9⟩ := hp
          rw [he9] at V1
          have V := V1
          rw [va_up_n (show (10 : Nat) ≠ 53 by decide), hK9.1]
          refine W.eq (g2 := F0 m 143 ls [.int (nI (Kx k)), .ref a]) rfl ?_
          refine gh_callV C V hl.1 m_Mo_writeLetters l_Mo_401 (c_Mo_writeLetters l E _ _ a ad _ _ _ (Kx k) _ ((vt_q Xo).getD k []) X.1 hK2.1.2 hK2.2.2.2.1 hK2.2.2.2.2.1 hq.at55) rfl X.1.1 gc_Mo ⟨by first | decide | omega | (dsimp only; omega), by first | decide | omega | (dsimp only; omega)⟩ ⟨by first | decide | omega | (dsimp only; omega), by first | decide | omega | (dsimp only; omega)⟩ (Nat.le_of_ble_eq_true rfl) rfl d_Mo_writeAll_143 (fun r z9 H locs hp V1 => ?_)
          obtain ⟨rfl, S30, X2, hq2⟩ := hp
          have hq := hq.tr hq2
          have X := X.then X2
          have V := V1
          have hS54 : S30 54 = nI (lv + 1) := (hq.2.2 54 (by decide) (by decide)).trans h54
          refine W.eq (g2 := F0 m 146 ls []) rfl ?_
          refine lv_aload_n hx hb d_Mo_writeAll_146 rfl (lv_at hl 2 rfl) ?_
          refine lv_bipush (v := 58) hx hb d_Mo_writeAll_147 (by decide) ?_
          refine gh_callV C V hl.1 m_Mo_write l_Mo_388 (c_Mo_wr l E _ _ a ad _ _ _ 58 _ X.1 hq.at55) rfl X.1.1 gc_Mo ⟨by first | decide | omega | (dsimp only; omega), by first | decide | omega | (dsimp only; omega)⟩ ⟨by first | decide | omega | (dsimp only; omega), by first | decide | omega | (dsimp only; omega)⟩ (Nat.le_of_ble_eq_true rfl) rfl d_Mo_writeAll_149 (fun r z9 H locs hp V1 => ?_)
          obtain ⟨rfl, S31, X2, hq2⟩ := hp
          have hq := hq.tr hq2
          have X := X.then X2
          have V := V1
          refine W.eq (g2 := F0 m 152 ls []) rfl ?_
          have hS54 : S31 54 = nI (lv + 1) := (hq.2.2 54 (by decide) (by decide)).trans h54
          refine lv_aload_n hx hb d_Mo_writeAll_152 rfl (lv_at hl 2 rfl) ?_
          refine lv_aload_n hx hb d_Mo_writeAll_153 rfl (lv_at hl 2 rfl) ?_
          refine lv_iload_n hx hb d_Mo_writeAll_154 rfl (lv_at hl 1 rfl) ?_
          refine lv_iload hx hb d_Mo_writeAll_155 (lv_at hl 0 rfl) ?_
          refine gh_callV C V hl.1 m_Mo_itemOf l_Mo_176 (c_Mo_itemOf l E _ _ a ad _ _ _ o k fv X.1 ho7 (by rw [va_up_n (by decide)]; exact hfv) (by omega)) rfl X.1.1 gc_Mo ⟨by first | decide | omega | (dsimp only; omega), by first | decide | omega | (dsimp only; omega)⟩ ⟨by first | decide | omega | (dsimp only; omega), by first | decide | omega | (dsimp only; omega)⟩ (Nat.le_of_ble_eq_true rfl) rfl d_Mo_writeAll_157 (fun r z9 H locs hp V1 => ?_)
          obtain ⟨rfl, he9⟩ := hp
          rw [he9] at V1
          have V := V1
          rw [va_up_n (show (10 : Nat) ≠ 53 by decide), hB9.1]
          refine W.eq (g2 := F0 m 160 ls [.int (nI (Bx k)), .ref a]) rfl ?_
          refine gh_callV C V hl.1 m_Mo_writeValue l_Mo_407 (c_Mo_writeValueS l E _ _ a ad _ _ _ b nv pb np (Bx k) _ (vt_s Xo k) X.1 hit2 hkz hq.at55) rfl X.1.1 gc_Mo ⟨by first | decide | omega | (dsimp only; omega), by first | decide | omega | (dsimp only; omega)⟩ ⟨by first | decide | omega | (dsimp only; omega), by first | decide | omega | (dsimp only; omega)⟩ (Nat.le_of_ble_eq_true rfl) rfl d_Mo_writeAll_160 (fun r z9 H locs hp V1 => ?_)
          obtain ⟨rfl, S9, X2, hq2⟩ := hp
          have hq := hq.tr hq2
          have X := X.then X2
          have V := V1
          refine W.eq (g2 := F0 m 163 ls []) rfl ?_
          refine lv_goto (tgt := 20) hx hb d_Mo_writeAll_163 (by decide) ?_
          have hl : lv_has ls 5 [(0, .ref a), (1, .int (nI v)), (2, .int i)] := lv_sub hl [2, 3, 4] rfl
          exact hk _ _ (hq.P0.eq (by unfold wr_sp; rw [if_neg hk0, if_pos hk56]; simp only [List.nil_append, List.append_nil, List.append_assoc])) ((hq.2.2 54 (by decide) (by decide)).trans h54) (by rw [va_up_s]; simp only [upd]; rw [if_pos (Nat.add_sub_cancel lv 1).symm]) (fun q q1 => va_up_n q1) (fun j hj => by rw [va_up_s]; simp only [upd]; rw [if_neg (by omega)]) _ _ _ ls X V hl
    · intro S1 I1 lv o k n Xo hlv h54 h55 h52 h53 hXo h5 hlt hkz hk f1 H locs ls X V hl
      obtain ⟨hav, h1o, -, h3o, -, -, -, h7o⟩ := mv_o.mp hXo.1
      have hvo := vo_o.mp hXo.2
      have ho7 := hav.2
      have hc16 := hvo.2.2.2.2.2.2.1
      have hk6 := hvo.1
      rw [show vt_ln Xo = vt_c Xo by unfold vt_ln; rw [if_neg (by omega)]] at h3o
      have hS54 := h54
      have hq : wQ n S1 [] S1 := wQ.nil h55
      obtain ⟨fv, Bx, Kx, hfv, ⟨hf1, hf2, hf3⟩, hBx, hKx⟩ := h7o (by omega)
      have hB9 := hBx k hlt
      have hit := mw_item hXo.2 hlt hB9.2
      have hmaI : ma I1 J (va_up I1 53 (upd (I1 53) (lv + 1 - 1) (nI (k + 1)))) J b nv pb np := ma_other (fun q hq => va_up_n (by omega))
      have hit2 := hit.keep hmaI (Nat.le_refl _) (Nat.le_refl _) hp8
      by_cases hk0 : k = 0
      · rcases (show vt_k Xo = 5 ∨ vt_k Xo = 6 by omega) with hk56 | hk56
        · refine lv_aload_n hx hb d_Mo_writeAll_20 rfl (lv_at hl 0 rfl) ?_
          refine mo_getS (v := nI (lv + 1)) C V X 54 (by decide) (by decide) (by first | rfl | exact hS54) f_Mo_404 rfl d_Mo_writeAll_21 ?_
          refine lv_if_le (tgt := 166) hx hb d_Mo_writeAll_24 (by decide) (fun c32 => absurd c32 (nI_npos (by omega))) (fun c32 => ?_)
          refine lv_aload_n hx hb d_Mo_writeAll_27 rfl (lv_at hl 0 rfl) ?_
          refine mo_getA C V X 52 (by decide) (by decide) f_Mo_124 rfl d_Mo_writeAll_28 ?_
          refine lv_aload_n hx hb d_Mo_writeAll_31 rfl (lv_at hl 0 rfl) ?_
          refine mo_getS (v := nI (lv + 1)) C V X 54 (by decide) (by decide) (by first | rfl | exact hS54) f_Mo_404 rfl d_Mo_writeAll_32 ?_
          refine lv_iconst (v := 1) hx hb d_Mo_writeAll_35 (by decide) ?_
          refine gn_isub (a := lv + 1) (b := 1) hx hb (by omega) d_Mo_writeAll_36 ?_
          refine mo_ild (k := 52) (i := (lv + 1) - 1) (n := 10) C V X (by decide) (by decide) rfl (by omega) (by decide) d_Mo_writeAll_37 ?_
          rw [show I1 52 ((lv + 1) - 1) = nI o from h52]
          refine lv_istore_n hx hb d_Mo_writeAll_38 rfl hl (by decide) rfl (fun ls hl => ?_)
          have hl : lv_has ls 5 [(3, .int (nI o)), (0, .ref a), (1, .int (nI v)), (2, .int i)] := hl
          refine lv_aload_n hx hb d_Mo_writeAll_39 rfl (lv_at hl 1 rfl) ?_
          refine mo_getA C V X 53 (by decide) (by decide) f_Mo_127 rfl d_Mo_writeAll_40 ?_
          refine lv_aload_n hx hb d_Mo_writeAll_43 rfl (lv_at hl 1 rfl) ?_
          refine mo_getS (v := nI (lv + 1)) C V X 54 (by decide) (by decide) (by first | rfl | exact hS54) f_Mo_404 rfl d_Mo_writeAll_44 ?_
          refine lv_iconst (v := 1) hx hb d_Mo_writeAll_47 (by decide) ?_
          refine gn_isub (a := lv + 1) (b := 1) hx hb (by omega) d_Mo_writeAll_48 ?_
          refine mo_ild (k := 53) (i := (lv + 1) - 1) (n := 10) C V X (by decide) (by decide) rfl (by omega) (by decide) d_Mo_writeAll_49 ?_
          rw [show I1 53 ((lv + 1) - 1) = nI k from h53]
          refine lv_istore hx hb d_Mo_writeAll_50 hl (by decide) rfl (fun ls hl => ?_)
          have hl : lv_has ls 5 [(4, .int (nI k)), (3, .int (nI o)), (0, .ref a), (1, .int (nI v)), (2, .int i)] := hl
          refine lv_aload_n hx hb d_Mo_writeAll_52 rfl (lv_at hl 2 rfl) ?_
          refine mo_getA C V X 53 (by decide) (by decide) f_Mo_127 rfl d_Mo_writeAll_53 ?_
          refine lv_aload_n hx hb d_Mo_writeAll_56 rfl (lv_at hl 2 rfl) ?_
          refine mo_getS (v := nI (lv + 1)) C V X 54 (by decide) (by decide) (by first | rfl | exact hS54) f_Mo_404 rfl d_Mo_writeAll_57 ?_
          refine lv_iconst (v := 1) hx hb d_Mo_writeAll_60 (by decide) ?_
          refine gn_isub (a := lv + 1) (b := 1) hx hb (by omega) d_Mo_writeAll_61 ?_
          refine lv_iload hx hb d_Mo_writeAll_62 (lv_at hl 0 rfl) ?_
          refine lv_iconst (v := 1) hx hb d_Mo_writeAll_64 (by decide) ?_
          refine gn_iadd (a := k) (b := 1) hx hb d_Mo_writeAll_65 ?_
          refine mo_ist (k := 53) (i := (lv + 1) - 1) (n := 10) C V X (by decide) (by decide) rfl (by omega) (by decide) d_Mo_writeAll_66 (fun f1 H locs V1 X1 => ?_)
          clear V X
          have V := V1
          have X := X1
          clear V1 X1
          refine lv_iload hx hb d_Mo_writeAll_67 (lv_at hl 0 rfl) ?_
          refine lv_aload_n hx hb d_Mo_writeAll_69 rfl (lv_at hl 2 rfl) ?_
          refine mo_getA C V X 3 (by decide) (by decide) f_Mo_17 rfl d_Mo_writeAll_70 ?_
          refine lv_iload_n hx hb d_Mo_writeAll_73 rfl (lv_at hl 1 rfl) ?_
          refine mo_ild (k := 3) (i := o) (n := 760) C V X (by decide) (by decide) rfl (by omega) (by decide) d_Mo_writeAll_74 ?_
          rw [show (va_up I1 53 (upd (I1 53) ((lv + 1) - 1) (nI (k + 1)))) 3 o = nI (vt_c Xo) from (by first | exact h3o | (simp [va_up]; exact h3o))]
          refine lv_icmp_ne (tgt := 113) hx hb d_Mo_writeAll_75 (by decide) (fun c33 => ?_) (fun c33 => absurd c33 (nI_nem (by omega) (by omega) (by omega)))
          refine lv_iload hx hb d_Mo_writeAll_113 (lv_at hl 0 rfl) ?_
          refine lv_if_le (tgt := 124) hx hb d_Mo_writeAll_115 (by decide) (fun c34 => ?_) (fun c34 => absurd (by rw [hk0]; decide) c34)
          refine lv_aload_n hx hb d_Mo_writeAll_124 rfl (lv_at hl 2 rfl) ?_
          refine mo_getA C V X 1 (by decide) (by decide) f_Mo_7 rfl d_Mo_writeAll_125 ?_
          refine lv_iload_n hx hb d_Mo_writeAll_128 rfl (lv_at hl 1 rfl) ?_
          refine mo_ild (k := 1) (i := o) (n := 760) C V X (by decide) (by decide) rfl (by omega) (by decide) d_Mo_writeAll_129 ?_
          rw [show (va_up I1 53 (upd (I1 53) ((lv + 1) - 1) (nI (k + 1)))) 1 o = 5 from (by first | (rw [h1o, hk56]; rfl) | (simp [va_up]; rw [h1o, hk56]; rfl))]
          refine lv_bipush (v := 6) hx hb d_Mo_writeAll_130 (by decide) ?_
          refine lv_icmp_ne (tgt := 152) hx hb d_Mo_writeAll_132 (by decide) (fun c35 => ?_) (fun c35 => absurd c35 (by decide))
          refine lv_aload_n hx hb d_Mo_writeAll_152 rfl (lv_at hl 2 rfl) ?_
          refine lv_aload_n hx hb d_Mo_writeAll_153 rfl (lv_at hl 2 rfl) ?_
          refine lv_iload_n hx hb d_Mo_writeAll_154 rfl (lv_at hl 1 rfl) ?_
          refine lv_iload hx hb d_Mo_writeAll_155 (lv_at hl 0 rfl) ?_
          refine gh_callV C V hl.1 m_Mo_itemOf l_Mo_176 (c_Mo_itemOf l E _ _ a ad _ _ _ o k fv X.1 ho7 (by rw [va_up_n (by decide)]; exact hfv) (by omega)) rfl X.1.1 gc_Mo ⟨by first | decide | omega | (dsimp only; omega), by first | decide | omega | (dsimp only; omega)⟩ ⟨by first | decide | omega | (dsimp only; omega), by first | decide | omega | (dsimp only; omega)⟩ (Nat.le_of_ble_eq_true rfl) rfl d_Mo_writeAll_157 (fun r z9 H locs hp V1 => ?_)
          obtain ⟨rfl, he9⟩ := hp
          rw [he9] at V1
          have V := V1
          rw [va_up_n (show (10 : Nat) ≠ 53 by decide), hB9.1]
          refine W.eq (g2 := F0 m 160 ls [.int (nI (Bx k)), .ref a]) rfl ?_
          refine gh_callV C V hl.1 m_Mo_writeValue l_Mo_407 (c_Mo_writeValueM l E _ _ a ad _ _ _ b nv pb np (Bx k) _ (lv + 1) (vt_s Xo k) X.1 hit2 hkz hq.at55 ((hq.2.2 54 (by decide) (by decide)).trans h54) (by omega)) rfl X.1.1 gc_Mo ⟨by first | decide | omega | (dsimp only; omega), by first | decide | omega | (dsimp only; omega)⟩ ⟨by first | decide | omega | (dsimp only; omega), by first | decide | omega | (dsimp only; omega)⟩ (Nat.le_of_ble_eq_true rfl) rfl d_Mo_writeAll_160 (fun r z9 H locs hp V1 => ?_)
          obtain ⟨rfl, S9, I9, X2, hq2, g52, g53, gI⟩ := hp
          have hq := hq.tr hq2
          have X := X.then X2
          have V := V1
          refine W.eq (g2 := F0 m 163 ls []) rfl ?_
          rw [va_up_s] at g53
          rw [va_up_n (by decide)] at g52
          refine lv_goto (tgt := 20) hx hb d_Mo_writeAll_163 (by decide) ?_
          have hl : lv_has ls 5 [(0, .ref a), (1, .int (nI v)), (2, .int i)] := lv_sub hl [2, 3, 4] rfl
          exact hk _ I9 (Bx k) ((hq.P (x := nI (lv + 1 + 1))).eq (by unfold wr_sp; rw [if_pos hk0, if_neg (by omega)]; simp only [List.nil_append, List.append_nil, List.append_assoc])) va_up_s (by rw [g53]; simp only [upd]; rw [if_neg (by omega), if_pos (Nat.add_sub_cancel lv 1).symm]) (by rw [g52]; simp [upd]) (by rw [g53]; simp [upd]; rfl) (hit2.keep (ma_other (fun q hq => gI q (by omega) (by omega))) (Nat.le_refl _) (Nat.le_refl _) hp8) (fun q q1 q2 => by rw [gI q q1 q2, va_up_n q2]) (fun j hj => by rw [g52]; simp only [upd]; rw [if_neg (by omega)]) (fun j hj => by rw [g53]; simp only [upd]; rw [if_neg (by omega), if_neg (by omega)]) _ _ _ ls X V hl
        · have hqc := hvo.2.2.2.2.1
          rw [if_pos hk56] at hqc
          have hK9 := hKx k (by omega)
          have hK2 := hK9.2.keep hmaI (Nat.le_refl _)
          refine lv_aload_n hx hb d_Mo_writeAll_20 rfl (lv_at hl 0 rfl) ?_
          refine mo_getS (v := nI (lv + 1)) C V X 54 (by decide) (by decide) (by first | rfl | exact hS54) f_Mo_404 rfl d_Mo_writeAll_21 ?_
          refine lv_if_le (tgt := 166) hx hb d_Mo_writeAll_24 (by decide) (fun c36 => absurd c36 (nI_npos (by omega))) (fun c36 => ?_)
          refine lv_aload_n hx hb d_Mo_writeAll_27 rfl (lv_at hl 0 rfl) ?_
          refine mo_getA C V X 52 (by decide) (by decide) f_Mo_124 rfl d_Mo_writeAll_28 ?_
          refine lv_aload_n hx hb d_Mo_writeAll_31 rfl (lv_at hl 0 rfl) ?_
          refine mo_getS (v := nI (lv + 1)) C V X 54 (by decide) (by decide) (by first | rfl | exact hS54) f_Mo_404 rfl d_Mo_writeAll_32 ?_
          refine lv_iconst (v := 1) hx hb d_Mo_writeAll_35 (by decide) ?_
          refine gn_isub (a := lv + 1) (b := 1) hx hb (by omega) d_Mo_writeAll_36 ?_
          refine mo_ild (k := 52) (i := (lv + 1) - 1) (n := 10) C V X (by decide) (by decide) rfl (by omega) (by decide) d_Mo_writeAll_37 ?_
          rw [show I1 52 ((lv + 1) - 1) = nI o from h52]
          refine lv_istore_n hx hb d_Mo_writeAll_38 rfl hl (by decide) rfl (fun ls hl => ?_)
          have hl : lv_has ls 5 [(3, .int (nI o)), (0, .ref a), (1, .int (nI v)), (2, .int i)] := hl
          refine lv_aload_n hx hb d_Mo_writeAll_39 rfl (lv_at hl 1 rfl) ?_
          refine mo_getA C V X 53 (by decide) (by decide) f_Mo_127 rfl d_Mo_writeAll_40 ?_
          refine lv_aload_n hx hb d_Mo_writeAll_43 rfl (lv_at hl 1 rfl) ?_
          refine mo_getS (v := nI (lv + 1)) C V X 54 (by decide) (by decide) (by first | rfl | exact hS54) f_Mo_404 rfl d_Mo_writeAll_44 ?_
          refine lv_iconst (v := 1) hx hb d_Mo_writeAll_47 (by decide) ?_
          refine gn_isub (a := lv + 1) (b := 1) hx hb (by omega) d_Mo_writeAll_48 ?_
          refine mo_ild (k := 53) (i := (lv + 1) - 1) (n := 10) C V X (by decide) (by decide) rfl (by omega) (by decide) d_Mo_writeAll_49 ?_
          rw [show I1 53 ((lv + 1) - 1) = nI k from h53]
          refine lv_istore hx hb d_Mo_writeAll_50 hl (by decide) rfl (fun ls hl => ?_)
          have hl : lv_has ls 5 [(4, .int (nI k)), (3, .int (nI o)), (0, .ref a), (1, .int (nI v)), (2, .int i)] := hl
          refine lv_aload_n hx hb d_Mo_writeAll_52 rfl (lv_at hl 2 rfl) ?_
          refine mo_getA C V X 53 (by decide) (by decide) f_Mo_127 rfl d_Mo_writeAll_53 ?_
          refine lv_aload_n hx hb d_Mo_writeAll_56 rfl (lv_at hl 2 rfl) ?_
          refine mo_getS (v := nI (lv + 1)) C V X 54 (by decide) (by decide) (by first | rfl | exact hS54) f_Mo_404 rfl d_Mo_writeAll_57 ?_
          refine lv_iconst (v := 1) hx hb d_Mo_writeAll_60 (by decide) ?_
          refine gn_isub (a := lv + 1) (b := 1) hx hb (by omega) d_Mo_writeAll_61 ?_
          refine lv_iload hx hb d_Mo_writeAll_62 (lv_at hl 0 rfl) ?_
          refine lv_iconst (v := 1) hx hb d_Mo_writeAll_64 (by decide) ?_
          refine gn_iadd (a := k) (b := 1) hx hb d_Mo_writeAll_65 ?_
          refine mo_ist (k := 53) (i := (lv + 1) - 1) (n := 10) C V X (by decide) (by decide) rfl (by omega) (by decide) d_Mo_writeAll_66 (fun f1 H locs V1 X1 => ?_)
          clear V X
          have V := V1
          have X := X1
          clear V1 X1
          refine lv_iload hx hb d_Mo_writeAll_67 (lv_at hl 0 rfl) ?_
          refine lv_aload_n hx hb d_Mo_writeAll_69 rfl (lv_at hl 2 rfl) ?_
          refine mo_getA C V X 3 (by decide) (by decide) f_Mo_17 rfl d_Mo_writeAll_70 ?_
          refine lv_iload_n hx hb d_Mo_writeAll_73 rfl (lv_at hl 1 rfl) ?_
          refine mo_ild (k := 3) (i := o) (n := 760) C V X (by decide) (by decide) rfl (by omega) (by decide) d_Mo_writeAll_74 ?_
          rw [show (va_up I1 53 (upd (I1 53) ((lv + 1) - 1) (nI (k + 1)))) 3 o = nI (vt_c Xo) from (by first | exact h3o | (simp [va_up]; exact h3o))]
          refine lv_icmp_ne (tgt := 113) hx hb d_Mo_writeAll_75 (by decide) (fun c37 => ?_) (fun c37 => absurd c37 (nI_nem (by omega) (by omega) (by omega)))
          refine lv_iload hx hb d_Mo_writeAll_113 (lv_at hl 0 rfl) ?_
          refine lv_if_le (tgt := 124) hx hb d_Mo_writeAll_115 (by decide) (fun c38 => ?_) (fun c38 => absurd (by rw [hk0]; decide) c38)
          refine lv_aload_n hx hb d_Mo_writeAll_124 rfl (lv_at hl 2 rfl) ?_
          refine mo_getA C V X 1 (by decide) (by decide) f_Mo_7 rfl d_Mo_writeAll_125 ?_
          refine lv_iload_n hx hb d_Mo_writeAll_128 rfl (lv_at hl 1 rfl) ?_
          refine mo_ild (k := 1) (i := o) (n := 760) C V X (by decide) (by decide) rfl (by omega) (by decide) d_Mo_writeAll_129 ?_
          rw [show (va_up I1 53 (upd (I1 53) ((lv + 1) - 1) (nI (k + 1)))) 1 o = 6 from (by first | (rw [h1o, hk56]; rfl) | (simp [va_up]; rw [h1o, hk56]; rfl))]
          refine lv_bipush (v := 6) hx hb d_Mo_writeAll_130 (by decide) ?_
          refine lv_icmp_ne (tgt := 152) hx hb d_Mo_writeAll_132 (by decide) (fun c39 => absurd (by decide) c39) (fun c39 => ?_)
          refine lv_aload_n hx hb d_Mo_writeAll_135 rfl (lv_at hl 2 rfl) ?_
          refine lv_aload_n hx hb d_Mo_writeAll_136 rfl (lv_at hl 2 rfl) ?_
          refine lv_iload_n hx hb d_Mo_writeAll_137 rfl (lv_at hl 1 rfl) ?_
          refine lv_iload hx hb d_Mo_writeAll_138 (lv_at hl 0 rfl) ?_
          refine gh_callV C V hl.1 m_Mo_keyOf l_Mo_150 (c_Mo_keyOf l E _ _ a ad _ _ _ o k fv (vt_c Xo) X.1 ho7 (by rw [va_up_n (by decide)]; exact hfv) (by rw [va_up_n (by decide)]; exact h3o) (by omega)) rfl X.1.1 gc_Mo ⟨by first | decide | omega | (dsimp only; omega), by first | decide | omega | (dsimp only; omega)⟩ ⟨by first | decide | omega | (dsimp only; omega), by first | decide | omega | (dsimp only; omega)⟩ (Nat.le_of_ble_eq_true rfl) rfl d_Mo_writeAll_140 (fun r z9 H locs hp V1 => ?_)
          obtain ⟨rfl, he9⟩ := hp
          rw [he9] at V1
          have V := V1
          rw [va_up_n (show (10 : Nat) ≠ 53 by decide), hK9.1]
          refine W.eq (g2 := F0 m 143 ls [.int (nI (Kx k)), .ref a]) rfl ?_
          refine gh_callV C V hl.1 m_Mo_writeLetters l_Mo_401 (c_Mo_writeLetters l E _ _ a ad _ _ _ (Kx k) _ ((vt_q Xo).getD k []) X.1 hK2.1.2 hK2.2.2.2.1 hK2.2.2.2.2.1 hq.at55) rfl X.1.1 gc_Mo ⟨by first | decide | omega | (dsimp only; omega), by first | decide | omega | (dsimp only; omega)⟩ ⟨by first | decide | omega | (dsimp only; omega), by first | decide | omega | (dsimp only; omega)⟩ (Nat.le_of_ble_eq_true rfl) rfl d_Mo_writeAll_143 (fun r z9 H locs hp V1 => ?_)
          obtain ⟨rfl, S40, X2, hq2⟩ := hp
          have hq := hq.tr hq2
          have X := X.then X2
          have V := V1
          have hS54 : S40 54 = nI (lv + 1) := (hq.2.2 54 (by decide) (by decide)).trans h54
          refine W.eq (g2 := F0 m 146 ls []) rfl ?_
          refine lv_aload_n hx hb d_Mo_writeAll_146 rfl (lv_at hl 2 rfl) ?_
          refine lv_bipush (v := 58) hx hb d_Mo_writeAll_147 (by decide) ?_
          refine gh_callV C V hl.1 m_Mo_write l_Mo_388 (c_Mo_wr l E _ _ a ad _ _ _ 58 _ X.1 hq.at55) rfl X.1.1 gc_Mo ⟨by first | decide | omega | (dsimp only; omega), by first | decide | omega | (dsimp only; omega)⟩ ⟨by first | decide | omega | (dsimp only; omega), by first | decide | omega | (dsimp only; omega)⟩ (Nat.le_of_ble_eq_true rfl) rfl d_Mo_writeAll_149 (fun r z9 H locs hp V1 => ?_)
          obtain ⟨rfl, S41, X2, hq2⟩ := hp
          have hq := hq.tr hq2
          have X := X.then X2
          have V := V1
          refine W.eq (g2 := F0 m 152 ls []) rfl ?_
          have hS54 : S41 54 = nI (lv + 1) := (hq.2.2 54 (by decide) (by decide)).trans h54
          refine lv_aload_n hx hb d_Mo_writeAll_152 rfl (lv_at hl 2 rfl) ?_
          refine lv_aload_n hx hb d_Mo_writeAll_153 rfl (lv_at hl 2 rfl) ?_
          refine lv_iload_n hx hb d_Mo_writeAll_154 rfl (lv_at hl 1 rfl) ?_
          refine lv_iload hx hb d_Mo_writeAll_155 (lv_at hl 0 rfl) ?_
          refine gh_callV C V hl.1 m_Mo_itemOf l_Mo_176 (c_Mo_itemOf l E _ _ a ad _ _ _ o k fv X.1 ho7 (by rw [va_up_n (by decide)]; exact hfv) (by omega)) rfl X.1.1 gc_Mo ⟨by first | decide | omega | (dsimp only; omega), by first | decide | omega | (dsimp only; omega)⟩ ⟨by first | decide | omega | (dsimp only; omega), by first | decide | omega | (dsimp only; omega)⟩ (Nat.le_of_ble_eq_true rfl) rfl d_Mo_writeAll_157 (fun r z9 H locs hp V1 => ?_)
          obtain ⟨rfl, he9⟩ := hp
          rw [he9] at V1
          have V := V1
          rw [va_up_n (show (10 : Nat) ≠ 53 by decide), hB9.1]
          refine W.eq (g2 := F0 m 160 ls [.int (nI (Bx k)), .ref a]) rfl ?_
          refine gh_callV C V hl.1 m_Mo_writeValue l_Mo_407 (c_Mo_writeValueM l E _ _ a ad _ _ _ b nv pb np (Bx k) _ (lv + 1) (vt_s Xo k) X.1 hit2 hkz hq.at55 ((hq.2.2 54 (by decide) (by decide)).trans h54) (by omega)) rfl X.1.1 gc_Mo ⟨by first | decide | omega | (dsimp only; omega), by first | decide | omega | (dsimp only; omega)⟩ ⟨by first | decide | omega | (dsimp only; omega), by first | decide | omega | (dsimp only; omega)⟩ (Nat.le_of_ble_eq_true rfl) rfl d_Mo_writeAll_160 (fun r z9 H locs hp V1 => ?_)
          obtain ⟨rfl, S9, I9, X2, hq2, g52, g53, gI⟩ := hp
          have hq := hq.tr hq2
          have X := X.then X2
          have V := V1
          refine W.eq (g2 := F0 m 163 ls []) rfl ?_
          rw [va_up_s] at g53
          rw [va_up_n (by decide)] at g52
          refine lv_goto (tgt := 20) hx hb d_Mo_writeAll_163 (by decide) ?_
          have hl : lv_has ls 5 [(0, .ref a), (1, .int (nI v)), (2, .int i)] := lv_sub hl [2, 3, 4] rfl
          exact hk _ I9 (Bx k) ((hq.P (x := nI (lv + 1 + 1))).eq (by unfold wr_sp; rw [if_pos hk0, if_pos hk56]; simp only [List.nil_append, List.append_nil, List.append_assoc])) va_up_s (by rw [g53]; simp only [upd]; rw [if_neg (by omega), if_pos (Nat.add_sub_cancel lv 1).symm]) (by rw [g52]; simp [upd]) (by rw [g53]; simp [upd]; rfl) (hit2.keep (ma_other (fun q hq => gI q (by omega) (by omega))) (Nat.le_refl _) (Nat.le_refl _) hp8) (fun q q1 q2 => by rw [gI q q1 q2, va_up_n q2]) (fun j hj => by rw [g52]; simp only [upd]; rw [if_neg (by omega)]) (fun j hj => by rw [g53]; simp only [upd]; rw [if_neg (by omega), if_neg (by omega)]) _ _ _ ls X V hl
      · rcases (show vt_k Xo = 5 ∨ vt_k Xo = 6 by omega) with hk56 | hk56
        · refine lv_aload_n hx hb d_Mo_writeAll_20 rfl (lv_at hl 0 rfl) ?_
          refine mo_getS (v := nI (lv + 1)) C V X 54 (by decide) (by decide) (by first | rfl | exact hS54) f_Mo_404 rfl d_Mo_writeAll_21 ?_
          refine lv_if_le (tgt := 166) hx hb d_Mo_writeAll_24 (by decide) (fun c42 => absurd c42 (nI_npos (by omega))) (fun c42 => ?_)
          refine lv_aload_n hx hb d_Mo_writeAll_27 rfl (lv_at hl 0 rfl) ?_
          refine mo_getA C V X 52 (by decide) (by decide) f_Mo_124 rfl d_Mo_writeAll_28 ?_
          refine lv_aload_n hx hb d_Mo_writeAll_31 rfl (lv_at hl 0 rfl) ?_
          refine mo_getS (v := nI (lv + 1)) C V X 54 (by decide) (by decide) (by first | rfl | exact hS54) f_Mo_404 rfl d_Mo_writeAll_32 ?_
          refine lv_iconst (v := 1) hx hb d_Mo_writeAll_35 (by decide) ?_
          refine gn_isub (a := lv + 1) (b := 1) hx hb (by omega) d_Mo_writeAll_36 ?_
          refine mo_ild (k := 52) (i := (lv + 1) - 1) (n := 10) C V X (by decide) (by decide) rfl (by omega) (by decide) d_Mo_writeAll_37 ?_
          rw [show I1 52 ((lv + 1) - 1) = nI o from h52]
          refine lv_istore_n hx hb d_Mo_writeAll_38 rfl hl (by decide) rfl (fun ls hl => ?_)
          have hl : lv_has ls 5 [(3, .int (nI o)), (0, .ref a), (1, .int (nI v)), (2, .int i)] := hl
          refine lv_aload_n hx hb d_Mo_writeAll_39 rfl (lv_at hl 1 rfl) ?_
          refine mo_getA C V X 53 (by decide) (by decide) f_Mo_127 rfl d_Mo_writeAll_40 ?_
          refine lv_aload_n hx hb d_Mo_writeAll_43 rfl (lv_at hl 1 rfl) ?_
          refine mo_getS (v := nI (lv + 1)) C V X 54 (by decide) (by decide) (by first | rfl | exact hS54) f_Mo_404 rfl d_Mo_writeAll_44 ?_
          refine lv_iconst (v := 1) hx hb d_Mo_writeAll_47 (by decide) ?_
          refine gn_isub (a := lv + 1) (b := 1) hx hb (by omega) d_Mo_writeAll_48 ?_
          refine mo_ild (k := 53) (i := (lv + 1) - 1) (n := 10) C V X (by decide) (by decide) rfl (by omega) (by decide) d_Mo_writeAll_49 ?_
          rw [show I1 53 ((lv + 1) - 1) = nI k from h53]
          refine lv_istore hx hb d_Mo_writeAll_50 hl (by decide) rfl (fun ls hl => ?_)
          have hl : lv_has ls 5 [(4, .int (nI k)), (3, .int (nI o)), (0, .ref a), (1, .int (nI v)), (2, .int i)] := hl
          refine lv_aload_n hx hb d_Mo_writeAll_52 rfl (lv_at hl 2 rfl) ?_
          refine mo_getA C V X 53 (by decide) (by decide) f_Mo_127 rfl d_Mo_writeAll_53 ?_
          refine lv_aload_n hx hb d_Mo_writeAll_56 rfl (lv_at hl 2 rfl) ?_
          refine mo_getS (v := nI (lv + 1)) C V X 54 (by decide) (by decide) (by first | rfl | exact hS54) f_Mo_404 rfl d_Mo_writeAll_57 ?_
          refine lv_iconst (v := 1) hx hb d_Mo_writeAll_60 (by decide) ?_
          refine gn_isub (a := lv + 1) (b := 1) hx hb (by omega) d_Mo_writeAll_61 ?_
          refine lv_iload hx hb d_Mo_writeAll_62 (lv_at hl 0 rfl) ?_
          refine lv_iconst (v := 1) hx hb d_Mo_writeAll_64 (by decide) ?_
          refine gn_iadd (a := k) (b := 1) hx hb d_Mo_writeAll_65 ?_
          refine mo_ist (k := 53) (i := (lv + 1) - 1) (n := 10) C V X (by decide) (by decide) rfl (by omega) (by decide) d_Mo_writeAll_66 (fun f1 H locs V1 X1 => ?_)
          clear V X
          have V := V1
          have X := X1
          clear V1 X1
          refine lv_iload hx hb d_Mo_writeAll_67 (lv_at hl 0 rfl) ?_
          refine lv_aload_n hx hb d_Mo_writeAll_69 rfl (lv_at hl 2 rfl) ?_
          refine mo_getA C V X 3 (by decide) (by decide) f_Mo_17 rfl d_Mo_writeAll_70 ?_
          refine lv_iload_n hx hb d_Mo_writeAll_73 rfl (lv_at hl 1 rfl) ?_
          refine mo_ild (k := 3) (i := o) (n := 760) C V X (by decide) (by decide) rfl (by omega) (by decide) d_Mo_writeAll_74 ?_
          rw [show (va_up I1 53 (upd (I1 53) ((lv + 1) - 1) (nI (k + 1)))) 3 o = nI (vt_c Xo) from (by first | exact h3o | (simp [va_up]; exact h3o))]
          refine lv_icmp_ne (tgt := 113) hx hb d_Mo_writeAll_75 (by decide) (fun c43 => ?_) (fun c43 => absurd c43 (nI_nem (by omega) (by omega) (by omega)))
          refine lv_iload hx hb d_Mo_writeAll_113 (lv_at hl 0 rfl) ?_
          refine lv_if_le (tgt := 124) hx hb d_Mo_writeAll_115 (by decide) (fun c44 => absurd c44 (nI_nle (by omega) (by omega))) (fun c44 => ?_)
          refine lv_aload_n hx hb d_Mo_writeAll_118 rfl (lv_at hl 2 rfl) ?_
          refine lv_bipush (v := 44) hx hb d_Mo_writeAll_119 (by decide) ?_
          refine gh_callV C V hl.1 m_Mo_write l_Mo_388 (c_Mo_wr l E _ _ a ad _ _ _ 44 _ X.1 hq.at55) rfl X.1.1 gc_Mo ⟨by first | decide | omega | (dsimp only; omega), by first | decide | omega | (dsimp only; omega)⟩ ⟨by first | decide | omega | (dsimp only; omega), by first | decide | omega | (dsimp only; omega)⟩ (Nat.le_of_ble_eq_true rfl) rfl d_Mo_writeAll_121 (fun r z9 H locs hp V1 => ?_)
          obtain ⟨rfl, S45, X2, hq2⟩ := hp
          have hq := hq.tr hq2
          have X := X.then X2
          have V := V1
          refine W.eq (g2 := F0 m 124 ls []) rfl ?_
          have hS54 : S45 54 = nI (lv + 1) := (hq.2.2 54 (by decide) (by decide)).trans h54
          refine lv_aload_n hx hb d_Mo_writeAll_124 rfl (lv_at hl 2 rfl) ?_
          refine mo_getA C V X 1 (by decide) (by decide) f_Mo_7 rfl d_Mo_writeAll_125 ?_
          refine lv_iload_n hx hb d_Mo_writeAll_128 rfl (lv_at hl 1 rfl) ?_
          refine mo_ild (k := 1) (i := o) (n := 760) C V X (by decide) (by decide) rfl (by omega) (by decide) d_Mo_writeAll_129 ?_
          rw [show (va_up I1 53 (upd (I1 53) ((lv + 1) - 1) (nI (k + 1)))) 1 o = 5 from (by first | (rw [h1o, hk56]; rfl) | (simp [va_up]; rw [h1o, hk56]; rfl))]
          refine lv_bipush (v := 6) hx hb d_Mo_writeAll_130 (by decide) ?_
          refine lv_icmp_ne (tgt := 152) hx hb d_Mo_writeAll_132 (by decide) (fun c46 => ?_) (fun c46 => absurd c46 (by decide))
          refine lv_aload_n hx hb d_Mo_writeAll_152 rfl (lv_at hl 2 rfl) ?_
          refine lv_aload_n hx hb d_Mo_writeAll_153 rfl (lv_at hl 2 rfl) ?_
          refine lv_iload_n hx hb d_Mo_writeAll_154 rfl (lv_at hl 1 rfl) ?_
          refine lv_iload hx hb d_Mo_writeAll_155 (lv_at hl 0 rfl) ?_
          refine gh_callV C V hl.1 m_Mo_itemOf l_Mo_176 (c_Mo_itemOf l E _ _ a ad _ _ _ o k fv X.1 ho7 (by rw [va_up_n (by decide)]; exact hfv) (by omega)) rfl X.1.1 gc_Mo ⟨by first | decide | omega | (dsimp only; omega), by first | decide | omega | (dsimp only; omega)⟩ ⟨by first | decide | omega | (dsimp only; omega), by first | decide | omega | (dsimp only; omega)⟩ (Nat.le_of_ble_eq_true rfl) rfl d_Mo_writeAll_157 (fun r z9 H locs hp V1 => ?_)
          obtain ⟨rfl, he9⟩ := hp
          rw [he9] at V1
          have V := V1
          rw [va_up_n (show (10 : Nat) ≠ 53 by decide), hB9.1]
          refine W.eq (g2 := F0 m 160 ls [.int (nI (Bx k)), .ref a]) rfl ?_
          refine gh_callV C V hl.1 m_Mo_writeValue l_Mo_407 (c_Mo_writeValueM l E _ _ a ad _ _ _ b nv pb np (Bx k) _ (lv + 1) (vt_s Xo k) X.1 hit2 hkz hq.at55 ((hq.2.2 54 (by decide) (by decide)).trans h54) (by omega)) rfl X.1.1 gc_Mo ⟨by first | decide | omega | (dsimp only; omega), by first | decide | omega | (dsimp only; omega)⟩ ⟨by first | decide | omega | (dsimp only; omega), by first | decide | omega | (dsimp only; omega)⟩ (Nat.le_of_ble_eq_true rfl) rfl d_Mo_writeAll_160 (fun r z9 H locs hp V1 => ?_)
          obtain ⟨rfl, S9, I9, X2, hq2, g52, g53, gI⟩ := hp
          have hq := hq.tr hq2
          have X := X.then X2
          have V := V1
          refine W.eq (g2 := F0 m 163 ls []) rfl ?_
          rw [va_up_s] at g53
          rw [va_up_n (by decide)] at g52
          refine lv_goto (tgt := 20) hx hb d_Mo_writeAll_163 (by decide) ?_
          have hl : lv_has ls 5 [(0, .ref a), (1, .int (nI v)), (2, .int i)] := lv_sub hl [2, 3, 4] rfl
          exact hk _ I9 (Bx k) ((hq.P (x := nI (lv + 1 + 1))).eq (by unfold wr_sp; rw [if_neg hk0, if_neg (by omega)]; simp only [List.nil_append, List.append_nil, List.append_assoc])) va_up_s (by rw [g53]; simp only [upd]; rw [if_neg (by omega), if_pos (Nat.add_sub_cancel lv 1).symm]) (by rw [g52]; simp [upd]) (by rw [g53]; simp [upd]; rfl) (hit2.keep (ma_other (fun q hq => gI q (by omega) (by omega))) (Nat.le_refl _) (Nat.le_refl _) hp8) (fun q q1 q2 => by rw [gI q q1 q2, va_up_n q2]) (fun j hj => by rw [g52]; simp only [upd]; rw [if_neg (by omega)]) (fun j hj => by rw [g53]; simp only [upd]; rw [if_neg (by omega), if_neg (by omega)]) _ _ _ ls X V hl
        · have hqc := hvo.2.2.2.2.1
          rw [if_pos hk56] at hqc
          have hK9 := hKx k (by omega)
          have hK2 := hK9.2.keep hmaI (Nat.le_refl _)
          refine lv_aload_n hx hb d_Mo_writeAll_20 rfl (lv_at hl 0 rfl) ?_
          refine mo_getS (v := nI (lv + 1)) C V X 54 (by decide) (by decide) (by first | rfl | exact hS54) f_Mo_404 rfl d_Mo_writeAll_21 ?_
          refine lv_if_le (tgt := 166) hx hb d_Mo_writeAll_24 (by decide) (fun c47 => absurd c47 (nI_npos (by omega))) (fun c47 => ?_)
          refine lv_aload_n hx hb d_Mo_writeAll_27 rfl (lv_at hl 0 rfl) ?_
          refine mo_getA C V X 52 (by decide) (by decide) f_Mo_124 rfl d_Mo_writeAll_28 ?_
          refine lv_aload_n hx hb d_Mo_writeAll_31 rfl (lv_at hl 0 rfl) ?_
          refine mo_getS (v := nI (lv + 1)) C V X 54 (by decide) (by decide) (by first | rfl | exact hS54) f_Mo_404 rfl d_Mo_writeAll_32 ?_
          refine lv_iconst (v := 1) hx hb d_Mo_writeAll_35 (by decide) ?_
          refine gn_isub (a := lv + 1) (b := 1) hx hb (by omega) d_Mo_writeAll_36 ?_
          refine mo_ild (k := 52) (i := (lv + 1) - 1) (n := 10) C V X (by decide) (by decide) rfl (by omega) (by decide) d_Mo_writeAll_37 ?_
          rw [show I1 52 ((lv + 1) - 1) = nI o from h52]
          refine lv_istore_n hx hb d_Mo_writeAll_38 rfl hl (by decide) rfl (fun ls hl => ?_)
          have hl : lv_has ls 5 [(3, .int (nI o)), (0, .ref a), (1, .int (nI v)), (2, .int i)] := hl
          refine lv_aload_n hx hb d_Mo_writeAll_39 rfl (lv_at hl 1 rfl) ?_
          refine mo_getA C V X 53 (by decide) (by decide) f_Mo_127 rfl d_Mo_writeAll_40 ?_
          refine lv_aload_n hx hb d_Mo_writeAll_43 rfl (lv_at hl 1 rfl) ?_
          refine mo_getS (v := nI (lv + 1)) C V X 54 (by decide) (by decide) (by first | rfl | exact hS54) f_Mo_404 rfl d_Mo_writeAll_44 ?_
          refine lv_iconst (v := 1) hx hb d_Mo_writeAll_47 (by decide) ?_
          refine gn_isub (a := lv + 1) (b := 1) hx hb (by omega) d_Mo_writeAll_48 ?_
          refine mo_ild (k := 53) (i := (lv + 1) - 1) (n := 10) C V X (by decide) (by decide) rfl (by omega) (by decide) d_Mo_writeAll_49 ?_
          rw [show I1 53 ((lv + 1) - 1) = nI k from h53]
          refine lv_istore hx hb d_Mo_writeAll_50 hl (by decide) rfl (fun ls hl => ?_)
          have hl : lv_has ls 5 [(4, .int (nI k)), (3, .int (nI o)), (0, .ref a), (1, .int (nI v)), (2, .int i)] := hl
          refine lv_aload_n hx hb d_Mo_writeAll_52 rfl (lv_at hl 2 rfl) ?_
          refine mo_getA C V X 53 (by decide) (by decide) f_Mo_127 rfl d_Mo_writeAll_53 ?_
          refine lv_aload_n hx hb d_Mo_writeAll_56 rfl (lv_at hl 2 rfl) ?_
          refine mo_getS (v := nI (lv + 1)) C V X 54 (by decide) (by decide) (by first | rfl | exact hS54) f_Mo_404 rfl d_Mo_writeAll_57 ?_
          refine lv_iconst (v := 1) hx hb d_Mo_writeAll_60 (by decide) ?_
          refine gn_isub (a := lv + 1) (b := 1) hx hb (by omega) d_Mo_writeAll_61 ?_
          refine lv_iload hx hb d_Mo_writeAll_62 (lv_at hl 0 rfl) ?_
          refine lv_iconst (v := 1) hx hb d_Mo_writeAll_64 (by decide) ?_
          refine gn_iadd (a := k) (b := 1) hx hb d_Mo_writeAll_65 ?_
          refine mo_ist (k := 53) (i := (lv + 1) - 1) (n := 10) C V X (by decide) (by decide) rfl (by omega) (by decide) d_Mo_writeAll_66 (fun f1 H locs V1 X1 => ?_)
          clear V X
          have V := V1
          have X := X1
          clear V1 X1
          refine lv_iload hx hb d_Mo_writeAll_67 (lv_at hl 0 rfl) ?_
          refine lv_aload_n hx hb d_Mo_writeAll_69 rfl (lv_at hl 2 rfl) ?_
          refine mo_getA C V X 3 (by decide) (by decide) f_Mo_17 rfl d_Mo_writeAll_70 ?_
          refine lv_iload_n hx hb d_Mo_writeAll_73 rfl (lv_at hl 1 rfl) ?_
          refine mo_ild (k := 3) (i := o) (n := 760) C V X (by decide) (by decide) rfl (by omega) (by decide) d_Mo_writeAll_74 ?_
          rw [show (va_up I1 53 (upd (I1 53) ((lv + 1) - 1) (nI (k + 1)))) 3 o = nI (vt_c Xo) from (by first | exact h3o | (simp [va_up]; exact h3o))]
          refine lv_icmp_ne (tgt := 113) hx hb d_Mo_writeAll_75 (by decide) (fun c48 => ?_) (fun c48 => absurd c48 (nI_nem (by omega) (by omega) (by omega)))
          refine lv_iload hx hb d_Mo_writeAll_113 (lv_at hl 0 rfl) ?_
          refine lv_if_le (tgt := 124) hx hb d_Mo_writeAll_115 (by decide) (fun c49 => absurd c49 (nI_nle (by omega) (by omega))) (fun c49 => ?_)
          refine lv_aload_n hx hb d_Mo_writeAll_118 rfl (lv_at hl 2 rfl) ?_
          refine lv_bipush (v := 44) hx hb d_Mo_writeAll_119 (by decide) ?_
          refine gh_callV C V hl.1 m_Mo_write l_Mo_388 (c_Mo_wr l E _ _ a ad _ _ _ 44 _ X.1 hq.at55) rfl X.1.1 gc_Mo ⟨by first | decide | omega | (dsimp only; omega), by first | decide | omega | (dsimp only; omega)⟩ ⟨by first | decide | omega | (dsimp only; omega), by first | decide | omega | (dsimp only; omega)⟩ (Nat.le_of_ble_eq_true rfl) rfl d_Mo_writeAll_121 (fun r z9 H locs hp V1 => ?_)
          obtain ⟨rfl, S50, X2, hq2⟩ := hp
          have hq := hq.tr hq2
          have X := X.then X2
          have V := V1
          refine W.eq (g2 := F0 m 124 ls []) rfl ?_
          have hS54 : S50 54 = nI (lv + 1) := (hq.2.2 54 (by decide) (by decide)).trans h54
          refine lv_aload_n hx hb d_Mo_writeAll_124 rfl (lv_at hl 2 rfl) ?_
          refine mo_getA C V X 1 (by decide) (by decide) f_Mo_7 rfl d_Mo_writeAll_125 ?_
          refine lv_iload_n hx hb d_Mo_writeAll_128 rfl (lv_at hl 1 rfl) ?_
          refine mo_ild (k := 1) (i := o) (n := 760) C V X (by decide) (by decide) rfl (by omega) (by decide) d_Mo_writeAll_129 ?_
          rw [show (va_up I1 53 (upd (I1 53) ((lv + 1) - 1) (nI (k + 1)))) 1 o = 6 from (by first | (rw [h1o, hk56]; rfl) | (simp [va_up]; rw [h1o, hk56]; rfl))]
          refine lv_bipush (v := 6) hx hb d_Mo_writeAll_130 (by decide) ?_
          refine lv_icmp_ne (tgt := 152) hx hb d_Mo_writeAll_132 (by decide) (fun c51 => absurd (by decide) c51) (fun c51 => ?_)
          refine lv_aload_n hx hb d_Mo_writeAll_135 rfl (lv_at hl 2 rfl) ?_
          refine lv_aload_n hx hb d_Mo_writeAll_136 rfl (lv_at hl 2 rfl) ?_
          refine lv_iload_n hx hb d_Mo_writeAll_137 rfl (lv_at hl 1 rfl) ?_
          refine lv_iload hx hb d_Mo_writeAll_138 (lv_at hl 0 rfl) ?_
          refine gh_callV C V hl.1 m_Mo_keyOf l_Mo_150 (c_Mo_keyOf l E _ _ a ad _ _ _ o k fv (vt_c Xo) X.1 ho7 (by rw [va_up_n (by decide)]; exact hfv) (by rw [va_up_n (by decide)]; exact h3o) (by omega)) rfl X.1.1 gc_Mo ⟨by first | decide | omega | (dsimp only; omega), by first | decide | omega | (dsimp only; omega)⟩ ⟨by first | decide | omega | (dsimp only; omega), by first | decide | omega | (dsimp only; omega)⟩ (Nat.le_of_ble_eq_true rfl) rfl d_Mo_writeAll_140 (fun r z9 H locs hp V1 => ?_)
          obtain ⟨rfl, he9⟩ := hp
          rw [he9] at V1
          have V := V1
          rw [va_up_n (show (10 : Nat) ≠ 53 by decide), hK9.1]
          refine W.eq (g2 := F0 m 143 ls [.int (nI (Kx k)), .ref a]) rfl ?_
          refine gh_callV C V hl.1 m_Mo_writeLetters l_Mo_401 (c_Mo_writeLetters l E _ _ a ad _ _ _ (Kx k) _ ((vt_q Xo).getD k []) X.1 hK2.1.2 hK2.2.2.2.1 hK2.2.2.2.2.1 hq.at55) rfl X.1.1 gc_Mo ⟨by first | decide | omega | (dsimp only; omega), by first | decide | omega | (dsimp only; omega)⟩ ⟨by first | decide | omega | (dsimp only; omega), by first | decide | omega | (dsimp only; omega)⟩ (Nat.le_of_ble_eq_true rfl) rfl d_Mo_writeAll_143 (fun r z9 H locs hp V1 => ?_)
          obtain ⟨rfl, S52, X2, hq2⟩ := hp
          have hq := hq.tr hq2
          have X := X.then X2
          have V := V1
          have hS54 : S52 54 = nI (lv + 1) := (hq.2.2 54 (by decide) (by decide)).trans h54
          refine W.eq (g2 := F0 m 146 ls []) rfl ?_
          refine lv_aload_n hx hb d_Mo_writeAll_146 rfl (lv_at hl 2 rfl) ?_
          refine lv_bipush (v := 58) hx hb d_Mo_writeAll_147 (by decide) ?_
          refine gh_callV C V hl.1 m_Mo_write l_Mo_388 (c_Mo_wr l E _ _ a ad _ _ _ 58 _ X.1 hq.at55) rfl X.1.1 gc_Mo ⟨by first | decide | omega | (dsimp only; omega), by first | decide | omega | (dsimp only; omega)⟩ ⟨by first | decide | omega | (dsimp only; omega), by first | decide | omega | (dsimp only; omega)⟩ (Nat.le_of_ble_eq_true rfl) rfl d_Mo_writeAll_149 (fun r z9 H locs hp V1 => ?_)
          obtain ⟨rfl, S53, X2, hq2⟩ := hp
          have hq := hq.tr hq2
          have X := X.then X2
          have V := V1
          refine W.eq (g2 := F0 m 152 ls []) rfl ?_
          have hS54 : S53 54 = nI (lv + 1) := (hq.2.2 54 (by decide) (by decide)).trans h54
          refine lv_aload_n hx hb d_Mo_writeAll_152 rfl (lv_at hl 2 rfl) ?_
          refine lv_aload_n hx hb d_Mo_writeAll_153 rfl (lv_at hl 2 rfl) ?_
          refine lv_iload_n hx hb d_Mo_writeAll_154 rfl (lv_at hl 1 rfl) ?_
          refine lv_iload hx hb d_Mo_writeAll_155 (lv_at hl 0 rfl) ?_
          refine gh_callV C V hl.1 m_Mo_itemOf l_Mo_176 (c_Mo_itemOf l E _ _ a ad _ _ _ o k fv X.1 ho7 (by rw [va_up_n (by decide)]; exact hfv) (by omega)) rfl X.1.1 gc_Mo ⟨by first | decide | omega | (dsimp only; omega), by first | decide | omega | (dsimp only; omega)⟩ ⟨by first | decide | omega | (dsimp only; omega), by first | decide | omega | (dsimp only; omega)⟩ (Nat.le_of_ble_eq_true rfl) rfl d_Mo_writeAll_157 (fun r z9 H locs hp V1 => ?_)
          obtain ⟨rfl, he9⟩ := hp
          rw [he9] at V1
          have V := V1
          rw [va_up_n (show (10 : Nat) ≠ 53 by decide), hB9.1]
          refine W.eq (g2 := F0 m 160 ls [.int (nI (Bx k)), .ref a]) rfl ?_
          refine gh_callV C V hl.1 m_Mo_writeValue l_Mo_407 (c_Mo_writeValueM l E _ _ a ad _ _ _ b nv pb np (Bx k) _ (lv + 1) (vt_s Xo k) X.1 hit2 hkz hq.at55 ((hq.2.2 54 (by decide) (by decide)).trans h54) (by omega)) rfl X.1.1 gc_Mo ⟨by first | decide | omega | (dsimp only; omega), by first | decide | omega | (dsimp only; omega)⟩ ⟨by first | decide | omega | (dsimp only; omega), by first | decide | omega | (dsimp only; omega)⟩ (Nat.le_of_ble_eq_true rfl) rfl d_Mo_writeAll_160 (fun r z9 H locs hp V1 => ?_)
          obtain ⟨rfl, S9, I9, X2, hq2, g52, g53, gI⟩ := hp
          have hq := hq.tr hq2
          have X := X.then X2
          have V := V1
          refine W.eq (g2 := F0 m 163 ls []) rfl ?_
          rw [va_up_s] at g53
          rw [va_up_n (by decide)] at g52
          refine lv_goto (tgt := 20) hx hb d_Mo_writeAll_163 (by decide) ?_
          have hl : lv_has ls 5 [(0, .ref a), (1, .int (nI v)), (2, .int i)] := lv_sub hl [2, 3, 4] rfl
          exact hk _ I9 (Bx k) ((hq.P (x := nI (lv + 1 + 1))).eq (by unfold wr_sp; rw [if_neg hk0, if_pos hk56]; simp only [List.nil_append, List.append_nil, List.append_assoc])) va_up_s (by rw [g53]; simp only [upd]; rw [if_neg (by omega), if_pos (Nat.add_sub_cancel lv 1).symm]) (by rw [g52]; simp [upd]) (by rw [g53]; simp [upd]; rfl) (hit2.keep (ma_other (fun q hq => gI q (by omega) (by omega))) (Nat.le_refl _) (Nat.le_refl _) hp8) (fun q q1 q2 => by rw [gI q q1 q2, va_up_n q2]) (fun j hj => by rw [g52]; simp only [upd]; rw [if_neg (by omega)]) (fun j hj => by rw [g53]; simp only [upd]; rw [if_neg (by omega), if_neg (by omega)]) _ _ _ ls X V hl
  by_cases hk5 : vt_k O < 5
  · refine gh_callV C V hl.1 m_Mo_writeValue l_Mo_407 (c_Mo_writeValueS l E _ _ a ad _ _ _ b nv pb np v 0 O X.1 hO hk5 e55) rfl X.1.1 gc_Mo ⟨by first | decide | omega | (dsimp only; omega), by first | decide | omega | (dsimp only; omega)⟩ ⟨by first | decide | omega | (dsimp only; omega), by first | decide | omega | (dsimp only; omega)⟩ (Nat.le_of_ble_eq_true rfl) rfl d_Mo_writeAll_17 (fun r z9 H locs hp V1 => ?_)
    obtain ⟨rfl, S2, X2, hq⟩ := hp
    have X := X.then X2
    have V := V1
    refine W.eq (g2 := F0 m 20 ls []) rfl ?_
    have h5 := hfin S2 I (hq.P0.eq (by rw [wr_v_sc (d := 7) hk5])) ((hq.2.2 54 (by decide) (by decide)).trans e54) (fun _ _ _ => rfl)
    rw [hRL] at h5
    have hl : lv_has ls 5 [(0, .ref a), (1, .int (nI v)), (2, .int i)] := lv_sub hl [0, 1, 2] rfl
    exact h5 _ _ _ ls X V hl
  · refine gh_callV C V hl.1 m_Mo_writeValue l_Mo_407 (c_Mo_writeValueM l E _ _ a ad _ _ _ b nv pb np v 0 0 O X.1 hO (by omega) e55 e54 (by decide)) rfl X.1.1 gc_Mo ⟨by first | decide | omega | (dsimp only; omega), by first | decide | omega | (dsimp only; omega)⟩ ⟨by first | decide | omega | (dsimp only; omega), by first | decide | omega | (dsimp only; omega)⟩ (Nat.le_of_ble_eq_true rfl) rfl d_Mo_writeAll_17 (fun r z9 H locs hp V1 => ?_)
    obtain ⟨rfl, S2, I2, X2, hq, h52, h53, hI⟩ := hp
    have X := X.then X2
    have V := V1
    refine W.eq (g2 := F0 m 20 ls []) rfl ?_
    have hvo := (vo_o.mp hO.2).2.2.2.2.2.2.2.2.1.1
    have h5 : RL (va_up S2 54 (nI (0 + 1))) I2 := by
      refine wl_all hcl hp8 7 O v (by omega) hvo (vt_c O) 0 (by omega) _ _ 0 _ (by omega) va_up_s (hq.P (x := nI (0 + 1))).at55 (by rw [h52]; simp [upd]) (by rw [h53]; simp [upd]; rfl) (hO.keep (ma_other (fun q hq => hI q (by omega) (by omega))) (Nat.le_refl _) (Nat.le_refl _) hp8) (fun S3 I3 g1 g2 g3 g4 => ?_)
      refine hfin S3 I3 (((hq.P (x := nI (0 + 1))).tr g1).eq ?_) g2 (fun q q1 q2 => (g3 q q1 q2).trans (hI q q1 q2))
      rw [wr_v_many (d := 7) (by omega)]; simp only [List.append_assoc]
    rw [hRL] at h5
    have hl : lv_has ls 5 [(0, .ref a), (1, .int (nI v)), (2, .int i)] := lv_sub hl [0, 1, 2] rfl
    exact h5 _ _ _ ls X V hl
