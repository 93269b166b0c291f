/-! isInteger of the model. Printed by wip/whole/gen_mo36.py. -/
theorem d_Mo_isInteger_0 : decode b_Mo_isInteger 0 = .ok (.aload_n 0, 1) := by decide +kernel
theorem d_Mo_isInteger_1 : decode b_Mo_isInteger 1 = .ok (.invokevirtual 185, 3) := by decide +kernel
theorem d_Mo_isInteger_4 : decode b_Mo_isInteger 4 = .ok (.bipush 45, 2) := by decide +kernel
theorem d_Mo_isInteger_6 : decode b_Mo_isInteger 6 = .ok (.if_icmp .ne 7, 3) := by decide +kernel
theorem d_Mo_isInteger_9 : decode b_Mo_isInteger 9 = .ok (.iconst 1, 1) := by decide +kernel
theorem d_Mo_isInteger_10 : decode b_Mo_isInteger 10 = .ok (.goto 4, 3) := by decide +kernel
theorem d_Mo_isInteger_13 : decode b_Mo_isInteger 13 = .ok (.iconst 0, 1) := by decide +kernel
theorem d_Mo_isInteger_14 : decode b_Mo_isInteger 14 = .ok (.istore_n 1, 1) := by decide +kernel
theorem d_Mo_isInteger_15 : decode b_Mo_isInteger 15 = .ok (.iload_n 1, 1) := by decide +kernel
theorem d_Mo_isInteger_16 : decode b_Mo_isInteger 16 = .ok (.ifCond .eq 13, 3) := by decide +kernel
theorem d_Mo_isInteger_19 : decode b_Mo_isInteger 19 = .ok (.aload_n 0, 1) := by decide +kernel
theorem d_Mo_isInteger_20 : decode b_Mo_isInteger 20 = .ok (.dup, 1) := by decide +kernel
theorem d_Mo_isInteger_21 : decode b_Mo_isInteger 21 = .ok (.getfield 179, 3) := by decide +kernel
theorem d_Mo_isInteger_24 : decode b_Mo_isInteger 24 = .ok (.iconst 1, 1) := by decide +kernel
theorem d_Mo_isInteger_25 : decode b_Mo_isInteger 25 = .ok (.iadd, 1) := by decide +kernel
theorem d_Mo_isInteger_26 : decode b_Mo_isInteger 26 = .ok (.putfield 179, 3) := by decide +kernel
theorem d_Mo_isInteger_29 : decode b_Mo_isInteger 29 = .ok (.aload_n 0, 1) := by decide +kernel
theorem d_Mo_isInteger_30 : decode b_Mo_isInteger 30 = .ok (.invokevirtual 192, 3) := by decide +kernel
theorem d_Mo_isInteger_33 : decode b_Mo_isInteger 33 = .ok (.ifCond .ne 5, 3) := by decide +kernel
theorem d_Mo_isInteger_36 : decode b_Mo_isInteger 36 = .ok (.iconst 0, 1) := by decide +kernel
theorem d_Mo_isInteger_37 : decode b_Mo_isInteger 37 = .ok (.ireturn, 1) := by decide +kernel
theorem d_Mo_isInteger_38 : decode b_Mo_isInteger 38 = .ok (.aload_n 0, 1) := by decide +kernel
theorem d_Mo_isInteger_39 : decode b_Mo_isInteger 39 = .ok (.invokevirtual 185, 3) := by decide +kernel
theorem d_Mo_isInteger_42 : decode b_Mo_isInteger 42 = .ok (.bipush 48, 2) := by decide +kernel
theorem d_Mo_isInteger_44 : decode b_Mo_isInteger 44 = .ok (.if_icmp .ne 7, 3) := by decide +kernel
theorem d_Mo_isInteger_47 : decode b_Mo_isInteger 47 = .ok (.iconst 1, 1) := by decide +kernel
theorem d_Mo_isInteger_48 : decode b_Mo_isInteger 48 = .ok (.goto 4, 3) := by decide +kernel
theorem d_Mo_isInteger_51 : decode b_Mo_isInteger 51 = .ok (.iconst 0, 1) := by decide +kernel
theorem d_Mo_isInteger_52 : decode b_Mo_isInteger 52 = .ok (.istore_n 2, 1) := by decide +kernel
theorem d_Mo_isInteger_53 : decode b_Mo_isInteger 53 = .ok (.lconst 0, 1) := by decide +kernel
theorem d_Mo_isInteger_54 : decode b_Mo_isInteger 54 = .ok (.lstore_n 3, 1) := by decide +kernel
theorem d_Mo_isInteger_55 : decode b_Mo_isInteger 55 = .ok (.aload_n 0, 1) := by decide +kernel
theorem d_Mo_isInteger_56 : decode b_Mo_isInteger 56 = .ok (.invokevirtual 192, 3) := by decide +kernel
theorem d_Mo_isInteger_59 : decode b_Mo_isInteger 59 = .ok (.ifCond .eq 88, 3) := by decide +kernel
theorem d_Mo_isInteger_62 : decode b_Mo_isInteger 62 = .ok (.aload_n 0, 1) := by decide +kernel
theorem d_Mo_isInteger_63 : decode b_Mo_isInteger 63 = .ok (.invokevirtual 185, 3) := by decide +kernel
theorem d_Mo_isInteger_66 : decode b_Mo_isInteger 66 = .ok (.i2l, 1) := by decide +kernel
theorem d_Mo_isInteger_67 : decode b_Mo_isInteger 67 = .ok (.ldc2_w 196, 3) := by decide +kernel
theorem d_Mo_isInteger_70 : decode b_Mo_isInteger 70 = .ok (.lsub, 1) := by decide +kernel
theorem d_Mo_isInteger_71 : decode b_Mo_isInteger 71 = .ok (.lstore 5, 2) := by decide +kernel
theorem d_Mo_isInteger_73 : decode b_Mo_isInteger 73 = .ok (.iload_n 1, 1) := by decide +kernel
theorem d_Mo_isInteger_74 : decode b_Mo_isInteger 74 = .ok (.ifCond .eq 9, 3) := by decide +kernel
theorem d_Mo_isInteger_77 : decode b_Mo_isInteger 77 = .ok (.ldc2_w 198, 3) := by decide +kernel
theorem d_Mo_isInteger_80 : decode b_Mo_isInteger 80 = .ok (.goto 6, 3) := by decide +kernel
theorem d_Mo_isInteger_83 : decode b_Mo_isInteger 83 = .ok (.ldc2_w 200, 3) := by decide +kernel
theorem d_Mo_isInteger_86 : decode b_Mo_isInteger 86 = .ok (.lstore 7, 2) := by decide +kernel
theorem d_Mo_isInteger_88 : decode b_Mo_isInteger 88 = .ok (.lload_n 3, 1) := by decide +kernel
theorem d_Mo_isInteger_89 : decode b_Mo_isInteger 89 = .ok (.ldc2_w 202, 3) := by decide +kernel
theorem d_Mo_isInteger_92 : decode b_Mo_isInteger 92 = .ok (.lcmp, 1) := by decide +kernel
theorem d_Mo_isInteger_93 : decode b_Mo_isInteger 93 = .ok (.ifCond .lt 17, 3) := by decide +kernel
theorem d_Mo_isInteger_96 : decode b_Mo_isInteger 96 = .ok (.ldc2_w 204, 3) := by decide +kernel
theorem d_Mo_isInteger_99 : decode b_Mo_isInteger 99 = .ok (.lload_n 3, 1) := by decide +kernel
theorem d_Mo_isInteger_100 : decode b_Mo_isInteger 100 = .ok (.lmul, 1) := by decide +kernel
theorem d_Mo_isInteger_101 : decode b_Mo_isInteger 101 = .ok (.lload 7, 2) := by decide +kernel
theorem d_Mo_isInteger_103 : decode b_Mo_isInteger 103 = .ok (.lload 5, 2) := by decide +kernel
theorem d_Mo_isInteger_105 : decode b_Mo_isInteger 105 = .ok (.ladd, 1) := by decide +kernel
theorem d_Mo_isInteger_106 : decode b_Mo_isInteger 106 = .ok (.lcmp, 1) := by decide +kernel
theorem d_Mo_isInteger_107 : decode b_Mo_isInteger 107 = .ok (.ifCond .ge 5, 3) := by decide +kernel
theorem d_Mo_isInteger_110 : decode b_Mo_isInteger 110 = .ok (.iconst 0, 1) := by decide +kernel
theorem d_Mo_isInteger_111 : decode b_Mo_isInteger 111 = .ok (.ireturn, 1) := by decide +kernel
theorem d_Mo_isInteger_112 : decode b_Mo_isInteger 112 = .ok (.ldc2_w 204, 3) := by decide +kernel
theorem d_Mo_isInteger_115 : decode b_Mo_isInteger 115 = .ok (.lload_n 3, 1) := by decide +kernel
theorem d_Mo_isInteger_116 : decode b_Mo_isInteger 116 = .ok (.lmul, 1) := by decide +kernel
theorem d_Mo_isInteger_117 : decode b_Mo_isInteger 117 = .ok (.lload 5, 2) := by decide +kernel
theorem d_Mo_isInteger_119 : decode b_Mo_isInteger 119 = .ok (.lsub, 1) := by decide +kernel
theorem d_Mo_isInteger_120 : decode b_Mo_isInteger 120 = .ok (.lstore_n 3, 1) := by decide +kernel
theorem d_Mo_isInteger_121 : decode b_Mo_isInteger 121 = .ok (.aload_n 0, 1) := by decide +kernel
theorem d_Mo_isInteger_122 : decode b_Mo_isInteger 122 = .ok (.dup, 1) := by decide +kernel
theorem d_Mo_isInteger_123 : decode b_Mo_isInteger 123 = .ok (.getfield 179, 3) := by decide +kernel
theorem d_Mo_isInteger_126 : decode b_Mo_isInteger 126 = .ok (.iconst 1, 1) := by decide +kernel
theorem d_Mo_isInteger_127 : decode b_Mo_isInteger 127 = .ok (.iadd, 1) := by decide +kernel
theorem d_Mo_isInteger_128 : decode b_Mo_isInteger 128 = .ok (.putfield 179, 3) := by decide +kernel
theorem d_Mo_isInteger_131 : decode b_Mo_isInteger 131 = .ok (.iload_n 2, 1) := by decide +kernel
theorem d_Mo_isInteger_132 : decode b_Mo_isInteger 132 = .ok (.ifCond .eq 12, 3) := by decide +kernel
theorem d_Mo_isInteger_135 : decode b_Mo_isInteger 135 = .ok (.aload_n 0, 1) := by decide +kernel
theorem d_Mo_isInteger_136 : decode b_Mo_isInteger 136 = .ok (.invokevirtual 192, 3) := by decide +kernel
theorem d_Mo_isInteger_139 : decode b_Mo_isInteger 139 = .ok (.ifCond .eq 5, 3) := by decide +kernel
theorem d_Mo_isInteger_142 : decode b_Mo_isInteger 142 = .ok (.iconst 0, 1) := by decide +kernel
theorem d_Mo_isInteger_143 : decode b_Mo_isInteger 143 = .ok (.ireturn, 1) := by decide +kernel
theorem d_Mo_isInteger_144 : decode b_Mo_isInteger 144 = .ok (.goto (-89), 3) := by decide +kernel
theorem d_Mo_isInteger_147 : decode b_Mo_isInteger 147 = .ok (.aload_n 0, 1) := by decide +kernel
theorem d_Mo_isInteger_148 : decode b_Mo_isInteger 148 = .ok (.getfield 206, 3) := by decide +kernel
theorem d_Mo_isInteger_151 : decode b_Mo_isInteger 151 = .ok (.ifCond .eq 22, 3) := by decide +kernel
theorem d_Mo_isInteger_154 : decode b_Mo_isInteger 154 = .ok (.aload_n 0, 1) := by decide +kernel
theorem d_Mo_isInteger_155 : decode b_Mo_isInteger 155 = .ok (.aload_n 0, 1) := by decide +kernel
theorem d_Mo_isInteger_156 : decode b_Mo_isInteger 156 = .ok (.iconst 3, 1) := by decide +kernel
theorem d_Mo_isInteger_157 : decode b_Mo_isInteger 157 = .ok (.iload_n 1, 1) := by decide +kernel
theorem d_Mo_isInteger_158 : decode b_Mo_isInteger 158 = .ok (.ifCond .eq 7, 3) := by decide +kernel
theorem d_Mo_isInteger_161 : decode b_Mo_isInteger 161 = .ok (.lload_n 3, 1) := by decide +kernel
theorem d_Mo_isInteger_162 : decode b_Mo_isInteger 162 = .ok (.goto 5, 3) := by decide +kernel
theorem d_Mo_isInteger_165 : decode b_Mo_isInteger 165 = .ok (.lload_n 3, 1) := by decide +kernel
theorem d_Mo_isInteger_166 : decode b_Mo_isInteger 166 = .ok (.lneg, 1) := by decide +kernel
theorem d_Mo_isInteger_167 : decode b_Mo_isInteger 167 = .ok (.invokevirtual 159, 3) := by decide +kernel
theorem d_Mo_isInteger_170 : decode b_Mo_isInteger 170 = .ok (.putfield 189, 3) := by decide +kernel
theorem d_Mo_isInteger_173 : decode b_Mo_isInteger 173 = .ok (.iconst 1, 1) := by decide +kernel
theorem d_Mo_isInteger_174 : decode b_Mo_isInteger 174 = .ok (.ireturn, 1) := by decide +kernel
set_option maxHeartbeats 4000000 in
set_option maxRecDepth 100000 in
theorem c_Mo_isIntegerF (l : Launch) (E : gh_E) (sz : Nat) (f : gh_F) (a : Nat) (ad : Nat → Nat) (S : Nat → Int32) (I : Nat → Nat → Int32) (J : Nat → Nat → Int64) (tx : Nat → Nat) (n pl : Nat) (nv np : Nat) (hX : mo_R E f a ad S I J) (hT : rT tx n S I) (h21 : S 21 = nI pl) (hp : pl ≤ n) (h27 : S 27 = 0) : gh_M l y_Mo_isInteger b_Mo_isInteger 9 (some .boolean) E sz [.ref a] f { frames := 7, cells := 0, slots := 0, locals := 160 } (fun r g => r = some (.int (gh_bi (rd_i tx n true pl).2.isSome)) ∧ ∃ S2 I2 J2, mo_X E f g a ad S2 I2 J2 ∧ S2 21 = nI (rd_i tx n true pl).1 ∧ rO false S I J nv np ((rd_i tx n true pl).2.map vt_i) S2 I2 J2) := by
  have hsg := fun q => (hT.ch q).1
  have hS21 := h21
  have hT0 := hT
  have hS27 := h27
  have h120 := hT.2.1
  have hs0 := hsg pl
  refine gh_open (by decide) (Nat.le_of_ble_eq_true rfl) ?_
  intro p e s m args below meth c A ls hAe C V hr hlocks hname hl
  have hx := C.1
  have hb := C.2.1
  have hl : lv_has ls 9 [(0, .ref a)] := hl
  have X : mo_X E f f a ad S I J := ⟨hX, gh_fr.rf⟩
  by_cases hng : sg tx n pl = 45
  · have hpn := sg_lt (by omega : sg tx n pl ≠ 0)
    have hs1 := hsg (pl + 1)
    have hs2 := hsg (pl + 1 + 1)
    by_cases hdg : 48 ≤ sg tx n (pl + 1) ∧ sg tx n (pl + 1) ≤ 57
    · have hq1 := sg_lt (by omega : sg tx n (pl + 1) ≠ 0)
      by_cases hz0 : sg tx n (pl + 1) = 48
      · by_cases hd2 : 48 ≤ sg tx n (pl + 1 + 1) ∧ sg tx n (pl + 1 + 1) ≤ 57
        · refine lv_aload_n hx hb d_Mo_isInteger_0 rfl (lv_at hl 0 rfl) ?_
          refine gh_callV C V hl.1 m_Mo_peek l_Mo_185 (c_Mo_pk l E _ _ a ad _ _ _ tx n pl X.1 hT h21 (by omega)) rfl X.1.1 gc_Mo ⟨by first | decide | omega | (dsimp only; omega), by first | decide | omega | (dsimp only; omega)⟩ ⟨by first | decide | omega | (dsimp only; omega), by first | decide | omega | (dsimp only; omega)⟩ (Nat.le_of_ble_eq_true rfl) rfl d_Mo_isInteger_1 (fun r z9 H locs hp9 V1 => ?_)
          obtain ⟨rfl, he9⟩ := hp9
          rw [he9] at V1
          have V := V1
          refine W.eq (g2 := F0 m 4 ls [.int (pek (sg tx n pl))]) rfl ?_
          refine lv_bipush (v := 45) hx hb d_Mo_isInteger_4 (by decide) ?_
          refine lv_icmp_ne (tgt := 13) hx hb d_Mo_isInteger_6 (by decide) (fun c1 => absurd ((pek_eq (k := 45) (by omega) (by omega) (by omega)).mpr hng) c1) (fun c1 => ?_)
          refine lv_iconst (v := 1) hx hb d_Mo_isInteger_9 (by decide) ?_
          refine lv_goto (tgt := 14) hx hb d_Mo_isInteger_10 (by decide) ?_
          refine lv_istore_n hx hb d_Mo_isInteger_14 rfl hl (by decide) rfl (fun ls hl => ?_)
          have hl : lv_has ls 9 [(1, .int 1), (0, .ref a)] := hl
          refine lv_iload_n hx hb d_Mo_isInteger_15 rfl (lv_at hl 0 rfl) ?_
          refine lv_if_eq (tgt := 29) hx hb d_Mo_isInteger_16 (by decide) (fun c2 => absurd c2 (by decide)) (fun c2 => ?_)
          refine lv_aload_n hx hb d_Mo_isInteger_19 rfl (lv_at hl 1 rfl) ?_
          refine lv_dup hx hb d_Mo_isInteger_20 rfl ?_
          refine mo_getS (v := nI pl) C V X 21 (by decide) (by decide) (by first | rfl | exact hS21) f_Mo_179 rfl d_Mo_isInteger_21 ?_
          refine lv_iconst (v := 1) hx hb d_Mo_isInteger_24 (by decide) ?_
          refine gn_iadd (a := pl) (b := 1) hx hb d_Mo_isInteger_25 ?_
          refine mo_putS C V X 21 (by decide) (by decide) f_Mo_179 rfl rfl rfl d_Mo_isInteger_26 (fun f1 H locs V1 X1 => ?_)
          clear V X
          have V := V1
          have X := X1
          clear V1 X1
          have h21 : (va_up S 21 (nI (pl + 1))) 21 = nI (pl + 1) := va_up_s
          have hS21 := h21
          have hT : rT tx n (va_up S 21 (nI (pl + 1))) I := hT.keep (va_up_n (by decide)) rfl
          refine lv_aload_n hx hb d_Mo_isInteger_29 rfl (lv_at hl 1 rfl) ?_
          refine gh_callV C V hl.1 m_Mo_isDigit l_Mo_192 (c_Mo_isDigit l E _ _ a ad _ _ _ tx n (pl + 1) X.1 hT h21 (by omega)) rfl X.1.1 gc_Mo ⟨by first | decide | omega | (dsimp only; omega), by first | decide | omega | (dsimp only; omega)⟩ ⟨by first | decide | omega | (dsimp only; omega), by first | decide | omega | (dsimp only; omega)⟩ (Nat.le_of_ble_eq_true rfl) rfl d_Mo_isInteger_30 (fun r z9 H locs hp9 V1 => ?_)
          obtain ⟨rfl, he9⟩ := hp9
          rw [he9] at V1
          have V := V1
          rw [decide_eq_true hdg]
          refine W.eq (g2 := F0 m 33 ls [.int (gh_bi true)]) rfl ?_
          refine lv_if_ne (tgt := 38) hx hb d_Mo_isInteger_33 (by decide) (fun c3 => ?_) (fun c3 => absurd c3 (by decide))
          refine lv_aload_n hx hb d_Mo_isInteger_38 rfl (lv_at hl 1 rfl) ?_
          refine gh_callV C V hl.1 m_Mo_peek l_Mo_185 (c_Mo_pk l E _ _ a ad _ _ _ tx n (pl + 1) X.1 hT h21 (by omega)) rfl X.1.1 gc_Mo ⟨by first | decide | omega | (dsimp only; omega), by first | decide | omega | (dsimp only; omega)⟩ ⟨by first | decide | omega | (dsimp only; omega), by first | decide | omega | (dsimp only; omega)⟩ (Nat.le_of_ble_eq_true rfl) rfl d_Mo_isInteger_39 (fun r z9 H locs hp9 V1 => ?_)
          obtain ⟨rfl, he9⟩ := hp9
          rw [he9] at V1
          have V := V1
          refine W.eq (g2 := F0 m 42 ls [.int (pek (sg tx n (pl + 1)))]) rfl ?_
          refine lv_bipush (v := 48) hx hb d_Mo_isInteger_42 (by decide) ?_
          refine lv_icmp_ne (tgt := 51) hx hb d_Mo_isInteger_44 (by decide) (fun c4 => absurd ((pek_eq (k := 48) (by omega) (by omega) (by omega)).mpr hz0) c4) (fun c4 => ?_)
          refine lv_iconst (v := 1) hx hb d_Mo_isInteger_47 (by decide) ?_
          refine lv_goto (tgt := 52) hx hb d_Mo_isInteger_48 (by decide) ?_
          refine lv_istore_n hx hb d_Mo_isInteger_52 rfl hl (by decide) rfl (fun ls hl => ?_)
          have hl : lv_has ls 9 [(2, .int 1), (1, .int 1), (0, .ref a)] := hl
          refine lv_lconst (v := 0) hx hb d_Mo_isInteger_53 (by decide) ?_
          refine lv_lstore_n hx hb d_Mo_isInteger_54 rfl hl (by decide) rfl (fun ls hl => ?_)
          have hl : lv_has ls 9 [(3, .long 0), (2, .int 1), (1, .int 1), (0, .ref a)] := hl
          have hl : lv_has ls 9 [(3, .long (Int64.ofInt 0)), (2, .int 1), (1, .int 1), (0, .ref a)] := hl
          refine lv_aload_n hx hb d_Mo_isInteger_55 rfl (lv_at hl 3 rfl) ?_
          refine gh_callV C V hl.1 m_Mo_isDigit l_Mo_192 (c_Mo_isDigit l E _ _ a ad _ _ _ tx n (pl + 1) X.1 hT h21 (by omega)) rfl X.1.1 gc_Mo ⟨by first | decide | omega | (dsimp only; omega), by first | decide | omega | (dsimp only; omega)⟩ ⟨by first | decide | omega | (dsimp only; omega), by first | decide | omega | (dsimp only; omega)⟩ (Nat.le_of_ble_eq_true rfl) rfl d_Mo_isInteger_56 (fun r z9 H locs hp9 V1 => ?_)
          obtain ⟨rfl, he9⟩ := hp9
          rw [he9] at V1
          have V := V1
          rw [decide_eq_true hdg]
          refine W.eq (g2 := F0 m 59 ls [.int (gh_bi true)]) rfl ?_
          refine lv_if_eq (tgt := 147) hx hb d_Mo_isInteger_59 (by decide) (fun c5 => absurd c5 (by decide)) (fun c5 => ?_)
          refine lv_aload_n hx hb d_Mo_isInteger_62 rfl (lv_at hl 3 rfl) ?_
          refine gh_callV C V hl.1 m_Mo_peek l_Mo_185 (c_Mo_pk l E _ _ a ad _ _ _ tx n (pl + 1) X.1 hT h21 (by omega)) rfl X.1.1 gc_Mo ⟨by first | decide | omega | (dsimp only; omega), by first | decide | omega | (dsimp only; omega)⟩ ⟨by first | decide | omega | (dsimp only; omega), by first | decide | omega | (dsimp only; omega)⟩ (Nat.le_of_ble_eq_true rfl) rfl d_Mo_isInteger_63 (fun r z9 H locs hp9 V1 => ?_)
          obtain ⟨rfl, he9⟩ := hp9
          rw [he9] at V1
          have V := V1
          refine W.eq (g2 := F0 m 66 ls [.int (pek (sg tx n (pl + 1)))]) rfl ?_
          refine lv_i2l hx hb d_Mo_isInteger_66 rfl ?_
          refine lv_ldc2 (v := 48) hx hb C.2.2.2.1 (C.2.2.2.2.1 _ kl_Mo_196) d_Mo_isInteger_67 ?_
          refine lv_lsub hx hb d_Mo_isInteger_70 ?_
          rw [ri_d (c := sg tx n (pl + 1)) (by omega) (by omega)]
          refine lv_lstore hx hb d_Mo_isInteger_71 hl (by decide) rfl (fun ls hl => ?_)
          have hl : lv_has ls 9 [(5, .long (lN (sg tx n (pl + 1) - 48))), (3, .long (Int64.ofInt 0)), (2, .int 1), (1, .int 1), (0, .ref a)] := hl
          refine lv_iload_n hx hb d_Mo_isInteger_73 rfl (lv_at hl 3 rfl) ?_
          refine lv_if_eq (tgt := 83) hx hb d_Mo_isInteger_74 (by decide) (fun c6 => absurd c6 (by decide)) (fun c6 => ?_)
          refine lv_ldc2 (v := (-9223372036854775808)) hx hb C.2.2.2.1 (C.2.2.2.2.1 _ kl_Mo_198) d_Mo_isInteger_77 ?_
          refine lv_goto (tgt := 86) hx hb d_Mo_isInteger_80 (by decide) ?_
          refine lv_lstore hx hb d_Mo_isInteger_86 hl (by decide) rfl (fun ls hl => ?_)
          have hl : lv_has ls 9 [(7, .long ((-9223372036854775808))), (5, .long (lN (sg tx n (pl + 1) - 48))), (3, .long (Int64.ofInt 0)), (2, .int 1), (1, .int 1), (0, .ref a)] := hl
          have hl : lv_has ls 9 [(7, .long (rd_lL true)), (5, .long (lN (sg tx n (pl + 1) - 48))), (3, .long (Int64.ofInt 0)), (2, .int 1), (1, .int 1), (0, .ref a)] := hl
          refine lv_lload_n hx hb d_Mo_isInteger_88 rfl (lv_at hl 2 rfl) ?_
          refine lv_ldc2 (v := (-922337203685477580)) hx hb C.2.2.2.1 (C.2.2.2.2.1 _ kl_Mo_202) d_Mo_isInteger_89 ?_
          refine W.lcmp hx hb d_Mo_isInteger_92 ?_
          refine lv_if_lt (tgt := 110) hx hb d_Mo_isInteger_93 (by decide) (fun c7 => absurd c7 (fun z => absurd ((ri_c1 (z := 0) (by decide) (by decide)).mp z) (by decide))) (fun c7 => ?_)
          refine lv_ldc2 (v := 10) hx hb C.2.2.2.1 (C.2.2.2.2.1 _ kl_Mo_204) d_Mo_isInteger_96 ?_
          refine lv_lload_n hx hb d_Mo_isInteger_99 rfl (lv_at hl 2 rfl) ?_
          refine lv_lmul hx hb d_Mo_isInteger_100 ?_
          refine lv_lload hx hb d_Mo_isInteger_101 (lv_at hl 0 rfl) ?_
          refine lv_lload hx hb d_Mo_isInteger_103 (lv_at hl 1 rfl) ?_
          refine lv_ladd hx hb d_Mo_isInteger_105 ?_
          refine W.lcmp hx hb d_Mo_isInteger_106 ?_
          refine lv_if_ge (tgt := 112) hx hb d_Mo_isInteger_107 (by decide) (fun c8 => ?_) (fun c8 => absurd (Int32.not_lt.mp (fun z => absurd ((ri_c2 (z := 0) (neg := true) (d := sg tx n (pl + 1) - 48) (by decide) (by decide) (by omega)).mp z) (by have h9 : rd_ls true ≤ -9223372036854775807 := (by decide); omega))) c8)
          refine lv_ldc2 (v := 10) hx hb C.2.2.2.1 (C.2.2.2.2.1 _ kl_Mo_204) d_Mo_isInteger_112 ?_
          refine lv_lload_n hx hb d_Mo_isInteger_115 rfl (lv_at hl 2 rfl) ?_
          refine lv_lmul hx hb d_Mo_isInteger_116 ?_
          refine lv_lload hx hb d_Mo_isInteger_117 (lv_at hl 1 rfl) ?_
          refine lv_lsub hx hb d_Mo_isInteger_119 ?_
          rw [ri_n]
          refine lv_lstore_n hx hb d_Mo_isInteger_120 rfl hl (by decide) rfl (fun ls hl => ?_)
          have hl : lv_has ls 9 [(3, .long (Int64.ofInt (10 * 0 - ((sg tx n (pl + 1) - 48 : Nat) : Int)))), (7, .long (rd_lL true)), (5, .long (lN (sg tx n (pl + 1) - 48))), (2, .int 1), (1, .int 1), (0, .ref a)] := hl
          refine lv_aload_n hx hb d_Mo_isInteger_121 rfl (lv_at hl 5 rfl) ?_
          refine lv_dup hx hb d_Mo_isInteger_122 rfl ?_
          refine mo_getS (v := nI (pl + 1)) C V X 21 (by decide) (by decide) (by first | rfl | exact hS21) f_Mo_179 rfl d_Mo_isInteger_123 ?_
          refine lv_iconst (v := 1) hx hb d_Mo_isInteger_126 (by decide) ?_
          refine gn_iadd (a := pl + 1) (b := 1) hx hb d_Mo_isInteger_127 ?_
          refine mo_putS C V X 21 (by decide) (by decide) f_Mo_179 rfl rfl rfl d_Mo_isInteger_128 (fun f1 H locs V1 X1 => ?_)
          clear V X
          have V := V1
          have X := X1
          clear V1 X1
          have h21 : (va_up (va_up S 21 (nI (pl + 1))) 21 (nI ((pl + 1) + 1))) 21 = nI ((pl + 1) + 1) := va_up_s
          have hS21 := h21
          have hT : rT tx n (va_up (va_up S 21 (nI (pl + 1))) 21 (nI ((pl + 1) + 1))) I := hT.keep (va_up_n (by decide)) rfl
          refine lv_iload_n hx hb d_Mo_isInteger_131 rfl (lv_at hl 3 rfl) ?_
          refine lv_if_eq (tgt := 144) hx hb d_Mo_isInteger_132 (by decide) (fun c9 => absurd c9 (by decide)) (fun c9 => ?_)
          refine lv_aload_n hx hb d_Mo_isInteger_135 rfl (lv_at hl 5 rfl) ?_
          refine gh_callV C V hl.1 m_Mo_isDigit l_Mo_192 (c_Mo_isDigit l E _ _ a ad _ _ _ tx n (pl + 1 + 1) X.1 hT h21 (by omega)) rfl X.1.1 gc_Mo ⟨by first | decide | omega | (dsimp only; omega), by first | decide | omega | (dsimp only; omega)⟩ ⟨by first | decide | omega | (dsimp only; omega), by first | decide | omega | (dsimp only; omega)⟩ (Nat.le_of_ble_eq_true rfl) rfl d_Mo_isInteger_136 (fun r z9 H locs hp9 V1 => ?_)
          obtain ⟨rfl, he9⟩ := hp9
          rw [he9] at V1
          have V := V1
          rw [decide_eq_true hd2]
          refine W.eq (g2 := F0 m 139 ls [.int (gh_bi true)]) rfl ?_
          refine lv_if_eq (tgt := 144) hx hb d_Mo_isInteger_139 (by decide) (fun c10 => absurd c10 (by decide)) (fun c10 => ?_)
          refine lv_iconst (v := 0) hx hb d_Mo_isInteger_142 (by decide) ?_
          refine gh_retz hAe C V hr (by first | rfl | decide) hlocks d_Mo_isInteger_143 (by first | decide | omega | (dsimp only; omega)) (by first | decide | omega | (dsimp only; omega)) ?_
          have hrd9 : rd_i tx n true pl = (pl + 1 + 1, none) := by
            rw [rd_i_n hng]
            unfold rd_j; rw [if_neg (fun z => z hdg), if_pos hz0, if_pos ⟨rfl, hd2⟩]
          rw [hrd9]
          exact ⟨rfl, _, _, _, X, h21, ⟨fun _ => ⟨fun k a1 a2 => (by first | rfl | exact hS k a1 | (rw [va_up_n a1] <;> first | rfl | exact hS k a1) | (rw [va_up_n a1, va_up_n a1] <;> first | rfl | exact hS k a1)), rfl, rfl⟩, fun z => (by cases z)⟩⟩
        · refine lv_aload_n hx hb d_Mo_isInteger_0 rfl (lv_at hl 0 rfl) ?_
          refine gh_callV C V hl.1 m_Mo_peek l_Mo_185 (c_Mo_pk l E _ _ a ad _ _ _ tx n pl X.1 hT h21 (by omega)) rfl X.1.1 gc_Mo ⟨by first | decide | omega | (dsimp only; omega), by first | decide | omega | (dsimp only; omega)⟩ ⟨by first | decide | omega | (dsimp only; omega), by first | decide | omega | (dsimp only; omega)⟩ (Nat.le_of_ble_eq_true rfl) rfl d_Mo_isInteger_1 (fun r z9 H locs hp9 V1 => ?_)
          obtain ⟨rfl, he9⟩ := hp9
          rw [he9] at V1
          have V := V1
          refine W.eq (g2 := F0 m 4 ls [.int (pek (sg tx n pl))]) rfl ?_
          refine lv_bipush (v := 45) hx hb d_Mo_isInteger_4 (by decide) ?_
          refine lv_icmp_ne (tgt := 13) hx hb d_Mo_isInteger_6 (by decide) (fun c11 => absurd ((pek_eq (k := 45) (by omega) (by omega) (by omega)).mpr hng) c11) (fun c11 => ?_)
          refine lv_iconst (v := 1) hx hb d_Mo_isInteger_9 (by decide) ?_
          refine lv_goto (tgt := 14) hx hb d_Mo_isInteger_10 (by decide) ?_
          refine lv_istore_n hx hb d_Mo_isInteger_14 rfl hl (by decide) rfl (fun ls hl => ?_)
          have hl : lv_has ls 9 [(1, .int 1), (0, .ref a)] := hl
          refine lv_iload_n hx hb d_Mo_isInteger_15 rfl (lv_at hl 0 rfl) ?_
          refine lv_if_eq (tgt := 29) hx hb d_Mo_isInteger_16 (by decide) (fun c12 => absurd c12 (by decide)) (fun c12 => ?_)
          refine lv_aload_n hx hb d_Mo_isInteger_19 rfl (lv_at hl 1 rfl) ?_
          refine lv_dup hx hb d_Mo_isInteger_20 rfl ?_
          refine mo_getS (v := nI pl) C V X 21 (by decide) (by decide) (by first | rfl | exact hS21) f_Mo_179 rfl d_Mo_isInteger_21 ?_
          refine lv_iconst (v := 1) hx hb d_Mo_isInteger_24 (by decide) ?_
          refine gn_iadd (a := pl) (b := 1) hx hb d_Mo_isInteger_25 ?_
          refine mo_putS C V X 21 (by decide) (by decide) f_Mo_179 rfl rfl rfl d_Mo_isInteger_26 (fun f1 H locs V1 X1 => ?_)
          clear V X
          have V := V1
          have X := X1
          clear V1 X1
          have h21 : (va_up S 21 (nI (pl + 1))) 21 = nI (pl + 1) := va_up_s
          have hS21 := h21
          have hT : rT tx n (va_up S 21 (nI (pl + 1))) I := hT.keep (va_up_n (by decide)) rfl
          refine lv_aload_n hx hb d_Mo_isInteger_29 rfl (lv_at hl 1 rfl) ?_
          refine gh_callV C V hl.1 m_Mo_isDigit l_Mo_192 (c_Mo_isDigit l E _ _ a ad _ _ _ tx n (pl + 1) X.1 hT h21 (by omega)) rfl X.1.1 gc_Mo ⟨by first | decide | omega | (dsimp only; omega), by first | decide | omega | (dsimp only; omega)⟩ ⟨by first | decide | omega | (dsimp only; omega), by first | decide | omega | (dsimp only; omega)⟩ (Nat.le_of_ble_eq_true rfl) rfl d_Mo_isInteger_30 (fun r z9 H locs hp9 V1 => ?_)
          obtain ⟨rfl, he9⟩ := hp9
          rw [he9] at V1
          have V := V1
          rw [decide_eq_true hdg]
          refine W.eq (g2 := F0 m 33 ls [.int (gh_bi true)]) rfl ?_
          refine lv_if_ne (tgt := 38) hx hb d_Mo_isInteger_33 (by decide) (fun c13 => ?_) (fun c13 => absurd c13 (by decide))
          refine lv_aload_n hx hb d_Mo_isInteger_38 rfl (lv_at hl 1 rfl) ?_
          refine gh_callV C V hl.1 m_Mo_peek l_Mo_185 (c_Mo_pk l E _ _ a ad _ _ _ tx n (pl + 1) X.1 hT h21 (by omega)) rfl X.1.1 gc_Mo ⟨by first | decide | omega | (dsimp only; omega), by first | decide | omega | (dsimp only; omega)⟩ ⟨by first | decide | omega | (dsimp only; omega), by first | decide | omega | (dsimp only; omega)⟩ (Nat.le_of_ble_eq_true rfl) rfl d_Mo_isInteger_39 (fun r z9 H locs hp9 V1 => ?_)
          obtain ⟨rfl, he9⟩ := hp9
          rw [he9] at V1
          have V := V1
          refine W.eq (g2 := F0 m 42 ls [.int (pek (sg tx n (pl + 1)))]) rfl ?_
          refine lv_bipush (v := 48) hx hb d_Mo_isInteger_42 (by decide) ?_
          refine lv_icmp_ne (tgt := 51) hx hb d_Mo_isInteger_44 (by decide) (fun c14 => absurd ((pek_eq (k := 48) (by omega) (by omega) (by omega)).mpr hz0) c14) (fun c14 => ?_)
          refine lv_iconst (v := 1) hx hb d_Mo_isInteger_47 (by decide) ?_
          refine lv_goto (tgt := 52) hx hb d_Mo_isInteger_48 (by decide) ?_
          refine lv_istore_n hx hb d_Mo_isInteger_52 rfl hl (by decide) rfl (fun ls hl => ?_)
          have hl : lv_has ls 9 [(2, .int 1), (1, .int 1), (0, .ref a)] := hl
          refine lv_lconst (v := 0) hx hb d_Mo_isInteger_53 (by decide) ?_
          refine lv_lstore_n hx hb d_Mo_isInteger_54 rfl hl (by decide) rfl (fun ls hl => ?_)
          have hl : lv_has ls 9 [(3, .long 0), (2, .int 1), (1, .int 1), (0, .ref a)] := hl
          have hl : lv_has ls 9 [(3, .long (Int64.ofInt 0)), (2, .int 1), (1, .int 1), (0, .ref a)] := hl
          refine lv_aload_n hx hb d_Mo_isInteger_55 rfl (lv_at hl 3 rfl) ?_
          refine gh_callV C V hl.1 m_Mo_isDigit l_Mo_192 (c_Mo_isDigit l E _ _ a ad _ _ _ tx n (pl + 1) X.1 hT h21 (by omega)) rfl X.1.1 gc_Mo ⟨by first | decide | omega | (dsimp only; omega), by first | decide | omega | (dsimp only; omega)⟩ ⟨by first | decide | omega | (dsimp only; omega), by first | decide | omega | (dsimp only; omega)⟩ (Nat.le_of_ble_eq_true rfl) rfl d_Mo_isInteger_56 (fun r z9 H locs hp9 V1 => ?_)
          obtain ⟨rfl, he9⟩ := hp9
          rw [he9] at V1
          have V := V1
          rw [decide_eq_true hdg]
          refine W.eq (g2 := F0 m 59 ls [.int (gh_bi true)]) rfl ?_
          refine lv_if_eq (tgt := 147) hx hb d_Mo_isInteger_59 (by decide) (fun c15 => absurd c15 (by decide)) (fun c15 => ?_)
          refine lv_aload_n hx hb d_Mo_isInteger_62 rfl (lv_at hl 3 rfl) ?_
          refine gh_callV C V hl.1 m_Mo_peek l_Mo_185 (c_Mo_pk l E _ _ a ad _ _ _ tx n (pl + 1) X.1 hT h21 (by omega)) rfl X.1.1 gc_Mo ⟨by first | decide | omega | (dsimp only; omega), by first | decide | omega | (dsimp only; omega)⟩ ⟨by first | decide | omega | (dsimp only; omega), by first | decide | omega | (dsimp only; omega)⟩ (Nat.le_of_ble_eq_true rfl) rfl d_Mo_isInteger_63 (fun r z9 H locs hp9 V1 => ?_)
          obtain ⟨rfl, he9⟩ := hp9
          rw [he9] at V1
          have V := V1
          refine W.eq (g2 := F0 m 66 ls [.int (pek (sg tx n (pl + 1)))]) rfl ?_
          refine lv_i2l hx hb d_Mo_isInteger_66 rfl ?_
          refine lv_ldc2 (v := 48) hx hb C.2.2.2.1 (C.2.2.2.2.1 _ kl_Mo_196) d_Mo_isInteger_67 ?_
          refine lv_lsub hx hb d_Mo_isInteger_70 ?_
          rw [ri_d (c := sg tx n (pl + 1)) (by omega) (by omega)]
          refine lv_lstore hx hb d_Mo_isInteger_71 hl (by decide) rfl (fun ls hl => ?_)
          have hl : lv_has ls 9 [(5, .long (lN (sg tx n (pl + 1) - 48))), (3, .long (Int64.ofInt 0)), (2, .int 1), (1, .int 1), (0, .ref a)] := hl
          refine lv_iload_n hx hb d_Mo_isInteger_73 rfl (lv_at hl 3 rfl) ?_
          refine lv_if_eq (tgt := 83) hx hb d_Mo_isInteger_74 (by decide) (fun c16 => absurd c16 (by decide)) (fun c16 => ?_)
          refine lv_ldc2 (v := (-9223372036854775808)) hx hb C.2.2.2.1 (C.2.2.2.2.1 _ kl_Mo_198) d_Mo_isInteger_77 ?_
          refine lv_goto (tgt := 86) hx hb d_Mo_isInteger_80 (by decide) ?_
          refine lv_lstore hx hb d_Mo_isInteger_86 hl (by decide) rfl (fun ls hl => ?_)
          have hl : lv_has ls 9 [(7, .long ((-9223372036854775808))), (5, .long (lN (sg tx n (pl + 1) - 48))), (3, .long (Int64.ofInt 0)), (2, .int 1), (1, .int 1), (0, .ref a)] := hl
          have hl : lv_has ls 9 [(7, .long (rd_lL true)), (5, .long (lN (sg tx n (pl + 1) - 48))), (3, .long (Int64.ofInt 0)), (2, .int 1), (1, .int 1), (0, .ref a)] := hl
          refine lv_lload_n hx hb d_Mo_isInteger_88 rfl (lv_at hl 2 rfl) ?_
          refine lv_ldc2 (v := (-922337203685477580)) hx hb C.2.2.2.1 (C.2.2.2.2.1 _ kl_Mo_202) d_Mo_isInteger_89 ?_
          refine W.lcmp hx hb d_Mo_isInteger_92 ?_
          refine lv_if_lt (tgt := 110) hx hb d_Mo_isInteger_93 (by decide) (fun c17 => absurd c17 (fun z => absurd ((ri_c1 (z := 0) (by decide) (by decide)).mp z) (by decide))) (fun c17 => ?_)
          refine lv_ldc2 (v := 10) hx hb C.2.2.2.1 (C.2.2.2.2.1 _ kl_Mo_204) d_Mo_isInteger_96 ?_
          refine lv_lload_n hx hb d_Mo_isInteger_99 rfl (lv_at hl 2 rfl) ?_
          refine lv_lmul hx hb d_Mo_isInteger_100 ?_
          refine lv_lload hx hb d_Mo_isInteger_101 (lv_at hl 0 rfl) ?_
          refine lv_lload hx hb d_Mo_isInteger_103 (lv_at hl 1 rfl) ?_
          refine lv_ladd hx hb d_Mo_isInteger_105 ?_
          refine W.lcmp hx hb d_Mo_isInteger_106 ?_
          refine lv_if_ge (tgt := 112) hx hb d_Mo_isInteger_107 (by decide) (fun c18 => ?_) (fun c18 => absurd (Int32.not_lt.mp (fun z => absurd ((ri_c2 (z := 0) (neg := true) (d := sg tx n (pl + 1) - 48) (by decide) (by decide) (by omega)).mp z) (by have h9 : rd_ls true ≤ -9223372036854775807 := (by decide); omega))) c18)
          refine lv_ldc2 (v := 10) hx hb C.2.2.2.1 (C.2.2.2.2.1 _ kl_Mo_204) d_Mo_isInteger_112 ?_
          refine lv_lload_n hx hb d_Mo_isInteger_115 rfl (lv_at hl 2 rfl) ?_
          refine lv_lmul hx hb d_Mo_isInteger_116 ?_
          refine lv_lload hx hb d_Mo_isInteger_117 (lv_at hl 1 rfl) ?_
          refine lv_lsub hx hb d_Mo_isInteger_119 ?_
          rw [ri_n]
          refine lv_lstore_n hx hb d_Mo_isInteger_120 rfl hl (by decide) rfl (fun ls hl => ?_)
          have hl : lv_has ls 9 [(3, .long (Int64.ofInt (10 * 0 - ((sg tx n (pl + 1) - 48 : Nat) : Int)))), (7, .long (rd_lL true)), (5, .long (lN (sg tx n (pl + 1) - 48))), (2, .int 1), (1, .int 1), (0, .ref a)] := hl
          refine lv_aload_n hx hb d_Mo_isInteger_121 rfl (lv_at hl 5 rfl) ?_
          refine lv_dup hx hb d_Mo_isInteger_122 rfl ?_
          refine mo_getS (v := nI (pl + 1)) C V X 21 (by decide) (by decide) (by first | rfl | exact hS21) f_Mo_179 rfl d_Mo_isInteger_123 ?_
          refine lv_iconst (v := 1) hx hb d_Mo_isInteger_126 (by decide) ?_
          refine gn_iadd (a := pl + 1) (b := 1) hx hb d_Mo_isInteger_127 ?_
          refine mo_putS C V X 21 (by decide) (by decide) f_Mo_179 rfl rfl rfl d_Mo_isInteger_128 (fun f1 H locs V1 X1 => ?_)
          clear V X
          have V := V1
          have X := X1
          clear V1 X1
          have h21 : (va_up (va_up S 21 (nI (pl + 1))) 21 (nI ((pl + 1) + 1))) 21 = nI ((pl + 1) + 1) := va_up_s
          have hS21 := h21
          have hT : rT tx n (va_up (va_up S 21 (nI (pl + 1))) 21 (nI ((pl + 1) + 1))) I := hT.keep (va_up_n (by decide)) rfl
          refine lv_iload_n hx hb d_Mo_isInteger_131 rfl (lv_at hl 3 rfl) ?_
          refine lv_if_eq (tgt := 144) hx hb d_Mo_isInteger_132 (by decide) (fun c19 => absurd c19 (by decide)) (fun c19 => ?_)
          refine lv_aload_n hx hb d_Mo_isInteger_135 rfl (lv_at hl 5 rfl) ?_
          refine gh_callV C V hl.1 m_Mo_isDigit l_Mo_192 (c_Mo_isDigit l E _ _ a ad _ _ _ tx n (pl + 1 + 1) X.1 hT h21 (by omega)) rfl X.1.1 gc_Mo ⟨by first | decide | omega | (dsimp only; omega), by first | decide | omega | (dsimp only; omega)⟩ ⟨by first | decide | omega | (dsimp only; omega), by first | decide | omega | (dsimp only; omega)⟩ (Nat.le_of_ble_eq_true rfl) rfl d_Mo_isInteger_136 (fun r z9 H locs hp9 V1 => ?_)
          obtain ⟨rfl, he9⟩ := hp9
          rw [he9] at V1
          have V := V1
          rw [decide_eq_false hd2]
          refine W.eq (g2 := F0 m 139 ls [.int (gh_bi false)]) rfl ?_
          refine lv_if_eq (tgt := 144) hx hb d_Mo_isInteger_139 (by decide) (fun c20 => ?_) (fun c20 => absurd (by decide) c20)
          refine lv_goto (tgt := 55) hx hb d_Mo_isInteger_144 (by decide) ?_
          refine lv_aload_n hx hb d_Mo_isInteger_55 rfl (lv_at hl 5 rfl) ?_
          refine gh_callV C V hl.1 m_Mo_isDigit l_Mo_192 (c_Mo_isDigit l E _ _ a ad _ _ _ tx n (pl + 1 + 1) X.1 hT h21 (by omega)) rfl X.1.1 gc_Mo ⟨by first | decide | omega | (dsimp only; omega), by first | decide | omega | (dsimp only; omega)⟩ ⟨by first | decide | omega | (dsimp only; omega), by first | decide | omega | (dsimp only; omega)⟩ (Nat.le_of_ble_eq_true rfl) rfl d_Mo_isInteger_56 (fun r z9 H locs hp9 V1 => ?_)
          obtain ⟨rfl, he9⟩ := hp9
          rw [he9] at V1
          have V := V1
          rw [decide_eq_false hd2]
          refine W.eq (g2 := F0 m 59 ls [.int (gh_bi false)]) rfl ?_
          refine lv_if_eq (tgt := 147) hx hb d_Mo_isInteger_59 (by decide) (fun c21 => ?_) (fun c21 => absurd (by decide) c21)
          refine lv_aload_n hx hb d_Mo_isInteger_147 rfl (lv_at hl 5 rfl) ?_
          refine mo_getS (v := 0) C V X 27 (by decide) (by decide) (by first | rfl | exact hS27) f_Mo_206 rfl d_Mo_isInteger_148 ?_
          refine lv_if_eq (tgt := 173) hx hb d_Mo_isInteger_151 (by decide) (fun c22 => ?_) (fun c22 => absurd (by decide) c22)
          refine lv_iconst (v := 1) hx hb d_Mo_isInteger_173 (by decide) ?_
          refine gh_retz hAe C V hr (by first | rfl | decide) hlocks d_Mo_isInteger_174 (by first | decide | omega | (dsimp only; omega)) (by first | decide | omega | (dsimp only; omega)) ?_
          have hrd9 : rd_i tx n true pl = (pl + 1 + 1, some (0)) := by
            rw [rd_i_n hng]
            unfold rd_j; rw [if_neg (fun z => z hdg), if_pos hz0, if_neg (fun z => hd2 z.2)]
          rw [hrd9]
          exact ⟨rfl, _, _, _, X, h21, ⟨fun _ => ⟨fun k a1 a2 => (by first | rfl | exact hS k a1 | (rw [va_up_n a1] <;> first | rfl | exact hS k a1) | (rw [va_up_n a1, va_up_n a1] <;> first | rfl | exact hS k a1)), rfl, rfl⟩, fun z => (by cases z)⟩⟩
      · refine lv_aload_n hx hb d_Mo_isInteger_0 rfl (lv_at hl 0 rfl) ?_
        refine gh_callV C V hl.1 m_Mo_peek l_Mo_185 (c_Mo_pk l E _ _ a ad _ _ _ tx n pl X.1 hT h21 (by omega)) rfl X.1.1 gc_Mo ⟨by first | decide | omega | (dsimp only; omega), by first | decide | omega | (dsimp only; omega)⟩ ⟨by first | decide | omega | (dsimp only; omega), by first | decide | omega | (dsimp only; omega)⟩ (Nat.le_of_ble_eq_true rfl) rfl d_Mo_isInteger_1 (fun r z9 H locs hp9 V1 => ?_)
        obtain ⟨rfl, he9⟩ := hp9
        rw [he9] at V1
        have V := V1
        refine W.eq (g2 := F0 m 4 ls [.int (pek (sg tx n pl))]) rfl ?_
        refine lv_bipush (v := 45) hx hb d_Mo_isInteger_4 (by decide) ?_
        refine lv_icmp_ne (tgt := 13) hx hb d_Mo_isInteger_6 (by decide) (fun c23 => absurd ((pek_eq (k := 45) (by omega) (by omega) (by omega)).mpr hng) c23) (fun c23 => ?_)
        refine lv_iconst (v := 1) hx hb d_Mo_isInteger_9 (by decide) ?_
        refine lv_goto (tgt := 14) hx hb d_Mo_isInteger_10 (by decide) ?_
        refine lv_istore_n hx hb d_Mo_isInteger_14 rfl hl (by decide) rfl (fun ls hl => ?_)
        have hl : lv_has ls 9 [(1, .int 1), (0, .ref a)] := hl
        refine lv_iload_n hx hb d_Mo_isInteger_15 rfl (lv_at hl 0 rfl) ?_
        refine lv_if_eq (tgt := 29) hx hb d_Mo_isInteger_16 (by decide) (fun c24 => absurd c24 (by decide)) (fun c24 => ?_)
        refine lv_aload_n hx hb d_Mo_isInteger_19 rfl (lv_at hl 1 rfl) ?_
        refine lv_dup hx hb d_Mo_isInteger_20 rfl ?_
        refine mo_getS (v := nI pl) C V X 21 (by decide) (by decide) (by first | rfl | exact hS21) f_Mo_179 rfl d_Mo_isInteger_21 ?_
        refine lv_iconst (v := 1) hx hb d_Mo_isInteger_24 (by decide) ?_
        refine gn_iadd (a := pl) (b := 1) hx hb d_Mo_isInteger_25 ?_
        refine mo_putS C V X 21 (by decide) (by decide) f_Mo_179 rfl rfl rfl d_Mo_isInteger_26 (fun f1 H locs V1 X1 => ?_)
        clear V X
        have V := V1
        have X := X1
        clear V1 X1
        have h21 : (va_up S 21 (nI (pl + 1))) 21 = nI (pl + 1) := va_up_s
        have hS21 := h21
        have hT : rT tx n (va_up S 21 (nI (pl + 1))) I := hT.keep (va_up_n (by decide)) rfl
        refine lv_aload_n hx hb d_Mo_isInteger_29 rfl (lv_at hl 1 rfl) ?_
        refine gh_callV C V hl.1 m_Mo_isDigit l_Mo_192 (c_Mo_isDigit l E _ _ a ad _ _ _ tx n (pl + 1) X.1 hT h21 (by omega)) rfl X.1.1 gc_Mo ⟨by first | decide | omega | (dsimp only; omega), by first | decide | omega | (dsimp only; omega)⟩ ⟨by first | decide | omega | (dsimp only; omega), by first | decide | omega | (dsimp only; omega)⟩ (Nat.le_of_ble_eq_true rfl) rfl d_Mo_isInteger_30 (fun r z9 H locs hp9 V1 => ?_)
        obtain ⟨rfl, he9⟩ := hp9
        rw [he9] at V1
        have V := V1
        rw [decide_eq_true hdg]
        refine W.eq (g2 := F0 m 33 ls [.int (gh_bi true)]) rfl ?_
        refine lv_if_ne (tgt := 38) hx hb d_Mo_isInteger_33 (by decide) (fun c25 => ?_) (fun c25 => absurd c25 (by decide))
        refine lv_aload_n hx hb d_Mo_isInteger_38 rfl (lv_at hl 1 rfl) ?_
        refine gh_callV C V hl.1 m_Mo_peek l_Mo_185 (c_Mo_pk l E _ _ a ad _ _ _ tx n (pl + 1) X.1 hT h21 (by omega)) rfl X.1.1 gc_Mo ⟨by first | decide | omega | (dsimp only; omega), by first | decide | omega | (dsimp only; omega)⟩ ⟨by first | decide | omega | (dsimp only; omega), by first | decide | omega | (dsimp only; omega)⟩ (Nat.le_of_ble_eq_true rfl) rfl d_Mo_isInteger_39 (fun r z9 H locs hp9 V1 => ?_)
        obtain ⟨rfl, he9⟩ := hp9
        rw [he9] at V1
        have V := V1
        refine W.eq (g2 := F0 m 42 ls [.int (pek (sg tx n (pl + 1)))]) rfl ?_
        refine lv_bipush (v := 48) hx hb d_Mo_isInteger_42 (by decide) ?_
        refine lv_icmp_ne (tgt := 51) hx hb d_Mo_isInteger_44 (by decide) (fun c26 => ?_) (fun c26 => absurd c26 (fun z => hz0 ((pek_eq (k := 48) (by omega) (by omega) (by omega)).mp z)))
        refine lv_iconst (v := 0) hx hb d_Mo_isInteger_51 (by decide) ?_
        refine lv_istore_n hx hb d_Mo_isInteger_52 rfl hl (by decide) rfl (fun ls hl => ?_)
        have hl : lv_has ls 9 [(2, .int 0), (1, .int 1), (0, .ref a)] := hl
        refine lv_lconst (v := 0) hx hb d_Mo_isInteger_53 (by decide) ?_
        refine lv_lstore_n hx hb d_Mo_isInteger_54 rfl hl (by decide) rfl (fun ls hl => ?_)
        have hl : lv_has ls 9 [(3, .long 0), (2, .int 0), (1, .int 1), (0, .ref a)] := hl
        have hl : lv_has ls 9 [(3, .long 0), (0, .ref a), (1, .int 1), (2, .int 0)] := lv_sub hl [0, 3, 2, 1] rfl
        have hl : lv_has ls 9 [(3, .long (Int64.ofInt 0)), (0, .ref a), (1, .int 1), (2, .int 0)] := hl
        have loop : ∀ (m9 p9 : Nat) (zi : Int) (S1 : Nat → Int32) (f1 : gh_F) (H : Heap) (locs : List Loc) (ls : Array Slot), n ≤ p9 + m9 → p9 ≤ n → S1 21 = nI p9 → (rd_ls true ≤ zi ∧ zi ≤ 0) → rd_d tx n (rd_ls true) m9 p9 zi = rd_d tx n (rd_ls true) n (pl + 1) 0 → (∀ k, k ≠ 21 → S1 k = S k) → mo_X E f f1 a ad S1 I J → gh_V E A f1 s H locs → lv_has ls 9 [(3, .long (Int64.ofInt zi)), (0, .ref a), (1, .int 1), (2, .int 0)] → W p l e { frames := 7, cells := 0, slots := 0, locals := 160 } s m args below meth c H locs 0 0 (MQ below (gh_Q E f (fun r g => r = some (.int (gh_bi (rd_i tx n true pl).2.isSome)) ∧ ∃ S2 I2 J2, mo_X E f g a ad S2 I2 J2 ∧ S2 21 = nI (rd_i tx n true pl).1 ∧ rO false S I J nv np ((rd_i tx n true pl).2.map vt_i) S2 I2 J2)) args s 0 0 A) (F0 m 55 ls []) := by
          intro m9
          induction m9 with
          | zero =>
            intro p9 zi S1 f1 H locs ls hm hp9 h21 hzi hrd hS X V hl
            have hT : rT tx n S1 I := hT0.keep (hS 20 (by decide)) rfl
            have hS21 := h21
            have hS27 : S1 27 = 0 := (hS 27 (by decide)).trans h27
            have hs9 := hsg p9
            have hls : rd_ls true = -9223372036854775808 := rfl
            have hnd : ¬ (48 ≤ sg tx n p9 ∧ sg tx n p9 ≤ 57) := fun z => by have := sg_lt (by omega : sg tx n p9 ≠ 0); omega
            refine lv_aload_n hx hb d_Mo_isInteger_55 rfl (lv_at hl 1 rfl) ?_
            refine gh_callV C V hl.1 m_Mo_isDigit l_Mo_192 (c_Mo_isDigit l E _ _ a ad _ _ _ tx n p9 X.1 hT h21 (by omega)) rfl X.1.1 gc_Mo ⟨by first | decide | omega | (dsimp only; omega), by first | decide | omega | (dsimp only; omega)⟩ ⟨by first | decide | omega | (dsimp only; omega), by first | decide | omega | (dsimp only; omega)⟩ (Nat.le_of_ble_eq_true rfl) rfl d_Mo_isInteger_56 (fun r z9 H locs hp9 V1 => ?_)
            obtain ⟨rfl, he9⟩ := hp9
            rw [he9] at V1
            have V := V1
            rw [decide_eq_false hnd]
            refine W.eq (g2 := F0 m 59 ls [.int (gh_bi false)]) rfl ?_
            refine lv_if_eq (tgt := 147) hx hb d_Mo_isInteger_59 (by decide) (fun c27 => ?_) (fun c27 => absurd (by decide) c27)
            refine lv_aload_n hx hb d_Mo_isInteger_147 rfl (lv_at hl 1 rfl) ?_
            refine mo_getS (v := 0) C V X 27 (by decide) (by decide) (by first | rfl | exact hS27) f_Mo_206 rfl d_Mo_isInteger_148 ?_
            refine lv_if_eq (tgt := 173) hx hb d_Mo_isInteger_151 (by decide) (fun c28 => ?_) (fun c28 => absurd (by decide) c28)
            refine lv_iconst (v := 1) hx hb d_Mo_isInteger_173 (by decide) ?_
            refine gh_retz hAe C V hr (by first | rfl | decide) hlocks d_Mo_isInteger_174 (by first | decide | omega | (dsimp only; omega)) (by first | decide | omega | (dsimp only; omega)) ?_
            have hrd9 : rd_i tx n true pl = (p9, some (Int64.ofInt zi)) := by
              rw [rd_i_n hng]
              unfold rd_j; rw [if_neg (fun z => z hdg), if_neg hz0, ← hrd]
              rfl
            rw [hrd9]
            exact ⟨rfl, _, _, _, X, h21, ⟨fun _ => ⟨fun k a1 a2 => (by first | rfl | exact hS k a1 | (rw [va_up_n a1] <;> first | rfl | exact hS k a1) | (rw [va_up_n a1, va_up_n a1] <;> first | rfl | exact hS k a1)), rfl, rfl⟩, fun z => (by cases z)⟩⟩
          | succ m9 ih =>
            intro p9 zi S1 f1 H locs ls hm hp9 h21 hzi hrd hS X V hl
            have hT : rT tx n S1 I := hT0.keep (hS 20 (by decide)) rfl
            have hS21 := h21
            have hS27 : S1 27 = 0 := (hS 27 (by decide)).trans h27
            have hs9 := hsg p9
            have hls : rd_ls true = -9223372036854775808 := rfl
            by_cases hnd : 48 ≤ sg tx n p9 ∧ sg tx n p9 ≤ 57
            · have hpn9 := sg_lt (by omega : sg tx n p9 ≠ 0)
              have hcd : ((sg tx n p9 - 48 : Nat) : Int) = (sg tx n p9 : Int) - 48 := by omega
              by_cases hc1 : zi < -922337203685477580
              · refine lv_aload_n hx hb d_Mo_isInteger_55 rfl (lv_at hl 1 rfl) ?_
                refine gh_callV C V hl.1 m_Mo_isDigit l_Mo_192 (c_Mo_isDigit l E _ _ a ad _ _ _ tx n p9 X.1 hT h21 (by omega)) rfl X.1.1 gc_Mo ⟨by first | decide | omega | (dsimp only; omega), by first | decide | omega | (dsimp only; omega)⟩ ⟨by first | decide | omega | (dsimp only; omega), by first | decide | omega | (dsimp only; omega)⟩ (Nat.le_of_ble_eq_true rfl) rfl d_Mo_isInteger_56 (fun r z9 H locs hp9 V1 => ?_)
                obtain ⟨rfl, he9⟩ := hp9
                rw [he9] at V1
                have V := V1
                rw [decide_eq_true hnd]
                refine W.eq (g2 := F0 m 59 ls [.int (gh_bi true)]) rfl ?_
                refine lv_if_eq (tgt := 147) hx hb d_Mo_isInteger_59 (by decide) (fun c29 => absurd c29 (by decide)) (fun c29 => ?_)
                refine lv_aload_n hx hb d_Mo_isInteger_62 rfl (lv_at hl 1 rfl) ?_
                refine gh_callV C V hl.1 m_Mo_peek l_Mo_185 (c_Mo_pk l E _ _ a ad _ _ _ tx n p9 X.1 hT h21 (by omega)) rfl X.1.1 gc_Mo ⟨by first | decide | omega | (dsimp only; omega), by first | decide | omega | (dsimp only; omega)⟩ ⟨by first | decide | omega | (dsimp only; omega), by first | decide | omega | (dsimp only; omega)⟩ (Nat.le_of_ble_eq_true rfl) rfl d_Mo_isInteger_63 (fun r z9 H locs hp9 V1 => ?_)
                obtain ⟨rfl, he9⟩ := hp9
                rw [he9] at V1
                have V := V1
                refine W.eq (g2 := F0 m 66 ls [.int (pek (sg tx n p9))]) rfl ?_
                refine lv_i2l hx hb d_Mo_isInteger_66 rfl ?_
                refine lv_ldc2 (v := 48) hx hb C.2.2.2.1 (C.2.2.2.2.1 _ kl_Mo_196) d_Mo_isInteger_67 ?_
                refine lv_lsub hx hb d_Mo_isInteger_70 ?_
                rw [ri_d (c := sg tx n (p9)) (by omega) (by omega)]
                refine lv_lstore hx hb d_Mo_isInteger_71 hl (by decide) rfl (fun ls hl => ?_)
                have hl : lv_has ls 9 [(5, .long (lN (sg tx n (p9) - 48))), (3, .long (Int64.ofInt zi)), (0, .ref a), (1, .int 1), (2, .int 0)] := hl
                refine lv_iload_n hx hb d_Mo_isInteger_73 rfl (lv_at hl 3 rfl) ?_
                refine lv_if_eq (tgt := 83) hx hb d_Mo_isInteger_74 (by decide) (fun c30 => absurd c30 (by decide)) (fun c30 => ?_)
                refine lv_ldc2 (v := (-9223372036854775808)) hx hb C.2.2.2.1 (C.2.2.2.2.1 _ kl_Mo_198) d_Mo_isInteger_77 ?_
                refine lv_goto (tgt := 86) hx hb d_Mo_isInteger_80 (by decide) ?_
                refine lv_lstore hx hb d_Mo_isInteger_86 hl (by decide) rfl (fun ls hl => ?_)
                have hl : lv_has ls 9 [(7, .long ((-9223372036854775808))), (5, .long (lN (sg tx n (p9) - 48))), (3, .long (Int64.ofInt zi)), (0, .ref a), (1, .int 1), (2, .int 0)] := hl
                have hl : lv_has ls 9 [(7, .long (rd_lL true)), (5, .long (lN (sg tx n (p9) - 48))), (3, .long (Int64.ofInt zi)), (0, .ref a), (1, .int 1), (2, .int 0)] := hl
                refine lv_lload_n hx hb d_Mo_isInteger_88 rfl (lv_at hl 2 rfl) ?_
                refine lv_ldc2 (v := (-922337203685477580)) hx hb C.2.2.2.1 (C.2.2.2.2.1 _ kl_Mo_202) d_Mo_isInteger_89 ?_
                refine W.lcmp hx hb d_Mo_isInteger_92 ?_
                refine lv_if_lt (tgt := 110) hx hb d_Mo_isInteger_93 (by decide) (fun c31 => ?_) (fun c31 => absurd ((ri_c1 (by omega) (by omega)).mpr hc1) c31)
                refine lv_iconst (v := 0) hx hb d_Mo_isInteger_110 (by decide) ?_
                refine gh_retz hAe C V hr (by first | rfl | decide) hlocks d_Mo_isInteger_111 (by first | decide | omega | (dsimp only; omega)) (by first | decide | omega | (dsimp only; omega)) ?_
                have hrd9 : rd_i tx n true pl = (p9, none) := by
                  rw [rd_i_n hng]
                  unfold rd_j; rw [if_neg (fun z => z hdg), if_neg hz0, ← hrd]
                  rw [rd_d_o, if_pos hnd, if_pos (by omega)]
                rw [hrd9]
                exact ⟨rfl, _, _, _, X, h21, ⟨fun _ => ⟨fun k a1 a2 => (by first | rfl | exact hS k a1 | (rw [va_up_n a1] <;> first | rfl | exact hS k a1) | (rw [va_up_n a1, va_up_n a1] <;> first | rfl | exact hS k a1)), rfl, rfl⟩, fun z => (by cases z)⟩⟩
              · have hi2 := ri_c2 (z := zi) (neg := true) (d := sg tx n p9 - 48) (by omega) (by omega) (by omega)
                rw [hcd] at hi2
                by_cases hc2 : 10 * zi < rd_ls true + ((sg tx n p9 : Int) - 48)
                · refine lv_aload_n hx hb d_Mo_isInteger_55 rfl (lv_at hl 1 rfl) ?_
                  refine gh_callV C V hl.1 m_Mo_isDigit l_Mo_192 (c_Mo_isDigit l E _ _ a ad _ _ _ tx n p9 X.1 hT h21 (by omega)) rfl X.1.1 gc_Mo ⟨by first | decide | omega | (dsimp only; omega), by first | decide | omega | (dsimp only; omega)⟩ ⟨by first | decide | omega | (dsimp only; omega), by first | decide | omega | (dsimp only; omega)⟩ (Nat.le_of_ble_eq_true rfl) rfl d_Mo_isInteger_56 (fun r z9 H locs hp9 V1 => ?_)
                  obtain ⟨rfl, he9⟩ := hp9
                  rw [he9] at V1
                  have V := V1
                  rw [decide_eq_true hnd]
                  refine W.eq (g2 := F0 m 59 ls [.int (gh_bi true)]) rfl ?_
                  refine lv_if_eq (tgt := 147) hx hb d_Mo_isInteger_59 (by decide) (fun c32 => absurd c32 (by decide)) (fun c32 => ?_)
                  refine lv_aload_n hx hb d_Mo_isInteger_62 rfl (lv_at hl 1 rfl) ?_
                  refine gh_callV C V hl.1 m_Mo_peek l_Mo_185 (c_Mo_pk l E _ _ a ad _ _ _ tx n p9 X.1 hT h21 (by omega)) rfl X.1.1 gc_Mo ⟨by first | decide | omega | (dsimp only; omega), by first | decide | omega | (dsimp only; omega)⟩ ⟨by first | decide | omega | (dsimp only; omega), by first | decide | omega | (dsimp only; omega)⟩ (Nat.le_of_ble_eq_true rfl) rfl d_Mo_isInteger_63 (fun r z9 H locs hp9 V1 => ?_)
                  obtain ⟨rfl, he9⟩ := hp9
                  rw [he9] at V1
                  have V := V1
                  refine W.eq (g2 := F0 m 66 ls [.int (pek (sg tx n p9))]) rfl ?_
                  refine lv_i2l hx hb d_Mo_isInteger_66 rfl ?_
                  refine lv_ldc2 (v := 48) hx hb C.2.2.2.1 (C.2.2.2.2.1 _ kl_Mo_196) d_Mo_isInteger_67 ?_
                  refine lv_lsub hx hb d_Mo_isInteger_70 ?_
                  rw [ri_d (c := sg tx n (p9)) (by omega) (by omega)]
                  refine lv_lstore hx hb d_Mo_isInteger_71 hl (by decide) rfl (fun ls hl => ?_)
                  have hl : lv_has ls 9 [(5, .long (lN (sg tx n (p9) - 48))), (3, .long (Int64.ofInt zi)), (0, .ref a), (1, .int 1), (2, .int 0)] := hl
                  refine lv_iload_n hx hb d_Mo_isInteger_73 rfl (lv_at hl 3 rfl) ?_
                  refine lv_if_eq (tgt := 83) hx hb d_Mo_isInteger_74 (by decide) (fun c33 => absurd c33 (by decide)) (fun c33 => ?_)
                  refine lv_ldc2 (v := (-9223372036854775808)) hx hb C.2.2.2.1 (C.2.2.2.2.1 _ kl_Mo_198) d_Mo_isInteger_77 ?_
                  refine lv_goto (tgt := 86) hx hb d_Mo_isInteger_80 (by decide) ?_
                  refine lv_lstore hx hb d_Mo_isInteger_86 hl (by decide) rfl (fun ls hl => ?_)
                  have hl : lv_has ls 9 [(7, .long ((-9223372036854775808))), (5, .long (lN (sg tx n (p9) - 48))), (3, .long (Int64.ofInt zi)), (0, .ref a), (1, .int 1), (2, .int 0)] := hl
                  have hl : lv_has ls 9 [(7, .long (rd_lL true)), (5, .long (lN (sg tx n (p9) - 48))), (3, .long (Int64.ofInt zi)), (0, .ref a), (1, .int 1), (2, .int 0)] := hl
                  refine lv_lload_n hx hb d_Mo_isInteger_88 rfl (lv_at hl 2 rfl) ?_
                  refine lv_ldc2 (v := (-922337203685477580)) hx hb C.2.2.2.1 (C.2.2.2.2.1 _ kl_Mo_202) d_Mo_isInteger_89 ?_
                  refine W.lcmp hx hb d_Mo_isInteger_92 ?_
                  refine lv_if_lt (tgt := 110) hx hb d_Mo_isInteger_93 (by decide) (fun c34 => absurd c34 (fun z => hc1 ((ri_c1 (by omega) (by omega)).mp z))) (fun c34 => ?_)
                  refine lv_ldc2 (v := 10) hx hb C.2.2.2.1 (C.2.2.2.2.1 _ kl_Mo_204) d_Mo_isInteger_96 ?_
                  refine lv_lload_n hx hb d_Mo_isInteger_99 rfl (lv_at hl 2 rfl) ?_
                  refine lv_lmul hx hb d_Mo_isInteger_100 ?_
                  refine lv_lload hx hb d_Mo_isInteger_101 (lv_at hl 0 rfl) ?_
                  refine lv_lload hx hb d_Mo_isInteger_103 (lv_at hl 1 rfl) ?_
                  refine lv_ladd hx hb d_Mo_isInteger_105 ?_
                  refine W.lcmp hx hb d_Mo_isInteger_106 ?_
                  refine lv_if_ge (tgt := 112) hx hb d_Mo_isInteger_107 (by decide) (fun c35 => absurd c35 (fun z => absurd (hi2.mpr hc2) (lg_ge0 z))) (fun c35 => ?_)
                  refine lv_iconst (v := 0) hx hb d_Mo_isInteger_110 (by decide) ?_
                  refine gh_retz hAe C V hr (by first | rfl | decide) hlocks d_Mo_isInteger_111 (by first | decide | omega | (dsimp only; omega)) (by first | decide | omega | (dsimp only; omega)) ?_
                  have hrd9 : rd_i tx n true pl = (p9, none) := by
                    rw [rd_i_n hng]
                    unfold rd_j; rw [if_neg (fun z => z hdg), if_neg hz0, ← hrd]
                    rw [rd_d_o, if_pos hnd, if_pos (by omega)]
                  rw [hrd9]
                  exact ⟨rfl, _, _, _, X, h21, ⟨fun _ => ⟨fun k a1 a2 => (by first | rfl | exact hS k a1 | (rw [va_up_n a1] <;> first | rfl | exact hS k a1) | (rw [va_up_n a1, va_up_n a1] <;> first | rfl | exact hS k a1)), rfl, rfl⟩, fun z => (by cases z)⟩⟩
                · refine lv_aload_n hx hb d_Mo_isInteger_55 rfl (lv_at hl 1 rfl) ?_
                  refine gh_callV C V hl.1 m_Mo_isDigit l_Mo_192 (c_Mo_isDigit l E _ _ a ad _ _ _ tx n p9 X.1 hT h21 (by omega)) rfl X.1.1 gc_Mo ⟨by first | decide | omega | (dsimp only; omega), by first | decide | omega | (dsimp only; omega)⟩ ⟨by first | decide | omega | (dsimp only; omega), by first | decide | omega | (dsimp only; omega)⟩ (Nat.le_of_ble_eq_true rfl) rfl d_Mo_isInteger_56 (fun r z9 H locs hp9 V1 => ?_)
                  obtain ⟨rfl, he9⟩ := hp9
                  rw [he9] at V1
                  have V := V1
                  rw [decide_eq_true hnd]
                  refine W.eq (g2 := F0 m 59 ls [.int (gh_bi true)]) rfl ?_
                  refine lv_if_eq (tgt := 147) hx hb d_Mo_isInteger_59 (by decide) (fun c36 => absurd c36 (by decide)) (fun c36 => ?_)
                  refine lv_aload_n hx hb d_Mo_isInteger_62 rfl (lv_at hl 1 rfl) ?_
                  refine gh_callV C V hl.1 m_Mo_peek l_Mo_185 (c_Mo_pk l E _ _ a ad _ _ _ tx n p9 X.1 hT h21 (by omega)) rfl X.1.1 gc_Mo ⟨by first | decide | omega | (dsimp only; omega), by first | decide | omega | (dsimp only; omega)⟩ ⟨by first | decide | omega | (dsimp only; omega), by first | decide | omega | (dsimp only; omega)⟩ (Nat.le_of_ble_eq_true rfl) rfl d_Mo_isInteger_63 (fun r z9 H locs hp9 V1 => ?_)
                  obtain ⟨rfl, he9⟩ := hp9
                  rw [he9] at V1
                  have V := V1
                  refine W.eq (g2 := F0 m 66 ls [.int (pek (sg tx n p9))]) rfl ?_
                  refine lv_i2l hx hb d_Mo_isInteger_66 rfl ?_
                  refine lv_ldc2 (v := 48) hx hb C.2.2.2.1 (C.2.2.2.2.1 _ kl_Mo_196) d_Mo_isInteger_67 ?_
                  refine lv_lsub hx hb d_Mo_isInteger_70 ?_
                  rw [ri_d (c := sg tx n (p9)) (by omega) (by omega)]
                  refine lv_lstore hx hb d_Mo_isInteger_71 hl (by decide) rfl (fun ls hl => ?_)
                  have hl : lv_has ls 9 [(5, .long (lN (sg tx n (p9) - 48))), (3, .long (Int64.ofInt zi)), (0, .ref a), (1, .int 1), (2, .int 0)] := hl
                  refine lv_iload_n hx hb d_Mo_isInteger_73 rfl (lv_at hl 3 rfl) ?_
                  refine lv_if_eq (tgt := 83) hx hb d_Mo_isInteger_74 (by decide) (fun c37 => absurd c37 (by decide)) (fun c37 => ?_)
                  refine lv_ldc2 (v := (-9223372036854775808)) hx hb C.2.2.2.1 (C.2.2.2.2.1 _ kl_Mo_198) d_Mo_isInteger_77 ?_
                  refine lv_goto (tgt := 86) hx hb d_Mo_isInteger_80 (by decide) ?_
                  refine lv_lstore hx hb d_Mo_isInteger_86 hl (by decide) rfl (fun ls hl => ?_)
                  have hl : lv_has ls 9 [(7, .long ((-9223372036854775808))), (5, .long (lN (sg tx n (p9) - 48))), (3, .long (Int64.ofInt zi)), (0, .ref a), (1, .int 1), (2, .int 0)] := hl
                  have hl : lv_has ls 9 [(7, .long (rd_lL true)), (5, .long (lN (sg tx n (p9) - 48))), (3, .long (Int64.ofInt zi)), (0, .ref a), (1, .int 1), (2, .int 0)] := hl
                  refine lv_lload_n hx hb d_Mo_isInteger_88 rfl (lv_at hl 2 rfl) ?_
                  refine lv_ldc2 (v := (-922337203685477580)) hx hb C.2.2.2.1 (C.2.2.2.2.1 _ kl_Mo_202) d_Mo_isInteger_89 ?_
                  refine W.lcmp hx hb d_Mo_isInteger_92 ?_
                  refine lv_if_lt (tgt := 110) hx hb d_Mo_isInteger_93 (by decide) (fun c38 => absurd c38 (fun z => hc1 ((ri_c1 (by omega) (by omega)).mp z))) (fun c38 => ?_)
                  refine lv_ldc2 (v := 10) hx hb C.2.2.2.1 (C.2.2.2.2.1 _ kl_Mo_204) d_Mo_isInteger_96 ?_
                  refine lv_lload_n hx hb d_Mo_isInteger_99 rfl (lv_at hl 2 rfl) ?_
                  refine lv_lmul hx hb d_Mo_isInteger_100 ?_
                  refine lv_lload hx hb d_Mo_isInteger_101 (lv_at hl 0 rfl) ?_
                  refine lv_lload hx hb d_Mo_isInteger_103 (lv_at hl 1 rfl) ?_
                  refine lv_ladd hx hb d_Mo_isInteger_105 ?_
                  refine W.lcmp hx hb d_Mo_isInteger_106 ?_
                  refine lv_if_ge (tgt := 112) hx hb d_Mo_isInteger_107 (by decide) (fun c39 => ?_) (fun c39 => absurd (Int32.not_lt.mp (fun z => hc2 (hi2.mp z))) c39)
                  refine lv_ldc2 (v := 10) hx hb C.2.2.2.1 (C.2.2.2.2.1 _ kl_Mo_204) d_Mo_isInteger_112 ?_
                  refine lv_lload_n hx hb d_Mo_isInteger_115 rfl (lv_at hl 2 rfl) ?_
                  refine lv_lmul hx hb d_Mo_isInteger_116 ?_
                  refine lv_lload hx hb d_Mo_isInteger_117 (lv_at hl 1 rfl) ?_
                  refine lv_lsub hx hb d_Mo_isInteger_119 ?_
                  rw [ri_n]
                  refine lv_lstore_n hx hb d_Mo_isInteger_120 rfl hl (by decide) rfl (fun ls hl => ?_)
                  have hl : lv_has ls 9 [(3, .long (Int64.ofInt (10 * zi - ((sg tx n (p9) - 48 : Nat) : Int)))), (7, .long (rd_lL true)), (5, .long (lN (sg tx n (p9) - 48))), (0, .ref a), (1, .int 1), (2, .int 0)] := hl
                  refine lv_aload_n hx hb d_Mo_isInteger_121 rfl (lv_at hl 3 rfl) ?_
                  refine lv_dup hx hb d_Mo_isInteger_122 rfl ?_
                  refine mo_getS (v := nI p9) C V X 21 (by decide) (by decide) (by first | rfl | exact hS21) f_Mo_179 rfl d_Mo_isInteger_123 ?_
                  refine lv_iconst (v := 1) hx hb d_Mo_isInteger_126 (by decide) ?_
                  refine gn_iadd (a := p9) (b := 1) hx hb d_Mo_isInteger_127 ?_
                  refine mo_putS C V X 21 (by decide) (by decide) f_Mo_179 rfl rfl rfl d_Mo_isInteger_128 (fun f1 H locs V1 X1 => ?_)
                  clear V X
                  have V := V1
                  have X := X1
                  clear V1 X1
                  have h21 : (va_up S1 21 (nI (p9 + 1))) 21 = nI (p9 + 1) := va_up_s
                  have hS21 := h21
                  have hT : rT tx n (va_up S1 21 (nI (p9 + 1))) I := hT.keep (va_up_n (by decide)) rfl
                  refine lv_iload_n hx hb d_Mo_isInteger_131 rfl (lv_at hl 5 rfl) ?_
                  refine lv_if_eq (tgt := 144) hx hb d_Mo_isInteger_132 (by decide) (fun c40 => ?_) (fun c40 => absurd (by decide) c40)
                  refine lv_goto (tgt := 55) hx hb d_Mo_isInteger_144 (by decide) ?_
                  have hl : lv_has ls 9 [(3, .long (Int64.ofInt (10 * zi - ((sg tx n (p9) - 48 : Nat) : Int)))), (0, .ref a), (1, .int 1), (2, .int 0)] := lv_sub hl [0, 3, 4, 5] rfl
                  rw [hcd] at hl
                  exact ih (p9 + 1) _ _ _ _ _ ls (by omega) (by omega) h21 ⟨by omega, by omega⟩ (by rw [← hrd, rd_d_o, if_pos hnd, if_neg hc2]) (fun k a1 => by rw [va_up_n a1]; exact hS k a1) X V hl
            · refine lv_aload_n hx hb d_Mo_isInteger_55 rfl (lv_at hl 1 rfl) ?_
              refine gh_callV C V hl.1 m_Mo_isDigit l_Mo_192 (c_Mo_isDigit l E _ _ a ad _ _ _ tx n p9 X.1 hT h21 (by omega)) rfl X.1.1 gc_Mo ⟨by first | decide | omega | (dsimp only; omega), by first | decide | omega | (dsimp only; omega)⟩ ⟨by first | decide | omega | (dsimp only; omega), by first | decide | omega | (dsimp only; omega)⟩ (Nat.le_of_ble_eq_true rfl) rfl d_Mo_isInteger_56 (fun r z9 H locs hp9 V1 => ?_)
              obtain ⟨rfl, he9⟩ := hp9
              rw [he9] at V1
              have V := V1
              rw [decide_eq_false hnd]
              refine W.eq (g2 := F0 m 59 ls [.int (gh_bi false)]) rfl ?_
              refine lv_if_eq (tgt := 147) hx hb d_Mo_isInteger_59 (by decide) (fun c41 => ?_) (fun c41 => absurd (by decide) c41)
              refine lv_aload_n hx hb d_Mo_isInteger_147 rfl (lv_at hl 1 rfl) ?_
              refine mo_getS (v := 0) C V X 27 (by decide) (by decide) (by first | rfl | exact hS27) f_Mo_206 rfl d_Mo_isInteger_148 ?_
              refine lv_if_eq (tgt := 173) hx hb d_Mo_isInteger_151 (by decide) (fun c42 => ?_) (fun c42 => absurd (by decide) c42)
              refine lv_iconst (v := 1) hx hb d_Mo_isInteger_173 (by decide) ?_
              refine gh_retz hAe C V hr (by first | rfl | decide) hlocks d_Mo_isInteger_174 (by first | decide | omega | (dsimp only; omega)) (by first | decide | omega | (dsimp only; omega)) ?_
              have hrd9 : rd_i tx n true pl = (p9, some (Int64.ofInt zi)) := by
                rw [rd_i_n hng]
                unfold rd_j; rw [if_neg (fun z => z hdg), if_neg hz0, ← hrd]
                rw [rd_d_o, if_neg hnd]
                rfl
              rw [hrd9]
              exact ⟨rfl, _, _, _, X, h21, ⟨fun _ => ⟨fun k a1 a2 => (by first | rfl | exact hS k a1 | (rw [va_up_n a1] <;> first | rfl | exact hS k a1) | (rw [va_up_n a1, va_up_n a1] <;> first | rfl | exact hS k a1)), rfl, rfl⟩, fun z => (by cases z)⟩⟩
        exact loop n (pl + 1) 0 _ _ _ _ ls (by omega) (by omega) h21 ⟨by decide, Int.le_refl 0⟩ rfl (fun k a1 => by first | rfl | exact va_up_n a1) X V hl
    · refine lv_aload_n hx hb d_Mo_isInteger_0 rfl (lv_at hl 0 rfl) ?_
      refine gh_callV C V hl.1 m_Mo_peek l_Mo_185 (c_Mo_pk l E _ _ a ad _ _ _ tx n pl X.1 hT h21 (by omega)) rfl X.1.1 gc_Mo ⟨by first | decide | omega | (dsimp only; omega), by first | decide | omega | (dsimp only; omega)⟩ ⟨by first | decide | omega | (dsimp only; omega), by first | decide | omega | (dsimp only; omega)⟩ (Nat.le_of_ble_eq_true rfl) rfl d_Mo_isInteger_1 (fun r z9 H locs hp9 V1 => ?_)
      obtain ⟨rfl, he9⟩ := hp9
      rw [he9] at V1
      have V := V1
      refine W.eq (g2 := F0 m 4 ls [.int (pek (sg tx n pl))]) rfl ?_
      refine lv_bipush (v := 45) hx hb d_Mo_isInteger_4 (by decide) ?_
      refine lv_icmp_ne (tgt := 13) hx hb d_Mo_isInteger_6 (by decide) (fun c43 => absurd ((pek_eq (k := 45) (by omega) (by omega) (by omega)).mpr hng) c43) (fun c43 => ?_)
      refine lv_iconst (v := 1) hx hb d_Mo_isInteger_9 (by decide) ?_
      refine lv_goto (tgt := 14) hx hb d_Mo_isInteger_10 (by decide) ?_
      refine lv_istore_n hx hb d_Mo_isInteger_14 rfl hl (by decide) rfl (fun ls hl => ?_)
      have hl : lv_has ls 9 [(1, .int 1), (0, .ref a)] := hl
      refine lv_iload_n hx hb d_Mo_isInteger_15 rfl (lv_at hl 0 rfl) ?_
      refine lv_if_eq (tgt := 29) hx hb d_Mo_isInteger_16 (by decide) (fun c44 => absurd c44 (by decide)) (fun c44 => ?_)
      refine lv_aload_n hx hb d_Mo_isInteger_19 rfl (lv_at hl 1 rfl) ?_
      refine lv_dup hx hb d_Mo_isInteger_20 rfl ?_
      refine mo_getS (v := nI pl) C V X 21 (by decide) (by decide) (by first | rfl | exact hS21) f_Mo_179 rfl d_Mo_isInteger_21 ?_
      refine lv_iconst (v := 1) hx hb d_Mo_isInteger_24 (by decide) ?_
      refine gn_iadd (a := pl) (b := 1) hx hb d_Mo_isInteger_25 ?_
      refine mo_putS C V X 21 (by decide) (by decide) f_Mo_179 rfl rfl rfl d_Mo_isInteger_26 (fun f1 H locs V1 X1 => ?_)
      clear V X
      have V := V1
      have X := X1
      clear V1 X1
      have h21 : (va_up S 21 (nI (pl + 1))) 21 = nI (pl + 1) := va_up_s
      have hS21 := h21
      have hT : rT tx n (va_up S 21 (nI (pl + 1))) I := hT.keep (va_up_n (by decide)) rfl
      refine lv_aload_n hx hb d_Mo_isInteger_29 rfl (lv_at hl 1 rfl) ?_
      refine gh_callV C V hl.1 m_Mo_isDigit l_Mo_192 (c_Mo_isDigit l E _ _ a ad _ _ _ tx n (pl + 1) X.1 hT h21 (by omega)) rfl X.1.1 gc_Mo ⟨by first | decide | omega | (dsimp only; omega), by first | decide | omega | (dsimp only; omega)⟩ ⟨by first | decide | omega | (dsimp only; omega), by first | decide | omega | (dsimp only; omega)⟩ (Nat.le_of_ble_eq_true rfl) rfl d_Mo_isInteger_30 (fun r z9 H locs hp9 V1 => ?_)
      obtain ⟨rfl, he9⟩ := hp9
      rw [he9] at V1
      have V := V1
      rw [decide_eq_false hdg]
      refine W.eq (g2 := F0 m 33 ls [.int (gh_bi false)]) rfl ?_
      refine lv_if_ne (tgt := 38) hx hb d_Mo_isInteger_33 (by decide) (fun c45 => absurd (by decide) c45) (fun c45 => ?_)
      refine lv_iconst (v := 0) hx hb d_Mo_isInteger_36 (by decide) ?_
      refine gh_retz hAe C V hr (by first | rfl | decide) hlocks d_Mo_isInteger_37 (by first | decide | omega | (dsimp only; omega)) (by first | decide | omega | (dsimp only; omega)) ?_
      have hrd9 : rd_i tx n true pl = (pl + 1, none) := by
        rw [rd_i_n hng]
        unfold rd_j; rw [if_pos hdg]
      rw [hrd9]
      exact ⟨rfl, _, _, _, X, h21, ⟨fun _ => ⟨fun k a1 a2 => (by first | rfl | exact hS k a1 | (rw [va_up_n a1] <;> first | rfl | exact hS k a1) | (rw [va_up_n a1, va_up_n a1] <;> first | rfl | exact hS k a1)), rfl, rfl⟩, fun z => (by cases z)⟩⟩
  · have hs1 := hsg (pl)
    have hs2 := hsg (pl + 1)
    by_cases hdg : 48 ≤ sg tx n (pl) ∧ sg tx n (pl) ≤ 57
    · have hq1 := sg_lt (by omega : sg tx n (pl) ≠ 0)
      by_cases hz0 : sg tx n (pl) = 48
      · by_cases hd2 : 48 ≤ sg tx n (pl + 1) ∧ sg tx n (pl + 1) ≤ 57
        · refine lv_aload_n hx hb d_Mo_isInteger_0 rfl (lv_at hl 0 rfl) ?_
          refine gh_callV C V hl.1 m_Mo_peek l_Mo_185 (c_Mo_pk l E _ _ a ad _ _ _ tx n pl X.1 hT h21 (by omega)) rfl X.1.1 gc_Mo ⟨by first | decide | omega | (dsimp only; omega), by first | decide | omega | (dsimp only; omega)⟩ ⟨by first | decide | omega | (dsimp only; omega), by first | decide | omega | (dsimp only; omega)⟩ (Nat.le_of_ble_eq_true rfl) rfl d_Mo_isInteger_1 (fun r z9 H locs hp9 V1 => ?_)
          obtain ⟨rfl, he9⟩ := hp9
          rw [he9] at V1
          have V := V1
          refine W.eq (g2 := F0 m 4 ls [.int (pek (sg tx n pl))]) rfl ?_
          refine lv_bipush (v := 45) hx hb d_Mo_isInteger_4 (by decide) ?_
          refine lv_icmp_ne (tgt := 13) hx hb d_Mo_isInteger_6 (by decide) (fun c46 => ?_) (fun c46 => absurd c46 (fun z => hng ((pek_eq (k := 45) (by omega) (by omega) (by omega)).mp z)))
          refine lv_iconst (v := 0) hx hb d_Mo_isInteger_13 (by decide) ?_
          refine lv_istore_n hx hb d_Mo_isInteger_14 rfl hl (by decide) rfl (fun ls hl => ?_)
          have hl : lv_has ls 9 [(1, .int 0), (0, .ref a)] := hl
          refine lv_iload_n hx hb d_Mo_isInteger_15 rfl (lv_at hl 0 rfl) ?_
          refine lv_if_eq (tgt := 29) hx hb d_Mo_isInteger_16 (by decide) (fun c47 => ?_) (fun c47 => absurd (by decide) c47)
          refine lv_aload_n hx hb d_Mo_isInteger_29 rfl (lv_at hl 1 rfl) ?_
          refine gh_callV C V hl.1 m_Mo_isDigit l_Mo_192 (c_Mo_isDigit l E _ _ a ad _ _ _ tx n pl X.1 hT h21 (by omega)) rfl X.1.1 gc_Mo ⟨by first | decide | omega | (dsimp only; omega), by first | decide | omega | (dsimp only; omega)⟩ ⟨by first | decide | omega | (dsimp only; omega), by first | decide | omega | (dsimp only; omega)⟩ (Nat.le_of_ble_eq_true rfl) rfl d_Mo_isInteger_30 (fun r z9 H locs hp9 V1 => ?_)
          obtain ⟨rfl, he9⟩ := hp9
          rw [he9] at V1
          have V := V1
          rw [decide_eq_true hdg]
          refine W.eq (g2 := F0 m 33 ls [.int (gh_bi true)]) rfl ?_
          refine lv_if_ne (tgt := 38) hx hb d_Mo_isInteger_33 (by decide) (fun c48 => ?_) (fun c48 => absurd c48 (by decide))
          refine lv_aload_n hx hb d_Mo_isInteger_38 rfl (lv_at hl 1 rfl) ?_
          refine gh_callV C V hl.1 m_Mo_peek l_Mo_185 (c_Mo_pk l E _ _ a ad _ _ _ tx n pl X.1 hT h21 (by omega)) rfl X.1.1 gc_Mo ⟨by first | decide | omega | (dsimp only; omega), by first | decide | omega | (dsimp only; omega)⟩ ⟨by first | decide | omega | (dsimp only; omega), by first | decide | omega | (dsimp only; omega)⟩ (Nat.le_of_ble_eq_true rfl) rfl d_Mo_isInteger_39 (fun r z9 H locs hp9 V1 => ?_)
          obtain ⟨rfl, he9⟩ := hp9
          rw [he9] at V1
          have V := V1
          refine W.eq (g2 := F0 m 42 ls [.int (pek (sg tx n pl))]) rfl ?_
          refine lv_bipush (v := 48) hx hb d_Mo_isInteger_42 (by decide) ?_
          refine lv_icmp_ne (tgt := 51) hx hb d_Mo_isInteger_44 (by decide) (fun c49 => absurd ((pek_eq (k := 48) (by omega) (by omega) (by omega)).mpr hz0) c49) (fun c49 => ?_)
          refine lv_iconst (v := 1) hx hb d_Mo_isInteger_47 (by decide) ?_
          refine lv_goto (tgt := 52) hx hb d_Mo_isInteger_48 (by decide) ?_
          refine lv_istore_n hx hb d_Mo_isInteger_52 rfl hl (by decide) rfl (fun ls hl => ?_)
          have hl : lv_has ls 9 [(2, .int 1), (1, .int 0), (0, .ref a)] := hl
          refine lv_lconst (v := 0) hx hb d_Mo_isInteger_53 (by decide) ?_
          refine lv_lstore_n hx hb d_Mo_isInteger_54 rfl hl (by decide) rfl (fun ls hl => ?_)
          have hl : lv_has ls 9 [(3, .long 0), (2, .int 1), (1, .int 0), (0, .ref a)] := hl
          have hl : lv_has ls 9 [(3, .long (Int64.ofInt 0)), (2, .int 1), (1, .int 0), (0, .ref a)] := hl
          refine lv_aload_n hx hb d_Mo_isInteger_55 rfl (lv_at hl 3 rfl) ?_
          refine gh_callV C V hl.1 m_Mo_isDigit l_Mo_192 (c_Mo_isDigit l E _ _ a ad _ _ _ tx n pl X.1 hT h21 (by omega)) rfl X.1.1 gc_Mo ⟨by first | decide | omega | (dsimp only; omega), by first | decide | omega | (dsimp only; omega)⟩ ⟨by first | decide | omega | (dsimp only; omega), by first | decide | omega | (dsimp only; omega)⟩ (Nat.le_of_ble_eq_true rfl) rfl d_Mo_isInteger_56 (fun r z9 H locs hp9 V1 => ?_)
          obtain ⟨rfl, he9⟩ := hp9
          rw [he9] at V1
          have V := V1
          rw [decide_eq_true hdg]
          refine W.eq (g2 := F0 m 59 ls [.int (gh_bi true)]) rfl ?_
          refine lv_if_eq (tgt := 147) hx hb d_Mo_isInteger_59 (by decide) (fun c50 => absurd c50 (by decide)) (fun c50 => ?_)
          refine lv_aload_n hx hb d_Mo_isInteger_62 rfl (lv_at hl 3 rfl) ?_
          refine gh_callV C V hl.1 m_Mo_peek l_Mo_185 (c_Mo_pk l E _ _ a ad _ _ _ tx n pl X.1 hT h21 (by omega)) rfl X.1.1 gc_Mo ⟨by first | decide | omega | (dsimp only; omega), by first | decide | omega | (dsimp only; omega)⟩ ⟨by first | decide | omega | (dsimp only; omega), by first | decide | omega | (dsimp only; omega)⟩ (Nat.le_of_ble_eq_true rfl) rfl d_Mo_isInteger_63 (fun r z9 H locs hp9 V1 => ?_)
          obtain ⟨rfl, he9⟩ := hp9
          rw [he9] at V1
          have V := V1
          refine W.eq (g2 := F0 m 66 ls [.int (pek (sg tx n pl))]) rfl ?_
          refine lv_i2l hx hb d_Mo_isInteger_66 rfl ?_
          refine lv_ldc2 (v := 48) hx hb C.2.2.2.1 (C.2.2.2.2.1 _ kl_Mo_196) d_Mo_isInteger_67 ?_
          refine lv_lsub hx hb d_Mo_isInteger_70 ?_
          rw [ri_d (c := sg tx n (pl)) (by omega) (by omega)]
          refine lv_lstore hx hb d_Mo_isInteger_71 hl (by decide) rfl (fun ls hl => ?_)
          have hl : lv_has ls 9 [(5, .long (lN (sg tx n (pl) - 48))), (3, .long (Int64.ofInt 0)), (2, .int 1), (1, .int 0), (0, .ref a)] := hl
          refine lv_iload_n hx hb d_Mo_isInteger_73 rfl (lv_at hl 3 rfl) ?_
          refine lv_if_eq (tgt := 83) hx hb d_Mo_isInteger_74 (by decide) (fun c51 => ?_) (fun c51 => absurd (by decide) c51)
          refine lv_ldc2 (v := (-9223372036854775807)) hx hb C.2.2.2.1 (C.2.2.2.2.1 _ kl_Mo_200) d_Mo_isInteger_83 ?_
          refine lv_lstore hx hb d_Mo_isInteger_86 hl (by decide) rfl (fun ls hl => ?_)
          have hl : lv_has ls 9 [(7, .long ((-9223372036854775807))), (5, .long (lN (sg tx n (pl) - 48))), (3, .long (Int64.ofInt 0)), (2, .int 1), (1, .int 0), (0, .ref a)] := hl
          have hl : lv_has ls 9 [(7, .long (rd_lL false)), (5, .long (lN (sg tx n (pl) - 48))), (3, .long (Int64.ofInt 0)), (2, .int 1), (1, .int 0), (0, .ref a)] := hl
          refine lv_lload_n hx hb d_Mo_isInteger_88 rfl (lv_at hl 2 rfl) ?_
          refine lv_ldc2 (v := (-922337203685477580)) hx hb C.2.2.2.1 (C.2.2.2.2.1 _ kl_Mo_202) d_Mo_isInteger_89 ?_
          refine W.lcmp hx hb d_Mo_isInteger_92 ?_
          refine lv_if_lt (tgt := 110) hx hb d_Mo_isInteger_93 (by decide) (fun c52 => absurd c52 (fun z => absurd ((ri_c1 (z := 0) (by decide) (by decide)).mp z) (by decide))) (fun c52 => ?_)
          refine lv_ldc2 (v := 10) hx hb C.2.2.2.1 (C.2.2.2.2.1 _ kl_Mo_204) d_Mo_isInteger_96 ?_
          refine lv_lload_n hx hb d_Mo_isInteger_99 rfl (lv_at hl 2 rfl) ?_
          refine lv_lmul hx hb d_Mo_isInteger_100 ?_
          refine lv_lload hx hb d_Mo_isInteger_101 (lv_at hl 0 rfl) ?_
          refine lv_lload hx hb d_Mo_isInteger_103 (lv_at hl 1 rfl) ?_
          refine lv_ladd hx hb d_Mo_isInteger_105 ?_
          refine W.lcmp hx hb d_Mo_isInteger_106 ?_
          refine lv_if_ge (tgt := 112) hx hb d_Mo_isInteger_107 (by decide) (fun c53 => ?_) (fun c53 => absurd (Int32.not_lt.mp (fun z => absurd ((ri_c2 (z := 0) (neg := false) (d := sg tx n (pl) - 48) (by decide) (by decide) (by omega)).mp z) (by have h9 : rd_ls false ≤ -9223372036854775807 := (by decide); omega))) c53)
          refine lv_ldc2 (v := 10) hx hb C.2.2.2.1 (C.2.2.2.2.1 _ kl_Mo_204) d_Mo_isInteger_112 ?_
          refine lv_lload_n hx hb d_Mo_isInteger_115 rfl (lv_at hl 2 rfl) ?_
          refine lv_lmul hx hb d_Mo_isInteger_116 ?_
          refine lv_lload hx hb d_Mo_isInteger_117 (lv_at hl 1 rfl) ?_
          refine lv_lsub hx hb d_Mo_isInteger_119 ?_
          rw [ri_n]
          refine lv_lstore_n hx hb d_Mo_isInteger_120 rfl hl (by decide) rfl (fun ls hl => ?_)
          have hl : lv_has ls 9 [(3, .long (Int64.ofInt (10 * 0 - ((sg tx n (pl) - 48 : Nat) : Int)))), (7, .long (rd_lL false)), (5, .long (lN (sg tx n (pl) - 48))), (2, .int 1), (1, .int 0), (0, .ref a)] := hl
          refine lv_aload_n hx hb d_Mo_isInteger_121 rfl (lv_at hl 5 rfl) ?_
          refine lv_dup hx hb d_Mo_isInteger_122 rfl ?_
          refine mo_getS (v := nI pl) C V X 21 (by decide) (by decide) (by first | rfl | exact hS21) f_Mo_179 rfl d_Mo_isInteger_123 ?_
          refine lv_iconst (v := 1) hx hb d_Mo_isInteger_126 (by decide) ?_
          refine gn_iadd (a := pl) (b := 1) hx hb d_Mo_isInteger_127 ?_
          refine mo_putS C V X 21 (by decide) (by decide) f_Mo_179 rfl rfl rfl d_Mo_isInteger_128 (fun f1 H locs V1 X1 => ?_)
          clear V X
          have V := V1
          have X := X1
          clear V1 X1
          have h21 : (va_up S 21 (nI (pl + 1))) 21 = nI (pl + 1) := va_up_s
          have hS21 := h21
          have hT : rT tx n (va_up S 21 (nI (pl + 1))) I := hT.keep (va_up_n (by decide)) rfl
          refine lv_iload_n hx hb d_Mo_isInteger_131 rfl (lv_at hl 3 rfl) ?_
          refine lv_if_eq (tgt := 144) hx hb d_Mo_isInteger_132 (by decide) (fun c54 => absurd c54 (by decide)) (fun c54 => ?_)
          refine lv_aload_n hx hb d_Mo_isInteger_135 rfl (lv_at hl 5 rfl) ?_
          refine gh_callV C V hl.1 m_Mo_isDigit l_Mo_192 (c_Mo_isDigit l E _ _ a ad _ _ _ tx n (pl + 1) X.1 hT h21 (by omega)) rfl X.1.1 gc_Mo ⟨by first | decide | omega | (dsimp only; omega), by first | decide | omega | (dsimp only; omega)⟩ ⟨by first | decide | omega | (dsimp only; omega), by first | decide | omega | (dsimp only; omega)⟩ (Nat.le_of_ble_eq_true rfl) rfl d_Mo_isInteger_136 (fun r z9 H locs hp9 V1 => ?_)
          obtain ⟨rfl, he9⟩ := hp9
          rw [he9] at V1
          have V := V1
          rw [decide_eq_true hd2]
          refine W.eq (g2 := F0 m 139 ls [.int (gh_bi true)]) rfl ?_
          refine lv_if_eq (tgt := 144) hx hb d_Mo_isInteger_139 (by decide) (fun c55 => absurd c55 (by decide)) (fun c55 => ?_)
          refine lv_iconst (v := 0) hx hb d_Mo_isInteger_142 (by decide) ?_
          refine gh_retz hAe C V hr (by first | rfl | decide) hlocks d_Mo_isInteger_143 (by first | decide | omega | (dsimp only; omega)) (by first | decide | omega | (dsimp only; omega)) ?_
          have hrd9 : rd_i tx n true pl = (pl + 1, none) := by
            rw [rd_i_p hng]
            unfold rd_j; rw [if_neg (fun z => z hdg), if_pos hz0, if_pos ⟨rfl, hd2⟩]
          rw [hrd9]
          exact ⟨rfl, _, _, _, X, h21, ⟨fun _ => ⟨fun k a1 a2 => (by first | rfl | exact hS k a1 | (rw [va_up_n a1] <;> first | rfl | exact hS k a1) | (rw [va_up_n a1, va_up_n a1] <;> first | rfl | exact hS k a1)), rfl, rfl⟩, fun z => (by cases z)⟩⟩
        · refine lv_aload_n hx hb d_Mo_isInteger_0 rfl (lv_at hl 0 rfl) ?_
          refine gh_callV C V hl.1 m_Mo_peek l_Mo_185 (c_Mo_pk l E _ _ a ad _ _ _ tx n pl X.1 hT h21 (by omega)) rfl X.1.1 gc_Mo ⟨by first | decide | omega | (dsimp only; omega), by first | decide | omega | (dsimp only; omega)⟩ ⟨by first | decide | omega | (dsimp only; omega), by first | decide | omega | (dsimp only; omega)⟩ (Nat.le_of_ble_eq_true rfl) rfl d_Mo_isInteger_1 (fun r z9 H locs hp9 V1 => ?_)
          obtain ⟨rfl, he9⟩ := hp9
          rw [he9] at V1
          have V := V1
          refine W.eq (g2 := F0 m 4 ls [.int (pek (sg tx n pl))]) rfl ?_
          refine lv_bipush (v := 45) hx hb d_Mo_isInteger_4 (by decide) ?_
          refine lv_icmp_ne (tgt := 13) hx hb d_Mo_isInteger_6 (by decide) (fun c56 => ?_) (fun c56 => absurd c56 (fun z => hng ((pek_eq (k := 45) (by omega) (by omega) (by omega)).mp z)))
          refine lv_iconst (v := 0) hx hb d_Mo_isInteger_13 (by decide) ?_
          refine lv_istore_n hx hb d_Mo_isInteger_14 rfl hl (by decide) rfl (fun ls hl => ?_)
          have hl : lv_has ls 9 [(1, .int 0), (0, .ref a)] := hl
          refine lv_iload_n hx hb d_Mo_isInteger_15 rfl (lv_at hl 0 rfl) ?_
          refine lv_if_eq (tgt := 29) hx hb d_Mo_isInteger_16 (by decide) (fun c57 => ?_) (fun c57 => absurd (by decide) c57)
          refine lv_aload_n hx hb d_Mo_isInteger_29 rfl (lv_at hl 1 rfl) ?_
          refine gh_callV C V hl.1 m_Mo_isDigit l_Mo_192 (c_Mo_isDigit l E _ _ a ad _ _ _ tx n pl X.1 hT h21 (by omega)) rfl X.1.1 gc_Mo ⟨by first | decide | omega | (dsimp only; omega), by first | decide | omega | (dsimp only; omega)⟩ ⟨by first | decide | omega | (dsimp only; omega), by first | decide | omega | (dsimp only; omega)⟩ (Nat.le_of_ble_eq_true rfl) rfl d_Mo_isInteger_30 (fun r z9 H locs hp9 V1 => ?_)
          obtain ⟨rfl, he9⟩ := hp9
          rw [he9] at V1
          have V := V1
          rw [decide_eq_true hdg]
          refine W.eq (g2 := F0 m 33 ls [.int (gh_bi true)]) rfl ?_
          refine lv_if_ne (tgt := 38) hx hb d_Mo_isInteger_33 (by decide) (fun c58 => ?_) (fun c58 => absurd c58 (by decide))
          refine lv_aload_n hx hb d_Mo_isInteger_38 rfl (lv_at hl 1 rfl) ?_
          refine gh_callV C V hl.1 m_Mo_peek l_Mo_185 (c_Mo_pk l E _ _ a ad _ _ _ tx n pl X.1 hT h21 (by omega)) rfl X.1.1 gc_Mo ⟨by first | decide | omega | (dsimp only; omega), by first | decide | omega | (dsimp only; omega)⟩ ⟨by first | decide | omega | (dsimp only; omega), by first | decide | omega | (dsimp only; omega)⟩ (Nat.le_of_ble_eq_true rfl) rfl d_Mo_isInteger_39 (fun r z9 H locs hp9 V1 => ?_)
          obtain ⟨rfl, he9⟩ := hp9
          rw [he9] at V1
          have V := V1
          refine W.eq (g2 := F0 m 42 ls [.int (pek (sg tx n pl))]) rfl ?_
          refine lv_bipush (v := 48) hx hb d_Mo_isInteger_42 (by decide) ?_
          refine lv_icmp_ne (tgt := 51) hx hb d_Mo_isInteger_44 (by decide) (fun c59 => absurd ((pek_eq (k := 48) (by omega) (by omega) (by omega)).mpr hz0) c59) (fun c59 => ?_)
          refine lv_iconst (v := 1) hx hb d_Mo_isInteger_47 (by decide) ?_
          refine lv_goto (tgt := 52) hx hb d_Mo_isInteger_48 (by decide) ?_
          refine lv_istore_n hx hb d_Mo_isInteger_52 rfl hl (by decide) rfl (fun ls hl => ?_)
          have hl : lv_has ls 9 [(2, .int 1), (1, .int 0), (0, .ref a)] := hl
          refine lv_lconst (v := 0) hx hb d_Mo_isInteger_53 (by decide) ?_
          refine lv_lstore_n hx hb d_Mo_isInteger_54 rfl hl (by decide) rfl (fun ls hl => ?_)
          have hl : lv_has ls 9 [(3, .long 0), (2, .int 1), (1, .int 0), (0, .ref a)] := hl
          have hl : lv_has ls 9 [(3, .long (Int64.ofInt 0)), (2, .int 1), (1, .int 0), (0, .ref a)] := hl
          refine lv_aload_n hx hb d_Mo_isInteger_55 rfl (lv_at hl 3 rfl) ?_
          refine gh_callV C V hl.1 m_Mo_isDigit l_Mo_192 (c_Mo_isDigit l E _ _ a ad _ _ _ tx n pl X.1 hT h21 (by omega)) rfl X.1.1 gc_Mo ⟨by first | decide | omega | (dsimp only; omega), by first | decide | omega | (dsimp only; omega)⟩ ⟨by first | decide | omega | (dsimp only; omega), by first | decide | omega | (dsimp only; omega)⟩ (Nat.le_of_ble_eq_true rfl) rfl d_Mo_isInteger_56 (fun r z9 H locs hp9 V1 => ?_)
          obtain ⟨rfl, he9⟩ := hp9
          rw [he9] at V1
          have V := V1
          rw [decide_eq_true hdg]
          refine W.eq (g2 := F0 m 59 ls [.int (gh_bi true)]) rfl ?_
          refine lv_if_eq (tgt := 147) hx hb d_Mo_isInteger_59 (by decide) (fun c60 => absurd c60 (by decide)) (fun c60 => ?_)
          refine lv_aload_n hx hb d_Mo_isInteger_62 rfl (lv_at hl 3 rfl) ?_
          refine gh_callV C V hl.1 m_Mo_peek l_Mo_185 (c_Mo_pk l E _ _ a ad _ _ _ tx n pl X.1 hT h21 (by omega)) rfl X.1.1 gc_Mo ⟨by first | decide | omega | (dsimp only; omega), by first | decide | omega | (dsimp only; omega)⟩ ⟨by first | decide | omega | (dsimp only; omega), by first | decide | omega | (dsimp only; omega)⟩ (Nat.le_of_ble_eq_true rfl) rfl d_Mo_isInteger_63 (fun r z9 H locs hp9 V1 => ?_)
          obtain ⟨rfl, he9⟩ := hp9
          rw [he9] at V1
          have V := V1
          refine W.eq (g2 := F0 m 66 ls [.int (pek (sg tx n pl))]) rfl ?_
          refine lv_i2l hx hb d_Mo_isInteger_66 rfl ?_
          refine lv_ldc2 (v := 48) hx hb C.2.2.2.1 (C.2.2.2.2.1 _ kl_Mo_196) d_Mo_isInteger_67 ?_
          refine lv_lsub hx hb d_Mo_isInteger_70 ?_
          rw [ri_d (c := sg tx n (pl)) (by omega) (by omega)]
          refine lv_lstore hx hb d_Mo_isInteger_71 hl (by decide) rfl (fun ls hl => ?_)
          have hl : lv_has ls 9 [(5, .long (lN (sg tx n (pl) - 48))), (3, .long (Int64.ofInt 0)), (2, .int 1), (1, .int 0), (0, .ref a)] := hl
          refine lv_iload_n hx hb d_Mo_isInteger_73 rfl (lv_at hl 3 rfl) ?_
          refine lv_if_eq (tgt := 83) hx hb d_Mo_isInteger_74 (by decide) (fun c61 => ?_) (fun c61 => absurd (by decide) c61)
          refine lv_ldc2 (v := (-9223372036854775807)) hx hb C.2.2.2.1 (C.2.2.2.2.1 _ kl_Mo_200) d_Mo_isInteger_83 ?_
          refine lv_lstore hx hb d_Mo_isInteger_86 hl (by decide) rfl (fun ls hl => ?_)
          have hl : lv_has ls 9 [(7, .long ((-9223372036854775807))), (5, .long (lN (sg tx n (pl) - 48))), (3, .long (Int64.ofInt 0)), (2, .int 1), (1, .int 0), (0, .ref a)] := hl
          have hl : lv_has ls 9 [(7, .long (rd_lL false)), (5, .long (lN (sg tx n (pl) - 48))), (3, .long (Int64.ofInt 0)), (2, .int 1), (1, .int 0), (0, .ref a)] := hl
          refine lv_lload_n hx hb d_Mo_isInteger_88 rfl (lv_at hl 2 rfl) ?_
          refine lv_ldc2 (v := (-922337203685477580)) hx hb C.2.2.2.1 (C.2.2.2.2.1 _ kl_Mo_202) d_Mo_isInteger_89 ?_
          refine W.lcmp hx hb d_Mo_isInteger_92 ?_
          refine lv_if_lt (tgt := 110) hx hb d_Mo_isInteger_93 (by decide) (fun c62 => absurd c62 (fun z => absurd ((ri_c1 (z := 0) (by decide) (by decide)).mp z) (by decide))) (fun c62 => ?_)
          refine lv_ldc2 (v := 10) hx hb C.2.2.2.1 (C.2.2.2.2.1 _ kl_Mo_204) d_Mo_isInteger_96 ?_
          refine lv_lload_n hx hb d_Mo_isInteger_99 rfl (lv_at hl 2 rfl) ?_
          refine lv_lmul hx hb d_Mo_isInteger_100 ?_
          refine lv_lload hx hb d_Mo_isInteger_101 (lv_at hl 0 rfl) ?_
          refine lv_lload hx hb d_Mo_isInteger_103 (lv_at hl 1 rfl) ?_
          refine lv_ladd hx hb d_Mo_isInteger_105 ?_
          refine W.lcmp hx hb d_Mo_isInteger_106 ?_
          refine lv_if_ge (tgt := 112) hx hb d_Mo_isInteger_107 (by decide) (fun c63 => ?_) (fun c63 => absurd (Int32.not_lt.mp (fun z => absurd ((ri_c2 (z := 0) (neg := false) (d := sg tx n (pl) - 48) (by decide) (by decide) (by omega)).mp z) (by have h9 : rd_ls false ≤ -9223372036854775807 := (by decide); omega))) c63)
          refine lv_ldc2 (v := 10) hx hb C.2.2.2.1 (C.2.2.2.2.1 _ kl_Mo_204) d_Mo_isInteger_112 ?_
          refine lv_lload_n hx hb d_Mo_isInteger_115 rfl (lv_at hl 2 rfl) ?_
          refine lv_lmul hx hb d_Mo_isInteger_116 ?_
          refine lv_lload hx hb d_Mo_isInteger_117 (lv_at hl 1 rfl) ?_
          refine lv_lsub hx hb d_Mo_isInteger_119 ?_
          rw [ri_n]
          refine lv_lstore_n hx hb d_Mo_isInteger_120 rfl hl (by decide) rfl (fun ls hl => ?_)
          have hl : lv_has ls 9 [(3, .long (Int64.ofInt (10 * 0 - ((sg tx n (pl) - 48 : Nat) : Int)))), (7, .long (rd_lL false)), (5, .long (lN (sg tx n (pl) - 48))), (2, .int 1), (1, .int 0), (0, .ref a)] := hl
          refine lv_aload_n hx hb d_Mo_isInteger_121 rfl (lv_at hl 5 rfl) ?_
          refine lv_dup hx hb d_Mo_isInteger_122 rfl ?_
          refine mo_getS (v := nI pl) C V X 21 (by decide) (by decide) (by first | rfl | exact hS21) f_Mo_179 rfl d_Mo_isInteger_123 ?_
          refine lv_iconst (v := 1) hx hb d_Mo_isInteger_126 (by decide) ?_
          refine gn_iadd (a := pl) (b := 1) hx hb d_Mo_isInteger_127 ?_
          refine mo_putS C V X 21 (by decide) (by decide) f_Mo_179 rfl rfl rfl d_Mo_isInteger_128 (fun f1 H locs V1 X1 => ?_)
          clear V X
          have V := V1
          have X := X1
          clear V1 X1
          have h21 : (va_up S 21 (nI (pl + 1))) 21 = nI (pl + 1) := va_up_s
          have hS21 := h21
          have hT : rT tx n (va_up S 21 (nI (pl + 1))) I := hT.keep (va_up_n (by decide)) rfl
          refine lv_iload_n hx hb d_Mo_isInteger_131 rfl (lv_at hl 3 rfl) ?_
          refine lv_if_eq (tgt := 144) hx hb d_Mo_isInteger_132 (by decide) (fun c64 => absurd c64 (by decide)) (fun c64 => ?_)
          refine lv_aload_n hx hb d_Mo_isInteger_135 rfl (lv_at hl 5 rfl) ?_
          refine gh_callV C V hl.1 m_Mo_isDigit l_Mo_192 (c_Mo_isDigit l E _ _ a ad _ _ _ tx n (pl + 1) X.1 hT h21 (by omega)) rfl X.1.1 gc_Mo ⟨by first | decide | omega | (dsimp only; omega), by first | decide | omega | (dsimp only; omega)⟩ ⟨by first | decide | omega | (dsimp only; omega), by first | decide | omega | (dsimp only; omega)⟩ (Nat.le_of_ble_eq_true rfl) rfl d_Mo_isInteger_136 (fun r z9 H locs hp9 V1 => ?_)
          obtain ⟨rfl, he9⟩ := hp9
          rw [he9] at V1
          have V := V1
          rw [decide_eq_false hd2]
          refine W.eq (g2 := F0 m 139 ls [.int (gh_bi false)]) rfl ?_
          refine lv_if_eq (tgt := 144) hx hb d_Mo_isInteger_139 (by decide) (fun c65 => ?_) (fun c65 => absurd (by decide) c65)
          refine lv_goto (tgt := 55) hx hb d_Mo_isInteger_144 (by decide) ?_
          refine lv_aload_n hx hb d_Mo_isInteger_55 rfl (lv_at hl 5 rfl) ?_
          refine gh_callV C V hl.1 m_Mo_isDigit l_Mo_192 (c_Mo_isDigit l E _ _ a ad _ _ _ tx n (pl + 1) X.1 hT h21 (by omega)) rfl X.1.1 gc_Mo ⟨by first | decide | omega | (dsimp only; omega), by first | decide | omega | (dsimp only; omega)⟩ ⟨by first | decide | omega | (dsimp only; omega), by first | decide | omega | (dsimp only; omega)⟩ (Nat.le_of_ble_eq_true rfl) rfl d_Mo_isInteger_56 (fun r z9 H locs hp9 V1 => ?_)
          obtain ⟨rfl, he9⟩ := hp9
          rw [he9] at V1
          have V := V1
          rw [decide_eq_false hd2]
          refine W.eq (g2 := F0 m 59 ls [.int (gh_bi false)]) rfl ?_
          refine lv_if_eq (tgt := 147) hx hb d_Mo_isInteger_59 (by decide) (fun c66 => ?_) (fun c66 => absurd (by decide) c66)
          refine lv_aload_n hx hb d_Mo_isInteger_147 rfl (lv_at hl 5 rfl) ?_
          refine mo_getS (v := 0) C V X 27 (by decide) (by decide) (by first | rfl | exact hS27) f_Mo_206 rfl d_Mo_isInteger_148 ?_
          refine lv_if_eq (tgt := 173) hx hb d_Mo_isInteger_151 (by decide) (fun c67 => ?_) (fun c67 => absurd (by decide) c67)
          refine lv_iconst (v := 1) hx hb d_Mo_isInteger_173 (by decide) ?_
          refine gh_retz hAe C V hr (by first | rfl | decide) hlocks d_Mo_isInteger_174 (by first | decide | omega | (dsimp only; omega)) (by first | decide | omega | (dsimp only; omega)) ?_
          have hrd9 : rd_i tx n true pl = (pl + 1, some (0)) := by
            rw [rd_i_p hng]
            unfold rd_j; rw [if_neg (fun z => z hdg), if_pos hz0, if_neg (fun z => hd2 z.2)]
          rw [hrd9]
          exact ⟨rfl, _, _, _, X, h21, ⟨fun _ => ⟨fun k a1 a2 => (by first | rfl | exact hS k a1 | (rw [va_up_n a1] <;> first | rfl | exact hS k a1) | (rw [va_up_n a1, va_up_n a1] <;> first | rfl | exact hS k a1)), rfl, rfl⟩, fun z => (by cases z)⟩⟩
      · refine lv_aload_n hx hb d_Mo_isInteger_0 rfl (lv_at hl 0 rfl) ?_
        refine gh_callV C V hl.1 m_Mo_peek l_Mo_185 (c_Mo_pk l E _ _ a ad _ _ _ tx n pl X.1 hT h21 (by omega)) rfl X.1.1 gc_Mo ⟨by first | decide | omega | (dsimp only; omega), by first | decide | omega | (dsimp only; omega)⟩ ⟨by first | decide | omega | (dsimp only; omega), by first | decide | omega | (dsimp only; omega)⟩ (Nat.le_of_ble_eq_true rfl) rfl d_Mo_isInteger_1 (fun r z9 H locs hp9 V1 => ?_)
        obtain ⟨rfl, he9⟩ := hp9
        rw [he9] at V1
        have V := V1
        refine W.eq (g2 := F0 m 4 ls [.int (pek (sg tx n pl))]) rfl ?_
        refine lv_bipush (v := 45) hx hb d_Mo_isInteger_4 (by decide) ?_
        refine lv_icmp_ne (tgt := 13) hx hb d_Mo_isInteger_6 (by decide) (fun c68 => ?_) (fun c68 => absurd c68 (fun z => hng ((pek_eq (k := 45) (by omega) (by omega) (by omega)).mp z)))
        refine lv_iconst (v := 0) hx hb d_Mo_isInteger_13 (by decide) ?_
        refine lv_istore_n hx hb d_Mo_isInteger_14 rfl hl (by decide) rfl (fun ls hl => ?_)
        have hl : lv_has ls 9 [(1, .int 0), (0, .ref a)] := hl
        refine lv_iload_n hx hb d_Mo_isInteger_15 rfl (lv_at hl 0 rfl) ?_
        refine lv_if_eq (tgt := 29) hx hb d_Mo_isInteger_16 (by decide) (fun c69 => ?_) (fun c69 => absurd (by decide) c69)
        refine lv_aload_n hx hb d_Mo_isInteger_29 rfl (lv_at hl 1 rfl) ?_
        refine gh_callV C V hl.1 m_Mo_isDigit l_Mo_192 (c_Mo_isDigit l E _ _ a ad _ _ _ tx n pl X.1 hT h21 (by omega)) rfl X.1.1 gc_Mo ⟨by first | decide | omega | (dsimp only; omega), by first | decide | omega | (dsimp only; omega)⟩ ⟨by first | decide | omega | (dsimp only; omega), by first | decide | omega | (dsimp only; omega)⟩ (Nat.le_of_ble_eq_true rfl) rfl d_Mo_isInteger_30 (fun r z9 H locs hp9 V1 => ?_)
        obtain ⟨rfl, he9⟩ := hp9
        rw [he9] at V1
        have V := V1
        rw [decide_eq_true hdg]
        refine W.eq (g2 := F0 m 33 ls [.int (gh_bi true)]) rfl ?_
        refine lv_if_ne (tgt := 38) hx hb d_Mo_isInteger_33 (by decide) (fun c70 => ?_) (fun c70 => absurd c70 (by decide))
        refine lv_aload_n hx hb d_Mo_isInteger_38 rfl (lv_at hl 1 rfl) ?_
        refine gh_callV C V hl.1 m_Mo_peek l_Mo_185 (c_Mo_pk l E _ _ a ad _ _ _ tx n pl X.1 hT h21 (by omega)) rfl X.1.1 gc_Mo ⟨by first | decide | omega | (dsimp only; omega), by first | decide | omega | (dsimp only; omega)⟩ ⟨by first | decide | omega | (dsimp only; omega), by first | decide | omega | (dsimp only; omega)⟩ (Nat.le_of_ble_eq_true rfl) rfl d_Mo_isInteger_39 (fun r z9 H locs hp9 V1 => ?_)
        obtain ⟨rfl, he9⟩ := hp9
        rw [he9] at V1
        have V := V1
        refine W.eq (g2 := F0 m 42 ls [.int (pek (sg tx n pl))]) rfl ?_
        refine lv_bipush (v := 48) hx hb d_Mo_isInteger_42 (by decide) ?_
        refine lv_icmp_ne (tgt := 51) hx hb d_Mo_isInteger_44 (by decide) (fun c71 => ?_) (fun c71 => absurd c71 (fun z => hz0 ((pek_eq (k := 48) (by omega) (by omega) (by omega)).mp z)))
        refine lv_iconst (v := 0) hx hb d_Mo_isInteger_51 (by decide) ?_
        refine lv_istore_n hx hb d_Mo_isInteger_52 rfl hl (by decide) rfl (fun ls hl => ?_)
        have hl : lv_has ls 9 [(2, .int 0), (1, .int 0), (0, .ref a)] := hl
        refine lv_lconst (v := 0) hx hb d_Mo_isInteger_53 (by decide) ?_
        refine lv_lstore_n hx hb d_Mo_isInteger_54 rfl hl (by decide) rfl (fun ls hl => ?_)
        have hl : lv_has ls 9 [(3, .long 0), (2, .int 0), (1, .int 0), (0, .ref a)] := hl
        have hl : lv_has ls 9 [(3, .long 0), (0, .ref a), (1, .int 0), (2, .int 0)] := lv_sub hl [0, 3, 2, 1] rfl
        have hl : lv_has ls 9 [(3, .long (Int64.ofInt 0)), (0, .ref a), (1, .int 0), (2, .int 0)] := hl
        have loop : ∀ (m9 p9 : Nat) (zi : Int) (S1 : Nat → Int32) (f1 : gh_F) (H : Heap) (locs : List Loc) (ls : Array Slot), n ≤ p9 + m9 → p9 ≤ n → S1 21 = nI p9 → (rd_ls false ≤ zi ∧ zi ≤ 0) → rd_d tx n (rd_ls false) m9 p9 zi = rd_d tx n (rd_ls false) n (pl) 0 → (∀ k, k ≠ 21 → S1 k = S k) → mo_X E f f1 a ad S1 I J → gh_V E A f1 s H locs → lv_has ls 9 [(3, .long (Int64.ofInt zi)), (0, .ref a), (1, .int 0), (2, .int 0)] → W p l e { frames := 7, cells := 0, slots := 0, locals := 160 } s m args below meth c H locs 0 0 (MQ below (gh_Q E f (fun r g => r = some (.int (gh_bi (rd_i tx n true pl).2.isSome)) ∧ ∃ S2 I2 J2, mo_X E f g a ad S2 I2 J2 ∧ S2 21 = nI (rd_i tx n true pl).1 ∧ rO false S I J nv np ((rd_i tx n true pl).2.map vt_i) S2 I2 J2)) args s 0 0 A) (F0 m 55 ls []) := by
          intro m9
          induction m9 with
          | zero =>
            intro p9 zi S1 f1 H locs ls hm hp9 h21 hzi hrd hS X V hl
            have hT : rT tx n S1 I := hT0.keep (hS 20 (by decide)) rfl
            have hS21 := h21
            have hS27 : S1 27 = 0 := (hS 27 (by decide)).trans h27
            have hs9 := hsg p9
            have hls : rd_ls false = -9223372036854775807 := rfl
            have hnd : ¬ (48 ≤ sg tx n p9 ∧ sg tx n p9 ≤ 57) := fun z => by have := sg_lt (by omega : sg tx n p9 ≠ 0); omega
            refine lv_aload_n hx hb d_Mo_isInteger_55 rfl (lv_at hl 1 rfl) ?_
            refine gh_callV C V hl.1 m_Mo_isDigit l_Mo_192 (c_Mo_isDigit l E _ _ a ad _ _ _ tx n p9 X.1 hT h21 (by omega)) rfl X.1.1 gc_Mo ⟨by first | decide | omega | (dsimp only; omega), by first | decide | omega | (dsimp only; omega)⟩ ⟨by first | decide | omega | (dsimp only; omega), by first | decide | omega | (dsimp only; omega)⟩ (Nat.le_of_ble_eq_true rfl) rfl d_Mo_isInteger_56 (fun r z9 H locs hp9 V1 => ?_)
            obtain ⟨rfl, he9⟩ := hp9
            rw [he9] at V1
            have V := V1
            rw [decide_eq_false hnd]
            refine W.eq (g2 := F0 m 59 ls [.int (gh_bi false)]) rfl ?_
            refine lv_if_eq (tgt := 147) hx hb d_Mo_isInteger_59 (by decide) (fun c72 => ?_) (fun c72 => absurd (by decide) c72)
            refine lv_aload_n hx hb d_Mo_isInteger_147 rfl (lv_at hl 1 rfl) ?_
            refine mo_getS (v := 0) C V X 27 (by decide) (by decide) (by first | rfl | exact hS27) f_Mo_206 rfl d_Mo_isInteger_148 ?_
            refine lv_if_eq (tgt := 173) hx hb d_Mo_isInteger_151 (by decide) (fun c73 => ?_) (fun c73 => absurd (by decide) c73)
            refine lv_iconst (v := 1) hx hb d_Mo_isInteger_173 (by decide) ?_
            refine gh_retz hAe C V hr (by first | rfl | decide) hlocks d_Mo_isInteger_174 (by first | decide | omega | (dsimp only; omega)) (by first | decide | omega | (dsimp only; omega)) ?_
            have hrd9 : rd_i tx n true pl = (p9, some (Int64.ofInt (-zi))) := by
              rw [rd_i_p hng]
              unfold rd_j; rw [if_neg (fun z => z hdg), if_neg hz0, ← hrd]
              rfl
            rw [hrd9]
            exact ⟨rfl, _, _, _, X, h21, ⟨fun _ => ⟨fun k a1 a2 => (by first | rfl | exact hS k a1 | (rw [va_up_n a1] <;> first | rfl | exact hS k a1) | (rw [va_up_n a1, va_up_n a1] <;> first | rfl | exact hS k a1)), rfl, rfl⟩, fun z => (by cases z)⟩⟩
          | succ m9 ih =>
            intro p9 zi S1 f1 H locs ls hm hp9 h21 hzi hrd hS X V hl
            have hT : rT tx n S1 I := hT0.keep (hS 20 (by decide)) rfl
            have hS21 := h21
            have hS27 : S1 27 = 0 := (hS 27 (by decide)).trans h27
            have hs9 := hsg p9
            have hls : rd_ls false = -9223372036854775807 := rfl
            by_cases hnd : 48 ≤ sg tx n p9 ∧ sg tx n p9 ≤ 57
            · have hpn9 := sg_lt (by omega : sg tx n p9 ≠ 0)
              have hcd : ((sg tx n p9 - 48 : Nat) : Int) = (sg tx n p9 : Int) - 48 := by omega
              by_cases hc1 : zi < -922337203685477580
              · refine lv_aload_n hx hb d_Mo_isInteger_55 rfl (lv_at hl 1 rfl) ?_
                refine gh_callV C V hl.1 m_Mo_isDigit l_Mo_192 (c_Mo_isDigit l E _ _ a ad _ _ _ tx n p9 X.1 hT h21 (by omega)) rfl X.1.1 gc_Mo ⟨by first | decide | omega | (dsimp only; omega), by first | decide | omega | (dsimp only; omega)⟩ ⟨by first | decide | omega | (dsimp only; omega), by first | decide | omega | (dsimp only; omega)⟩ (Nat.le_of_ble_eq_true rfl) rfl d_Mo_isInteger_56 (fun r z9 H locs hp9 V1 => ?_)
                obtain ⟨rfl, he9⟩ := hp9
                rw [he9] at V1
                have V := V1
                rw [decide_eq_true hnd]
                refine W.eq (g2 := F0 m 59 ls [.int (gh_bi true)]) rfl ?_
                refine lv_if_eq (tgt := 147) hx hb d_Mo_isInteger_59 (by decide) (fun c74 => absurd c74 (by decide)) (fun c74 => ?_)
                refine lv_aload_n hx hb d_Mo_isInteger_62 rfl (lv_at hl 1 rfl) ?_
                refine gh_callV C V hl.1 m_Mo_peek l_Mo_185 (c_Mo_pk l E _ _ a ad _ _ _ tx n p9 X.1 hT h21 (by omega)) rfl X.1.1 gc_Mo ⟨by first | decide | omega | (dsimp only; omega), by first | decide | omega | (dsimp only; omega)⟩ ⟨by first | decide | omega | (dsimp only; omega), by first | decide | omega | (dsimp only; omega)⟩ (Nat.le_of_ble_eq_true rfl) rfl d_Mo_isInteger_63 (fun r z9 H locs hp9 V1 => ?_)
                obtain ⟨rfl, he9⟩ := hp9
                rw [he9] at V1
                have V := V1
                refine W.eq (g2 := F0 m 66 ls [.int (pek (sg tx n p9))]) rfl ?_
                refine lv_i2l hx hb d_Mo_isInteger_66 rfl ?_
                refine lv_ldc2 (v := 48) hx hb C.2.2.2.1 (C.2.2.2.2.1 _ kl_Mo_196) d_Mo_isInteger_67 ?_
                refine lv_lsub hx hb d_Mo_isInteger_70 ?_
                rw [ri_d (c := sg tx n (p9)) (by omega) (by omega)]
                refine lv_lstore hx hb d_Mo_isInteger_71 hl (by decide) rfl (fun ls hl => ?_)
                have hl : lv_has ls 9 [(5, .long (lN (sg tx n (p9) - 48))), (3, .long (Int64.ofInt zi)), (0, .ref a), (1, .int 0), (2, .int 0)] := hl
                refine lv_iload_n hx hb d_Mo_isInteger_73 rfl (lv_at hl 3 rfl) ?_
                refine lv_if_eq (tgt := 83) hx hb d_Mo_isInteger_74 (by decide) (fun c75 => ?_) (fun c75 => absurd (by decide) c75)
                refine lv_ldc2 (v := (-9223372036854775807)) hx hb C.2.2.2.1 (C.2.2.2.2.1 _ kl_Mo_200) d_Mo_isInteger_83 ?_
                refine lv_lstore hx hb d_Mo_isInteger_86 hl (by decide) rfl (fun ls hl => ?_)
                have hl : lv_has ls 9 [(7, .long ((-9223372036854775807))), (5, .long (lN (sg tx n (p9) - 48))), (3, .long (Int64.ofInt zi)), (0, .ref a), (1, .int 0), (2, .int 0)] := hl
                have hl : lv_has ls 9 [(7, .long (rd_lL false)), (5, .long (lN (sg tx n (p9) - 48))), (3, .long (Int64.ofInt zi)), (0, .ref a), (1, .int 0), (2, .int 0)] := hl
                refine lv_lload_n hx hb d_Mo_isInteger_88 rfl (lv_at hl 2 rfl) ?_
                refine lv_ldc2 (v := (-922337203685477580)) hx hb C.2.2.2.1 (C.2.2.2.2.1 _ kl_Mo_202) d_Mo_isInteger_89 ?_
                refine W.lcmp hx hb d_Mo_isInteger_92 ?_
                refine lv_if_lt (tgt := 110) hx hb d_Mo_isInteger_93 (by decide) (fun c76 => ?_) (fun c76 => absurd ((ri_c1 (by omega) (by omega)).mpr hc1) c76)
                refine lv_iconst (v := 0) hx hb d_Mo_isInteger_110 (by decide) ?_
                refine gh_retz hAe C V hr (by first | rfl | decide) hlocks d_Mo_isInteger_111 (by first | decide | omega | (dsimp only; omega)) (by first | decide | omega | (dsimp only; omega)) ?_
                have hrd9 : rd_i tx n true pl = (p9, none) := by
                  rw [rd_i_p hng]
                  unfold rd_j; rw [if_neg (fun z => z hdg), if_neg hz0, ← hrd]
                  rw [rd_d_o, if_pos hnd, if_pos (by omega)]
                rw [hrd9]
                exact ⟨rfl, _, _, _, X, h21, ⟨fun _ => ⟨fun k a1 a2 => (by first | rfl | exact hS k a1 | (rw [va_up_n a1] <;> first | rfl | exact hS k a1) | (rw [va_up_n a1, va_up_n a1] <;> first | rfl | exact hS k a1)), rfl, rfl⟩, fun z => (by cases z)⟩⟩
              · have hi2 := ri_c2 (z := zi) (neg := false) (d := sg tx n p9 - 48) (by omega) (by omega) (by omega)
                rw [hcd] at hi2
                by_cases hc2 : 10 * zi < rd_ls false + ((sg tx n p9 : Int) - 48)
                · refine lv_aload_n hx hb d_Mo_isInteger_55 rfl (lv_at hl 1 rfl) ?_
                  refine gh_callV C V hl.1 m_Mo_isDigit l_Mo_192 (c_Mo_isDigit l E _ _ a ad _ _ _ tx n p9 X.1 hT h21 (by omega)) rfl X.1.1 gc_Mo ⟨by first | decide | omega | (dsimp only; omega), by first | decide | omega | (dsimp only; omega)⟩ ⟨by first | decide | omega | (dsimp only; omega), by first | decide | omega | (dsimp only; omega)⟩ (Nat.le_of_ble_eq_true rfl) rfl d_Mo_isInteger_56 (fun r z9 H locs hp9 V1 => ?_)
                  obtain ⟨rfl, he9⟩ := hp9
                  rw [he9] at V1
                  have V := V1
                  rw [decide_eq_true hnd]
                  refine W.eq (g2 := F0 m 59 ls [.int (gh_bi true)]) rfl ?_
                  refine lv_if_eq (tgt := 147) hx hb d_Mo_isInteger_59 (by decide) (fun c77 => absurd c77 (by decide)) (fun c77 => ?_)
                  refine lv_aload_n hx hb d_Mo_isInteger_62 rfl (lv_at hl 1 rfl) ?_
                  refine gh_callV C V hl.1 m_Mo_peek l_Mo_185 (c_Mo_pk l E _ _ a ad _ _ _ tx n p9 X.1 hT h21 (by omega)) rfl X.1.1 gc_Mo ⟨by first | decide | omega | (dsimp only; omega), by first | decide | omega | (dsimp only; omega)⟩ ⟨by first | decide | omega | (dsimp only; omega), by first | decide | omega | (dsimp only; omega)⟩ (Nat.le_of_ble_eq_true rfl) rfl d_Mo_isInteger_63 (fun r z9 H locs hp9 V1 => ?_)
                  obtain ⟨rfl, he9⟩ := hp9
                  rw [he9] at V1
                  have V := V1
                  refine W.eq (g2 := F0 m 66 ls [.int (pek (sg tx n p9))]) rfl ?_
                  refine lv_i2l hx hb d_Mo_isInteger_66 rfl ?_
                  refine lv_ldc2 (v := 48) hx hb C.2.2.2.1 (C.2.2.2.2.1 _ kl_Mo_196) d_Mo_isInteger_67 ?_
                  refine lv_lsub hx hb d_Mo_isInteger_70 ?_
                  rw [ri_d (c := sg tx n (p9)) (by omega) (by omega)]
                  refine lv_lstore hx hb d_Mo_isInteger_71 hl (by decide) rfl (fun ls hl => ?_)
                  have hl : lv_has ls 9 [(5, .long (lN (sg tx n (p9) - 48))), (3, .long (Int64.ofInt zi)), (0, .ref a), (1, .int 0), (2, .int 0)] := hl
                  refine lv_iload_n hx hb d_Mo_isInteger_73 rfl (lv_at hl 3 rfl) ?_
                  refine lv_if_eq (tgt := 83) hx hb d_Mo_isInteger_74 (by decide) (fun c78 => ?_) (fun c78 => absurd (by decide) c78)
                  refine lv_ldc2 (v := (-9223372036854775807)) hx hb C.2.2.2.1 (C.2.2.2.2.1 _ kl_Mo_200) d_Mo_isInteger_83 ?_
                  refine lv_lstore hx hb d_Mo_isInteger_86 hl (by decide) rfl (fun ls hl => ?_)
                  have hl : lv_has ls 9 [(7, .long ((-9223372036854775807))), (5, .long (lN (sg tx n (p9) - 48))), (3, .long (Int64.ofInt zi)), (0, .ref a), (1, .int 0), (2, .int 0)] := hl
                  have hl : lv_has ls 9 [(7, .long (rd_lL false)), (5, .long (lN (sg tx n (p9) - 48))), (3, .long (Int64.ofInt zi)), (0, .ref a), (1, .int 0), (2, .int 0)] := hl
                  refine lv_lload_n hx hb d_Mo_isInteger_88 rfl (lv_at hl 2 rfl) ?_
                  refine lv_ldc2 (v := (-922337203685477580)) hx hb C.2.2.2.1 (C.2.2.2.2.1 _ kl_Mo_202) d_Mo_isInteger_89 ?_
                  refine W.lcmp hx hb d_Mo_isInteger_92 ?_
                  refine lv_if_lt (tgt := 110) hx hb d_Mo_isInteger_93 (by decide) (fun c79 => absurd c79 (fun z => hc1 ((ri_c1 (by omega) (by omega)).mp z))) (fun c79 => ?_)
                  refine lv_ldc2 (v := 10) hx hb C.2.2.2.1 (C.2.2.2.2.1 _ kl_Mo_204) d_Mo_isInteger_96 ?_
                  refine lv_lload_n hx hb d_Mo_isInteger_99 rfl (lv_at hl 2 rfl) ?_
                  refine lv_lmul hx hb d_Mo_isInteger_100 ?_
                  refine lv_lload hx hb d_Mo_isInteger_101 (lv_at hl 0 rfl) ?_
                  refine lv_lload hx hb d_Mo_isInteger_103 (lv_at hl 1 rfl) ?_
                  refine lv_ladd hx hb d_Mo_isInteger_105 ?_
                  refine W.lcmp hx hb d_Mo_isInteger_106 ?_
                  refine lv_if_ge (tgt := 112) hx hb d_Mo_isInteger_107 (by decide) (fun c80 => absurd c80 (fun z => absurd (hi2.mpr hc2) (lg_ge0 z))) (fun c80 => ?_)
                  refine lv_iconst (v := 0) hx hb d_Mo_isInteger_110 (by decide) ?_
                  refine gh_retz hAe C V hr (by first | rfl | decide) hlocks d_Mo_isInteger_111 (by first | decide | omega | (dsimp only; omega)) (by first | decide | omega | (dsimp only; omega)) ?_
                  have hrd9 : rd_i tx n true pl = (p9, none) := by
                    rw [rd_i_p hng]
                    unfold rd_j; rw [if_neg (fun z => z hdg), if_neg hz0, ← hrd]
                    rw [rd_d_o, if_pos hnd, if_pos (by omega)]
                  rw [hrd9]
                  exact ⟨rfl, _, _, _, X, h21, ⟨fun _ => ⟨fun k a1 a2 => (by first | rfl | exact hS k a1 | (rw [va_up_n a1] <;> first | rfl | exact hS k a1) | (rw [va_up_n a1, va_up_n a1] <;> first | rfl | exact hS k a1)), rfl, rfl⟩, fun z => (by cases z)⟩⟩
                · refine lv_aload_n hx hb d_Mo_isInteger_55 rfl (lv_at hl 1 rfl) ?_
                  refine gh_callV C V hl.1 m_Mo_isDigit l_Mo_192 (c_Mo_isDigit l E _ _ a ad _ _ _ tx n p9 X.1 hT h21 (by omega)) rfl X.1.1 gc_Mo ⟨by first | decide | omega | (dsimp only; omega), by first | decide | omega | (dsimp only; omega)⟩ ⟨by first | decide | omega | (dsimp only; omega), by first | decide | omega | (dsimp only; omega)⟩ (Nat.le_of_ble_eq_true rfl) rfl d_Mo_isInteger_56 (fun r z9 H locs hp9 V1 => ?_)
                  obtain ⟨rfl, he9⟩ := hp9
                  rw [he9] at V1
                  have V := V1
                  rw [decide_eq_true hnd]
                  refine W.eq (g2 := F0 m 59 ls [.int (gh_bi true)]) rfl ?_
                  refine lv_if_eq (tgt := 147) hx hb d_Mo_isInteger_59 (by decide) (fun c81 => absurd c81 (by decide)) (fun c81 => ?_)
                  refine lv_aload_n hx hb d_Mo_isInteger_62 rfl (lv_at hl 1 rfl) ?_
                  refine gh_callV C V hl.1 m_Mo_peek l_Mo_185 (c_Mo_pk l E _ _ a ad _ _ _ tx n p9 X.1 hT h21 (by omega)) rfl X.1.1 gc_Mo ⟨by first | decide | omega | (dsimp only; omega), by first | decide | omega | (dsimp only; omega)⟩ ⟨by first | decide | omega | (dsimp only; omega), by first | decide | omega | (dsimp only; omega)⟩ (Nat.le_of_ble_eq_true rfl) rfl d_Mo_isInteger_63 (fun r z9 H locs hp9 V1 => ?_)
                  obtain ⟨rfl, he9⟩ := hp9
                  rw [he9] at V1
                  have V := V1
                  refine W.eq (g2 := F0 m 66 ls [.int (pek (sg tx n p9))]) rfl ?_
                  refine lv_i2l hx hb d_Mo_isInteger_66 rfl ?_
                  refine lv_ldc2 (v := 48) hx hb C.2.2.2.1 (C.2.2.2.2.1 _ kl_Mo_196) d_Mo_isInteger_67 ?_
                  refine lv_lsub hx hb d_Mo_isInteger_70 ?_
                  rw [ri_d (c := sg tx n (p9)) (by omega) (by omega)]
                  refine lv_lstore hx hb d_Mo_isInteger_71 hl (by decide) rfl (fun ls hl => ?_)
                  have hl : lv_has ls 9 [(5, .long (lN (sg tx n (p9) - 48))), (3, .long (Int64.ofInt zi)), (0, .ref a), (1, .int 0), (2, .int 0)] := hl
                  refine lv_iload_n hx hb d_Mo_isInteger_73 rfl (lv_at hl 3 rfl) ?_
                  refine lv_if_eq (tgt := 83) hx hb d_Mo_isInteger_74 (by decide) (fun c82 => ?_) (fun c82 => absurd (by decide) c82)
                  refine lv_ldc2 (v := (-9223372036854775807)) hx hb C.2.2.2.1 (C.2.2.2.2.1 _ kl_Mo_200) d_Mo_isInteger_83 ?_
                  refine lv_lstore hx hb d_Mo_isInteger_86 hl (by decide) rfl (fun ls hl => ?_)
                  have hl : lv_has ls 9 [(7, .long ((-9223372036854775807))), (5, .long (lN (sg tx n (p9) - 48))), (3, .long (Int64.ofInt zi)), (0, .ref a), (1, .int 0), (2, .int 0)] := hl
                  have hl : lv_has ls 9 [(7, .long (rd_lL false)), (5, .long (lN (sg tx n (p9) - 48))), (3, .long (Int64.ofInt zi)), (0, .ref a), (1, .int 0), (2, .int 0)] := hl
                  refine lv_lload_n hx hb d_Mo_isInteger_88 rfl (lv_at hl 2 rfl) ?_
                  refine lv_ldc2 (v := (-922337203685477580)) hx hb C.2.2.2.1 (C.2.2.2.2.1 _ kl_Mo_202) d_Mo_isInteger_89 ?_
                  refine W.lcmp hx hb d_Mo_isInteger_92 ?_
                  refine lv_if_lt (tgt := 110) hx hb d_Mo_isInteger_93 (by decide) (fun c83 => absurd c83 (fun z => hc1 ((ri_c1 (by omega) (by omega)).mp z))) (fun c83 => ?_)
                  refine lv_ldc2 (v := 10) hx hb C.2.2.2.1 (C.2.2.2.2.1 _ kl_Mo_204) d_Mo_isInteger_96 ?_
                  refine lv_lload_n hx hb d_Mo_isInteger_99 rfl (lv_at hl 2 rfl) ?_
                  refine lv_lmul hx hb d_Mo_isInteger_100 ?_
                  refine lv_lload hx hb d_Mo_isInteger_101 (lv_at hl 0 rfl) ?_
                  refine lv_lload hx hb d_Mo_isInteger_103 (lv_at hl 1 rfl) ?_
                  refine lv_ladd hx hb d_Mo_isInteger_105 ?_
                  refine W.lcmp hx hb d_Mo_isInteger_106 ?_
                  refine lv_if_ge (tgt := 112) hx hb d_Mo_isInteger_107 (by decide) (fun c84 => ?_) (fun c84 => absurd (Int32.not_lt.mp (fun z => hc2 (hi2.mp z))) c84)
                  refine lv_ldc2 (v := 10) hx hb C.2.2.2.1 (C.2.2.2.2.1 _ kl_Mo_204) d_Mo_isInteger_112 ?_
                  refine lv_lload_n hx hb d_Mo_isInteger_115 rfl (lv_at hl 2 rfl) ?_
                  refine lv_lmul hx hb d_Mo_isInteger_116 ?_
                  refine lv_lload hx hb d_Mo_isInteger_117 (lv_at hl 1 rfl) ?_
                  refine lv_lsub hx hb d_Mo_isInteger_119 ?_
                  rw [ri_n]
                  refine lv_lstore_n hx hb d_Mo_isInteger_120 rfl hl (by decide) rfl (fun ls hl => ?_)
                  have hl : lv_has ls 9 [(3, .long (Int64.ofInt (10 * zi - ((sg tx n (p9) - 48 : Nat) : Int)))), (7, .long (rd_lL false)), (5, .long (lN (sg tx n (p9) - 48))), (0, .ref a), (1, .int 0), (2, .int 0)] := hl
                  refine lv_aload_n hx hb d_Mo_isInteger_121 rfl (lv_at hl 3 rfl) ?_
                  refine lv_dup hx hb d_Mo_isInteger_122 rfl ?_
                  refine mo_getS (v := nI p9) C V X 21 (by decide) (by decide) (by first | rfl | exact hS21) f_Mo_179 rfl d_Mo_isInteger_123 ?_
                  refine lv_iconst (v := 1) hx hb d_Mo_isInteger_126 (by decide) ?_
                  refine gn_iadd (a := p9) (b := 1) hx hb d_Mo_isInteger_127 ?_
                  refine mo_putS C V X 21 (by decide) (by decide) f_Mo_179 rfl rfl rfl d_Mo_isInteger_128 (fun f1 H locs V1 X1 => ?_)
                  clear V X
                  have V := V1
                  have X := X1
                  clear V1 X1
                  have h21 : (va_up S1 21 (nI (p9 + 1))) 21 = nI (p9 + 1) := va_up_s
                  have hS21 := h21
                  have hT : rT tx n (va_up S1 21 (nI (p9 + 1))) I := hT.keep (va_up_n (by decide)) rfl
                  refine lv_iload_n hx hb d_Mo_isInteger_131 rfl (lv_at hl 5 rfl) ?_
                  refine lv_if_eq (tgt := 144) hx hb d_Mo_isInteger_132 (by decide) (fun c85 => ?_) (fun c85 => absurd (by decide) c85)
                  refine lv_goto (tgt := 55) hx hb d_Mo_isInteger_144 (by decide) ?_
                  have hl : lv_has ls 9 [(3, .long (Int64.ofInt (10 * zi - ((sg tx n (p9) - 48 : Nat) : Int)))), (0, .ref a), (1, .int 0), (2, .int 0)] := lv_sub hl [0, 3, 4, 5] rfl
                  rw [hcd] at hl
                  exact ih (p9 + 1) _ _ _ _ _ ls (by omega) (by omega) h21 ⟨by omega, by omega⟩ (by rw [← hrd, rd_d_o, if_pos hnd, if_neg hc2]) (fun k a1 => by rw [va_up_n a1]; exact hS k a1) X V hl
            · refine lv_aload_n hx hb d_Mo_isInteger_55 rfl (lv_at hl 1 rfl) ?_
              refine gh_callV C V hl.1 m_Mo_isDigit l_Mo_192 (c_Mo_isDigit l E _ _ a ad _ _ _ tx n p9 X.1 hT h21 (by omega)) rfl X.1.1 gc_Mo ⟨by first | decide | omega | (dsimp only; omega), by first | decide | omega | (dsimp only; omega)⟩ ⟨by first | decide | omega | (dsimp only; omega), by first | decide | omega | (dsimp only; omega)⟩ (Nat.le_of_ble_eq_true rfl) rfl d_Mo_isInteger_56 (fun r z9 H locs hp9 V1 => ?_)
              obtain ⟨rfl, he9⟩ := hp9
              rw [he9] at V1
              have V := V1
              rw [decide_eq_false hnd]
              refine W.eq (g2 := F0 m 59 ls [.int (gh_bi false)]) rfl ?_
              refine lv_if_eq (tgt := 147) hx hb d_Mo_isInteger_59 (by decide) (fun c86 => ?_) (fun c86 => absurd (by decide) c86)
              refine lv_aload_n hx hb d_Mo_isInteger_147 rfl (lv_at hl 1 rfl) ?_
              refine mo_getS (v := 0) C V X 27 (by decide) (by decide) (by first | rfl | exact hS27) f_Mo_206 rfl d_Mo_isInteger_148 ?_
              refine lv_if_eq (tgt := 173) hx hb d_Mo_isInteger_151 (by decide) (fun c87 => ?_) (fun c87 => absurd (by decide) c87)
              refine lv_iconst (v := 1) hx hb d_Mo_isInteger_173 (by decide) ?_
              refine gh_retz hAe C V hr (by first | rfl | decide) hlocks d_Mo_isInteger_174 (by first | decide | omega | (dsimp only; omega)) (by first | decide | omega | (dsimp only; omega)) ?_
              have hrd9 : rd_i tx n true pl = (p9, some (Int64.ofInt (-zi))) := by
                rw [rd_i_p hng]
                unfold rd_j; rw [if_neg (fun z => z hdg), if_neg hz0, ← hrd]
                rw [rd_d_o, if_neg hnd]
                rfl
              rw [hrd9]
              exact ⟨rfl, _, _, _, X, h21, ⟨fun _ => ⟨fun k a1 a2 => (by first | rfl | exact hS k a1 | (rw [va_up_n a1] <;> first | rfl | exact hS k a1) | (rw [va_up_n a1, va_up_n a1] <;> first | rfl | exact hS k a1)), rfl, rfl⟩, fun z => (by cases z)⟩⟩
        exact loop n (pl) 0 _ _ _ _ ls (by omega) (by omega) h21 ⟨by decide, Int.le_refl 0⟩ rfl (fun k a1 => by first | rfl | exact va_up_n a1) X V hl
    · refine lv_aload_n hx hb d_Mo_isInteger_0 rfl (lv_at hl 0 rfl) ?_
      refine gh_callV C V hl.1 m_Mo_peek l_Mo_185 (c_Mo_pk l E _ _ a ad _ _ _ tx n pl X.1 hT h21 (by omega)) rfl X.1.1 gc_Mo ⟨by first | decide | omega | (dsimp only; omega), by first | decide | omega | (dsimp only; omega)⟩ ⟨by first | decide | omega | (dsimp only; omega), by first | decide | omega | (dsimp only; omega)⟩ (Nat.le_of_ble_eq_true rfl) rfl d_Mo_isInteger_1 (fun r z9 H locs hp9 V1 => ?_)
      obtain ⟨rfl, he9⟩ := hp9
      rw [he9] at V1
      have V := V1
      refine W.eq (g2 := F0 m 4 ls [.int (pek (sg tx n pl))]) rfl ?_
      refine lv_bipush (v := 45) hx hb d_Mo_isInteger_4 (by decide) ?_
      refine lv_icmp_ne (tgt := 13) hx hb d_Mo_isInteger_6 (by decide) (fun c88 => ?_) (fun c88 => absurd c88 (fun z => hng ((pek_eq (k := 45) (by omega) (by omega) (by omega)).mp z)))
      refine lv_iconst (v := 0) hx hb d_Mo_isInteger_13 (by decide) ?_
      refine lv_istore_n hx hb d_Mo_isInteger_14 rfl hl (by decide) rfl (fun ls hl => ?_)
      have hl : lv_has ls 9 [(1, .int 0), (0, .ref a)] := hl
      refine lv_iload_n hx hb d_Mo_isInteger_15 rfl (lv_at hl 0 rfl) ?_
      refine lv_if_eq (tgt := 29) hx hb d_Mo_isInteger_16 (by decide) (fun c89 => ?_) (fun c89 => absurd (by decide) c89)
      refine lv_aload_n hx hb d_Mo_isInteger_29 rfl (lv_at hl 1 rfl) ?_
      refine gh_callV C V hl.1 m_Mo_isDigit l_Mo_192 (c_Mo_isDigit l E _ _ a ad _ _ _ tx n pl X.1 hT h21 (by omega)) rfl X.1.1 gc_Mo ⟨by first | decide | omega | (dsimp only; omega), by first | decide | omega | (dsimp only; omega)⟩ ⟨by first | decide | omega | (dsimp only; omega), by first | decide | omega | (dsimp only; omega)⟩ (Nat.le_of_ble_eq_true rfl) rfl d_Mo_isInteger_30 (fun r z9 H locs hp9 V1 => ?_)
      obtain ⟨rfl, he9⟩ := hp9
      rw [he9] at V1
      have V := V1
      rw [decide_eq_false hdg]
      refine W.eq (g2 := F0 m 33 ls [.int (gh_bi false)]) rfl ?_
      refine lv_if_ne (tgt := 38) hx hb d_Mo_isInteger_33 (by decide) (fun c90 => absurd (by decide) c90) (fun c90 => ?_)
      refine lv_iconst (v := 0) hx hb d_Mo_isInteger_36 (by decide) ?_
      refine gh_retz hAe C V hr (by first | rfl | decide) hlocks d_Mo_isInteger_37 (by first | decide | omega | (dsimp only; omega)) (by first | decide | omega | (dsimp only; omega)) ?_
      have hrd9 : rd_i tx n true pl = (pl, none) := by
        rw [rd_i_p hng]
        unfold rd_j; rw [if_pos hdg]
      rw [hrd9]
      exact ⟨rfl, _, _, _, X, h21, ⟨fun _ => ⟨fun k a1 a2 => (by first | rfl | exact hS k a1 | (rw [va_up_n a1] <;> first | rfl | exact hS k a1) | (rw [va_up_n a1, va_up_n a1] <;> first | rfl | exact hS k a1)), rfl, rfl⟩, fun z => (by cases z)⟩⟩
set_option maxHeartbeats 4000000 in
set_option maxRecDepth 100000 in
theorem c_Mo_isIntegerT (l : Launch) (E : gh_E) (sz : Nat) (f : gh_F) (a : Nat) (ad : Nat → Nat) (S : Nat → Int32) (I : Nat → Nat → Int32) (J : Nat → Nat → Int64) (tx : Nat → Nat) (n pl : Nat) (nv np : Nat) (hX : mo_R E f a ad S I J) (hT : rT tx n S I) (h21 : S 21 = nI pl) (hp : pl ≤ n) (h27 : S 27 = 1) (h11 : S 11 = nI nv) (hnv : nv < 760) (h29 : 29 ≤ nv) : gh_M l y_Mo_isInteger b_Mo_isInteger 9 (some .boolean) E sz [.ref a] f { frames := 7, cells := 0, slots := 0, locals := 160 } (fun r g => r = some (.int (gh_bi (rd_i tx n true pl).2.isSome)) ∧ ∃ S2 I2 J2, mo_X E f g a ad S2 I2 J2 ∧ S2 21 = nI (rd_i tx n true pl).1 ∧ rO true S I J nv np ((rd_i tx n true pl).2.map vt_i) S2 I2 J2) := by
  have hsg := fun q => (hT.ch q).1
  have hS21 := h21
  have hT0 := hT
  have hS27 := h27
  have h120 := hT.2.1
  have hs0 := hsg pl
  refine gh_open (by decide) (Nat.le_of_ble_eq_true rfl) ?_
  intro p e s m args below meth c A ls hAe C V hr hlocks hname hl
  have hx := C.1
  have hb := C.2.1
  have hl : lv_has ls 9 [(0, .ref a)] := hl
  have X : mo_X E f f a ad S I J := ⟨hX, gh_fr.rf⟩
  by_cases hng : sg tx n pl = 45
  · have hpn := sg_lt (by omega : sg tx n pl ≠ 0)
    have hs1 := hsg (pl + 1)
    have hs2 := hsg (pl + 1 + 1)
    have h11c := h11
    by_cases hdg : 48 ≤ sg tx n (pl + 1) ∧ sg tx n (pl + 1) ≤ 57
    · have hq1 := sg_lt (by omega : sg tx n (pl + 1) ≠ 0)
      by_cases hz0 : sg tx n (pl + 1) = 48
      · by_cases hd2 : 48 ≤ sg tx n (pl + 1 + 1) ∧ sg tx n (pl + 1 + 1) ≤ 57
        · refine lv_aload_n hx hb d_Mo_isInteger_0 rfl (lv_at hl 0 rfl) ?_
          refine gh_callV C V hl.1 m_Mo_peek l_Mo_185 (c_Mo_pk l E _ _ a ad _ _ _ tx n pl X.1 hT h21 (by omega)) rfl X.1.1 gc_Mo ⟨by first | decide | omega | (dsimp only; omega), by first | decide | omega | (dsimp only; omega)⟩ ⟨by first | decide | omega | (dsimp only; omega), by first | decide | omega | (dsimp only; omega)⟩ (Nat.le_of_ble_eq_true rfl) rfl d_Mo_isInteger_1 (fun r z9 H locs hp9 V1 => ?_)
          obtain ⟨rfl, he9⟩ := hp9
          rw [he9] at V1
          have V := V1
          refine W.eq (g2 := F0 m 4 ls [.int (pek (sg tx n pl))]) rfl ?_
          refine lv_bipush (v := 45) hx hb d_Mo_isInteger_4 (by decide) ?_
          refine lv_icmp_ne (tgt := 13) hx hb d_Mo_isInteger_6 (by decide) (fun c1 => absurd ((pek_eq (k := 45) (by omega) (by omega) (by omega)).mpr hng) c1) (fun c1 => ?_)
          refine lv_iconst (v := 1) hx hb d_Mo_isInteger_9 (by decide) ?_
          refine lv_goto (tgt := 14) hx hb d_Mo_isInteger_10 (by decide) ?_
          refine lv_istore_n hx hb d_Mo_isInteger_14 rfl hl (by decide) rfl (fun ls hl => ?_)
          have hl : lv_has ls 9 [(1, .int 1), (0, .ref a)] := hl
          refine lv_iload_n hx hb d_Mo_isInteger_15 rfl (lv_at hl 0 rfl) ?_
          refine lv_if_eq (tgt := 29) hx hb d_Mo_isInteger_16 (by decide) (fun c2 => absurd c2 (by decide)) (fun c2 => ?_)
          refine lv_aload_n hx hb d_Mo_isInteger_19 rfl (lv_at hl 1 rfl) ?_
          refine lv_dup hx hb d_Mo_isInteger_20 rfl ?_
          refine mo_getS (v := nI pl) C V X 21 (by decide) (by decide) (by first | rfl | exact hS21) f_Mo_179 rfl d_Mo_isInteger_21 ?_
          refine lv_iconst (v := 1) hx hb d_Mo_isInteger_24 (by decide) ?_
          refine gn_iadd (a := pl) (b := 1) hx hb d_Mo_isInteger_25 ?_
          refine mo_putS C V X 21 (by decide) (by decide) f_Mo_179 rfl rfl rfl d_Mo_isInteger_26 (fun f1 H locs V1 X1 => ?_)
          clear V X
          have V := V1
          have X := X1
          clear V1 X1
          have h21 : (va_up S 21 (nI (pl + 1))) 21 = nI (pl + 1) := va_up_s
          have hS21 := h21
          have hT : rT tx n (va_up S 21 (nI (pl + 1))) I := hT.keep (va_up_n (by decide)) rfl
          refine lv_aload_n hx hb d_Mo_isInteger_29 rfl (lv_at hl 1 rfl) ?_
          refine gh_callV C V hl.1 m_Mo_isDigit l_Mo_192 (c_Mo_isDigit l E _ _ a ad _ _ _ tx n (pl + 1) X.1 hT h21 (by omega)) rfl X.1.1 gc_Mo ⟨by first | decide | omega | (dsimp only; omega), by first | decide | omega | (dsimp only; omega)⟩ ⟨by first | decide | omega | (dsimp only; omega), by first | decide | omega | (dsimp only; omega)⟩ (Nat.le_of_ble_eq_true rfl) rfl d_Mo_isInteger_30 (fun r z9 H locs hp9 V1 => ?_)
          obtain ⟨rfl, he9⟩ := hp9
          rw [he9] at V1
          have V := V1
          rw [decide_eq_true hdg]
          refine W.eq (g2 := F0 m 33 ls [.int (gh_bi true)]) rfl ?_
          refine lv_if_ne (tgt := 38) hx hb d_Mo_isInteger_33 (by decide) (fun c3 => ?_) (fun c3 => absurd c3 (by decide))
          refine lv_aload_n hx hb d_Mo_isInteger_38 rfl (lv_at hl 1 rfl) ?_
          refine gh_callV C V hl.1 m_Mo_peek l_Mo_185 (c_Mo_pk l E _ _ a ad _ _ _ tx n (pl + 1) X.1 hT h21 (by omega)) rfl X.1.1 gc_Mo ⟨by first | decide | omega | (dsimp only; omega), by first | decide | omega | (dsimp only; omega)⟩ ⟨by first | decide | omega | (dsimp only; omega), by first | decide | omega | (dsimp only; omega)⟩ (Nat.le_of_ble_eq_true rfl) rfl d_Mo_isInteger_39 (fun r z9 H locs hp9 V1 => ?_)
          obtain ⟨rfl, he9⟩ := hp9
          rw [he9] at V1
          have V := V1
          refine W.eq (g2 := F0 m 42 ls [.int (pek (sg tx n (pl + 1)))]) rfl ?_
          refine lv_bipush (v := 48) hx hb d_Mo_isInteger_42 (by decide) ?_
          refine lv_icmp_ne (tgt := 51) hx hb d_Mo_isInteger_44 (by decide) (fun c4 => absurd ((pek_eq (k := 48) (by omega) (by omega) (by omega)).mpr hz0) c4) (fun c4 => ?_)
          refine lv_iconst (v := 1) hx hb d_Mo_isInteger_47 (by decide) ?_
          refine lv_goto (tgt := 52) hx hb d_Mo_isInteger_48 (by decide) ?_
          refine lv_istore_n hx hb d_Mo_isInteger_52 rfl hl (by decide) rfl (fun ls hl => ?_)
          have hl : lv_has ls 9 [(2, .int 1), (1, .int 1), (0, .ref a)] := hl
          refine lv_lconst (v := 0) hx hb d_Mo_isInteger_53 (by decide) ?_
          refine lv_lstore_n hx hb d_Mo_isInteger_54 rfl hl (by decide) rfl (fun ls hl => ?_)
          have hl : lv_has ls 9 [(3, .long 0), (2, .int 1), (1, .int 1), (0, .ref a)] := hl
          have hl : lv_has ls 9 [(3, .long (Int64.ofInt 0)), (2, .int 1), (1, .int 1), (0, .ref a)] := hl
          refine lv_aload_n hx hb d_Mo_isInteger_55 rfl (lv_at hl 3 rfl) ?_
          refine gh_callV C V hl.1 m_Mo_isDigit l_Mo_192 (c_Mo_isDigit l E _ _ a ad _ _ _ tx n (pl + 1) X.1 hT h21 (by omega)) rfl X.1.1 gc_Mo ⟨by first | decide | omega | (dsimp only; omega), by first | decide | omega | (dsimp only; omega)⟩ ⟨by first | decide | omega | (dsimp only; omega), by first | decide | omega | (dsimp only; omega)⟩ (Nat.le_of_ble_eq_true rfl) rfl d_Mo_isInteger_56 (fun r z9 H locs hp9 V1 => ?_)
          obtain ⟨rfl, he9⟩ := hp9
          rw [he9] at V1
          have V := V1
          rw [decide_eq_true hdg]
          refine W.eq (g2 := F0 m 59 ls [.int (gh_bi true)]) rfl ?_
          refine lv_if_eq (tgt := 147) hx hb d_Mo_isInteger_59 (by decide) (fun c5 => absurd c5 (by decide)) (fun c5 => ?_)
          refine lv_aload_n hx hb d_Mo_isInteger_62 rfl (lv_at hl 3 rfl) ?_
          refine gh_callV C V hl.1 m_Mo_peek l_Mo_185 (c_Mo_pk l E _ _ a ad _ _ _ tx n (pl + 1) X.1 hT h21 (by omega)) rfl X.1.1 gc_Mo ⟨by first | decide | omega | (dsimp only; omega), by first | decide | omega | (dsimp only; omega)⟩ ⟨by first | decide | omega | (dsimp only; omega), by first | decide | omega | (dsimp only; omega)⟩ (Nat.le_of_ble_eq_true rfl) rfl d_Mo_isInteger_63 (fun r z9 H locs hp9 V1 => ?_)
          obtain ⟨rfl, he9⟩ := hp9
          rw [he9] at V1
          have V := V1
          refine W.eq (g2 := F0 m 66 ls [.int (pek (sg tx n (pl + 1)))]) rfl ?_
          refine lv_i2l hx hb d_Mo_isInteger_66 rfl ?_
          refine lv_ldc2 (v := 48) hx hb C.2.2.2.1 (C.2.2.2.2.1 _ kl_Mo_196) d_Mo_isInteger_67 ?_
          refine lv_lsub hx hb d_Mo_isInteger_70 ?_
          rw [ri_d (c := sg tx n (pl + 1)) (by omega) (by omega)]
          refine lv_lstore hx hb d_Mo_isInteger_71 hl (by decide) rfl (fun ls hl => ?_)
          have hl : lv_has ls 9 [(5, .long (lN (sg tx n (pl + 1) - 48))), (3, .long (Int64.ofInt 0)), (2, .int 1), (1, .int 1), (0, .ref a)] := hl
          refine lv_iload_n hx hb d_Mo_isInteger_73 rfl (lv_at hl 3 rfl) ?_
          refine lv_if_eq (tgt := 83) hx hb d_Mo_isInteger_74 (by decide) (fun c6 => absurd c6 (by decide)) (fun c6 => ?_)
          refine lv_ldc2 (v := (-9223372036854775808)) hx hb C.2.2.2.1 (C.2.2.2.2.1 _ kl_Mo_198) d_Mo_isInteger_77 ?_
          refine lv_goto (tgt := 86) hx hb d_Mo_isInteger_80 (by decide) ?_
          refine lv_lstore hx hb d_Mo_isInteger_86 hl (by decide) rfl (fun ls hl => ?_)
          have hl : lv_has ls 9 [(7, .long ((-9223372036854775808))), (5, .long (lN (sg tx n (pl + 1) - 48))), (3, .long (Int64.ofInt 0)), (2, .int 1), (1, .int 1), (0, .ref a)] := hl
          have hl : lv_has ls 9 [(7, .long (rd_lL true)), (5, .long (lN (sg tx n (pl + 1) - 48))), (3, .long (Int64.ofInt 0)), (2, .int 1), (1, .int 1), (0, .ref a)] := hl
          refine lv_lload_n hx hb d_Mo_isInteger_88 rfl (lv_at hl 2 rfl) ?_
          refine lv_ldc2 (v := (-922337203685477580)) hx hb C.2.2.2.1 (C.2.2.2.2.1 _ kl_Mo_202) d_Mo_isInteger_89 ?_
          refine W.lcmp hx hb d_Mo_isInteger_92 ?_
          refine lv_if_lt (tgt := 110) hx hb d_Mo_isInteger_93 (by decide) (fun c7 => absurd c7 (fun z => absurd ((ri_c1 (z := 0) (by decide) (by decide)).mp z) (by decide))) (fun c7 => ?_)
          refine lv_ldc2 (v := 10) hx hb C.2.2.2.1 (C.2.2.2.2.1 _ kl_Mo_204) d_Mo_isInteger_96 ?_
          refine lv_lload_n hx hb d_Mo_isInteger_99 rfl (lv_at hl 2 rfl) ?_
          refine lv_lmul hx hb d_Mo_isInteger_100 ?_
          refine lv_lload hx hb d_Mo_isInteger_101 (lv_at hl 0 rfl) ?_
          refine lv_lload hx hb d_Mo_isInteger_103 (lv_at hl 1 rfl) ?_
          refine lv_ladd hx hb d_Mo_isInteger_105 ?_
          refine W.lcmp hx hb d_Mo_isInteger_106 ?_
          refine lv_if_ge (tgt := 112) hx hb d_Mo_isInteger_107 (by decide) (fun c8 => ?_) (fun c8 => absurd (Int32.not_lt.mp (fun z => absurd ((ri_c2 (z := 0) (neg := true) (d := sg tx n (pl + 1) - 48) (by decide) (by decide) (by omega)).mp z) (by have h9 : rd_ls true ≤ -9223372036854775807 := (by decide); omega))) c8)
          refine lv_ldc2 (v := 10) hx hb C.2.2.2.1 (C.2.2.2.2.1 _ kl_Mo_204) d_Mo_isInteger_112 ?_
          refine lv_lload_n hx hb d_Mo_isInteger_115 rfl (lv_at hl 2 rfl) ?_
          refine lv_lmul hx hb d_Mo_isInteger_116 ?_
          refine lv_lload hx hb d_Mo_isInteger_117 (lv_at hl 1 rfl) ?_
          refine lv_lsub hx hb d_Mo_isInteger_119 ?_
          rw [ri_n]
          refine lv_lstore_n hx hb d_Mo_isInteger_120 rfl hl (by decide) rfl (fun ls hl => ?_)
          have hl : lv_has ls 9 [(3, .long (Int64.ofInt (10 * 0 - ((sg tx n (pl + 1) - 48 : Nat) : Int)))), (7, .long (rd_lL true)), (5, .long (lN (sg tx n (pl + 1) - 48))), (2, .int 1), (1, .int 1), (0, .ref a)] := hl
          refine lv_aload_n hx hb d_Mo_isInteger_121 rfl (lv_at hl 5 rfl) ?_
          refine lv_dup hx hb d_Mo_isInteger_122 rfl ?_
          refine mo_getS (v := nI (pl + 1)) C V X 21 (by decide) (by decide) (by first | rfl | exact hS21) f_Mo_179 rfl d_Mo_isInteger_123 ?_
          refine lv_iconst (v := 1) hx hb d_Mo_isInteger_126 (by decide) ?_
          refine gn_iadd (a := pl + 1) (b := 1) hx hb d_Mo_isInteger_127 ?_
          refine mo_putS C V X 21 (by decide) (by decide) f_Mo_179 rfl rfl rfl d_Mo_isInteger_128 (fun f1 H locs V1 X1 => ?_)
          clear V X
          have V := V1
          have X := X1
          clear V1 X1
          have h21 : (va_up (va_up S 21 (nI (pl + 1))) 21 (nI ((pl + 1) + 1))) 21 = nI ((pl + 1) + 1) := va_up_s
          have hS21 := h21
          have hT : rT tx n (va_up (va_up S 21 (nI (pl + 1))) 21 (nI ((pl + 1) + 1))) I := hT.keep (va_up_n (by decide)) rfl
          refine lv_iload_n hx hb d_Mo_isInteger_131 rfl (lv_at hl 3 rfl) ?_
          refine lv_if_eq (tgt := 144) hx hb d_Mo_isInteger_132 (by decide) (fun c9 => absurd c9 (by decide)) (fun c9 => ?_)
          refine lv_aload_n hx hb d_Mo_isInteger_135 rfl (lv_at hl 5 rfl) ?_
          refine gh_callV C V hl.1 m_Mo_isDigit l_Mo_192 (c_Mo_isDigit l E _ _ a ad _ _ _ tx n (pl + 1 + 1) X.1 hT h21 (by omega)) rfl X.1.1 gc_Mo ⟨by first | decide | omega | (dsimp only; omega), by first | decide | omega | (dsimp only; omega)⟩ ⟨by first | decide | omega | (dsimp only; omega), by first | decide | omega | (dsimp only; omega)⟩ (Nat.le_of_ble_eq_true rfl) rfl d_Mo_isInteger_136 (fun r z9 H locs hp9 V1 => ?_)
          obtain ⟨rfl, he9⟩ := hp9
          rw [he9] at V1
          have V := V1
          rw [decide_eq_true hd2]
          refine W.eq (g2 := F0 m 139 ls [.int (gh_bi true)]) rfl ?_
          refine lv_if_eq (tgt := 144) hx hb d_Mo_isInteger_139 (by decide) (fun c10 => absurd c10 (by decide)) (fun c10 => ?_)
          refine lv_iconst (v := 0) hx hb d_Mo_isInteger_142 (by decide) ?_
          refine gh_retz hAe C V hr (by first | rfl | decide) hlocks d_Mo_isInteger_143 (by first | decide | omega | (dsimp only; omega)) (by first | decide | omega | (dsimp only; omega)) ?_
          have hrd9 : rd_i tx n true pl = (pl + 1 + 1, none) := by
            rw [rd_i_n hng]
            unfold rd_j; rw [if_neg (fun z => z hdg), if_pos hz0, if_pos ⟨rfl, hd2⟩]
          rw [hrd9]
          exact ⟨rfl, _, _, _, X, h21, ⟨fun z => (by cases z), fun _ X9 hz => (by cases hz)⟩⟩
        · refine lv_aload_n hx hb d_Mo_isInteger_0 rfl (lv_at hl 0 rfl) ?_
          refine gh_callV C V hl.1 m_Mo_peek l_Mo_185 (c_Mo_pk l E _ _ a ad _ _ _ tx n pl X.1 hT h21 (by omega)) rfl X.1.1 gc_Mo ⟨by first | decide | omega | (dsimp only; omega), by first | decide | omega | (dsimp only; omega)⟩ ⟨by first | decide | omega | (dsimp only; omega), by first | decide | omega | (dsimp only; omega)⟩ (Nat.le_of_ble_eq_true rfl) rfl d_Mo_isInteger_1 (fun r z9 H locs hp9 V1 => ?_)
          obtain ⟨rfl, he9⟩ := hp9
          rw [he9] at V1
          have V := V1
          refine W.eq (g2 := F0 m 4 ls [.int (pek (sg tx n pl))]) rfl ?_
          refine lv_bipush (v := 45) hx hb d_Mo_isInteger_4 (by decide) ?_
          refine lv_icmp_ne (tgt := 13) hx hb d_Mo_isInteger_6 (by decide) (fun c11 => absurd ((pek_eq (k := 45) (by omega) (by omega) (by omega)).mpr hng) c11) (fun c11 => ?_)
          refine lv_iconst (v := 1) hx hb d_Mo_isInteger_9 (by decide) ?_
          refine lv_goto (tgt := 14) hx hb d_Mo_isInteger_10 (by decide) ?_
          refine lv_istore_n hx hb d_Mo_isInteger_14 rfl hl (by decide) rfl (fun ls hl => ?_)
          have hl : lv_has ls 9 [(1, .int 1), (0, .ref a)] := hl
          refine lv_iload_n hx hb d_Mo_isInteger_15 rfl (lv_at hl 0 rfl) ?_
          refine lv_if_eq (tgt := 29) hx hb d_Mo_isInteger_16 (by decide) (fun c12 => absurd c12 (by decide)) (fun c12 => ?_)
          refine lv_aload_n hx hb d_Mo_isInteger_19 rfl (lv_at hl 1 rfl) ?_
          refine lv_dup hx hb d_Mo_isInteger_20 rfl ?_
          refine mo_getS (v := nI pl) C V X 21 (by decide) (by decide) (by first | rfl | exact hS21) f_Mo_179 rfl d_Mo_isInteger_21 ?_
          refine lv_iconst (v := 1) hx hb d_Mo_isInteger_24 (by decide) ?_
          refine gn_iadd (a := pl) (b := 1) hx hb d_Mo_isInteger_25 ?_
          refine mo_putS C V X 21 (by decide) (by decide) f_Mo_179 rfl rfl rfl d_Mo_isInteger_26 (fun f1 H locs V1 X1 => ?_)
          clear V X
          have V := V1
          have X := X1
          clear V1 X1
          have h21 : (va_up S 21 (nI (pl + 1))) 21 = nI (pl + 1) := va_up_s
          have hS21 := h21
          have hT : rT tx n (va_up S 21 (nI (pl + 1))) I := hT.keep (va_up_n (by decide)) rfl
          refine lv_aload_n hx hb d_Mo_isInteger_29 rfl (lv_at hl 1 rfl) ?_
          refine gh_callV C V hl.1 m_Mo_isDigit l_Mo_192 (c_Mo_isDigit l E _ _ a ad _ _ _ tx n (pl + 1) X.1 hT h21 (by omega)) rfl X.1.1 gc_Mo ⟨by first | decide | omega | (dsimp only; omega), by first | decide | omega | (dsimp only; omega)⟩ ⟨by first | decide | omega | (dsimp only; omega), by first | decide | omega | (dsimp only; omega)⟩ (Nat.le_of_ble_eq_true rfl) rfl d_Mo_isInteger_30 (fun r z9 H locs hp9 V1 => ?_)
          obtain ⟨rfl, he9⟩ := hp9
          rw [he9] at V1
          have V := V1
          rw [decide_eq_true hdg]
          refine W.eq (g2 := F0 m 33 ls [.int (gh_bi true)]) rfl ?_
          refine lv_if_ne (tgt := 38) hx hb d_Mo_isInteger_33 (by decide) (fun c13 => ?_) (fun c13 => absurd c13 (by decide))
          refine lv_aload_n hx hb d_Mo_isInteger_38 rfl (lv_at hl 1 rfl) ?_
          refine gh_callV C V hl.1 m_Mo_peek l_Mo_185 (c_Mo_pk l E _ _ a ad _ _ _ tx n (pl + 1) X.1 hT h21 (by omega)) rfl X.1.1 gc_Mo ⟨by first | decide | omega | (dsimp only; omega), by first | decide | omega | (dsimp only; omega)⟩ ⟨by first | decide | omega | (dsimp only; omega), by first | decide | omega | (dsimp only; omega)⟩ (Nat.le_of_ble_eq_true rfl) rfl d_Mo_isInteger_39 (fun r z9 H locs hp9 V1 => ?_)
          obtain ⟨rfl, he9⟩ := hp9
          rw [he9] at V1
          have V := V1
          refine W.eq (g2 := F0 m 42 ls [.int (pek (sg tx n (pl + 1)))]) rfl ?_
          refine lv_bipush (v := 48) hx hb d_Mo_isInteger_42 (by decide) ?_
          refine lv_icmp_ne (tgt := 51) hx hb d_Mo_isInteger_44 (by decide) (fun c14 => absurd ((pek_eq (k := 48) (by omega) (by omega) (by omega)).mpr hz0) c14) (fun c14 => ?_)
          refine lv_iconst (v := 1) hx hb d_Mo_isInteger_47 (by decide) ?_
          refine lv_goto (tgt := 52) hx hb d_Mo_isInteger_48 (by decide) ?_
          refine lv_istore_n hx hb d_Mo_isInteger_52 rfl hl (by decide) rfl (fun ls hl => ?_)
          have hl : lv_has ls 9 [(2, .int 1), (1, .int 1), (0, .ref a)] := hl
          refine lv_lconst (v := 0) hx hb d_Mo_isInteger_53 (by decide) ?_
          refine lv_lstore_n hx hb d_Mo_isInteger_54 rfl hl (by decide) rfl (fun ls hl => ?_)
          have hl : lv_has ls 9 [(3, .long 0), (2, .int 1), (1, .int 1), (0, .ref a)] := hl
          have hl : lv_has ls 9 [(3, .long (Int64.ofInt 0)), (2, .int 1), (1, .int 1), (0, .ref a)] := hl
          refine lv_aload_n hx hb d_Mo_isInteger_55 rfl (lv_at hl 3 rfl) ?_
          refine gh_callV C V hl.1 m_Mo_isDigit l_Mo_192 (c_Mo_isDigit l E _ _ a ad _ _ _ tx n (pl + 1) X.1 hT h21 (by omega)) rfl X.1.1 gc_Mo ⟨by first | decide | omega | (dsimp only; omega), by first | decide | omega | (dsimp only; omega)⟩ ⟨by first | decide | omega | (dsimp only; omega), by first | decide | omega | (dsimp only; omega)⟩ (Nat.le_of_ble_eq_true rfl) rfl d_Mo_isInteger_56 (fun r z9 H locs hp9 V1 => ?_)
          obtain ⟨rfl, he9⟩ := hp9
          rw [he9] at V1
          have V := V1
          rw [decide_eq_true hdg]
          refine W.eq (g2 := F0 m 59 ls [.int (gh_bi true)]) rfl ?_
          refine lv_if_eq (tgt := 147) hx hb d_Mo_isInteger_59 (by decide) (fun c15 => absurd c15 (by decide)) (fun c15 => ?_)
          refine lv_aload_n hx hb d_Mo_isInteger_62 rfl (lv_at hl 3 rfl) ?_
          refine gh_callV C V hl.1 m_Mo_peek l_Mo_185 (c_Mo_pk l E _ _ a ad _ _ _ tx n (pl + 1) X.1 hT h21 (by omega)) rfl X.1.1 gc_Mo ⟨by first | decide | omega | (dsimp only; omega), by first | decide | omega | (dsimp only; omega)⟩ ⟨by first | decide | omega | (dsimp only; omega), by first | decide | omega | (dsimp only; omega)⟩ (Nat.le_of_ble_eq_true rfl) rfl d_Mo_isInteger_63 (fun r z9 H locs hp9 V1 => ?_)
          obtain ⟨rfl, he9⟩ := hp9
          rw [he9] at V1
          have V := V1
          refine W.eq (g2 := F0 m 66 ls [.int (pek (sg tx n (pl + 1)))]) rfl ?_
          refine lv_i2l hx hb d_Mo_isInteger_66 rfl ?_
          refine lv_ldc2 (v := 48) hx hb C.2.2.2.1 (C.2.2.2.2.1 _ kl_Mo_196) d_Mo_isInteger_67 ?_
          refine lv_lsub hx hb d_Mo_isInteger_70 ?_
          rw [ri_d (c := sg tx n (pl + 1)) (by omega) (by omega)]
          refine lv_lstore hx hb d_Mo_isInteger_71 hl (by decide) rfl (fun ls hl => ?_)
          have hl : lv_has ls 9 [(5, .long (lN (sg tx n (pl + 1) - 48))), (3, .long (Int64.ofInt 0)), (2, .int 1), (1, .int 1), (0, .ref a)] := hl
          refine lv_iload_n hx hb d_Mo_isInteger_73 rfl (lv_at hl 3 rfl) ?_
          refine lv_if_eq (tgt := 83) hx hb d_Mo_isInteger_74 (by decide) (fun c16 => absurd c16 (by decide)) (fun c16 => ?_)
          refine lv_ldc2 (v := (-9223372036854775808)) hx hb C.2.2.2.1 (C.2.2.2.2.1 _ kl_Mo_198) d_Mo_isInteger_77 ?_
          refine lv_goto (tgt := 86) hx hb d_Mo_isInteger_80 (by decide) ?_
          refine lv_lstore hx hb d_Mo_isInteger_86 hl (by decide) rfl (fun ls hl => ?_)
          have hl : lv_has ls 9 [(7, .long ((-9223372036854775808))), (5, .long (lN (sg tx n (pl + 1) - 48))), (3, .long (Int64.ofInt 0)), (2, .int 1), (1, .int 1), (0, .ref a)] := hl
          have hl : lv_has ls 9 [(7, .long (rd_lL true)), (5, .long (lN (sg tx n (pl + 1) - 48))), (3, .long (Int64.ofInt 0)), (2, .int 1), (1, .int 1), (0, .ref a)] := hl
          refine lv_lload_n hx hb d_Mo_isInteger_88 rfl (lv_at hl 2 rfl) ?_
          refine lv_ldc2 (v := (-922337203685477580)) hx hb C.2.2.2.1 (C.2.2.2.2.1 _ kl_Mo_202) d_Mo_isInteger_89 ?_
          refine W.lcmp hx hb d_Mo_isInteger_92 ?_
          refine lv_if_lt (tgt := 110) hx hb d_Mo_isInteger_93 (by decide) (fun c17 => absurd c17 (fun z => absurd ((ri_c1 (z := 0) (by decide) (by decide)).mp z) (by decide))) (fun c17 => ?_)
          refine lv_ldc2 (v := 10) hx hb C.2.2.2.1 (C.2.2.2.2.1 _ kl_Mo_204) d_Mo_isInteger_96 ?_
          refine lv_lload_n hx hb d_Mo_isInteger_99 rfl (lv_at hl 2 rfl) ?_
          refine lv_lmul hx hb d_Mo_isInteger_100 ?_
          refine lv_lload hx hb d_Mo_isInteger_101 (lv_at hl 0 rfl) ?_
          refine lv_lload hx hb d_Mo_isInteger_103 (lv_at hl 1 rfl) ?_
          refine lv_ladd hx hb d_Mo_isInteger_105 ?_
          refine W.lcmp hx hb d_Mo_isInteger_106 ?_
          refine lv_if_ge (tgt := 112) hx hb d_Mo_isInteger_107 (by decide) (fun c18 => ?_) (fun c18 => absurd (Int32.not_lt.mp (fun z => absurd ((ri_c2 (z := 0) (neg := true) (d := sg tx n (pl + 1) - 48) (by decide) (by decide) (by omega)).mp z) (by have h9 : rd_ls true ≤ -9223372036854775807 := (by decide); omega))) c18)
          refine lv_ldc2 (v := 10) hx hb C.2.2.2.1 (C.2.2.2.2.1 _ kl_Mo_204) d_Mo_isInteger_112 ?_
          refine lv_lload_n hx hb d_Mo_isInteger_115 rfl (lv_at hl 2 rfl) ?_
          refine lv_lmul hx hb d_Mo_isInteger_116 ?_
          refine lv_lload hx hb d_Mo_isInteger_117 (lv_at hl 1 rfl) ?_
          refine lv_lsub hx hb d_Mo_isInteger_119 ?_
          rw [ri_n]
          refine lv_lstore_n hx hb d_Mo_isInteger_120 rfl hl (by decide) rfl (fun ls hl => ?_)
          have hl : lv_has ls 9 [(3, .long (Int64.ofInt (10 * 0 - ((sg tx n (pl + 1) - 48 : Nat) : Int)))), (7, .long (rd_lL true)), (5, .long (lN (sg tx n (pl + 1) - 48))), (2, .int 1), (1, .int 1), (0, .ref a)] := hl
          refine lv_aload_n hx hb d_Mo_isInteger_121 rfl (lv_at hl 5 rfl) ?_
          refine lv_dup hx hb d_Mo_isInteger_122 rfl ?_
          refine mo_getS (v := nI (pl + 1)) C V X 21 (by decide) (by decide) (by first | rfl | exact hS21) f_Mo_179 rfl d_Mo_isInteger_123 ?_
          refine lv_iconst (v := 1) hx hb d_Mo_isInteger_126 (by decide) ?_
          refine gn_iadd (a := pl + 1) (b := 1) hx hb d_Mo_isInteger_127 ?_
          refine mo_putS C V X 21 (by decide) (by decide) f_Mo_179 rfl rfl rfl d_Mo_isInteger_128 (fun f1 H locs V1 X1 => ?_)
          clear V X
          have V := V1
          have X := X1
          clear V1 X1
          have h21 : (va_up (va_up S 21 (nI (pl + 1))) 21 (nI ((pl + 1) + 1))) 21 = nI ((pl + 1) + 1) := va_up_s
          have hS21 := h21
          have hT : rT tx n (va_up (va_up S 21 (nI (pl + 1))) 21 (nI ((pl + 1) + 1))) I := hT.keep (va_up_n (by decide)) rfl
          refine lv_iload_n hx hb d_Mo_isInteger_131 rfl (lv_at hl 3 rfl) ?_
          refine lv_if_eq (tgt := 144) hx hb d_Mo_isInteger_132 (by decide) (fun c19 => absurd c19 (by decide)) (fun c19 => ?_)
          refine lv_aload_n hx hb d_Mo_isInteger_135 rfl (lv_at hl 5 rfl) ?_
          refine gh_callV C V hl.1 m_Mo_isDigit l_Mo_192 (c_Mo_isDigit l E _ _ a ad _ _ _ tx n (pl + 1 + 1) X.1 hT h21 (by omega)) rfl X.1.1 gc_Mo ⟨by first | decide | omega | (dsimp only; omega), by first | decide | omega | (dsimp only; omega)⟩ ⟨by first | decide | omega | (dsimp only; omega), by first | decide | omega | (dsimp only; omega)⟩ (Nat.le_of_ble_eq_true rfl) rfl d_Mo_isInteger_136 (fun r z9 H locs hp9 V1 => ?_)
          obtain ⟨rfl, he9⟩ := hp9
          rw [he9] at V1
          have V := V1
          rw [decide_eq_false hd2]
          refine W.eq (g2 := F0 m 139 ls [.int (gh_bi false)]) rfl ?_
          refine lv_if_eq (tgt := 144) hx hb d_Mo_isInteger_139 (by decide) (fun c20 => ?_) (fun c20 => absurd (by decide) c20)
          refine lv_goto (tgt := 55) hx hb d_Mo_isInteger_144 (by decide) ?_
          refine lv_aload_n hx hb d_Mo_isInteger_55 rfl (lv_at hl 5 rfl) ?_
          refine gh_callV C V hl.1 m_Mo_isDigit l_Mo_192 (c_Mo_isDigit l E _ _ a ad _ _ _ tx n (pl + 1 + 1) X.1 hT h21 (by omega)) rfl X.1.1 gc_Mo ⟨by first | decide | omega | (dsimp only; omega), by first | decide | omega | (dsimp only; omega)⟩ ⟨by first | decide | omega | (dsimp only; omega), by first | decide | omega | (dsimp only; omega)⟩ (Nat.le_of_ble_eq_true rfl) rfl d_Mo_isInteger_56 (fun r z9 H locs hp9 V1 => ?_)
          obtain ⟨rfl, he9⟩ := hp9
          rw [he9] at V1
          have V := V1
          rw [decide_eq_false hd2]
          refine W.eq (g2 := F0 m 59 ls [.int (gh_bi false)]) rfl ?_
          refine lv_if_eq (tgt := 147) hx hb d_Mo_isInteger_59 (by decide) (fun c21 => ?_) (fun c21 => absurd (by decide) c21)
          refine lv_aload_n hx hb d_Mo_isInteger_147 rfl (lv_at hl 5 rfl) ?_
          refine mo_getS (v := 1) C V X 27 (by decide) (by decide) (by first | rfl | exact hS27) f_Mo_206 rfl d_Mo_isInteger_148 ?_
          refine lv_if_eq (tgt := 173) hx hb d_Mo_isInteger_151 (by decide) (fun c22 => absurd c22 (by decide)) (fun c22 => ?_)
          refine lv_aload_n hx hb d_Mo_isInteger_154 rfl (lv_at hl 5 rfl) ?_
          refine lv_aload_n hx hb d_Mo_isInteger_155 rfl (lv_at hl 5 rfl) ?_
          refine lv_iconst (v := 3) hx hb d_Mo_isInteger_156 (by decide) ?_
          refine lv_iload_n hx hb d_Mo_isInteger_157 rfl (lv_at hl 4 rfl) ?_
          refine lv_if_eq (tgt := 165) hx hb d_Mo_isInteger_158 (by decide) (fun c23 => absurd c23 (by decide)) (fun c23 => ?_)
          refine lv_lload_n hx hb d_Mo_isInteger_161 rfl (lv_at hl 0 rfl) ?_
          refine lv_goto (tgt := 167) hx hb d_Mo_isInteger_162 (by decide) ?_
          have h11b : (va_up (va_up S 21 (nI (pl + 1))) 21 (nI ((pl + 1) + 1))) 11 = nI nv := by first | exact h11c | (rw [va_up_n (by decide)]; exact h11c) | (rw [va_up_n (by decide), va_up_n (by decide)]; exact h11c)
          refine gh_callV C V hl.1 m_Mo_make l_Mo_159 (c_Mo_mk l E _ _ a ad _ _ _ 3 (Int64.ofInt (10 * 0 - ((sg tx n (pl + 1) - 48 : Nat) : Int))) nv X.1 h11b hnv) rfl X.1.1 gc_Mo ⟨by first | decide | omega | (dsimp only; omega), by first | decide | omega | (dsimp only; omega)⟩ ⟨by first | decide | omega | (dsimp only; omega), by first | decide | omega | (dsimp only; omega)⟩ (Nat.le_of_ble_eq_true rfl) rfl d_Mo_isInteger_167 (fun r z9 H locs hp9 V1 => ?_)
          obtain ⟨rfl, S3, I3, J3, X2, hmk⟩ := hp9
          have X := X.then X2
          have V := V1
          refine W.eq (g2 := F0 m 170 ls [.int (nI nv), .ref a]) rfl ?_
          refine mo_putS C V X 28 (by decide) (by decide) f_Mo_189 rfl rfl rfl d_Mo_isInteger_170 (fun f1 H locs V1 X1 => ?_)
          clear V X
          have V := V1
          have X := X1
          clear V1 X1
          refine lv_iconst (v := 1) hx hb d_Mo_isInteger_173 (by decide) ?_
          refine gh_retz hAe C V hr (by first | rfl | decide) hlocks d_Mo_isInteger_174 (by first | decide | omega | (dsimp only; omega)) (by first | decide | omega | (dsimp only; omega)) ?_
          have hrd9 : rd_i tx n true pl = (pl + 1 + 1, some (0)) := by
            rw [rd_i_n hng]
            unfold rd_j; rw [if_neg (fun z => z hdg), if_pos hz0, if_neg (fun z => hd2 z.2)]
          rw [hrd9]
          refine ⟨rfl, _, _, _, X, ?_, ⟨fun z => (by cases z), fun _ X9 hz => ?_⟩⟩
          · rw [va_up_n (by decide), hmk.1, va_up_n (by decide)]; exact h21
          · have hz : vt_i (0) = X9 := by injection hz
            subst hz
            refine ⟨fun k a1 a2 a3 => ?_, fun k b1 b3 b4 b5 => funext (fun j => hmk.2.1 k j (Or.inl ⟨b1, b3, b4, b5⟩)), hmk.ma h29, nv + 1, nv, ⟨Nat.le_succ _, Nat.le_refl _, fun k v _ hv => ⟨hmk.2.1 k v (Or.inr (by omega)), hmk.2.2.2.1 k v (Or.inr (by omega))⟩⟩, by rw [va_up_n (by decide), hmk.1, va_up_s], va_up_s, ?_⟩
            · rw [va_up_n a3, hmk.1, va_up_n a1] <;> first | rfl | exact hS k a2 | (rw [va_up_n a2] <;> first | rfl | exact hS k a2) | (rw [va_up_n a2, va_up_n a2] <;> first | rfl | exact hS k a2)
            · first | exact hmk.int h29 hnv | (rw [ri_neg] at hmk; exact hmk.int h29 hnv) | (rw [hz0] at hmk; exact hmk.int h29 hnv)
      · refine lv_aload_n hx hb d_Mo_isInteger_0 rfl (lv_at hl 0 rfl) ?_
        refine gh_callV C V hl.1 m_Mo_peek l_Mo_185 (c_Mo_pk l E _ _ a ad _ _ _ tx n pl X.1 hT h21 (by omega)) rfl X.1.1 gc_Mo ⟨by first | decide | omega | (dsimp only; omega), by first | decide | omega | (dsimp only; omega)⟩ ⟨by first | decide | omega | (dsimp only; omega), by first | decide | omega | (dsimp only; omega)⟩ (Nat.le_of_ble_eq_true rfl) rfl d_Mo_isInteger_1 (fun r z9 H locs hp9 V1 => ?_)
        obtain ⟨rfl, he9⟩ := hp9
        rw [he9] at V1
        have V := V1
        refine W.eq (g2 := F0 m 4 ls [.int (pek (sg tx n pl))]) rfl ?_
        refine lv_bipush (v := 45) hx hb d_Mo_isInteger_4 (by decide) ?_
        refine lv_icmp_ne (tgt := 13) hx hb d_Mo_isInteger_6 (by decide) (fun c24 => absurd ((pek_eq (k := 45) (by omega) (by omega) (by omega)).mpr hng) c24) (fun c24 => ?_)
        refine lv_iconst (v := 1) hx hb d_Mo_isInteger_9 (by decide) ?_
        refine lv_goto (tgt := 14) hx hb d_Mo_isInteger_10 (by decide) ?_
        refine lv_istore_n hx hb d_Mo_isInteger_14 rfl hl (by decide) rfl (fun ls hl => ?_)
        have hl : lv_has ls 9 [(1, .int 1), (0, .ref a)] := hl
        refine lv_iload_n hx hb d_Mo_isInteger_15 rfl (lv_at hl 0 rfl) ?_
        refine lv_if_eq (tgt := 29) hx hb d_Mo_isInteger_16 (by decide) (fun c25 => absurd c25 (by decide)) (fun c25 => ?_)
        refine lv_aload_n hx hb d_Mo_isInteger_19 rfl (lv_at hl 1 rfl) ?_
        refine lv_dup hx hb d_Mo_isInteger_20 rfl ?_
        refine mo_getS (v := nI pl) C V X 21 (by decide) (by decide) (by first | rfl | exact hS21) f_Mo_179 rfl d_Mo_isInteger_21 ?_
        refine lv_iconst (v := 1) hx hb d_Mo_isInteger_24 (by decide) ?_
        refine gn_iadd (a := pl) (b := 1) hx hb d_Mo_isInteger_25 ?_
        refine mo_putS C V X 21 (by decide) (by decide) f_Mo_179 rfl rfl rfl d_Mo_isInteger_26 (fun f1 H locs V1 X1 => ?_)
        clear V X
        have V := V1
        have X := X1
        clear V1 X1
        have h21 : (va_up S 21 (nI (pl + 1))) 21 = nI (pl + 1) := va_up_s
        have hS21 := h21
        have hT : rT tx n (va_up S 21 (nI (pl + 1))) I := hT.keep (va_up_n (by decide)) rfl
        refine lv_aload_n hx hb d_Mo_isInteger_29 rfl (lv_at hl 1 rfl) ?_
        refine gh_callV C V hl.1 m_Mo_isDigit l_Mo_192 (c_Mo_isDigit l E _ _ a ad _ _ _ tx n (pl + 1) X.1 hT h21 (by omega)) rfl X.1.1 gc_Mo ⟨by first | decide | omega | (dsimp only; omega), by first | decide | omega | (dsimp only; omega)⟩ ⟨by first | decide | omega | (dsimp only; omega), by first | decide | omega | (dsimp only; omega)⟩ (Nat.le_of_ble_eq_true rfl) rfl d_Mo_isInteger_30 (fun r z9 H locs hp9 V1 => ?_)
        obtain ⟨rfl, he9⟩ := hp9
        rw [he9] at V1
        have V := V1
        rw [decide_eq_true hdg]
        refine W.eq (g2 := F0 m 33 ls [.int (gh_bi true)]) rfl ?_
        refine lv_if_ne (tgt := 38) hx hb d_Mo_isInteger_33 (by decide) (fun c26 => ?_) (fun c26 => absurd c26 (by decide))
        refine lv_aload_n hx hb d_Mo_isInteger_38 rfl (lv_at hl 1 rfl) ?_
        refine gh_callV C V hl.1 m_Mo_peek l_Mo_185 (c_Mo_pk l E _ _ a ad _ _ _ tx n (pl + 1) X.1 hT h21 (by omega)) rfl X.1.1 gc_Mo ⟨by first | decide | omega | (dsimp only; omega), by first | decide | omega | (dsimp only; omega)⟩ ⟨by first | decide | omega | (dsimp only; omega), by first | decide | omega | (dsimp only; omega)⟩ (Nat.le_of_ble_eq_true rfl) rfl d_Mo_isInteger_39 (fun r z9 H locs hp9 V1 => ?_)
        obtain ⟨rfl, he9⟩ := hp9
        rw [he9] at V1
        have V := V1
        refine W.eq (g2 := F0 m 42 ls [.int (pek (sg tx n (pl + 1)))]) rfl ?_
        refine lv_bipush (v := 48) hx hb d_Mo_isInteger_42 (by decide) ?_
        refine lv_icmp_ne (tgt := 51) hx hb d_Mo_isInteger_44 (by decide) (fun c27 => ?_) (fun c27 => absurd c27 (fun z => hz0 ((pek_eq (k := 48) (by omega) (by omega) (by omega)).mp z)))
        refine lv_iconst (v := 0) hx hb d_Mo_isInteger_51 (by decide) ?_
        refine lv_istore_n hx hb d_Mo_isInteger_52 rfl hl (by decide) rfl (fun ls hl => ?_)
        have hl : lv_has ls 9 [(2, .int 0), (1, .int 1), (0, .ref a)] := hl
        refine lv_lconst (v := 0) hx hb d_Mo_isInteger_53 (by decide) ?_
        refine lv_lstore_n hx hb d_Mo_isInteger_54 rfl hl (by decide) rfl (fun ls hl => ?_)
        have hl : lv_has ls 9 [(3, .long 0), (2, .int 0), (1, .int 1), (0, .ref a)] := hl
        have hl : lv_has ls 9 [(3, .long 0), (0, .ref a), (1, .int 1), (2, .int 0)] := lv_sub hl [0, 3, 2, 1] rfl
        have hl : lv_has ls 9 [(3, .long (Int64.ofInt 0)), (0, .ref a), (1, .int 1), (2, .int 0)] := hl
        have loop : ∀ (m9 p9 : Nat) (zi : Int) (S1 : Nat → Int32) (f1 : gh_F) (H : Heap) (locs : List Loc) (ls : Array Slot), n ≤ p9 + m9 → p9 ≤ n → S1 21 = nI p9 → (rd_ls true ≤ zi ∧ zi ≤ 0) → rd_d tx n (rd_ls true) m9 p9 zi = rd_d tx n (rd_ls true) n (pl + 1) 0 → (∀ k, k ≠ 21 → S1 k = S k) → mo_X E f f1 a ad S1 I J → gh_V E A f1 s H locs → lv_has ls 9 [(3, .long (Int64.ofInt zi)), (0, .ref a), (1, .int 1), (2, .int 0)] → W p l e { frames := 7, cells := 0, slots := 0, locals := 160 } s m args below meth c H locs 0 0 (MQ below (gh_Q E f (fun r g => r = some (.int (gh_bi (rd_i tx n true pl).2.isSome)) ∧ ∃ S2 I2 J2, mo_X E f g a ad S2 I2 J2 ∧ S2 21 = nI (rd_i tx n true pl).1 ∧ rO true S I J nv np ((rd_i tx n true pl).2.map vt_i) S2 I2 J2)) args s 0 0 A) (F0 m 55 ls []) := by
          intro m9
          induction m9 with
          | zero =>
            intro p9 zi S1 f1 H locs ls hm hp9 h21 hzi hrd hS X V hl
            have hT : rT tx n S1 I := hT0.keep (hS 20 (by decide)) rfl
            have hS21 := h21
            have hS27 : S1 27 = 1 := (hS 27 (by decide)).trans h27
            have hs9 := hsg p9
            have hls : rd_ls true = -9223372036854775808 := rfl
            have h11c : S1 11 = nI nv := (hS 11 (by decide)).trans h11
            have hnd : ¬ (48 ≤ sg tx n p9 ∧ sg tx n p9 ≤ 57) := fun z => by have := sg_lt (by omega : sg tx n p9 ≠ 0); omega
            refine lv_aload_n hx hb d_Mo_isInteger_55 rfl (lv_at hl 1 rfl) ?_
            refine gh_callV C V hl.1 m_Mo_isDigit l_Mo_192 (c_Mo_isDigit l E _ _ a ad _ _ _ tx n p9 X.1 hT h21 (by omega)) rfl X.1.1 gc_Mo ⟨by first | decide | omega | (dsimp only; omega), by first | decide | omega | (dsimp only; omega)⟩ ⟨by first | decide | omega | (dsimp only; omega), by first | decide | omega | (dsimp only; omega)⟩ (Nat.le_of_ble_eq_true rfl) rfl d_Mo_isInteger_56 (fun r z9 H locs hp9 V1 => ?_)
            obtain ⟨rfl, he9⟩ := hp9
            rw [he9] at V1
            have V := V1
            rw [decide_eq_false hnd]
            refine W.eq (g2 := F0 m 59 ls [.int (gh_bi false)]) rfl ?_
            refine lv_if_eq (tgt := 147) hx hb d_Mo_isInteger_59 (by decide) (fun c28 => ?_) (fun c28 => absurd (by decide) c28)
            refine lv_aload_n hx hb d_Mo_isInteger_147 rfl (lv_at hl 1 rfl) ?_
            refine mo_getS (v := 1) C V X 27 (by decide) (by decide) (by first | rfl | exact hS27) f_Mo_206 rfl d_Mo_isInteger_148 ?_
            refine lv_if_eq (tgt := 173) hx hb d_Mo_isInteger_151 (by decide) (fun c29 => absurd c29 (by decide)) (fun c29 => ?_)
            refine lv_aload_n hx hb d_Mo_isInteger_154 rfl (lv_at hl 1 rfl) ?_
            refine lv_aload_n hx hb d_Mo_isInteger_155 rfl (lv_at hl 1 rfl) ?_
            refine lv_iconst (v := 3) hx hb d_Mo_isInteger_156 (by decide) ?_
            refine lv_iload_n hx hb d_Mo_isInteger_157 rfl (lv_at hl 2 rfl) ?_
            refine lv_if_eq (tgt := 165) hx hb d_Mo_isInteger_158 (by decide) (fun c30 => absurd c30 (by decide)) (fun c30 => ?_)
            refine lv_lload_n hx hb d_Mo_isInteger_161 rfl (lv_at hl 0 rfl) ?_
            refine lv_goto (tgt := 167) hx hb d_Mo_isInteger_162 (by decide) ?_
            have h11b : S1 11 = nI nv := by first | exact h11c | (rw [va_up_n (by decide)]; exact h11c) | (rw [va_up_n (by decide), va_up_n (by decide)]; exact h11c)
            refine gh_callV C V hl.1 m_Mo_make l_Mo_159 (c_Mo_mk l E _ _ a ad _ _ _ 3 (Int64.ofInt zi) nv X.1 h11b hnv) rfl X.1.1 gc_Mo ⟨by first | decide | omega | (dsimp only; omega), by first | decide | omega | (dsimp only; omega)⟩ ⟨by first | decide | omega | (dsimp only; omega), by first | decide | omega | (dsimp only; omega)⟩ (Nat.le_of_ble_eq_true rfl) rfl d_Mo_isInteger_167 (fun r z9 H locs hp9 V1 => ?_)
            obtain ⟨rfl, S3, I3, J3, X2, hmk⟩ := hp9
            have X := X.then X2
            have V := V1
            refine W.eq (g2 := F0 m 170 ls [.int (nI nv), .ref a]) rfl ?_
            refine mo_putS C V X 28 (by decide) (by decide) f_Mo_189 rfl rfl rfl d_Mo_isInteger_170 (fun f1 H locs V1 X1 => ?_)
            clear V X
            have V := V1
            have X := X1
            clear V1 X1
            refine lv_iconst (v := 1) hx hb d_Mo_isInteger_173 (by decide) ?_
            refine gh_retz hAe C V hr (by first | rfl | decide) hlocks d_Mo_isInteger_174 (by first | decide | omega | (dsimp only; omega)) (by first | decide | omega | (dsimp only; omega)) ?_
            have hrd9 : rd_i tx n true pl = (p9, some (Int64.ofInt zi)) := by
              rw [rd_i_n hng]
              unfold rd_j; rw [if_neg (fun z => z hdg), if_neg hz0, ← hrd]
              rfl
            rw [hrd9]
            refine ⟨rfl, _, _, _, X, ?_, ⟨fun z => (by cases z), fun _ X9 hz => ?_⟩⟩
            · rw [va_up_n (by decide), hmk.1, va_up_n (by decide)]; exact h21
            · have hz : vt_i (Int64.ofInt zi) = X9 := by injection hz
              subst hz
              refine ⟨fun k a1 a2 a3 => ?_, fun k b1 b3 b4 b5 => funext (fun j => hmk.2.1 k j (Or.inl ⟨b1, b3, b4, b5⟩)), hmk.ma h29, nv + 1, nv, ⟨Nat.le_succ _, Nat.le_refl _, fun k v _ hv => ⟨hmk.2.1 k v (Or.inr (by omega)), hmk.2.2.2.1 k v (Or.inr (by omega))⟩⟩, by rw [va_up_n (by decide), hmk.1, va_up_s], va_up_s, ?_⟩
              · rw [va_up_n a3, hmk.1, va_up_n a1] <;> first | rfl | exact hS k a2 | (rw [va_up_n a2] <;> first | rfl | exact hS k a2) | (rw [va_up_n a2, va_up_n a2] <;> first | rfl | exact hS k a2)
              · first | exact hmk.int h29 hnv | (rw [ri_neg] at hmk; exact hmk.int h29 hnv) | (rw [hz0] at hmk; exact hmk.int h29 hnv)
          | succ m9 ih =>
            intro p9 zi S1 f1 H locs ls hm hp9 h21 hzi hrd hS X V hl
            have hT : rT tx n S1 I := hT0.keep (hS 20 (by decide)) rfl
            have hS21 := h21
            have hS27 : S1 27 = 1 := (hS 27 (by decide)).trans h27
            have hs9 := hsg p9
            have hls : rd_ls true = -9223372036854775808 := rfl
            have h11c : S1 11 = nI nv := (hS 11 (by decide)).trans h11
            by_cases hnd : 48 ≤ sg tx n p9 ∧ sg tx n p9 ≤ 57
            · have hpn9 := sg_lt (by omega : sg tx n p9 ≠ 0)
              have hcd : ((sg tx n p9 - 48 : Nat) : Int) = (sg tx n p9 : Int) - 48 := by omega
              by_cases hc1 : zi < -922337203685477580
              · refine lv_aload_n hx hb d_Mo_isInteger_55 rfl (lv_at hl 1 rfl) ?_
                refine gh_callV C V hl.1 m_Mo_isDigit l_Mo_192 (c_Mo_isDigit l E _ _ a ad _ _ _ tx n p9 X.1 hT h21 (by omega)) rfl X.1.1 gc_Mo ⟨by first | decide | omega | (dsimp only; omega), by first | decide | omega | (dsimp only; omega)⟩ ⟨by first | decide | omega | (dsimp only; omega), by first | decide | omega | (dsimp only; omega)⟩ (Nat.le_of_ble_eq_true rfl) rfl d_Mo_isInteger_56 (fun r z9 H locs hp9 V1 => ?_)
                obtain ⟨rfl, he9⟩ := hp9
                rw [he9] at V1
                have V := V1
                rw [decide_eq_true hnd]
                refine W.eq (g2 := F0 m 59 ls [.int (gh_bi true)]) rfl ?_
                refine lv_if_eq (tgt := 147) hx hb d_Mo_isInteger_59 (by decide) (fun c31 => absurd c31 (by decide)) (fun c31 => ?_)
                refine lv_aload_n hx hb d_Mo_isInteger_62 rfl (lv_at hl 1 rfl) ?_
                refine gh_callV C V hl.1 m_Mo_peek l_Mo_185 (c_Mo_pk l E _ _ a ad _ _ _ tx n p9 X.1 hT h21 (by omega)) rfl X.1.1 gc_Mo ⟨by first | decide | omega | (dsimp only; omega), by first | decide | omega | (dsimp only; omega)⟩ ⟨by first | decide | omega | (dsimp only; omega), by first | decide | omega | (dsimp only; omega)⟩ (Nat.le_of_ble_eq_true rfl) rfl d_Mo_isInteger_63 (fun r z9 H locs hp9 V1 => ?_)
                obtain ⟨rfl, he9⟩ := hp9
                rw [he9] at V1
                have V := V1
                refine W.eq (g2 := F0 m 66 ls [.int (pek (sg tx n p9))]) rfl ?_
                refine lv_i2l hx hb d_Mo_isInteger_66 rfl ?_
                refine lv_ldc2 (v := 48) hx hb C.2.2.2.1 (C.2.2.2.2.1 _ kl_Mo_196) d_Mo_isInteger_67 ?_
                refine lv_lsub hx hb d_Mo_isInteger_70 ?_
                rw [ri_d (c := sg tx n (p9)) (by omega) (by omega)]
                refine lv_lstore hx hb d_Mo_isInteger_71 hl (by decide) rfl (fun ls hl => ?_)
                have hl : lv_has ls 9 [(5, .long (lN (sg tx n (p9) - 48))), (3, .long (Int64.ofInt zi)), (0, .ref a), (1, .int 1), (2, .int 0)] := hl
                refine lv_iload_n hx hb d_Mo_isInteger_73 rfl (lv_at hl 3 rfl) ?_
                refine lv_if_eq (tgt := 83) hx hb d_Mo_isInteger_74 (by decide) (fun c32 => absurd c32 (by decide)) (fun c32 => ?_)
                refine lv_ldc2 (v := (-9223372036854775808)) hx hb C.2.2.2.1 (C.2.2.2.2.1 _ kl_Mo_198) d_Mo_isInteger_77 ?_
                refine lv_goto (tgt := 86) hx hb d_Mo_isInteger_80 (by decide) ?_
                refine lv_lstore hx hb d_Mo_isInteger_86 hl (by decide) rfl (fun ls hl => ?_)
                have hl : lv_has ls 9 [(7, .long ((-9223372036854775808))), (5, .long (lN (sg tx n (p9) - 48))), (3, .long (Int64.ofInt zi)), (0, .ref a), (1, .int 1), (2, .int 0)] := hl
                have hl : lv_has ls 9 [(7, .long (rd_lL true)), (5, .long (lN (sg tx n (p9) - 48))), (3, .long (Int64.ofInt zi)), (0, .ref a), (1, .int 1), (2, .int 0)] := hl
                refine lv_lload_n hx hb d_Mo_isInteger_88 rfl (lv_at hl 2 rfl) ?_
                refine lv_ldc2 (v := (-922337203685477580)) hx hb C.2.2.2.1 (C.2.2.2.2.1 _ kl_Mo_202) d_Mo_isInteger_89 ?_
                refine W.lcmp hx hb d_Mo_isInteger_92 ?_
                refine lv_if_lt (tgt := 110) hx hb d_Mo_isInteger_93 (by decide) (fun c33 => ?_) (fun c33 => absurd ((ri_c1 (by omega) (by omega)).mpr hc1) c33)
                refine lv_iconst (v := 0) hx hb d_Mo_isInteger_110 (by decide) ?_
                refine gh_retz hAe C V hr (by first | rfl | decide) hlocks d_Mo_isInteger_111 (by first | decide | omega | (dsimp only; omega)) (by first | decide | omega | (dsimp only; omega)) ?_
                have hrd9 : rd_i tx n true pl = (p9, none) := by
                  rw [rd_i_n hng]
                  unfold rd_j; rw [if_neg (fun z => z hdg), if_neg hz0, ← hrd]
                  rw [rd_d_o, if_pos hnd, if_pos (by omega)]
                rw [hrd9]
                exact ⟨rfl, _, _, _, X, h21, ⟨fun z => (by cases z), fun _ X9 hz => (by cases hz)⟩⟩
              · have hi2 := ri_c2 (z := zi) (neg := true) (d := sg tx n p9 - 48) (by omega) (by omega) (by omega)
                rw [hcd] at hi2
                by_cases hc2 : 10 * zi < rd_ls true + ((sg tx n p9 : Int) - 48)
                · refine lv_aload_n hx hb d_Mo_isInteger_55 rfl (lv_at hl 1 rfl) ?_
                  refine gh_callV C V hl.1 m_Mo_isDigit l_Mo_192 (c_Mo_isDigit l E _ _ a ad _ _ _ tx n p9 X.1 hT h21 (by omega)) rfl X.1.1 gc_Mo ⟨by first | decide | omega | (dsimp only; omega), by first | decide | omega | (dsimp only; omega)⟩ ⟨by first | decide | omega | (dsimp only; omega), by first | decide | omega | (dsimp only; omega)⟩ (Nat.le_of_ble_eq_true rfl) rfl d_Mo_isInteger_56 (fun r z9 H locs hp9 V1 => ?_)
                  obtain ⟨rfl, he9⟩ := hp9
                  rw [he9] at V1
                  have V := V1
                  rw [decide_eq_true hnd]
                  refine W.eq (g2 := F0 m 59 ls [.int (gh_bi true)]) rfl ?_
                  refine lv_if_eq (tgt := 147) hx hb d_Mo_isInteger_59 (by decide) (fun c34 => absurd c34 (by decide)) (fun c34 => ?_)
                  refine lv_aload_n hx hb d_Mo_isInteger_62 rfl (lv_at hl 1 rfl) ?_
                  refine gh_callV C V hl.1 m_Mo_peek l_Mo_185 (c_Mo_pk l E _ _ a ad _ _ _ tx n p9 X.1 hT h21 (by omega)) rfl X.1.1 gc_Mo ⟨by first | decide | omega | (dsimp only; omega), by first | decide | omega | (dsimp only; omega)⟩ ⟨by first | decide | omega | (dsimp only; omega), by first | decide | omega | (dsimp only; omega)⟩ (Nat.le_of_ble_eq_true rfl) rfl d_Mo_isInteger_63 (fun r z9 H locs hp9 V1 => ?_)
                  obtain ⟨rfl, he9⟩ := hp9
                  rw [he9] at V1
                  have V := V1
                  refine W.eq (g2 := F0 m 66 ls [.int (pek (sg tx n p9))]) rfl ?_
                  refine lv_i2l hx hb d_Mo_isInteger_66 rfl ?_
                  refine lv_ldc2 (v := 48) hx hb C.2.2.2.1 (C.2.2.2.2.1 _ kl_Mo_196) d_Mo_isInteger_67 ?_
                  refine lv_lsub hx hb d_Mo_isInteger_70 ?_
                  rw [ri_d (c := sg tx n (p9)) (by omega) (by omega)]
                  refine lv_lstore hx hb d_Mo_isInteger_71 hl (by decide) rfl (fun ls hl => ?_)
                  have hl : lv_has ls 9 [(5, .long (lN (sg tx n (p9) - 48))), (3, .long (Int64.ofInt zi)), (0, .ref a), (1, .int 1), (2, .int 0)] := hl
                  refine lv_iload_n hx hb d_Mo_isInteger_73 rfl (lv_at hl 3 rfl) ?_
                  refine lv_if_eq (tgt := 83) hx hb d_Mo_isInteger_74 (by decide) (fun c35 => absurd c35 (by decide)) (fun c35 => ?_)
                  refine lv_ldc2 (v := (-9223372036854775808)) hx hb C.2.2.2.1 (C.2.2.2.2.1 _ kl_Mo_198) d_Mo_isInteger_77 ?_
                  refine lv_goto (tgt := 86) hx hb d_Mo_isInteger_80 (by decide) ?_
                  refine lv_lstore hx hb d_Mo_isInteger_86 hl (by decide) rfl (fun ls hl => ?_)
                  have hl : lv_has ls 9 [(7, .long ((-9223372036854775808))), (5, .long (lN (sg tx n (p9) - 48))), (3, .long (Int64.ofInt zi)), (0, .ref a), (1, .int 1), (2, .int 0)] := hl
                  have hl : lv_has ls 9 [(7, .long (rd_lL true)), (5, .long (lN (sg tx n (p9) - 48))), (3, .long (Int64.ofInt zi)), (0, .ref a), (1, .int 1), (2, .int 0)] := hl
                  refine lv_lload_n hx hb d_Mo_isInteger_88 rfl (lv_at hl 2 rfl) ?_
                  refine lv_ldc2 (v := (-922337203685477580)) hx hb C.2.2.2.1 (C.2.2.2.2.1 _ kl_Mo_202) d_Mo_isInteger_89 ?_
                  refine W.lcmp hx hb d_Mo_isInteger_92 ?_
                  refine lv_if_lt (tgt := 110) hx hb d_Mo_isInteger_93 (by decide) (fun c36 => absurd c36 (fun z => hc1 ((ri_c1 (by omega) (by omega)).mp z))) (fun c36 => ?_)
                  refine lv_ldc2 (v := 10) hx hb C.2.2.2.1 (C.2.2.2.2.1 _ kl_Mo_204) d_Mo_isInteger_96 ?_
                  refine lv_lload_n hx hb d_Mo_isInteger_99 rfl (lv_at hl 2 rfl) ?_
                  refine lv_lmul hx hb d_Mo_isInteger_100 ?_
                  refine lv_lload hx hb d_Mo_isInteger_101 (lv_at hl 0 rfl) ?_
                  refine lv_lload hx hb d_Mo_isInteger_103 (lv_at hl 1 rfl) ?_
                  refine lv_ladd hx hb d_Mo_isInteger_105 ?_
                  refine W.lcmp hx hb d_Mo_isInteger_106 ?_
                  refine lv_if_ge (tgt := 112) hx hb d_Mo_isInteger_107 (by decide) (fun c37 => absurd c37 (fun z => absurd (hi2.mpr hc2) (lg_ge0 z))) (fun c37 => ?_)
                  refine lv_iconst (v := 0) hx hb d_Mo_isInteger_110 (by decide) ?_
                  refine gh_retz hAe C V hr (by first | rfl | decide) hlocks d_Mo_isInteger_111 (by first | decide | omega | (dsimp only; omega)) (by first | decide | omega | (dsimp only; omega)) ?_
                  have hrd9 : rd_i tx n true pl = (p9, none) := by
                    rw [rd_i_n hng]
                    unfold rd_j; rw [if_neg (fun z => z hdg), if_neg hz0, ← hrd]
                    rw [rd_d_o, if_pos hnd, if_pos (by omega)]
                  rw [hrd9]
                  exact ⟨rfl, _, _, _, X, h21, ⟨fun z => (by cases z), fun _ X9 hz => (by cases hz)⟩⟩
                · refine lv_aload_n hx hb d_Mo_isInteger_55 rfl (lv_at hl 1 rfl) ?_
                  refine gh_callV C V hl.1 m_Mo_isDigit l_Mo_192 (c_Mo_isDigit l E _ _ a ad _ _ _ tx n p9 X.1 hT h21 (by omega)) rfl X.1.1 gc_Mo ⟨by first | decide | omega | (dsimp only; omega), by first | decide | omega | (dsimp only; omega)⟩ ⟨by first | decide | omega | (dsimp only; omega), by first | decide | omega | (dsimp only; omega)⟩ (Nat.le_of_ble_eq_true rfl) rfl d_Mo_isInteger_56 (fun r z9 H locs hp9 V1 => ?_)
                  obtain ⟨rfl, he9⟩ := hp9
                  rw [he9] at V1
                  have V := V1
                  rw [decide_eq_true hnd]
                  refine W.eq (g2 := F0 m 59 ls [.int (gh_bi true)]) rfl ?_
                  refine lv_if_eq (tgt := 147) hx hb d_Mo_isInteger_59 (by decide) (fun c38 => absurd c38 (by decide)) (fun c38 => ?_)
                  refine lv_aload_n hx hb d_Mo_isInteger_62 rfl (lv_at hl 1 rfl) ?_
                  refine gh_callV C V hl.1 m_Mo_peek l_Mo_185 (c_Mo_pk l E _ _ a ad _ _ _ tx n p9 X.1 hT h21 (by omega)) rfl X.1.1 gc_Mo ⟨by first | decide | omega | (dsimp only; omega), by first | decide | omega | (dsimp only; omega)⟩ ⟨by first | decide | omega | (dsimp only; omega), by first | decide | omega | (dsimp only; omega)⟩ (Nat.le_of_ble_eq_true rfl) rfl d_Mo_isInteger_63 (fun r z9 H locs hp9 V1 => ?_)
                  obtain ⟨rfl, he9⟩ := hp9
                  rw [he9] at V1
                  have V := V1
                  refine W.eq (g2 := F0 m 66 ls [.int (pek (sg tx n p9))]) rfl ?_
                  refine lv_i2l hx hb d_Mo_isInteger_66 rfl ?_
                  refine lv_ldc2 (v := 48) hx hb C.2.2.2.1 (C.2.2.2.2.1 _ kl_Mo_196) d_Mo_isInteger_67 ?_
                  refine lv_lsub hx hb d_Mo_isInteger_70 ?_
                  rw [ri_d (c := sg tx n (p9)) (by omega) (by omega)]
                  refine lv_lstore hx hb d_Mo_isInteger_71 hl (by decide) rfl (fun ls hl => ?_)
                  have hl : lv_has ls 9 [(5, .long (lN (sg tx n (p9) - 48))), (3, .long (Int64.ofInt zi)), (0, .ref a), (1, .int 1), (2, .int 0)] := hl
                  refine lv_iload_n hx hb d_Mo_isInteger_73 rfl (lv_at hl 3 rfl) ?_
                  refine lv_if_eq (tgt := 83) hx hb d_Mo_isInteger_74 (by decide) (fun c39 => absurd c39 (by decide)) (fun c39 => ?_)
                  refine lv_ldc2 (v := (-9223372036854775808)) hx hb C.2.2.2.1 (C.2.2.2.2.1 _ kl_Mo_198) d_Mo_isInteger_77 ?_
                  refine lv_goto (tgt := 86) hx hb d_Mo_isInteger_80 (by decide) ?_
                  refine lv_lstore hx hb d_Mo_isInteger_86 hl (by decide) rfl (fun ls hl => ?_)
                  have hl : lv_has ls 9 [(7, .long ((-9223372036854775808))), (5, .long (lN (sg tx n (p9) - 48))), (3, .long (Int64.ofInt zi)), (0, .ref a), (1, .int 1), (2, .int 0)] := hl
                  have hl : lv_has ls 9 [(7, .long (rd_lL true)), (5, .long (lN (sg tx n (p9) - 48))), (3, .long (Int64.ofInt zi)), (0, .ref a), (1, .int 1), (2, .int 0)] := hl
                  refine lv_lload_n hx hb d_Mo_isInteger_88 rfl (lv_at hl 2 rfl) ?_
                  refine lv_ldc2 (v := (-922337203685477580)) hx hb C.2.2.2.1 (C.2.2.2.2.1 _ kl_Mo_202) d_Mo_isInteger_89 ?_
                  refine W.lcmp hx hb d_Mo_isInteger_92 ?_
                  refine lv_if_lt (tgt := 110) hx hb d_Mo_isInteger_93 (by decide) (fun c40 => absurd c40 (fun z => hc1 ((ri_c1 (by omega) (by omega)).mp z))) (fun c40 => ?_)
                  refine lv_ldc2 (v := 10) hx hb C.2.2.2.1 (C.2.2.2.2.1 _ kl_Mo_204) d_Mo_isInteger_96 ?_
                  refine lv_lload_n hx hb d_Mo_isInteger_99 rfl (lv_at hl 2 rfl) ?_
                  refine lv_lmul hx hb d_Mo_isInteger_100 ?_
                  refine lv_lload hx hb d_Mo_isInteger_101 (lv_at hl 0 rfl) ?_
                  refine lv_lload hx hb d_Mo_isInteger_103 (lv_at hl 1 rfl) ?_
                  refine lv_ladd hx hb d_Mo_isInteger_105 ?_
                  refine W.lcmp hx hb d_Mo_isInteger_106 ?_
                  refine lv_if_ge (tgt := 112) hx hb d_Mo_isInteger_107 (by decide) (fun c41 => ?_) (fun c41 => absurd (Int32.not_lt.mp (fun z => hc2 (hi2.mp z))) c41)
                  refine lv_ldc2 (v := 10) hx hb C.2.2.2.1 (C.2.2.2.2.1 _ kl_Mo_204) d_Mo_isInteger_112 ?_
                  refine lv_lload_n hx hb d_Mo_isInteger_115 rfl (lv_at hl 2 rfl) ?_
                  refine lv_lmul hx hb d_Mo_isInteger_116 ?_
                  refine lv_lload hx hb d_Mo_isInteger_117 (lv_at hl 1 rfl) ?_
                  refine lv_lsub hx hb d_Mo_isInteger_119 ?_
                  rw [ri_n]
                  refine lv_lstore_n hx hb d_Mo_isInteger_120 rfl hl (by decide) rfl (fun ls hl => ?_)
                  have hl : lv_has ls 9 [(3, .long (Int64.ofInt (10 * zi - ((sg tx n (p9) - 48 : Nat) : Int)))), (7, .long (rd_lL true)), (5, .long (lN (sg tx n (p9) - 48))), (0, .ref a), (1, .int 1), (2, .int 0)] := hl
                  refine lv_aload_n hx hb d_Mo_isInteger_121 rfl (lv_at hl 3 rfl) ?_
                  refine lv_dup hx hb d_Mo_isInteger_122 rfl ?_
                  refine mo_getS (v := nI p9) C V X 21 (by decide) (by decide) (by first | rfl | exact hS21) f_Mo_179 rfl d_Mo_isInteger_123 ?_
                  refine lv_iconst (v := 1) hx hb d_Mo_isInteger_126 (by decide) ?_
                  refine gn_iadd (a := p9) (b := 1) hx hb d_Mo_isInteger_127 ?_
                  refine mo_putS C V X 21 (by decide) (by decide) f_Mo_179 rfl rfl rfl d_Mo_isInteger_128 (fun f1 H locs V1 X1 => ?_)
                  clear V X
                  have V := V1
                  have X := X1
                  clear V1 X1
                  have h21 : (va_up S1 21 (nI (p9 + 1))) 21 = nI (p9 + 1) := va_up_s
                  have hS21 := h21
                  have hT : rT tx n (va_up S1 21 (nI (p9 + 1))) I := hT.keep (va_up_n (by decide)) rfl
                  refine lv_iload_n hx hb d_Mo_isInteger_131 rfl (lv_at hl 5 rfl) ?_
                  refine lv_if_eq (tgt := 144) hx hb d_Mo_isInteger_132 (by decide) (fun c42 => ?_) (fun c42 => absurd (by decide) c42)
                  refine lv_goto (tgt := 55) hx hb d_Mo_isInteger_144 (by decide) ?_
                  have hl : lv_has ls 9 [(3, .long (Int64.ofInt (10 * zi - ((sg tx n (p9) - 48 : Nat) : Int)))), (0, .ref a), (1, .int 1), (2, .int 0)] := lv_sub hl [0, 3, 4, 5] rfl
                  rw [hcd] at hl
                  exact ih (p9 + 1) _ _ _ _ _ ls (by omega) (by omega) h21 ⟨by omega, by omega⟩ (by rw [← hrd, rd_d_o, if_pos hnd, if_neg hc2]) (fun k a1 => by rw [va_up_n a1]; exact hS k a1) X V hl
            · refine lv_aload_n hx hb d_Mo_isInteger_55 rfl (lv_at hl 1 rfl) ?_
              refine gh_callV C V hl.1 m_Mo_isDigit l_Mo_192 (c_Mo_isDigit l E _ _ a ad _ _ _ tx n p9 X.1 hT h21 (by omega)) rfl X.1.1 gc_Mo ⟨by first | decide | omega | (dsimp only; omega), by first | decide | omega | (dsimp only; omega)⟩ ⟨by first | decide | omega | (dsimp only; omega), by first | decide | omega | (dsimp only; omega)⟩ (Nat.le_of_ble_eq_true rfl) rfl d_Mo_isInteger_56 (fun r z9 H locs hp9 V1 => ?_)
              obtain ⟨rfl, he9⟩ := hp9
              rw [he9] at V1
              have V := V1
              rw [decide_eq_false hnd]
              refine W.eq (g2 := F0 m 59 ls [.int (gh_bi false)]) rfl ?_
              refine lv_if_eq (tgt := 147) hx hb d_Mo_isInteger_59 (by decide) (fun c43 => ?_) (fun c43 => absurd (by decide) c43)
              refine lv_aload_n hx hb d_Mo_isInteger_147 rfl (lv_at hl 1 rfl) ?_
              refine mo_getS (v := 1) C V X 27 (by decide) (by decide) (by first | rfl | exact hS27) f_Mo_206 rfl d_Mo_isInteger_148 ?_
              refine lv_if_eq (tgt := 173) hx hb d_Mo_isInteger_151 (by decide) (fun c44 => absurd c44 (by decide)) (fun c44 => ?_)
              refine lv_aload_n hx hb d_Mo_isInteger_154 rfl (lv_at hl 1 rfl) ?_
              refine lv_aload_n hx hb d_Mo_isInteger_155 rfl (lv_at hl 1 rfl) ?_
              refine lv_iconst (v := 3) hx hb d_Mo_isInteger_156 (by decide) ?_
              refine lv_iload_n hx hb d_Mo_isInteger_157 rfl (lv_at hl 2 rfl) ?_
              refine lv_if_eq (tgt := 165) hx hb d_Mo_isInteger_158 (by decide) (fun c45 => absurd c45 (by decide)) (fun c45 => ?_)
              refine lv_lload_n hx hb d_Mo_isInteger_161 rfl (lv_at hl 0 rfl) ?_
              refine lv_goto (tgt := 167) hx hb d_Mo_isInteger_162 (by decide) ?_
              have h11b : S1 11 = nI nv := by first | exact h11c | (rw [va_up_n (by decide)]; exact h11c) | (rw [va_up_n (by decide), va_up_n (by decide)]; exact h11c)
              refine gh_callV C V hl.1 m_Mo_make l_Mo_159 (c_Mo_mk l E _ _ a ad _ _ _ 3 (Int64.ofInt zi) nv X.1 h11b hnv) rfl X.1.1 gc_Mo ⟨by first | decide | omega | (dsimp only; omega), by first | decide | omega | (dsimp only; omega)⟩ ⟨by first | decide | omega | (dsimp only; omega), by first | decide | omega | (dsimp only; omega)⟩ (Nat.le_of_ble_eq_true rfl) rfl d_Mo_isInteger_167 (fun r z9 H locs hp9 V1 => ?_)
              obtain ⟨rfl, S3, I3, J3, X2, hmk⟩ := hp9
              have X := X.then X2
              have V := V1
              refine W.eq (g2 := F0 m 170 ls [.int (nI nv), .ref a]) rfl ?_
              refine mo_putS C V X 28 (by decide) (by decide) f_Mo_189 rfl rfl rfl d_Mo_isInteger_170 (fun f1 H locs V1 X1 => ?_)
              clear V X
              have V := V1
              have X := X1
              clear V1 X1
              refine lv_iconst (v := 1) hx hb d_Mo_isInteger_173 (by decide) ?_
              refine gh_retz hAe C V hr (by first | rfl | decide) hlocks d_Mo_isInteger_174 (by first | decide | omega | (dsimp only; omega)) (by first | decide | omega | (dsimp only; omega)) ?_
              have hrd9 : rd_i tx n true pl = (p9, some (Int64.ofInt zi)) := by
                rw [rd_i_n hng]
                unfold rd_j; rw [if_neg (fun z => z hdg), if_neg hz0, ← hrd]
                rw [rd_d_o, if_neg hnd]
                rfl
              rw [hrd9]
              refine ⟨rfl, _, _, _, X, ?_, ⟨fun z => (by cases z), fun _ X9 hz => ?_⟩⟩
              · rw [va_up_n (by decide), hmk.1, va_up_n (by decide)]; exact h21
              · have hz : vt_i (Int64.ofInt zi) = X9 := by injection hz
                subst hz
                refine ⟨fun k a1 a2 a3 => ?_, fun k b1 b3 b4 b5 => funext (fun j => hmk.2.1 k j (Or.inl ⟨b1, b3, b4, b5⟩)), hmk.ma h29, nv + 1, nv, ⟨Nat.le_succ _, Nat.le_refl _, fun k v _ hv => ⟨hmk.2.1 k v (Or.inr (by omega)), hmk.2.2.2.1 k v (Or.inr (by omega))⟩⟩, by rw [va_up_n (by decide), hmk.1, va_up_s], va_up_s, ?_⟩
                · rw [va_up_n a3, hmk.1, va_up_n a1] <;> first | rfl | exact hS k a2 | (rw [va_up_n a2] <;> first | rfl | exact hS k a2) | (rw [va_up_n a2, va_up_n a2] <;> first | rfl | exact hS k a2)
                · first | exact hmk.int h29 hnv | (rw [ri_neg] at hmk; exact hmk.int h29 hnv) | (rw [hz0] at hmk; exact hmk.int h29 hnv)
        exact loop n (pl + 1) 0 _ _ _ _ ls (by omega) (by omega) h21 ⟨by decide, Int.le_refl 0⟩ rfl (fun k a1 => by first | rfl | exact va_up_n a1) X V hl
    · refine lv_aload_n hx hb d_Mo_isInteger_0 rfl (lv_at hl 0 rfl) ?_
      refine gh_callV C V hl.1 m_Mo_peek l_Mo_185 (c_Mo_pk l E _ _ a ad _ _ _ tx n pl X.1 hT h21 (by omega)) rfl X.1.1 gc_Mo ⟨by first | decide | omega | (dsimp only; omega), by first | decide | omega | (dsimp only; omega)⟩ ⟨by first | decide | omega | (dsimp only; omega), by first | decide | omega | (dsimp only; omega)⟩ (Nat.le_of_ble_eq_true rfl) rfl d_Mo_isInteger_1 (fun r z9 H locs hp9 V1 => ?_)
      obtain ⟨rfl, he9⟩ := hp9
      rw [he9] at V1
      have V := V1
      refine W.eq (g2 := F0 m 4 ls [.int (pek (sg tx n pl))]) rfl ?_
      refine lv_bipush (v := 45) hx hb d_Mo_isInteger_4 (by decide) ?_
      refine lv_icmp_ne (tgt := 13) hx hb d_Mo_isInteger_6 (by decide) (fun c46 => absurd ((pek_eq (k := 45) (by omega) (by omega) (by omega)).mpr hng) c46) (fun c46 => ?_)
      refine lv_iconst (v := 1) hx hb d_Mo_isInteger_9 (by decide) ?_
      refine lv_goto (tgt := 14) hx hb d_Mo_isInteger_10 (by decide) ?_
      refine lv_istore_n hx hb d_Mo_isInteger_14 rfl hl (by decide) rfl (fun ls hl => ?_)
      have hl : lv_has ls 9 [(1, .int 1), (0, .ref a)] := hl
      refine lv_iload_n hx hb d_Mo_isInteger_15 rfl (lv_at hl 0 rfl) ?_
      refine lv_if_eq (tgt := 29) hx hb d_Mo_isInteger_16 (by decide) (fun c47 => absurd c47 (by decide)) (fun c47 => ?_)
      refine lv_aload_n hx hb d_Mo_isInteger_19 rfl (lv_at hl 1 rfl) ?_
      refine lv_dup hx hb d_Mo_isInteger_20 rfl ?_
      refine mo_getS (v := nI pl) C V X 21 (by decide) (by decide) (by first | rfl | exact hS21) f_Mo_179 rfl d_Mo_isInteger_21 ?_
      refine lv_iconst (v := 1) hx hb d_Mo_isInteger_24 (by decide) ?_
      refine gn_iadd (a := pl) (b := 1) hx hb d_Mo_isInteger_25 ?_
      refine mo_putS C V X 21 (by decide) (by decide) f_Mo_179 rfl rfl rfl d_Mo_isInteger_26 (fun f1 H locs V1 X1 => ?_)
      clear V X
      have V := V1
      have X := X1
      clear V1 X1
      have h21 : (va_up S 21 (nI (pl + 1))) 21 = nI (pl + 1) := va_up_s
      have hS21 := h21
      have hT : rT tx n (va_up S 21 (nI (pl + 1))) I := hT.keep (va_up_n (by decide)) rfl
      refine lv_aload_n hx hb d_Mo_isInteger_29 rfl (lv_at hl 1 rfl) ?_
      refine gh_callV C V hl.1 m_Mo_isDigit l_Mo_192 (c_Mo_isDigit l E _ _ a ad _ _ _ tx n (pl + 1) X.1 hT h21 (by omega)) rfl X.1.1 gc_Mo ⟨by first | decide | omega | (dsimp only; omega), by first | decide | omega | (dsimp only; omega)⟩ ⟨by first | decide | omega | (dsimp only; omega), by first | decide | omega | (dsimp only; omega)⟩ (Nat.le_of_ble_eq_true rfl) rfl d_Mo_isInteger_30 (fun r z9 H locs hp9 V1 => ?_)
      obtain ⟨rfl, he9⟩ := hp9
      rw [he9] at V1
      have V := V1
      rw [decide_eq_false hdg]
      refine W.eq (g2 := F0 m 33 ls [.int (gh_bi false)]) rfl ?_
      refine lv_if_ne (tgt := 38) hx hb d_Mo_isInteger_33 (by decide) (fun c48 => absurd (by decide) c48) (fun c48 => ?_)
      refine lv_iconst (v := 0) hx hb d_Mo_isInteger_36 (by decide) ?_
      refine gh_retz hAe C V hr (by first | rfl | decide) hlocks d_Mo_isInteger_37 (by first | decide | omega | (dsimp only; omega)) (by first | decide | omega | (dsimp only; omega)) ?_
      have hrd9 : rd_i tx n true pl = (pl + 1, none) := by
        rw [rd_i_n hng]
        unfold rd_j; rw [if_pos hdg]
      rw [hrd9]
      exact ⟨rfl, _, _, _, X, h21, ⟨fun z => (by cases z), fun _ X9 hz => (by cases hz)⟩⟩
  · have hs1 := hsg (pl)
    have hs2 := hsg (pl + 1)
    have h11c := h11
    by_cases hdg : 48 ≤ sg tx n (pl) ∧ sg tx n (pl) ≤ 57
    · have hq1 := sg_lt (by omega : sg tx n (pl) ≠ 0)
      by_cases hz0 : sg tx n (pl) = 48
      · by_cases hd2 : 48 ≤ sg tx n (pl + 1) ∧ sg tx n (pl + 1) ≤ 57
        · refine lv_aload_n hx hb d_Mo_isInteger_0 rfl (lv_at hl 0 rfl) ?_
          refine gh_callV C V hl.1 m_Mo_peek l_Mo_185 (c_Mo_pk l E _ _ a ad _ _ _ tx n pl X.1 hT h21 (by omega)) rfl X.1.1 gc_Mo ⟨by first | decide | omega | (dsimp only; omega), by first | decide | omega | (dsimp only; omega)⟩ ⟨by first | decide | omega | (dsimp only; omega), by first | decide | omega | (dsimp only; omega)⟩ (Nat.le_of_ble_eq_true rfl) rfl d_Mo_isInteger_1 (fun r z9 H locs hp9 V1 => ?_)
          obtain ⟨rfl, he9⟩ := hp9
          rw [he9] at V1
          have V := V1
          refine W.eq (g2 := F0 m 4 ls [.int (pek (sg tx n pl))]) rfl ?_
          refine lv_bipush (v := 45) hx hb d_Mo_isInteger_4 (by decide) ?_
          refine lv_icmp_ne (tgt := 13) hx hb d_Mo_isInteger_6 (by decide) (fun c49 => ?_) (fun c49 => absurd c49 (fun z => hng ((pek_eq (k := 45) (by omega) (by omega) (by omega)).mp z)))
          refine lv_iconst (v := 0) hx hb d_Mo_isInteger_13 (by decide) ?_
          refine lv_istore_n hx hb d_Mo_isInteger_14 rfl hl (by decide) rfl (fun ls hl => ?_)
          have hl : lv_has ls 9 [(1, .int 0), (0, .ref a)] := hl
          refine lv_iload_n hx hb d_Mo_isInteger_15 rfl (lv_at hl 0 rfl) ?_
          refine lv_if_eq (tgt := 29) hx hb d_Mo_isInteger_16 (by decide) (fun c50 => ?_) (fun c50 => absurd (by decide) c50)
          refine lv_aload_n hx hb d_Mo_isInteger_29 rfl (lv_at hl 1 rfl) ?_
          refine gh_callV C V hl.1 m_Mo_isDigit l_Mo_192 (c_Mo_isDigit l E _ _ a ad _ _ _ tx n pl X.1 hT h21 (by omega)) rfl X.1.1 gc_Mo ⟨by first | decide | omega | (dsimp only; omega), by first | decide | omega | (dsimp only; omega)⟩ ⟨by first | decide | omega | (dsimp only; omega), by first | decide | omega | (dsimp only; omega)⟩ (Nat.le_of_ble_eq_true rfl) rfl d_Mo_isInteger_30 (fun r z9 H locs hp9 V1 => ?_)
          obtain ⟨rfl, he9⟩ := hp9
          rw [he9] at V1
          have V := V1
          rw [decide_eq_true hdg]
          refine W.eq (g2 := F0 m 33 ls [.int (gh_bi true)]) rfl ?_
          refine lv_if_ne (tgt := 38) hx hb d_Mo_isInteger_33 (by decide) (fun c51 => ?_) (fun c51 => absurd c51 (by decide))
          refine lv_aload_n hx hb d_Mo_isInteger_38 rfl (lv_at hl 1 rfl) ?_
          refine gh_callV C V hl.1 m_Mo_peek l_Mo_185 (c_Mo_pk l E _ _ a ad _ _ _ tx n pl X.1 hT h21 (by omega)) rfl X.1.1 gc_Mo ⟨by first | decide | omega | (dsimp only; omega), by first | decide | omega | (dsimp only; omega)⟩ ⟨by first | decide | omega | (dsimp only; omega), by first | decide | omega | (dsimp only; omega)⟩ (Nat.le_of_ble_eq_true rfl) rfl d_Mo_isInteger_39 (fun r z9 H locs hp9 V1 => ?_)
          obtain ⟨rfl, he9⟩ := hp9
          rw [he9] at V1
          have V := V1
          refine W.eq (g2 := F0 m 42 ls [.int (pek (sg tx n pl))]) rfl ?_
          refine lv_bipush (v := 48) hx hb d_Mo_isInteger_42 (by decide) ?_
          refine lv_icmp_ne (tgt := 51) hx hb d_Mo_isInteger_44 (by decide) (fun c52 => absurd ((pek_eq (k := 48) (by omega) (by omega) (by omega)).mpr hz0) c52) (fun c52 => ?_)
          refine lv_iconst (v := 1) hx hb d_Mo_isInteger_47 (by decide) ?_
          refine lv_goto (tgt := 52) hx hb d_Mo_isInteger_48 (by decide) ?_
          refine lv_istore_n hx hb d_Mo_isInteger_52 rfl hl (by decide) rfl (fun ls hl => ?_)
          have hl : lv_has ls 9 [(2, .int 1), (1, .int 0), (0, .ref a)] := hl
          refine lv_lconst (v := 0) hx hb d_Mo_isInteger_53 (by decide) ?_
          refine lv_lstore_n hx hb d_Mo_isInteger_54 rfl hl (by decide) rfl (fun ls hl => ?_)
          have hl : lv_has ls 9 [(3, .long 0), (2, .int 1), (1, .int 0), (0, .ref a)] := hl
          have hl : lv_has ls 9 [(3, .long (Int64.ofInt 0)), (2, .int 1), (1, .int 0), (0, .ref a)] := hl
          refine lv_aload_n hx hb d_Mo_isInteger_55 rfl (lv_at hl 3 rfl) ?_
          refine gh_callV C V hl.1 m_Mo_isDigit l_Mo_192 (c_Mo_isDigit l E _ _ a ad _ _ _ tx n pl X.1 hT h21 (by omega)) rfl X.1.1 gc_Mo ⟨by first | decide | omega | (dsimp only; omega), by first | decide | omega | (dsimp only; omega)⟩ ⟨by first | decide | omega | (dsimp only; omega), by first | decide | omega | (dsimp only; omega)⟩ (Nat.le_of_ble_eq_true rfl) rfl d_Mo_isInteger_56 (fun r z9 H locs hp9 V1 => ?_)
          obtain ⟨rfl, he9⟩ := hp9
          rw [he9] at V1
          have V := V1
          rw [decide_eq_true hdg]
          refine W.eq (g2 := F0 m 59 ls [.int (gh_bi true)]) rfl ?_
          refine lv_if_eq (tgt := 147) hx hb d_Mo_isInteger_59 (by decide) (fun c53 => absurd c53 (by decide)) (fun c53 => ?_)
          refine lv_aload_n hx hb d_Mo_isInteger_62 rfl (lv_at hl 3 rfl) ?_
          refine gh_callV C V hl.1 m_Mo_peek l_Mo_185 (c_Mo_pk l E _ _ a ad _ _ _ tx n pl X.1 hT h21 (by omega)) rfl X.1.1 gc_Mo ⟨by first | decide | omega | (dsimp only; omega), by first | decide | omega | (dsimp only; omega)⟩ ⟨by first | decide | omega | (dsimp only; omega), by first | decide | omega | (dsimp only; omega)⟩ (Nat.le_of_ble_eq_true rfl) rfl d_Mo_isInteger_63 (fun r z9 H locs hp9 V1 => ?_)
          obtain ⟨rfl, he9⟩ := hp9
          rw [he9] at V1
          have V := V1
          refine W.eq (g2 := F0 m 66 ls [.int (pek (sg tx n pl))]) rfl ?_
          refine lv_i2l hx hb d_Mo_isInteger_66 rfl ?_
          refine lv_ldc2 (v := 48) hx hb C.2.2.2.1 (C.2.2.2.2.1 _ kl_Mo_196) d_Mo_isInteger_67 ?_
          refine lv_lsub hx hb d_Mo_isInteger_70 ?_
          rw [ri_d (c := sg tx n (pl)) (by omega) (by omega)]
          refine lv_lstore hx hb d_Mo_isInteger_71 hl (by decide) rfl (fun ls hl => ?_)
          have hl : lv_has ls 9 [(5, .long (lN (sg tx n (pl) - 48))), (3, .long (Int64.ofInt 0)), (2, .int 1), (1, .int 0), (0, .ref a)] := hl
          refine lv_iload_n hx hb d_Mo_isInteger_73 rfl (lv_at hl 3 rfl) ?_
          refine lv_if_eq (tgt := 83) hx hb d_Mo_isInteger_74 (by decide) (fun c54 => ?_) (fun c54 => absurd (by decide) c54)
          refine lv_ldc2 (v := (-9223372036854775807)) hx hb C.2.2.2.1 (C.2.2.2.2.1 _ kl_Mo_200) d_Mo_isInteger_83 ?_
          refine lv_lstore hx hb d_Mo_isInteger_86 hl (by decide) rfl (fun ls hl => ?_)
          have hl : lv_has ls 9 [(7, .long ((-9223372036854775807))), (5, .long (lN (sg tx n (pl) - 48))), (3, .long (Int64.ofInt 0)), (2, .int 1), (1, .int 0), (0, .ref a)] := hl
          have hl : lv_has ls 9 [(7, .long (rd_lL false)), (5, .long (lN (sg tx n (pl) - 48))), (3, .long (Int64.ofInt 0)), (2, .int 1), (1, .int 0), (0, .ref a)] := hl
          refine lv_lload_n hx hb d_Mo_isInteger_88 rfl (lv_at hl 2 rfl) ?_
          refine lv_ldc2 (v := (-922337203685477580)) hx hb C.2.2.2.1 (C.2.2.2.2.1 _ kl_Mo_202) d_Mo_isInteger_89 ?_
          refine W.lcmp hx hb d_Mo_isInteger_92 ?_
          refine lv_if_lt (tgt := 110) hx hb d_Mo_isInteger_93 (by decide) (fun c55 => absurd c55 (fun z => absurd ((ri_c1 (z := 0) (by decide) (by decide)).mp z) (by decide))) (fun c55 => ?_)
          refine lv_ldc2 (v := 10) hx hb C.2.2.2.1 (C.2.2.2.2.1 _ kl_Mo_204) d_Mo_isInteger_96 ?_
          refine lv_lload_n hx hb d_Mo_isInteger_99 rfl (lv_at hl 2 rfl) ?_
          refine lv_lmul hx hb d_Mo_isInteger_100 ?_
          refine lv_lload hx hb d_Mo_isInteger_101 (lv_at hl 0 rfl) ?_
          refine lv_lload hx hb d_Mo_isInteger_103 (lv_at hl 1 rfl) ?_
          refine lv_ladd hx hb d_Mo_isInteger_105 ?_
          refine W.lcmp hx hb d_Mo_isInteger_106 ?_
          refine lv_if_ge (tgt := 112) hx hb d_Mo_isInteger_107 (by decide) (fun c56 => ?_) (fun c56 => absurd (Int32.not_lt.mp (fun z => absurd ((ri_c2 (z := 0) (neg := false) (d := sg tx n (pl) - 48) (by decide) (by decide) (by omega)).mp z) (by have h9 : rd_ls false ≤ -9223372036854775807 := (by decide); omega))) c56)
          refine lv_ldc2 (v := 10) hx hb C.2.2.2.1 (C.2.2.2.2.1 _ kl_Mo_204) d_Mo_isInteger_112 ?_
          refine lv_lload_n hx hb d_Mo_isInteger_115 rfl (lv_at hl 2 rfl) ?_
          refine lv_lmul hx hb d_Mo_isInteger_116 ?_
          refine lv_lload hx hb d_Mo_isInteger_117 (lv_at hl 1 rfl) ?_
          refine lv_lsub hx hb d_Mo_isInteger_119 ?_
          rw [ri_n]
          refine lv_lstore_n hx hb d_Mo_isInteger_120 rfl hl (by decide) rfl (fun ls hl => ?_)
          have hl : lv_has ls 9 [(3, .long (Int64.ofInt (10 * 0 - ((sg tx n (pl) - 48 : Nat) : Int)))), (7, .long (rd_lL false)), (5, .long (lN (sg tx n (pl) - 48))), (2, .int 1), (1, .int 0), (0, .ref a)] := hl
          refine lv_aload_n hx hb d_Mo_isInteger_121 rfl (lv_at hl 5 rfl) ?_
          refine lv_dup hx hb d_Mo_isInteger_122 rfl ?_
          refine mo_getS (v := nI pl) C V X 21 (by decide) (by decide) (by first | rfl | exact hS21) f_Mo_179 rfl d_Mo_isInteger_123 ?_
          refine lv_iconst (v := 1) hx hb d_Mo_isInteger_126 (by decide) ?_
          refine gn_iadd (a := pl) (b := 1) hx hb d_Mo_isInteger_127 ?_
          refine mo_putS C V X 21 (by decide) (by decide) f_Mo_179 rfl rfl rfl d_Mo_isInteger_128 (fun f1 H locs V1 X1 => ?_)
          clear V X
          have V := V1
          have X := X1
          clear V1 X1
          have h21 : (va_up S 21 (nI (pl + 1))) 21 = nI (pl + 1) := va_up_s
          have hS21 := h21
          have hT : rT tx n (va_up S 21 (nI (pl + 1))) I := hT.keep (va_up_n (by decide)) rfl
          refine lv_iload_n hx hb d_Mo_isInteger_131 rfl (lv_at hl 3 rfl) ?_
          refine lv_if_eq (tgt := 144) hx hb d_Mo_isInteger_132 (by decide) (fun c57 => absurd c57 (by decide)) (fun c57 => ?_)
          refine lv_aload_n hx hb d_Mo_isInteger_135 rfl (lv_at hl 5 rfl) ?_
          refine gh_callV C V hl.1 m_Mo_isDigit l_Mo_192 (c_Mo_isDigit l E _ _ a ad _ _ _ tx n (pl + 1) X.1 hT h21 (by omega)) rfl X.1.1 gc_Mo ⟨by first | decide | omega | (dsimp only; omega), by first | decide | omega | (dsimp only; omega)⟩ ⟨by first | decide | omega | (dsimp only; omega), by first | decide | omega | (dsimp only; omega)⟩ (Nat.le_of_ble_eq_true rfl) rfl d_Mo_isInteger_136 (fun r z9 H locs hp9 V1 => ?_)
          obtain ⟨rfl, he9⟩ := hp9
          rw [he9] at V1
          have V := V1
          rw [decide_eq_true hd2]
          refine W.eq (g2 := F0 m 139 ls [.int (gh_bi true)]) rfl ?_
          refine lv_if_eq (tgt := 144) hx hb d_Mo_isInteger_139 (by decide) (fun c58 => absurd c58 (by decide)) (fun c58 => ?_)
          refine lv_iconst (v := 0) hx hb d_Mo_isInteger_142 (by decide) ?_
          refine gh_retz hAe C V hr (by first | rfl | decide) hlocks d_Mo_isInteger_143 (by first | decide | omega | (dsimp only; omega)) (by first | decide | omega | (dsimp only; omega)) ?_
          have hrd9 : rd_i tx n true pl = (pl + 1, none) := by
            rw [rd_i_p hng]
            unfold rd_j; rw [if_neg (fun z => z hdg), if_pos hz0, if_pos ⟨rfl, hd2⟩]
          rw [hrd9]
          exact ⟨rfl, _, _, _, X, h21, ⟨fun z => (by cases z), fun _ X9 hz => (by cases hz)⟩⟩
        · refine lv_aload_n hx hb d_Mo_isInteger_0 rfl (lv_at hl 0 rfl) ?_
          refine gh_callV C V hl.1 m_Mo_peek l_Mo_185 (c_Mo_pk l E _ _ a ad _ _ _ tx n pl X.1 hT h21 (by omega)) rfl X.1.1 gc_Mo ⟨by first | decide | omega | (dsimp only; omega), by first | decide | omega | (dsimp only; omega)⟩ ⟨by first | decide | omega | (dsimp only; omega), by first | decide | omega | (dsimp only; omega)⟩ (Nat.le_of_ble_eq_true rfl) rfl d_Mo_isInteger_1 (fun r z9 H locs hp9 V1 => ?_)
          obtain ⟨rfl, he9⟩ := hp9
          rw [he9] at V1
          have V := V1
          refine W.eq (g2 := F0 m 4 ls [.int (pek (sg tx n pl))]) rfl ?_
          refine lv_bipush (v := 45) hx hb d_Mo_isInteger_4 (by decide) ?_
          refine lv_icmp_ne (tgt := 13) hx hb d_Mo_isInteger_6 (by decide) (fun c59 => ?_) (fun c59 => absurd c59 (fun z => hng ((pek_eq (k := 45) (by omega) (by omega) (by omega)).mp z)))
          refine lv_iconst (v := 0) hx hb d_Mo_isInteger_13 (by decide) ?_
          refine lv_istore_n hx hb d_Mo_isInteger_14 rfl hl (by decide) rfl (fun ls hl => ?_)
          have hl : lv_has ls 9 [(1, .int 0), (0, .ref a)] := hl
          refine lv_iload_n hx hb d_Mo_isInteger_15 rfl (lv_at hl 0 rfl) ?_
          refine lv_if_eq (tgt := 29) hx hb d_Mo_isInteger_16 (by decide) (fun c60 => ?_) (fun c60 => absurd (by decide) c60)
          refine lv_aload_n hx hb d_Mo_isInteger_29 rfl (lv_at hl 1 rfl) ?_
          refine gh_callV C V hl.1 m_Mo_isDigit l_Mo_192 (c_Mo_isDigit l E _ _ a ad _ _ _ tx n pl X.1 hT h21 (by omega)) rfl X.1.1 gc_Mo ⟨by first | decide | omega | (dsimp only; omega), by first | decide | omega | (dsimp only; omega)⟩ ⟨by first | decide | omega | (dsimp only; omega), by first | decide | omega | (dsimp only; omega)⟩ (Nat.le_of_ble_eq_true rfl) rfl d_Mo_isInteger_30 (fun r z9 H locs hp9 V1 => ?_)
          obtain ⟨rfl, he9⟩ := hp9
          rw [he9] at V1
          have V := V1
          rw [decide_eq_true hdg]
          refine W.eq (g2 := F0 m 33 ls [.int (gh_bi true)]) rfl ?_
          refine lv_if_ne (tgt := 38) hx hb d_Mo_isInteger_33 (by decide) (fun c61 => ?_) (fun c61 => absurd c61 (by decide))
          refine lv_aload_n hx hb d_Mo_isInteger_38 rfl (lv_at hl 1 rfl) ?_
          refine gh_callV C V hl.1 m_Mo_peek l_Mo_185 (c_Mo_pk l E _ _ a ad _ _ _ tx n pl X.1 hT h21 (by omega)) rfl X.1.1 gc_Mo ⟨by first | decide | omega | (dsimp only; omega), by first | decide | omega | (dsimp only; omega)⟩ ⟨by first | decide | omega | (dsimp only; omega), by first | decide | omega | (dsimp only; omega)⟩ (Nat.le_of_ble_eq_true rfl) rfl d_Mo_isInteger_39 (fun r z9 H locs hp9 V1 => ?_)
          obtain ⟨rfl, he9⟩ := hp9
          rw [he9] at V1
          have V := V1
          refine W.eq (g2 := F0 m 42 ls [.int (pek (sg tx n pl))]) rfl ?_
          refine lv_bipush (v := 48) hx hb d_Mo_isInteger_42 (by decide) ?_
          refine lv_icmp_ne (tgt := 51) hx hb d_Mo_isInteger_44 (by decide) (fun c62 => absurd ((pek_eq (k := 48) (by omega) (by omega) (by omega)).mpr hz0) c62) (fun c62 => ?_)
          refine lv_iconst (v := 1) hx hb d_Mo_isInteger_47 (by decide) ?_
          refine lv_goto (tgt := 52) hx hb d_Mo_isInteger_48 (by decide) ?_
          refine lv_istore_n hx hb d_Mo_isInteger_52 rfl hl (by decide) rfl (fun ls hl => ?_)
          have hl : lv_has ls 9 [(2, .int 1), (1, .int 0), (0, .ref a)] := hl
          refine lv_lconst (v := 0) hx hb d_Mo_isInteger_53 (by decide) ?_
          refine lv_lstore_n hx hb d_Mo_isInteger_54 rfl hl (by decide) rfl (fun ls hl => ?_)
          have hl : lv_has ls 9 [(3, .long 0), (2, .int 1), (1, .int 0), (0, .ref a)] := hl
          have hl : lv_has ls 9 [(3, .long (Int64.ofInt 0)), (2, .int 1), (1, .int 0), (0, .ref a)] := hl
          refine lv_aload_n hx hb d_Mo_isInteger_55 rfl (lv_at hl 3 rfl) ?_
          refine gh_callV C V hl.1 m_Mo_isDigit l_Mo_192 (c_Mo_isDigit l E _ _ a ad _ _ _ tx n pl X.1 hT h21 (by omega)) rfl X.1.1 gc_Mo ⟨by first | decide | omega | (dsimp only; omega), by first | decide | omega | (dsimp only; omega)⟩ ⟨by first | decide | omega | (dsimp only; omega), by first | decide | omega | (dsimp only; omega)⟩ (Nat.le_of_ble_eq_true rfl) rfl d_Mo_isInteger_56 (fun r z9 H locs hp9 V1 => ?_)
          obtain ⟨rfl, he9⟩ := hp9
          rw [he9] at V1
          have V := V1
          rw [decide_eq_true hdg]
          refine W.eq (g2 := F0 m 59 ls [.int (gh_bi true)]) rfl ?_
          refine lv_if_eq (tgt := 147) hx hb d_Mo_isInteger_59 (by decide) (fun c63 => absurd c63 (by decide)) (fun c63 => ?_)
          refine lv_aload_n hx hb d_Mo_isInteger_62 rfl (lv_at hl 3 rfl) ?_
          refine gh_callV C V hl.1 m_Mo_peek l_Mo_185 (c_Mo_pk l E _ _ a ad _ _ _ tx n pl X.1 hT h21 (by omega)) rfl X.1.1 gc_Mo ⟨by first | decide | omega | (dsimp only; omega), by first | decide | omega | (dsimp only; omega)⟩ ⟨by first | decide | omega | (dsimp only; omega), by first | decide | omega | (dsimp only; omega)⟩ (Nat.le_of_ble_eq_true rfl) rfl d_Mo_isInteger_63 (fun r z9 H locs hp9 V1 => ?_)
          obtain ⟨rfl, he9⟩ := hp9
          rw [he9] at V1
          have V := V1
          refine W.eq (g2 := F0 m 66 ls [.int (pek (sg tx n pl))]) rfl ?_
          refine lv_i2l hx hb d_Mo_isInteger_66 rfl ?_
          refine lv_ldc2 (v := 48) hx hb C.2.2.2.1 (C.2.2.2.2.1 _ kl_Mo_196) d_Mo_isInteger_67 ?_
          refine lv_lsub hx hb d_Mo_isInteger_70 ?_
          rw [ri_d (c := sg tx n (pl)) (by omega) (by omega)]
          refine lv_lstore hx hb d_Mo_isInteger_71 hl (by decide) rfl (fun ls hl => ?_)
          have hl : lv_has ls 9 [(5, .long (lN (sg tx n (pl) - 48))), (3, .long (Int64.ofInt 0)), (2, .int 1), (1, .int 0), (0, .ref a)] := hl
          refine lv_iload_n hx hb d_Mo_isInteger_73 rfl (lv_at hl 3 rfl) ?_
          refine lv_if_eq (tgt := 83) hx hb d_Mo_isInteger_74 (by decide) (fun c64 => ?_) (fun c64 => absurd (by decide) c64)
          refine lv_ldc2 (v := (-9223372036854775807)) hx hb C.2.2.2.1 (C.2.2.2.2.1 _ kl_Mo_200) d_Mo_isInteger_83 ?_
          refine lv_lstore hx hb d_Mo_isInteger_86 hl (by decide) rfl (fun ls hl => ?_)
          have hl : lv_has ls 9 [(7, .long ((-9223372036854775807))), (5, .long (lN (sg tx n (pl) - 48))), (3, .long (Int64.ofInt 0)), (2, .int 1), (1, .int 0), (0, .ref a)] := hl
          have hl : lv_has ls 9 [(7, .long (rd_lL false)), (5, .long (lN (sg tx n (pl) - 48))), (3, .long (Int64.ofInt 0)), (2, .int 1), (1, .int 0), (0, .ref a)] := hl
          refine lv_lload_n hx hb d_Mo_isInteger_88 rfl (lv_at hl 2 rfl) ?_
          refine lv_ldc2 (v := (-922337203685477580)) hx hb C.2.2.2.1 (C.2.2.2.2.1 _ kl_Mo_202) d_Mo_isInteger_89 ?_
          refine W.lcmp hx hb d_Mo_isInteger_92 ?_
          refine lv_if_lt (tgt := 110) hx hb d_Mo_isInteger_93 (by decide) (fun c65 => absurd c65 (fun z => absurd ((ri_c1 (z := 0) (by decide) (by decide)).mp z) (by decide))) (fun c65 => ?_)
          refine lv_ldc2 (v := 10) hx hb C.2.2.2.1 (C.2.2.2.2.1 _ kl_Mo_204) d_Mo_isInteger_96 ?_
          refine lv_lload_n hx hb d_Mo_isInteger_99 rfl (lv_at hl 2 rfl) ?_
          refine lv_lmul hx hb d_Mo_isInteger_100 ?_
          refine lv_lload hx hb d_Mo_isInteger_101 (lv_at hl 0 rfl) ?_
          refine lv_lload hx hb d_Mo_isInteger_103 (lv_at hl 1 rfl) ?_
          refine lv_ladd hx hb d_Mo_isInteger_105 ?_
          refine W.lcmp hx hb d_Mo_isInteger_106 ?_
          refine lv_if_ge (tgt := 112) hx hb d_Mo_isInteger_107 (by decide) (fun c66 => ?_) (fun c66 => absurd (Int32.not_lt.mp (fun z => absurd ((ri_c2 (z := 0) (neg := false) (d := sg tx n (pl) - 48) (by decide) (by decide) (by omega)).mp z) (by have h9 : rd_ls false ≤ -9223372036854775807 := (by decide); omega))) c66)
          refine lv_ldc2 (v := 10) hx hb C.2.2.2.1 (C.2.2.2.2.1 _ kl_Mo_204) d_Mo_isInteger_112 ?_
          refine lv_lload_n hx hb d_Mo_isInteger_115 rfl (lv_at hl 2 rfl) ?_
          refine lv_lmul hx hb d_Mo_isInteger_116 ?_
          refine lv_lload hx hb d_Mo_isInteger_117 (lv_at hl 1 rfl) ?_
          refine lv_lsub hx hb d_Mo_isInteger_119 ?_
          rw [ri_n]
          refine lv_lstore_n hx hb d_Mo_isInteger_120 rfl hl (by decide) rfl (fun ls hl => ?_)
          have hl : lv_has ls 9 [(3, .long (Int64.ofInt (10 * 0 - ((sg tx n (pl) - 48 : Nat) : Int)))), (7, .long (rd_lL false)), (5, .long (lN (sg tx n (pl) - 48))), (2, .int 1), (1, .int 0), (0, .ref a)] := hl
          refine lv_aload_n hx hb d_Mo_isInteger_121 rfl (lv_at hl 5 rfl) ?_
          refine lv_dup hx hb d_Mo_isInteger_122 rfl ?_
          refine mo_getS (v := nI pl) C V X 21 (by decide) (by decide) (by first | rfl | exact hS21) f_Mo_179 rfl d_Mo_isInteger_123 ?_
          refine lv_iconst (v := 1) hx hb d_Mo_isInteger_126 (by decide) ?_
          refine gn_iadd (a := pl) (b := 1) hx hb d_Mo_isInteger_127 ?_
          refine mo_putS C V X 21 (by decide) (by decide) f_Mo_179 rfl rfl rfl d_Mo_isInteger_128 (fun f1 H locs V1 X1 => ?_)
          clear V X
          have V := V1
          have X := X1
          clear V1 X1
          have h21 : (va_up S 21 (nI (pl + 1))) 21 = nI (pl + 1) := va_up_s
          have hS21 := h21
          have hT : rT tx n (va_up S 21 (nI (pl + 1))) I := hT.keep (va_up_n (by decide)) rfl
          refine lv_iload_n hx hb d_Mo_isInteger_131 rfl (lv_at hl 3 rfl) ?_
          refine lv_if_eq (tgt := 144) hx hb d_Mo_isInteger_132 (by decide) (fun c67 => absurd c67 (by decide)) (fun c67 => ?_)
          refine lv_aload_n hx hb d_Mo_isInteger_135 rfl (lv_at hl 5 rfl) ?_
          refine gh_callV C V hl.1 m_Mo_isDigit l_Mo_192 (c_Mo_isDigit l E _ _ a ad _ _ _ tx n (pl + 1) X.1 hT h21 (by omega)) rfl X.1.1 gc_Mo ⟨by first | decide | omega | (dsimp only; omega), by first | decide | omega | (dsimp only; omega)⟩ ⟨by first | decide | omega | (dsimp only; omega), by first | decide | omega | (dsimp only; omega)⟩ (Nat.le_of_ble_eq_true rfl) rfl d_Mo_isInteger_136 (fun r z9 H locs hp9 V1 => ?_)
          obtain ⟨rfl, he9⟩ := hp9
          rw [he9] at V1
          have V := V1
          rw [decide_eq_false hd2]
          refine W.eq (g2 := F0 m 139 ls [.int (gh_bi false)]) rfl ?_
          refine lv_if_eq (tgt := 144) hx hb d_Mo_isInteger_139 (by decide) (fun c68 => ?_) (fun c68 => absurd (by decide) c68)
          refine lv_goto (tgt := 55) hx hb d_Mo_isInteger_144 (by decide) ?_
          refine lv_aload_n hx hb d_Mo_isInteger_55 rfl (lv_at hl 5 rfl) ?_
          refine gh_callV C V hl.1 m_Mo_isDigit l_Mo_192 (c_Mo_isDigit l E _ _ a ad _ _ _ tx n (pl + 1) X.1 hT h21 (by omega)) rfl X.1.1 gc_Mo ⟨by first | decide | omega | (dsimp only; omega), by first | decide | omega | (dsimp only; omega)⟩ ⟨by first | decide | omega | (dsimp only; omega), by first | decide | omega | (dsimp only; omega)⟩ (Nat.le_of_ble_eq_true rfl) rfl d_Mo_isInteger_56 (fun r z9 H locs hp9 V1 => ?_)
          obtain ⟨rfl, he9⟩ := hp9
          rw [he9] at V1
          have V := V1
          rw [decide_eq_false hd2]
          refine W.eq (g2 := F0 m 59 ls [.int (gh_bi false)]) rfl ?_
          refine lv_if_eq (tgt := 147) hx hb d_Mo_isInteger_59 (by decide) (fun c69 => ?_) (fun c69 => absurd (by decide) c69)
          refine lv_aload_n hx hb d_Mo_isInteger_147 rfl (lv_at hl 5 rfl) ?_
          refine mo_getS (v := 1) C V X 27 (by decide) (by decide) (by first | rfl | exact hS27) f_Mo_206 rfl d_Mo_isInteger_148 ?_
          refine lv_if_eq (tgt := 173) hx hb d_Mo_isInteger_151 (by decide) (fun c70 => absurd c70 (by decide)) (fun c70 => ?_)
          refine lv_aload_n hx hb d_Mo_isInteger_154 rfl (lv_at hl 5 rfl) ?_
          refine lv_aload_n hx hb d_Mo_isInteger_155 rfl (lv_at hl 5 rfl) ?_
          refine lv_iconst (v := 3) hx hb d_Mo_isInteger_156 (by decide) ?_
          refine lv_iload_n hx hb d_Mo_isInteger_157 rfl (lv_at hl 4 rfl) ?_
          refine lv_if_eq (tgt := 165) hx hb d_Mo_isInteger_158 (by decide) (fun c71 => ?_) (fun c71 => absurd (by decide) c71)
          refine lv_lload_n hx hb d_Mo_isInteger_165 rfl (lv_at hl 0 rfl) ?_
          refine lv_lneg hx hb d_Mo_isInteger_166 ?_
          have h11b : (va_up S 21 (nI (pl + 1))) 11 = nI nv := by first | exact h11c | (rw [va_up_n (by decide)]; exact h11c) | (rw [va_up_n (by decide), va_up_n (by decide)]; exact h11c)
          refine gh_callV C V hl.1 m_Mo_make l_Mo_159 (c_Mo_mk l E _ _ a ad _ _ _ 3 (-(Int64.ofInt (10 * 0 - ((sg tx n (pl) - 48 : Nat) : Int)))) nv X.1 h11b hnv) rfl X.1.1 gc_Mo ⟨by first | decide | omega | (dsimp only; omega), by first | decide | omega | (dsimp only; omega)⟩ ⟨by first | decide | omega | (dsimp only; omega), by first | decide | omega | (dsimp only; omega)⟩ (Nat.le_of_ble_eq_true rfl) rfl d_Mo_isInteger_167 (fun r z9 H locs hp9 V1 => ?_)
          obtain ⟨rfl, S3, I3, J3, X2, hmk⟩ := hp9
          have X := X.then X2
          have V := V1
          refine W.eq (g2 := F0 m 170 ls [.int (nI nv), .ref a]) rfl ?_
          refine mo_putS C V X 28 (by decide) (by decide) f_Mo_189 rfl rfl rfl d_Mo_isInteger_170 (fun f1 H locs V1 X1 => ?_)
          clear V X
          have V := V1
          have X := X1
          clear V1 X1
          refine lv_iconst (v := 1) hx hb d_Mo_isInteger_173 (by decide) ?_
          refine gh_retz hAe C V hr (by first | rfl | decide) hlocks d_Mo_isInteger_174 (by first | decide | omega | (dsimp only; omega)) (by first | decide | omega | (dsimp only; omega)) ?_
          have hrd9 : rd_i tx n true pl = (pl + 1, some (0)) := by
            rw [rd_i_p hng]
            unfold rd_j; rw [if_neg (fun z => z hdg), if_pos hz0, if_neg (fun z => hd2 z.2)]
          rw [hrd9]
          refine ⟨rfl, _, _, _, X, ?_, ⟨fun z => (by cases z), fun _ X9 hz => ?_⟩⟩
          · rw [va_up_n (by decide), hmk.1, va_up_n (by decide)]; exact h21
          · have hz : vt_i (0) = X9 := by injection hz
            subst hz
            refine ⟨fun k a1 a2 a3 => ?_, fun k b1 b3 b4 b5 => funext (fun j => hmk.2.1 k j (Or.inl ⟨b1, b3, b4, b5⟩)), hmk.ma h29, nv + 1, nv, ⟨Nat.le_succ _, Nat.le_refl _, fun k v _ hv => ⟨hmk.2.1 k v (Or.inr (by omega)), hmk.2.2.2.1 k v (Or.inr (by omega))⟩⟩, by rw [va_up_n (by decide), hmk.1, va_up_s], va_up_s, ?_⟩
            · rw [va_up_n a3, hmk.1, va_up_n a1] <;> first | rfl | exact hS k a2 | (rw [va_up_n a2] <;> first | rfl | exact hS k a2) | (rw [va_up_n a2, va_up_n a2] <;> first | rfl | exact hS k a2)
            · first | exact hmk.int h29 hnv | (rw [ri_neg] at hmk; exact hmk.int h29 hnv) | (rw [hz0] at hmk; exact hmk.int h29 hnv)
      · refine lv_aload_n hx hb d_Mo_isInteger_0 rfl (lv_at hl 0 rfl) ?_
        refine gh_callV C V hl.1 m_Mo_peek l_Mo_185 (c_Mo_pk l E _ _ a ad _ _ _ tx n pl X.1 hT h21 (by omega)) rfl X.1.1 gc_Mo ⟨by first | decide | omega | (dsimp only; omega), by first | decide | omega | (dsimp only; omega)⟩ ⟨by first | decide | omega | (dsimp only; omega), by first | decide | omega | (dsimp only; omega)⟩ (Nat.le_of_ble_eq_true rfl) rfl d_Mo_isInteger_1 (fun r z9 H locs hp9 V1 => ?_)
        obtain ⟨rfl, he9⟩ := hp9
        rw [he9] at V1
        have V := V1
        refine W.eq (g2 := F0 m 4 ls [.int (pek (sg tx n pl))]) rfl ?_
        refine lv_bipush (v := 45) hx hb d_Mo_isInteger_4 (by decide) ?_
        refine lv_icmp_ne (tgt := 13) hx hb d_Mo_isInteger_6 (by decide) (fun c72 => ?_) (fun c72 => absurd c72 (fun z => hng ((pek_eq (k := 45) (by omega) (by omega) (by omega)).mp z)))
        refine lv_iconst (v := 0) hx hb d_Mo_isInteger_13 (by decide) ?_
        refine lv_istore_n hx hb d_Mo_isInteger_14 rfl hl (by decide) rfl (fun ls hl => ?_)
        have hl : lv_has ls 9 [(1, .int 0), (0, .ref a)] := hl
        refine lv_iload_n hx hb d_Mo_isInteger_15 rfl (lv_at hl 0 rfl) ?_
        refine lv_if_eq (tgt := 29) hx hb d_Mo_isInteger_16 (by decide) (fun c73 => ?_) (fun c73 => absurd (by decide) c73)
        refine lv_aload_n hx hb d_Mo_isInteger_29 rfl (lv_at hl 1 rfl) ?_
        refine gh_callV C V hl.1 m_Mo_isDigit l_Mo_192 (c_Mo_isDigit l E _ _ a ad _ _ _ tx n pl X.1 hT h21 (by omega)) rfl X.1.1 gc_Mo ⟨by first | decide | omega | (dsimp only; omega), by first | decide | omega | (dsimp only; omega)⟩ ⟨by first | decide | omega | (dsimp only; omega), by first | decide | omega | (dsimp only; omega)⟩ (Nat.le_of_ble_eq_true rfl) rfl d_Mo_isInteger_30 (fun r z9 H locs hp9 V1 => ?_)
        obtain ⟨rfl, he9⟩ := hp9
        rw [he9] at V1
        have V := V1
        rw [decide_eq_true hdg]
        refine W.eq (g2 := F0 m 33 ls [.int (gh_bi true)]) rfl ?_
        refine lv_if_ne (tgt := 38) hx hb d_Mo_isInteger_33 (by decide) (fun c74 => ?_) (fun c74 => absurd c74 (by decide))
        refine lv_aload_n hx hb d_Mo_isInteger_38 rfl (lv_at hl 1 rfl) ?_
        refine gh_callV C V hl.1 m_Mo_peek l_Mo_185 (c_Mo_pk l E _ _ a ad _ _ _ tx n pl X.1 hT h21 (by omega)) rfl X.1.1 gc_Mo ⟨by first | decide | omega | (dsimp only; omega), by first | decide | omega | (dsimp only; omega)⟩ ⟨by first | decide | omega | (dsimp only; omega), by first | decide | omega | (dsimp only; omega)⟩ (Nat.le_of_ble_eq_true rfl) rfl d_Mo_isInteger_39 (fun r z9 H locs hp9 V1 => ?_)
        obtain ⟨rfl, he9⟩ := hp9
        rw [he9] at V1
        have V := V1
        refine W.eq (g2 := F0 m 42 ls [.int (pek (sg tx n pl))]) rfl ?_
        refine lv_bipush (v := 48) hx hb d_Mo_isInteger_42 (by decide) ?_
        refine lv_icmp_ne (tgt := 51) hx hb d_Mo_isInteger_44 (by decide) (fun c75 => ?_) (fun c75 => absurd c75 (fun z => hz0 ((pek_eq (k := 48) (by omega) (by omega) (by omega)).mp z)))
        refine lv_iconst (v := 0) hx hb d_Mo_isInteger_51 (by decide) ?_
        refine lv_istore_n hx hb d_Mo_isInteger_52 rfl hl (by decide) rfl (fun ls hl => ?_)
        have hl : lv_has ls 9 [(2, .int 0), (1, .int 0), (0, .ref a)] := hl
        refine lv_lconst (v := 0) hx hb d_Mo_isInteger_53 (by decide) ?_
        refine lv_lstore_n hx hb d_Mo_isInteger_54 rfl hl (by decide) rfl (fun ls hl => ?_)
        have hl : lv_has ls 9 [(3, .long 0), (2, .int 0), (1, .int 0), (0, .ref a)] := hl
        have hl : lv_has ls 9 [(3, .long 0), (0, .ref a), (1, .int 0), (2, .int 0)] := lv_sub hl [0, 3, 2, 1] rfl
        have hl : lv_has ls 9 [(3, .long (Int64.ofInt 0)), (0, .ref a), (1, .int 0), (2, .int 0)] := hl
        have loop : ∀ (m9 p9 : Nat) (zi : Int) (S1 : Nat → Int32) (f1 : gh_F) (H : Heap) (locs : List Loc) (ls : Array Slot), n ≤ p9 + m9 → p9 ≤ n → S1 21 = nI p9 → (rd_ls false ≤ zi ∧ zi ≤ 0) → rd_d tx n (rd_ls false) m9 p9 zi = rd_d tx n (rd_ls false) n (pl) 0 → (∀ k, k ≠ 21 → S1 k = S k) → mo_X E f f1 a ad S1 I J → gh_V E A f1 s H locs → lv_has ls 9 [(3, .long (Int64.ofInt zi)), (0, .ref a), (1, .int 0), (2, .int 0)] → W p l e { frames := 7, cells := 0, slots := 0, locals := 160 } s m args below meth c H locs 0 0 (MQ below (gh_Q E f (fun r g => r = some (.int (gh_bi (rd_i tx n true pl).2.isSome)) ∧ ∃ S2 I2 J2, mo_X E f g a ad S2 I2 J2 ∧ S2 21 = nI (rd_i tx n true pl).1 ∧ rO true S I J nv np ((rd_i tx n true pl).2.map vt_i) S2 I2 J2)) args s 0 0 A) (F0 m 55 ls []) := by
          intro m9
          induction m9 with
          | zero =>
            intro p9 zi S1 f1 H locs ls hm hp9 h21 hzi hrd hS X V hl
            have hT : rT tx n S1 I := hT0.keep (hS 20 (by decide)) rfl
            have hS21 := h21
            have hS27 : S1 27 = 1 := (hS 27 (by decide)).trans h27
            have hs9 := hsg p9
            have hls : rd_ls false = -9223372036854775807 := rfl
            have h11c : S1 11 = nI nv := (hS 11 (by decide)).trans h11
            have hnd : ¬ (48 ≤ sg tx n p9 ∧ sg tx n p9 ≤ 57) := fun z => by have := sg_lt (by omega : sg tx n p9 ≠ 0); omega
            refine lv_aload_n hx hb d_Mo_isInteger_55 rfl (lv_at hl 1 rfl) ?_
            refine gh_callV C V hl.1 m_Mo_isDigit l_Mo_192 (c_Mo_isDigit l E _ _ a ad _ _ _ tx n p9 X.1 hT h21 (by omega)) rfl X.1.1 gc_Mo ⟨by first | decide | omega | (dsimp only; omega), by first | decide | omega | (dsimp only; omega)⟩ ⟨by first | decide | omega | (dsimp only; omega), by first | decide | omega | (dsimp only; omega)⟩ (Nat.le_of_ble_eq_true rfl) rfl d_Mo_isInteger_56 (fun r z9 H locs hp9 V1 => ?_)
            obtain ⟨rfl, he9⟩ := hp9
            rw [he9] at V1
            have V := V1
            rw [decide_eq_false hnd]
            refine W.eq (g2 := F0 m 59 ls [.int (gh_bi false)]) rfl ?_
            refine lv_if_eq (tgt := 147) hx hb d_Mo_isInteger_59 (by decide) (fun c76 => ?_) (fun c76 => absurd (by decide) c76)
            refine lv_aload_n hx hb d_Mo_isInteger_147 rfl (lv_at hl 1 rfl) ?_
            refine mo_getS (v := 1) C V X 27 (by decide) (by decide) (by first | rfl | exact hS27) f_Mo_206 rfl d_Mo_isInteger_148 ?_
            refine lv_if_eq (tgt := 173) hx hb d_Mo_isInteger_151 (by decide) (fun c77 => absurd c77 (by decide)) (fun c77 => ?_)
            refine lv_aload_n hx hb d_Mo_isInteger_154 rfl (lv_at hl 1 rfl) ?_
            refine lv_aload_n hx hb d_Mo_isInteger_155 rfl (lv_at hl 1 rfl) ?_
            refine lv_iconst (v := 3) hx hb d_Mo_isInteger_156 (by decide) ?_
            refine lv_iload_n hx hb d_Mo_isInteger_157 rfl (lv_at hl 2 rfl) ?_
            refine lv_if_eq (tgt := 165) hx hb d_Mo_isInteger_158 (by decide) (fun c78 => ?_) (fun c78 => absurd (by decide) c78)
            refine lv_lload_n hx hb d_Mo_isInteger_165 rfl (lv_at hl 0 rfl) ?_
            refine lv_lneg hx hb d_Mo_isInteger_166 ?_
            have h11b : S1 11 = nI nv := by first | exact h11c | (rw [va_up_n (by decide)]; exact h11c) | (rw [va_up_n (by decide), va_up_n (by decide)]; exact h11c)
            refine gh_callV C V hl.1 m_Mo_make l_Mo_159 (c_Mo_mk l E _ _ a ad _ _ _ 3 (-(Int64.ofInt zi)) nv X.1 h11b hnv) rfl X.1.1 gc_Mo ⟨by first | decide | omega | (dsimp only; omega), by first | decide | omega | (dsimp only; omega)⟩ ⟨by first | decide | omega | (dsimp only; omega), by first | decide | omega | (dsimp only; omega)⟩ (Nat.le_of_ble_eq_true rfl) rfl d_Mo_isInteger_167 (fun r z9 H locs hp9 V1 => ?_)
            obtain ⟨rfl, S3, I3, J3, X2, hmk⟩ := hp9
            have X := X.then X2
            have V := V1
            refine W.eq (g2 := F0 m 170 ls [.int (nI nv), .ref a]) rfl ?_
            refine mo_putS C V X 28 (by decide) (by decide) f_Mo_189 rfl rfl rfl d_Mo_isInteger_170 (fun f1 H locs V1 X1 => ?_)
            clear V X
            have V := V1
            have X := X1
            clear V1 X1
            refine lv_iconst (v := 1) hx hb d_Mo_isInteger_173 (by decide) ?_
            refine gh_retz hAe C V hr (by first | rfl | decide) hlocks d_Mo_isInteger_174 (by first | decide | omega | (dsimp only; omega)) (by first | decide | omega | (dsimp only; omega)) ?_
            have hrd9 : rd_i tx n true pl = (p9, some (Int64.ofInt (-zi))) := by
              rw [rd_i_p hng]
              unfold rd_j; rw [if_neg (fun z => z hdg), if_neg hz0, ← hrd]
              rfl
            rw [hrd9]
            refine ⟨rfl, _, _, _, X, ?_, ⟨fun z => (by cases z), fun _ X9 hz => ?_⟩⟩
            · rw [va_up_n (by decide), hmk.1, va_up_n (by decide)]; exact h21
            · have hz : vt_i (Int64.ofInt (-zi)) = X9 := by injection hz
              subst hz
              refine ⟨fun k a1 a2 a3 => ?_, fun k b1 b3 b4 b5 => funext (fun j => hmk.2.1 k j (Or.inl ⟨b1, b3, b4, b5⟩)), hmk.ma h29, nv + 1, nv, ⟨Nat.le_succ _, Nat.le_refl _, fun k v _ hv => ⟨hmk.2.1 k v (Or.inr (by omega)), hmk.2.2.2.1 k v (Or.inr (by omega))⟩⟩, by rw [va_up_n (by decide), hmk.1, va_up_s], va_up_s, ?_⟩
              · rw [va_up_n a3, hmk.1, va_up_n a1] <;> first | rfl | exact hS k a2 | (rw [va_up_n a2] <;> first | rfl | exact hS k a2) | (rw [va_up_n a2, va_up_n a2] <;> first | rfl | exact hS k a2)
              · first | exact hmk.int h29 hnv | (rw [ri_neg] at hmk; exact hmk.int h29 hnv) | (rw [hz0] at hmk; exact hmk.int h29 hnv)
          | succ m9 ih =>
            intro p9 zi S1 f1 H locs ls hm hp9 h21 hzi hrd hS X V hl
            have hT : rT tx n S1 I := hT0.keep (hS 20 (by decide)) rfl
            have hS21 := h21
            have hS27 : S1 27 = 1 := (hS 27 (by decide)).trans h27
            have hs9 := hsg p9
            have hls : rd_ls false = -9223372036854775807 := rfl
            have h11c : S1 11 = nI nv := (hS 11 (by decide)).trans h11
            by_cases hnd : 48 ≤ sg tx n p9 ∧ sg tx n p9 ≤ 57
            · have hpn9 := sg_lt (by omega : sg tx n p9 ≠ 0)
              have hcd : ((sg tx n p9 - 48 : Nat) : Int) = (sg tx n p9 : Int) - 48 := by omega
              by_cases hc1 : zi < -922337203685477580
              · refine lv_aload_n hx hb d_Mo_isInteger_55 rfl (lv_at hl 1 rfl) ?_
                refine gh_callV C V hl.1 m_Mo_isDigit l_Mo_192 (c_Mo_isDigit l E _ _ a ad _ _ _ tx n p9 X.1 hT h21 (by omega)) rfl X.1.1 gc_Mo ⟨by first | decide | omega | (dsimp only; omega), by first | decide | omega | (dsimp only; omega)⟩ ⟨by first | decide | omega | (dsimp only; omega), by first | decide | omega | (dsimp only; omega)⟩ (Nat.le_of_ble_eq_true rfl) rfl d_Mo_isInteger_56 (fun r z9 H locs hp9 V1 => ?_)
                obtain ⟨rfl, he9⟩ := hp9
                rw [he9] at V1
                have V := V1
                rw [decide_eq_true hnd]
                refine W.eq (g2 := F0 m 59 ls [.int (gh_bi true)]) rfl ?_
                refine lv_if_eq (tgt := 147) hx hb d_Mo_isInteger_59 (by decide) (fun c79 => absurd c79 (by decide)) (fun c79 => ?_)
                refine lv_aload_n hx hb d_Mo_isInteger_62 rfl (lv_at hl 1 rfl) ?_
                refine gh_callV C V hl.1 m_Mo_peek l_Mo_185 (c_Mo_pk l E _ _ a ad _ _ _ tx n p9 X.1 hT h21 (by omega)) rfl X.1.1 gc_Mo ⟨by first | decide | omega | (dsimp only; omega), by first | decide | omega | (dsimp only; omega)⟩ ⟨by first | decide | omega | (dsimp only; omega), by first | decide | omega | (dsimp only; omega)⟩ (Nat.le_of_ble_eq_true rfl) rfl d_Mo_isInteger_63 (fun r z9 H locs hp9 V1 => ?_)
                obtain ⟨rfl, he9⟩ := hp9
                rw [he9] at V1
                have V := V1
                refine W.eq (g2 := F0 m 66 ls [.int (pek (sg tx n p9))]) rfl ?_
                refine lv_i2l hx hb d_Mo_isInteger_66 rfl ?_
                refine lv_ldc2 (v := 48) hx hb C.2.2.2.1 (C.2.2.2.2.1 _ kl_Mo_196) d_Mo_isInteger_67 ?_
                refine lv_lsub hx hb d_Mo_isInteger_70 ?_
                rw [ri_d (c := sg tx n (p9)) (by omega) (by omega)]
                refine lv_lstore hx hb d_Mo_isInteger_71 hl (by decide) rfl (fun ls hl => ?_)
                have hl : lv_has ls 9 [(5, .long (lN (sg tx n (p9) - 48))), (3, .long (Int64.ofInt zi)), (0, .ref a), (1, .int 0), (2, .int 0)] := hl
                refine lv_iload_n hx hb d_Mo_isInteger_73 rfl (lv_at hl 3 rfl) ?_
                refine lv_if_eq (tgt := 83) hx hb d_Mo_isInteger_74 (by decide) (fun c80 => ?_) (fun c80 => absurd (by decide) c80)
                refine lv_ldc2 (v := (-9223372036854775807)) hx hb C.2.2.2.1 (C.2.2.2.2.1 _ kl_Mo_200) d_Mo_isInteger_83 ?_
                refine lv_lstore hx hb d_Mo_isInteger_86 hl (by decide) rfl (fun ls hl => ?_)
                have hl : lv_has ls 9 [(7, .long ((-9223372036854775807))), (5, .long (lN (sg tx n (p9) - 48))), (3, .long (Int64.ofInt zi)), (0, .ref a), (1, .int 0), (2, .int 0)] := hl
                have hl : lv_has ls 9 [(7, .long (rd_lL false)), (5, .long (lN (sg tx n (p9) - 48))), (3, .long (Int64.ofInt zi)), (0, .ref a), (1, .int 0), (2, .int 0)] := hl
                refine lv_lload_n hx hb d_Mo_isInteger_88 rfl (lv_at hl 2 rfl) ?_
                refine lv_ldc2 (v := (-922337203685477580)) hx hb C.2.2.2.1 (C.2.2.2.2.1 _ kl_Mo_202) d_Mo_isInteger_89 ?_
                refine W.lcmp hx hb d_Mo_isInteger_92 ?_
                refine lv_if_lt (tgt := 110) hx hb d_Mo_isInteger_93 (by decide) (fun c81 => ?_) (fun c81 => absurd ((ri_c1 (by omega) (by omega)).mpr hc1) c81)
                refine lv_iconst (v := 0) hx hb d_Mo_isInteger_110 (by decide) ?_
                refine gh_retz hAe C V hr (by first | rfl | decide) hlocks d_Mo_isInteger_111 (by first | decide | omega | (dsimp only; omega)) (by first | decide | omega | (dsimp only; omega)) ?_
                have hrd9 : rd_i tx n true pl = (p9, none) := by
                  rw [rd_i_p hng]
                  unfold rd_j; rw [if_neg (fun z => z hdg), if_neg hz0, ← hrd]
                  rw [rd_d_o, if_pos hnd, if_pos (by omega)]
                rw [hrd9]
                exact ⟨rfl, _, _, _, X, h21, ⟨fun z => (by cases z), fun _ X9 hz => (by cases hz)⟩⟩
              · have hi2 := ri_c2 (z := zi) (neg := false) (d := sg tx n p9 - 48) (by omega) (by omega) (by omega)
                rw [hcd] at hi2
                by_cases hc2 : 10 * zi < rd_ls false + ((sg tx n p9 : Int) - 48)
                · refine lv_aload_n hx hb d_Mo_isInteger_55 rfl (lv_at hl 1 rfl) ?_
                  refine gh_callV C V hl.1 m_Mo_isDigit l_Mo_192 (c_Mo_isDigit l E _ _ a ad _ _ _ tx n p9 X.1 hT h21 (by omega)) rfl X.1.1 gc_Mo ⟨by first | decide | omega | (dsimp only; omega), by first | decide | omega | (dsimp only; omega)⟩ ⟨by first | decide | omega | (dsimp only; omega), by first | decide | omega | (dsimp only; omega)⟩ (Nat.le_of_ble_eq_true rfl) rfl d_Mo_isInteger_56 (fun r z9 H locs hp9 V1 => ?_)
                  obtain ⟨rfl, he9⟩ := hp9
                  rw [he9] at V1
                  have V := V1
                  rw [decide_eq_true hnd]
                  refine W.eq (g2 := F0 m 59 ls [.int (gh_bi true)]) rfl ?_
                  refine lv_if_eq (tgt := 147) hx hb d_Mo_isInteger_59 (by decide) (fun c82 => absurd c82 (by decide)) (fun c82 => ?_)
                  refine lv_aload_n hx hb d_Mo_isInteger_62 rfl (lv_at hl 1 rfl) ?_
                  refine gh_callV C V hl.1 m_Mo_peek l_Mo_185 (c_Mo_pk l E _ _ a ad _ _ _ tx n p9 X.1 hT h21 (by omega)) rfl X.1.1 gc_Mo ⟨by first | decide | omega | (dsimp only; omega), by first | decide | omega | (dsimp only; omega)⟩ ⟨by first | decide | omega | (dsimp only; omega), by first | decide | omega | (dsimp only; omega)⟩ (Nat.le_of_ble_eq_true rfl) rfl d_Mo_isInteger_63 (fun r z9 H locs hp9 V1 => ?_)
                  obtain ⟨rfl, he9⟩ := hp9
                  rw [he9] at V1
                  have V := V1
                  refine W.eq (g2 := F0 m 66 ls [.int (pek (sg tx n p9))]) rfl ?_
                  refine lv_i2l hx hb d_Mo_isInteger_66 rfl ?_
                  refine lv_ldc2 (v := 48) hx hb C.2.2.2.1 (C.2.2.2.2.1 _ kl_Mo_196) d_Mo_isInteger_67 ?_
                  refine lv_lsub hx hb d_Mo_isInteger_70 ?_
                  rw [ri_d (c := sg tx n (p9)) (by omega) (by omega)]
                  refine lv_lstore hx hb d_Mo_isInteger_71 hl (by decide) rfl (fun ls hl => ?_)
                  have hl : lv_has ls 9 [(5, .long (lN (sg tx n (p9) - 48))), (3, .long (Int64.ofInt zi)), (0, .ref a), (1, .int 0), (2, .int 0)] := hl
                  refine lv_iload_n hx hb d_Mo_isInteger_73 rfl (lv_at hl 3 rfl) ?_
                  refine lv_if_eq (tgt := 83) hx hb d_Mo_isInteger_74 (by decide) (fun c83 => ?_) (fun c83 => absurd (by decide) c83)
                  refine lv_ldc2 (v := (-9223372036854775807)) hx hb C.2.2.2.1 (C.2.2.2.2.1 _ kl_Mo_200) d_Mo_isInteger_83 ?_
                  refine lv_lstore hx hb d_Mo_isInteger_86 hl (by decide) rfl (fun ls hl => ?_)
                  have hl : lv_has ls 9 [(7, .long ((-9223372036854775807))), (5, .long (lN (sg tx n (p9) - 48))), (3, .long (Int64.ofInt zi)), (0, .ref a), (1, .int 0), (2, .int 0)] := hl
                  have hl : lv_has ls 9 [(7, .long (rd_lL false)), (5, .long (lN (sg tx n (p9) - 48))), (3, .long (Int64.ofInt zi)), (0, .ref a), (1, .int 0), (2, .int 0)] := hl
                  refine lv_lload_n hx hb d_Mo_isInteger_88 rfl (lv_at hl 2 rfl) ?_
                  refine lv_ldc2 (v := (-922337203685477580)) hx hb C.2.2.2.1 (C.2.2.2.2.1 _ kl_Mo_202) d_Mo_isInteger_89 ?_
                  refine W.lcmp hx hb d_Mo_isInteger_92 ?_
                  refine lv_if_lt (tgt := 110) hx hb d_Mo_isInteger_93 (by decide) (fun c84 => absurd c84 (fun z => hc1 ((ri_c1 (by omega) (by omega)).mp z))) (fun c84 => ?_)
                  refine lv_ldc2 (v := 10) hx hb C.2.2.2.1 (C.2.2.2.2.1 _ kl_Mo_204) d_Mo_isInteger_96 ?_
                  refine lv_lload_n hx hb d_Mo_isInteger_99 rfl (lv_at hl 2 rfl) ?_
                  refine lv_lmul hx hb d_Mo_isInteger_100 ?_
                  refine lv_lload hx hb d_Mo_isInteger_101 (lv_at hl 0 rfl) ?_
                  refine lv_lload hx hb d_Mo_isInteger_103 (lv_at hl 1 rfl) ?_
                  refine lv_ladd hx hb d_Mo_isInteger_105 ?_
                  refine W.lcmp hx hb d_Mo_isInteger_106 ?_
                  refine lv_if_ge (tgt := 112) hx hb d_Mo_isInteger_107 (by decide) (fun c85 => absurd c85 (fun z => absurd (hi2.mpr hc2) (lg_ge0 z))) (fun c85 => ?_)
                  refine lv_iconst (v := 0) hx hb d_Mo_isInteger_110 (by decide) ?_
                  refine gh_retz hAe C V hr (by first | rfl | decide) hlocks d_Mo_isInteger_111 (by first | decide | omega | (dsimp only; omega)) (by first | decide | omega | (dsimp only; omega)) ?_
                  have hrd9 : rd_i tx n true pl = (p9, none) := by
                    rw [rd_i_p hng]
                    unfold rd_j; rw [if_neg (fun z => z hdg), if_neg hz0, ← hrd]
                    rw [rd_d_o, if_pos hnd, if_pos (by omega)]
                  rw [hrd9]
                  exact ⟨rfl, _, _, _, X, h21, ⟨fun z => (by cases z), fun _ X9 hz => (by cases hz)⟩⟩
                · refine lv_aload_n hx hb d_Mo_isInteger_55 rfl (lv_at hl 1 rfl) ?_
                  refine gh_callV C V hl.1 m_Mo_isDigit l_Mo_192 (c_Mo_isDigit l E _ _ a ad _ _ _ tx n p9 X.1 hT h21 (by omega)) rfl X.1.1 gc_Mo ⟨by first | decide | omega | (dsimp only; omega), by first | decide | omega | (dsimp only; omega)⟩ ⟨by first | decide | omega | (dsimp only; omega), by first | decide | omega | (dsimp only; omega)⟩ (Nat.le_of_ble_eq_true rfl) rfl d_Mo_isInteger_56 (fun r z9 H locs hp9 V1 => ?_)
                  obtain ⟨rfl, he9⟩ := hp9
                  rw [he9] at V1
                  have V := V1
                  rw [decide_eq_true hnd]
                  refine W.eq (g2 := F0 m 59 ls [.int (gh_bi true)]) rfl ?_
                  refine lv_if_eq (tgt := 147) hx hb d_Mo_isInteger_59 (by decide) (fun c86 => absurd c86 (by decide)) (fun c86 => ?_)
                  refine lv_aload_n hx hb d_Mo_isInteger_62 rfl (lv_at hl 1 rfl) ?_
                  refine gh_callV C V hl.1 m_Mo_peek l_Mo_185 (c_Mo_pk l E _ _ a ad _ _ _ tx n p9 X.1 hT h21 (by omega)) rfl X.1.1 gc_Mo ⟨by first | decide | omega | (dsimp only; omega), by first | decide | omega | (dsimp only; omega)⟩ ⟨by first | decide | omega | (dsimp only; omega), by first | decide | omega | (dsimp only; omega)⟩ (Nat.le_of_ble_eq_true rfl) rfl d_Mo_isInteger_63 (fun r z9 H locs hp9 V1 => ?_)
                  obtain ⟨rfl, he9⟩ := hp9
                  rw [he9] at V1
                  have V := V1
                  refine W.eq (g2 := F0 m 66 ls [.int (pek (sg tx n p9))]) rfl ?_
                  refine lv_i2l hx hb d_Mo_isInteger_66 rfl ?_
                  refine lv_ldc2 (v := 48) hx hb C.2.2.2.1 (C.2.2.2.2.1 _ kl_Mo_196) d_Mo_isInteger_67 ?_
                  refine lv_lsub hx hb d_Mo_isInteger_70 ?_
                  rw [ri_d (c := sg tx n (p9)) (by omega) (by omega)]
                  refine lv_lstore hx hb d_Mo_isInteger_71 hl (by decide) rfl (fun ls hl => ?_)
                  have hl : lv_has ls 9 [(5, .long (lN (sg tx n (p9) - 48))), (3, .long (Int64.ofInt zi)), (0, .ref a), (1, .int 0), (2, .int 0)] := hl
                  refine lv_iload_n hx hb d_Mo_isInteger_73 rfl (lv_at hl 3 rfl) ?_
                  refine lv_if_eq (tgt := 83) hx hb d_Mo_isInteger_74 (by decide) (fun c87 => ?_) (fun c87 => absurd (by decide) c87)
                  refine lv_ldc2 (v := (-9223372036854775807)) hx hb C.2.2.2.1 (C.2.2.2.2.1 _ kl_Mo_200) d_Mo_isInteger_83 ?_
                  refine lv_lstore hx hb d_Mo_isInteger_86 hl (by decide) rfl (fun ls hl => ?_)
                  have hl : lv_has ls 9 [(7, .long ((-9223372036854775807))), (5, .long (lN (sg tx n (p9) - 48))), (3, .long (Int64.ofInt zi)), (0, .ref a), (1, .int 0), (2, .int 0)] := hl
                  have hl : lv_has ls 9 [(7, .long (rd_lL false)), (5, .long (lN (sg tx n (p9) - 48))), (3, .long (Int64.ofInt zi)), (0, .ref a), (1, .int 0), (2, .int 0)] := hl
                  refine lv_lload_n hx hb d_Mo_isInteger_88 rfl (lv_at hl 2 rfl) ?_
                  refine lv_ldc2 (v := (-922337203685477580)) hx hb C.2.2.2.1 (C.2.2.2.2.1 _ kl_Mo_202) d_Mo_isInteger_89 ?_
                  refine W.lcmp hx hb d_Mo_isInteger_92 ?_
                  refine lv_if_lt (tgt := 110) hx hb d_Mo_isInteger_93 (by decide) (fun c88 => absurd c88 (fun z => hc1 ((ri_c1 (by omega) (by omega)).mp z))) (fun c88 => ?_)
                  refine lv_ldc2 (v := 10) hx hb C.2.2.2.1 (C.2.2.2.2.1 _ kl_Mo_204) d_Mo_isInteger_96 ?_
                  refine lv_lload_n hx hb d_Mo_isInteger_99 rfl (lv_at hl 2 rfl) ?_
                  refine lv_lmul hx hb d_Mo_isInteger_100 ?_
                  refine lv_lload hx hb d_Mo_isInteger_101 (lv_at hl 0 rfl) ?_
                  refine lv_lload hx hb d_Mo_isInteger_103 (lv_at hl 1 rfl) ?_
                  refine lv_ladd hx hb d_Mo_isInteger_105 ?_
                  refine W.lcmp hx hb d_Mo_isInteger_106 ?_
                  refine lv_if_ge (tgt := 112) hx hb d_Mo_isInteger_107 (by decide) (fun c89 => ?_) (fun c89 => absurd (Int32.not_lt.mp (fun z => hc2 (hi2.mp z))) c89)
                  refine lv_ldc2 (v := 10) hx hb C.2.2.2.1 (C.2.2.2.2.1 _ kl_Mo_204) d_Mo_isInteger_112 ?_
                  refine lv_lload_n hx hb d_Mo_isInteger_115 rfl (lv_at hl 2 rfl) ?_
                  refine lv_lmul hx hb d_Mo_isInteger_116 ?_
                  refine lv_lload hx hb d_Mo_isInteger_117 (lv_at hl 1 rfl) ?_
                  refine lv_lsub hx hb d_Mo_isInteger_119 ?_
                  rw [ri_n]
                  refine lv_lstore_n hx hb d_Mo_isInteger_120 rfl hl (by decide) rfl (fun ls hl => ?_)
                  have hl : lv_has ls 9 [(3, .long (Int64.ofInt (10 * zi - ((sg tx n (p9) - 48 : Nat) : Int)))), (7, .long (rd_lL false)), (5, .long (lN (sg tx n (p9) - 48))), (0, .ref a), (1, .int 0), (2, .int 0)] := hl
                  refine lv_aload_n hx hb d_Mo_isInteger_121 rfl (lv_at hl 3 rfl) ?_
                  refine lv_dup hx hb d_Mo_isInteger_122 rfl ?_
                  refine mo_getS (v := nI p9) C V X 21 (by decide) (by decide) (by first | rfl | exact hS21) f_Mo_179 rfl d_Mo_isInteger_123 ?_
                  refine lv_iconst (v := 1) hx hb d_Mo_isInteger_126 (by decide) ?_
                  refine gn_iadd (a := p9) (b := 1) hx hb d_Mo_isInteger_127 ?_
                  refine mo_putS C V X 21 (by decide) (by decide) f_Mo_179 rfl rfl rfl d_Mo_isInteger_128 (fun f1 H locs V1 X1 => ?_)
                  clear V X
                  have V := V1
                  have X := X1
                  clear V1 X1
                  have h21 : (va_up S1 21 (nI (p9 + 1))) 21 = nI (p9 + 1) := va_up_s
                  have hS21 := h21
                  have hT : rT tx n (va_up S1 21 (nI (p9 + 1))) I := hT.keep (va_up_n (by decide)) rfl
                  refine lv_iload_n hx hb d_Mo_isInteger_131 rfl (lv_at hl 5 rfl) ?_
                  refine lv_if_eq (tgt := 144) hx hb d_Mo_isInteger_132 (by decide) (fun c90 => ?_) (fun c90 => absurd (by decide) c90)
                  refine lv_goto (tgt := 55) hx hb d_Mo_isInteger_144 (by decide) ?_
                  have hl : lv_has ls 9 [(3, .long (Int64.ofInt (10 * zi - ((sg tx n (p9) - 48 : Nat) : Int)))), (0, .ref a), (1, .int 0), (2, .int 0)] := lv_sub hl [0, 3, 4, 5] rfl
                  rw [hcd] at hl
                  exact ih (p9 + 1) _ _ _ _ _ ls (by omega) (by omega) h21 ⟨by omega, by omega⟩ (by rw [← hrd, rd_d_o, if_pos hnd, if_neg hc2]) (fun k a1 => by rw [va_up_n a1]; exact hS k a1) X V hl
            · refine lv_aload_n hx hb d_Mo_isInteger_55 rfl (lv_at hl 1 rfl) ?_
              refine gh_callV C V hl.1 m_Mo_isDigit l_Mo_192 (c_Mo_isDigit l E _ _ a ad _ _ _ tx n p9 X.1 hT h21 (by omega)) rfl X.1.1 gc_Mo ⟨by first | decide | omega | (dsimp only; omega), by first | decide | omega | (dsimp only; omega)⟩ ⟨by first | decide | omega | (dsimp only; omega), by first | decide | omega | (dsimp only; omega)⟩ (Nat.le_of_ble_eq_true rfl) rfl d_Mo_isInteger_56 (fun r z9 H locs hp9 V1 => ?_)
              obtain ⟨rfl, he9⟩ := hp9
              rw [he9] at V1
              have V := V1
              rw [decide_eq_false hnd]
              refine W.eq (g2 := F0 m 59 ls [.int (gh_bi false)]) rfl ?_
              refine lv_if_eq (tgt := 147) hx hb d_Mo_isInteger_59 (by decide) (fun c91 => ?_) (fun c91 => absurd (by decide) c91)
              refine lv_aload_n hx hb d_Mo_isInteger_147 rfl (lv_at hl 1 rfl) ?_
              refine mo_getS (v := 1) C V X 27 (by decide) (by decide) (by first | rfl | exact hS27) f_Mo_206 rfl d_Mo_isInteger_148 ?_
              refine lv_if_eq (tgt := 173) hx hb d_Mo_isInteger_151 (by decide) (fun c92 => absurd c92 (by decide)) (fun c92 => ?_)
              refine lv_aload_n hx hb d_Mo_isInteger_154 rfl (lv_at hl 1 rfl) ?_
              refine lv_aload_n hx hb d_Mo_isInteger_155 rfl (lv_at hl 1 rfl) ?_
              refine lv_iconst (v := 3) hx hb d_Mo_isInteger_156 (by decide) ?_
              refine lv_iload_n hx hb d_Mo_isInteger_157 rfl (lv_at hl 2 rfl) ?_
              refine lv_if_eq (tgt := 165) hx hb d_Mo_isInteger_158 (by decide) (fun c93 => ?_) (fun c93 => absurd (by decide) c93)
              refine lv_lload_n hx hb d_Mo_isInteger_165 rfl (lv_at hl 0 rfl) ?_
              refine lv_lneg hx hb d_Mo_isInteger_166 ?_
              have h11b : S1 11 = nI nv := by first | exact h11c | (rw [va_up_n (by decide)]; exact h11c) | (rw [va_up_n (by decide), va_up_n (by decide)]; exact h11c)
              refine gh_callV C V hl.1 m_Mo_make l_Mo_159 (c_Mo_mk l E _ _ a ad _ _ _ 3 (-(Int64.ofInt zi)) nv X.1 h11b hnv) rfl X.1.1 gc_Mo ⟨by first | decide | omega | (dsimp only; omega), by first | decide | omega | (dsimp only; omega)⟩ ⟨by first | decide | omega | (dsimp only; omega), by first | decide | omega | (dsimp only; omega)⟩ (Nat.le_of_ble_eq_true rfl) rfl d_Mo_isInteger_167 (fun r z9 H locs hp9 V1 => ?_)
              obtain ⟨rfl, S3, I3, J3, X2, hmk⟩ := hp9
              have X := X.then X2
              have V := V1
              refine W.eq (g2 := F0 m 170 ls [.int (nI nv), .ref a]) rfl ?_
              refine mo_putS C V X 28 (by decide) (by decide) f_Mo_189 rfl rfl rfl d_Mo_isInteger_170 (fun f1 H locs V1 X1 => ?_)
              clear V X
              have V := V1
              have X := X1
              clear V1 X1
              refine lv_iconst (v := 1) hx hb d_Mo_isInteger_173 (by decide) ?_
              refine gh_retz hAe C V hr (by first | rfl | decide) hlocks d_Mo_isInteger_174 (by first | decide | omega | (dsimp only; omega)) (by first | decide | omega | (dsimp only; omega)) ?_
              have hrd9 : rd_i tx n true pl = (p9, some (Int64.ofInt (-zi))) := by
                rw [rd_i_p hng]
                unfold rd_j; rw [if_neg (fun z => z hdg), if_neg hz0, ← hrd]
                rw [rd_d_o, if_neg hnd]
                rfl
              rw [hrd9]
              refine ⟨rfl, _, _, _, X, ?_, ⟨fun z => (by cases z), fun _ X9 hz => ?_⟩⟩
              · rw [va_up_n (by decide), hmk.1, va_up_n (by decide)]; exact h21
              · have hz : vt_i (Int64.ofInt (-zi)) = X9 := by injection hz
                subst hz
                refine ⟨fun k a1 a2 a3 => ?_, fun k b1 b3 b4 b5 => funext (fun j => hmk.2.1 k j (Or.inl ⟨b1, b3, b4, b5⟩)), hmk.ma h29, nv + 1, nv, ⟨Nat.le_succ _, Nat.le_refl _, fun k v _ hv => ⟨hmk.2.1 k v (Or.inr (by omega)), hmk.2.2.2.1 k v (Or.inr (by omega))⟩⟩, by rw [va_up_n (by decide), hmk.1, va_up_s], va_up_s, ?_⟩
                · rw [va_up_n a3, hmk.1, va_up_n a1] <;> first | rfl | exact hS k a2 | (rw [va_up_n a2] <;> first | rfl | exact hS k a2) | (rw [va_up_n a2, va_up_n a2] <;> first | rfl | exact hS k a2)
                · first | exact hmk.int h29 hnv | (rw [ri_neg] at hmk; exact hmk.int h29 hnv) | (rw [hz0] at hmk; exact hmk.int h29 hnv)
        exact loop n (pl) 0 _ _ _ _ ls (by omega) (by omega) h21 ⟨by decide, Int.le_refl 0⟩ rfl (fun k a1 => by first | rfl | exact va_up_n a1) X V hl
    · refine lv_aload_n hx hb d_Mo_isInteger_0 rfl (lv_at hl 0 rfl) ?_
      refine gh_callV C V hl.1 m_Mo_peek l_Mo_185 (c_Mo_pk l E _ _ a ad _ _ _ tx n pl X.1 hT h21 (by omega)) rfl X.1.1 gc_Mo ⟨by first | decide | omega | (dsimp only; omega), by first | decide | omega | (dsimp only; omega)⟩ ⟨by first | decide | omega | (dsimp only; omega), by first | decide | omega | (dsimp only; omega)⟩ (Nat.le_of_ble_eq_true rfl) rfl d_Mo_isInteger_1 (fun r z9 H locs hp9 V1 => ?_)
      obtain ⟨rfl, he9⟩ := hp9
      rw [he9] at V1
      have V := V1
      refine W.eq (g2 := F0 m 4 ls [.int (pek (sg tx n pl))]) rfl ?_
      refine lv_bipush (v := 45) hx hb d_Mo_isInteger_4 (by decide) ?_
      refine lv_icmp_ne (tgt := 13) hx hb d_Mo_isInteger_6 (by decide) (fun c94 => ?_) (fun c94 => absurd c94 (fun z => hng ((pek_eq (k := 45) (by omega) (by omega) (by omega)).mp z)))
      refine lv_iconst (v := 0) hx hb d_Mo_isInteger_13 (by decide) ?_
      refine lv_istore_n hx hb d_Mo_isInteger_14 rfl hl (by decide) rfl (fun ls hl => ?_)
      have hl : lv_has ls 9 [(1, .int 0), (0, .ref a)] := hl
      refine lv_iload_n hx hb d_Mo_isInteger_15 rfl (lv_at hl 0 rfl) ?_
      refine lv_if_eq (tgt := 29) hx hb d_Mo_isInteger_16 (by decide) (fun c95 => ?_) (fun c95 => absurd (by decide) c95)
      refine lv_aload_n hx hb d_Mo_isInteger_29 rfl (lv_at hl 1 rfl) ?_
      refine gh_callV C V hl.1 m_Mo_isDigit l_Mo_192 (c_Mo_isDigit l E _ _ a ad _ _ _ tx n pl X.1 hT h21 (by omega)) rfl X.1.1 gc_Mo ⟨by first | decide | omega | (dsimp only; omega), by first | decide | omega | (dsimp only; omega)⟩ ⟨by first | decide | omega | (dsimp only; omega), by first | decide | omega | (dsimp only; omega)⟩ (Nat.le_of_ble_eq_true rfl) rfl d_Mo_isInteger_30 (fun r z9 H locs hp9 V1 => ?_)
      obtain ⟨rfl, he9⟩ := hp9
      rw [he9] at V1
      have V := V1
      rw [decide_eq_false hdg]
      refine W.eq (g2 := F0 m 33 ls [.int (gh_bi false)]) rfl ?_
      refine lv_if_ne (tgt := 38) hx hb d_Mo_isInteger_33 (by decide) (fun c96 => absurd (by decide) c96) (fun c96 => ?_)
      refine lv_iconst (v := 0) hx hb d_Mo_isInteger_36 (by decide) ?_
      refine gh_retz hAe C V hr (by first | rfl | decide) hlocks d_Mo_isInteger_37 (by first | decide | omega | (dsimp only; omega)) (by first | decide | omega | (dsimp only; omega)) ?_
      have hrd9 : rd_i tx n true pl = (pl, none) := by
        rw [rd_i_p hng]
        unfold rd_j; rw [if_pos hdg]
      rw [hrd9]
      exact ⟨rfl, _, _, _, X, h21, ⟨fun z => (by cases z), fun _ X9 hz => (by cases hz)⟩⟩
