/-! writeInteger of the model. Printed by wip/whole/gen_mo31.py. -/
theorem d_Mo_writeInteger_0 : decode b_Mo_writeInteger 0 = .ok (.lload_n 1, 1) := by decide +kernel
theorem d_Mo_writeInteger_1 : decode b_Mo_writeInteger 1 = .ok (.lconst 0, 1) := by decide +kernel
theorem d_Mo_writeInteger_2 : decode b_Mo_writeInteger 2 = .ok (.lcmp, 1) := by decide +kernel
theorem d_Mo_writeInteger_3 : decode b_Mo_writeInteger 3 = .ok (.ifCond .ge 9, 3) := by decide +kernel
theorem d_Mo_writeInteger_6 : decode b_Mo_writeInteger 6 = .ok (.aload_n 0, 1) := by decide +kernel
theorem d_Mo_writeInteger_7 : decode b_Mo_writeInteger 7 = .ok (.bipush 45, 2) := by decide +kernel
theorem d_Mo_writeInteger_9 : decode b_Mo_writeInteger 9 = .ok (.invokevirtual 388, 3) := by decide +kernel
theorem d_Mo_writeInteger_12 : decode b_Mo_writeInteger 12 = .ok (.iconst 0, 1) := by decide +kernel
theorem d_Mo_writeInteger_13 : decode b_Mo_writeInteger 13 = .ok (.istore_n 3, 1) := by decide +kernel
theorem d_Mo_writeInteger_14 : decode b_Mo_writeInteger 14 = .ok (.ldc2_w 391, 3) := by decide +kernel
theorem d_Mo_writeInteger_17 : decode b_Mo_writeInteger 17 = .ok (.lstore 4, 2) := by decide +kernel
theorem d_Mo_writeInteger_19 : decode b_Mo_writeInteger 19 = .ok (.lload 4, 2) := by decide +kernel
theorem d_Mo_writeInteger_21 : decode b_Mo_writeInteger 21 = .ok (.lconst 0, 1) := by decide +kernel
theorem d_Mo_writeInteger_22 : decode b_Mo_writeInteger 22 = .ok (.lcmp, 1) := by decide +kernel
theorem d_Mo_writeInteger_23 : decode b_Mo_writeInteger 23 = .ok (.ifCond .le 75, 3) := by decide +kernel
theorem d_Mo_writeInteger_26 : decode b_Mo_writeInteger 26 = .ok (.lload_n 1, 1) := by decide +kernel
theorem d_Mo_writeInteger_27 : decode b_Mo_writeInteger 27 = .ok (.lload 4, 2) := by decide +kernel
theorem d_Mo_writeInteger_29 : decode b_Mo_writeInteger 29 = .ok (.ldiv, 1) := by decide +kernel
theorem d_Mo_writeInteger_30 : decode b_Mo_writeInteger 30 = .ok (.ldc2_w 204, 3) := by decide +kernel
theorem d_Mo_writeInteger_33 : decode b_Mo_writeInteger 33 = .ok (.lrem, 1) := by decide +kernel
theorem d_Mo_writeInteger_34 : decode b_Mo_writeInteger 34 = .ok (.lstore 6, 2) := by decide +kernel
theorem d_Mo_writeInteger_36 : decode b_Mo_writeInteger 36 = .ok (.iload_n 3, 1) := by decide +kernel
theorem d_Mo_writeInteger_37 : decode b_Mo_writeInteger 37 = .ok (.ifCond .ne 17, 3) := by decide +kernel
theorem d_Mo_writeInteger_40 : decode b_Mo_writeInteger 40 = .ok (.lload 6, 2) := by decide +kernel
theorem d_Mo_writeInteger_42 : decode b_Mo_writeInteger 42 = .ok (.lconst 0, 1) := by decide +kernel
theorem d_Mo_writeInteger_43 : decode b_Mo_writeInteger 43 = .ok (.lcmp, 1) := by decide +kernel
theorem d_Mo_writeInteger_44 : decode b_Mo_writeInteger 44 = .ok (.ifCond .ne 10, 3) := by decide +kernel
theorem d_Mo_writeInteger_47 : decode b_Mo_writeInteger 47 = .ok (.lload 4, 2) := by decide +kernel
theorem d_Mo_writeInteger_49 : decode b_Mo_writeInteger 49 = .ok (.lconst 1, 1) := by decide +kernel
theorem d_Mo_writeInteger_50 : decode b_Mo_writeInteger 50 = .ok (.lcmp, 1) := by decide +kernel
theorem d_Mo_writeInteger_51 : decode b_Mo_writeInteger 51 = .ok (.ifCond .ne 7, 3) := by decide +kernel
theorem d_Mo_writeInteger_54 : decode b_Mo_writeInteger 54 = .ok (.iconst 1, 1) := by decide +kernel
theorem d_Mo_writeInteger_55 : decode b_Mo_writeInteger 55 = .ok (.goto 4, 3) := by decide +kernel
theorem d_Mo_writeInteger_58 : decode b_Mo_writeInteger 58 = .ok (.iconst 0, 1) := by decide +kernel
theorem d_Mo_writeInteger_59 : decode b_Mo_writeInteger 59 = .ok (.istore_n 3, 1) := by decide +kernel
theorem d_Mo_writeInteger_60 : decode b_Mo_writeInteger 60 = .ok (.iload_n 3, 1) := by decide +kernel
theorem d_Mo_writeInteger_61 : decode b_Mo_writeInteger 61 = .ok (.ifCond .eq 26, 3) := by decide +kernel
theorem d_Mo_writeInteger_64 : decode b_Mo_writeInteger 64 = .ok (.aload_n 0, 1) := by decide +kernel
theorem d_Mo_writeInteger_65 : decode b_Mo_writeInteger 65 = .ok (.lload 6, 2) := by decide +kernel
theorem d_Mo_writeInteger_67 : decode b_Mo_writeInteger 67 = .ok (.lconst 0, 1) := by decide +kernel
theorem d_Mo_writeInteger_68 : decode b_Mo_writeInteger 68 = .ok (.lcmp, 1) := by decide +kernel
theorem d_Mo_writeInteger_69 : decode b_Mo_writeInteger 69 = .ok (.ifCond .ge 9, 3) := by decide +kernel
theorem d_Mo_writeInteger_72 : decode b_Mo_writeInteger 72 = .ok (.lload 6, 2) := by decide +kernel
theorem d_Mo_writeInteger_74 : decode b_Mo_writeInteger 74 = .ok (.lneg, 1) := by decide +kernel
theorem d_Mo_writeInteger_75 : decode b_Mo_writeInteger 75 = .ok (.goto 5, 3) := by decide +kernel
theorem d_Mo_writeInteger_78 : decode b_Mo_writeInteger 78 = .ok (.lload 6, 2) := by decide +kernel
theorem d_Mo_writeInteger_80 : decode b_Mo_writeInteger 80 = .ok (.l2i, 1) := by decide +kernel
theorem d_Mo_writeInteger_81 : decode b_Mo_writeInteger 81 = .ok (.bipush 48, 2) := by decide +kernel
theorem d_Mo_writeInteger_83 : decode b_Mo_writeInteger 83 = .ok (.iadd, 1) := by decide +kernel
theorem d_Mo_writeInteger_84 : decode b_Mo_writeInteger 84 = .ok (.invokevirtual 388, 3) := by decide +kernel
theorem d_Mo_writeInteger_87 : decode b_Mo_writeInteger 87 = .ok (.lload 4, 2) := by decide +kernel
theorem d_Mo_writeInteger_89 : decode b_Mo_writeInteger 89 = .ok (.ldc2_w 204, 3) := by decide +kernel
theorem d_Mo_writeInteger_92 : decode b_Mo_writeInteger 92 = .ok (.ldiv, 1) := by decide +kernel
theorem d_Mo_writeInteger_93 : decode b_Mo_writeInteger 93 = .ok (.lstore 4, 2) := by decide +kernel
theorem d_Mo_writeInteger_95 : decode b_Mo_writeInteger 95 = .ok (.goto (-76), 3) := by decide +kernel
theorem d_Mo_writeInteger_98 : decode b_Mo_writeInteger 98 = .ok (.return_, 1) := by decide +kernel
set_option maxHeartbeats 4000000 in
set_option maxRecDepth 100000 in
theorem c_Mo_writeInteger (l : Launch) (E : gh_E) (sz : Nat) (f : gh_F) (a : Nat) (ad : Nat → Nat) (S : Nat → Int32) (I : Nat → Nat → Int32) (J : Nat → Nat → Int64) (x : Int64) (n : Nat) (hX : mo_R E f a ad S I J) (h55 : S 55 = nI n) : gh_M l y_Mo_writeInteger b_Mo_writeInteger 8 none E sz [.ref a, .long x] f { frames := 6, cells := 0, slots := 0, locals := 140 } (fun r g => r = none ∧ ∃ S2, mo_X E f g a ad S2 I J ∧ wQ n S (wr_i x) S2) := by
  have hq : wQ n S [] S := wQ.nil h55
  refine gh_open (by decide) (Nat.le_of_ble_eq_true rfl) ?_
  intro p e s m args below meth c A ls hAe C V hr hlocks hname hl
  have hx := C.1
  have hb := C.2.1
  have hl : lv_has ls 8 [(0, .ref a), (1, .long x)] := hl
  have X : mo_X E f f a ad S I J := ⟨hX, gh_fr.rf⟩
  by_cases hsg : x < 0
  · refine lv_lload_n hx hb d_Mo_writeInteger_0 rfl (lv_at hl 1 rfl) ?_
    refine lv_lconst (v := 0) hx hb d_Mo_writeInteger_1 (by decide) ?_
    refine W.lcmp hx hb d_Mo_writeInteger_2 ?_
    refine lv_if_ge (tgt := 12) hx hb d_Mo_writeInteger_3 (by decide) (fun c1 => absurd c1 (fun z => absurd (by rw [← lg_lt] at hsg; exact hsg) (lg_ge0 z))) (fun c1 => ?_)
    refine lv_aload_n hx hb d_Mo_writeInteger_6 rfl (lv_at hl 0 rfl) ?_
    refine lv_bipush (v := 45) hx hb d_Mo_writeInteger_7 (by decide) ?_
    refine gh_callV C V hl.1 m_Mo_write l_Mo_388 (c_Mo_wr l E _ _ a ad _ _ _ 45 _ X.1 hq.at55) rfl X.1.1 gc_Mo ⟨by first | decide | omega | (dsimp only; omega), by first | decide | omega | (dsimp only; omega)⟩ ⟨by first | decide | omega | (dsimp only; omega), by first | decide | omega | (dsimp only; omega)⟩ (Nat.le_of_ble_eq_true rfl) rfl d_Mo_writeInteger_9 (fun r z9 H locs hp V1 => ?_)
    obtain ⟨rfl, S2, X2, hq2⟩ := hp
    have hq := hq.tr hq2
    have X := X.then X2
    have V := V1
    refine W.eq (g2 := F0 m 12 ls []) rfl ?_
    refine lv_iconst (v := 0) hx hb d_Mo_writeInteger_12 (by decide) ?_
    refine lv_istore_n hx hb d_Mo_writeInteger_13 rfl hl (by decide) rfl (fun ls hl => ?_)
    have hl : lv_has ls 8 [(3, .int 0), (0, .ref a), (1, .long x)] := hl
    refine lv_ldc2 (v := 1000000000000000000) hx hb C.2.2.2.1 (C.2.2.2.2.1 _ kl_Mo_391) d_Mo_writeInteger_14 ?_
    refine lv_lstore hx hb d_Mo_writeInteger_17 hl (by decide) rfl (fun ls hl => ?_)
    have hl : lv_has ls 8 [(4, .long 1000000000000000000), (3, .int 0), (0, .ref a), (1, .long x)] := hl
    have hl : lv_has ls 8 [(3, .int 0), (4, .long 1000000000000000000), (0, .ref a), (1, .long x)] := lv_sub hl [1, 0, 2, 3] rfl
    have hl : lv_has ls 8 [(3, .int (gh_bi false)), (4, .long (pv 19)), (0, .ref a), (1, .long x)] := hl
    have loop : ∀ (r9 : Nat) (b9 : Bool) (D : List Int32) (S1 : Nat → Int32) (f1 : gh_F) (H : Heap) (locs : List Loc) (ls : Array Slot), r9 ≤ 19 → wQ n S D S1 → D ++ wr_r x.toInt.natAbs r9 b9 = wr_i x → mo_X E f f1 a ad S1 I J → gh_V E A f1 s H locs → lv_has ls 8 [(3, .int (gh_bi b9)), (4, .long (pv r9)), (0, .ref a), (1, .long x)] → W p l e { frames := 6, cells := 0, slots := 0, locals := 140 } s m args below meth c H locs 0 0 (MQ below (gh_Q E f (fun r g => r = none ∧ ∃ S2, mo_X E f g a ad S2 I J ∧ wQ n S (wr_i x) S2)) args s 0 0 A) (F0 m 19 ls []) := by
      intro r9
      induction r9 with
      | zero =>
        intro b9 D S1 f1 H locs ls hr9 hq hD X V hl
        have hl : lv_has ls 8 [(3, .int (gh_bi b9)), (4, .long 0), (0, .ref a), (1, .long x)] := hl
        have hD : D = wr_i x := by rw [← hD]; cases b9 <;> exact (List.append_nil D).symm
        refine lv_lload hx hb d_Mo_writeInteger_19 (lv_at hl 1 rfl) ?_
        refine lv_lconst (v := 0) hx hb d_Mo_writeInteger_21 (by decide) ?_
        refine W.lcmp hx hb d_Mo_writeInteger_22 ?_
        refine lv_if_le (tgt := 98) hx hb d_Mo_writeInteger_23 (by decide) (fun c3 => ?_) (fun c3 => absurd (by decide) c3)
        refine gh_retv hAe C V hr hlocks d_Mo_writeInteger_98 (by first | decide | omega | (dsimp only; omega)) (by first | decide | omega | (dsimp only; omega)) ?_
        exact ⟨rfl, _, X, hq.eq hD⟩
      | succ j9 ih =>
        intro b9 D S1 f1 H locs ls hr9 hq hD X V hl
        have hcase : (b9 = true) ∨ (b9 = false ∧ x.toInt.natAbs / 10 ^ j9 % 10 ≠ 0) ∨ (b9 = false ∧ x.toInt.natAbs / 10 ^ j9 % 10 = 0 ∧ j9 = 0) ∨ (b9 = false ∧ x.toInt.natAbs / 10 ^ j9 % 10 = 0 ∧ j9 ≠ 0) := by
          cases b9
          · by_cases h1 : x.toInt.natAbs / 10 ^ j9 % 10 = 0
            · by_cases h2 : j9 = 0
              · exact Or.inr (Or.inr (Or.inl ⟨rfl, h1, h2⟩))
              · exact Or.inr (Or.inr (Or.inr ⟨rfl, h1, h2⟩))
            · exact Or.inr (Or.inl ⟨rfl, h1⟩)
          · exact Or.inl rfl
        rcases hcase with hb9 | ⟨hb9, hd9⟩ | ⟨hb9, hd9, hj9⟩ | ⟨hb9, hd9, hj9⟩
        · subst hb9
          by_cases hng : dgv x j9 < 0
          · refine lv_lload hx hb d_Mo_writeInteger_19 (lv_at hl 1 rfl) ?_
            refine lv_lconst (v := 0) hx hb d_Mo_writeInteger_21 (by decide) ?_
            refine W.lcmp hx hb d_Mo_writeInteger_22 ?_
            refine lv_if_le (tgt := 98) hx hb d_Mo_writeInteger_23 (by decide) (fun c4 => absurd c4 (pv_pos j9 (by omega))) (fun c4 => ?_)
            refine lv_lload_n hx hb d_Mo_writeInteger_26 rfl (lv_at hl 3 rfl) ?_
            refine lv_lload hx hb d_Mo_writeInteger_27 (lv_at hl 1 rfl) ?_
            refine lv_ldiv hx hb d_Mo_writeInteger_29 (pv_ne j9 (by omega)) ?_
            refine lv_ldc2 (v := 10) hx hb C.2.2.2.1 (C.2.2.2.2.1 _ kl_Mo_204) d_Mo_writeInteger_30 ?_
            refine lv_lrem hx hb d_Mo_writeInteger_33 (by decide) ?_
            refine W.eq (g2 := F0 m 34 ls [.long (dgv x j9)]) rfl ?_
            refine lv_lstore hx hb d_Mo_writeInteger_34 hl (by decide) rfl (fun ls hl => ?_)
            have hl : lv_has ls 8 [(6, .long (dgv x j9)), (3, .int (gh_bi true)), (4, .long (pv (j9 + 1))), (0, .ref a), (1, .long x)] := hl
            refine lv_iload_n hx hb d_Mo_writeInteger_36 rfl (lv_at hl 1 rfl) ?_
            refine lv_if_ne (tgt := 54) hx hb d_Mo_writeInteger_37 (by decide) (fun c5 => ?_) (fun c5 => absurd c5 (by decide))
            refine lv_iconst (v := 1) hx hb d_Mo_writeInteger_54 (by decide) ?_
            refine lv_goto (tgt := 59) hx hb d_Mo_writeInteger_55 (by decide) ?_
            refine lv_istore_n hx hb d_Mo_writeInteger_59 rfl hl (by decide) rfl (fun ls hl => ?_)
            have hl : lv_has ls 8 [(3, .int 1), (6, .long (dgv x j9)), (4, .long (pv (j9 + 1))), (0, .ref a), (1, .long x)] := hl
            refine lv_iload_n hx hb d_Mo_writeInteger_60 rfl (lv_at hl 0 rfl) ?_
            refine lv_if_eq (tgt := 87) hx hb d_Mo_writeInteger_61 (by decide) (fun c6 => absurd c6 (by decide)) (fun c6 => ?_)
            refine lv_aload_n hx hb d_Mo_writeInteger_64 rfl (lv_at hl 3 rfl) ?_
            refine lv_lload hx hb d_Mo_writeInteger_65 (lv_at hl 1 rfl) ?_
            refine lv_lconst (v := 0) hx hb d_Mo_writeInteger_67 (by decide) ?_
            refine W.lcmp hx hb d_Mo_writeInteger_68 ?_
            refine lv_if_ge (tgt := 78) hx hb d_Mo_writeInteger_69 (by decide) (fun c7 => absurd c7 (fun z => absurd (by rw [← lg_lt] at hng; exact hng) (lg_ge0 z))) (fun c7 => ?_)
            refine lv_lload hx hb d_Mo_writeInteger_72 (lv_at hl 1 rfl) ?_
            refine lv_lneg hx hb d_Mo_writeInteger_74 ?_
            refine lv_goto (tgt := 80) hx hb d_Mo_writeInteger_75 (by decide) ?_
            refine lv_l2i hx hb d_Mo_writeInteger_80 rfl ?_
            refine lv_bipush (v := 48) hx hb d_Mo_writeInteger_81 (by decide) ?_
            refine lv_iadd hx hb d_Mo_writeInteger_83 ?_
            rw [dgv_n (x := x) (j := j9) (by omega) hng]
            refine gh_callV C V hl.1 m_Mo_write l_Mo_388 (c_Mo_wr l E _ _ a ad _ _ _ (nI (48 + x.toInt.natAbs / 10 ^ j9 % 10)) _ X.1 hq.at55) rfl X.1.1 gc_Mo ⟨by first | decide | omega | (dsimp only; omega), by first | decide | omega | (dsimp only; omega)⟩ ⟨by first | decide | omega | (dsimp only; omega), by first | decide | omega | (dsimp only; omega)⟩ (Nat.le_of_ble_eq_true rfl) rfl d_Mo_writeInteger_84 (fun r z9 H locs hp V1 => ?_)
            obtain ⟨rfl, S8, X2, hq2⟩ := hp
            have hq := hq.tr hq2
            have X := X.then X2
            have V := V1
            refine W.eq (g2 := F0 m 87 ls []) rfl ?_
            refine lv_lload hx hb d_Mo_writeInteger_87 (lv_at hl 2 rfl) ?_
            refine lv_ldc2 (v := 10) hx hb C.2.2.2.1 (C.2.2.2.2.1 _ kl_Mo_204) d_Mo_writeInteger_89 ?_
            refine lv_ldiv hx hb d_Mo_writeInteger_92 (by decide) ?_
            rw [pv_step j9 (by omega)]
            refine lv_lstore hx hb d_Mo_writeInteger_93 hl (by decide) rfl (fun ls hl => ?_)
            have hl : lv_has ls 8 [(4, .long (pv j9)), (3, .int 1), (6, .long (dgv x j9)), (0, .ref a), (1, .long x)] := hl
            refine lv_goto (tgt := 19) hx hb d_Mo_writeInteger_95 (by decide) ?_
            have hl : lv_has ls 8 [(3, .int (gh_bi true)), (4, .long (pv j9)), (0, .ref a), (1, .long x)] := lv_sub hl [1, 0, 3, 4] rfl
            refine ih true _ _ _ _ _ ls (by omega) hq ?_ X V hl
            rw [← hD, List.append_assoc]
            rfl
          · refine lv_lload hx hb d_Mo_writeInteger_19 (lv_at hl 1 rfl) ?_
            refine lv_lconst (v := 0) hx hb d_Mo_writeInteger_21 (by decide) ?_
            refine W.lcmp hx hb d_Mo_writeInteger_22 ?_
            refine lv_if_le (tgt := 98) hx hb d_Mo_writeInteger_23 (by decide) (fun c9 => absurd c9 (pv_pos j9 (by omega))) (fun c9 => ?_)
            refine lv_lload_n hx hb d_Mo_writeInteger_26 rfl (lv_at hl 3 rfl) ?_
            refine lv_lload hx hb d_Mo_writeInteger_27 (lv_at hl 1 rfl) ?_
            refine lv_ldiv hx hb d_Mo_writeInteger_29 (pv_ne j9 (by omega)) ?_
            refine lv_ldc2 (v := 10) hx hb C.2.2.2.1 (C.2.2.2.2.1 _ kl_Mo_204) d_Mo_writeInteger_30 ?_
            refine lv_lrem hx hb d_Mo_writeInteger_33 (by decide) ?_
            refine W.eq (g2 := F0 m 34 ls [.long (dgv x j9)]) rfl ?_
            refine lv_lstore hx hb d_Mo_writeInteger_34 hl (by decide) rfl (fun ls hl => ?_)
            have hl : lv_has ls 8 [(6, .long (dgv x j9)), (3, .int (gh_bi true)), (4, .long (pv (j9 + 1))), (0, .ref a), (1, .long x)] := hl
            refine lv_iload_n hx hb d_Mo_writeInteger_36 rfl (lv_at hl 1 rfl) ?_
            refine lv_if_ne (tgt := 54) hx hb d_Mo_writeInteger_37 (by decide) (fun c10 => ?_) (fun c10 => absurd c10 (by decide))
            refine lv_iconst (v := 1) hx hb d_Mo_writeInteger_54 (by decide) ?_
            refine lv_goto (tgt := 59) hx hb d_Mo_writeInteger_55 (by decide) ?_
            refine lv_istore_n hx hb d_Mo_writeInteger_59 rfl hl (by decide) rfl (fun ls hl => ?_)
            have hl : lv_has ls 8 [(3, .int 1), (6, .long (dgv x j9)), (4, .long (pv (j9 + 1))), (0, .ref a), (1, .long x)] := hl
            refine lv_iload_n hx hb d_Mo_writeInteger_60 rfl (lv_at hl 0 rfl) ?_
            refine lv_if_eq (tgt := 87) hx hb d_Mo_writeInteger_61 (by decide) (fun c11 => absurd c11 (by decide)) (fun c11 => ?_)
            refine lv_aload_n hx hb d_Mo_writeInteger_64 rfl (lv_at hl 3 rfl) ?_
            refine lv_lload hx hb d_Mo_writeInteger_65 (lv_at hl 1 rfl) ?_
            refine lv_lconst (v := 0) hx hb d_Mo_writeInteger_67 (by decide) ?_
            refine W.lcmp hx hb d_Mo_writeInteger_68 ?_
            refine lv_if_ge (tgt := 78) hx hb d_Mo_writeInteger_69 (by decide) (fun c12 => ?_) (fun c12 => absurd (by rw [← lg_lt] at hng; exact Int32.not_lt.mp hng) c12)
            refine lv_lload hx hb d_Mo_writeInteger_78 (lv_at hl 1 rfl) ?_
            refine lv_l2i hx hb d_Mo_writeInteger_80 rfl ?_
            refine lv_bipush (v := 48) hx hb d_Mo_writeInteger_81 (by decide) ?_
            refine lv_iadd hx hb d_Mo_writeInteger_83 ?_
            rw [dgv_p (x := x) (j := j9) (by omega) hng]
            refine gh_callV C V hl.1 m_Mo_write l_Mo_388 (c_Mo_wr l E _ _ a ad _ _ _ (nI (48 + x.toInt.natAbs / 10 ^ j9 % 10)) _ X.1 hq.at55) rfl X.1.1 gc_Mo ⟨by first | decide | omega | (dsimp only; omega), by first | decide | omega | (dsimp only; omega)⟩ ⟨by first | decide | omega | (dsimp only; omega), by first | decide | omega | (dsimp only; omega)⟩ (Nat.le_of_ble_eq_true rfl) rfl d_Mo_writeInteger_84 (fun r z9 H locs hp V1 => ?_)
            obtain ⟨rfl, S13, X2, hq2⟩ := hp
            have hq := hq.tr hq2
            have X := X.then X2
            have V := V1
            refine W.eq (g2 := F0 m 87 ls []) rfl ?_
            refine lv_lload hx hb d_Mo_writeInteger_87 (lv_at hl 2 rfl) ?_
            refine lv_ldc2 (v := 10) hx hb C.2.2.2.1 (C.2.2.2.2.1 _ kl_Mo_204) d_Mo_writeInteger_89 ?_
            refine lv_ldiv hx hb d_Mo_writeInteger_92 (by decide) ?_
            rw [pv_step j9 (by omega)]
            refine lv_lstore hx hb d_Mo_writeInteger_93 hl (by decide) rfl (fun ls hl => ?_)
            have hl : lv_has ls 8 [(4, .long (pv j9)), (3, .int 1), (6, .long (dgv x j9)), (0, .ref a), (1, .long x)] := hl
            refine lv_goto (tgt := 19) hx hb d_Mo_writeInteger_95 (by decide) ?_
            have hl : lv_has ls 8 [(3, .int (gh_bi true)), (4, .long (pv j9)), (0, .ref a), (1, .long x)] := lv_sub hl [1, 0, 3, 4] rfl
            refine ih true _ _ _ _ _ ls (by omega) hq ?_ X V hl
            rw [← hD, List.append_assoc]
            rfl
        · subst hb9
          by_cases hng : dgv x j9 < 0
          · refine lv_lload hx hb d_Mo_writeInteger_19 (lv_at hl 1 rfl) ?_
            refine lv_lconst (v := 0) hx hb d_Mo_writeInteger_21 (by decide) ?_
            refine W.lcmp hx hb d_Mo_writeInteger_22 ?_
            refine lv_if_le (tgt := 98) hx hb d_Mo_writeInteger_23 (by decide) (fun c14 => absurd c14 (pv_pos j9 (by omega))) (fun c14 => ?_)
            refine lv_lload_n hx hb d_Mo_writeInteger_26 rfl (lv_at hl 3 rfl) ?_
            refine lv_lload hx hb d_Mo_writeInteger_27 (lv_at hl 1 rfl) ?_
            refine lv_ldiv hx hb d_Mo_writeInteger_29 (pv_ne j9 (by omega)) ?_
            refine lv_ldc2 (v := 10) hx hb C.2.2.2.1 (C.2.2.2.2.1 _ kl_Mo_204) d_Mo_writeInteger_30 ?_
            refine lv_lrem hx hb d_Mo_writeInteger_33 (by decide) ?_
            refine W.eq (g2 := F0 m 34 ls [.long (dgv x j9)]) rfl ?_
            refine lv_lstore hx hb d_Mo_writeInteger_34 hl (by decide) rfl (fun ls hl => ?_)
            have hl : lv_has ls 8 [(6, .long (dgv x j9)), (3, .int (gh_bi false)), (4, .long (pv (j9 + 1))), (0, .ref a), (1, .long x)] := hl
            refine lv_iload_n hx hb d_Mo_writeInteger_36 rfl (lv_at hl 1 rfl) ?_
            refine lv_if_ne (tgt := 54) hx hb d_Mo_writeInteger_37 (by decide) (fun c15 => absurd (by decide) c15) (fun c15 => ?_)
            refine lv_lload hx hb d_Mo_writeInteger_40 (lv_at hl 0 rfl) ?_
            refine lv_lconst (v := 0) hx hb d_Mo_writeInteger_42 (by decide) ?_
            refine W.lcmp hx hb d_Mo_writeInteger_43 ?_
            refine lv_if_ne (tgt := 54) hx hb d_Mo_writeInteger_44 (by decide) (fun c16 => ?_) (fun c16 => absurd c16 (fun z => hd9 ((dgv_0 (by omega)).mp z)))
            refine lv_iconst (v := 1) hx hb d_Mo_writeInteger_54 (by decide) ?_
            refine lv_goto (tgt := 59) hx hb d_Mo_writeInteger_55 (by decide) ?_
            refine lv_istore_n hx hb d_Mo_writeInteger_59 rfl hl (by decide) rfl (fun ls hl => ?_)
            have hl : lv_has ls 8 [(3, .int 1), (6, .long (dgv x j9)), (4, .long (pv (j9 + 1))), (0, .ref a), (1, .long x)] := hl
            refine lv_iload_n hx hb d_Mo_writeInteger_60 rfl (lv_at hl 0 rfl) ?_
            refine lv_if_eq (tgt := 87) hx hb d_Mo_writeInteger_61 (by decide) (fun c17 => absurd c17 (by decide)) (fun c17 => ?_)
            refine lv_aload_n hx hb d_Mo_writeInteger_64 rfl (lv_at hl 3 rfl) ?_
            refine lv_lload hx hb d_Mo_writeInteger_65 (lv_at hl 1 rfl) ?_
            refine lv_lconst (v := 0) hx hb d_Mo_writeInteger_67 (by decide) ?_
            refine W.lcmp hx hb d_Mo_writeInteger_68 ?_
            refine lv_if_ge (tgt := 78) hx hb d_Mo_writeInteger_69 (by decide) (fun c18 => absurd c18 (fun z => absurd (by rw [← lg_lt] at hng; exact hng) (lg_ge0 z))) (fun c18 => ?_)
            refine lv_lload hx hb d_Mo_writeInteger_72 (lv_at hl 1 rfl) ?_
            refine lv_lneg hx hb d_Mo_writeInteger_74 ?_
            refine lv_goto (tgt := 80) hx hb d_Mo_writeInteger_75 (by decide) ?_
            refine lv_l2i hx hb d_Mo_writeInteger_80 rfl ?_
            refine lv_bipush (v := 48) hx hb d_Mo_writeInteger_81 (by decide) ?_
            refine lv_iadd hx hb d_Mo_writeInteger_83 ?_
            rw [dgv_n (x := x) (j := j9) (by omega) hng]
            refine gh_callV C V hl.1 m_Mo_write l_Mo_388 (c_Mo_wr l E _ _ a ad _ _ _ (nI (48 + x.toInt.natAbs / 10 ^ j9 % 10)) _ X.1 hq.at55) rfl X.1.1 gc_Mo ⟨by first | decide | omega | (dsimp only; omega), by first | decide | omega | (dsimp only; omega)⟩ ⟨by first | decide | omega | (dsimp only; omega), by first | decide | omega | (dsimp only; omega)⟩ (Nat.le_of_ble_eq_true rfl) rfl d_Mo_writeInteger_84 (fun r z9 H locs hp V1 => ?_)
            obtain ⟨rfl, S19, X2, hq2⟩ := hp
            have hq := hq.tr hq2
            have X := X.then X2
            have V := V1
            refine W.eq (g2 := F0 m 87 ls []) rfl ?_
            refine lv_lload hx hb d_Mo_writeInteger_87 (lv_at hl 2 rfl) ?_
            refine lv_ldc2 (v := 10) hx hb C.2.2.2.1 (C.2.2.2.2.1 _ kl_Mo_204) d_Mo_writeInteger_89 ?_
            refine lv_ldiv hx hb d_Mo_writeInteger_92 (by decide) ?_
            rw [pv_step j9 (by omega)]
            refine lv_lstore hx hb d_Mo_writeInteger_93 hl (by decide) rfl (fun ls hl => ?_)
            have hl : lv_has ls 8 [(4, .long (pv j9)), (3, .int 1), (6, .long (dgv x j9)), (0, .ref a), (1, .long x)] := hl
            refine lv_goto (tgt := 19) hx hb d_Mo_writeInteger_95 (by decide) ?_
            have hl : lv_has ls 8 [(3, .int (gh_bi true)), (4, .long (pv j9)), (0, .ref a), (1, .long x)] := lv_sub hl [1, 0, 3, 4] rfl
            refine ih true _ _ _ _ _ ls (by omega) hq ?_ X V hl
            rw [← hD, List.append_assoc]
            show _ = D ++ wr_d x.toInt.natAbs (if x.toInt.natAbs / 10 ^ j9 % 10 ≠ 0 ∨ j9 = 0 then j9 + 1 else wr_n x.toInt.natAbs j9)
            rw [if_pos (by omega)]
            rfl
          · refine lv_lload hx hb d_Mo_writeInteger_19 (lv_at hl 1 rfl) ?_
            refine lv_lconst (v := 0) hx hb d_Mo_writeInteger_21 (by decide) ?_
            refine W.lcmp hx hb d_Mo_writeInteger_22 ?_
            refine lv_if_le (tgt := 98) hx hb d_Mo_writeInteger_23 (by decide) (fun c20 => absurd c20 (pv_pos j9 (by omega))) (fun c20 => ?_)
            refine lv_lload_n hx hb d_Mo_writeInteger_26 rfl (lv_at hl 3 rfl) ?_
            refine lv_lload hx hb d_Mo_writeInteger_27 (lv_at hl 1 rfl) ?_
            refine lv_ldiv hx hb d_Mo_writeInteger_29 (pv_ne j9 (by omega)) ?_
            refine lv_ldc2 (v := 10) hx hb C.2.2.2.1 (C.2.2.2.2.1 _ kl_Mo_204) d_Mo_writeInteger_30 ?_
            refine lv_lrem hx hb d_Mo_writeInteger_33 (by decide) ?_
            refine W.eq (g2 := F0 m 34 ls [.long (dgv x j9)]) rfl ?_
            refine lv_lstore hx hb d_Mo_writeInteger_34 hl (by decide) rfl (fun ls hl => ?_)
            have hl : lv_has ls 8 [(6, .long (dgv x j9)), (3, .int (gh_bi false)), (4, .long (pv (j9 + 1))), (0, .ref a), (1, .long x)] := hl
            refine lv_iload_n hx hb d_Mo_writeInteger_36 rfl (lv_at hl 1 rfl) ?_
            refine lv_if_ne (tgt := 54) hx hb d_Mo_writeInteger_37 (by decide) (fun c21 => absurd (by decide) c21) (fun c21 => ?_)
            refine lv_lload hx hb d_Mo_writeInteger_40 (lv_at hl 0 rfl) ?_
            refine lv_lconst (v := 0) hx hb d_Mo_writeInteger_42 (by decide) ?_
            refine W.lcmp hx hb d_Mo_writeInteger_43 ?_
            refine lv_if_ne (tgt := 54) hx hb d_Mo_writeInteger_44 (by decide) (fun c22 => ?_) (fun c22 => absurd c22 (fun z => hd9 ((dgv_0 (by omega)).mp z)))
            refine lv_iconst (v := 1) hx hb d_Mo_writeInteger_54 (by decide) ?_
            refine lv_goto (tgt := 59) hx hb d_Mo_writeInteger_55 (by decide) ?_
            refine lv_istore_n hx hb d_Mo_writeInteger_59 rfl hl (by decide) rfl (fun ls hl => ?_)
            have hl : lv_has ls 8 [(3, .int 1), (6, .long (dgv x j9)), (4, .long (pv (j9 + 1))), (0, .ref a), (1, .long x)] := hl
            refine lv_iload_n hx hb d_Mo_writeInteger_60 rfl (lv_at hl 0 rfl) ?_
            refine lv_if_eq (tgt := 87) hx hb d_Mo_writeInteger_61 (by decide) (fun c23 => absurd c23 (by decide)) (fun c23 => ?_)
            refine lv_aload_n hx hb d_Mo_writeInteger_64 rfl (lv_at hl 3 rfl) ?_
            refine lv_lload hx hb d_Mo_writeInteger_65 (lv_at hl 1 rfl) ?_
            refine lv_lconst (v := 0) hx hb d_Mo_writeInteger_67 (by decide) ?_
            refine W.lcmp hx hb d_Mo_writeInteger_68 ?_
            refine lv_if_ge (tgt := 78) hx hb d_Mo_writeInteger_69 (by decide) (fun c24 => ?_) (fun c24 => absurd (by rw [← lg_lt] at hng; exact Int32.not_lt.mp hng) c24)
            refine lv_lload hx hb d_Mo_writeInteger_78 (lv_at hl 1 rfl) ?_
            refine lv_l2i hx hb d_Mo_writeInteger_80 rfl ?_
            refine lv_bipush (v := 48) hx hb d_Mo_writeInteger_81 (by decide) ?_
            refine lv_iadd hx hb d_Mo_writeInteger_83 ?_
            rw [dgv_p (x := x) (j := j9) (by omega) hng]
            refine gh_callV C V hl.1 m_Mo_write l_Mo_388 (c_Mo_wr l E _ _ a ad _ _ _ (nI (48 + x.toInt.natAbs / 10 ^ j9 % 10)) _ X.1 hq.at55) rfl X.1.1 gc_Mo ⟨by first | decide | omega | (dsimp only; omega), by first | decide | omega | (dsimp only; omega)⟩ ⟨by first | decide | omega | (dsimp only; omega), by first | decide | omega | (dsimp only; omega)⟩ (Nat.le_of_ble_eq_true rfl) rfl d_Mo_writeInteger_84 (fun r z9 H locs hp V1 => ?_)
            obtain ⟨rfl, S25, X2, hq2⟩ := hp
            have hq := hq.tr hq2
            have X := X.then X2
            have V := V1
            refine W.eq (g2 := F0 m 87 ls []) rfl ?_
            refine lv_lload hx hb d_Mo_writeInteger_87 (lv_at hl 2 rfl) ?_
            refine lv_ldc2 (v := 10) hx hb C.2.2.2.1 (C.2.2.2.2.1 _ kl_Mo_204) d_Mo_writeInteger_89 ?_
            refine lv_ldiv hx hb d_Mo_writeInteger_92 (by decide) ?_
            rw [pv_step j9 (by omega)]
            refine lv_lstore hx hb d_Mo_writeInteger_93 hl (by decide) rfl (fun ls hl => ?_)
            have hl : lv_has ls 8 [(4, .long (pv j9)), (3, .int 1), (6, .long (dgv x j9)), (0, .ref a), (1, .long x)] := hl
            refine lv_goto (tgt := 19) hx hb d_Mo_writeInteger_95 (by decide) ?_
            have hl : lv_has ls 8 [(3, .int (gh_bi true)), (4, .long (pv j9)), (0, .ref a), (1, .long x)] := lv_sub hl [1, 0, 3, 4] rfl
            refine ih true _ _ _ _ _ ls (by omega) hq ?_ X V hl
            rw [← hD, List.append_assoc]
            show _ = D ++ wr_d x.toInt.natAbs (if x.toInt.natAbs / 10 ^ j9 % 10 ≠ 0 ∨ j9 = 0 then j9 + 1 else wr_n x.toInt.natAbs j9)
            rw [if_pos (by omega)]
            rfl
        · subst hb9
          by_cases hng : dgv x j9 < 0
          · refine lv_lload hx hb d_Mo_writeInteger_19 (lv_at hl 1 rfl) ?_
            refine lv_lconst (v := 0) hx hb d_Mo_writeInteger_21 (by decide) ?_
            refine W.lcmp hx hb d_Mo_writeInteger_22 ?_
            refine lv_if_le (tgt := 98) hx hb d_Mo_writeInteger_23 (by decide) (fun c26 => absurd c26 (pv_pos j9 (by omega))) (fun c26 => ?_)
            refine lv_lload_n hx hb d_Mo_writeInteger_26 rfl (lv_at hl 3 rfl) ?_
            refine lv_lload hx hb d_Mo_writeInteger_27 (lv_at hl 1 rfl) ?_
            refine lv_ldiv hx hb d_Mo_writeInteger_29 (pv_ne j9 (by omega)) ?_
            refine lv_ldc2 (v := 10) hx hb C.2.2.2.1 (C.2.2.2.2.1 _ kl_Mo_204) d_Mo_writeInteger_30 ?_
            refine lv_lrem hx hb d_Mo_writeInteger_33 (by decide) ?_
            refine W.eq (g2 := F0 m 34 ls [.long (dgv x j9)]) rfl ?_
            refine lv_lstore hx hb d_Mo_writeInteger_34 hl (by decide) rfl (fun ls hl => ?_)
            have hl : lv_has ls 8 [(6, .long (dgv x j9)), (3, .int (gh_bi false)), (4, .long (pv (j9 + 1))), (0, .ref a), (1, .long x)] := hl
            refine lv_iload_n hx hb d_Mo_writeInteger_36 rfl (lv_at hl 1 rfl) ?_
            refine lv_if_ne (tgt := 54) hx hb d_Mo_writeInteger_37 (by decide) (fun c27 => absurd (by decide) c27) (fun c27 => ?_)
            refine lv_lload hx hb d_Mo_writeInteger_40 (lv_at hl 0 rfl) ?_
            refine lv_lconst (v := 0) hx hb d_Mo_writeInteger_42 (by decide) ?_
            refine W.lcmp hx hb d_Mo_writeInteger_43 ?_
            refine lv_if_ne (tgt := 54) hx hb d_Mo_writeInteger_44 (by decide) (fun c28 => absurd ((dgv_0 (by omega)).mpr hd9) c28) (fun c28 => ?_)
            refine lv_lload hx hb d_Mo_writeInteger_47 (lv_at hl 2 rfl) ?_
            refine lv_lconst (v := 1) hx hb d_Mo_writeInteger_49 (by decide) ?_
            refine W.lcmp hx hb d_Mo_writeInteger_50 ?_
            refine lv_if_ne (tgt := 58) hx hb d_Mo_writeInteger_51 (by decide) (fun c29 => absurd ((pv_one j9 (by omega)).mpr hj9) c29) (fun c29 => ?_)
            refine lv_iconst (v := 1) hx hb d_Mo_writeInteger_54 (by decide) ?_
            refine lv_goto (tgt := 59) hx hb d_Mo_writeInteger_55 (by decide) ?_
            refine lv_istore_n hx hb d_Mo_writeInteger_59 rfl hl (by decide) rfl (fun ls hl => ?_)
            have hl : lv_has ls 8 [(3, .int 1), (6, .long (dgv x j9)), (4, .long (pv (j9 + 1))), (0, .ref a), (1, .long x)] := hl
            refine lv_iload_n hx hb d_Mo_writeInteger_60 rfl (lv_at hl 0 rfl) ?_
            refine lv_if_eq (tgt := 87) hx hb d_Mo_writeInteger_61 (by decide) (fun c30 => absurd c30 (by decide)) (fun c30 => ?_)
            refine lv_aload_n hx hb d_Mo_writeInteger_64 rfl (lv_at hl 3 rfl) ?_
            refine lv_lload hx hb d_Mo_writeInteger_65 (lv_at hl 1 rfl) ?_
            refine lv_lconst (v := 0) hx hb d_Mo_writeInteger_67 (by decide) ?_
            refine W.lcmp hx hb d_Mo_writeInteger_68 ?_
            refine lv_if_ge (tgt := 78) hx hb d_Mo_writeInteger_69 (by decide) (fun c31 => absurd c31 (fun z => absurd (by rw [← lg_lt] at hng; exact hng) (lg_ge0 z))) (fun c31 => ?_)
            refine lv_lload hx hb d_Mo_writeInteger_72 (lv_at hl 1 rfl) ?_
            refine lv_lneg hx hb d_Mo_writeInteger_74 ?_
            refine lv_goto (tgt := 80) hx hb d_Mo_writeInteger_75 (by decide) ?_
            refine lv_l2i hx hb d_Mo_writeInteger_80 rfl ?_
            refine lv_bipush (v := 48) hx hb d_Mo_writeInteger_81 (by decide) ?_
            refine lv_iadd hx hb d_Mo_writeInteger_83 ?_
            rw [dgv_n (x := x) (j := j9) (by omega) hng]
            refine gh_callV C V hl.1 m_Mo_write l_Mo_388 (c_Mo_wr l E _ _ a ad _ _ _ (nI (48 + x.toInt.natAbs / 10 ^ j9 % 10)) _ X.1 hq.at55) rfl X.1.1 gc_Mo ⟨by first | decide | omega | (dsimp only; omega), by first | decide | omega | (dsimp only; omega)⟩ ⟨by first | decide | omega | (dsimp only; omega), by first | decide | omega | (dsimp only; omega)⟩ (Nat.le_of_ble_eq_true rfl) rfl d_Mo_writeInteger_84 (fun r z9 H locs hp V1 => ?_)
            obtain ⟨rfl, S32, X2, hq2⟩ := hp
            have hq := hq.tr hq2
            have X := X.then X2
            have V := V1
            refine W.eq (g2 := F0 m 87 ls []) rfl ?_
            refine lv_lload hx hb d_Mo_writeInteger_87 (lv_at hl 2 rfl) ?_
            refine lv_ldc2 (v := 10) hx hb C.2.2.2.1 (C.2.2.2.2.1 _ kl_Mo_204) d_Mo_writeInteger_89 ?_
            refine lv_ldiv hx hb d_Mo_writeInteger_92 (by decide) ?_
            rw [pv_step j9 (by omega)]
            refine lv_lstore hx hb d_Mo_writeInteger_93 hl (by decide) rfl (fun ls hl => ?_)
            have hl : lv_has ls 8 [(4, .long (pv j9)), (3, .int 1), (6, .long (dgv x j9)), (0, .ref a), (1, .long x)] := hl
            refine lv_goto (tgt := 19) hx hb d_Mo_writeInteger_95 (by decide) ?_
            have hl : lv_has ls 8 [(3, .int (gh_bi true)), (4, .long (pv j9)), (0, .ref a), (1, .long x)] := lv_sub hl [1, 0, 3, 4] rfl
            refine ih true _ _ _ _ _ ls (by omega) hq ?_ X V hl
            rw [← hD, List.append_assoc]
            show _ = D ++ wr_d x.toInt.natAbs (if x.toInt.natAbs / 10 ^ j9 % 10 ≠ 0 ∨ j9 = 0 then j9 + 1 else wr_n x.toInt.natAbs j9)
            rw [if_pos (by omega)]
            rfl
          · refine lv_lload hx hb d_Mo_writeInteger_19 (lv_at hl 1 rfl) ?_
            refine lv_lconst (v := 0) hx hb d_Mo_writeInteger_21 (by decide) ?_
            refine W.lcmp hx hb d_Mo_writeInteger_22 ?_
            refine lv_if_le (tgt := 98) hx hb d_Mo_writeInteger_23 (by decide) (fun c33 => absurd c33 (pv_pos j9 (by omega))) (fun c33 => ?_)
            refine lv_lload_n hx hb d_Mo_writeInteger_26 rfl (lv_at hl 3 rfl) ?_
            refine lv_lload hx hb d_Mo_writeInteger_27 (lv_at hl 1 rfl) ?_
            refine lv_ldiv hx hb d_Mo_writeInteger_29 (pv_ne j9 (by omega)) ?_
            refine lv_ldc2 (v := 10) hx hb C.2.2.2.1 (C.2.2.2.2.1 _ kl_Mo_204) d_Mo_writeInteger_30 ?_
            refine lv_lrem hx hb d_Mo_writeInteger_33 (by decide) ?_
            refine W.eq (g2 := F0 m 34 ls [.long (dgv x j9)]) rfl ?_
            refine lv_lstore hx hb d_Mo_writeInteger_34 hl (by decide) rfl (fun ls hl => ?_)
            have hl : lv_has ls 8 [(6, .long (dgv x j9)), (3, .int (gh_bi false)), (4, .long (pv (j9 + 1))), (0, .ref a), (1, .long x)] := hl
            refine lv_iload_n hx hb d_Mo_writeInteger_36 rfl (lv_at hl 1 rfl) ?_
            refine lv_if_ne (tgt := 54) hx hb d_Mo_writeInteger_37 (by decide) (fun c34 => absurd (by decide) c34) (fun c34 => ?_)
            refine lv_lload hx hb d_Mo_writeInteger_40 (lv_at hl 0 rfl) ?_
            refine lv_lconst (v := 0) hx hb d_Mo_writeInteger_42 (by decide) ?_
            refine W.lcmp hx hb d_Mo_writeInteger_43 ?_
            refine lv_if_ne (tgt := 54) hx hb d_Mo_writeInteger_44 (by decide) (fun c35 => absurd ((dgv_0 (by omega)).mpr hd9) c35) (fun c35 => ?_)
            refine lv_lload hx hb d_Mo_writeInteger_47 (lv_at hl 2 rfl) ?_
            refine lv_lconst (v := 1) hx hb d_Mo_writeInteger_49 (by decide) ?_
            refine W.lcmp hx hb d_Mo_writeInteger_50 ?_
            refine lv_if_ne (tgt := 58) hx hb d_Mo_writeInteger_51 (by decide) (fun c36 => absurd ((pv_one j9 (by omega)).mpr hj9) c36) (fun c36 => ?_)
            refine lv_iconst (v := 1) hx hb d_Mo_writeInteger_54 (by decide) ?_
            refine lv_goto (tgt := 59) hx hb d_Mo_writeInteger_55 (by decide) ?_
            refine lv_istore_n hx hb d_Mo_writeInteger_59 rfl hl (by decide) rfl (fun ls hl => ?_)
            have hl : lv_has ls 8 [(3, .int 1), (6, .long (dgv x j9)), (4, .long (pv (j9 + 1))), (0, .ref a), (1, .long x)] := hl
            refine lv_iload_n hx hb d_Mo_writeInteger_60 rfl (lv_at hl 0 rfl) ?_
            refine lv_if_eq (tgt := 87) hx hb d_Mo_writeInteger_61 (by decide) (fun c37 => absurd c37 (by decide)) (fun c37 => ?_)
            refine lv_aload_n hx hb d_Mo_writeInteger_64 rfl (lv_at hl 3 rfl) ?_
            refine lv_lload hx hb d_Mo_writeInteger_65 (lv_at hl 1 rfl) ?_
            refine lv_lconst (v := 0) hx hb d_Mo_writeInteger_67 (by decide) ?_
            refine W.lcmp hx hb d_Mo_writeInteger_68 ?_
            refine lv_if_ge (tgt := 78) hx hb d_Mo_writeInteger_69 (by decide) (fun c38 => ?_) (fun c38 => absurd (by rw [← lg_lt] at hng; exact Int32.not_lt.mp hng) c38)
            refine lv_lload hx hb d_Mo_writeInteger_78 (lv_at hl 1 rfl) ?_
            refine lv_l2i hx hb d_Mo_writeInteger_80 rfl ?_
            refine lv_bipush (v := 48) hx hb d_Mo_writeInteger_81 (by decide) ?_
            refine lv_iadd hx hb d_Mo_writeInteger_83 ?_
            rw [dgv_p (x := x) (j := j9) (by omega) hng]
            refine gh_callV C V hl.1 m_Mo_write l_Mo_388 (c_Mo_wr l E _ _ a ad _ _ _ (nI (48 + x.toInt.natAbs / 10 ^ j9 % 10)) _ X.1 hq.at55) rfl X.1.1 gc_Mo ⟨by first | decide | omega | (dsimp only; omega), by first | decide | omega | (dsimp only; omega)⟩ ⟨by first | decide | omega | (dsimp only; omega), by first | decide | omega | (dsimp only; omega)⟩ (Nat.le_of_ble_eq_true rfl) rfl d_Mo_writeInteger_84 (fun r z9 H locs hp V1 => ?_)
            obtain ⟨rfl, S39, X2, hq2⟩ := hp
            have hq := hq.tr hq2
            have X := X.then X2
            have V := V1
            refine W.eq (g2 := F0 m 87 ls []) rfl ?_
            refine lv_lload hx hb d_Mo_writeInteger_87 (lv_at hl 2 rfl) ?_
            refine lv_ldc2 (v := 10) hx hb C.2.2.2.1 (C.2.2.2.2.1 _ kl_Mo_204) d_Mo_writeInteger_89 ?_
            refine lv_ldiv hx hb d_Mo_writeInteger_92 (by decide) ?_
            rw [pv_step j9 (by omega)]
            refine lv_lstore hx hb d_Mo_writeInteger_93 hl (by decide) rfl (fun ls hl => ?_)
            have hl : lv_has ls 8 [(4, .long (pv j9)), (3, .int 1), (6, .long (dgv x j9)), (0, .ref a), (1, .long x)] := hl
            refine lv_goto (tgt := 19) hx hb d_Mo_writeInteger_95 (by decide) ?_
            have hl : lv_has ls 8 [(3, .int (gh_bi true)), (4, .long (pv j9)), (0, .ref a), (1, .long x)] := lv_sub hl [1, 0, 3, 4] rfl
            refine ih true _ _ _ _ _ ls (by omega) hq ?_ X V hl
            rw [← hD, List.append_assoc]
            show _ = D ++ wr_d x.toInt.natAbs (if x.toInt.natAbs / 10 ^ j9 % 10 ≠ 0 ∨ j9 = 0 then j9 + 1 else wr_n x.toInt.natAbs j9)
            rw [if_pos (by omega)]
            rfl
        · subst hb9
          refine lv_lload hx hb d_Mo_writeInteger_19 (lv_at hl 1 rfl) ?_
          refine lv_lconst (v := 0) hx hb d_Mo_writeInteger_21 (by decide) ?_
          refine W.lcmp hx hb d_Mo_writeInteger_22 ?_
          refine lv_if_le (tgt := 98) hx hb d_Mo_writeInteger_23 (by decide) (fun c40 => absurd c40 (pv_pos j9 (by omega))) (fun c40 => ?_)
          refine lv_lload_n hx hb d_Mo_writeInteger_26 rfl (lv_at hl 3 rfl) ?_
          refine lv_lload hx hb d_Mo_writeInteger_27 (lv_at hl 1 rfl) ?_
          refine lv_ldiv hx hb d_Mo_writeInteger_29 (pv_ne j9 (by omega)) ?_
          refine lv_ldc2 (v := 10) hx hb C.2.2.2.1 (C.2.2.2.2.1 _ kl_Mo_204) d_Mo_writeInteger_30 ?_
          refine lv_lrem hx hb d_Mo_writeInteger_33 (by decide) ?_
          refine W.eq (g2 := F0 m 34 ls [.long (dgv x j9)]) rfl ?_
          refine lv_lstore hx hb d_Mo_writeInteger_34 hl (by decide) rfl (fun ls hl => ?_)
          have hl : lv_has ls 8 [(6, .long (dgv x j9)), (3, .int (gh_bi false)), (4, .long (pv (j9 + 1))), (0, .ref a), (1, .long x)] := hl
          refine lv_iload_n hx hb d_Mo_writeInteger_36 rfl (lv_at hl 1 rfl) ?_
          refine lv_if_ne (tgt := 54) hx hb d_Mo_writeInteger_37 (by decide) (fun c41 => absurd (by decide) c41) (fun c41 => ?_)
          refine lv_lload hx hb d_Mo_writeInteger_40 (lv_at hl 0 rfl) ?_
          refine lv_lconst (v := 0) hx hb d_Mo_writeInteger_42 (by decide) ?_
          refine W.lcmp hx hb d_Mo_writeInteger_43 ?_
          refine lv_if_ne (tgt := 54) hx hb d_Mo_writeInteger_44 (by decide) (fun c42 => absurd ((dgv_0 (by omega)).mpr hd9) c42) (fun c42 => ?_)
          refine lv_lload hx hb d_Mo_writeInteger_47 (lv_at hl 2 rfl) ?_
          refine lv_lconst (v := 1) hx hb d_Mo_writeInteger_49 (by decide) ?_
          refine W.lcmp hx hb d_Mo_writeInteger_50 ?_
          refine lv_if_ne (tgt := 58) hx hb d_Mo_writeInteger_51 (by decide) (fun c43 => ?_) (fun c43 => absurd c43 (fun z => hj9 ((pv_one j9 (by omega)).mp z)))
          refine lv_iconst (v := 0) hx hb d_Mo_writeInteger_58 (by decide) ?_
          refine lv_istore_n hx hb d_Mo_writeInteger_59 rfl hl (by decide) rfl (fun ls hl => ?_)
          have hl : lv_has ls 8 [(3, .int 0), (6, .long (dgv x j9)), (4, .long (pv (j9 + 1))), (0, .ref a), (1, .long x)] := hl
          refine lv_iload_n hx hb d_Mo_writeInteger_60 rfl (lv_at hl 0 rfl) ?_
          refine lv_if_eq (tgt := 87) hx hb d_Mo_writeInteger_61 (by decide) (fun c44 => ?_) (fun c44 => absurd (by decide) c44)
          refine lv_lload hx hb d_Mo_writeInteger_87 (lv_at hl 2 rfl) ?_
          refine lv_ldc2 (v := 10) hx hb C.2.2.2.1 (C.2.2.2.2.1 _ kl_Mo_204) d_Mo_writeInteger_89 ?_
          refine lv_ldiv hx hb d_Mo_writeInteger_92 (by decide) ?_
          rw [pv_step j9 (by omega)]
          refine lv_lstore hx hb d_Mo_writeInteger_93 hl (by decide) rfl (fun ls hl => ?_)
          have hl : lv_has ls 8 [(4, .long (pv j9)), (3, .int 0), (6, .long (dgv x j9)), (0, .ref a), (1, .long x)] := hl
          refine lv_goto (tgt := 19) hx hb d_Mo_writeInteger_95 (by decide) ?_
          have hl : lv_has ls 8 [(3, .int (gh_bi false)), (4, .long (pv j9)), (0, .ref a), (1, .long x)] := lv_sub hl [1, 0, 3, 4] rfl
          refine ih false _ _ _ _ _ ls (by omega) hq ?_ X V hl
          rw [← hD]
          show D ++ wr_d x.toInt.natAbs (wr_n x.toInt.natAbs j9) = D ++ wr_d x.toInt.natAbs (if x.toInt.natAbs / 10 ^ j9 % 10 ≠ 0 ∨ j9 = 0 then j9 + 1 else wr_n x.toInt.natAbs j9)
          rw [if_neg (by omega)]
    refine loop 19 false _ _ _ _ _ ls (Nat.le_refl _) hq ?_ X V hl
    unfold wr_i; rw [if_pos hsg]; rfl
  · refine lv_lload_n hx hb d_Mo_writeInteger_0 rfl (lv_at hl 1 rfl) ?_
    refine lv_lconst (v := 0) hx hb d_Mo_writeInteger_1 (by decide) ?_
    refine W.lcmp hx hb d_Mo_writeInteger_2 ?_
    refine lv_if_ge (tgt := 12) hx hb d_Mo_writeInteger_3 (by decide) (fun c45 => ?_) (fun c45 => absurd (by rw [← lg_lt] at hsg; exact Int32.not_lt.mp hsg) c45)
    refine lv_iconst (v := 0) hx hb d_Mo_writeInteger_12 (by decide) ?_
    refine lv_istore_n hx hb d_Mo_writeInteger_13 rfl hl (by decide) rfl (fun ls hl => ?_)
    have hl : lv_has ls 8 [(3, .int 0), (0, .ref a), (1, .long x)] := hl
    refine lv_ldc2 (v := 1000000000000000000) hx hb C.2.2.2.1 (C.2.2.2.2.1 _ kl_Mo_391) d_Mo_writeInteger_14 ?_
    refine lv_lstore hx hb d_Mo_writeInteger_17 hl (by decide) rfl (fun ls hl => ?_)
    have hl : lv_has ls 8 [(4, .long 1000000000000000000), (3, .int 0), (0, .ref a), (1, .long x)] := hl
    have hl : lv_has ls 8 [(3, .int 0), (4, .long 1000000000000000000), (0, .ref a), (1, .long x)] := lv_sub hl [1, 0, 2, 3] rfl
    have hl : lv_has ls 8 [(3, .int (gh_bi false)), (4, .long (pv 19)), (0, .ref a), (1, .long x)] := hl
    have loop : ∀ (r9 : Nat) (b9 : Bool) (D : List Int32) (S1 : Nat → Int32) (f1 : gh_F) (H : Heap) (locs : List Loc) (ls : Array Slot), r9 ≤ 19 → wQ n S D S1 → D ++ wr_r x.toInt.natAbs r9 b9 = wr_i x → mo_X E f f1 a ad S1 I J → gh_V E A f1 s H locs → lv_has ls 8 [(3, .int (gh_bi b9)), (4, .long (pv r9)), (0, .ref a), (1, .long x)] → W p l e { frames := 6, cells := 0, slots := 0, locals := 140 } s m args below meth c H locs 0 0 (MQ below (gh_Q E f (fun r g => r = none ∧ ∃ S2, mo_X E f g a ad S2 I J ∧ wQ n S (wr_i x) S2)) args s 0 0 A) (F0 m 19 ls []) := by
      intro r9
      induction r9 with
      | zero =>
        intro b9 D S1 f1 H locs ls hr9 hq hD X V hl
        have hl : lv_has ls 8 [(3, .int (gh_bi b9)), (4, .long 0), (0, .ref a), (1, .long x)] := hl
        have hD : D = wr_i x := by rw [← hD]; cases b9 <;> exact (List.append_nil D).symm
        refine lv_lload hx hb d_Mo_writeInteger_19 (lv_at hl 1 rfl) ?_
        refine lv_lconst (v := 0) hx hb d_Mo_writeInteger_21 (by decide) ?_
        refine W.lcmp hx hb d_Mo_writeInteger_22 ?_
        refine lv_if_le (tgt := 98) hx hb d_Mo_writeInteger_23 (by decide) (fun c46 => ?_) (fun c46 => absurd (by decide) c46)
        refine gh_retv hAe C V hr hlocks d_Mo_writeInteger_98 (by first | decide | omega | (dsimp only; omega)) (by first | decide | omega | (dsimp only; omega)) ?_
        exact ⟨rfl, _, X, hq.eq hD⟩
      | succ j9 ih =>
        intro b9 D S1 f1 H locs ls hr9 hq hD X V hl
        have hcase : (b9 = true) ∨ (b9 = false ∧ x.toInt.natAbs / 10 ^ j9 % 10 ≠ 0) ∨ (b9 = false ∧ x.toInt.natAbs / 10 ^ j9 % 10 = 0 ∧ j9 = 0) ∨ (b9 = false ∧ x.toInt.natAbs / 10 ^ j9 % 10 = 0 ∧ j9 ≠ 0) := by
          cases b9
          · by_cases h1 : x.toInt.natAbs / 10 ^ j9 % 10 = 0
            · by_cases h2 : j9 = 0
              · exact Or.inr (Or.inr (Or.inl ⟨rfl, h1, h2⟩))
              · exact Or.inr (Or.inr (Or.inr ⟨rfl, h1, h2⟩))
            · exact Or.inr (Or.inl ⟨rfl, h1⟩)
          · exact Or.inl rfl
        rcases hcase with hb9 | ⟨hb9, hd9⟩ | ⟨hb9, hd9, hj9⟩ | ⟨hb9, hd9, hj9⟩
        · subst hb9
          by_cases hng : dgv x j9 < 0
          · refine lv_lload hx hb d_Mo_writeInteger_19 (lv_at hl 1 rfl) ?_
            refine lv_lconst (v := 0) hx hb d_Mo_writeInteger_21 (by decide) ?_
            refine W.lcmp hx hb d_Mo_writeInteger_22 ?_
            refine lv_if_le (tgt := 98) hx hb d_Mo_writeInteger_23 (by decide) (fun c47 => absurd c47 (pv_pos j9 (by omega))) (fun c47 => ?_)
            refine lv_lload_n hx hb d_Mo_writeInteger_26 rfl (lv_at hl 3 rfl) ?_
            refine lv_lload hx hb d_Mo_writeInteger_27 (lv_at hl 1 rfl) ?_
            refine lv_ldiv hx hb d_Mo_writeInteger_29 (pv_ne j9 (by omega)) ?_
            refine lv_ldc2 (v := 10) hx hb C.2.2.2.1 (C.2.2.2.2.1 _ kl_Mo_204) d_Mo_writeInteger_30 ?_
            refine lv_lrem hx hb d_Mo_writeInteger_33 (by decide) ?_
            refine W.eq (g2 := F0 m 34 ls [.long (dgv x j9)]) rfl ?_
            refine lv_lstore hx hb d_Mo_writeInteger_34 hl (by decide) rfl (fun ls hl => ?_)
            have hl : lv_has ls 8 [(6, .long (dgv x j9)), (3, .int (gh_bi true)), (4, .long (pv (j9 + 1))), (0, .ref a), (1, .long x)] := hl
            refine lv_iload_n hx hb d_Mo_writeInteger_36 rfl (lv_at hl 1 rfl) ?_
            refine lv_if_ne (tgt := 54) hx hb d_Mo_writeInteger_37 (by decide) (fun c48 => ?_) (fun c48 => absurd c48 (by decide))
            refine lv_iconst (v := 1) hx hb d_Mo_writeInteger_54 (by decide) ?_
            refine lv_goto (tgt := 59) hx hb d_Mo_writeInteger_55 (by decide) ?_
            refine lv_istore_n hx hb d_Mo_writeInteger_59 rfl hl (by decide) rfl (fun ls hl => ?_)
            have hl : lv_has ls 8 [(3, .int 1), (6, .long (dgv x j9)), (4, .long (pv (j9 + 1))), (0, .ref a), (1, .long x)] := hl
            refine lv_iload_n hx hb d_Mo_writeInteger_60 rfl (lv_at hl 0 rfl) ?_
            refine lv_if_eq (tgt := 87) hx hb d_Mo_writeInteger_61 (by decide) (fun c49 => absurd c49 (by decide)) (fun c49 => ?_)
            refine lv_aload_n hx hb d_Mo_writeInteger_64 rfl (lv_at hl 3 rfl) ?_
            refine lv_lload hx hb d_Mo_writeInteger_65 (lv_at hl 1 rfl) ?_
            refine lv_lconst (v := 0) hx hb d_Mo_writeInteger_67 (by decide) ?_
            refine W.lcmp hx hb d_Mo_writeInteger_68 ?_
            refine lv_if_ge (tgt := 78) hx hb d_Mo_writeInteger_69 (by decide) (fun c50 => absurd c50 (fun z => absurd (by rw [← lg_lt] at hng; exact hng) (lg_ge0 z))) (fun c50 => ?_)
            refine lv_lload hx hb d_Mo_writeInteger_72 (lv_at hl 1 rfl) ?_
            refine lv_lneg hx hb d_Mo_writeInteger_74 ?_
            refine lv_goto (tgt := 80) hx hb d_Mo_writeInteger_75 (by decide) ?_
            refine lv_l2i hx hb d_Mo_writeInteger_80 rfl ?_
            refine lv_bipush (v := 48) hx hb d_Mo_writeInteger_81 (by decide) ?_
            refine lv_iadd hx hb d_Mo_writeInteger_83 ?_
            rw [dgv_n (x := x) (j := j9) (by omega) hng]
            refine gh_callV C V hl.1 m_Mo_write l_Mo_388 (c_Mo_wr l E _ _ a ad _ _ _ (nI (48 + x.toInt.natAbs / 10 ^ j9 % 10)) _ X.1 hq.at55) rfl X.1.1 gc_Mo ⟨by first | decide | omega | (dsimp only; omega), by first | decide | omega | (dsimp only; omega)⟩ ⟨by first | decide | omega | (dsimp only; omega), by first | decide | omega | (dsimp only; omega)⟩ (Nat.le_of_ble_eq_true rfl) rfl d_Mo_writeInteger_84 (fun r z9 H locs hp V1 => ?_)
            obtain ⟨rfl, S51, X2, hq2⟩ := hp
            have hq := hq.tr hq2
            have X := X.then X2
            have V := V1
            refine W.eq (g2 := F0 m 87 ls []) rfl ?_
            refine lv_lload hx hb d_Mo_writeInteger_87 (lv_at hl 2 rfl) ?_
            refine lv_ldc2 (v := 10) hx hb C.2.2.2.1 (C.2.2.2.2.1 _ kl_Mo_204) d_Mo_writeInteger_89 ?_
            refine lv_ldiv hx hb d_Mo_writeInteger_92 (by decide) ?_
            rw [pv_step j9 (by omega)]
            refine lv_lstore hx hb d_Mo_writeInteger_93 hl (by decide) rfl (fun ls hl => ?_)
            have hl : lv_has ls 8 [(4, .long (pv j9)), (3, .int 1), (6, .long (dgv x j9)), (0, .ref a), (1, .long x)] := hl
            refine lv_goto (tgt := 19) hx hb d_Mo_writeInteger_95 (by decide) ?_
            have hl : lv_has ls 8 [(3, .int (gh_bi true)), (4, .long (pv j9)), (0, .ref a), (1, .long x)] := lv_sub hl [1, 0, 3, 4] rfl
            refine ih true _ _ _ _ _ ls (by omega) hq ?_ X V hl
            rw [← hD, List.append_assoc]
            rfl
          · refine lv_lload hx hb d_Mo_writeInteger_19 (lv_at hl 1 rfl) ?_
            refine lv_lconst (v := 0) hx hb d_Mo_writeInteger_21 (by decide) ?_
            refine W.lcmp hx hb d_Mo_writeInteger_22 ?_
            refine lv_if_le (tgt := 98) hx hb d_Mo_writeInteger_23 (by decide) (fun c52 => absurd c52 (pv_pos j9 (by omega))) (fun c52 => ?_)
            refine lv_lload_n hx hb d_Mo_writeInteger_26 rfl (lv_at hl 3 rfl) ?_
            refine lv_lload hx hb d_Mo_writeInteger_27 (lv_at hl 1 rfl) ?_
            refine lv_ldiv hx hb d_Mo_writeInteger_29 (pv_ne j9 (by omega)) ?_
            refine lv_ldc2 (v := 10) hx hb C.2.2.2.1 (C.2.2.2.2.1 _ kl_Mo_204) d_Mo_writeInteger_30 ?_
            refine lv_lrem hx hb d_Mo_writeInteger_33 (by decide) ?_
            refine W.eq (g2 := F0 m 34 ls [.long (dgv x j9)]) rfl ?_
            refine lv_lstore hx hb d_Mo_writeInteger_34 hl (by decide) rfl (fun ls hl => ?_)
            have hl : lv_has ls 8 [(6, .long (dgv x j9)), (3, .int (gh_bi true)), (4, .long (pv (j9 + 1))), (0, .ref a), (1, .long x)] := hl
            refine lv_iload_n hx hb d_Mo_writeInteger_36 rfl (lv_at hl 1 rfl) ?_
            refine lv_if_ne (tgt := 54) hx hb d_Mo_writeInteger_37 (by decide) (fun c53 => ?_) (fun c53 => absurd c53 (by decide))
            refine lv_iconst (v := 1) hx hb d_Mo_writeInteger_54 (by decide) ?_
            refine lv_goto (tgt := 59) hx hb d_Mo_writeInteger_55 (by decide) ?_
            refine lv_istore_n hx hb d_Mo_writeInteger_59 rfl hl (by decide) rfl (fun ls hl => ?_)
            have hl : lv_has ls 8 [(3, .int 1), (6, .long (dgv x j9)), (4, .long (pv (j9 + 1))), (0, .ref a), (1, .long x)] := hl
            refine lv_iload_n hx hb d_Mo_writeInteger_60 rfl (lv_at hl 0 rfl) ?_
            refine lv_if_eq (tgt := 87) hx hb d_Mo_writeInteger_61 (by decide) (fun c54 => absurd c54 (by decide)) (fun c54 => ?_)
            refine lv_aload_n hx hb d_Mo_writeInteger_64 rfl (lv_at hl 3 rfl) ?_
            refine lv_lload hx hb d_Mo_writeInteger_65 (lv_at hl 1 rfl) ?_
            refine lv_lconst (v := 0) hx hb d_Mo_writeInteger_67 (by decide) ?_
            refine W.lcmp hx hb d_Mo_writeInteger_68 ?_
            refine lv_if_ge (tgt := 78) hx hb d_Mo_writeInteger_69 (by decide) (fun c55 => ?_) (fun c55 => absurd (by rw [← lg_lt] at hng; exact Int32.not_lt.mp hng) c55)
            refine lv_lload hx hb d_Mo_writeInteger_78 (lv_at hl 1 rfl) ?_
            refine lv_l2i hx hb d_Mo_writeInteger_80 rfl ?_
            refine lv_bipush (v := 48) hx hb d_Mo_writeInteger_81 (by decide) ?_
            refine lv_iadd hx hb d_Mo_writeInteger_83 ?_
            rw [dgv_p (x := x) (j := j9) (by omega) hng]
            refine gh_callV C V hl.1 m_Mo_write l_Mo_388 (c_Mo_wr l E _ _ a ad _ _ _ (nI (48 + x.toInt.natAbs / 10 ^ j9 % 10)) _ X.1 hq.at55) rfl X.1.1 gc_Mo ⟨by first | decide | omega | (dsimp only; omega), by first | decide | omega | (dsimp only; omega)⟩ ⟨by first | decide | omega | (dsimp only; omega), by first | decide | omega | (dsimp only; omega)⟩ (Nat.le_of_ble_eq_true rfl) rfl d_Mo_writeInteger_84 (fun r z9 H locs hp V1 => ?_)
            obtain ⟨rfl, S56, X2, hq2⟩ := hp
            have hq := hq.tr hq2
            have X := X.then X2
            have V := V1
            refine W.eq (g2 := F0 m 87 ls []) rfl ?_
            refine lv_lload hx hb d_Mo_writeInteger_87 (lv_at hl 2 rfl) ?_
            refine lv_ldc2 (v := 10) hx hb C.2.2.2.1 (C.2.2.2.2.1 _ kl_Mo_204) d_Mo_writeInteger_89 ?_
            refine lv_ldiv hx hb d_Mo_writeInteger_92 (by decide) ?_
            rw [pv_step j9 (by omega)]
            refine lv_lstore hx hb d_Mo_writeInteger_93 hl (by decide) rfl (fun ls hl => ?_)
            have hl : lv_has ls 8 [(4, .long (pv j9)), (3, .int 1), (6, .long (dgv x j9)), (0, .ref a), (1, .long x)] := hl
            refine lv_goto (tgt := 19) hx hb d_Mo_writeInteger_95 (by decide) ?_
            have hl : lv_has ls 8 [(3, .int (gh_bi true)), (4, .long (pv j9)), (0, .ref a), (1, .long x)] := lv_sub hl [1, 0, 3, 4] rfl
            refine ih true _ _ _ _ _ ls (by omega) hq ?_ X V hl
            rw [← hD, List.append_assoc]
            rfl
        · subst hb9
          by_cases hng : dgv x j9 < 0
          · refine lv_lload hx hb d_Mo_writeInteger_19 (lv_at hl 1 rfl) ?_
            refine lv_lconst (v := 0) hx hb d_Mo_writeInteger_21 (by decide) ?_
            refine W.lcmp hx hb d_Mo_writeInteger_22 ?_
            refine lv_if_le (tgt := 98) hx hb d_Mo_writeInteger_23 (by decide) (fun c57 => absurd c57 (pv_pos j9 (by omega))) (fun c57 => ?_)
            refine lv_lload_n hx hb d_Mo_writeInteger_26 rfl (lv_at hl 3 rfl) ?_
            refine lv_lload hx hb d_Mo_writeInteger_27 (lv_at hl 1 rfl) ?_
            refine lv_ldiv hx hb d_Mo_writeInteger_29 (pv_ne j9 (by omega)) ?_
            refine lv_ldc2 (v := 10) hx hb C.2.2.2.1 (C.2.2.2.2.1 _ kl_Mo_204) d_Mo_writeInteger_30 ?_
            refine lv_lrem hx hb d_Mo_writeInteger_33 (by decide) ?_
            refine W.eq (g2 := F0 m 34 ls [.long (dgv x j9)]) rfl ?_
            refine lv_lstore hx hb d_Mo_writeInteger_34 hl (by decide) rfl (fun ls hl => ?_)
            have hl : lv_has ls 8 [(6, .long (dgv x j9)), (3, .int (gh_bi false)), (4, .long (pv (j9 + 1))), (0, .ref a), (1, .long x)] := hl
            refine lv_iload_n hx hb d_Mo_writeInteger_36 rfl (lv_at hl 1 rfl) ?_
            refine lv_if_ne (tgt := 54) hx hb d_Mo_writeInteger_37 (by decide) (fun c58 => absurd (by decide) c58) (fun c58 => ?_)
            refine lv_lload hx hb d_Mo_writeInteger_40 (lv_at hl 0 rfl) ?_
            refine lv_lconst (v := 0) hx hb d_Mo_writeInteger_42 (by decide) ?_
            refine W.lcmp hx hb d_Mo_writeInteger_43 ?_
            refine lv_if_ne (tgt := 54) hx hb d_Mo_writeInteger_44 (by decide) (fun c59 => ?_) (fun c59 => absurd c59 (fun z => hd9 ((dgv_0 (by omega)).mp z)))
            refine lv_iconst (v := 1) hx hb d_Mo_writeInteger_54 (by decide) ?_
            refine lv_goto (tgt := 59) hx hb d_Mo_writeInteger_55 (by decide) ?_
            refine lv_istore_n hx hb d_Mo_writeInteger_59 rfl hl (by decide) rfl (fun ls hl => ?_)
            have hl : lv_has ls 8 [(3, .int 1), (6, .long (dgv x j9)), (4, .long (pv (j9 + 1))), (0, .ref a), (1, .long x)] := hl
            refine lv_iload_n hx hb d_Mo_writeInteger_60 rfl (lv_at hl 0 rfl) ?_
            refine lv_if_eq (tgt := 87) hx hb d_Mo_writeInteger_61 (by decide) (fun c60 => absurd c60 (by decide)) (fun c60 => ?_)
            refine lv_aload_n hx hb d_Mo_writeInteger_64 rfl (lv_at hl 3 rfl) ?_
            refine lv_lload hx hb d_Mo_writeInteger_65 (lv_at hl 1 rfl) ?_
            refine lv_lconst (v := 0) hx hb d_Mo_writeInteger_67 (by decide) ?_
            refine W.lcmp hx hb d_Mo_writeInteger_68 ?_
            refine lv_if_ge (tgt := 78) hx hb d_Mo_writeInteger_69 (by decide) (fun c61 => absurd c61 (fun z => absurd (by rw [← lg_lt] at hng; exact hng) (lg_ge0 z))) (fun c61 => ?_)
            refine lv_lload hx hb d_Mo_writeInteger_72 (lv_at hl 1 rfl) ?_
            refine lv_lneg hx hb d_Mo_writeInteger_74 ?_
            refine lv_goto (tgt := 80) hx hb d_Mo_writeInteger_75 (by decide) ?_
            refine lv_l2i hx hb d_Mo_writeInteger_80 rfl ?_
            refine lv_bipush (v := 48) hx hb d_Mo_writeInteger_81 (by decide) ?_
            refine lv_iadd hx hb d_Mo_writeInteger_83 ?_
            rw [dgv_n (x := x) (j := j9) (by omega) hng]
            refine gh_callV C V hl.1 m_Mo_write l_Mo_388 (c_Mo_wr l E _ _ a ad _ _ _ (nI (48 + x.toInt.natAbs / 10 ^ j9 % 10)) _ X.1 hq.at55) rfl X.1.1 gc_Mo ⟨by first | decide | omega | (dsimp only; omega), by first | decide | omega | (dsimp only; omega)⟩ ⟨by first | decide | omega | (dsimp only; omega), by first | decide | omega | (dsimp only; omega)⟩ (Nat.le_of_ble_eq_true rfl) rfl d_Mo_writeInteger_84 (fun r z9 H locs hp V1 => ?_)
            obtain ⟨rfl, S62, X2, hq2⟩ := hp
            have hq := hq.tr hq2
            have X := X.then X2
            have V := V1
            refine W.eq (g2 := F0 m 87 ls []) rfl ?_
            refine lv_lload hx hb d_Mo_writeInteger_87 (lv_at hl 2 rfl) ?_
            refine lv_ldc2 (v := 10) hx hb C.2.2.2.1 (C.2.2.2.2.1 _ kl_Mo_204) d_Mo_writeInteger_89 ?_
            refine lv_ldiv hx hb d_Mo_writeInteger_92 (by decide) ?_
            rw [pv_step j9 (by omega)]
            refine lv_lstore hx hb d_Mo_writeInteger_93 hl (by decide) rfl (fun ls hl => ?_)
            have hl : lv_has ls 8 [(4, .long (pv j9)), (3, .int 1), (6, .long (dgv x j9)), (0, .ref a), (1, .long x)] := hl
            refine lv_goto (tgt := 19) hx hb d_Mo_writeInteger_95 (by decide) ?_
            have hl : lv_has ls 8 [(3, .int (gh_bi true)), (4, .long (pv j9)), (0, .ref a), (1, .long x)] := lv_sub hl [1, 0, 3, 4] rfl
            refine ih true _ _ _ _ _ ls (by omega) hq ?_ X V hl
            rw [← hD, List.append_assoc]
            show _ = D ++ wr_d x.toInt.natAbs (if x.toInt.natAbs / 10 ^ j9 % 10 ≠ 0 ∨ j9 = 0 then j9 + 1 else wr_n x.toInt.natAbs j9)
            rw [if_pos (by omega)]
            rfl
          · refine lv_lload hx hb d_Mo_writeInteger_19 (lv_at hl 1 rfl) ?_
            refine lv_lconst (v := 0) hx hb d_Mo_writeInteger_21 (by decide) ?_
            refine W.lcmp hx hb d_Mo_writeInteger_22 ?_
            refine lv_if_le (tgt := 98) hx hb d_Mo_writeInteger_23 (by decide) (fun c63 => absurd c63 (pv_pos j9 (by omega))) (fun c63 => ?_)
            refine lv_lload_n hx hb d_Mo_writeInteger_26 rfl (lv_at hl 3 rfl) ?_
            refine lv_lload hx hb d_Mo_writeInteger_27 (lv_at hl 1 rfl) ?_
            refine lv_ldiv hx hb d_Mo_writeInteger_29 (pv_ne j9 (by omega)) ?_
            refine lv_ldc2 (v := 10) hx hb C.2.2.2.1 (C.2.2.2.2.1 _ kl_Mo_204) d_Mo_writeInteger_30 ?_
            refine lv_lrem hx hb d_Mo_writeInteger_33 (by decide) ?_
            refine W.eq (g2 := F0 m 34 ls [.long (dgv x j9)]) rfl ?_
            refine lv_lstore hx hb d_Mo_writeInteger_34 hl (by decide) rfl (fun ls hl => ?_)
            have hl : lv_has ls 8 [(6, .long (dgv x j9)), (3, .int (gh_bi false)), (4, .long (pv (j9 + 1))), (0, .ref a), (1, .long x)] := hl
            refine lv_iload_n hx hb d_Mo_writeInteger_36 rfl (lv_at hl 1 rfl) ?_
            refine lv_if_ne (tgt := 54) hx hb d_Mo_writeInteger_37 (by decide) (fun c64 => absurd (by decide) c64) (fun c64 => ?_)
            refine lv_lload hx hb d_Mo_writeInteger_40 (lv_at hl 0 rfl) ?_
            refine lv_lconst (v := 0) hx hb d_Mo_writeInteger_42 (by decide) ?_
            refine W.lcmp hx hb d_Mo_writeInteger_43 ?_
            refine lv_if_ne (tgt := 54) hx hb d_Mo_writeInteger_44 (by decide) (fun c65 => ?_) (fun c65 => absurd c65 (fun z => hd9 ((dgv_0 (by omega)).mp z)))
            refine lv_iconst (v := 1) hx hb d_Mo_writeInteger_54 (by decide) ?_
            refine lv_goto (tgt := 59) hx hb d_Mo_writeInteger_55 (by decide) ?_
            refine lv_istore_n hx hb d_Mo_writeInteger_59 rfl hl (by decide) rfl (fun ls hl => ?_)
            have hl : lv_has ls 8 [(3, .int 1), (6, .long (dgv x j9)), (4, .long (pv (j9 + 1))), (0, .ref a), (1, .long x)] := hl
            refine lv_iload_n hx hb d_Mo_writeInteger_60 rfl (lv_at hl 0 rfl) ?_
            refine lv_if_eq (tgt := 87) hx hb d_Mo_writeInteger_61 (by decide) (fun c66 => absurd c66 (by decide)) (fun c66 => ?_)
            refine lv_aload_n hx hb d_Mo_writeInteger_64 rfl (lv_at hl 3 rfl) ?_
            refine lv_lload hx hb d_Mo_writeInteger_65 (lv_at hl 1 rfl) ?_
            refine lv_lconst (v := 0) hx hb d_Mo_writeInteger_67 (by decide) ?_
            refine W.lcmp hx hb d_Mo_writeInteger_68 ?_
            refine lv_if_ge (tgt := 78) hx hb d_Mo_writeInteger_69 (by decide) (fun c67 => ?_) (fun c67 => absurd (by rw [← lg_lt] at hng; exact Int32.not_lt.mp hng) c67)
            refine lv_lload hx hb d_Mo_writeInteger_78 (lv_at hl 1 rfl) ?_
            refine lv_l2i hx hb d_Mo_writeInteger_80 rfl ?_
            refine lv_bipush (v := 48) hx hb d_Mo_writeInteger_81 (by decide) ?_
            refine lv_iadd hx hb d_Mo_writeInteger_83 ?_
            rw [dgv_p (x := x) (j := j9) (by omega) hng]
            refine gh_callV C V hl.1 m_Mo_write l_Mo_388 (c_Mo_wr l E _ _ a ad _ _ _ (nI (48 + x.toInt.natAbs / 10 ^ j9 % 10)) _ X.1 hq.at55) rfl X.1.1 gc_Mo ⟨by first | decide | omega | (dsimp only; omega), by first | decide | omega | (dsimp only; omega)⟩ ⟨by first | decide | omega | (dsimp only; omega), by first | decide | omega | (dsimp only; omega)⟩ (Nat.le_of_ble_eq_true rfl) rfl d_Mo_writeInteger_84 (fun r z9 H locs hp V1 => ?_)
            obtain ⟨rfl, S68, X2, hq2⟩ := hp
            have hq := hq.tr hq2
            have X := X.then X2
            have V := V1
            refine W.eq (g2 := F0 m 87 ls []) rfl ?_
            refine lv_lload hx hb d_Mo_writeInteger_87 (lv_at hl 2 rfl) ?_
            refine lv_ldc2 (v := 10) hx hb C.2.2.2.1 (C.2.2.2.2.1 _ kl_Mo_204) d_Mo_writeInteger_89 ?_
            refine lv_ldiv hx hb d_Mo_writeInteger_92 (by decide) ?_
            rw [pv_step j9 (by omega)]
            refine lv_lstore hx hb d_Mo_writeInteger_93 hl (by decide) rfl (fun ls hl => ?_)
            have hl : lv_has ls 8 [(4, .long (pv j9)), (3, .int 1), (6, .long (dgv x j9)), (0, .ref a), (1, .long x)] := hl
            refine lv_goto (tgt := 19) hx hb d_Mo_writeInteger_95 (by decide) ?_
            have hl : lv_has ls 8 [(3, .int (gh_bi true)), (4, .long (pv j9)), (0, .ref a), (1, .long x)] := lv_sub hl [1, 0, 3, 4] rfl
            refine ih true _ _ _ _ _ ls (by omega) hq ?_ X V hl
            rw [← hD, List.append_assoc]
            show _ = D ++ wr_d x.toInt.natAbs (if x.toInt.natAbs / 10 ^ j9 % 10 ≠ 0 ∨ j9 = 0 then j9 + 1 else wr_n x.toInt.natAbs j9)
            rw [if_pos (by omega)]
            rfl
        · subst hb9
          by_cases hng : dgv x j9 < 0
          · refine lv_lload hx hb d_Mo_writeInteger_19 (lv_at hl 1 rfl) ?_
            refine lv_lconst (v := 0) hx hb d_Mo_writeInteger_21 (by decide) ?_
            refine W.lcmp hx hb d_Mo_writeInteger_22 ?_
            refine lv_if_le (tgt := 98) hx hb d_Mo_writeInteger_23 (by decide) (fun c69 => absurd c69 (pv_pos j9 (by omega))) (fun c69 => ?_)
            refine lv_lload_n hx hb d_Mo_writeInteger_26 rfl (lv_at hl 3 rfl) ?_
            refine lv_lload hx hb d_Mo_writeInteger_27 (lv_at hl 1 rfl) ?_
            refine lv_ldiv hx hb d_Mo_writeInteger_29 (pv_ne j9 (by omega)) ?_
            refine lv_ldc2 (v := 10) hx hb C.2.2.2.1 (C.2.2.2.2.1 _ kl_Mo_204) d_Mo_writeInteger_30 ?_
            refine lv_lrem hx hb d_Mo_writeInteger_33 (by decide) ?_
            refine W.eq (g2 := F0 m 34 ls [.long (dgv x j9)]) rfl ?_
            refine lv_lstore hx hb d_Mo_writeInteger_34 hl (by decide) rfl (fun ls hl => ?_)
            have hl : lv_has ls 8 [(6, .long (dgv x j9)), (3, .int (gh_bi false)), (4, .long (pv (j9 + 1))), (0, .ref a), (1, .long x)] := hl
            refine lv_iload_n hx hb d_Mo_writeInteger_36 rfl (lv_at hl 1 rfl) ?_
            refine lv_if_ne (tgt := 54) hx hb d_Mo_writeInteger_37 (by decide) (fun c70 => absurd (by decide) c70) (fun c70 => ?_)
            refine lv_lload hx hb d_Mo_writeInteger_40 (lv_at hl 0 rfl) ?_
            refine lv_lconst (v := 0) hx hb d_Mo_writeInteger_42 (by decide) ?_
            refine W.lcmp hx hb d_Mo_writeInteger_43 ?_
            refine lv_if_ne (tgt := 54) hx hb d_Mo_writeInteger_44 (by decide) (fun c71 => absurd ((dgv_0 (by omega)).mpr hd9) c71) (fun c71 => ?_)
            refine lv_lload hx hb d_Mo_writeInteger_47 (lv_at hl 2 rfl) ?_
            refine lv_lconst (v := 1) hx hb d_Mo_writeInteger_49 (by decide) ?_
            refine W.lcmp hx hb d_Mo_writeInteger_50 ?_
            refine lv_if_ne (tgt := 58) hx hb d_Mo_writeInteger_51 (by decide) (fun c72 => absurd ((pv_one j9 (by omega)).mpr hj9) c72) (fun c72 => ?_)
            refine lv_iconst (v := 1) hx hb d_Mo_writeInteger_54 (by decide) ?_
            refine lv_goto (tgt := 59) hx hb d_Mo_writeInteger_55 (by decide) ?_
            refine lv_istore_n hx hb d_Mo_writeInteger_59 rfl hl (by decide) rfl (fun ls hl => ?_)
            have hl : lv_has ls 8 [(3, .int 1), (6, .long (dgv x j9)), (4, .long (pv (j9 + 1))), (0, .ref a), (1, .long x)] := hl
            refine lv_iload_n hx hb d_Mo_writeInteger_60 rfl (lv_at hl 0 rfl) ?_
            refine lv_if_eq (tgt := 87) hx hb d_Mo_writeInteger_61 (by decide) (fun c73 => absurd c73 (by decide)) (fun c73 => ?_)
            refine lv_aload_n hx hb d_Mo_writeInteger_64 rfl (lv_at hl 3 rfl) ?_
            refine lv_lload hx hb d_Mo_writeInteger_65 (lv_at hl 1 rfl) ?_
            refine lv_lconst (v := 0) hx hb d_Mo_writeInteger_67 (by decide) ?_
            refine W.lcmp hx hb d_Mo_writeInteger_68 ?_
            refine lv_if_ge (tgt := 78) hx hb d_Mo_writeInteger_69 (by decide) (fun c74 => absurd c74 (fun z => absurd (by rw [← lg_lt] at hng; exact hng) (lg_ge0 z))) (fun c74 => ?_)
            refine lv_lload hx hb d_Mo_writeInteger_72 (lv_at hl 1 rfl) ?_
            refine lv_lneg hx hb d_Mo_writeInteger_74 ?_
            refine lv_goto (tgt := 80) hx hb d_Mo_writeInteger_75 (by decide) ?_
            refine lv_l2i hx hb d_Mo_writeInteger_80 rfl ?_
            refine lv_bipush (v := 48) hx hb d_Mo_writeInteger_81 (by decide) ?_
            refine lv_iadd hx hb d_Mo_writeInteger_83 ?_
            rw [dgv_n (x := x) (j := j9) (by omega) hng]
            refine gh_callV C V hl.1 m_Mo_write l_Mo_388 (c_Mo_wr l E _ _ a ad _ _ _ (nI (48 + x.toInt.natAbs / 10 ^ j9 % 10)) _ X.1 hq.at55) rfl X.1.1 gc_Mo ⟨by first | decide | omega | (dsimp only; omega), by first | decide | omega | (dsimp only; omega)⟩ ⟨by first | decide | omega | (dsimp only; omega), by first | decide | omega | (dsimp only; omega)⟩ (Nat.le_of_ble_eq_true rfl) rfl d_Mo_writeInteger_84 (fun r z9 H locs hp V1 => ?_)
            obtain ⟨rfl, S75, X2, hq2⟩ := hp
            have hq := hq.tr hq2
            have X := X.then X2
            have V := V1
            refine W.eq (g2 := F0 m 87 ls []) rfl ?_
            refine lv_lload hx hb d_Mo_writeInteger_87 (lv_at hl 2 rfl) ?_
            refine lv_ldc2 (v := 10) hx hb C.2.2.2.1 (C.2.2.2.2.1 _ kl_Mo_204) d_Mo_writeInteger_89 ?_
            refine lv_ldiv hx hb d_Mo_writeInteger_92 (by decide) ?_
            rw [pv_step j9 (by omega)]
            refine lv_lstore hx hb d_Mo_writeInteger_93 hl (by decide) rfl (fun ls hl => ?_)
            have hl : lv_has ls 8 [(4, .long (pv j9)), (3, .int 1), (6, .long (dgv x j9)), (0, .ref a), (1, .long x)] := hl
            refine lv_goto (tgt := 19) hx hb d_Mo_writeInteger_95 (by decide) ?_
            have hl : lv_has ls 8 [(3, .int (gh_bi true)), (4, .long (pv j9)), (0, .ref a), (1, .long x)] := lv_sub hl [1, 0, 3, 4] rfl
            refine ih true _ _ _ _ _ ls (by omega) hq ?_ X V hl
            rw [← hD, List.append_assoc]
            show _ = D ++ wr_d x.toInt.natAbs (if x.toInt.natAbs / 10 ^ j9 % 10 ≠ 0 ∨ j9 = 0 then j9 + 1 else wr_n x.toInt.natAbs j9)
            rw [if_pos (by omega)]
            rfl
          · refine lv_lload hx hb d_Mo_writeInteger_19 (lv_at hl 1 rfl) ?_
            refine lv_lconst (v := 0) hx hb d_Mo_writeInteger_21 (by decide) ?_
            refine W.lcmp hx hb d_Mo_writeInteger_22 ?_
            refine lv_if_le (tgt := 98) hx hb d_Mo_writeInteger_23 (by decide) (fun c76 => absurd c76 (pv_pos j9 (by omega))) (fun c76 => ?_)
            refine lv_lload_n hx hb d_Mo_writeInteger_26 rfl (lv_at hl 3 rfl) ?_
            refine lv_lload hx hb d_Mo_writeInteger_27 (lv_at hl 1 rfl) ?_
            refine lv_ldiv hx hb d_Mo_writeInteger_29 (pv_ne j9 (by omega)) ?_
            refine lv_ldc2 (v := 10) hx hb C.2.2.2.1 (C.2.2.2.2.1 _ kl_Mo_204) d_Mo_writeInteger_30 ?_
            refine lv_lrem hx hb d_Mo_writeInteger_33 (by decide) ?_
            refine W.eq (g2 := F0 m 34 ls [.long (dgv x j9)]) rfl ?_
            refine lv_lstore hx hb d_Mo_writeInteger_34 hl (by decide) rfl (fun ls hl => ?_)
            have hl : lv_has ls 8 [(6, .long (dgv x j9)), (3, .int (gh_bi false)), (4, .long (pv (j9 + 1))), (0, .ref a), (1, .long x)] := hl
            refine lv_iload_n hx hb d_Mo_writeInteger_36 rfl (lv_at hl 1 rfl) ?_
            refine lv_if_ne (tgt := 54) hx hb d_Mo_writeInteger_37 (by decide) (fun c77 => absurd (by decide) c77) (fun c77 => ?_)
            refine lv_lload hx hb d_Mo_writeInteger_40 (lv_at hl 0 rfl) ?_
            refine lv_lconst (v := 0) hx hb d_Mo_writeInteger_42 (by decide) ?_
            refine W.lcmp hx hb d_Mo_writeInteger_43 ?_
            refine lv_if_ne (tgt := 54) hx hb d_Mo_writeInteger_44 (by decide) (fun c78 => absurd ((dgv_0 (by omega)).mpr hd9) c78) (fun c78 => ?_)
            refine lv_lload hx hb d_Mo_writeInteger_47 (lv_at hl 2 rfl) ?_
            refine lv_lconst (v := 1) hx hb d_Mo_writeInteger_49 (by decide) ?_
            refine W.lcmp hx hb d_Mo_writeInteger_50 ?_
            refine lv_if_ne (tgt := 58) hx hb d_Mo_writeInteger_51 (by decide) (fun c79 => absurd ((pv_one j9 (by omega)).mpr hj9) c79) (fun c79 => ?_)
            refine lv_iconst (v := 1) hx hb d_Mo_writeInteger_54 (by decide) ?_
            refine lv_goto (tgt := 59) hx hb d_Mo_writeInteger_55 (by decide) ?_
            refine lv_istore_n hx hb d_Mo_writeInteger_59 rfl hl (by decide) rfl (fun ls hl => ?_)
            have hl : lv_has ls 8 [(3, .int 1), (6, .long (dgv x j9)), (4, .long (pv (j9 + 1))), (0, .ref a), (1, .long x)] := hl
            refine lv_iload_n hx hb d_Mo_writeInteger_60 rfl (lv_at hl 0 rfl) ?_
            refine lv_if_eq (tgt := 87) hx hb d_Mo_writeInteger_61 (by decide) (fun c80 => absurd c80 (by decide)) (fun c80 => ?_)
            refine lv_aload_n hx hb d_Mo_writeInteger_64 rfl (lv_at hl 3 rfl) ?_
            refine lv_lload hx hb d_Mo_writeInteger_65 (lv_at hl 1 rfl) ?_
            refine lv_lconst (v := 0) hx hb d_Mo_writeInteger_67 (by decide) ?_
            refine W.lcmp hx hb d_Mo_writeInteger_68 ?_
            refine lv_if_ge (tgt := 78) hx hb d_Mo_writeInteger_69 (by decide) (fun c81 => ?_) (fun c81 => absurd (by rw [← lg_lt] at hng; exact Int32.not_lt.mp hng) c81)
            refine lv_lload hx hb d_Mo_writeInteger_78 (lv_at hl 1 rfl) ?_
            refine lv_l2i hx hb d_Mo_writeInteger_80 rfl ?_
            refine lv_bipush (v := 48) hx hb d_Mo_writeInteger_81 (by decide) ?_
            refine lv_iadd hx hb d_Mo_writeInteger_83 ?_
            rw [dgv_p (x := x) (j := j9) (by omega) hng]
            refine gh_callV C V hl.1 m_Mo_write l_Mo_388 (c_Mo_wr l E _ _ a ad _ _ _ (nI (48 + x.toInt.natAbs / 10 ^ j9 % 10)) _ X.1 hq.at55) rfl X.1.1 gc_Mo ⟨by first | decide | omega | (dsimp only; omega), by first | decide | omega | (dsimp only; omega)⟩ ⟨by first | decide | omega | (dsimp only; omega), by first | decide | omega | (dsimp only; omega)⟩ (Nat.le_of_ble_eq_true rfl) rfl d_Mo_writeInteger_84 (fun r z9 H locs hp V1 => ?_)
            obtain ⟨rfl, S82, X2, hq2⟩ := hp
            have hq := hq.tr hq2
            have X := X.then X2
            have V := V1
            refine W.eq (g2 := F0 m 87 ls []) rfl ?_
            refine lv_lload hx hb d_Mo_writeInteger_87 (lv_at hl 2 rfl) ?_
            refine lv_ldc2 (v := 10) hx hb C.2.2.2.1 (C.2.2.2.2.1 _ kl_Mo_204) d_Mo_writeInteger_89 ?_
            refine lv_ldiv hx hb d_Mo_writeInteger_92 (by decide) ?_
            rw [pv_step j9 (by omega)]
            refine lv_lstore hx hb d_Mo_writeInteger_93 hl (by decide) rfl (fun ls hl => ?_)
            have hl : lv_has ls 8 [(4, .long (pv j9)), (3, .int 1), (6, .long (dgv x j9)), (0, .ref a), (1, .long x)] := hl
            refine lv_goto (tgt := 19) hx hb d_Mo_writeInteger_95 (by decide) ?_
            have hl : lv_has ls 8 [(3, .int (gh_bi true)), (4, .long (pv j9)), (0, .ref a), (1, .long x)] := lv_sub hl [1, 0, 3, 4] rfl
            refine ih true _ _ _ _ _ ls (by omega) hq ?_ X V hl
            rw [← hD, List.append_assoc]
            show _ = D ++ wr_d x.toInt.natAbs (if x.toInt.natAbs / 10 ^ j9 % 10 ≠ 0 ∨ j9 = 0 then j9 + 1 else wr_n x.toInt.natAbs j9)
            rw [if_pos (by omega)]
            rfl
        · subst hb9
          refine lv_lload hx hb d_Mo_writeInteger_19 (lv_at hl 1 rfl) ?_
          refine lv_lconst (v := 0) hx hb d_Mo_writeInteger_21 (by decide) ?_
          refine W.lcmp hx hb d_Mo_writeInteger_22 ?_
          refine lv_if_le (tgt := 98) hx hb d_Mo_writeInteger_23 (by decide) (fun c83 => absurd c83 (pv_pos j9 (by omega))) (fun c83 => ?_)
          refine lv_lload_n hx hb d_Mo_writeInteger_26 rfl (lv_at hl 3 rfl) ?_
          refine lv_lload hx hb d_Mo_writeInteger_27 (lv_at hl 1 rfl) ?_
          refine lv_ldiv hx hb d_Mo_writeInteger_29 (pv_ne j9 (by omega)) ?_
          refine lv_ldc2 (v := 10) hx hb C.2.2.2.1 (C.2.2.2.2.1 _ kl_Mo_204) d_Mo_writeInteger_30 ?_
          refine lv_lrem hx hb d_Mo_writeInteger_33 (by decide) ?_
          refine W.eq (g2 := F0 m 34 ls [.long (dgv x j9)]) rfl ?_
          refine lv_lstore hx hb d_Mo_writeInteger_34 hl (by decide) rfl (fun ls hl => ?_)
          have hl : lv_has ls 8 [(6, .long (dgv x j9)), (3, .int (gh_bi false)), (4, .long (pv (j9 + 1))), (0, .ref a), (1, .long x)] := hl
          refine lv_iload_n hx hb d_Mo_writeInteger_36 rfl (lv_at hl 1 rfl) ?_
          refine lv_if_ne (tgt := 54) hx hb d_Mo_writeInteger_37 (by decide) (fun c84 => absurd (by decide) c84) (fun c84 => ?_)
          refine lv_lload hx hb d_Mo_writeInteger_40 (lv_at hl 0 rfl) ?_
          refine lv_lconst (v := 0) hx hb d_Mo_writeInteger_42 (by decide) ?_
          refine W.lcmp hx hb d_Mo_writeInteger_43 ?_
          refine lv_if_ne (tgt := 54) hx hb d_Mo_writeInteger_44 (by decide) (fun c85 => absurd ((dgv_0 (by omega)).mpr hd9) c85) (fun c85 => ?_)
          refine lv_lload hx hb d_Mo_writeInteger_47 (lv_at hl 2 rfl) ?_
          refine lv_lconst (v := 1) hx hb d_Mo_writeInteger_49 (by decide) ?_
          refine W.lcmp hx hb d_Mo_writeInteger_50 ?_
          refine lv_if_ne (tgt := 58) hx hb d_Mo_writeInteger_51 (by decide) (fun c86 => ?_) (fun c86 => absurd c86 (fun z => hj9 ((pv_one j9 (by omega)).mp z)))
          refine lv_iconst (v := 0) hx hb d_Mo_writeInteger_58 (by decide) ?_
          refine lv_istore_n hx hb d_Mo_writeInteger_59 rfl hl (by decide) rfl (fun ls hl => ?_)
          have hl : lv_has ls 8 [(3, .int 0), (6, .long (dgv x j9)), (4, .long (pv (j9 + 1))), (0, .ref a), (1, .long x)] := hl
          refine lv_iload_n hx hb d_Mo_writeInteger_60 rfl (lv_at hl 0 rfl) ?_
          refine lv_if_eq (tgt := 87) hx hb d_Mo_writeInteger_61 (by decide) (fun c87 => ?_) (fun c87 => absurd (by decide) c87)
          refine lv_lload hx hb d_Mo_writeInteger_87 (lv_at hl 2 rfl) ?_
          refine lv_ldc2 (v := 10) hx hb C.2.2.2.1 (C.2.2.2.2.1 _ kl_Mo_204) d_Mo_writeInteger_89 ?_
          refine lv_ldiv hx hb d_Mo_writeInteger_92 (by decide) ?_
          rw [pv_step j9 (by omega)]
          refine lv_lstore hx hb d_Mo_writeInteger_93 hl (by decide) rfl (fun ls hl => ?_)
          have hl : lv_has ls 8 [(4, .long (pv j9)), (3, .int 0), (6, .long (dgv x j9)), (0, .ref a), (1, .long x)] := hl
          refine lv_goto (tgt := 19) hx hb d_Mo_writeInteger_95 (by decide) ?_
          have hl : lv_has ls 8 [(3, .int (gh_bi false)), (4, .long (pv j9)), (0, .ref a), (1, .long x)] := lv_sub hl [1, 0, 3, 4] rfl
          refine ih false _ _ _ _ _ ls (by omega) hq ?_ X V hl
          rw [← hD]
          show D ++ wr_d x.toInt.natAbs (wr_n x.toInt.natAbs j9) = D ++ wr_d x.toInt.natAbs (if x.toInt.natAbs / 10 ^ j9 % 10 ≠ 0 ∨ j9 = 0 then j9 + 1 else wr_n x.toInt.natAbs j9)
          rw [if_neg (by omega)]
    refine loop 19 false _ _ _ _ _ ls (Nat.le_refl _) hq ?_ X V hl
    unfold wr_i; rw [if_neg hsg]; rfl
