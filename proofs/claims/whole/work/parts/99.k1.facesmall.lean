/-! The machine's face: small methods. Printed by wip/whole/gen_face.py. -/
theorem fa_of {k : Int32} {L : Nat} (hL : L < 2147483648) (h0 : ¬ k < 0) (h1 : k < nI L) : ∃ j, j < L ∧ k = nI j := by
  have h2 : 0 ≤ k.toInt := Int32.le_iff_toInt_le.mp (Int32.not_lt.mp h0)
  have h3 : k.toInt < (nI L).toInt := Int32.lt_iff_toInt_lt.mp h1
  rw [nI_toInt hL] at h3
  refine ⟨k.toInt.toNat, by omega, ?_⟩
  apply Int32.toInt_inj.mp
  rw [nI_toInt (by omega)]
  omega
/-- the value that is asked for: the document, or one of those put out -/
def qf_v (X : vt) (xs : List vt) (k : Int32) (Y : vt) : Prop := (k = -1 ∧ Y = X) ∨ ∃ j, j < xs.length ∧ k = nI j ∧ Y = xs.getD j (vt_0 0)
def qf_o (xs : List vt) (k : Int32) : Prop := k < 0 ∨ ¬ k < nI xs.length
theorem d_QM_bad_0 : decode b_QM_bad 0 = .ok (.aload_n 0, 1) := by decide +kernel
theorem d_QM_bad_1 : decode b_QM_bad 1 = .ok (.getfield 21, 3) := by decide +kernel
theorem d_QM_bad_4 : decode b_QM_bad 4 = .ok (.getfield 90, 3) := by decide +kernel
theorem d_QM_bad_7 : decode b_QM_bad 7 = .ok (.ireturn, 1) := by decide +kernel
set_option maxHeartbeats 4000000 in
set_option maxRecDepth 100000 in
theorem c_QM_bad (l : Launch) (E : gh_E) (sz : Nat) (f : gh_F) (ρ Z : Nat → Nat) (tx : Nat → Nat) (n : Nat) (bd : Int32) (dc : Nat) (X : vt) (q0 q1 N : Nat) (cb bg : Nat → Nat) (N1 : Nat) (cb1 bg1 : Nat → Nat) (φ : Nat) (en : Int32) (xs : List vt) (hA : qf_A E ρ Z f tx n bd dc X q0 q1 N cb bg N1 cb1 bg1 φ en xs) : gh_M l y_QM_bad b_QM_bad 1 (some .int) E sz [.ref (Z 6)] f { frames := 2, cells := 0, slots := 0, locals := 40 } (fun r g => r = some (.int bd) ∧ g = f) := by
  refine gh_open (by decide) (Nat.le_of_ble_eq_true rfl) ?_
  intro p e s m args below meth c A ls hAe C V hr hlocks hname hl
  have hx := C.1
  have hb := C.2.1
  have hl : lv_has ls 1 [(0, .ref (Z 6))] := hl
  obtain ⟨q6, qK, q8, q9, qG, qW, qU, qRK, qRG, qRS, qP, qD, qQ, qp⟩ := id hA
  have qz := qK.1
  obtain ⟨tv, t1, t2, u8⟩ := id q8
  obtain ⟨qv, qb0, cU⟩ := id qU
  obtain ⟨cQ0, cQ1, cQ2⟩ := id qQ
  have q6 : f (Z 6) = some (.inr (0, [.ref (Z 7), .int (nI n), .ref (Z 8), .ref (Z 10), .ref (Z 1), .ref dc, .ref (Z q0), .ref (Z q1)])) := q6
  refine lv_aload_n hx hb d_QM_bad_0 rfl (lv_at hl 0 rfl) ?_
  refine gh_get C V q6 gc_QM gi_QM 2 (by decide) f_QM_21 rfl rfl d_QM_bad_1 ?_
  refine gh_get C V u8 gc_Re gi_Re 6 (by decide) f_QM_90 rfl rfl d_QM_bad_4 ?_
  refine gh_reti hAe C V hr hlocks d_QM_bad_7 (by first | decide | omega | (dsimp only; omega)) (by first | decide | omega | (dsimp only; omega)) ?_
  exact ⟨rfl, rfl⟩
theorem d_QM_ended_0 : decode b_QM_ended 0 = .ok (.aload_n 0, 1) := by decide +kernel
theorem d_QM_ended_1 : decode b_QM_ended 1 = .ok (.getfield 35, 3) := by decide +kernel
theorem d_QM_ended_4 : decode b_QM_ended 4 = .ok (.getfield 106, 3) := by decide +kernel
theorem d_QM_ended_7 : decode b_QM_ended 7 = .ok (.ireturn, 1) := by decide +kernel
set_option maxHeartbeats 4000000 in
set_option maxRecDepth 100000 in
theorem c_QM_ended (l : Launch) (E : gh_E) (sz : Nat) (f : gh_F) (ρ Z : Nat → Nat) (tx : Nat → Nat) (n : Nat) (bd : Int32) (dc : Nat) (X : vt) (q0 q1 N : Nat) (cb bg : Nat → Nat) (N1 : Nat) (cb1 bg1 : Nat → Nat) (φ : Nat) (en : Int32) (xs : List vt) (hA : qf_A E ρ Z f tx n bd dc X q0 q1 N cb bg N1 cb1 bg1 φ en xs) : gh_M l y_QM_ended b_QM_ended 1 (some .int) E sz [.ref (Z 6)] f { frames := 2, cells := 0, slots := 0, locals := 40 } (fun r g => r = some (.int en) ∧ g = f) := by
  refine gh_open (by decide) (Nat.le_of_ble_eq_true rfl) ?_
  intro p e s m args below meth c A ls hAe C V hr hlocks hname hl
  have hx := C.1
  have hb := C.2.1
  have hl : lv_has ls 1 [(0, .ref (Z 6))] := hl
  obtain ⟨q6, qK, q8, q9, qG, qW, qU, qRK, qRG, qRS, qP, qD, qQ, qp⟩ := id hA
  have qz := qK.1
  obtain ⟨tv, t1, t2, u8⟩ := id q8
  obtain ⟨qv, qb0, cU⟩ := id qU
  obtain ⟨cQ0, cQ1, cQ2⟩ := id qQ
  have q6 : f (Z 6) = some (.inr (0, [.ref (Z 7), .int (nI n), .ref (Z 8), .ref (Z 10), .ref (Z 1), .ref dc, .ref (Z q0), .ref (Z q1)])) := q6
  refine lv_aload_n hx hb d_QM_ended_0 rfl (lv_at hl 0 rfl) ?_
  refine gh_get C V q6 gc_QM gi_QM 4 (by decide) f_QM_35 rfl rfl d_QM_ended_1 ?_
  refine gh_get C V cU gc_Ru gi_Ru 8 (by decide) f_QM_106 rfl rfl d_QM_ended_4 ?_
  refine gh_reti hAe C V hr hlocks d_QM_ended_7 (by first | decide | omega | (dsimp only; omega)) (by first | decide | omega | (dsimp only; omega)) ?_
  exact ⟨rfl, rfl⟩
theorem d_QM_left_0 : decode b_QM_left 0 = .ok (.aload_n 0, 1) := by decide +kernel
theorem d_QM_left_1 : decode b_QM_left 1 = .ok (.getfield 35, 3) := by decide +kernel
theorem d_QM_left_4 : decode b_QM_left 4 = .ok (.getfield 109, 3) := by decide +kernel
theorem d_QM_left_7 : decode b_QM_left 7 = .ok (.ireturn, 1) := by decide +kernel
set_option maxHeartbeats 4000000 in
set_option maxRecDepth 100000 in
theorem c_QM_left (l : Launch) (E : gh_E) (sz : Nat) (f : gh_F) (ρ Z : Nat → Nat) (tx : Nat → Nat) (n : Nat) (bd : Int32) (dc : Nat) (X : vt) (q0 q1 N : Nat) (cb bg : Nat → Nat) (N1 : Nat) (cb1 bg1 : Nat → Nat) (φ : Nat) (en : Int32) (xs : List vt) (hA : qf_A E ρ Z f tx n bd dc X q0 q1 N cb bg N1 cb1 bg1 φ en xs) : gh_M l y_QM_left b_QM_left 1 (some .int) E sz [.ref (Z 6)] f { frames := 2, cells := 0, slots := 0, locals := 40 } (fun r g => r = some (.int (nI φ)) ∧ g = f) := by
  refine gh_open (by decide) (Nat.le_of_ble_eq_true rfl) ?_
  intro p e s m args below meth c A ls hAe C V hr hlocks hname hl
  have hx := C.1
  have hb := C.2.1
  have hl : lv_has ls 1 [(0, .ref (Z 6))] := hl
  obtain ⟨q6, qK, q8, q9, qG, qW, qU, qRK, qRG, qRS, qP, qD, qQ, qp⟩ := id hA
  have qz := qK.1
  obtain ⟨tv, t1, t2, u8⟩ := id q8
  obtain ⟨qv, qb0, cU⟩ := id qU
  obtain ⟨cQ0, cQ1, cQ2⟩ := id qQ
  have q6 : f (Z 6) = some (.inr (0, [.ref (Z 7), .int (nI n), .ref (Z 8), .ref (Z 10), .ref (Z 1), .ref dc, .ref (Z q0), .ref (Z q1)])) := q6
  refine lv_aload_n hx hb d_QM_left_0 rfl (lv_at hl 0 rfl) ?_
  refine gh_get C V q6 gc_QM gi_QM 4 (by decide) f_QM_35 rfl rfl d_QM_left_1 ?_
  refine gh_get C V cU gc_Ru gi_Ru 6 (by decide) f_QM_109 rfl rfl d_QM_left_4 ?_
  refine gh_reti hAe C V hr hlocks d_QM_left_7 (by first | decide | omega | (dsimp only; omega)) (by first | decide | omega | (dsimp only; omega)) ?_
  exact ⟨rfl, rfl⟩
theorem d_QM_count_0 : decode b_QM_count 0 = .ok (.aload_n 0, 1) := by decide +kernel
theorem d_QM_count_1 : decode b_QM_count 1 = .ok (.getfield 35, 3) := by decide +kernel
theorem d_QM_count_4 : decode b_QM_count 4 = .ok (.getfield 103, 3) := by decide +kernel
theorem d_QM_count_7 : decode b_QM_count 7 = .ok (.ireturn, 1) := by decide +kernel
set_option maxHeartbeats 4000000 in
set_option maxRecDepth 100000 in
theorem c_QM_count (l : Launch) (E : gh_E) (sz : Nat) (f : gh_F) (ρ Z : Nat → Nat) (tx : Nat → Nat) (n : Nat) (bd : Int32) (dc : Nat) (X : vt) (q0 q1 N : Nat) (cb bg : Nat → Nat) (N1 : Nat) (cb1 bg1 : Nat → Nat) (φ : Nat) (en : Int32) (xs : List vt) (hA : qf_A E ρ Z f tx n bd dc X q0 q1 N cb bg N1 cb1 bg1 φ en xs) : gh_M l y_QM_count b_QM_count 1 (some .int) E sz [.ref (Z 6)] f { frames := 2, cells := 0, slots := 0, locals := 40 } (fun r g => r = some (.int (nI xs.length)) ∧ g = f) := by
  refine gh_open (by decide) (Nat.le_of_ble_eq_true rfl) ?_
  intro p e s m args below meth c A ls hAe C V hr hlocks hname hl
  have hx := C.1
  have hb := C.2.1
  have hl : lv_has ls 1 [(0, .ref (Z 6))] := hl
  obtain ⟨q6, qK, q8, q9, qG, qW, qU, qRK, qRG, qRS, qP, qD, qQ, qp⟩ := id hA
  have qz := qK.1
  obtain ⟨tv, t1, t2, u8⟩ := id q8
  obtain ⟨qv, qb0, cU⟩ := id qU
  obtain ⟨cQ0, cQ1, cQ2⟩ := id qQ
  have q6 : f (Z 6) = some (.inr (0, [.ref (Z 7), .int (nI n), .ref (Z 8), .ref (Z 10), .ref (Z 1), .ref dc, .ref (Z q0), .ref (Z q1)])) := q6
  refine lv_aload_n hx hb d_QM_count_0 rfl (lv_at hl 0 rfl) ?_
  refine gh_get C V q6 gc_QM gi_QM 4 (by decide) f_QM_35 rfl rfl d_QM_count_1 ?_
  refine gh_get C V cU gc_Ru gi_Ru 7 (by decide) f_QM_103 rfl rfl d_QM_count_4 ?_
  refine gh_reti hAe C V hr hlocks d_QM_count_7 (by first | decide | omega | (dsimp only; omega)) (by first | decide | omega | (dsimp only; omega)) ?_
  exact ⟨rfl, rfl⟩
theorem d_QM_isAmount_0 : decode b_QM_isAmount 0 = .ok (.iload_n 0, 1) := by decide +kernel
theorem d_QM_isAmount_1 : decode b_QM_isAmount 1 = .ok (.iconst 1, 1) := by decide +kernel
theorem d_QM_isAmount_2 : decode b_QM_isAmount 2 = .ok (.if_icmp .lt 13, 3) := by decide +kernel
theorem d_QM_isAmount_5 : decode b_QM_isAmount 5 = .ok (.iload_n 0, 1) := by decide +kernel
theorem d_QM_isAmount_6 : decode b_QM_isAmount 6 = .ok (.bipush 8, 2) := by decide +kernel
theorem d_QM_isAmount_8 : decode b_QM_isAmount 8 = .ok (.if_icmp .gt 7, 3) := by decide +kernel
theorem d_QM_isAmount_11 : decode b_QM_isAmount 11 = .ok (.iconst 1, 1) := by decide +kernel
theorem d_QM_isAmount_12 : decode b_QM_isAmount 12 = .ok (.goto 4, 3) := by decide +kernel
theorem d_QM_isAmount_15 : decode b_QM_isAmount 15 = .ok (.iconst 0, 1) := by decide +kernel
theorem d_QM_isAmount_16 : decode b_QM_isAmount 16 = .ok (.ireturn, 1) := by decide +kernel
set_option maxHeartbeats 4000000 in
set_option maxRecDepth 100000 in
theorem c_QM_isAmount (l : Launch) (E : gh_E) (sz : Nat) (f : gh_F) (y : Int32) : gh_M l y_QM_isAmount b_QM_isAmount 1 (some .boolean) E sz [.int y] f { frames := 1, cells := 0, slots := 0, locals := 20 } (fun r g => r = some (.int (gh_bi (decide (1 ≤ y ∧ y ≤ 8)))) ∧ g = f) := by
  refine gh_open (by decide) (Nat.le_of_ble_eq_true rfl) ?_
  intro p e s m args below meth c A ls hAe C V hr hlocks hname hl
  have hx := C.1
  have hb := C.2.1
  have hl : lv_has ls 1 [(0, .int y)] := hl
  by_cases h1 : 1 ≤ y
  · by_cases h2 : y ≤ 8
    · rw [decide_eq_true ⟨h1, h2⟩]
      refine lv_iload_n hx hb d_QM_isAmount_0 rfl (lv_at hl 0 rfl) ?_
      refine lv_iconst (v := 1) hx hb d_QM_isAmount_1 (by decide) ?_
      refine lv_icmp_lt (tgt := 15) hx hb d_QM_isAmount_2 (by decide) (fun c1 => absurd c1 (Int32.not_lt.mpr h1)) (fun c1 => ?_)
      refine lv_iload_n hx hb d_QM_isAmount_5 rfl (lv_at hl 0 rfl) ?_
      refine lv_bipush (v := 8) hx hb d_QM_isAmount_6 (by decide) ?_
      refine lv_icmp_gt (tgt := 15) hx hb d_QM_isAmount_8 (by decide) (fun c2 => absurd c2 (Int32.not_lt.mpr h2)) (fun c2 => ?_)
      refine lv_iconst (v := 1) hx hb d_QM_isAmount_11 (by decide) ?_
      refine lv_goto (tgt := 16) hx hb d_QM_isAmount_12 (by decide) ?_
      refine gh_retz hAe C V hr (by first | rfl | exact gh_bi_nar _ | decide) hlocks d_QM_isAmount_16 (by first | decide | omega | (dsimp only; omega)) (by first | decide | omega | (dsimp only; omega)) ?_
      exact ⟨rfl, rfl⟩
    · rw [decide_eq_false (fun z => h2 z.2)]
      refine lv_iload_n hx hb d_QM_isAmount_0 rfl (lv_at hl 0 rfl) ?_
      refine lv_iconst (v := 1) hx hb d_QM_isAmount_1 (by decide) ?_
      refine lv_icmp_lt (tgt := 15) hx hb d_QM_isAmount_2 (by decide) (fun c3 => absurd c3 (Int32.not_lt.mpr h1)) (fun c3 => ?_)
      refine lv_iload_n hx hb d_QM_isAmount_5 rfl (lv_at hl 0 rfl) ?_
      refine lv_bipush (v := 8) hx hb d_QM_isAmount_6 (by decide) ?_
      refine lv_icmp_gt (tgt := 15) hx hb d_QM_isAmount_8 (by decide) (fun c4 => ?_) (fun c4 => absurd (Int32.not_le.mp h2) c4)
      refine lv_iconst (v := 0) hx hb d_QM_isAmount_15 (by decide) ?_
      refine gh_retz hAe C V hr (by first | rfl | exact gh_bi_nar _ | decide) hlocks d_QM_isAmount_16 (by first | decide | omega | (dsimp only; omega)) (by first | decide | omega | (dsimp only; omega)) ?_
      exact ⟨rfl, rfl⟩
  · rw [decide_eq_false (fun z => h1 z.1)]
    refine lv_iload_n hx hb d_QM_isAmount_0 rfl (lv_at hl 0 rfl) ?_
    refine lv_iconst (v := 1) hx hb d_QM_isAmount_1 (by decide) ?_
    refine lv_icmp_lt (tgt := 15) hx hb d_QM_isAmount_2 (by decide) (fun c5 => ?_) (fun c5 => absurd (Int32.not_le.mp h1) c5)
    refine lv_iconst (v := 0) hx hb d_QM_isAmount_15 (by decide) ?_
    refine gh_retz hAe C V hr (by first | rfl | exact gh_bi_nar _ | decide) hlocks d_QM_isAmount_16 (by first | decide | omega | (dsimp only; omega)) (by first | decide | omega | (dsimp only; omega)) ?_
    exact ⟨rfl, rfl⟩
theorem d_QM_byteOf_0 : decode b_QM_byteOf 0 = .ok (.lload_n 0, 1) := by decide +kernel
theorem d_QM_byteOf_1 : decode b_QM_byteOf 1 = .ok (.bipush 8, 2) := by decide +kernel
theorem d_QM_byteOf_3 : decode b_QM_byteOf 3 = .ok (.iload_n 2, 1) := by decide +kernel
theorem d_QM_byteOf_4 : decode b_QM_byteOf 4 = .ok (.iconst 1, 1) := by decide +kernel
theorem d_QM_byteOf_5 : decode b_QM_byteOf 5 = .ok (.isub, 1) := by decide +kernel
theorem d_QM_byteOf_6 : decode b_QM_byteOf 6 = .ok (.iload_n 3, 1) := by decide +kernel
theorem d_QM_byteOf_7 : decode b_QM_byteOf 7 = .ok (.isub, 1) := by decide +kernel
theorem d_QM_byteOf_8 : decode b_QM_byteOf 8 = .ok (.imul, 1) := by decide +kernel
theorem d_QM_byteOf_9 : decode b_QM_byteOf 9 = .ok (.lushr, 1) := by decide +kernel
theorem d_QM_byteOf_10 : decode b_QM_byteOf 10 = .ok (.l2i, 1) := by decide +kernel
theorem d_QM_byteOf_11 : decode b_QM_byteOf 11 = .ok (.sipush 255, 3) := by decide +kernel
theorem d_QM_byteOf_14 : decode b_QM_byteOf 14 = .ok (.iand, 1) := by decide +kernel
theorem d_QM_byteOf_15 : decode b_QM_byteOf 15 = .ok (.ireturn, 1) := by decide +kernel
set_option maxHeartbeats 4000000 in
set_option maxRecDepth 100000 in
theorem c_QM_byteOf (l : Launch) (E : gh_E) (sz : Nat) (f : gh_F) (x : Int64) (mm i9 : Nat) (hm : mm ≤ 8) (hi9 : i9 < mm) : gh_M l y_QM_byteOf b_QM_byteOf 4 (some .int) E sz [.long x, .int (nI mm), .int (nI i9)] f { frames := 1, cells := 0, slots := 0, locals := 20 } (fun r g => r = some (.int (nI (by_n x (mm - 1 - i9)))) ∧ g = f) := by
  refine gh_open (by decide) (Nat.le_of_ble_eq_true rfl) ?_
  intro p e s m args below meth c A ls hAe C V hr hlocks hname hl
  have hx := C.1
  have hb := C.2.1
  have hl : lv_has ls 4 [(0, .long x), (2, .int (nI mm)), (3, .int (nI i9))] := hl
  refine lv_lload_n hx hb d_QM_byteOf_0 rfl (lv_at hl 0 rfl) ?_
  refine lv_bipush (v := 8) hx hb d_QM_byteOf_1 (by decide) ?_
  refine lv_iload_n hx hb d_QM_byteOf_3 rfl (lv_at hl 1 rfl) ?_
  refine lv_iconst (v := 1) hx hb d_QM_byteOf_4 (by decide) ?_
  refine gn_isub (a := mm) (b := 1) hx hb (by omega) d_QM_byteOf_5 ?_
  refine lv_iload_n hx hb d_QM_byteOf_6 rfl (lv_at hl 2 rfl) ?_
  refine gn_isub (a := mm - 1) (b := i9) hx hb (by omega) d_QM_byteOf_7 ?_
  refine gn_imul (a := 8) (b := (mm - 1) - i9) hx hb d_QM_byteOf_8 ?_
  refine W.eq (g2 := F0 m 9 ls [.int (nI (8 * (mm - 1 - i9))), .long x]) rfl ?_
  refine lv_lushr hx hb d_QM_byteOf_9 rfl ?_
  refine lv_l2i hx hb d_QM_byteOf_10 rfl ?_
  refine lv_sipush (v := 255) hx hb d_QM_byteOf_11 (by decide) ?_
  refine lv_iand hx hb d_QM_byteOf_14 ?_
  rw [by_cl (show mm - 1 - i9 < 8 by omega)]
  refine gh_reti hAe C V hr hlocks d_QM_byteOf_15 (by first | decide | omega | (dsimp only; omega)) (by first | decide | omega | (dsimp only; omega)) ?_
  exact ⟨rfl, rfl⟩
theorem d_QM_areCharacters_0 : decode b_QM_areCharacters 0 = .ok (.iconst 0, 1) := by decide +kernel
theorem d_QM_areCharacters_1 : decode b_QM_areCharacters 1 = .ok (.istore_n 3, 1) := by decide +kernel
theorem d_QM_areCharacters_2 : decode b_QM_areCharacters 2 = .ok (.iload_n 3, 1) := by decide +kernel
theorem d_QM_areCharacters_3 : decode b_QM_areCharacters 3 = .ok (.iload_n 2, 1) := by decide +kernel
theorem d_QM_areCharacters_4 : decode b_QM_areCharacters 4 = .ok (.if_icmp .ge 33, 3) := by decide +kernel
theorem d_QM_areCharacters_7 : decode b_QM_areCharacters 7 = .ok (.lload_n 0, 1) := by decide +kernel
theorem d_QM_areCharacters_8 : decode b_QM_areCharacters 8 = .ok (.iload_n 2, 1) := by decide +kernel
theorem d_QM_areCharacters_9 : decode b_QM_areCharacters 9 = .ok (.iload_n 3, 1) := by decide +kernel
theorem d_QM_areCharacters_10 : decode b_QM_areCharacters 10 = .ok (.invokestatic 82, 3) := by decide +kernel
theorem d_QM_areCharacters_13 : decode b_QM_areCharacters 13 = .ok (.istore 4, 2) := by decide +kernel
theorem d_QM_areCharacters_15 : decode b_QM_areCharacters 15 = .ok (.iload 4, 2) := by decide +kernel
theorem d_QM_areCharacters_17 : decode b_QM_areCharacters 17 = .ok (.bipush 32, 2) := by decide +kernel
theorem d_QM_areCharacters_19 : decode b_QM_areCharacters 19 = .ok (.if_icmp .lt 10, 3) := by decide +kernel
theorem d_QM_areCharacters_22 : decode b_QM_areCharacters 22 = .ok (.iload 4, 2) := by decide +kernel
theorem d_QM_areCharacters_24 : decode b_QM_areCharacters 24 = .ok (.bipush 126, 2) := by decide +kernel
theorem d_QM_areCharacters_26 : decode b_QM_areCharacters 26 = .ok (.if_icmp .le 5, 3) := by decide +kernel
theorem d_QM_areCharacters_29 : decode b_QM_areCharacters 29 = .ok (.iconst 0, 1) := by decide +kernel
theorem d_QM_areCharacters_30 : decode b_QM_areCharacters 30 = .ok (.ireturn, 1) := by decide +kernel
theorem d_QM_areCharacters_31 : decode b_QM_areCharacters 31 = .ok (.iinc 3 1, 3) := by decide +kernel
theorem d_QM_areCharacters_34 : decode b_QM_areCharacters 34 = .ok (.goto (-32), 3) := by decide +kernel
theorem d_QM_areCharacters_37 : decode b_QM_areCharacters 37 = .ok (.iconst 1, 1) := by decide +kernel
theorem d_QM_areCharacters_38 : decode b_QM_areCharacters 38 = .ok (.ireturn, 1) := by decide +kernel
set_option maxHeartbeats 4000000 in
set_option maxRecDepth 100000 in
theorem c_QM_areCharacters (l : Launch) (E : gh_E) (sz : Nat) (f : gh_F) (x : Int64) (mm : Nat) (hm : mm ≤ 8) : gh_M l y_QM_areCharacters b_QM_areCharacters 5 (some .boolean) E sz [.long x, .int (nI mm)] f { frames := 2, cells := 0, slots := 0, locals := 60 } (fun r g => ((r = some (.int 1) ∧ ∀ k, k < mm → by_ok x k) ∨ (r = some (.int 0) ∧ ¬ ∀ k, k < mm → by_ok x k)) ∧ g = f) := by
  refine gh_open (by decide) (Nat.le_of_ble_eq_true rfl) ?_
  intro p e s m args below meth c A ls hAe C V hr hlocks hname hl
  have hx := C.1
  have hb := C.2.1
  have hl : lv_has ls 5 [(0, .long x), (2, .int (nI mm))] := hl
  refine lv_iconst (v := 0) hx hb d_QM_areCharacters_0 (by decide) ?_
  refine lv_istore_n hx hb d_QM_areCharacters_1 rfl hl (by decide) rfl (fun ls hl => ?_)
  have hl : lv_has ls 5 [(3, .int 0), (0, .long x), (2, .int (nI mm))] := hl
  have hl : lv_has ls 5 [(3, .int 0), (0, .long x), (2, .int (nI mm))] := lv_sub hl [0, 1, 2] rfl
  have hl : lv_has ls 5 [(3, .int (nI 0)), (0, .long x), (2, .int (nI mm))] := hl
  have loop : ∀ (m9 i9 : Nat) (H : Heap) (locs : List Loc) (ls : Array Slot), i9 + m9 = mm → (∀ j, j < i9 → by_ok x (mm - 1 - j)) → gh_V E A f s H locs → lv_has ls 5 [(3, .int (nI i9)), (0, .long x), (2, .int (nI mm))] → W p l e { frames := 2, cells := 0, slots := 0, locals := 60 } s m args below meth c H locs 0 0 (MQ below (gh_Q E f (fun r g => ((r = some (.int 1) ∧ ∀ k, k < mm → by_ok x k) ∨ (r = some (.int 0) ∧ ¬ ∀ k, k < mm → by_ok x k)) ∧ g = f)) args s 0 0 A) (F0 m 2 ls []) := by
    intro m9
    induction m9 with
    | zero =>
      intro i9 H locs ls hi hall V hl
      refine lv_iload_n hx hb d_QM_areCharacters_2 rfl (lv_at hl 0 rfl) ?_
      refine lv_iload_n hx hb d_QM_areCharacters_3 rfl (lv_at hl 2 rfl) ?_
      refine lv_icmp_ge (tgt := 37) hx hb d_QM_areCharacters_4 (by decide) (fun c1 => ?_) (fun c1 => absurd (nI_le (by omega) (by omega)) c1)
      refine lv_iconst (v := 1) hx hb d_QM_areCharacters_37 (by decide) ?_
      refine gh_retz hAe C V hr (by first | rfl | exact gh_bi_nar _ | decide) hlocks d_QM_areCharacters_38 (by first | decide | omega | (dsimp only; omega)) (by first | decide | omega | (dsimp only; omega)) ?_
      exact ⟨Or.inl ⟨rfl, fun k hk => by have := hall (mm - 1 - k) (by omega); rw [show mm - 1 - (mm - 1 - k) = k by omega] at this; exact this⟩, rfl⟩
    | succ m9 ih =>
      intro i9 H locs ls hi hall V hl
      refine lv_iload_n hx hb d_QM_areCharacters_2 rfl (lv_at hl 0 rfl) ?_
      refine lv_iload_n hx hb d_QM_areCharacters_3 rfl (lv_at hl 2 rfl) ?_
      refine lv_icmp_ge (tgt := 37) hx hb d_QM_areCharacters_4 (by decide) (fun c2 => absurd c2 (nI_ge (by omega) (by omega))) (fun c2 => ?_)
      refine lv_lload_n hx hb d_QM_areCharacters_7 rfl (lv_at hl 1 rfl) ?_
      refine lv_iload_n hx hb d_QM_areCharacters_8 rfl (lv_at hl 2 rfl) ?_
      refine lv_iload_n hx hb d_QM_areCharacters_9 rfl (lv_at hl 0 rfl) ?_
      refine gh_callS C V hl.1 m_QM_byteOf l_QM_82 (c_QM_byteOf l E _ _ x mm i9 hm (by omega)) rfl ⟨by first | decide | omega | (dsimp only; omega), by first | decide | omega | (dsimp only; omega)⟩ ⟨by first | decide | omega | (dsimp only; omega), by first | decide | omega | (dsimp only; omega)⟩ (Nat.le_of_ble_eq_true rfl) rfl d_QM_areCharacters_10 (fun r g1_ H locs hp9 V1 => ?_)
      obtain ⟨rfl, he9⟩ := hp9
      rw [he9] at V1
      have V := V1
      refine W.eq (g2 := F0 m 13 ls [.int (nI (by_n x (mm - 1 - i9)))]) rfl ?_
      have hlt := by_n_lt (x := x) (k := mm - 1 - i9)
      refine lv_istore hx hb d_QM_areCharacters_13 hl (by decide) rfl (fun ls hl => ?_)
      have hl : lv_has ls 5 [(4, .int (nI (by_n x (mm - 1 - i9)))), (3, .int (nI i9)), (0, .long x), (2, .int (nI mm))] := hl
      by_cases h1 : 32 ≤ by_n x (mm - 1 - i9)
      · by_cases h2 : by_n x (mm - 1 - i9) ≤ 126
        · refine lv_iload hx hb d_QM_areCharacters_15 (lv_at hl 0 rfl) ?_
          refine lv_bipush (v := 32) hx hb d_QM_areCharacters_17 (by decide) ?_
          refine lv_icmp_lt (tgt := 29) hx hb d_QM_areCharacters_19 (by decide) (fun c3 => absurd c3 (fun z => absurd ((gq_lt (a := by_n x (mm - 1 - i9)) (b := 32) (by omega) (by omega)).mp z) (by omega))) (fun c3 => ?_)
          refine lv_iload hx hb d_QM_areCharacters_22 (lv_at hl 0 rfl) ?_
          refine lv_bipush (v := 126) hx hb d_QM_areCharacters_24 (by decide) ?_
          refine lv_icmp_le (tgt := 31) hx hb d_QM_areCharacters_26 (by decide) (fun c4 => ?_) (fun c4 => absurd ((gq_le (a := by_n x (mm - 1 - i9)) (b := 126) (by omega) (by omega)).mpr h2) c4)
          refine lv_iinc (k := 1) (v := (nI i9) + 1) hx hb d_QM_areCharacters_31 hl rfl (by rfl) (by decide) rfl (fun ls hl => ?_)
          have hl : lv_has ls 5 [(3, .int (nI (i9 + 1))), (4, .int (nI (by_n x (mm - 1 - i9)))), (0, .long x), (2, .int (nI mm))] := by rw [nI_succ]; exact hl
          refine lv_goto (tgt := 2) hx hb d_QM_areCharacters_34 (by decide) ?_
          have hl : lv_has ls 5 [(3, .int (nI (i9 + 1))), (0, .long x), (2, .int (nI mm))] := lv_sub hl [0, 2, 3] rfl
          have hl : lv_has ls 5 [(3, .int (nI (i9 + 1))), (0, .long x), (2, .int (nI mm))] := hl
          exact ih (i9 + 1) H _ ls (by omega) (fun j hj => by rcases Nat.lt_succ_iff_lt_or_eq.mp hj with h | h; exact hall j h; rw [h]; exact ⟨h1, h2⟩) V hl
        · refine lv_iload hx hb d_QM_areCharacters_15 (lv_at hl 0 rfl) ?_
          refine lv_bipush (v := 32) hx hb d_QM_areCharacters_17 (by decide) ?_
          refine lv_icmp_lt (tgt := 29) hx hb d_QM_areCharacters_19 (by decide) (fun c5 => absurd c5 (fun z => absurd ((gq_lt (a := by_n x (mm - 1 - i9)) (b := 32) (by omega) (by omega)).mp z) (by omega))) (fun c5 => ?_)
          refine lv_iload hx hb d_QM_areCharacters_22 (lv_at hl 0 rfl) ?_
          refine lv_bipush (v := 126) hx hb d_QM_areCharacters_24 (by decide) ?_
          refine lv_icmp_le (tgt := 31) hx hb d_QM_areCharacters_26 (by decide) (fun c6 => absurd c6 (fun z => absurd ((gq_le (a := by_n x (mm - 1 - i9)) (b := 126) (by omega) (by omega)).mp z) h2)) (fun c6 => ?_)
          refine lv_iconst (v := 0) hx hb d_QM_areCharacters_29 (by decide) ?_
          refine gh_retz hAe C V hr (by first | rfl | exact gh_bi_nar _ | decide) hlocks d_QM_areCharacters_30 (by first | decide | omega | (dsimp only; omega)) (by first | decide | omega | (dsimp only; omega)) ?_
          exact ⟨Or.inr ⟨rfl, fun z => h2 (z (mm - 1 - i9) (by omega)).2⟩, rfl⟩
      · refine lv_iload hx hb d_QM_areCharacters_15 (lv_at hl 0 rfl) ?_
        refine lv_bipush (v := 32) hx hb d_QM_areCharacters_17 (by decide) ?_
        refine lv_icmp_lt (tgt := 29) hx hb d_QM_areCharacters_19 (by decide) (fun c7 => ?_) (fun c7 => absurd ((gq_lt (a := by_n x (mm - 1 - i9)) (b := 32) (by omega) (by omega)).mpr (by omega)) c7)
        refine lv_iconst (v := 0) hx hb d_QM_areCharacters_29 (by decide) ?_
        refine gh_retz hAe C V hr (by first | rfl | exact gh_bi_nar _ | decide) hlocks d_QM_areCharacters_30 (by first | decide | omega | (dsimp only; omega)) (by first | decide | omega | (dsimp only; omega)) ?_
        exact ⟨Or.inr ⟨rfl, fun z => h1 (z (mm - 1 - i9) (by omega)).1⟩, rfl⟩
  exact loop mm 0 s.heap _ ls (by omega) (fun j hj => absurd hj (Nat.not_lt_zero j)) V hl
theorem d_Ru_valueAt_0 : decode b_Ru_valueAt 0 = .ok (.iload_n 1, 1) := by decide +kernel
theorem d_Ru_valueAt_1 : decode b_Ru_valueAt 1 = .ok (.ifCond .lt 20, 3) := by decide +kernel
theorem d_Ru_valueAt_4 : decode b_Ru_valueAt 4 = .ok (.iload_n 1, 1) := by decide +kernel
theorem d_Ru_valueAt_5 : decode b_Ru_valueAt 5 = .ok (.aload_n 0, 1) := by decide +kernel
theorem d_Ru_valueAt_6 : decode b_Ru_valueAt 6 = .ok (.getfield 41, 3) := by decide +kernel
theorem d_Ru_valueAt_9 : decode b_Ru_valueAt 9 = .ok (.if_icmp .ge 12, 3) := by decide +kernel
theorem d_Ru_valueAt_12 : decode b_Ru_valueAt 12 = .ok (.aload_n 0, 1) := by decide +kernel
theorem d_Ru_valueAt_13 : decode b_Ru_valueAt 13 = .ok (.getfield 33, 3) := by decide +kernel
theorem d_Ru_valueAt_16 : decode b_Ru_valueAt 16 = .ok (.iload_n 1, 1) := by decide +kernel
theorem d_Ru_valueAt_17 : decode b_Ru_valueAt 17 = .ok (.aaload, 1) := by decide +kernel
theorem d_Ru_valueAt_18 : decode b_Ru_valueAt 18 = .ok (.goto 4, 3) := by decide +kernel
theorem d_Ru_valueAt_21 : decode b_Ru_valueAt 21 = .ok (.aconst_null, 1) := by decide +kernel
theorem d_Ru_valueAt_22 : decode b_Ru_valueAt 22 = .ok (.areturn, 1) := by decide +kernel
set_option maxHeartbeats 4000000 in
set_option maxRecDepth 100000 in
theorem c_Ru_valueAt (l : Launch) (E : gh_E) (sz : Nat) (f : gh_F) (ρ Z : Nat → Nat) (tx : Nat → Nat) (n : Nat) (bd : Int32) (dc : Nat) (X : vt) (q0 q1 N : Nat) (cb bg : Nat → Nat) (N1 : Nat) (cb1 bg1 : Nat → Nat) (φ : Nat) (en : Int32) (xs : List vt) (k : Int32) (hA : qf_A E ρ Z f tx n bd dc X q0 q1 N cb bg N1 cb1 bg1 φ en xs) : gh_M l y_Ru_valueAt b_Ru_valueAt 2 (some (.object "QueryMachine$Value")) E sz [.ref (Z 1), .int k] f { frames := 1, cells := 0, slots := 0, locals := 20 } (fun r g => ((∃ j v, j < xs.length ∧ k = nI j ∧ r = some (.ref v) ∧ cw E (rP ρ) f v (xs.getD j (vt_0 0))) ∨ (qf_o xs k ∧ r = some .null)) ∧ g = f) := by
  refine gh_open (by decide) (Nat.le_of_ble_eq_true rfl) ?_
  intro p e s m args below meth c A ls hAe C V hr hlocks hname hl
  have hx := C.1
  have hb := C.2.1
  have hl : lv_has ls 2 [(0, .ref (Z 1)), (1, .int k)] := hl
  obtain ⟨q6, qK, q8, q9, qG, qW, qU, qRK, qRG, qRS, qP, qD, qQ, qp⟩ := id hA
  have qz := qK.1
  obtain ⟨tv, t1, t2, u8⟩ := id q8
  obtain ⟨qv, qb0, cU⟩ := id qU
  obtain ⟨cQ0, cQ1, cQ2⟩ := id qQ
  have q6 : f (Z 6) = some (.inr (0, [.ref (Z 7), .int (nI n), .ref (Z 8), .ref (Z 10), .ref (Z 1), .ref dc, .ref (Z q0), .ref (Z q1)])) := q6
  obtain ⟨gp, op, hp2, hp16, hpo⟩ := id qP
  by_cases h1 : k < 0
  · refine lv_iload_n hx hb d_Ru_valueAt_0 rfl (lv_at hl 1 rfl) ?_
    refine lv_if_lt (tgt := 21) hx hb d_Ru_valueAt_1 (by decide) (fun c1 => ?_) (fun c1 => absurd h1 c1)
    refine lv_null hx hb d_Ru_valueAt_21 ?_
    refine gh_reta hAe C V hr (by first | exact Or.inl ⟨_, rfl⟩ | exact Or.inr ⟨_, rfl⟩) (by first | exact Or.inl rfl | exact Or.inr ⟨_, rfl⟩) hlocks d_Ru_valueAt_22 (by first | decide | omega | (dsimp only; omega)) (by first | decide | omega | (dsimp only; omega)) ?_
    exact ⟨Or.inr ⟨Or.inl h1, rfl⟩, rfl⟩
  · by_cases h2 : k < nI xs.length
    · obtain ⟨j9, hj9, hk9⟩ := fa_of (by omega) h1 h2
      refine lv_iload_n hx hb d_Ru_valueAt_0 rfl (lv_at hl 1 rfl) ?_
      refine lv_if_lt (tgt := 21) hx hb d_Ru_valueAt_1 (by decide) (fun c2 => absurd c2 h1) (fun c2 => ?_)
      refine lv_iload_n hx hb d_Ru_valueAt_4 rfl (lv_at hl 1 rfl) ?_
      refine lv_aload_n hx hb d_Ru_valueAt_5 rfl (lv_at hl 0 rfl) ?_
      refine gh_get C V cU gc_Ru gi_Ru 7 (by decide) f_Ru_41 rfl rfl d_Ru_valueAt_6 ?_
      refine lv_icmp_ge (tgt := 21) hx hb d_Ru_valueAt_9 (by decide) (fun c3 => absurd c3 (Int32.not_le.mpr h2)) (fun c3 => ?_)
      refine lv_aload_n hx hb d_Ru_valueAt_12 rfl (lv_at hl 0 rfl) ?_
      refine gh_get C V cU gc_Ru gi_Ru 3 (by decide) f_Ru_33 rfl rfl d_Ru_valueAt_13 ?_
      refine lv_iload_n hx hb d_Ru_valueAt_16 rfl (lv_at hl 1 rfl) ?_
      refine W.eq (g2 := F0 m 17 ls [.int (nI j9), .ref (Z 2)]) (by rw [hk9]) ?_
      refine gn_aald (t0 := 4) (i := j9) (v := op j9) C V rfl hp2 (by omega) (by decide) (hpo j9 hj9).1 d_Ru_valueAt_17 ?_
      refine lv_goto (tgt := 22) hx hb d_Ru_valueAt_18 (by decide) ?_
      refine gh_reta hAe C V hr (by first | exact Or.inl ⟨_, rfl⟩ | exact Or.inr ⟨_, rfl⟩) (by first | exact Or.inl rfl | exact Or.inr ⟨_, rfl⟩) hlocks d_Ru_valueAt_22 (by first | decide | omega | (dsimp only; omega)) (by first | decide | omega | (dsimp only; omega)) ?_
      exact ⟨Or.inl ⟨j9, _, hj9, hk9, rfl, (hpo j9 hj9).2⟩, rfl⟩
    · refine lv_iload_n hx hb d_Ru_valueAt_0 rfl (lv_at hl 1 rfl) ?_
      refine lv_if_lt (tgt := 21) hx hb d_Ru_valueAt_1 (by decide) (fun c4 => absurd c4 h1) (fun c4 => ?_)
      refine lv_iload_n hx hb d_Ru_valueAt_4 rfl (lv_at hl 1 rfl) ?_
      refine lv_aload_n hx hb d_Ru_valueAt_5 rfl (lv_at hl 0 rfl) ?_
      refine gh_get C V cU gc_Ru gi_Ru 7 (by decide) f_Ru_41 rfl rfl d_Ru_valueAt_6 ?_
      refine lv_icmp_ge (tgt := 21) hx hb d_Ru_valueAt_9 (by decide) (fun c5 => ?_) (fun c5 => absurd (Int32.not_lt.mp h2) c5)
      refine lv_null hx hb d_Ru_valueAt_21 ?_
      refine gh_reta hAe C V hr (by first | exact Or.inl ⟨_, rfl⟩ | exact Or.inr ⟨_, rfl⟩) (by first | exact Or.inl rfl | exact Or.inr ⟨_, rfl⟩) hlocks d_Ru_valueAt_22 (by first | decide | omega | (dsimp only; omega)) (by first | decide | omega | (dsimp only; omega)) ?_
      exact ⟨Or.inr ⟨Or.inr h2, rfl⟩, rfl⟩
