/-! written of the model. Printed by wip/whole/gen_mo33.py. -/
theorem d_Mo_written_0 : decode b_Mo_written 0 = .ok (.aload_n 0, 1) := by decide +kernel
theorem d_Mo_written_1 : decode b_Mo_written 1 = .ok (.iload_n 1, 1) := by decide +kernel
theorem d_Mo_written_2 : decode b_Mo_written 2 = .ok (.invokevirtual 410, 3) := by decide +kernel
theorem d_Mo_written_5 : decode b_Mo_written 5 = .ok (.istore_n 3, 1) := by decide +kernel
theorem d_Mo_written_6 : decode b_Mo_written 6 = .ok (.iload_n 3, 1) := by decide +kernel
theorem d_Mo_written_7 : decode b_Mo_written 7 = .ok (.ifCond .ne 13, 3) := by decide +kernel
theorem d_Mo_written_10 : decode b_Mo_written 10 = .ok (.aload_n 0, 1) := by decide +kernel
theorem d_Mo_written_11 : decode b_Mo_written 11 = .ok (.aload_n 0, 1) := by decide +kernel
theorem d_Mo_written_12 : decode b_Mo_written 12 = .ok (.iload_n 1, 1) := by decide +kernel
theorem d_Mo_written_13 : decode b_Mo_written 13 = .ok (.invokevirtual 413, 3) := by decide +kernel
theorem d_Mo_written_16 : decode b_Mo_written 16 = .ok (.iload_n 2, 1) := by decide +kernel
theorem d_Mo_written_17 : decode b_Mo_written 17 = .ok (.invokevirtual 416, 3) := by decide +kernel
theorem d_Mo_written_20 : decode b_Mo_written 20 = .ok (.aload_n 0, 1) := by decide +kernel
theorem d_Mo_written_21 : decode b_Mo_written 21 = .ok (.iload_n 3, 1) := by decide +kernel
theorem d_Mo_written_22 : decode b_Mo_written 22 = .ok (.iload_n 2, 1) := by decide +kernel
theorem d_Mo_written_23 : decode b_Mo_written 23 = .ok (.iconst (-1), 1) := by decide +kernel
theorem d_Mo_written_24 : decode b_Mo_written 24 = .ok (.if_icmp .lt 11, 3) := by decide +kernel
theorem d_Mo_written_27 : decode b_Mo_written 27 = .ok (.iload_n 2, 1) := by decide +kernel
theorem d_Mo_written_28 : decode b_Mo_written 28 = .ok (.aload_n 0, 1) := by decide +kernel
theorem d_Mo_written_29 : decode b_Mo_written 29 = .ok (.getfield 379, 3) := by decide +kernel
theorem d_Mo_written_32 : decode b_Mo_written 32 = .ok (.if_icmp .lt 7, 3) := by decide +kernel
theorem d_Mo_written_35 : decode b_Mo_written 35 = .ok (.iconst 1, 1) := by decide +kernel
theorem d_Mo_written_36 : decode b_Mo_written 36 = .ok (.goto 4, 3) := by decide +kernel
theorem d_Mo_written_39 : decode b_Mo_written 39 = .ok (.iconst 0, 1) := by decide +kernel
theorem d_Mo_written_40 : decode b_Mo_written 40 = .ok (.invokevirtual 251, 3) := by decide +kernel
theorem d_Mo_written_43 : decode b_Mo_written 43 = .ok (.ifCond .eq 5, 3) := by decide +kernel
theorem d_Mo_written_46 : decode b_Mo_written 46 = .ok (.iconst 0, 1) := by decide +kernel
theorem d_Mo_written_47 : decode b_Mo_written 47 = .ok (.ireturn, 1) := by decide +kernel
theorem d_Mo_written_48 : decode b_Mo_written 48 = .ok (.iload_n 2, 1) := by decide +kernel
theorem d_Mo_written_49 : decode b_Mo_written 49 = .ok (.ifCond .ge 10, 3) := by decide +kernel
theorem d_Mo_written_52 : decode b_Mo_written 52 = .ok (.aload_n 0, 1) := by decide +kernel
theorem d_Mo_written_53 : decode b_Mo_written 53 = .ok (.getfield 379, 3) := by decide +kernel
theorem d_Mo_written_56 : decode b_Mo_written 56 = .ok (.goto 7, 3) := by decide +kernel
theorem d_Mo_written_59 : decode b_Mo_written 59 = .ok (.aload_n 0, 1) := by decide +kernel
theorem d_Mo_written_60 : decode b_Mo_written 60 = .ok (.getfield 385, 3) := by decide +kernel
theorem d_Mo_written_63 : decode b_Mo_written 63 = .ok (.ireturn, 1) := by decide +kernel
set_option maxHeartbeats 4000000 in
set_option maxRecDepth 100000 in
theorem c_Mo_written0 (l : Launch) (E : gh_E) (sz : Nat) (f : gh_F) (a : Nat) (ad : Nat → Nat) (S : Nat → Int32) (I : Nat → Nat → Int32) (J : Nat → Nat → Int64) (k i : Int32) (hX : mo_R E f a ad S I J) (hno : (decide (k < -1) || !decide (k < S 51)) = true) : gh_M l y_Mo_written b_Mo_written 4 (some .int) E sz [.ref a, .int k, .int i] f { frames := 12, cells := 0, slots := 0, locals := 320 } (fun r g => r = some (.int 0) ∧ mo_X E f g a ad (va_up S 0 1) I J) := by
  refine gh_open (by decide) (Nat.le_of_ble_eq_true rfl) ?_
  intro p e s m args below meth c A ls hAe C V hr hlocks hname hl
  have hx := C.1
  have hb := C.2.1
  have hl : lv_has ls 4 [(0, .ref a), (1, .int k), (2, .int i)] := hl
  have X : mo_X E f f a ad S I J := ⟨hX, gh_fr.rf⟩
  refine lv_aload_n hx hb d_Mo_written_0 rfl (lv_at hl 0 rfl) ?_
  refine lv_iload_n hx hb d_Mo_written_1 rfl (lv_at hl 1 rfl) ?_
  refine gh_callV C V hl.1 m_Mo_isNone l_Mo_410 (c_Mo_isNone l E _ _ a ad _ _ _ k X.1) rfl X.1.1 gc_Mo ⟨by first | decide | omega | (dsimp only; omega), by first | decide | omega | (dsimp only; omega)⟩ ⟨by first | decide | omega | (dsimp only; omega), by first | decide | omega | (dsimp only; omega)⟩ (Nat.le_of_ble_eq_true rfl) rfl d_Mo_written_2 (fun r z9 H locs hp V1 => ?_)
  obtain ⟨rfl, he9⟩ := hp
  rw [he9] at V1
  have V := V1
  rw [hno]
  refine W.eq (g2 := F0 m 5 ls [.int (gh_bi true)]) rfl ?_
  refine lv_istore_n hx hb d_Mo_written_5 rfl hl (by decide) rfl (fun ls hl => ?_)
  have hl : lv_has ls 4 [(3, .int (gh_bi true)), (0, .ref a), (1, .int k), (2, .int i)] := hl
  refine lv_iload_n hx hb d_Mo_written_6 rfl (lv_at hl 0 rfl) ?_
  refine lv_if_ne (tgt := 20) hx hb d_Mo_written_7 (by decide) (fun c1 => ?_) (fun c1 => absurd c1 (by decide))
  refine lv_aload_n hx hb d_Mo_written_20 rfl (lv_at hl 1 rfl) ?_
  refine lv_iload_n hx hb d_Mo_written_21 rfl (lv_at hl 0 rfl) ?_
  refine lv_iload_n hx hb d_Mo_written_22 rfl (lv_at hl 3 rfl) ?_
  refine lv_iconst (v := (-1)) hx hb d_Mo_written_23 (by decide) ?_
  refine lv_icmp_lt (tgt := 35) hx hb d_Mo_written_24 (by decide) (fun c2 => ?_) (fun c2 => ?_)
  · refine lv_iconst (v := 1) hx hb d_Mo_written_35 (by decide) ?_
    refine lv_goto (tgt := 40) hx hb d_Mo_written_36 (by decide) ?_
    refine W.eq (g2 := F0 m 40 ls [.int (gh_bi true), .int (gh_bi true), .ref a]) rfl ?_
    refine gh_callV C V hl.1 m_Mo_throwing l_Mo_251 (c_Mo_throwing l E _ _ a ad _ _ _ true true X.1) rfl X.1.1 gc_Mo ⟨by first | decide | omega | (dsimp only; omega), by first | decide | omega | (dsimp only; omega)⟩ ⟨by first | decide | omega | (dsimp only; omega), by first | decide | omega | (dsimp only; omega)⟩ (Nat.le_of_ble_eq_true rfl) rfl d_Mo_written_40 (fun r z9 H locs hp V1 => ?_)
    obtain ⟨rfl, X2⟩ := hp
    have X := X.then X2
    have V := V1
    refine W.eq (g2 := F0 m 43 ls [.int (gh_bi true)]) rfl ?_
    refine lv_if_eq (tgt := 48) hx hb d_Mo_written_43 (by decide) (fun c3 => absurd c3 (by decide)) (fun c3 => ?_)
    refine lv_iconst (v := 0) hx hb d_Mo_written_46 (by decide) ?_
    refine gh_reti hAe C V hr hlocks d_Mo_written_47 (by first | decide | omega | (dsimp only; omega)) (by first | decide | omega | (dsimp only; omega)) ?_
    exact ⟨rfl, X⟩
  · refine lv_iload_n hx hb d_Mo_written_27 rfl (lv_at hl 3 rfl) ?_
    refine lv_aload_n hx hb d_Mo_written_28 rfl (lv_at hl 1 rfl) ?_
    refine mo_getS (v := S 55) C V X 55 (by decide) (by decide) (by first | rfl | exact hS55) f_Mo_379 rfl d_Mo_written_29 ?_
    refine lv_icmp_lt (tgt := 39) hx hb d_Mo_written_32 (by decide) (fun c4 => ?_) (fun c4 => ?_)
    · refine lv_iconst (v := 0) hx hb d_Mo_written_39 (by decide) ?_
      refine W.eq (g2 := F0 m 40 ls [.int (gh_bi false), .int (gh_bi true), .ref a]) rfl ?_
      refine gh_callV C V hl.1 m_Mo_throwing l_Mo_251 (c_Mo_throwing l E _ _ a ad _ _ _ true false X.1) rfl X.1.1 gc_Mo ⟨by first | decide | omega | (dsimp only; omega), by first | decide | omega | (dsimp only; omega)⟩ ⟨by first | decide | omega | (dsimp only; omega), by first | decide | omega | (dsimp only; omega)⟩ (Nat.le_of_ble_eq_true rfl) rfl d_Mo_written_40 (fun r z9 H locs hp V1 => ?_)
      obtain ⟨rfl, X2⟩ := hp
      have X := X.then X2
      have V := V1
      refine W.eq (g2 := F0 m 43 ls [.int (gh_bi true)]) rfl ?_
      refine lv_if_eq (tgt := 48) hx hb d_Mo_written_43 (by decide) (fun c5 => absurd c5 (by decide)) (fun c5 => ?_)
      refine lv_iconst (v := 0) hx hb d_Mo_written_46 (by decide) ?_
      refine gh_reti hAe C V hr hlocks d_Mo_written_47 (by first | decide | omega | (dsimp only; omega)) (by first | decide | omega | (dsimp only; omega)) ?_
      exact ⟨rfl, X⟩
    · refine lv_iconst (v := 1) hx hb d_Mo_written_35 (by decide) ?_
      refine lv_goto (tgt := 40) hx hb d_Mo_written_36 (by decide) ?_
      refine W.eq (g2 := F0 m 40 ls [.int (gh_bi true), .int (gh_bi true), .ref a]) rfl ?_
      refine gh_callV C V hl.1 m_Mo_throwing l_Mo_251 (c_Mo_throwing l E _ _ a ad _ _ _ true true X.1) rfl X.1.1 gc_Mo ⟨by first | decide | omega | (dsimp only; omega), by first | decide | omega | (dsimp only; omega)⟩ ⟨by first | decide | omega | (dsimp only; omega), by first | decide | omega | (dsimp only; omega)⟩ (Nat.le_of_ble_eq_true rfl) rfl d_Mo_written_40 (fun r z9 H locs hp V1 => ?_)
      obtain ⟨rfl, X2⟩ := hp
      have X := X.then X2
      have V := V1
      refine W.eq (g2 := F0 m 43 ls [.int (gh_bi true)]) rfl ?_
      refine lv_if_eq (tgt := 48) hx hb d_Mo_written_43 (by decide) (fun c6 => absurd c6 (by decide)) (fun c6 => ?_)
      refine lv_iconst (v := 0) hx hb d_Mo_written_46 (by decide) ?_
      refine gh_reti hAe C V hr hlocks d_Mo_written_47 (by first | decide | omega | (dsimp only; omega)) (by first | decide | omega | (dsimp only; omega)) ?_
      exact ⟨rfl, X⟩
set_option maxHeartbeats 4000000 in
set_option maxRecDepth 100000 in
theorem c_Mo_written1 (l : Launch) (E : gh_E) (sz : Nat) (f : gh_F) (a : Nat) (ad : Nat → Nat) (S : Nat → Int32) (I : Nat → Nat → Int32) (J : Nat → Nat → Int64) (k : Int32) (b nv pb np vv : Nat) (O : vt) (i : Int32) (hX : mo_R E f a ad S I J) (hno : (decide (k < -1) || !decide (k < S 51)) = false) (hv : mo_val S I k vv) (hO : mw I J b nv pb np vv O) (hp8 : np ≤ 8800) (hi : i < -1 ∨ ¬ i < nI (wr_v 8 O).length) : gh_M l y_Mo_written b_Mo_written 4 (some .int) E sz [.ref a, .int k, .int i] f { frames := 12, cells := 0, slots := 0, locals := 320 } (fun r g => r = some (.int 0) ∧ ∃ S2 I2, mo_X E f g a ad (va_up S2 0 2) I2 J ∧ (∀ q, q ≠ 54 → q ≠ 55 → q ≠ 56 → q ≠ 57 → S2 q = S q) ∧ ∀ q, q ≠ 52 → q ≠ 53 → I2 q = I q) := by
  refine gh_open (by decide) (Nat.le_of_ble_eq_true rfl) ?_
  intro p e s m args below meth c A ls hAe C V hr hlocks hname hl
  have hx := C.1
  have hb := C.2.1
  have hl : lv_has ls 4 [(0, .ref a), (1, .int k), (2, .int i)] := hl
  have X : mo_X E f f a ad S I J := ⟨hX, gh_fr.rf⟩
  refine lv_aload_n hx hb d_Mo_written_0 rfl (lv_at hl 0 rfl) ?_
  refine lv_iload_n hx hb d_Mo_written_1 rfl (lv_at hl 1 rfl) ?_
  refine gh_callV C V hl.1 m_Mo_isNone l_Mo_410 (c_Mo_isNone l E _ _ a ad _ _ _ k X.1) rfl X.1.1 gc_Mo ⟨by first | decide | omega | (dsimp only; omega), by first | decide | omega | (dsimp only; omega)⟩ ⟨by first | decide | omega | (dsimp only; omega), by first | decide | omega | (dsimp only; omega)⟩ (Nat.le_of_ble_eq_true rfl) rfl d_Mo_written_2 (fun r z9 H locs hp V1 => ?_)
  obtain ⟨rfl, he9⟩ := hp
  rw [he9] at V1
  have V := V1
  rw [hno]
  refine W.eq (g2 := F0 m 5 ls [.int (gh_bi false)]) rfl ?_
  refine lv_istore_n hx hb d_Mo_written_5 rfl hl (by decide) rfl (fun ls hl => ?_)
  have hl : lv_has ls 4 [(3, .int (gh_bi false)), (0, .ref a), (1, .int k), (2, .int i)] := hl
  refine lv_iload_n hx hb d_Mo_written_6 rfl (lv_at hl 0 rfl) ?_
  refine lv_if_ne (tgt := 20) hx hb d_Mo_written_7 (by decide) (fun c1 => absurd (by decide) c1) (fun c1 => ?_)
  refine lv_aload_n hx hb d_Mo_written_10 rfl (lv_at hl 1 rfl) ?_
  refine lv_aload_n hx hb d_Mo_written_11 rfl (lv_at hl 1 rfl) ?_
  refine lv_iload_n hx hb d_Mo_written_12 rfl (lv_at hl 2 rfl) ?_
  refine gh_callV C V hl.1 m_Mo_valueOf l_Mo_413 (c_Mo_valueOf l E _ _ a ad _ _ _ k vv X.1 (by first | exact hv | exact hv.s (by decide))) rfl X.1.1 gc_Mo ⟨by first | decide | omega | (dsimp only; omega), by first | decide | omega | (dsimp only; omega)⟩ ⟨by first | decide | omega | (dsimp only; omega), by first | decide | omega | (dsimp only; omega)⟩ (Nat.le_of_ble_eq_true rfl) rfl d_Mo_written_13 (fun r z9 H locs hp V1 => ?_)
  obtain ⟨rfl, he9⟩ := hp
  rw [he9] at V1
  have V := V1
  refine W.eq (g2 := F0 m 16 ls [.int (nI vv), .ref a]) rfl ?_
  refine lv_iload_n hx hb d_Mo_written_16 rfl (lv_at hl 3 rfl) ?_
  refine gh_callV C V hl.1 m_Mo_writeAll l_Mo_416 (c_Mo_writeAll l E _ _ a ad _ _ _ b nv pb np vv i O X.1 hO hp8) rfl X.1.1 gc_Mo ⟨by first | decide | omega | (dsimp only; omega), by first | decide | omega | (dsimp only; omega)⟩ ⟨by first | decide | omega | (dsimp only; omega), by first | decide | omega | (dsimp only; omega)⟩ (Nat.le_of_ble_eq_true rfl) rfl d_Mo_written_17 (fun r z9 H locs hp V1 => ?_)
  obtain ⟨rfl, S2, I2, X2, g55, g57, gS, gI⟩ := hp
  have X := X.then X2
  have V := V1
  have hS55 := g55
  have hlen := wr_v_max hO.2
  refine W.eq (g2 := F0 m 20 ls []) rfl ?_
  refine lv_aload_n hx hb d_Mo_written_20 rfl (lv_at hl 1 rfl) ?_
  refine lv_iload_n hx hb d_Mo_written_21 rfl (lv_at hl 0 rfl) ?_
  refine lv_iload_n hx hb d_Mo_written_22 rfl (lv_at hl 3 rfl) ?_
  refine lv_iconst (v := (-1)) hx hb d_Mo_written_23 (by decide) ?_
  refine lv_icmp_lt (tgt := 35) hx hb d_Mo_written_24 (by decide) (fun c2 => ?_) (fun c2 => ?_)
  · refine lv_iconst (v := 1) hx hb d_Mo_written_35 (by decide) ?_
    refine lv_goto (tgt := 40) hx hb d_Mo_written_36 (by decide) ?_
    refine W.eq (g2 := F0 m 40 ls [.int (gh_bi true), .int (gh_bi false), .ref a]) rfl ?_
    refine gh_callV C V hl.1 m_Mo_throwing l_Mo_251 (c_Mo_throwing l E _ _ a ad _ _ _ false true X.1) rfl X.1.1 gc_Mo ⟨by first | decide | omega | (dsimp only; omega), by first | decide | omega | (dsimp only; omega)⟩ ⟨by first | decide | omega | (dsimp only; omega), by first | decide | omega | (dsimp only; omega)⟩ (Nat.le_of_ble_eq_true rfl) rfl d_Mo_written_40 (fun r z9 H locs hp V1 => ?_)
    obtain ⟨rfl, X2⟩ := hp
    have X := X.then X2
    have V := V1
    refine W.eq (g2 := F0 m 43 ls [.int (gh_bi true)]) rfl ?_
    refine lv_if_eq (tgt := 48) hx hb d_Mo_written_43 (by decide) (fun c3 => absurd c3 (by decide)) (fun c3 => ?_)
    refine lv_iconst (v := 0) hx hb d_Mo_written_46 (by decide) ?_
    refine gh_reti hAe C V hr hlocks d_Mo_written_47 (by first | decide | omega | (dsimp only; omega)) (by first | decide | omega | (dsimp only; omega)) ?_
    exact ⟨rfl, _, _, X, gS, gI⟩
  · refine lv_iload_n hx hb d_Mo_written_27 rfl (lv_at hl 3 rfl) ?_
    refine lv_aload_n hx hb d_Mo_written_28 rfl (lv_at hl 1 rfl) ?_
    refine mo_getS (v := nI (wr_v 8 O).length) C V X 55 (by decide) (by decide) (by first | rfl | exact hS55) f_Mo_379 rfl d_Mo_written_29 ?_
    refine lv_icmp_lt (tgt := 39) hx hb d_Mo_written_32 (by decide) (fun c4 => absurd c4 (fun z => hi.elim (fun h => absurd h c2) (fun h => h z))) (fun c4 => ?_)
    refine lv_iconst (v := 1) hx hb d_Mo_written_35 (by decide) ?_
    refine lv_goto (tgt := 40) hx hb d_Mo_written_36 (by decide) ?_
    refine W.eq (g2 := F0 m 40 ls [.int (gh_bi true), .int (gh_bi false), .ref a]) rfl ?_
    refine gh_callV C V hl.1 m_Mo_throwing l_Mo_251 (c_Mo_throwing l E _ _ a ad _ _ _ false true X.1) rfl X.1.1 gc_Mo ⟨by first | decide | omega | (dsimp only; omega), by first | decide | omega | (dsimp only; omega)⟩ ⟨by first | decide | omega | (dsimp only; omega), by first | decide | omega | (dsimp only; omega)⟩ (Nat.le_of_ble_eq_true rfl) rfl d_Mo_written_40 (fun r z9 H locs hp V1 => ?_)
    obtain ⟨rfl, X2⟩ := hp
    have X := X.then X2
    have V := V1
    refine W.eq (g2 := F0 m 43 ls [.int (gh_bi true)]) rfl ?_
    refine lv_if_eq (tgt := 48) hx hb d_Mo_written_43 (by decide) (fun c5 => absurd c5 (by decide)) (fun c5 => ?_)
    refine lv_iconst (v := 0) hx hb d_Mo_written_46 (by decide) ?_
    refine gh_reti hAe C V hr hlocks d_Mo_written_47 (by first | decide | omega | (dsimp only; omega)) (by first | decide | omega | (dsimp only; omega)) ?_
    exact ⟨rfl, _, _, X, gS, gI⟩
set_option maxHeartbeats 4000000 in
set_option maxRecDepth 100000 in
theorem c_Mo_written2 (l : Launch) (E : gh_E) (sz : Nat) (f : gh_F) (a : Nat) (ad : Nat → Nat) (S : Nat → Int32) (I : Nat → Nat → Int32) (J : Nat → Nat → Int64) (k : Int32) (b nv pb np vv : Nat) (O : vt) (hX : mo_R E f a ad S I J) (hno : (decide (k < -1) || !decide (k < S 51)) = false) (hv : mo_val S I k vv) (hO : mw I J b nv pb np vv O) (hp8 : np ≤ 8800) : gh_M l y_Mo_written b_Mo_written 4 (some .int) E sz [.ref a, .int k, .int ((-1))] f { frames := 12, cells := 0, slots := 0, locals := 320 } (fun r g => r = some (.int (nI (wr_v 8 O).length)) ∧ ∃ S2 I2, mo_X E f g a ad (va_up S2 0 0) I2 J ∧ (∀ q, q ≠ 54 → q ≠ 55 → q ≠ 56 → q ≠ 57 → S2 q = S q) ∧ ∀ q, q ≠ 52 → q ≠ 53 → I2 q = I q) := by
  refine gh_open (by decide) (Nat.le_of_ble_eq_true rfl) ?_
  intro p e s m args below meth c A ls hAe C V hr hlocks hname hl
  have hx := C.1
  have hb := C.2.1
  have hl : lv_has ls 4 [(0, .ref a), (1, .int k), (2, .int ((-1)))] := hl
  have X : mo_X E f f a ad S I J := ⟨hX, gh_fr.rf⟩
  refine lv_aload_n hx hb d_Mo_written_0 rfl (lv_at hl 0 rfl) ?_
  refine lv_iload_n hx hb d_Mo_written_1 rfl (lv_at hl 1 rfl) ?_
  refine gh_callV C V hl.1 m_Mo_isNone l_Mo_410 (c_Mo_isNone l E _ _ a ad _ _ _ k X.1) rfl X.1.1 gc_Mo ⟨by first | decide | omega | (dsimp only; omega), by first | decide | omega | (dsimp only; omega)⟩ ⟨by first | decide | omega | (dsimp only; omega), by first | decide | omega | (dsimp only; omega)⟩ (Nat.le_of_ble_eq_true rfl) rfl d_Mo_written_2 (fun r z9 H locs hp V1 => ?_)
  obtain ⟨rfl, he9⟩ := hp
  rw [he9] at V1
  have V := V1
  rw [hno]
  refine W.eq (g2 := F0 m 5 ls [.int (gh_bi false)]) rfl ?_
  refine lv_istore_n hx hb d_Mo_written_5 rfl hl (by decide) rfl (fun ls hl => ?_)
  have hl : lv_has ls 4 [(3, .int (gh_bi false)), (0, .ref a), (1, .int k), (2, .int ((-1)))] := hl
  refine lv_iload_n hx hb d_Mo_written_6 rfl (lv_at hl 0 rfl) ?_
  refine lv_if_ne (tgt := 20) hx hb d_Mo_written_7 (by decide) (fun c1 => absurd (by decide) c1) (fun c1 => ?_)
  refine lv_aload_n hx hb d_Mo_written_10 rfl (lv_at hl 1 rfl) ?_
  refine lv_aload_n hx hb d_Mo_written_11 rfl (lv_at hl 1 rfl) ?_
  refine lv_iload_n hx hb d_Mo_written_12 rfl (lv_at hl 2 rfl) ?_
  refine gh_callV C V hl.1 m_Mo_valueOf l_Mo_413 (c_Mo_valueOf l E _ _ a ad _ _ _ k vv X.1 (by first | exact hv | exact hv.s (by decide))) rfl X.1.1 gc_Mo ⟨by first | decide | omega | (dsimp only; omega), by first | decide | omega | (dsimp only; omega)⟩ ⟨by first | decide | omega | (dsimp only; omega), by first | decide | omega | (dsimp only; omega)⟩ (Nat.le_of_ble_eq_true rfl) rfl d_Mo_written_13 (fun r z9 H locs hp V1 => ?_)
  obtain ⟨rfl, he9⟩ := hp
  rw [he9] at V1
  have V := V1
  refine W.eq (g2 := F0 m 16 ls [.int (nI vv), .ref a]) rfl ?_
  refine lv_iload_n hx hb d_Mo_written_16 rfl (lv_at hl 3 rfl) ?_
  refine gh_callV C V hl.1 m_Mo_writeAll l_Mo_416 (c_Mo_writeAll l E _ _ a ad _ _ _ b nv pb np vv (-1) O X.1 hO hp8) rfl X.1.1 gc_Mo ⟨by first | decide | omega | (dsimp only; omega), by first | decide | omega | (dsimp only; omega)⟩ ⟨by first | decide | omega | (dsimp only; omega), by first | decide | omega | (dsimp only; omega)⟩ (Nat.le_of_ble_eq_true rfl) rfl d_Mo_written_17 (fun r z9 H locs hp V1 => ?_)
  obtain ⟨rfl, S2, I2, X2, g55, g57, gS, gI⟩ := hp
  have X := X.then X2
  have V := V1
  have hS55 := g55
  have hlen := wr_v_max hO.2
  refine W.eq (g2 := F0 m 20 ls []) rfl ?_
  refine lv_aload_n hx hb d_Mo_written_20 rfl (lv_at hl 1 rfl) ?_
  refine lv_iload_n hx hb d_Mo_written_21 rfl (lv_at hl 0 rfl) ?_
  refine lv_iload_n hx hb d_Mo_written_22 rfl (lv_at hl 3 rfl) ?_
  refine lv_iconst (v := (-1)) hx hb d_Mo_written_23 (by decide) ?_
  refine lv_icmp_lt (tgt := 35) hx hb d_Mo_written_24 (by decide) (fun c2 => absurd c2 (by decide)) (fun c2 => ?_)
  refine lv_iload_n hx hb d_Mo_written_27 rfl (lv_at hl 3 rfl) ?_
  refine lv_aload_n hx hb d_Mo_written_28 rfl (lv_at hl 1 rfl) ?_
  refine mo_getS (v := nI (wr_v 8 O).length) C V X 55 (by decide) (by decide) (by first | rfl | exact hS55) f_Mo_379 rfl d_Mo_written_29 ?_
  refine lv_icmp_lt (tgt := 39) hx hb d_Mo_written_32 (by decide) (fun c3 => ?_) (fun c3 => absurd (Int32.lt_of_lt_of_le (show (-1 : Int32) < 0 by decide) (nI_pos' (by omega))) c3)
  refine lv_iconst (v := 0) hx hb d_Mo_written_39 (by decide) ?_
  refine W.eq (g2 := F0 m 40 ls [.int (gh_bi false), .int (gh_bi false), .ref a]) rfl ?_
  refine gh_callV C V hl.1 m_Mo_throwing l_Mo_251 (c_Mo_throwing l E _ _ a ad _ _ _ false false X.1) rfl X.1.1 gc_Mo ⟨by first | decide | omega | (dsimp only; omega), by first | decide | omega | (dsimp only; omega)⟩ ⟨by first | decide | omega | (dsimp only; omega), by first | decide | omega | (dsimp only; omega)⟩ (Nat.le_of_ble_eq_true rfl) rfl d_Mo_written_40 (fun r z9 H locs hp V1 => ?_)
  obtain ⟨rfl, X2⟩ := hp
  have X := X.then X2
  have V := V1
  refine W.eq (g2 := F0 m 43 ls [.int (gh_bi false)]) rfl ?_
  have hS55 : va_up S2 0 0 55 = nI (wr_v 8 O).length := by rw [va_up_n (by decide)]; exact g55
  refine lv_if_eq (tgt := 48) hx hb d_Mo_written_43 (by decide) (fun c4 => ?_) (fun c4 => absurd (by decide) c4)
  refine lv_iload_n hx hb d_Mo_written_48 rfl (lv_at hl 3 rfl) ?_
  refine lv_if_ge (tgt := 59) hx hb d_Mo_written_49 (by decide) (fun c5 => absurd c5 (by decide)) (fun c5 => ?_)
  refine lv_aload_n hx hb d_Mo_written_52 rfl (lv_at hl 1 rfl) ?_
  refine mo_getS (v := nI (wr_v 8 O).length) C V X 55 (by decide) (by decide) (by first | rfl | exact hS55) f_Mo_379 rfl d_Mo_written_53 ?_
  refine lv_goto (tgt := 63) hx hb d_Mo_written_56 (by decide) ?_
  refine gh_reti hAe C V hr hlocks d_Mo_written_63 (by first | decide | omega | (dsimp only; omega)) (by first | decide | omega | (dsimp only; omega)) ?_
  exact ⟨rfl, _, _, X, gS, gI⟩
set_option maxHeartbeats 4000000 in
set_option maxRecDepth 100000 in
theorem c_Mo_written3 (l : Launch) (E : gh_E) (sz : Nat) (f : gh_F) (a : Nat) (ad : Nat → Nat) (S : Nat → Int32) (I : Nat → Nat → Int32) (J : Nat → Nat → Int64) (k : Int32) (b nv pb np vv : Nat) (O : vt) (j : Nat) (hX : mo_R E f a ad S I J) (hno : (decide (k < -1) || !decide (k < S 51)) = false) (hv : mo_val S I k vv) (hO : mw I J b nv pb np vv O) (hp8 : np ≤ 8800) (hj : j < (wr_v 8 O).length) : gh_M l y_Mo_written b_Mo_written 4 (some .int) E sz [.ref a, .int k, .int (nI j)] f { frames := 12, cells := 0, slots := 0, locals := 320 } (fun r g => r = some (.int ((wr_v 8 O).getD j 0)) ∧ ∃ S2 I2, mo_X E f g a ad (va_up S2 0 0) I2 J ∧ (∀ q, q ≠ 54 → q ≠ 55 → q ≠ 56 → q ≠ 57 → S2 q = S q) ∧ ∀ q, q ≠ 52 → q ≠ 53 → I2 q = I q) := by
  refine gh_open (by decide) (Nat.le_of_ble_eq_true rfl) ?_
  intro p e s m args below meth c A ls hAe C V hr hlocks hname hl
  have hx := C.1
  have hb := C.2.1
  have hl : lv_has ls 4 [(0, .ref a), (1, .int k), (2, .int (nI j))] := hl
  have X : mo_X E f f a ad S I J := ⟨hX, gh_fr.rf⟩
  refine lv_aload_n hx hb d_Mo_written_0 rfl (lv_at hl 0 rfl) ?_
  refine lv_iload_n hx hb d_Mo_written_1 rfl (lv_at hl 1 rfl) ?_
  refine gh_callV C V hl.1 m_Mo_isNone l_Mo_410 (c_Mo_isNone l E _ _ a ad _ _ _ k X.1) rfl X.1.1 gc_Mo ⟨by first | decide | omega | (dsimp only; omega), by first | decide | omega | (dsimp only; omega)⟩ ⟨by first | decide | omega | (dsimp only; omega), by first | decide | omega | (dsimp only; omega)⟩ (Nat.le_of_ble_eq_true rfl) rfl d_Mo_written_2 (fun r z9 H locs hp V1 => ?_)
  obtain ⟨rfl, he9⟩ := hp
  rw [he9] at V1
  have V := V1
  rw [hno]
  refine W.eq (g2 := F0 m 5 ls [.int (gh_bi false)]) rfl ?_
  refine lv_istore_n hx hb d_Mo_written_5 rfl hl (by decide) rfl (fun ls hl => ?_)
  have hl : lv_has ls 4 [(3, .int (gh_bi false)), (0, .ref a), (1, .int k), (2, .int (nI j))] := hl
  refine lv_iload_n hx hb d_Mo_written_6 rfl (lv_at hl 0 rfl) ?_
  refine lv_if_ne (tgt := 20) hx hb d_Mo_written_7 (by decide) (fun c1 => absurd (by decide) c1) (fun c1 => ?_)
  refine lv_aload_n hx hb d_Mo_written_10 rfl (lv_at hl 1 rfl) ?_
  refine lv_aload_n hx hb d_Mo_written_11 rfl (lv_at hl 1 rfl) ?_
  refine lv_iload_n hx hb d_Mo_written_12 rfl (lv_at hl 2 rfl) ?_
  refine gh_callV C V hl.1 m_Mo_valueOf l_Mo_413 (c_Mo_valueOf l E _ _ a ad _ _ _ k vv X.1 (by first | exact hv | exact hv.s (by decide))) rfl X.1.1 gc_Mo ⟨by first | decide | omega | (dsimp only; omega), by first | decide | omega | (dsimp only; omega)⟩ ⟨by first | decide | omega | (dsimp only; omega), by first | decide | omega | (dsimp only; omega)⟩ (Nat.le_of_ble_eq_true rfl) rfl d_Mo_written_13 (fun r z9 H locs hp V1 => ?_)
  obtain ⟨rfl, he9⟩ := hp
  rw [he9] at V1
  have V := V1
  refine W.eq (g2 := F0 m 16 ls [.int (nI vv), .ref a]) rfl ?_
  refine lv_iload_n hx hb d_Mo_written_16 rfl (lv_at hl 3 rfl) ?_
  refine gh_callV C V hl.1 m_Mo_writeAll l_Mo_416 (c_Mo_writeAll l E _ _ a ad _ _ _ b nv pb np vv (nI j) O X.1 hO hp8) rfl X.1.1 gc_Mo ⟨by first | decide | omega | (dsimp only; omega), by first | decide | omega | (dsimp only; omega)⟩ ⟨by first | decide | omega | (dsimp only; omega), by first | decide | omega | (dsimp only; omega)⟩ (Nat.le_of_ble_eq_true rfl) rfl d_Mo_written_17 (fun r z9 H locs hp V1 => ?_)
  obtain ⟨rfl, S2, I2, X2, g55, g57, gS, gI⟩ := hp
  have X := X.then X2
  have V := V1
  have hS55 := g55
  have hlen := wr_v_max hO.2
  refine W.eq (g2 := F0 m 20 ls []) rfl ?_
  refine lv_aload_n hx hb d_Mo_written_20 rfl (lv_at hl 1 rfl) ?_
  refine lv_iload_n hx hb d_Mo_written_21 rfl (lv_at hl 0 rfl) ?_
  refine lv_iload_n hx hb d_Mo_written_22 rfl (lv_at hl 3 rfl) ?_
  refine lv_iconst (v := (-1)) hx hb d_Mo_written_23 (by decide) ?_
  refine lv_icmp_lt (tgt := 35) hx hb d_Mo_written_24 (by decide) (fun c2 => absurd c2 (fun z => absurd z (Int32.not_lt.mpr (Int32.le_of_lt (Int32.lt_of_lt_of_le (show (-1 : Int32) < 0 by decide) (nI_pos' (by omega))))))) (fun c2 => ?_)
  refine lv_iload_n hx hb d_Mo_written_27 rfl (lv_at hl 3 rfl) ?_
  refine lv_aload_n hx hb d_Mo_written_28 rfl (lv_at hl 1 rfl) ?_
  refine mo_getS (v := nI (wr_v 8 O).length) C V X 55 (by decide) (by decide) (by first | rfl | exact hS55) f_Mo_379 rfl d_Mo_written_29 ?_
  refine lv_icmp_lt (tgt := 39) hx hb d_Mo_written_32 (by decide) (fun c3 => ?_) (fun c3 => absurd (nI_lt hj (by omega)) c3)
  refine lv_iconst (v := 0) hx hb d_Mo_written_39 (by decide) ?_
  refine W.eq (g2 := F0 m 40 ls [.int (gh_bi false), .int (gh_bi false), .ref a]) rfl ?_
  refine gh_callV C V hl.1 m_Mo_throwing l_Mo_251 (c_Mo_throwing l E _ _ a ad _ _ _ false false X.1) rfl X.1.1 gc_Mo ⟨by first | decide | omega | (dsimp only; omega), by first | decide | omega | (dsimp only; omega)⟩ ⟨by first | decide | omega | (dsimp only; omega), by first | decide | omega | (dsimp only; omega)⟩ (Nat.le_of_ble_eq_true rfl) rfl d_Mo_written_40 (fun r z9 H locs hp V1 => ?_)
  obtain ⟨rfl, X2⟩ := hp
  have X := X.then X2
  have V := V1
  refine W.eq (g2 := F0 m 43 ls [.int (gh_bi false)]) rfl ?_
  have g57b : S2 57 = (wr_v 8 O).getD j 0 := by rw [g57, wr_l_at (i := j) (st := (0, S 57)) (Nat.zero_le _) (by show j < 0 + _; omega) (by show 0 + _ < _; omega)]; rfl
  have hS57 : va_up S2 0 0 57 = (wr_v 8 O).getD j 0 := by rw [va_up_n (by decide)]; exact g57b
  refine lv_if_eq (tgt := 48) hx hb d_Mo_written_43 (by decide) (fun c4 => ?_) (fun c4 => absurd (by decide) c4)
  refine lv_iload_n hx hb d_Mo_written_48 rfl (lv_at hl 3 rfl) ?_
  refine lv_if_ge (tgt := 59) hx hb d_Mo_written_49 (by decide) (fun c5 => ?_) (fun c5 => absurd (nI_pos' (by omega)) c5)
  refine lv_aload_n hx hb d_Mo_written_59 rfl (lv_at hl 1 rfl) ?_
  refine mo_getS (v := (wr_v 8 O).getD j 0) C V X 57 (by decide) (by decide) (by first | rfl | exact hS57) f_Mo_385 rfl d_Mo_written_60 ?_
  refine gh_reti hAe C V hr hlocks d_Mo_written_63 (by first | decide | omega | (dsimp only; omega)) (by first | decide | omega | (dsimp only; omega)) ?_
  exact ⟨rfl, _, _, X, gS, gI⟩
