/-! Small methods of the model. Printed by wip/whole/gen_mo2.py. -/
theorem d_Mo_thrown_0 : decode b_Mo_thrown 0 = .ok (.aload_n 0, 1) := by decide +kernel
theorem d_Mo_thrown_1 : decode b_Mo_thrown 1 = .ok (.getfield 138, 3) := by decide +kernel
theorem d_Mo_thrown_4 : decode b_Mo_thrown 4 = .ok (.ireturn, 1) := by decide +kernel
set_option maxHeartbeats 4000000 in
set_option maxRecDepth 100000 in
theorem c_Mo_thrown (l : Launch) (E : gh_E) (sz : Nat) (f : gh_F) (a : Nat) (ad : Nat → Nat) (S : Nat → Int32) (I : Nat → Nat → Int32) (J : Nat → Nat → Int64) (hX : mo_R E f a ad S I J) : gh_M l y_Mo_thrown b_Mo_thrown 1 (some .int) E sz [.ref a] f { frames := 3, cells := 0, slots := 0, locals := 60 } (fun r g => r = some (.int (S 0)) ∧ g = f) := by
  refine gh_open (by decide) (Nat.le_of_ble_eq_true rfl) ?_
  intro p e s m args below meth c A ls hAe C V hr hlocks hname hl
  have hx := C.1
  have hb := C.2.1
  have hl : lv_has ls 1 [(0, .ref a)] := hl
  have X : mo_X E f f a ad S I J := ⟨hX, gh_fr.rf⟩
  refine lv_aload_n hx hb d_Mo_thrown_0 rfl (lv_at hl 0 rfl) ?_
  refine mo_getS (v := S 0) C V X 0 (by decide) (by decide) (by first | rfl | exact hS0) f_Mo_138 rfl d_Mo_thrown_1 ?_
  refine gh_reti hAe C V hr hlocks d_Mo_thrown_4 (by first | decide | omega | (dsimp only; omega)) (by first | decide | omega | (dsimp only; omega)) ?_
  exact ⟨rfl, rfl⟩
theorem d_Mo_throwing_0 : decode b_Mo_throwing 0 = .ok (.aload_n 0, 1) := by decide +kernel
theorem d_Mo_throwing_1 : decode b_Mo_throwing 1 = .ok (.iload_n 1, 1) := by decide +kernel
theorem d_Mo_throwing_2 : decode b_Mo_throwing 2 = .ok (.ifCond .eq 7, 3) := by decide +kernel
theorem d_Mo_throwing_5 : decode b_Mo_throwing 5 = .ok (.iconst 1, 1) := by decide +kernel
theorem d_Mo_throwing_6 : decode b_Mo_throwing 6 = .ok (.goto 12, 3) := by decide +kernel
theorem d_Mo_throwing_9 : decode b_Mo_throwing 9 = .ok (.iload_n 2, 1) := by decide +kernel
theorem d_Mo_throwing_10 : decode b_Mo_throwing 10 = .ok (.ifCond .eq 7, 3) := by decide +kernel
theorem d_Mo_throwing_13 : decode b_Mo_throwing 13 = .ok (.iconst 2, 1) := by decide +kernel
theorem d_Mo_throwing_14 : decode b_Mo_throwing 14 = .ok (.goto 4, 3) := by decide +kernel
theorem d_Mo_throwing_17 : decode b_Mo_throwing 17 = .ok (.iconst 0, 1) := by decide +kernel
theorem d_Mo_throwing_18 : decode b_Mo_throwing 18 = .ok (.putfield 138, 3) := by decide +kernel
theorem d_Mo_throwing_21 : decode b_Mo_throwing 21 = .ok (.aload_n 0, 1) := by decide +kernel
theorem d_Mo_throwing_22 : decode b_Mo_throwing 22 = .ok (.getfield 138, 3) := by decide +kernel
theorem d_Mo_throwing_25 : decode b_Mo_throwing 25 = .ok (.ifCond .le 7, 3) := by decide +kernel
theorem d_Mo_throwing_28 : decode b_Mo_throwing 28 = .ok (.iconst 1, 1) := by decide +kernel
theorem d_Mo_throwing_29 : decode b_Mo_throwing 29 = .ok (.goto 4, 3) := by decide +kernel
theorem d_Mo_throwing_32 : decode b_Mo_throwing 32 = .ok (.iconst 0, 1) := by decide +kernel
theorem d_Mo_throwing_33 : decode b_Mo_throwing 33 = .ok (.ireturn, 1) := by decide +kernel
set_option maxHeartbeats 4000000 in
set_option maxRecDepth 100000 in
theorem c_Mo_throwing (l : Launch) (E : gh_E) (sz : Nat) (f : gh_F) (a : Nat) (ad : Nat → Nat) (S : Nat → Int32) (I : Nat → Nat → Int32) (J : Nat → Nat → Int64) (b1 b2 : Bool) (hX : mo_R E f a ad S I J) : gh_M l y_Mo_throwing b_Mo_throwing 3 (some .boolean) E sz [.ref a, .int (gh_bi b1), .int (gh_bi b2)] f { frames := 3, cells := 0, slots := 0, locals := 60 } (fun r g => r = some (.int (gh_bi (b1 || b2))) ∧ mo_X E f g a ad (va_up S 0 (if b1 then 1 else if b2 then 2 else 0)) I J) := by
  refine gh_open (by decide) (Nat.le_of_ble_eq_true rfl) ?_
  intro p e s m args below meth c A ls hAe C V hr hlocks hname hl
  have hx := C.1
  have hb := C.2.1
  have hl : lv_has ls 3 [(0, .ref a), (1, .int (gh_bi b1)), (2, .int (gh_bi b2))] := hl
  have X : mo_X E f f a ad S I J := ⟨hX, gh_fr.rf⟩
  refine lv_aload_n hx hb d_Mo_throwing_0 rfl (lv_at hl 0 rfl) ?_
  refine lv_iload_n hx hb d_Mo_throwing_1 rfl (lv_at hl 1 rfl) ?_
  refine lv_if_eq (tgt := 9) hx hb d_Mo_throwing_2 (by decide) (fun c1 => ?_) (fun c1 => ?_)
  · have c1 : b1 = false := gh_bi_0 c1
    refine lv_iload_n hx hb d_Mo_throwing_9 rfl (lv_at hl 2 rfl) ?_
    refine lv_if_eq (tgt := 17) hx hb d_Mo_throwing_10 (by decide) (fun c2 => ?_) (fun c2 => ?_)
    · have c2 : b2 = false := gh_bi_0 c2
      refine lv_iconst (v := 0) hx hb d_Mo_throwing_17 (by decide) ?_
      refine mo_putS C V X 0 (by decide) (by decide) f_Mo_138 rfl rfl rfl d_Mo_throwing_18 (fun f1 H locs V1 X1 => ?_)
      clear V X
      have V := V1
      have X := X1
      clear V1 X1
      refine lv_aload_n hx hb d_Mo_throwing_21 rfl (lv_at hl 0 rfl) ?_
      refine mo_getS (v := 0) C V X 0 (by decide) (by decide) (by first | rfl | exact hS0) f_Mo_138 rfl d_Mo_throwing_22 ?_
      refine lv_if_le (tgt := 32) hx hb d_Mo_throwing_25 (by decide) (fun c3 => ?_) (fun c3 => absurd (by decide) c3)
      refine lv_iconst (v := 0) hx hb d_Mo_throwing_32 (by decide) ?_
      refine gh_retz hAe C V hr (by first | rfl | decide) hlocks d_Mo_throwing_33 (by first | decide | omega | (dsimp only; omega)) (by first | decide | omega | (dsimp only; omega)) ?_
      exact ⟨by simp [gh_bi, c1, c2, c3], by simpa [c1, c2, c3] using X⟩
    · have c2 : b2 = true := gh_bi_1 c2
      refine lv_iconst (v := 2) hx hb d_Mo_throwing_13 (by decide) ?_
      refine lv_goto (tgt := 18) hx hb d_Mo_throwing_14 (by decide) ?_
      refine mo_putS C V X 0 (by decide) (by decide) f_Mo_138 rfl rfl rfl d_Mo_throwing_18 (fun f1 H locs V1 X1 => ?_)
      clear V X
      have V := V1
      have X := X1
      clear V1 X1
      refine lv_aload_n hx hb d_Mo_throwing_21 rfl (lv_at hl 0 rfl) ?_
      refine mo_getS (v := 2) C V X 0 (by decide) (by decide) (by first | rfl | exact hS0) f_Mo_138 rfl d_Mo_throwing_22 ?_
      refine lv_if_le (tgt := 32) hx hb d_Mo_throwing_25 (by decide) (fun c4 => absurd c4 (by decide)) (fun c4 => ?_)
      refine lv_iconst (v := 1) hx hb d_Mo_throwing_28 (by decide) ?_
      refine lv_goto (tgt := 33) hx hb d_Mo_throwing_29 (by decide) ?_
      refine gh_retz hAe C V hr (by first | rfl | decide) hlocks d_Mo_throwing_33 (by first | decide | omega | (dsimp only; omega)) (by first | decide | omega | (dsimp only; omega)) ?_
      exact ⟨by simp [gh_bi, c1, c2, c4], by simpa [c1, c2, c4] using X⟩
  · have c1 : b1 = true := gh_bi_1 c1
    refine lv_iconst (v := 1) hx hb d_Mo_throwing_5 (by decide) ?_
    refine lv_goto (tgt := 18) hx hb d_Mo_throwing_6 (by decide) ?_
    refine mo_putS C V X 0 (by decide) (by decide) f_Mo_138 rfl rfl rfl d_Mo_throwing_18 (fun f1 H locs V1 X1 => ?_)
    clear V X
    have V := V1
    have X := X1
    clear V1 X1
    refine lv_aload_n hx hb d_Mo_throwing_21 rfl (lv_at hl 0 rfl) ?_
    refine mo_getS (v := 1) C V X 0 (by decide) (by decide) (by first | rfl | exact hS0) f_Mo_138 rfl d_Mo_throwing_22 ?_
    refine lv_if_le (tgt := 32) hx hb d_Mo_throwing_25 (by decide) (fun c5 => absurd c5 (by decide)) (fun c5 => ?_)
    refine lv_iconst (v := 1) hx hb d_Mo_throwing_28 (by decide) ?_
    refine lv_goto (tgt := 33) hx hb d_Mo_throwing_29 (by decide) ?_
    refine gh_retz hAe C V hr (by first | rfl | decide) hlocks d_Mo_throwing_33 (by first | decide | omega | (dsimp only; omega)) (by first | decide | omega | (dsimp only; omega)) ?_
    exact ⟨by simp [gh_bi, c1, c5], by simpa [c1, c5] using X⟩
theorem d_Mo_bad_0 : decode b_Mo_bad 0 = .ok (.aload_n 0, 1) := by decide +kernel
theorem d_Mo_bad_1 : decode b_Mo_bad 1 = .ok (.iconst 0, 1) := by decide +kernel
theorem d_Mo_bad_2 : decode b_Mo_bad 2 = .ok (.putfield 138, 3) := by decide +kernel
theorem d_Mo_bad_5 : decode b_Mo_bad 5 = .ok (.aload_n 0, 1) := by decide +kernel
theorem d_Mo_bad_6 : decode b_Mo_bad 6 = .ok (.getfield 50, 3) := by decide +kernel
theorem d_Mo_bad_9 : decode b_Mo_bad 9 = .ok (.ireturn, 1) := by decide +kernel
set_option maxHeartbeats 4000000 in
set_option maxRecDepth 100000 in
theorem c_Mo_bad (l : Launch) (E : gh_E) (sz : Nat) (f : gh_F) (a : Nat) (ad : Nat → Nat) (S : Nat → Int32) (I : Nat → Nat → Int32) (J : Nat → Nat → Int64) (hX : mo_R E f a ad S I J) : gh_M l y_Mo_bad b_Mo_bad 1 (some .int) E sz [.ref a] f { frames := 3, cells := 0, slots := 0, locals := 60 } (fun r g => r = some (.int (S 18)) ∧ mo_X E f g a ad (va_up S 0 0) I J) := by
  refine gh_open (by decide) (Nat.le_of_ble_eq_true rfl) ?_
  intro p e s m args below meth c A ls hAe C V hr hlocks hname hl
  have hx := C.1
  have hb := C.2.1
  have hl : lv_has ls 1 [(0, .ref a)] := hl
  have X : mo_X E f f a ad S I J := ⟨hX, gh_fr.rf⟩
  refine lv_aload_n hx hb d_Mo_bad_0 rfl (lv_at hl 0 rfl) ?_
  refine lv_iconst (v := 0) hx hb d_Mo_bad_1 (by decide) ?_
  refine mo_putS C V X 0 (by decide) (by decide) f_Mo_138 rfl rfl rfl d_Mo_bad_2 (fun f1 H locs V1 X1 => ?_)
  clear V X
  have V := V1
  have X := X1
  clear V1 X1
  refine lv_aload_n hx hb d_Mo_bad_5 rfl (lv_at hl 0 rfl) ?_
  refine mo_getS (v := S 18) C V X 18 (by decide) (by decide) (by first | rfl | exact hS18) f_Mo_50 rfl d_Mo_bad_6 ?_
  refine gh_reti hAe C V hr hlocks d_Mo_bad_9 (by first | decide | omega | (dsimp only; omega)) (by first | decide | omega | (dsimp only; omega)) ?_
  exact ⟨rfl, X⟩
theorem d_Mo_ended_0 : decode b_Mo_ended 0 = .ok (.aload_n 0, 1) := by decide +kernel
theorem d_Mo_ended_1 : decode b_Mo_ended 1 = .ok (.iconst 0, 1) := by decide +kernel
theorem d_Mo_ended_2 : decode b_Mo_ended 2 = .ok (.putfield 138, 3) := by decide +kernel
theorem d_Mo_ended_5 : decode b_Mo_ended 5 = .ok (.aload_n 0, 1) := by decide +kernel
theorem d_Mo_ended_6 : decode b_Mo_ended 6 = .ok (.getfield 118, 3) := by decide +kernel
theorem d_Mo_ended_9 : decode b_Mo_ended 9 = .ok (.ireturn, 1) := by decide +kernel
set_option maxHeartbeats 4000000 in
set_option maxRecDepth 100000 in
theorem c_Mo_ended (l : Launch) (E : gh_E) (sz : Nat) (f : gh_F) (a : Nat) (ad : Nat → Nat) (S : Nat → Int32) (I : Nat → Nat → Int32) (J : Nat → Nat → Int64) (hX : mo_R E f a ad S I J) : gh_M l y_Mo_ended b_Mo_ended 1 (some .int) E sz [.ref a] f { frames := 3, cells := 0, slots := 0, locals := 60 } (fun r g => r = some (.int (S 49)) ∧ mo_X E f g a ad (va_up S 0 0) I J) := by
  refine gh_open (by decide) (Nat.le_of_ble_eq_true rfl) ?_
  intro p e s m args below meth c A ls hAe C V hr hlocks hname hl
  have hx := C.1
  have hb := C.2.1
  have hl : lv_has ls 1 [(0, .ref a)] := hl
  have X : mo_X E f f a ad S I J := ⟨hX, gh_fr.rf⟩
  refine lv_aload_n hx hb d_Mo_ended_0 rfl (lv_at hl 0 rfl) ?_
  refine lv_iconst (v := 0) hx hb d_Mo_ended_1 (by decide) ?_
  refine mo_putS C V X 0 (by decide) (by decide) f_Mo_138 rfl rfl rfl d_Mo_ended_2 (fun f1 H locs V1 X1 => ?_)
  clear V X
  have V := V1
  have X := X1
  clear V1 X1
  refine lv_aload_n hx hb d_Mo_ended_5 rfl (lv_at hl 0 rfl) ?_
  refine mo_getS (v := S 49) C V X 49 (by decide) (by decide) (by first | rfl | exact hS49) f_Mo_118 rfl d_Mo_ended_6 ?_
  refine gh_reti hAe C V hr hlocks d_Mo_ended_9 (by first | decide | omega | (dsimp only; omega)) (by first | decide | omega | (dsimp only; omega)) ?_
  exact ⟨rfl, X⟩
theorem d_Mo_left_0 : decode b_Mo_left 0 = .ok (.aload_n 0, 1) := by decide +kernel
theorem d_Mo_left_1 : decode b_Mo_left 1 = .ok (.iconst 0, 1) := by decide +kernel
theorem d_Mo_left_2 : decode b_Mo_left 2 = .ok (.putfield 138, 3) := by decide +kernel
theorem d_Mo_left_5 : decode b_Mo_left 5 = .ok (.aload_n 0, 1) := by decide +kernel
theorem d_Mo_left_6 : decode b_Mo_left 6 = .ok (.getfield 271, 3) := by decide +kernel
theorem d_Mo_left_9 : decode b_Mo_left 9 = .ok (.ireturn, 1) := by decide +kernel
set_option maxHeartbeats 4000000 in
set_option maxRecDepth 100000 in
theorem c_Mo_left (l : Launch) (E : gh_E) (sz : Nat) (f : gh_F) (a : Nat) (ad : Nat → Nat) (S : Nat → Int32) (I : Nat → Nat → Int32) (J : Nat → Nat → Int64) (hX : mo_R E f a ad S I J) : gh_M l y_Mo_left b_Mo_left 1 (some .int) E sz [.ref a] f { frames := 3, cells := 0, slots := 0, locals := 60 } (fun r g => r = some (.int (S 48)) ∧ mo_X E f g a ad (va_up S 0 0) I J) := by
  refine gh_open (by decide) (Nat.le_of_ble_eq_true rfl) ?_
  intro p e s m args below meth c A ls hAe C V hr hlocks hname hl
  have hx := C.1
  have hb := C.2.1
  have hl : lv_has ls 1 [(0, .ref a)] := hl
  have X : mo_X E f f a ad S I J := ⟨hX, gh_fr.rf⟩
  refine lv_aload_n hx hb d_Mo_left_0 rfl (lv_at hl 0 rfl) ?_
  refine lv_iconst (v := 0) hx hb d_Mo_left_1 (by decide) ?_
  refine mo_putS C V X 0 (by decide) (by decide) f_Mo_138 rfl rfl rfl d_Mo_left_2 (fun f1 H locs V1 X1 => ?_)
  clear V X
  have V := V1
  have X := X1
  clear V1 X1
  refine lv_aload_n hx hb d_Mo_left_5 rfl (lv_at hl 0 rfl) ?_
  refine mo_getS (v := S 48) C V X 48 (by decide) (by decide) (by first | rfl | exact hS48) f_Mo_271 rfl d_Mo_left_6 ?_
  refine gh_reti hAe C V hr hlocks d_Mo_left_9 (by first | decide | omega | (dsimp only; omega)) (by first | decide | omega | (dsimp only; omega)) ?_
  exact ⟨rfl, X⟩
theorem d_Mo_count_0 : decode b_Mo_count 0 = .ok (.aload_n 0, 1) := by decide +kernel
theorem d_Mo_count_1 : decode b_Mo_count 1 = .ok (.iconst 0, 1) := by decide +kernel
theorem d_Mo_count_2 : decode b_Mo_count 2 = .ok (.putfield 138, 3) := by decide +kernel
theorem d_Mo_count_5 : decode b_Mo_count 5 = .ok (.aload_n 0, 1) := by decide +kernel
theorem d_Mo_count_6 : decode b_Mo_count 6 = .ok (.getfield 296, 3) := by decide +kernel
theorem d_Mo_count_9 : decode b_Mo_count 9 = .ok (.ireturn, 1) := by decide +kernel
set_option maxHeartbeats 4000000 in
set_option maxRecDepth 100000 in
theorem c_Mo_count (l : Launch) (E : gh_E) (sz : Nat) (f : gh_F) (a : Nat) (ad : Nat → Nat) (S : Nat → Int32) (I : Nat → Nat → Int32) (J : Nat → Nat → Int64) (hX : mo_R E f a ad S I J) : gh_M l y_Mo_count b_Mo_count 1 (some .int) E sz [.ref a] f { frames := 3, cells := 0, slots := 0, locals := 60 } (fun r g => r = some (.int (S 51)) ∧ mo_X E f g a ad (va_up S 0 0) I J) := by
  refine gh_open (by decide) (Nat.le_of_ble_eq_true rfl) ?_
  intro p e s m args below meth c A ls hAe C V hr hlocks hname hl
  have hx := C.1
  have hb := C.2.1
  have hl : lv_has ls 1 [(0, .ref a)] := hl
  have X : mo_X E f f a ad S I J := ⟨hX, gh_fr.rf⟩
  refine lv_aload_n hx hb d_Mo_count_0 rfl (lv_at hl 0 rfl) ?_
  refine lv_iconst (v := 0) hx hb d_Mo_count_1 (by decide) ?_
  refine mo_putS C V X 0 (by decide) (by decide) f_Mo_138 rfl rfl rfl d_Mo_count_2 (fun f1 H locs V1 X1 => ?_)
  clear V X
  have V := V1
  have X := X1
  clear V1 X1
  refine lv_aload_n hx hb d_Mo_count_5 rfl (lv_at hl 0 rfl) ?_
  refine mo_getS (v := S 51) C V X 51 (by decide) (by decide) (by first | rfl | exact hS51) f_Mo_296 rfl d_Mo_count_6 ?_
  refine gh_reti hAe C V hr hlocks d_Mo_count_9 (by first | decide | omega | (dsimp only; omega)) (by first | decide | omega | (dsimp only; omega)) ?_
  exact ⟨rfl, X⟩
theorem d_Mo_isMany_0 : decode b_Mo_isMany 0 = .ok (.aload_n 0, 1) := by decide +kernel
theorem d_Mo_isMany_1 : decode b_Mo_isMany 1 = .ok (.getfield 7, 3) := by decide +kernel
theorem d_Mo_isMany_4 : decode b_Mo_isMany 4 = .ok (.iload_n 1, 1) := by decide +kernel
theorem d_Mo_isMany_5 : decode b_Mo_isMany 5 = .ok (.iaload, 1) := by decide +kernel
theorem d_Mo_isMany_6 : decode b_Mo_isMany 6 = .ok (.iconst 5, 1) := by decide +kernel
theorem d_Mo_isMany_7 : decode b_Mo_isMany 7 = .ok (.if_icmp .eq 14, 3) := by decide +kernel
theorem d_Mo_isMany_10 : decode b_Mo_isMany 10 = .ok (.aload_n 0, 1) := by decide +kernel
theorem d_Mo_isMany_11 : decode b_Mo_isMany 11 = .ok (.getfield 7, 3) := by decide +kernel
theorem d_Mo_isMany_14 : decode b_Mo_isMany 14 = .ok (.iload_n 1, 1) := by decide +kernel
theorem d_Mo_isMany_15 : decode b_Mo_isMany 15 = .ok (.iaload, 1) := by decide +kernel
theorem d_Mo_isMany_16 : decode b_Mo_isMany 16 = .ok (.bipush 6, 2) := by decide +kernel
theorem d_Mo_isMany_18 : decode b_Mo_isMany 18 = .ok (.if_icmp .ne 7, 3) := by decide +kernel
theorem d_Mo_isMany_21 : decode b_Mo_isMany 21 = .ok (.iconst 1, 1) := by decide +kernel
theorem d_Mo_isMany_22 : decode b_Mo_isMany 22 = .ok (.goto 4, 3) := by decide +kernel
theorem d_Mo_isMany_25 : decode b_Mo_isMany 25 = .ok (.iconst 0, 1) := by decide +kernel
theorem d_Mo_isMany_26 : decode b_Mo_isMany 26 = .ok (.ireturn, 1) := by decide +kernel
set_option maxHeartbeats 4000000 in
set_option maxRecDepth 100000 in
theorem c_Mo_isMany (l : Launch) (E : gh_E) (sz : Nat) (f : gh_F) (a : Nat) (ad : Nat → Nat) (S : Nat → Int32) (I : Nat → Nat → Int32) (J : Nat → Nat → Int64) (v : Nat) (hX : mo_R E f a ad S I J) (hv : v < 760) : gh_M l y_Mo_isMany b_Mo_isMany 2 (some .boolean) E sz [.ref a, .int (nI v)] f { frames := 3, cells := 0, slots := 0, locals := 60 } (fun r g => r = some (.int (gh_bi (decide (I 1 v = 5) || decide (I 1 v = 6)))) ∧ g = f) := by
  refine gh_open (by decide) (Nat.le_of_ble_eq_true rfl) ?_
  intro p e s m args below meth c A ls hAe C V hr hlocks hname hl
  have hx := C.1
  have hb := C.2.1
  have hl : lv_has ls 2 [(0, .ref a), (1, .int (nI v))] := hl
  have X : mo_X E f f a ad S I J := ⟨hX, gh_fr.rf⟩
  refine lv_aload_n hx hb d_Mo_isMany_0 rfl (lv_at hl 0 rfl) ?_
  refine mo_getA C V X 1 (by decide) (by decide) f_Mo_7 rfl d_Mo_isMany_1 ?_
  refine lv_iload_n hx hb d_Mo_isMany_4 rfl (lv_at hl 1 rfl) ?_
  refine mo_ild (k := 1) (i := v) (n := 760) C V X (by decide) (by decide) rfl (by omega) (by decide) d_Mo_isMany_5 ?_
  refine lv_iconst (v := 5) hx hb d_Mo_isMany_6 (by decide) ?_
  refine lv_icmp_eq (tgt := 21) hx hb d_Mo_isMany_7 (by decide) (fun c1 => ?_) (fun c1 => ?_)
  · refine lv_iconst (v := 1) hx hb d_Mo_isMany_21 (by decide) ?_
    refine lv_goto (tgt := 26) hx hb d_Mo_isMany_22 (by decide) ?_
    refine gh_retz hAe C V hr (by first | rfl | decide) hlocks d_Mo_isMany_26 (by first | decide | omega | (dsimp only; omega)) (by first | decide | omega | (dsimp only; omega)) ?_
    exact ⟨by simp [gh_bi, c1], rfl⟩
  · refine lv_aload_n hx hb d_Mo_isMany_10 rfl (lv_at hl 0 rfl) ?_
    refine mo_getA C V X 1 (by decide) (by decide) f_Mo_7 rfl d_Mo_isMany_11 ?_
    refine lv_iload_n hx hb d_Mo_isMany_14 rfl (lv_at hl 1 rfl) ?_
    refine mo_ild (k := 1) (i := v) (n := 760) C V X (by decide) (by decide) rfl (by omega) (by decide) d_Mo_isMany_15 ?_
    refine lv_bipush (v := 6) hx hb d_Mo_isMany_16 (by decide) ?_
    refine lv_icmp_ne (tgt := 25) hx hb d_Mo_isMany_18 (by decide) (fun c2 => ?_) (fun c2 => ?_)
    · refine lv_iconst (v := 0) hx hb d_Mo_isMany_25 (by decide) ?_
      refine gh_retz hAe C V hr (by first | rfl | decide) hlocks d_Mo_isMany_26 (by first | decide | omega | (dsimp only; omega)) (by first | decide | omega | (dsimp only; omega)) ?_
      exact ⟨by simp [gh_bi, c1, c2], rfl⟩
    · refine lv_iconst (v := 1) hx hb d_Mo_isMany_21 (by decide) ?_
      refine lv_goto (tgt := 26) hx hb d_Mo_isMany_22 (by decide) ?_
      refine gh_retz hAe C V hr (by first | rfl | decide) hlocks d_Mo_isMany_26 (by first | decide | omega | (dsimp only; omega)) (by first | decide | omega | (dsimp only; omega)) ?_
      exact ⟨by simp [gh_bi, c1, c2], rfl⟩
theorem d_Mo_isTrue_0 : decode b_Mo_isTrue 0 = .ok (.iload_n 1, 1) := by decide +kernel
theorem d_Mo_isTrue_1 : decode b_Mo_isTrue 1 = .ok (.iconst 1, 1) := by decide +kernel
theorem d_Mo_isTrue_2 : decode b_Mo_isTrue 2 = .ok (.if_icmp .le 17, 3) := by decide +kernel
theorem d_Mo_isTrue_5 : decode b_Mo_isTrue 5 = .ok (.aload_n 0, 1) := by decide +kernel
theorem d_Mo_isTrue_6 : decode b_Mo_isTrue 6 = .ok (.getfield 7, 3) := by decide +kernel
theorem d_Mo_isTrue_9 : decode b_Mo_isTrue 9 = .ok (.iload_n 1, 1) := by decide +kernel
theorem d_Mo_isTrue_10 : decode b_Mo_isTrue 10 = .ok (.iaload, 1) := by decide +kernel
theorem d_Mo_isTrue_11 : decode b_Mo_isTrue 11 = .ok (.iconst 1, 1) := by decide +kernel
theorem d_Mo_isTrue_12 : decode b_Mo_isTrue 12 = .ok (.if_icmp .le 7, 3) := by decide +kernel
theorem d_Mo_isTrue_15 : decode b_Mo_isTrue 15 = .ok (.iconst 1, 1) := by decide +kernel
theorem d_Mo_isTrue_16 : decode b_Mo_isTrue 16 = .ok (.goto 4, 3) := by decide +kernel
theorem d_Mo_isTrue_19 : decode b_Mo_isTrue 19 = .ok (.iconst 0, 1) := by decide +kernel
theorem d_Mo_isTrue_20 : decode b_Mo_isTrue 20 = .ok (.ireturn, 1) := by decide +kernel
set_option maxHeartbeats 4000000 in
set_option maxRecDepth 100000 in
theorem c_Mo_isTrue (l : Launch) (E : gh_E) (sz : Nat) (f : gh_F) (a : Nat) (ad : Nat → Nat) (S : Nat → Int32) (I : Nat → Nat → Int32) (J : Nat → Nat → Int64) (v : Nat) (hX : mo_R E f a ad S I J) (hv : v < 760) : gh_M l y_Mo_isTrue b_Mo_isTrue 2 (some .boolean) E sz [.ref a, .int (nI v)] f { frames := 3, cells := 0, slots := 0, locals := 60 } (fun r g => r = some (.int (gh_bi (!decide (v ≤ 1) && !decide (I 1 v ≤ 1)))) ∧ g = f) := by
  refine gh_open (by decide) (Nat.le_of_ble_eq_true rfl) ?_
  intro p e s m args below meth c A ls hAe C V hr hlocks hname hl
  have hx := C.1
  have hb := C.2.1
  have hl : lv_has ls 2 [(0, .ref a), (1, .int (nI v))] := hl
  have X : mo_X E f f a ad S I J := ⟨hX, gh_fr.rf⟩
  refine lv_iload_n hx hb d_Mo_isTrue_0 rfl (lv_at hl 1 rfl) ?_
  refine lv_iconst (v := 1) hx hb d_Mo_isTrue_1 (by decide) ?_
  refine lv_icmp_le (tgt := 19) hx hb d_Mo_isTrue_2 (by decide) (fun c1 => ?_) (fun c1 => ?_)
  · have c1 : v ≤ 1 := by rw [← gq_le (a := v) (b := 1) (by omega) (by omega)]; exact c1
    refine lv_iconst (v := 0) hx hb d_Mo_isTrue_19 (by decide) ?_
    refine gh_retz hAe C V hr (by first | rfl | decide) hlocks d_Mo_isTrue_20 (by first | decide | omega | (dsimp only; omega)) (by first | decide | omega | (dsimp only; omega)) ?_
    exact ⟨by simp [gh_bi, c1], rfl⟩
  · have c1 : ¬ v ≤ 1 := by rw [← gq_le (a := v) (b := 1) (by omega) (by omega)]; exact c1
    refine lv_aload_n hx hb d_Mo_isTrue_5 rfl (lv_at hl 0 rfl) ?_
    refine mo_getA C V X 1 (by decide) (by decide) f_Mo_7 rfl d_Mo_isTrue_6 ?_
    refine lv_iload_n hx hb d_Mo_isTrue_9 rfl (lv_at hl 1 rfl) ?_
    refine mo_ild (k := 1) (i := v) (n := 760) C V X (by decide) (by decide) rfl (by omega) (by decide) d_Mo_isTrue_10 ?_
    refine lv_iconst (v := 1) hx hb d_Mo_isTrue_11 (by decide) ?_
    refine lv_icmp_le (tgt := 19) hx hb d_Mo_isTrue_12 (by decide) (fun c2 => ?_) (fun c2 => ?_)
    · refine lv_iconst (v := 0) hx hb d_Mo_isTrue_19 (by decide) ?_
      refine gh_retz hAe C V hr (by first | rfl | decide) hlocks d_Mo_isTrue_20 (by first | decide | omega | (dsimp only; omega)) (by first | decide | omega | (dsimp only; omega)) ?_
      exact ⟨by simp [gh_bi, c1, c2], rfl⟩
    · refine lv_iconst (v := 1) hx hb d_Mo_isTrue_15 (by decide) ?_
      refine lv_goto (tgt := 20) hx hb d_Mo_isTrue_16 (by decide) ?_
      refine gh_retz hAe C V hr (by first | rfl | decide) hlocks d_Mo_isTrue_20 (by first | decide | omega | (dsimp only; omega)) (by first | decide | omega | (dsimp only; omega)) ?_
      exact ⟨by simp [gh_bi, c1, c2], rfl⟩
theorem d_Mo_isNone_0 : decode b_Mo_isNone 0 = .ok (.iload_n 1, 1) := by decide +kernel
theorem d_Mo_isNone_1 : decode b_Mo_isNone 1 = .ok (.iconst (-1), 1) := by decide +kernel
theorem d_Mo_isNone_2 : decode b_Mo_isNone 2 = .ok (.if_icmp .lt 11, 3) := by decide +kernel
theorem d_Mo_isNone_5 : decode b_Mo_isNone 5 = .ok (.iload_n 1, 1) := by decide +kernel
theorem d_Mo_isNone_6 : decode b_Mo_isNone 6 = .ok (.aload_n 0, 1) := by decide +kernel
theorem d_Mo_isNone_7 : decode b_Mo_isNone 7 = .ok (.getfield 296, 3) := by decide +kernel
theorem d_Mo_isNone_10 : decode b_Mo_isNone 10 = .ok (.if_icmp .lt 7, 3) := by decide +kernel
theorem d_Mo_isNone_13 : decode b_Mo_isNone 13 = .ok (.iconst 1, 1) := by decide +kernel
theorem d_Mo_isNone_14 : decode b_Mo_isNone 14 = .ok (.goto 4, 3) := by decide +kernel
theorem d_Mo_isNone_17 : decode b_Mo_isNone 17 = .ok (.iconst 0, 1) := by decide +kernel
theorem d_Mo_isNone_18 : decode b_Mo_isNone 18 = .ok (.ireturn, 1) := by decide +kernel
set_option maxHeartbeats 4000000 in
set_option maxRecDepth 100000 in
theorem c_Mo_isNone (l : Launch) (E : gh_E) (sz : Nat) (f : gh_F) (a : Nat) (ad : Nat → Nat) (S : Nat → Int32) (I : Nat → Nat → Int32) (J : Nat → Nat → Int64) (k : Int32) (hX : mo_R E f a ad S I J) : gh_M l y_Mo_isNone b_Mo_isNone 2 (some .boolean) E sz [.ref a, .int k] f { frames := 3, cells := 0, slots := 0, locals := 60 } (fun r g => r = some (.int (gh_bi (decide (k < -1) || !decide (k < S 51)))) ∧ g = f) := by
  refine gh_open (by decide) (Nat.le_of_ble_eq_true rfl) ?_
  intro p e s m args below meth c A ls hAe C V hr hlocks hname hl
  have hx := C.1
  have hb := C.2.1
  have hl : lv_has ls 2 [(0, .ref a), (1, .int k)] := hl
  have X : mo_X E f f a ad S I J := ⟨hX, gh_fr.rf⟩
  refine lv_iload_n hx hb d_Mo_isNone_0 rfl (lv_at hl 1 rfl) ?_
  refine lv_iconst (v := (-1)) hx hb d_Mo_isNone_1 (by decide) ?_
  refine lv_icmp_lt (tgt := 13) hx hb d_Mo_isNone_2 (by decide) (fun c1 => ?_) (fun c1 => ?_)
  · refine lv_iconst (v := 1) hx hb d_Mo_isNone_13 (by decide) ?_
    refine lv_goto (tgt := 18) hx hb d_Mo_isNone_14 (by decide) ?_
    refine gh_retz hAe C V hr (by first | rfl | decide) hlocks d_Mo_isNone_18 (by first | decide | omega | (dsimp only; omega)) (by first | decide | omega | (dsimp only; omega)) ?_
    exact ⟨by simp [gh_bi, c1], rfl⟩
  · refine lv_iload_n hx hb d_Mo_isNone_5 rfl (lv_at hl 1 rfl) ?_
    refine lv_aload_n hx hb d_Mo_isNone_6 rfl (lv_at hl 0 rfl) ?_
    refine mo_getS (v := S 51) C V X 51 (by decide) (by decide) (by first | rfl | exact hS51) f_Mo_296 rfl d_Mo_isNone_7 ?_
    refine lv_icmp_lt (tgt := 17) hx hb d_Mo_isNone_10 (by decide) (fun c2 => ?_) (fun c2 => ?_)
    · refine lv_iconst (v := 0) hx hb d_Mo_isNone_17 (by decide) ?_
      refine gh_retz hAe C V hr (by first | rfl | decide) hlocks d_Mo_isNone_18 (by first | decide | omega | (dsimp only; omega)) (by first | decide | omega | (dsimp only; omega)) ?_
      exact ⟨by simp [gh_bi, c1, c2], rfl⟩
    · refine lv_iconst (v := 1) hx hb d_Mo_isNone_13 (by decide) ?_
      refine lv_goto (tgt := 18) hx hb d_Mo_isNone_14 (by decide) ?_
      refine gh_retz hAe C V hr (by first | rfl | decide) hlocks d_Mo_isNone_18 (by first | decide | omega | (dsimp only; omega)) (by first | decide | omega | (dsimp only; omega)) ?_
      exact ⟨by simp [gh_bi, c1, c2], rfl⟩
theorem d_Mo_tell_0 : decode b_Mo_tell 0 = .ok (.aload_n 0, 1) := by decide +kernel
theorem d_Mo_tell_1 : decode b_Mo_tell 1 = .ok (.dup, 1) := by decide +kernel
theorem d_Mo_tell_2 : decode b_Mo_tell 2 = .ok (.getfield 274, 3) := by decide +kernel
theorem d_Mo_tell_5 : decode b_Mo_tell 5 = .ok (.iconst 1, 1) := by decide +kernel
theorem d_Mo_tell_6 : decode b_Mo_tell 6 = .ok (.isub, 1) := by decide +kernel
theorem d_Mo_tell_7 : decode b_Mo_tell 7 = .ok (.putfield 274, 3) := by decide +kernel
theorem d_Mo_tell_10 : decode b_Mo_tell 10 = .ok (.aload_n 0, 1) := by decide +kernel
theorem d_Mo_tell_11 : decode b_Mo_tell 11 = .ok (.iload_n 1, 1) := by decide +kernel
theorem d_Mo_tell_12 : decode b_Mo_tell 12 = .ok (.putfield 277, 3) := by decide +kernel
theorem d_Mo_tell_15 : decode b_Mo_tell 15 = .ok (.return_, 1) := by decide +kernel
set_option maxHeartbeats 4000000 in
set_option maxRecDepth 100000 in
theorem c_Mo_tell (l : Launch) (E : gh_E) (sz : Nat) (f : gh_F) (a : Nat) (ad : Nat → Nat) (S : Nat → Int32) (I : Nat → Nat → Int32) (J : Nat → Nat → Int64) (x : Int32) (wt : Nat) (hX : mo_R E f a ad S I J) (hS45 : S 45 = nI (wt + 1)) : gh_M l y_Mo_tell b_Mo_tell 2 none E sz [.ref a, .int x] f { frames := 3, cells := 0, slots := 0, locals := 60 } (fun r g => r = none ∧ mo_X E f g a ad (va_up (va_up S 45 (nI wt)) 46 x) I J) := by
  refine gh_open (by decide) (Nat.le_of_ble_eq_true rfl) ?_
  intro p e s m args below meth c A ls hAe C V hr hlocks hname hl
  have hx := C.1
  have hb := C.2.1
  have hl : lv_has ls 2 [(0, .ref a), (1, .int x)] := hl
  have X : mo_X E f f a ad S I J := ⟨hX, gh_fr.rf⟩
  refine lv_aload_n hx hb d_Mo_tell_0 rfl (lv_at hl 0 rfl) ?_
  refine lv_dup hx hb d_Mo_tell_1 rfl ?_
  refine mo_getS (v := nI (wt + 1)) C V X 45 (by decide) (by decide) (by first | rfl | exact hS45) f_Mo_274 rfl d_Mo_tell_2 ?_
  refine lv_iconst (v := 1) hx hb d_Mo_tell_5 (by decide) ?_
  refine lv_isub hx hb d_Mo_tell_6 ?_
  refine mo_putS C V X 45 (by decide) (by decide) f_Mo_274 rfl rfl rfl d_Mo_tell_7 (fun f1 H locs V1 X1 => ?_)
  clear V X
  have V := V1
  have X := X1
  clear V1 X1
  refine lv_aload_n hx hb d_Mo_tell_10 rfl (lv_at hl 0 rfl) ?_
  refine lv_iload_n hx hb d_Mo_tell_11 rfl (lv_at hl 1 rfl) ?_
  refine mo_putS C V X 46 (by decide) (by decide) f_Mo_277 rfl rfl rfl d_Mo_tell_12 (fun f1 H locs V1 X1 => ?_)
  clear V X
  have V := V1
  have X := X1
  clear V1 X1
  refine gh_retv hAe C V hr hlocks d_Mo_tell_15 (by first | decide | omega | (dsimp only; omega)) (by first | decide | omega | (dsimp only; omega)) ?_
  exact ⟨rfl, by rw [nI_pred] at X; exact X⟩
theorem d_Mo_ask_0 : decode b_Mo_ask 0 = .ok (.aload_n 0, 1) := by decide +kernel
theorem d_Mo_ask_1 : decode b_Mo_ask 1 = .ok (.getfield 115, 3) := by decide +kernel
theorem d_Mo_ask_4 : decode b_Mo_ask 4 = .ok (.aload_n 0, 1) := by decide +kernel
theorem d_Mo_ask_5 : decode b_Mo_ask 5 = .ok (.getfield 274, 3) := by decide +kernel
theorem d_Mo_ask_8 : decode b_Mo_ask 8 = .ok (.iload_n 1, 1) := by decide +kernel
theorem d_Mo_ask_9 : decode b_Mo_ask 9 = .ok (.iastore, 1) := by decide +kernel
theorem d_Mo_ask_10 : decode b_Mo_ask 10 = .ok (.aload_n 0, 1) := by decide +kernel
theorem d_Mo_ask_11 : decode b_Mo_ask 11 = .ok (.dup, 1) := by decide +kernel
theorem d_Mo_ask_12 : decode b_Mo_ask 12 = .ok (.getfield 274, 3) := by decide +kernel
theorem d_Mo_ask_15 : decode b_Mo_ask 15 = .ok (.iconst 1, 1) := by decide +kernel
theorem d_Mo_ask_16 : decode b_Mo_ask 16 = .ok (.iadd, 1) := by decide +kernel
theorem d_Mo_ask_17 : decode b_Mo_ask 17 = .ok (.putfield 274, 3) := by decide +kernel
theorem d_Mo_ask_20 : decode b_Mo_ask 20 = .ok (.aload_n 0, 1) := by decide +kernel
theorem d_Mo_ask_21 : decode b_Mo_ask 21 = .ok (.iconst 0, 1) := by decide +kernel
theorem d_Mo_ask_22 : decode b_Mo_ask 22 = .ok (.putfield 277, 3) := by decide +kernel
theorem d_Mo_ask_25 : decode b_Mo_ask 25 = .ok (.return_, 1) := by decide +kernel
set_option maxHeartbeats 4000000 in
set_option maxRecDepth 100000 in
theorem c_Mo_ask (l : Launch) (E : gh_E) (sz : Nat) (f : gh_F) (a : Nat) (ad : Nat → Nat) (S : Nat → Int32) (I : Nat → Nat → Int32) (J : Nat → Nat → Int64) (x : Int32) (wt : Nat) (hX : mo_R E f a ad S I J) (hS45 : S 45 = nI wt) (hw : wt < 16) : gh_M l y_Mo_ask b_Mo_ask 2 none E sz [.ref a, .int x] f { frames := 3, cells := 0, slots := 0, locals := 60 } (fun r g => r = none ∧ mo_X E f g a ad (va_up (va_up S 45 (nI (wt + 1))) 46 0) (va_up I 44 (upd (I 44) wt x)) J) := by
  refine gh_open (by decide) (Nat.le_of_ble_eq_true rfl) ?_
  intro p e s m args below meth c A ls hAe C V hr hlocks hname hl
  have hx := C.1
  have hb := C.2.1
  have hl : lv_has ls 2 [(0, .ref a), (1, .int x)] := hl
  have X : mo_X E f f a ad S I J := ⟨hX, gh_fr.rf⟩
  refine lv_aload_n hx hb d_Mo_ask_0 rfl (lv_at hl 0 rfl) ?_
  refine mo_getA C V X 44 (by decide) (by decide) f_Mo_115 rfl d_Mo_ask_1 ?_
  refine lv_aload_n hx hb d_Mo_ask_4 rfl (lv_at hl 0 rfl) ?_
  refine mo_getS (v := nI wt) C V X 45 (by decide) (by decide) (by first | rfl | exact hS45) f_Mo_274 rfl d_Mo_ask_5 ?_
  refine lv_iload_n hx hb d_Mo_ask_8 rfl (lv_at hl 1 rfl) ?_
  refine mo_ist (k := 44) (i := wt) (n := 16) C V X (by decide) (by decide) rfl (by omega) (by decide) d_Mo_ask_9 (fun f1 H locs V1 X1 => ?_)
  clear V X
  have V := V1
  have X := X1
  clear V1 X1
  refine lv_aload_n hx hb d_Mo_ask_10 rfl (lv_at hl 0 rfl) ?_
  refine lv_dup hx hb d_Mo_ask_11 rfl ?_
  refine mo_getS (v := nI wt) C V X 45 (by decide) (by decide) (by first | rfl | exact hS45) f_Mo_274 rfl d_Mo_ask_12 ?_
  refine lv_iconst (v := 1) hx hb d_Mo_ask_15 (by decide) ?_
  refine gn_iadd (a := wt) (b := 1) hx hb d_Mo_ask_16 ?_
  refine mo_putS C V X 45 (by decide) (by decide) f_Mo_274 rfl rfl rfl d_Mo_ask_17 (fun f1 H locs V1 X1 => ?_)
  clear V X
  have V := V1
  have X := X1
  clear V1 X1
  refine lv_aload_n hx hb d_Mo_ask_20 rfl (lv_at hl 0 rfl) ?_
  refine lv_iconst (v := 0) hx hb d_Mo_ask_21 (by decide) ?_
  refine mo_putS C V X 46 (by decide) (by decide) f_Mo_277 rfl rfl rfl d_Mo_ask_22 (fun f1 H locs V1 X1 => ?_)
  clear V X
  have V := V1
  have X := X1
  clear V1 X1
  refine gh_retv hAe C V hr hlocks d_Mo_ask_25 (by first | decide | omega | (dsimp only; omega)) (by first | decide | omega | (dsimp only; omega)) ?_
  exact ⟨rfl, X⟩
theorem d_Mo_make_0 : decode b_Mo_make 0 = .ok (.aload_n 0, 1) := by decide +kernel
theorem d_Mo_make_1 : decode b_Mo_make 1 = .ok (.getfield 141, 3) := by decide +kernel
theorem d_Mo_make_4 : decode b_Mo_make 4 = .ok (.istore 4, 2) := by decide +kernel
theorem d_Mo_make_6 : decode b_Mo_make 6 = .ok (.aload_n 0, 1) := by decide +kernel
theorem d_Mo_make_7 : decode b_Mo_make 7 = .ok (.dup, 1) := by decide +kernel
theorem d_Mo_make_8 : decode b_Mo_make 8 = .ok (.getfield 141, 3) := by decide +kernel
theorem d_Mo_make_11 : decode b_Mo_make 11 = .ok (.iconst 1, 1) := by decide +kernel
theorem d_Mo_make_12 : decode b_Mo_make 12 = .ok (.iadd, 1) := by decide +kernel
theorem d_Mo_make_13 : decode b_Mo_make 13 = .ok (.putfield 141, 3) := by decide +kernel
theorem d_Mo_make_16 : decode b_Mo_make 16 = .ok (.aload_n 0, 1) := by decide +kernel
theorem d_Mo_make_17 : decode b_Mo_make 17 = .ok (.getfield 7, 3) := by decide +kernel
theorem d_Mo_make_20 : decode b_Mo_make 20 = .ok (.iload 4, 2) := by decide +kernel
theorem d_Mo_make_22 : decode b_Mo_make 22 = .ok (.iload_n 1, 1) := by decide +kernel
theorem d_Mo_make_23 : decode b_Mo_make 23 = .ok (.iastore, 1) := by decide +kernel
theorem d_Mo_make_24 : decode b_Mo_make 24 = .ok (.aload_n 0, 1) := by decide +kernel
theorem d_Mo_make_25 : decode b_Mo_make 25 = .ok (.getfield 13, 3) := by decide +kernel
theorem d_Mo_make_28 : decode b_Mo_make 28 = .ok (.iload 4, 2) := by decide +kernel
theorem d_Mo_make_30 : decode b_Mo_make 30 = .ok (.lload_n 2, 1) := by decide +kernel
theorem d_Mo_make_31 : decode b_Mo_make 31 = .ok (.lastore, 1) := by decide +kernel
theorem d_Mo_make_32 : decode b_Mo_make 32 = .ok (.aload_n 0, 1) := by decide +kernel
theorem d_Mo_make_33 : decode b_Mo_make 33 = .ok (.getfield 17, 3) := by decide +kernel
theorem d_Mo_make_36 : decode b_Mo_make 36 = .ok (.iload 4, 2) := by decide +kernel
theorem d_Mo_make_38 : decode b_Mo_make 38 = .ok (.iconst 0, 1) := by decide +kernel
theorem d_Mo_make_39 : decode b_Mo_make 39 = .ok (.iastore, 1) := by decide +kernel
theorem d_Mo_make_40 : decode b_Mo_make 40 = .ok (.aload_n 0, 1) := by decide +kernel
theorem d_Mo_make_41 : decode b_Mo_make 41 = .ok (.getfield 20, 3) := by decide +kernel
theorem d_Mo_make_44 : decode b_Mo_make 44 = .ok (.iload 4, 2) := by decide +kernel
theorem d_Mo_make_46 : decode b_Mo_make 46 = .ok (.iconst 1, 1) := by decide +kernel
theorem d_Mo_make_47 : decode b_Mo_make 47 = .ok (.iastore, 1) := by decide +kernel
theorem d_Mo_make_48 : decode b_Mo_make 48 = .ok (.aload_n 0, 1) := by decide +kernel
theorem d_Mo_make_49 : decode b_Mo_make 49 = .ok (.getfield 23, 3) := by decide +kernel
theorem d_Mo_make_52 : decode b_Mo_make 52 = .ok (.iload 4, 2) := by decide +kernel
theorem d_Mo_make_54 : decode b_Mo_make 54 = .ok (.iconst 1, 1) := by decide +kernel
theorem d_Mo_make_55 : decode b_Mo_make 55 = .ok (.iastore, 1) := by decide +kernel
theorem d_Mo_make_56 : decode b_Mo_make 56 = .ok (.aload_n 0, 1) := by decide +kernel
theorem d_Mo_make_57 : decode b_Mo_make 57 = .ok (.getfield 26, 3) := by decide +kernel
theorem d_Mo_make_60 : decode b_Mo_make 60 = .ok (.iload 4, 2) := by decide +kernel
theorem d_Mo_make_62 : decode b_Mo_make 62 = .ok (.lconst 0, 1) := by decide +kernel
theorem d_Mo_make_63 : decode b_Mo_make 63 = .ok (.lastore, 1) := by decide +kernel
theorem d_Mo_make_64 : decode b_Mo_make 64 = .ok (.aload_n 0, 1) := by decide +kernel
theorem d_Mo_make_65 : decode b_Mo_make 65 = .ok (.getfield 29, 3) := by decide +kernel
theorem d_Mo_make_68 : decode b_Mo_make 68 = .ok (.iload 4, 2) := by decide +kernel
theorem d_Mo_make_70 : decode b_Mo_make 70 = .ok (.lconst 0, 1) := by decide +kernel
theorem d_Mo_make_71 : decode b_Mo_make 71 = .ok (.lastore, 1) := by decide +kernel
theorem d_Mo_make_72 : decode b_Mo_make 72 = .ok (.aload_n 0, 1) := by decide +kernel
theorem d_Mo_make_73 : decode b_Mo_make 73 = .ok (.getfield 32, 3) := by decide +kernel
theorem d_Mo_make_76 : decode b_Mo_make 76 = .ok (.iload 4, 2) := by decide +kernel
theorem d_Mo_make_78 : decode b_Mo_make 78 = .ok (.lconst 0, 1) := by decide +kernel
theorem d_Mo_make_79 : decode b_Mo_make 79 = .ok (.lastore, 1) := by decide +kernel
theorem d_Mo_make_80 : decode b_Mo_make 80 = .ok (.iload 4, 2) := by decide +kernel
theorem d_Mo_make_82 : decode b_Mo_make 82 = .ok (.ireturn, 1) := by decide +kernel
set_option maxHeartbeats 4000000 in
set_option maxRecDepth 100000 in
theorem c_Mo_make (l : Launch) (E : gh_E) (sz : Nat) (f : gh_F) (a : Nat) (ad : Nat → Nat) (S : Nat → Int32) (I : Nat → Nat → Int32) (J : Nat → Nat → Int64) (x : Int32) (y : Int64) (nv : Nat) (hX : mo_R E f a ad S I J) (hS11 : S 11 = nI nv) (hv : nv < 760) : gh_M l y_Mo_make b_Mo_make 5 (some .int) E sz [.ref a, .int x, .long y] f { frames := 3, cells := 0, slots := 0, locals := 60 } (fun r g => r = some (.int (nI nv)) ∧ ∃ S2 I2 J2, mo_X E f g a ad S2 I2 J2 ∧ S2 = va_up S 11 (nI (nv + 1)) ∧ I2 = va_up (va_up (va_up (va_up I 1 (upd (I 1) nv x)) 3 (upd ((va_up I 1 (upd (I 1) nv x)) 3) nv 0)) 4 (upd ((va_up (va_up I 1 (upd (I 1) nv x)) 3 (upd ((va_up I 1 (upd (I 1) nv x)) 3) nv 0)) 4) nv 1)) 5 (upd ((va_up (va_up (va_up I 1 (upd (I 1) nv x)) 3 (upd ((va_up I 1 (upd (I 1) nv x)) 3) nv 0)) 4 (upd ((va_up (va_up I 1 (upd (I 1) nv x)) 3 (upd ((va_up I 1 (upd (I 1) nv x)) 3) nv 0)) 4) nv 1)) 5) nv 1) ∧ J2 = va_up (va_up (va_up (va_up J 2 (vp_updL (J 2) nv y)) 6 (vp_updL ((va_up J 2 (vp_updL (J 2) nv y)) 6) nv 0)) 7 (vp_updL ((va_up (va_up J 2 (vp_updL (J 2) nv y)) 6 (vp_updL ((va_up J 2 (vp_updL (J 2) nv y)) 6) nv 0)) 7) nv 0)) 8 (vp_updL ((va_up (va_up (va_up J 2 (vp_updL (J 2) nv y)) 6 (vp_updL ((va_up J 2 (vp_updL (J 2) nv y)) 6) nv 0)) 7 (vp_updL ((va_up (va_up J 2 (vp_updL (J 2) nv y)) 6 (vp_updL ((va_up J 2 (vp_updL (J 2) nv y)) 6) nv 0)) 7) nv 0)) 8) nv 0)) := by
  refine gh_open (by decide) (Nat.le_of_ble_eq_true rfl) ?_
  intro p e s m args below meth c A ls hAe C V hr hlocks hname hl
  have hx := C.1
  have hb := C.2.1
  have hl : lv_has ls 5 [(0, .ref a), (1, .int x), (2, .long y)] := hl
  have X : mo_X E f f a ad S I J := ⟨hX, gh_fr.rf⟩
  refine lv_aload_n hx hb d_Mo_make_0 rfl (lv_at hl 0 rfl) ?_
  refine mo_getS (v := nI nv) C V X 11 (by decide) (by decide) (by first | rfl | exact hS11) f_Mo_141 rfl d_Mo_make_1 ?_
  refine lv_istore hx hb d_Mo_make_4 hl (by decide) rfl (fun ls hl => ?_)
  have hl : lv_has ls 5 [(4, .int (nI nv)), (0, .ref a), (1, .int x), (2, .long y)] := hl
  refine lv_aload_n hx hb d_Mo_make_6 rfl (lv_at hl 1 rfl) ?_
  refine lv_dup hx hb d_Mo_make_7 rfl ?_
  refine mo_getS (v := nI nv) C V X 11 (by decide) (by decide) (by first | rfl | exact hS11) f_Mo_141 rfl d_Mo_make_8 ?_
  refine lv_iconst (v := 1) hx hb d_Mo_make_11 (by decide) ?_
  refine gn_iadd (a := nv) (b := 1) hx hb d_Mo_make_12 ?_
  refine mo_putS C V X 11 (by decide) (by decide) f_Mo_141 rfl rfl rfl d_Mo_make_13 (fun f1 H locs V1 X1 => ?_)
  clear V X
  have V := V1
  have X := X1
  clear V1 X1
  refine lv_aload_n hx hb d_Mo_make_16 rfl (lv_at hl 1 rfl) ?_
  refine mo_getA C V X 1 (by decide) (by decide) f_Mo_7 rfl d_Mo_make_17 ?_
  refine lv_iload hx hb d_Mo_make_20 (lv_at hl 0 rfl) ?_
  refine lv_iload_n hx hb d_Mo_make_22 rfl (lv_at hl 2 rfl) ?_
  refine mo_ist (k := 1) (i := nv) (n := 760) C V X (by decide) (by decide) rfl (by omega) (by decide) d_Mo_make_23 (fun f1 H locs V1 X1 => ?_)
  clear V X
  have V := V1
  have X := X1
  clear V1 X1
  refine lv_aload_n hx hb d_Mo_make_24 rfl (lv_at hl 1 rfl) ?_
  refine mo_getA C V X 2 (by decide) (by decide) f_Mo_13 rfl d_Mo_make_25 ?_
  refine lv_iload hx hb d_Mo_make_28 (lv_at hl 0 rfl) ?_
  refine lv_lload_n hx hb d_Mo_make_30 rfl (lv_at hl 3 rfl) ?_
  refine mo_lst (k := 2) (i := nv) (n := 760) C V X (by decide) (by decide) rfl (by omega) (by decide) d_Mo_make_31 (fun f1 H locs V1 X1 => ?_)
  clear V X
  have V := V1
  have X := X1
  clear V1 X1
  refine lv_aload_n hx hb d_Mo_make_32 rfl (lv_at hl 1 rfl) ?_
  refine mo_getA C V X 3 (by decide) (by decide) f_Mo_17 rfl d_Mo_make_33 ?_
  refine lv_iload hx hb d_Mo_make_36 (lv_at hl 0 rfl) ?_
  refine lv_iconst (v := 0) hx hb d_Mo_make_38 (by decide) ?_
  refine mo_ist (k := 3) (i := nv) (n := 760) C V X (by decide) (by decide) rfl (by omega) (by decide) d_Mo_make_39 (fun f1 H locs V1 X1 => ?_)
  clear V X
  have V := V1
  have X := X1
  clear V1 X1
  refine lv_aload_n hx hb d_Mo_make_40 rfl (lv_at hl 1 rfl) ?_
  refine mo_getA C V X 4 (by decide) (by decide) f_Mo_20 rfl d_Mo_make_41 ?_
  refine lv_iload hx hb d_Mo_make_44 (lv_at hl 0 rfl) ?_
  refine lv_iconst (v := 1) hx hb d_Mo_make_46 (by decide) ?_
  refine mo_ist (k := 4) (i := nv) (n := 760) C V X (by decide) (by decide) rfl (by omega) (by decide) d_Mo_make_47 (fun f1 H locs V1 X1 => ?_)
  clear V X
  have V := V1
  have X := X1
  clear V1 X1
  refine lv_aload_n hx hb d_Mo_make_48 rfl (lv_at hl 1 rfl) ?_
  refine mo_getA C V X 5 (by decide) (by decide) f_Mo_23 rfl d_Mo_make_49 ?_
  refine lv_iload hx hb d_Mo_make_52 (lv_at hl 0 rfl) ?_
  refine lv_iconst (v := 1) hx hb d_Mo_make_54 (by decide) ?_
  refine mo_ist (k := 5) (i := nv) (n := 760) C V X (by decide) (by decide) rfl (by omega) (by decide) d_Mo_make_55 (fun f1 H locs V1 X1 => ?_)
  clear V X
  have V := V1
  have X := X1
  clear V1 X1
  refine lv_aload_n hx hb d_Mo_make_56 rfl (lv_at hl 1 rfl) ?_
  refine mo_getA C V X 6 (by decide) (by decide) f_Mo_26 rfl d_Mo_make_57 ?_
  refine lv_iload hx hb d_Mo_make_60 (lv_at hl 0 rfl) ?_
  refine lv_lconst (v := 0) hx hb d_Mo_make_62 (by decide) ?_
  refine mo_lst (k := 6) (i := nv) (n := 760) C V X (by decide) (by decide) rfl (by omega) (by decide) d_Mo_make_63 (fun f1 H locs V1 X1 => ?_)
  clear V X
  have V := V1
  have X := X1
  clear V1 X1
  refine lv_aload_n hx hb d_Mo_make_64 rfl (lv_at hl 1 rfl) ?_
  refine mo_getA C V X 7 (by decide) (by decide) f_Mo_29 rfl d_Mo_make_65 ?_
  refine lv_iload hx hb d_Mo_make_68 (lv_at hl 0 rfl) ?_
  refine lv_lconst (v := 0) hx hb d_Mo_make_70 (by decide) ?_
  refine mo_lst (k := 7) (i := nv) (n := 760) C V X (by decide) (by decide) rfl (by omega) (by decide) d_Mo_make_71 (fun f1 H locs V1 X1 => ?_)
  clear V X
  have V := V1
  have X := X1
  clear V1 X1
  refine lv_aload_n hx hb d_Mo_make_72 rfl (lv_at hl 1 rfl) ?_
  refine mo_getA C V X 8 (by decide) (by decide) f_Mo_32 rfl d_Mo_make_73 ?_
  refine lv_iload hx hb d_Mo_make_76 (lv_at hl 0 rfl) ?_
  refine lv_lconst (v := 0) hx hb d_Mo_make_78 (by decide) ?_
  refine mo_lst (k := 8) (i := nv) (n := 760) C V X (by decide) (by decide) rfl (by omega) (by decide) d_Mo_make_79 (fun f1 H locs V1 X1 => ?_)
  clear V X
  have V := V1
  have X := X1
  clear V1 X1
  refine lv_iload hx hb d_Mo_make_80 (lv_at hl 0 rfl) ?_
  refine gh_reti hAe C V hr hlocks d_Mo_make_82 (by first | decide | omega | (dsimp only; omega)) (by first | decide | omega | (dsimp only; omega)) ?_
  exact ⟨rfl, _, _, _, X, rfl, rfl, rfl⟩
theorem d_Mo_itemOf_0 : decode b_Mo_itemOf 0 = .ok (.aload_n 0, 1) := by decide +kernel
theorem d_Mo_itemOf_1 : decode b_Mo_itemOf 1 = .ok (.getfield 38, 3) := by decide +kernel
theorem d_Mo_itemOf_4 : decode b_Mo_itemOf 4 = .ok (.aload_n 0, 1) := by decide +kernel
theorem d_Mo_itemOf_5 : decode b_Mo_itemOf 5 = .ok (.getfield 35, 3) := by decide +kernel
theorem d_Mo_itemOf_8 : decode b_Mo_itemOf 8 = .ok (.iload_n 1, 1) := by decide +kernel
theorem d_Mo_itemOf_9 : decode b_Mo_itemOf 9 = .ok (.iaload, 1) := by decide +kernel
theorem d_Mo_itemOf_10 : decode b_Mo_itemOf 10 = .ok (.iload_n 2, 1) := by decide +kernel
theorem d_Mo_itemOf_11 : decode b_Mo_itemOf 11 = .ok (.iadd, 1) := by decide +kernel
theorem d_Mo_itemOf_12 : decode b_Mo_itemOf 12 = .ok (.iaload, 1) := by decide +kernel
theorem d_Mo_itemOf_13 : decode b_Mo_itemOf 13 = .ok (.ireturn, 1) := by decide +kernel
set_option maxHeartbeats 4000000 in
set_option maxRecDepth 100000 in
theorem c_Mo_itemOf (l : Launch) (E : gh_E) (sz : Nat) (f : gh_F) (a : Nat) (ad : Nat → Nat) (S : Nat → Int32) (I : Nat → Nat → Int32) (J : Nat → Nat → Int64) (v k fv : Nat) (hX : mo_R E f a ad S I J) (hv : v < 760) (hf : I 9 v = nI fv) (hk : fv + k < 8800) : gh_M l y_Mo_itemOf b_Mo_itemOf 3 (some .int) E sz [.ref a, .int (nI v), .int (nI k)] f { frames := 3, cells := 0, slots := 0, locals := 60 } (fun r g => r = some (.int (I 10 (fv + k))) ∧ g = f) := by
  refine gh_open (by decide) (Nat.le_of_ble_eq_true rfl) ?_
  intro p e s m args below meth c A ls hAe C V hr hlocks hname hl
  have hx := C.1
  have hb := C.2.1
  have hl : lv_has ls 3 [(0, .ref a), (1, .int (nI v)), (2, .int (nI k))] := hl
  have X : mo_X E f f a ad S I J := ⟨hX, gh_fr.rf⟩
  refine lv_aload_n hx hb d_Mo_itemOf_0 rfl (lv_at hl 0 rfl) ?_
  refine mo_getA C V X 10 (by decide) (by decide) f_Mo_38 rfl d_Mo_itemOf_1 ?_
  refine lv_aload_n hx hb d_Mo_itemOf_4 rfl (lv_at hl 0 rfl) ?_
  refine mo_getA C V X 9 (by decide) (by decide) f_Mo_35 rfl d_Mo_itemOf_5 ?_
  refine lv_iload_n hx hb d_Mo_itemOf_8 rfl (lv_at hl 1 rfl) ?_
  refine mo_ild (k := 9) (i := v) (n := 760) C V X (by decide) (by decide) rfl (by omega) (by decide) d_Mo_itemOf_9 ?_
  rw [show I 9 v = nI fv from hf]
  refine lv_iload_n hx hb d_Mo_itemOf_10 rfl (lv_at hl 2 rfl) ?_
  refine gn_iadd (a := fv) (b := k) hx hb d_Mo_itemOf_11 ?_
  refine mo_ild (k := 10) (i := fv + k) (n := 8800) C V X (by decide) (by decide) rfl (by omega) (by decide) d_Mo_itemOf_12 ?_
  refine gh_reti hAe C V hr hlocks d_Mo_itemOf_13 (by first | decide | omega | (dsimp only; omega)) (by first | decide | omega | (dsimp only; omega)) ?_
  exact ⟨rfl, rfl⟩
theorem d_Mo_keyOf_0 : decode b_Mo_keyOf 0 = .ok (.aload_n 0, 1) := by decide +kernel
theorem d_Mo_keyOf_1 : decode b_Mo_keyOf 1 = .ok (.getfield 38, 3) := by decide +kernel
theorem d_Mo_keyOf_4 : decode b_Mo_keyOf 4 = .ok (.aload_n 0, 1) := by decide +kernel
theorem d_Mo_keyOf_5 : decode b_Mo_keyOf 5 = .ok (.getfield 35, 3) := by decide +kernel
theorem d_Mo_keyOf_8 : decode b_Mo_keyOf 8 = .ok (.iload_n 1, 1) := by decide +kernel
theorem d_Mo_keyOf_9 : decode b_Mo_keyOf 9 = .ok (.iaload, 1) := by decide +kernel
theorem d_Mo_keyOf_10 : decode b_Mo_keyOf 10 = .ok (.aload_n 0, 1) := by decide +kernel
theorem d_Mo_keyOf_11 : decode b_Mo_keyOf 11 = .ok (.getfield 17, 3) := by decide +kernel
theorem d_Mo_keyOf_14 : decode b_Mo_keyOf 14 = .ok (.iload_n 1, 1) := by decide +kernel
theorem d_Mo_keyOf_15 : decode b_Mo_keyOf 15 = .ok (.iaload, 1) := by decide +kernel
theorem d_Mo_keyOf_16 : decode b_Mo_keyOf 16 = .ok (.iadd, 1) := by decide +kernel
theorem d_Mo_keyOf_17 : decode b_Mo_keyOf 17 = .ok (.iload_n 2, 1) := by decide +kernel
theorem d_Mo_keyOf_18 : decode b_Mo_keyOf 18 = .ok (.iadd, 1) := by decide +kernel
theorem d_Mo_keyOf_19 : decode b_Mo_keyOf 19 = .ok (.iaload, 1) := by decide +kernel
theorem d_Mo_keyOf_20 : decode b_Mo_keyOf 20 = .ok (.ireturn, 1) := by decide +kernel
set_option maxHeartbeats 4000000 in
set_option maxRecDepth 100000 in
theorem c_Mo_keyOf (l : Launch) (E : gh_E) (sz : Nat) (f : gh_F) (a : Nat) (ad : Nat → Nat) (S : Nat → Int32) (I : Nat → Nat → Int32) (J : Nat → Nat → Int64) (v k fv lv : Nat) (hX : mo_R E f a ad S I J) (hv : v < 760) (hf : I 9 v = nI fv) (hl3 : I 3 v = nI lv) (hk : fv + lv + k < 8800) : gh_M l y_Mo_keyOf b_Mo_keyOf 3 (some .int) E sz [.ref a, .int (nI v), .int (nI k)] f { frames := 3, cells := 0, slots := 0, locals := 60 } (fun r g => r = some (.int (I 10 (fv + lv + k))) ∧ g = f) := by
  refine gh_open (by decide) (Nat.le_of_ble_eq_true rfl) ?_
  intro p e s m args below meth c A ls hAe C V hr hlocks hname hl
  have hx := C.1
  have hb := C.2.1
  have hl : lv_has ls 3 [(0, .ref a), (1, .int (nI v)), (2, .int (nI k))] := hl
  have X : mo_X E f f a ad S I J := ⟨hX, gh_fr.rf⟩
  refine lv_aload_n hx hb d_Mo_keyOf_0 rfl (lv_at hl 0 rfl) ?_
  refine mo_getA C V X 10 (by decide) (by decide) f_Mo_38 rfl d_Mo_keyOf_1 ?_
  refine lv_aload_n hx hb d_Mo_keyOf_4 rfl (lv_at hl 0 rfl) ?_
  refine mo_getA C V X 9 (by decide) (by decide) f_Mo_35 rfl d_Mo_keyOf_5 ?_
  refine lv_iload_n hx hb d_Mo_keyOf_8 rfl (lv_at hl 1 rfl) ?_
  refine mo_ild (k := 9) (i := v) (n := 760) C V X (by decide) (by decide) rfl (by omega) (by decide) d_Mo_keyOf_9 ?_
  rw [show I 9 v = nI fv from hf]
  refine lv_aload_n hx hb d_Mo_keyOf_10 rfl (lv_at hl 0 rfl) ?_
  refine mo_getA C V X 3 (by decide) (by decide) f_Mo_17 rfl d_Mo_keyOf_11 ?_
  refine lv_iload_n hx hb d_Mo_keyOf_14 rfl (lv_at hl 1 rfl) ?_
  refine mo_ild (k := 3) (i := v) (n := 760) C V X (by decide) (by decide) rfl (by omega) (by decide) d_Mo_keyOf_15 ?_
  rw [show I 3 v = nI lv from hl3]
  refine gn_iadd (a := fv) (b := lv) hx hb d_Mo_keyOf_16 ?_
  refine lv_iload_n hx hb d_Mo_keyOf_17 rfl (lv_at hl 2 rfl) ?_
  refine gn_iadd (a := fv + lv) (b := k) hx hb d_Mo_keyOf_18 ?_
  refine mo_ild (k := 10) (i := (fv + lv) + k) (n := 8800) C V X (by decide) (by decide) rfl (by omega) (by decide) d_Mo_keyOf_19 ?_
  refine gh_reti hAe C V hr hlocks d_Mo_keyOf_20 (by first | decide | omega | (dsimp only; omega)) (by first | decide | omega | (dsimp only; omega)) ?_
  exact ⟨rfl, rfl⟩
theorem d_Mo_peek_0 : decode b_Mo_peek 0 = .ok (.aload_n 0, 1) := by decide +kernel
theorem d_Mo_peek_1 : decode b_Mo_peek 1 = .ok (.getfield 179, 3) := by decide +kernel
theorem d_Mo_peek_4 : decode b_Mo_peek 4 = .ok (.aload_n 0, 1) := by decide +kernel
theorem d_Mo_peek_5 : decode b_Mo_peek 5 = .ok (.getfield 182, 3) := by decide +kernel
theorem d_Mo_peek_8 : decode b_Mo_peek 8 = .ok (.if_icmp .ge 15, 3) := by decide +kernel
theorem d_Mo_peek_11 : decode b_Mo_peek 11 = .ok (.aload_n 0, 1) := by decide +kernel
theorem d_Mo_peek_12 : decode b_Mo_peek 12 = .ok (.getfield 54, 3) := by decide +kernel
theorem d_Mo_peek_15 : decode b_Mo_peek 15 = .ok (.aload_n 0, 1) := by decide +kernel
theorem d_Mo_peek_16 : decode b_Mo_peek 16 = .ok (.getfield 179, 3) := by decide +kernel
theorem d_Mo_peek_19 : decode b_Mo_peek 19 = .ok (.iaload, 1) := by decide +kernel
theorem d_Mo_peek_20 : decode b_Mo_peek 20 = .ok (.goto 4, 3) := by decide +kernel
theorem d_Mo_peek_23 : decode b_Mo_peek 23 = .ok (.iconst (-1), 1) := by decide +kernel
theorem d_Mo_peek_24 : decode b_Mo_peek 24 = .ok (.ireturn, 1) := by decide +kernel
set_option maxHeartbeats 4000000 in
set_option maxRecDepth 100000 in
theorem c_Mo_peek (l : Launch) (E : gh_E) (sz : Nat) (f : gh_F) (a : Nat) (ad : Nat → Nat) (S : Nat → Int32) (I : Nat → Nat → Int32) (J : Nat → Nat → Int64) (at0 ty : Nat) (hX : mo_R E f a ad S I J) (hS21 : S 21 = nI at0) (hS20 : S 20 = nI ty) (ht : ty ≤ 120) (hat : at0 < 1000) : gh_M l y_Mo_peek b_Mo_peek 1 (some .int) E sz [.ref a] f { frames := 3, cells := 0, slots := 0, locals := 60 } (fun r g => r = some (.int (if at0 < ty then I 19 at0 else -1)) ∧ g = f) := by
  refine gh_open (by decide) (Nat.le_of_ble_eq_true rfl) ?_
  intro p e s m args below meth c A ls hAe C V hr hlocks hname hl
  have hx := C.1
  have hb := C.2.1
  have hl : lv_has ls 1 [(0, .ref a)] := hl
  have X : mo_X E f f a ad S I J := ⟨hX, gh_fr.rf⟩
  refine lv_aload_n hx hb d_Mo_peek_0 rfl (lv_at hl 0 rfl) ?_
  refine mo_getS (v := nI at0) C V X 21 (by decide) (by decide) (by first | rfl | exact hS21) f_Mo_179 rfl d_Mo_peek_1 ?_
  refine lv_aload_n hx hb d_Mo_peek_4 rfl (lv_at hl 0 rfl) ?_
  refine mo_getS (v := nI ty) C V X 20 (by decide) (by decide) (by first | rfl | exact hS20) f_Mo_182 rfl d_Mo_peek_5 ?_
  refine lv_icmp_ge (tgt := 23) hx hb d_Mo_peek_8 (by decide) (fun c1 => ?_) (fun c1 => ?_)
  · have c1 : ty ≤ at0 := by rw [← gq_le (a := ty) (b := at0) (by omega) (by omega)]; exact c1
    refine lv_iconst (v := (-1)) hx hb d_Mo_peek_23 (by decide) ?_
    refine gh_reti hAe C V hr hlocks d_Mo_peek_24 (by first | decide | omega | (dsimp only; omega)) (by first | decide | omega | (dsimp only; omega)) ?_
    exact ⟨by simp; omega, rfl⟩
  · have c1 : ¬ ty ≤ at0 := by rw [← gq_le (a := ty) (b := at0) (by omega) (by omega)]; exact c1
    refine lv_aload_n hx hb d_Mo_peek_11 rfl (lv_at hl 0 rfl) ?_
    refine mo_getA C V X 19 (by decide) (by decide) f_Mo_54 rfl d_Mo_peek_12 ?_
    refine lv_aload_n hx hb d_Mo_peek_15 rfl (lv_at hl 0 rfl) ?_
    refine mo_getS (v := nI at0) C V X 21 (by decide) (by decide) (by first | rfl | exact hS21) f_Mo_179 rfl d_Mo_peek_16 ?_
    refine mo_ild (k := 19) (i := at0) (n := 120) C V X (by decide) (by decide) rfl (by omega) (by decide) d_Mo_peek_19 ?_
    refine lv_goto (tgt := 24) hx hb d_Mo_peek_20 (by decide) ?_
    refine gh_reti hAe C V hr hlocks d_Mo_peek_24 (by first | decide | omega | (dsimp only; omega)) (by first | decide | omega | (dsimp only; omega)) ?_
    exact ⟨by simp; omega, rfl⟩
