/-! More small methods of the model. Printed by wip/whole/gen_mo3.py. -/
theorem d_Mo_out_0 : decode b_Mo_out 0 = .ok (.iload_n 0, 1) := by decide +kernel
theorem d_Mo_out_1 : decode b_Mo_out 1 = .ok (.ifCond .lt 8, 3) := by decide +kernel
theorem d_Mo_out_4 : decode b_Mo_out 4 = .ok (.iload_n 0, 1) := by decide +kernel
theorem d_Mo_out_5 : decode b_Mo_out 5 = .ok (.iload_n 1, 1) := by decide +kernel
theorem d_Mo_out_6 : decode b_Mo_out 6 = .ok (.if_icmp .lt 7, 3) := by decide +kernel
theorem d_Mo_out_9 : decode b_Mo_out 9 = .ok (.iconst 1, 1) := by decide +kernel
theorem d_Mo_out_10 : decode b_Mo_out 10 = .ok (.goto 4, 3) := by decide +kernel
theorem d_Mo_out_13 : decode b_Mo_out 13 = .ok (.iconst 0, 1) := by decide +kernel
theorem d_Mo_out_14 : decode b_Mo_out 14 = .ok (.ireturn, 1) := by decide +kernel
set_option maxHeartbeats 4000000 in
set_option maxRecDepth 100000 in
theorem c_Mo_out (l : Launch) (E : gh_E) (sz : Nat) (f : gh_F) (k n : Int32) : gh_M l y_Mo_out b_Mo_out 2 (some .boolean) E sz [.int k, .int n] f { frames := 1, cells := 0, slots := 0, locals := 12 } (fun r g => r = some (.int (gh_bi (decide (k < 0) || !decide (k < n)))) ∧ g = f) := by
  refine gh_open (by decide) (Nat.le_of_ble_eq_true rfl) ?_
  intro p e s m args below meth c A ls hAe C V hr hlocks hname hl
  have hx := C.1
  have hb := C.2.1
  have hl : lv_has ls 2 [(0, .int k), (1, .int n)] := hl
  refine lv_iload_n hx hb d_Mo_out_0 rfl (lv_at hl 0 rfl) ?_
  refine lv_if_lt (tgt := 9) hx hb d_Mo_out_1 (by decide) (fun c1 => ?_) (fun c1 => ?_)
  · refine lv_iconst (v := 1) hx hb d_Mo_out_9 (by decide) ?_
    refine lv_goto (tgt := 14) hx hb d_Mo_out_10 (by decide) ?_
    refine gh_retz hAe C V hr (by first | rfl | decide) hlocks d_Mo_out_14 (by first | decide | omega | (dsimp only; omega)) (by first | decide | omega | (dsimp only; omega)) ?_
    exact ⟨by simp [gh_bi, c1], rfl⟩
  · refine lv_iload_n hx hb d_Mo_out_4 rfl (lv_at hl 0 rfl) ?_
    refine lv_iload_n hx hb d_Mo_out_5 rfl (lv_at hl 1 rfl) ?_
    refine lv_icmp_lt (tgt := 13) hx hb d_Mo_out_6 (by decide) (fun c2 => ?_) (fun c2 => ?_)
    · refine lv_iconst (v := 0) hx hb d_Mo_out_13 (by decide) ?_
      refine gh_retz hAe C V hr (by first | rfl | decide) hlocks d_Mo_out_14 (by first | decide | omega | (dsimp only; omega)) (by first | decide | omega | (dsimp only; omega)) ?_
      exact ⟨by simp [gh_bi, c1, c2], rfl⟩
    · refine lv_iconst (v := 1) hx hb d_Mo_out_9 (by decide) ?_
      refine lv_goto (tgt := 14) hx hb d_Mo_out_10 (by decide) ?_
      refine gh_retz hAe C V hr (by first | rfl | decide) hlocks d_Mo_out_14 (by first | decide | omega | (dsimp only; omega)) (by first | decide | omega | (dsimp only; omega)) ?_
      exact ⟨by simp [gh_bi, c1, c2], rfl⟩
theorem d_Mo_spent_0 : decode b_Mo_spent 0 = .ok (.aload_n 0, 1) := by decide +kernel
theorem d_Mo_spent_1 : decode b_Mo_spent 1 = .ok (.getfield 271, 3) := by decide +kernel
theorem d_Mo_spent_4 : decode b_Mo_spent 4 = .ok (.ifCond .ne 11, 3) := by decide +kernel
theorem d_Mo_spent_7 : decode b_Mo_spent 7 = .ok (.aload_n 0, 1) := by decide +kernel
theorem d_Mo_spent_8 : decode b_Mo_spent 8 = .ok (.iconst 2, 1) := by decide +kernel
theorem d_Mo_spent_9 : decode b_Mo_spent 9 = .ok (.putfield 118, 3) := by decide +kernel
theorem d_Mo_spent_12 : decode b_Mo_spent 12 = .ok (.goto 13, 3) := by decide +kernel
theorem d_Mo_spent_15 : decode b_Mo_spent 15 = .ok (.aload_n 0, 1) := by decide +kernel
theorem d_Mo_spent_16 : decode b_Mo_spent 16 = .ok (.dup, 1) := by decide +kernel
theorem d_Mo_spent_17 : decode b_Mo_spent 17 = .ok (.getfield 271, 3) := by decide +kernel
theorem d_Mo_spent_20 : decode b_Mo_spent 20 = .ok (.iconst 1, 1) := by decide +kernel
theorem d_Mo_spent_21 : decode b_Mo_spent 21 = .ok (.isub, 1) := by decide +kernel
theorem d_Mo_spent_22 : decode b_Mo_spent 22 = .ok (.putfield 271, 3) := by decide +kernel
theorem d_Mo_spent_25 : decode b_Mo_spent 25 = .ok (.aload_n 0, 1) := by decide +kernel
theorem d_Mo_spent_26 : decode b_Mo_spent 26 = .ok (.getfield 118, 3) := by decide +kernel
theorem d_Mo_spent_29 : decode b_Mo_spent 29 = .ok (.ifCond .ge 7, 3) := by decide +kernel
theorem d_Mo_spent_32 : decode b_Mo_spent 32 = .ok (.iconst 1, 1) := by decide +kernel
theorem d_Mo_spent_33 : decode b_Mo_spent 33 = .ok (.goto 4, 3) := by decide +kernel
theorem d_Mo_spent_36 : decode b_Mo_spent 36 = .ok (.iconst 0, 1) := by decide +kernel
theorem d_Mo_spent_37 : decode b_Mo_spent 37 = .ok (.ireturn, 1) := by decide +kernel
set_option maxHeartbeats 4000000 in
set_option maxRecDepth 100000 in
theorem c_Mo_spent (l : Launch) (E : gh_E) (sz : Nat) (f : gh_F) (a : Nat) (ad : Nat → Nat) (S : Nat → Int32) (I : Nat → Nat → Int32) (J : Nat → Nat → Int64) (fu : Nat) (hX : mo_R E f a ad S I J) (hS48 : S 48 = nI fu) (hfu : fu < 1000) : gh_M l y_Mo_spent b_Mo_spent 1 (some .boolean) E sz [.ref a] f { frames := 3, cells := 0, slots := 0, locals := 60 } (fun r g => (fu = 0 → r = some (.int (gh_bi false)) ∧ mo_X E f g a ad (va_up S 49 2) I J) ∧ (0 < fu → r = some (.int (gh_bi (!decide (0 ≤ S 49)))) ∧ mo_X E f g a ad (va_up S 48 (nI (fu - 1))) I J)) := by
  refine gh_open (by decide) (Nat.le_of_ble_eq_true rfl) ?_
  intro p e s m args below meth c A ls hAe C V hr hlocks hname hl
  have hx := C.1
  have hb := C.2.1
  have hl : lv_has ls 1 [(0, .ref a)] := hl
  have X : mo_X E f f a ad S I J := ⟨hX, gh_fr.rf⟩
  refine lv_aload_n hx hb d_Mo_spent_0 rfl (lv_at hl 0 rfl) ?_
  refine mo_getS (v := nI fu) C V X 48 (by decide) (by decide) (by first | rfl | exact hS48) f_Mo_271 rfl d_Mo_spent_1 ?_
  refine lv_if_ne (tgt := 15) hx hb d_Mo_spent_4 (by decide) (fun c1 => ?_) (fun c1 => ?_)
  · have c1 : ¬ fu = 0 := by rw [← gq_eq (a := fu) (b := 0) (by omega) (by omega)]; exact c1
    refine lv_aload_n hx hb d_Mo_spent_15 rfl (lv_at hl 0 rfl) ?_
    refine lv_dup hx hb d_Mo_spent_16 rfl ?_
    refine mo_getS (v := nI fu) C V X 48 (by decide) (by decide) (by first | rfl | exact hS48) f_Mo_271 rfl d_Mo_spent_17 ?_
    refine lv_iconst (v := 1) hx hb d_Mo_spent_20 (by decide) ?_
    refine gn_isub (a := fu) (b := 1) hx hb (by omega) d_Mo_spent_21 ?_
    refine mo_putS C V X 48 (by decide) (by decide) f_Mo_271 rfl rfl rfl d_Mo_spent_22 (fun f1 H locs V1 X1 => ?_)
    clear V X
    have V := V1
    have X := X1
    clear V1 X1
    refine lv_aload_n hx hb d_Mo_spent_25 rfl (lv_at hl 0 rfl) ?_
    refine mo_getS (v := S 49) C V X 49 (by decide) (by decide) (by first | rfl | exact hS49) f_Mo_118 rfl d_Mo_spent_26 ?_
    refine lv_if_ge (tgt := 36) hx hb d_Mo_spent_29 (by decide) (fun c2 => ?_) (fun c2 => ?_)
    · refine lv_iconst (v := 0) hx hb d_Mo_spent_36 (by decide) ?_
      refine gh_retz hAe C V hr (by first | rfl | decide) hlocks d_Mo_spent_37 (by first | decide | omega | (dsimp only; omega)) (by first | decide | omega | (dsimp only; omega)) ?_
      exact ⟨fun h => absurd h (by omega), fun _ => ⟨by simp [gh_bi, c2], X⟩⟩
    · refine lv_iconst (v := 1) hx hb d_Mo_spent_32 (by decide) ?_
      refine lv_goto (tgt := 37) hx hb d_Mo_spent_33 (by decide) ?_
      refine gh_retz hAe C V hr (by first | rfl | decide) hlocks d_Mo_spent_37 (by first | decide | omega | (dsimp only; omega)) (by first | decide | omega | (dsimp only; omega)) ?_
      exact ⟨fun h => absurd h (by omega), fun _ => ⟨by simp [gh_bi, c2], X⟩⟩
  · have c1 : fu = 0 := by rw [← gq_eq (a := fu) (b := 0) (by omega) (by omega)]; exact c1
    refine lv_aload_n hx hb d_Mo_spent_7 rfl (lv_at hl 0 rfl) ?_
    refine lv_iconst (v := 2) hx hb d_Mo_spent_8 (by decide) ?_
    refine mo_putS C V X 49 (by decide) (by decide) f_Mo_118 rfl rfl rfl d_Mo_spent_9 (fun f1 H locs V1 X1 => ?_)
    clear V X
    have V := V1
    have X := X1
    clear V1 X1
    refine lv_goto (tgt := 25) hx hb d_Mo_spent_12 (by decide) ?_
    refine lv_aload_n hx hb d_Mo_spent_25 rfl (lv_at hl 0 rfl) ?_
    refine mo_getS (v := 2) C V X 49 (by decide) (by decide) (by first | rfl | exact hS49) f_Mo_118 rfl d_Mo_spent_26 ?_
    refine lv_if_ge (tgt := 36) hx hb d_Mo_spent_29 (by decide) (fun c3 => ?_) (fun c3 => absurd (by decide) c3)
    refine lv_iconst (v := 0) hx hb d_Mo_spent_36 (by decide) ?_
    refine gh_retz hAe C V hr (by first | rfl | decide) hlocks d_Mo_spent_37 (by first | decide | omega | (dsimp only; omega)) (by first | decide | omega | (dsimp only; omega)) ?_
    exact ⟨fun _ => ⟨rfl, X⟩, fun h => absurd h (by omega)⟩
theorem d_Mo_give_0 : decode b_Mo_give 0 = .ok (.aload_n 0, 1) := by decide +kernel
theorem d_Mo_give_1 : decode b_Mo_give 1 = .ok (.iload_n 1, 1) := by decide +kernel
theorem d_Mo_give_2 : decode b_Mo_give 2 = .ok (.putfield 286, 3) := by decide +kernel
theorem d_Mo_give_5 : decode b_Mo_give 5 = .ok (.aload_n 0, 1) := by decide +kernel
theorem d_Mo_give_6 : decode b_Mo_give 6 = .ok (.iconst 1, 1) := by decide +kernel
theorem d_Mo_give_7 : decode b_Mo_give 7 = .ok (.invokevirtual 289, 3) := by decide +kernel
theorem d_Mo_give_10 : decode b_Mo_give 10 = .ok (.return_, 1) := by decide +kernel
set_option maxHeartbeats 4000000 in
set_option maxRecDepth 100000 in
theorem c_Mo_give (l : Launch) (E : gh_E) (sz : Nat) (f : gh_F) (a : Nat) (ad : Nat → Nat) (S : Nat → Int32) (I : Nat → Nat → Int32) (J : Nat → Nat → Int64) (x : Int32) (wt : Nat) (hX : mo_R E f a ad S I J) (hS45 : S 45 = nI (wt + 1)) : gh_M l y_Mo_give b_Mo_give 2 none E sz [.ref a, .int x] f { frames := 4, cells := 0, slots := 0, locals := 100 } (fun r g => r = none ∧ mo_X E f g a ad (va_up (va_up (va_up S 47 x) 45 (nI wt)) 46 1) I J) := by
  refine gh_open (by decide) (Nat.le_of_ble_eq_true rfl) ?_
  intro p e s m args below meth c A ls hAe C V hr hlocks hname hl
  have hx := C.1
  have hb := C.2.1
  have hl : lv_has ls 2 [(0, .ref a), (1, .int x)] := hl
  have X : mo_X E f f a ad S I J := ⟨hX, gh_fr.rf⟩
  refine lv_aload_n hx hb d_Mo_give_0 rfl (lv_at hl 0 rfl) ?_
  refine lv_iload_n hx hb d_Mo_give_1 rfl (lv_at hl 1 rfl) ?_
  refine mo_putS C V X 47 (by decide) (by decide) f_Mo_286 rfl rfl rfl d_Mo_give_2 (fun f1 H locs V1 X1 => ?_)
  clear V X
  have V := V1
  have X := X1
  clear V1 X1
  refine lv_aload_n hx hb d_Mo_give_5 rfl (lv_at hl 0 rfl) ?_
  refine lv_iconst (v := 1) hx hb d_Mo_give_6 (by decide) ?_
  refine gh_callV C V hl.1 m_Mo_tell l_Mo_289 (c_Mo_tell l E _ _ a ad _ _ _ 1 wt X.1 hS45) rfl X.1.1 gc_Mo ⟨by first | decide | omega | (dsimp only; omega), by first | decide | omega | (dsimp only; omega)⟩ ⟨by first | decide | omega | (dsimp only; omega), by first | decide | omega | (dsimp only; omega)⟩ (Nat.le_of_ble_eq_true rfl) rfl d_Mo_give_7 (fun r z9 H locs hp V1 => ?_)
  obtain ⟨rfl, X2⟩ := hp
  have X := X.then X2
  have V := V1
  refine W.eq (g2 := F0 m 10 ls []) rfl ?_
  refine gh_retv hAe C V hr hlocks d_Mo_give_10 (by first | decide | omega | (dsimp only; omega)) (by first | decide | omega | (dsimp only; omega)) ?_
  exact ⟨rfl, X⟩
theorem d_Mo_enter_0 : decode b_Mo_enter 0 = .ok (.aload_n 0, 1) := by decide +kernel
theorem d_Mo_enter_1 : decode b_Mo_enter 1 = .ok (.invokevirtual 280, 3) := by decide +kernel
theorem d_Mo_enter_4 : decode b_Mo_enter 4 = .ok (.ifCond .ne 4, 3) := by decide +kernel
theorem d_Mo_enter_7 : decode b_Mo_enter 7 = .ok (.return_, 1) := by decide +kernel
theorem d_Mo_enter_8 : decode b_Mo_enter 8 = .ok (.aload_n 0, 1) := by decide +kernel
theorem d_Mo_enter_9 : decode b_Mo_enter 9 = .ok (.getfield 88, 3) := by decide +kernel
theorem d_Mo_enter_12 : decode b_Mo_enter 12 = .ok (.iload_n 1, 1) := by decide +kernel
theorem d_Mo_enter_13 : decode b_Mo_enter 13 = .ok (.iconst 0, 1) := by decide +kernel
theorem d_Mo_enter_14 : decode b_Mo_enter 14 = .ok (.iastore, 1) := by decide +kernel
theorem d_Mo_enter_15 : decode b_Mo_enter 15 = .ok (.aload_n 0, 1) := by decide +kernel
theorem d_Mo_enter_16 : decode b_Mo_enter 16 = .ok (.getfield 91, 3) := by decide +kernel
theorem d_Mo_enter_19 : decode b_Mo_enter 19 = .ok (.iload_n 1, 1) := by decide +kernel
theorem d_Mo_enter_20 : decode b_Mo_enter 20 = .ok (.iload_n 2, 1) := by decide +kernel
theorem d_Mo_enter_21 : decode b_Mo_enter 21 = .ok (.iastore, 1) := by decide +kernel
theorem d_Mo_enter_22 : decode b_Mo_enter 22 = .ok (.aload_n 0, 1) := by decide +kernel
theorem d_Mo_enter_23 : decode b_Mo_enter 23 = .ok (.getfield 94, 3) := by decide +kernel
theorem d_Mo_enter_26 : decode b_Mo_enter 26 = .ok (.iload_n 1, 1) := by decide +kernel
theorem d_Mo_enter_27 : decode b_Mo_enter 27 = .ok (.iload_n 3, 1) := by decide +kernel
theorem d_Mo_enter_28 : decode b_Mo_enter 28 = .ok (.iastore, 1) := by decide +kernel
theorem d_Mo_enter_29 : decode b_Mo_enter 29 = .ok (.aload_n 0, 1) := by decide +kernel
theorem d_Mo_enter_30 : decode b_Mo_enter 30 = .ok (.iload_n 1, 1) := by decide +kernel
theorem d_Mo_enter_31 : decode b_Mo_enter 31 = .ok (.invokevirtual 283, 3) := by decide +kernel
theorem d_Mo_enter_34 : decode b_Mo_enter 34 = .ok (.return_, 1) := by decide +kernel
set_option maxHeartbeats 4000000 in
set_option maxRecDepth 100000 in
theorem c_Mo_enter (l : Launch) (E : gh_E) (sz : Nat) (f : gh_F) (a : Nat) (ad : Nat → Nat) (S : Nat → Int32) (I : Nat → Nat → Int32) (J : Nat → Nat → Int64) (q : Nat) (v x : Int32) (fu wt : Nat) (hX : mo_R E f a ad S I J) (hq : q < 60) (hS48 : S 48 = nI fu) (hfu : fu < 1000) (hE : ¬ 0 ≤ S 49) (hS45 : S 45 = nI wt) (hw : wt < 16) : gh_M l y_Mo_enter b_Mo_enter 4 none E sz [.ref a, .int (nI q), .int v, .int x] f { frames := 5, cells := 0, slots := 0, locals := 120 } (fun r g => r = none ∧ (fu = 0 → mo_X E f g a ad (va_up S 49 2) I J) ∧ (0 < fu → mo_X E f g a ad (va_up (va_up (va_up S 48 (nI (fu - 1))) 45 (nI (wt + 1))) 46 0) (va_up (va_up (va_up (va_up I 35 (upd (I 35) q 0)) 36 (upd ((va_up I 35 (upd (I 35) q 0)) 36) q v)) 37 (upd ((va_up (va_up I 35 (upd (I 35) q 0)) 36 (upd ((va_up I 35 (upd (I 35) q 0)) 36) q v)) 37) q x)) 44 (upd ((va_up (va_up (va_up I 35 (upd (I 35) q 0)) 36 (upd ((va_up I 35 (upd (I 35) q 0)) 36) q v)) 37 (upd ((va_up (va_up I 35 (upd (I 35) q 0)) 36 (upd ((va_up I 35 (upd (I 35) q 0)) 36) q v)) 37) q x)) 44) wt (nI q))) J)) := by
  refine gh_open (by decide) (Nat.le_of_ble_eq_true rfl) ?_
  intro p e s m args below meth c A ls hAe C V hr hlocks hname hl
  have hx := C.1
  have hb := C.2.1
  have hl : lv_has ls 4 [(0, .ref a), (1, .int (nI q)), (2, .int v), (3, .int x)] := hl
  have X : mo_X E f f a ad S I J := ⟨hX, gh_fr.rf⟩
  refine lv_aload_n hx hb d_Mo_enter_0 rfl (lv_at hl 0 rfl) ?_
  refine gh_callV C V hl.1 m_Mo_spent l_Mo_280 (c_Mo_spent l E _ _ a ad _ _ _ fu X.1 hS48 hfu) rfl X.1.1 gc_Mo ⟨by first | decide | omega | (dsimp only; omega), by first | decide | omega | (dsimp only; omega)⟩ ⟨by first | decide | omega | (dsimp only; omega), by first | decide | omega | (dsimp only; omega)⟩ (Nat.le_of_ble_eq_true rfl) rfl d_Mo_enter_1 (fun r z9 H locs hp V1 => ?_)
  rcases Nat.eq_zero_or_pos fu with hz | hz
  · obtain ⟨rfl, X2⟩ := hp.1 hz
    have X := X.then X2
    have V := V1
    refine W.eq (g2 := F0 m 4 ls [.int (gh_bi false)]) rfl ?_
    refine lv_if_ne (tgt := 8) hx hb d_Mo_enter_4 (by decide) (fun c1 => absurd (show gh_bi false = 0 from rfl) c1) (fun c1 => ?_)
    refine gh_retv hAe C V hr hlocks d_Mo_enter_7 (by first | decide | omega | (dsimp only; omega)) (by first | decide | omega | (dsimp only; omega)) ?_
    exact ⟨rfl, fun _ => X, fun h => absurd h (by omega)⟩
  · obtain ⟨rfl, X2⟩ := hp.2 hz
    have X := X.then X2
    have V := V1
    refine W.eq (g2 := F0 m 4 ls [.int (gh_bi (!decide (0 ≤ S 49)))]) rfl ?_
    refine lv_if_ne (tgt := 8) hx hb d_Mo_enter_4 (by decide) (fun c2 => ?_) (fun c2 => absurd c2 (show ¬ gh_bi (!decide (0 ≤ S 49)) = 0 by simp [gh_bi, hE]))
    refine lv_aload_n hx hb d_Mo_enter_8 rfl (lv_at hl 0 rfl) ?_
    refine mo_getA C V X 35 (by decide) (by decide) f_Mo_88 rfl d_Mo_enter_9 ?_
    refine lv_iload_n hx hb d_Mo_enter_12 rfl (lv_at hl 1 rfl) ?_
    refine lv_iconst (v := 0) hx hb d_Mo_enter_13 (by decide) ?_
    refine mo_ist (k := 35) (i := q) (n := 60) C V X (by decide) (by decide) rfl (by omega) (by decide) d_Mo_enter_14 (fun f1 H locs V1 X1 => ?_)
    clear V X
    have V := V1
    have X := X1
    clear V1 X1
    refine lv_aload_n hx hb d_Mo_enter_15 rfl (lv_at hl 0 rfl) ?_
    refine mo_getA C V X 36 (by decide) (by decide) f_Mo_91 rfl d_Mo_enter_16 ?_
    refine lv_iload_n hx hb d_Mo_enter_19 rfl (lv_at hl 1 rfl) ?_
    refine lv_iload_n hx hb d_Mo_enter_20 rfl (lv_at hl 2 rfl) ?_
    refine mo_ist (k := 36) (i := q) (n := 60) C V X (by decide) (by decide) rfl (by omega) (by decide) d_Mo_enter_21 (fun f1 H locs V1 X1 => ?_)
    clear V X
    have V := V1
    have X := X1
    clear V1 X1
    refine lv_aload_n hx hb d_Mo_enter_22 rfl (lv_at hl 0 rfl) ?_
    refine mo_getA C V X 37 (by decide) (by decide) f_Mo_94 rfl d_Mo_enter_23 ?_
    refine lv_iload_n hx hb d_Mo_enter_26 rfl (lv_at hl 1 rfl) ?_
    refine lv_iload_n hx hb d_Mo_enter_27 rfl (lv_at hl 3 rfl) ?_
    refine mo_ist (k := 37) (i := q) (n := 60) C V X (by decide) (by decide) rfl (by omega) (by decide) d_Mo_enter_28 (fun f1 H locs V1 X1 => ?_)
    clear V X
    have V := V1
    have X := X1
    clear V1 X1
    refine lv_aload_n hx hb d_Mo_enter_29 rfl (lv_at hl 0 rfl) ?_
    refine lv_iload_n hx hb d_Mo_enter_30 rfl (lv_at hl 1 rfl) ?_
    refine gh_callV C V hl.1 m_Mo_ask l_Mo_283 (c_Mo_ask l E _ _ a ad _ _ _ (nI q) wt X.1 hS45 hw) rfl X.1.1 gc_Mo ⟨by first | decide | omega | (dsimp only; omega), by first | decide | omega | (dsimp only; omega)⟩ ⟨by first | decide | omega | (dsimp only; omega), by first | decide | omega | (dsimp only; omega)⟩ (Nat.le_of_ble_eq_true rfl) rfl d_Mo_enter_31 (fun r z9 H locs hp V1 => ?_)
    obtain ⟨rfl, X2⟩ := hp
    have X := X.then X2
    have V := V1
    refine W.eq (g2 := F0 m 34 ls []) rfl ?_
    refine gh_retv hAe C V hr hlocks d_Mo_enter_34 (by first | decide | omega | (dsimp only; omega)) (by first | decide | omega | (dsimp only; omega)) ?_
    exact ⟨rfl, fun h => absurd h (by omega), fun _ => X⟩
theorem d_Mo_write_0 : decode b_Mo_write 0 = .ok (.aload_n 0, 1) := by decide +kernel
theorem d_Mo_write_1 : decode b_Mo_write 1 = .ok (.aload_n 0, 1) := by decide +kernel
theorem d_Mo_write_2 : decode b_Mo_write 2 = .ok (.getfield 379, 3) := by decide +kernel
theorem d_Mo_write_5 : decode b_Mo_write 5 = .ok (.aload_n 0, 1) := by decide +kernel
theorem d_Mo_write_6 : decode b_Mo_write 6 = .ok (.getfield 382, 3) := by decide +kernel
theorem d_Mo_write_9 : decode b_Mo_write 9 = .ok (.if_icmp .ne 7, 3) := by decide +kernel
theorem d_Mo_write_12 : decode b_Mo_write 12 = .ok (.iload_n 1, 1) := by decide +kernel
theorem d_Mo_write_13 : decode b_Mo_write 13 = .ok (.goto 7, 3) := by decide +kernel
theorem d_Mo_write_16 : decode b_Mo_write 16 = .ok (.aload_n 0, 1) := by decide +kernel
theorem d_Mo_write_17 : decode b_Mo_write 17 = .ok (.getfield 385, 3) := by decide +kernel
theorem d_Mo_write_20 : decode b_Mo_write 20 = .ok (.putfield 385, 3) := by decide +kernel
theorem d_Mo_write_23 : decode b_Mo_write 23 = .ok (.aload_n 0, 1) := by decide +kernel
theorem d_Mo_write_24 : decode b_Mo_write 24 = .ok (.dup, 1) := by decide +kernel
theorem d_Mo_write_25 : decode b_Mo_write 25 = .ok (.getfield 379, 3) := by decide +kernel
theorem d_Mo_write_28 : decode b_Mo_write 28 = .ok (.iconst 1, 1) := by decide +kernel
theorem d_Mo_write_29 : decode b_Mo_write 29 = .ok (.iadd, 1) := by decide +kernel
theorem d_Mo_write_30 : decode b_Mo_write 30 = .ok (.putfield 379, 3) := by decide +kernel
theorem d_Mo_write_33 : decode b_Mo_write 33 = .ok (.return_, 1) := by decide +kernel
set_option maxHeartbeats 4000000 in
set_option maxRecDepth 100000 in
theorem c_Mo_write (l : Launch) (E : gh_E) (sz : Nat) (f : gh_F) (a : Nat) (ad : Nat → Nat) (S : Nat → Int32) (I : Nat → Nat → Int32) (J : Nat → Nat → Int64) (x : Int32) (hX : mo_R E f a ad S I J) : gh_M l y_Mo_write b_Mo_write 2 none E sz [.ref a, .int x] f { frames := 3, cells := 0, slots := 0, locals := 60 } (fun r g => r = none ∧ mo_X E f g a ad (va_up (va_up S 57 (if S 55 = S 56 then x else S 57)) 55 (S 55 + 1)) I J) := by
  refine gh_open (by decide) (Nat.le_of_ble_eq_true rfl) ?_
  intro p e s m args below meth c A ls hAe C V hr hlocks hname hl
  have hx := C.1
  have hb := C.2.1
  have hl : lv_has ls 2 [(0, .ref a), (1, .int x)] := hl
  have X : mo_X E f f a ad S I J := ⟨hX, gh_fr.rf⟩
  refine lv_aload_n hx hb d_Mo_write_0 rfl (lv_at hl 0 rfl) ?_
  refine lv_aload_n hx hb d_Mo_write_1 rfl (lv_at hl 0 rfl) ?_
  refine mo_getS (v := S 55) C V X 55 (by decide) (by decide) (by first | rfl | exact hS55) f_Mo_379 rfl d_Mo_write_2 ?_
  refine lv_aload_n hx hb d_Mo_write_5 rfl (lv_at hl 0 rfl) ?_
  refine mo_getS (v := S 56) C V X 56 (by decide) (by decide) (by first | rfl | exact hS56) f_Mo_382 rfl d_Mo_write_6 ?_
  refine lv_icmp_ne (tgt := 16) hx hb d_Mo_write_9 (by decide) (fun c1 => ?_) (fun c1 => ?_)
  · refine lv_aload_n hx hb d_Mo_write_16 rfl (lv_at hl 0 rfl) ?_
    refine mo_getS (v := S 57) C V X 57 (by decide) (by decide) (by first | rfl | exact hS57) f_Mo_385 rfl d_Mo_write_17 ?_
    refine mo_putS C V X 57 (by decide) (by decide) f_Mo_385 rfl rfl rfl d_Mo_write_20 (fun f1 H locs V1 X1 => ?_)
    clear V X
    have V := V1
    have X := X1
    clear V1 X1
    refine lv_aload_n hx hb d_Mo_write_23 rfl (lv_at hl 0 rfl) ?_
    refine lv_dup hx hb d_Mo_write_24 rfl ?_
    refine mo_getS (v := S 55) C V X 55 (by decide) (by decide) (by first | rfl | exact hS55) f_Mo_379 rfl d_Mo_write_25 ?_
    refine lv_iconst (v := 1) hx hb d_Mo_write_28 (by decide) ?_
    refine lv_iadd hx hb d_Mo_write_29 ?_
    refine mo_putS C V X 55 (by decide) (by decide) f_Mo_379 rfl rfl rfl d_Mo_write_30 (fun f1 H locs V1 X1 => ?_)
    clear V X
    have V := V1
    have X := X1
    clear V1 X1
    refine gh_retv hAe C V hr hlocks d_Mo_write_33 (by first | decide | omega | (dsimp only; omega)) (by first | decide | omega | (dsimp only; omega)) ?_
    exact ⟨rfl, by simpa [c1] using X⟩
  · refine lv_iload_n hx hb d_Mo_write_12 rfl (lv_at hl 1 rfl) ?_
    refine lv_goto (tgt := 20) hx hb d_Mo_write_13 (by decide) ?_
    refine mo_putS C V X 57 (by decide) (by decide) f_Mo_385 rfl rfl rfl d_Mo_write_20 (fun f1 H locs V1 X1 => ?_)
    clear V X
    have V := V1
    have X := X1
    clear V1 X1
    refine lv_aload_n hx hb d_Mo_write_23 rfl (lv_at hl 0 rfl) ?_
    refine lv_dup hx hb d_Mo_write_24 rfl ?_
    refine mo_getS (v := S 55) C V X 55 (by decide) (by decide) (by first | rfl | exact hS55) f_Mo_379 rfl d_Mo_write_25 ?_
    refine lv_iconst (v := 1) hx hb d_Mo_write_28 (by decide) ?_
    refine lv_iadd hx hb d_Mo_write_29 ?_
    refine mo_putS C V X 55 (by decide) (by decide) f_Mo_379 rfl rfl rfl d_Mo_write_30 (fun f1 H locs V1 X1 => ?_)
    clear V X
    have V := V1
    have X := X1
    clear V1 X1
    refine gh_retv hAe C V hr hlocks d_Mo_write_33 (by first | decide | omega | (dsimp only; omega)) (by first | decide | omega | (dsimp only; omega)) ?_
    exact ⟨rfl, by simpa [c1] using X⟩
