/-! bytes, query of the model. Printed by wip/whole/gen_mo27.py. -/
theorem d_Mo_query_0 : decode b_Mo_query 0 = .ok (.aload_n 0, 1) := by decide +kernel
theorem d_Mo_query_1 : decode b_Mo_query 1 = .ok (.invokevirtual 268, 3) := by decide +kernel
theorem d_Mo_query_4 : decode b_Mo_query 4 = .ok (.istore_n 1, 1) := by decide +kernel
theorem d_Mo_query_5 : decode b_Mo_query 5 = .ok (.iconst 0, 1) := by decide +kernel
theorem d_Mo_query_6 : decode b_Mo_query 6 = .ok (.istore_n 2, 1) := by decide +kernel
theorem d_Mo_query_7 : decode b_Mo_query 7 = .ok (.iload_n 2, 1) := by decide +kernel
theorem d_Mo_query_8 : decode b_Mo_query 8 = .ok (.aload_n 0, 1) := by decide +kernel
theorem d_Mo_query_9 : decode b_Mo_query 9 = .ok (.getfield 262, 3) := by decide +kernel
theorem d_Mo_query_12 : decode b_Mo_query 12 = .ok (.if_icmp .ge 58, 3) := by decide +kernel
theorem d_Mo_query_15 : decode b_Mo_query 15 = .ok (.iload_n 1, 1) := by decide +kernel
theorem d_Mo_query_16 : decode b_Mo_query 16 = .ok (.ifCond .eq 54, 3) := by decide +kernel
theorem d_Mo_query_19 : decode b_Mo_query 19 = .ok (.aload_n 0, 1) := by decide +kernel
theorem d_Mo_query_20 : decode b_Mo_query 20 = .ok (.getfield 82, 3) := by decide +kernel
theorem d_Mo_query_23 : decode b_Mo_query 23 = .ok (.iload_n 2, 1) := by decide +kernel
theorem d_Mo_query_24 : decode b_Mo_query 24 = .ok (.aload_n 0, 1) := by decide +kernel
theorem d_Mo_query_25 : decode b_Mo_query 25 = .ok (.getfield 73, 3) := by decide +kernel
theorem d_Mo_query_28 : decode b_Mo_query 28 = .ok (.iload_n 2, 1) := by decide +kernel
theorem d_Mo_query_29 : decode b_Mo_query 29 = .ok (.iaload, 1) := by decide +kernel
theorem d_Mo_query_30 : decode b_Mo_query 30 = .ok (.iastore, 1) := by decide +kernel
theorem d_Mo_query_31 : decode b_Mo_query 31 = .ok (.iconst 0, 1) := by decide +kernel
theorem d_Mo_query_32 : decode b_Mo_query 32 = .ok (.istore_n 3, 1) := by decide +kernel
theorem d_Mo_query_33 : decode b_Mo_query 33 = .ok (.iload_n 3, 1) := by decide +kernel
theorem d_Mo_query_34 : decode b_Mo_query 34 = .ok (.iconst 3, 1) := by decide +kernel
theorem d_Mo_query_35 : decode b_Mo_query 35 = .ok (.if_icmp .ge 29, 3) := by decide +kernel
theorem d_Mo_query_38 : decode b_Mo_query 38 = .ok (.aload_n 0, 1) := by decide +kernel
theorem d_Mo_query_39 : decode b_Mo_query 39 = .ok (.getfield 85, 3) := by decide +kernel
theorem d_Mo_query_42 : decode b_Mo_query 42 = .ok (.iconst 3, 1) := by decide +kernel
theorem d_Mo_query_43 : decode b_Mo_query 43 = .ok (.iload_n 2, 1) := by decide +kernel
theorem d_Mo_query_44 : decode b_Mo_query 44 = .ok (.imul, 1) := by decide +kernel
theorem d_Mo_query_45 : decode b_Mo_query 45 = .ok (.iload_n 3, 1) := by decide +kernel
theorem d_Mo_query_46 : decode b_Mo_query 46 = .ok (.iadd, 1) := by decide +kernel
theorem d_Mo_query_47 : decode b_Mo_query 47 = .ok (.aload_n 0, 1) := by decide +kernel
theorem d_Mo_query_48 : decode b_Mo_query 48 = .ok (.getfield 76, 3) := by decide +kernel
theorem d_Mo_query_51 : decode b_Mo_query 51 = .ok (.iconst 3, 1) := by decide +kernel
theorem d_Mo_query_52 : decode b_Mo_query 52 = .ok (.iload_n 2, 1) := by decide +kernel
theorem d_Mo_query_53 : decode b_Mo_query 53 = .ok (.imul, 1) := by decide +kernel
theorem d_Mo_query_54 : decode b_Mo_query 54 = .ok (.iload_n 3, 1) := by decide +kernel
theorem d_Mo_query_55 : decode b_Mo_query 55 = .ok (.iadd, 1) := by decide +kernel
theorem d_Mo_query_56 : decode b_Mo_query 56 = .ok (.iaload, 1) := by decide +kernel
theorem d_Mo_query_57 : decode b_Mo_query 57 = .ok (.iastore, 1) := by decide +kernel
theorem d_Mo_query_58 : decode b_Mo_query 58 = .ok (.iinc 3 1, 3) := by decide +kernel
theorem d_Mo_query_61 : decode b_Mo_query 61 = .ok (.goto (-28), 3) := by decide +kernel
theorem d_Mo_query_64 : decode b_Mo_query 64 = .ok (.iinc 2 1, 3) := by decide +kernel
theorem d_Mo_query_67 : decode b_Mo_query 67 = .ok (.goto (-60), 3) := by decide +kernel
theorem d_Mo_query_70 : decode b_Mo_query 70 = .ok (.aload_n 0, 1) := by decide +kernel
theorem d_Mo_query_71 : decode b_Mo_query 71 = .ok (.iconst 0, 1) := by decide +kernel
theorem d_Mo_query_72 : decode b_Mo_query 72 = .ok (.putfield 262, 3) := by decide +kernel
theorem d_Mo_query_75 : decode b_Mo_query 75 = .ok (.aload_n 0, 1) := by decide +kernel
theorem d_Mo_query_76 : decode b_Mo_query 76 = .ok (.iload_n 1, 1) := by decide +kernel
theorem d_Mo_query_77 : decode b_Mo_query 77 = .ok (.ifCond .ne 7, 3) := by decide +kernel
theorem d_Mo_query_80 : decode b_Mo_query 80 = .ok (.iconst 1, 1) := by decide +kernel
theorem d_Mo_query_81 : decode b_Mo_query 81 = .ok (.goto 4, 3) := by decide +kernel
theorem d_Mo_query_84 : decode b_Mo_query 84 = .ok (.iconst 0, 1) := by decide +kernel
theorem d_Mo_query_85 : decode b_Mo_query 85 = .ok (.iconst 0, 1) := by decide +kernel
theorem d_Mo_query_86 : decode b_Mo_query 86 = .ok (.invokevirtual 251, 3) := by decide +kernel
theorem d_Mo_query_89 : decode b_Mo_query 89 = .ok (.pop, 1) := by decide +kernel
theorem d_Mo_query_90 : decode b_Mo_query 90 = .ok (.return_, 1) := by decide +kernel
set_option maxHeartbeats 4000000 in
set_option maxRecDepth 100000 in
theorem c_Mo_query0 (l : Launch) (E : gh_E) (sz : Nat) (f : gh_F) (a : Nat) (ad : Nat → Nat) (S : Nat → Int32) (I : Nat → Nat → Int32) (J : Nat → Nat → Int64) (N : Nat) (cb bg : Nat → Nat) (hX : mo_R E f a ad S I J) (hN : N ≤ 60) (hS30 : S 30 = nI N) (hcb : ∀ j, j < N → I 29 j = nI (cb j)) (hc256 : ∀ j, cb j < 256) (hbg : ∀ j, I 31 j = nI (bg j)) (hgo : ¬ (qy_run cb N 13 0 (va_up bg 0 0)).1 = some N) : gh_M l y_Mo_query b_Mo_query 4 none E sz [.ref a] f { frames := 7, cells := 0, slots := 0, locals := 180 } (fun r g => r = none ∧ ∃ I2, mo_X E f g a ad (va_up (va_up S 30 0) 0 1) I2 J ∧ ∀ k, k ≠ 31 → k ≠ 32 → I2 k = I k) := by
  refine gh_open (by decide) (Nat.le_of_ble_eq_true rfl) ?_
  intro p e s m args below meth c A ls hAe C V hr hlocks hname hl
  have hx := C.1
  have hb := C.2.1
  have hl : lv_has ls 4 [(0, .ref a)] := hl
  have X : mo_X E f f a ad S I J := ⟨hX, gh_fr.rf⟩
  refine lv_aload_n hx hb d_Mo_query_0 rfl (lv_at hl 0 rfl) ?_
  refine gh_callV C V hl.1 m_Mo_isWhole l_Mo_268 (c_Mo_isWhole l E _ _ a ad _ _ _ N cb bg X.1 hN hS30 hcb hc256 hbg) rfl X.1.1 gc_Mo ⟨by first | decide | omega | (dsimp only; omega), by first | decide | omega | (dsimp only; omega)⟩ ⟨by first | decide | omega | (dsimp only; omega), by first | decide | omega | (dsimp only; omega)⟩ (Nat.le_of_ble_eq_true rfl) rfl d_Mo_query_1 (fun r z9 H locs hp V1 => ?_)
  obtain ⟨rfl, I2, X2, hfr, hq2⟩ := hp
  have X := X.then X2
  have V := V1
  rw [decide_eq_false hgo]
  refine W.eq (g2 := F0 m 4 ls [.int 0]) rfl ?_
  refine lv_istore_n hx hb d_Mo_query_4 rfl hl (by decide) rfl (fun ls hl => ?_)
  have hl : lv_has ls 4 [(1, .int 0), (0, .ref a)] := hl
  refine lv_iconst (v := 0) hx hb d_Mo_query_5 (by decide) ?_
  refine lv_istore_n hx hb d_Mo_query_6 rfl hl (by decide) rfl (fun ls hl => ?_)
  have hl : lv_has ls 4 [(2, .int 0), (1, .int 0), (0, .ref a)] := hl
  refine lv_iload_n hx hb d_Mo_query_7 rfl (lv_at hl 0 rfl) ?_
  refine lv_aload_n hx hb d_Mo_query_8 rfl (lv_at hl 2 rfl) ?_
  refine mo_getS (v := nI N) C V X 30 (by decide) (by decide) (by first | rfl | exact hS30) f_Mo_262 rfl d_Mo_query_9 ?_
  refine lv_icmp_ge (tgt := 70) hx hb d_Mo_query_12 (by decide) (fun c1 => ?_) (fun c1 => ?_)
  · have c1 : N ≤ 0 := by rw [← gq_le (a := N) (b := 0) (by omega) (by omega)]; exact c1
    refine lv_aload_n hx hb d_Mo_query_70 rfl (lv_at hl 2 rfl) ?_
    refine lv_iconst (v := 0) hx hb d_Mo_query_71 (by decide) ?_
    refine mo_putS C V X 30 (by decide) (by decide) f_Mo_262 rfl rfl rfl d_Mo_query_72 (fun f1 H locs V1 X1 => ?_)
    clear V X
    have V := V1
    have X := X1
    clear V1 X1
    refine lv_aload_n hx hb d_Mo_query_75 rfl (lv_at hl 2 rfl) ?_
    refine lv_iload_n hx hb d_Mo_query_76 rfl (lv_at hl 1 rfl) ?_
    refine lv_if_ne (tgt := 84) hx hb d_Mo_query_77 (by decide) (fun c2 => absurd (by decide) c2) (fun c2 => ?_)
    refine lv_iconst (v := 1) hx hb d_Mo_query_80 (by decide) ?_
    refine lv_goto (tgt := 85) hx hb d_Mo_query_81 (by decide) ?_
    refine lv_iconst (v := 0) hx hb d_Mo_query_85 (by decide) ?_
    refine W.eq (g2 := F0 m 86 ls [.int (gh_bi false), .int (gh_bi true), .ref a]) rfl ?_
    refine gh_callV C V hl.1 m_Mo_throwing l_Mo_251 (c_Mo_throwing l E _ _ a ad _ _ _ true false X.1) rfl X.1.1 gc_Mo ⟨by first | decide | omega | (dsimp only; omega), by first | decide | omega | (dsimp only; omega)⟩ ⟨by first | decide | omega | (dsimp only; omega), by first | decide | omega | (dsimp only; omega)⟩ (Nat.le_of_ble_eq_true rfl) rfl d_Mo_query_86 (fun r z9 H locs hp V1 => ?_)
    obtain ⟨rfl, X2⟩ := hp
    have X := X.then X2
    have V := V1
    refine W.eq (g2 := F0 m 89 ls [.int (gh_bi true)]) rfl ?_
    refine lv_pop hx hb d_Mo_query_89 rfl ?_
    refine gh_retv hAe C V hr hlocks d_Mo_query_90 (by first | decide | omega | (dsimp only; omega)) (by first | decide | omega | (dsimp only; omega)) ?_
    exact ⟨rfl, _, X, hfr⟩
  · have c1 : ¬ N ≤ 0 := by rw [← gq_le (a := N) (b := 0) (by omega) (by omega)]; exact c1
    refine lv_iload_n hx hb d_Mo_query_15 rfl (lv_at hl 1 rfl) ?_
    refine lv_if_eq (tgt := 70) hx hb d_Mo_query_16 (by decide) (fun c3 => ?_) (fun c3 => absurd (by decide) c3)
    refine lv_aload_n hx hb d_Mo_query_70 rfl (lv_at hl 2 rfl) ?_
    refine lv_iconst (v := 0) hx hb d_Mo_query_71 (by decide) ?_
    refine mo_putS C V X 30 (by decide) (by decide) f_Mo_262 rfl rfl rfl d_Mo_query_72 (fun f1 H locs V1 X1 => ?_)
    clear V X
    have V := V1
    have X := X1
    clear V1 X1
    refine lv_aload_n hx hb d_Mo_query_75 rfl (lv_at hl 2 rfl) ?_
    refine lv_iload_n hx hb d_Mo_query_76 rfl (lv_at hl 1 rfl) ?_
    refine lv_if_ne (tgt := 84) hx hb d_Mo_query_77 (by decide) (fun c4 => absurd (by decide) c4) (fun c4 => ?_)
    refine lv_iconst (v := 1) hx hb d_Mo_query_80 (by decide) ?_
    refine lv_goto (tgt := 85) hx hb d_Mo_query_81 (by decide) ?_
    refine lv_iconst (v := 0) hx hb d_Mo_query_85 (by decide) ?_
    refine W.eq (g2 := F0 m 86 ls [.int (gh_bi false), .int (gh_bi true), .ref a]) rfl ?_
    refine gh_callV C V hl.1 m_Mo_throwing l_Mo_251 (c_Mo_throwing l E _ _ a ad _ _ _ true false X.1) rfl X.1.1 gc_Mo ⟨by first | decide | omega | (dsimp only; omega), by first | decide | omega | (dsimp only; omega)⟩ ⟨by first | decide | omega | (dsimp only; omega), by first | decide | omega | (dsimp only; omega)⟩ (Nat.le_of_ble_eq_true rfl) rfl d_Mo_query_86 (fun r z9 H locs hp V1 => ?_)
    obtain ⟨rfl, X2⟩ := hp
    have X := X.then X2
    have V := V1
    refine W.eq (g2 := F0 m 89 ls [.int (gh_bi true)]) rfl ?_
    refine lv_pop hx hb d_Mo_query_89 rfl ?_
    refine gh_retv hAe C V hr hlocks d_Mo_query_90 (by first | decide | omega | (dsimp only; omega)) (by first | decide | omega | (dsimp only; omega)) ?_
    exact ⟨rfl, _, X, hfr⟩
set_option maxHeartbeats 4000000 in
set_option maxRecDepth 100000 in
theorem c_Mo_query1 (l : Launch) (E : gh_E) (sz : Nat) (f : gh_F) (a : Nat) (ad : Nat → Nat) (S : Nat → Int32) (I : Nat → Nat → Int32) (J : Nat → Nat → Int64) (N : Nat) (cb bg : Nat → Nat) (hX : mo_R E f a ad S I J) (hN : N ≤ 60) (hS30 : S 30 = nI N) (hcb : ∀ j, j < N → I 29 j = nI (cb j)) (hc256 : ∀ j, cb j < 256) (hbg : ∀ j, I 31 j = nI (bg j)) (hgo : (qy_run cb N 13 0 (va_up bg 0 0)).1 = some N) : gh_M l y_Mo_query b_Mo_query 4 none E sz [.ref a] f { frames := 7, cells := 0, slots := 0, locals := 180 } (fun r g => r = none ∧ ∃ I3, mo_X E f g a ad (va_up (va_up S 30 0) 0 0) I3 J ∧ (∀ j, I3 33 j = if j < N then nI (cb j) else I 33 j) ∧ (∀ j, I3 34 j = if j < 3 * N then nI ((qy_run cb N 13 0 (va_up bg 0 0)).2 j) else I 34 j) ∧ ∀ k, k ≠ 31 → k ≠ 32 → k ≠ 33 → k ≠ 34 → I3 k = I k) := by
  refine gh_open (by decide) (Nat.le_of_ble_eq_true rfl) ?_
  intro p e s m args below meth c A ls hAe C V hr hlocks hname hl
  have hx := C.1
  have hb := C.2.1
  have hl : lv_has ls 4 [(0, .ref a)] := hl
  have X : mo_X E f f a ad S I J := ⟨hX, gh_fr.rf⟩
  refine lv_aload_n hx hb d_Mo_query_0 rfl (lv_at hl 0 rfl) ?_
  refine gh_callV C V hl.1 m_Mo_isWhole l_Mo_268 (c_Mo_isWhole l E _ _ a ad _ _ _ N cb bg X.1 hN hS30 hcb hc256 hbg) rfl X.1.1 gc_Mo ⟨by first | decide | omega | (dsimp only; omega), by first | decide | omega | (dsimp only; omega)⟩ ⟨by first | decide | omega | (dsimp only; omega), by first | decide | omega | (dsimp only; omega)⟩ (Nat.le_of_ble_eq_true rfl) rfl d_Mo_query_1 (fun r z9 H locs hp V1 => ?_)
  obtain ⟨rfl, I2, X2, hfr, hq2⟩ := hp
  have X := X.then X2
  have V := V1
  rw [decide_eq_true hgo]
  refine W.eq (g2 := F0 m 4 ls [.int 1]) rfl ?_
  refine lv_istore_n hx hb d_Mo_query_4 rfl hl (by decide) rfl (fun ls hl => ?_)
  have hl : lv_has ls 4 [(1, .int 1), (0, .ref a)] := hl
  refine lv_iconst (v := 0) hx hb d_Mo_query_5 (by decide) ?_
  refine lv_istore_n hx hb d_Mo_query_6 rfl hl (by decide) rfl (fun ls hl => ?_)
  have hl : lv_has ls 4 [(2, .int 0), (1, .int 1), (0, .ref a)] := hl
  have hl : lv_has ls 4 [(2, .int 0), (0, .ref a), (1, .int 1)] := lv_sub hl [0, 2, 1] rfl
  have hl : lv_has ls 4 [(2, .int (nI 0)), (0, .ref a), (1, .int 1)] := hl
  have loop : ∀ (n9 i9 : Nat) (S1 : Nat → Int32) (I1 : mo_I) (f1 : gh_F) (H : Heap) (locs : List Loc) (ls : Array Slot), i9 + n9 = N → (∀ j, I1 33 j = if j < i9 then nI (cb j) else I 33 j) → (∀ j, I1 34 j = if j < 3 * i9 then I2 31 j else I 34 j) → (∀ k, k ≠ 33 → k ≠ 34 → I1 k = I2 k) → (S1 = S) → mo_X E f f1 a ad S1 I1 J → gh_V E A f1 s H locs → lv_has ls 4 [(2, .int (nI i9)), (0, .ref a), (1, .int 1)] → W p l e { frames := 7, cells := 0, slots := 0, locals := 180 } s m args below meth c H locs 0 0 (MQ below (gh_Q E f (fun r g => r = none ∧ ∃ I3, mo_X E f g a ad (va_up (va_up S 30 0) 0 0) I3 J ∧ (∀ j, I3 33 j = if j < N then nI (cb j) else I 33 j) ∧ (∀ j, I3 34 j = if j < 3 * N then nI ((qy_run cb N 13 0 (va_up bg 0 0)).2 j) else I 34 j) ∧ ∀ k, k ≠ 31 → k ≠ 32 → k ≠ 33 → k ≠ 34 → I3 k = I k)) args s 0 0 A) (F0 m 7 ls []) := by
    intro n9
    induction n9 with
    | zero =>
      intro i9 S1 I1 f1 H locs ls hi q33 q34 qo qS X V hl
      rw [qS] at X
      refine lv_iload_n hx hb d_Mo_query_7 rfl (lv_at hl 0 rfl) ?_
      refine lv_aload_n hx hb d_Mo_query_8 rfl (lv_at hl 1 rfl) ?_
      refine mo_getS (v := nI N) C V X 30 (by decide) (by decide) (by first | rfl | exact hS30) f_Mo_262 rfl d_Mo_query_9 ?_
      refine lv_icmp_ge (tgt := 70) hx hb d_Mo_query_12 (by decide) (fun c1 => ?_) (fun c1 => absurd (nI_le (by omega) (by omega)) c1)
      refine lv_aload_n hx hb d_Mo_query_70 rfl (lv_at hl 1 rfl) ?_
      refine lv_iconst (v := 0) hx hb d_Mo_query_71 (by decide) ?_
      refine mo_putS C V X 30 (by decide) (by decide) f_Mo_262 rfl rfl rfl d_Mo_query_72 (fun f1 H locs V1 X1 => ?_)
      clear V X
      have V := V1
      have X := X1
      clear V1 X1
      refine lv_aload_n hx hb d_Mo_query_75 rfl (lv_at hl 1 rfl) ?_
      refine lv_iload_n hx hb d_Mo_query_76 rfl (lv_at hl 2 rfl) ?_
      refine lv_if_ne (tgt := 84) hx hb d_Mo_query_77 (by decide) (fun c2 => ?_) (fun c2 => absurd c2 (by decide))
      refine lv_iconst (v := 0) hx hb d_Mo_query_84 (by decide) ?_
      refine lv_iconst (v := 0) hx hb d_Mo_query_85 (by decide) ?_
      refine W.eq (g2 := F0 m 86 ls [.int (gh_bi false), .int (gh_bi false), .ref a]) rfl ?_
      refine gh_callV C V hl.1 m_Mo_throwing l_Mo_251 (c_Mo_throwing l E _ _ a ad _ _ _ false false X.1) rfl X.1.1 gc_Mo ⟨by first | decide | omega | (dsimp only; omega), by first | decide | omega | (dsimp only; omega)⟩ ⟨by first | decide | omega | (dsimp only; omega), by first | decide | omega | (dsimp only; omega)⟩ (Nat.le_of_ble_eq_true rfl) rfl d_Mo_query_86 (fun r z9 H locs hp V1 => ?_)
      obtain ⟨rfl, X2⟩ := hp
      have X := X.then X2
      have V := V1
      refine W.eq (g2 := F0 m 89 ls [.int (gh_bi false)]) rfl ?_
      refine lv_pop hx hb d_Mo_query_89 rfl ?_
      refine gh_retv hAe C V hr hlocks d_Mo_query_90 (by first | decide | omega | (dsimp only; omega)) (by first | decide | omega | (dsimp only; omega)) ?_
      have hi9 : i9 = N := by omega
      subst hi9
      exact ⟨rfl, _, X, q33, fun j => by rw [q34 j]; by_cases h : j < 3 * i9; rw [if_pos h, if_pos h]; exact hq2 hgo j (by omega); rw [if_neg h, if_neg h], fun k h1 h2 h3 h4 => (qo k h3 h4).trans (hfr k h1 h2)⟩
    | succ n9 ih =>
      intro i9 S1 I1 f1 H locs ls hi q33 q34 qo qS X V hl
      rw [qS] at X
      have hd9 : I1 29 i9 = nI (cb i9) := by rw [qo 29 (by decide) (by decide), hfr 29 (by decide) (by decide)]; exact hcb i9 (by omega)
      have hc0 : I1 31 (3 * i9 + 0) = I2 31 (3 * i9 + 0) := by rw [qo 31 (by decide) (by decide)]
      have hc1 : I1 31 (3 * i9 + 1) = I2 31 (3 * i9 + 1) := by rw [qo 31 (by decide) (by decide)]
      have hc2 : I1 31 (3 * i9 + 2) = I2 31 (3 * i9 + 2) := by rw [qo 31 (by decide) (by decide)]
      refine lv_iload_n hx hb d_Mo_query_7 rfl (lv_at hl 0 rfl) ?_
      refine lv_aload_n hx hb d_Mo_query_8 rfl (lv_at hl 1 rfl) ?_
      refine mo_getS (v := nI N) C V X 30 (by decide) (by decide) (by first | rfl | exact hS30) f_Mo_262 rfl d_Mo_query_9 ?_
      refine lv_icmp_ge (tgt := 70) hx hb d_Mo_query_12 (by decide) (fun c3 => absurd c3 (nI_ge (by omega) (by omega))) (fun c3 => ?_)
      refine lv_iload_n hx hb d_Mo_query_15 rfl (lv_at hl 2 rfl) ?_
      refine lv_if_eq (tgt := 70) hx hb d_Mo_query_16 (by decide) (fun c4 => absurd c4 (by decide)) (fun c4 => ?_)
      refine lv_aload_n hx hb d_Mo_query_19 rfl (lv_at hl 1 rfl) ?_
      refine mo_getA C V X 33 (by decide) (by decide) f_Mo_82 rfl d_Mo_query_20 ?_
      refine lv_iload_n hx hb d_Mo_query_23 rfl (lv_at hl 0 rfl) ?_
      refine lv_aload_n hx hb d_Mo_query_24 rfl (lv_at hl 1 rfl) ?_
      refine mo_getA C V X 29 (by decide) (by decide) f_Mo_73 rfl d_Mo_query_25 ?_
      refine lv_iload_n hx hb d_Mo_query_28 rfl (lv_at hl 0 rfl) ?_
      refine mo_ild (k := 29) (i := i9) (n := 60) C V X (by decide) (by decide) rfl (by omega) (by decide) d_Mo_query_29 ?_
      rw [show I1 29 i9 = nI (cb i9) from hd9]
      refine mo_ist (k := 33) (i := i9) (n := 60) C V X (by decide) (by decide) rfl (by omega) (by decide) d_Mo_query_30 (fun f1 H locs V1 X1 => ?_)
      clear V X
      have V := V1
      have X := X1
      clear V1 X1
      refine lv_iconst (v := 0) hx hb d_Mo_query_31 (by decide) ?_
      refine lv_istore_n hx hb d_Mo_query_32 rfl hl (by decide) rfl (fun ls hl => ?_)
      have hl : lv_has ls 4 [(3, .int 0), (2, .int (nI i9)), (0, .ref a), (1, .int 1)] := hl
      refine lv_iload_n hx hb d_Mo_query_33 rfl (lv_at hl 0 rfl) ?_
      refine lv_iconst (v := 3) hx hb d_Mo_query_34 (by decide) ?_
      refine lv_icmp_ge (tgt := 64) hx hb d_Mo_query_35 (by decide) (fun c5 => absurd c5 (by decide)) (fun c5 => ?_)
      refine lv_aload_n hx hb d_Mo_query_38 rfl (lv_at hl 2 rfl) ?_
      refine mo_getA C V X 34 (by decide) (by decide) f_Mo_85 rfl d_Mo_query_39 ?_
      refine lv_iconst (v := 3) hx hb d_Mo_query_42 (by decide) ?_
      refine lv_iload_n hx hb d_Mo_query_43 rfl (lv_at hl 1 rfl) ?_
      refine gn_imul (a := 3) (b := i9) hx hb d_Mo_query_44 ?_
      refine lv_iload_n hx hb d_Mo_query_45 rfl (lv_at hl 0 rfl) ?_
      refine gn_iadd (a := 3 * i9) (b := 0) hx hb d_Mo_query_46 ?_
      refine lv_aload_n hx hb d_Mo_query_47 rfl (lv_at hl 2 rfl) ?_
      refine mo_getA C V X 31 (by decide) (by decide) f_Mo_76 rfl d_Mo_query_48 ?_
      refine lv_iconst (v := 3) hx hb d_Mo_query_51 (by decide) ?_
      refine lv_iload_n hx hb d_Mo_query_52 rfl (lv_at hl 1 rfl) ?_
      refine gn_imul (a := 3) (b := i9) hx hb d_Mo_query_53 ?_
      refine lv_iload_n hx hb d_Mo_query_54 rfl (lv_at hl 0 rfl) ?_
      refine gn_iadd (a := 3 * i9) (b := 0) hx hb d_Mo_query_55 ?_
      refine mo_ild (k := 31) (i := (3 * i9) + 0) (n := 180) C V X (by decide) (by decide) rfl (by omega) (by decide) d_Mo_query_56 ?_
      rw [show (va_up I1 33 (upd (I1 33) i9 (nI (cb i9)))) 31 ((3 * i9) + 0) = I2 31 (3 * i9 + 0) from (by first | exact hc0 | (simp [va_up]; exact hc0))]
      refine mo_ist (k := 34) (i := (3 * i9) + 0) (n := 180) C V X (by decide) (by decide) rfl (by omega) (by decide) d_Mo_query_57 (fun f1 H locs V1 X1 => ?_)
      clear V X
      have V := V1
      have X := X1
      clear V1 X1
      refine lv_iinc (k := 0) (v := 1) hx hb d_Mo_query_58 hl rfl (by decide) (by decide) rfl (fun ls hl => ?_)
      have hl : lv_has ls 4 [(3, .int 1), (2, .int (nI i9)), (0, .ref a), (1, .int 1)] := hl
      refine lv_goto (tgt := 33) hx hb d_Mo_query_61 (by decide) ?_
      refine lv_iload_n hx hb d_Mo_query_33 rfl (lv_at hl 0 rfl) ?_
      refine lv_iconst (v := 3) hx hb d_Mo_query_34 (by decide) ?_
      refine lv_icmp_ge (tgt := 64) hx hb d_Mo_query_35 (by decide) (fun c6 => absurd c6 (by decide)) (fun c6 => ?_)
      refine lv_aload_n hx hb d_Mo_query_38 rfl (lv_at hl 2 rfl) ?_
      refine mo_getA C V X 34 (by decide) (by decide) f_Mo_85 rfl d_Mo_query_39 ?_
      refine lv_iconst (v := 3) hx hb d_Mo_query_42 (by decide) ?_
      refine lv_iload_n hx hb d_Mo_query_43 rfl (lv_at hl 1 rfl) ?_
      refine gn_imul (a := 3) (b := i9) hx hb d_Mo_query_44 ?_
      refine lv_iload_n hx hb d_Mo_query_45 rfl (lv_at hl 0 rfl) ?_
      refine gn_iadd (a := 3 * i9) (b := 1) hx hb d_Mo_query_46 ?_
      refine lv_aload_n hx hb d_Mo_query_47 rfl (lv_at hl 2 rfl) ?_
      refine mo_getA C V X 31 (by decide) (by decide) f_Mo_76 rfl d_Mo_query_48 ?_
      refine lv_iconst (v := 3) hx hb d_Mo_query_51 (by decide) ?_
      refine lv_iload_n hx hb d_Mo_query_52 rfl (lv_at hl 1 rfl) ?_
      refine gn_imul (a := 3) (b := i9) hx hb d_Mo_query_53 ?_
      refine lv_iload_n hx hb d_Mo_query_54 rfl (lv_at hl 0 rfl) ?_
      refine gn_iadd (a := 3 * i9) (b := 1) hx hb d_Mo_query_55 ?_
      refine mo_ild (k := 31) (i := (3 * i9) + 1) (n := 180) C V X (by decide) (by decide) rfl (by omega) (by decide) d_Mo_query_56 ?_
      rw [show (va_up (va_up I1 33 (upd (I1 33) i9 (nI (cb i9)))) 34 (upd ((va_up I1 33 (upd (I1 33) i9 (nI (cb i9)))) 34) ((3 * i9) + 0) (I2 31 (3 * i9 + 0)))) 31 ((3 * i9) + 1) = I2 31 (3 * i9 + 1) from (by first | exact hc1 | (simp [va_up]; exact hc1))]
      refine mo_ist (k := 34) (i := (3 * i9) + 1) (n := 180) C V X (by decide) (by decide) rfl (by omega) (by decide) d_Mo_query_57 (fun f1 H locs V1 X1 => ?_)
      clear V X
      have V := V1
      have X := X1
      clear V1 X1
      refine lv_iinc (k := 0) (v := 2) hx hb d_Mo_query_58 hl rfl (by decide) (by decide) rfl (fun ls hl => ?_)
      have hl : lv_has ls 4 [(3, .int 2), (2, .int (nI i9)), (0, .ref a), (1, .int 1)] := hl
      refine lv_goto (tgt := 33) hx hb d_Mo_query_61 (by decide) ?_
      refine lv_iload_n hx hb d_Mo_query_33 rfl (lv_at hl 0 rfl) ?_
      refine lv_iconst (v := 3) hx hb d_Mo_query_34 (by decide) ?_
      refine lv_icmp_ge (tgt := 64) hx hb d_Mo_query_35 (by decide) (fun c7 => absurd c7 (by decide)) (fun c7 => ?_)
      refine lv_aload_n hx hb d_Mo_query_38 rfl (lv_at hl 2 rfl) ?_
      refine mo_getA C V X 34 (by decide) (by decide) f_Mo_85 rfl d_Mo_query_39 ?_
      refine lv_iconst (v := 3) hx hb d_Mo_query_42 (by decide) ?_
      refine lv_iload_n hx hb d_Mo_query_43 rfl (lv_at hl 1 rfl) ?_
      refine gn_imul (a := 3) (b := i9) hx hb d_Mo_query_44 ?_
      refine lv_iload_n hx hb d_Mo_query_45 rfl (lv_at hl 0 rfl) ?_
      refine gn_iadd (a := 3 * i9) (b := 2) hx hb d_Mo_query_46 ?_
      refine lv_aload_n hx hb d_Mo_query_47 rfl (lv_at hl 2 rfl) ?_
      refine mo_getA C V X 31 (by decide) (by decide) f_Mo_76 rfl d_Mo_query_48 ?_
      refine lv_iconst (v := 3) hx hb d_Mo_query_51 (by decide) ?_
      refine lv_iload_n hx hb d_Mo_query_52 rfl (lv_at hl 1 rfl) ?_
      refine gn_imul (a := 3) (b := i9) hx hb d_Mo_query_53 ?_
      refine lv_iload_n hx hb d_Mo_query_54 rfl (lv_at hl 0 rfl) ?_
      refine gn_iadd (a := 3 * i9) (b := 2) hx hb d_Mo_query_55 ?_
      refine mo_ild (k := 31) (i := (3 * i9) + 2) (n := 180) C V X (by decide) (by decide) rfl (by omega) (by decide) d_Mo_query_56 ?_
      rw [show (va_up (va_up (va_up I1 33 (upd (I1 33) i9 (nI (cb i9)))) 34 (upd ((va_up I1 33 (upd (I1 33) i9 (nI (cb i9)))) 34) ((3 * i9) + 0) (I2 31 (3 * i9 + 0)))) 34 (upd ((va_up (va_up I1 33 (upd (I1 33) i9 (nI (cb i9)))) 34 (upd ((va_up I1 33 (upd (I1 33) i9 (nI (cb i9)))) 34) ((3 * i9) + 0) (I2 31 (3 * i9 + 0)))) 34) ((3 * i9) + 1) (I2 31 (3 * i9 + 1)))) 31 ((3 * i9) + 2) = I2 31 (3 * i9 + 2) from (by first | exact hc2 | (simp [va_up]; exact hc2))]
      refine mo_ist (k := 34) (i := (3 * i9) + 2) (n := 180) C V X (by decide) (by decide) rfl (by omega) (by decide) d_Mo_query_57 (fun f1 H locs V1 X1 => ?_)
      clear V X
      have V := V1
      have X := X1
      clear V1 X1
      refine lv_iinc (k := 0) (v := 3) hx hb d_Mo_query_58 hl rfl (by decide) (by decide) rfl (fun ls hl => ?_)
      have hl : lv_has ls 4 [(3, .int 3), (2, .int (nI i9)), (0, .ref a), (1, .int 1)] := hl
      refine lv_goto (tgt := 33) hx hb d_Mo_query_61 (by decide) ?_
      refine lv_iload_n hx hb d_Mo_query_33 rfl (lv_at hl 0 rfl) ?_
      refine lv_iconst (v := 3) hx hb d_Mo_query_34 (by decide) ?_
      refine lv_icmp_ge (tgt := 64) hx hb d_Mo_query_35 (by decide) (fun c8 => ?_) (fun c8 => absurd (by decide) c8)
      refine lv_iinc (k := 1) (v := (nI i9) + 1) hx hb d_Mo_query_64 hl rfl (by rfl) (by decide) rfl (fun ls hl => ?_)
      have hl : lv_has ls 4 [(2, .int (nI (i9 + 1))), (3, .int 3), (0, .ref a), (1, .int 1)] := by rw [nI_succ]; exact hl
      refine lv_goto (tgt := 7) hx hb d_Mo_query_67 (by decide) ?_
      have hl : lv_has ls 4 [(2, .int (nI (i9 + 1))), (0, .ref a), (1, .int 1)] := lv_sub hl [0, 2, 3] rfl
      have hl : lv_has ls 4 [(2, .int (nI (i9 + 1))), (0, .ref a), (1, .int 1)] := hl
      refine ih (i9 + 1) _ _ _ H locs ls (by omega) (fun j => ?_) (fun j => ?_) (fun k h1 h2 => ?_) rfl X V hl
      · have := q33 j
        rw [va_up_n (by decide), va_up_n (by decide), va_up_n (by decide), va_up_s]
        simp only [upd]
        by_cases e : j = i9
        · rw [if_pos e, if_pos (by omega), e]
        · rw [if_neg e, this]; by_cases h : j < i9
          · rw [if_pos h, if_pos (by omega)]
          · rw [if_neg h, if_neg (by omega)]
      · have := q34 j
        rw [va_up_s, va_up_s, va_up_s, va_up_n (by decide)]
        simp only [upd]
        by_cases e2 : j = 3 * i9 + 2
        · rw [if_pos e2, if_pos (by omega), e2]
        · rw [if_neg e2]; by_cases e1 : j = 3 * i9 + 1
          · rw [if_pos e1, if_pos (by omega), e1]
          · rw [if_neg e1]; by_cases e0 : j = 3 * i9 + 0
            · rw [if_pos e0, if_pos (by omega), e0]
            · rw [if_neg e0, this]; by_cases h : j < 3 * i9
              · rw [if_pos h, if_pos (by omega)]
              · rw [if_neg h, if_neg (by omega)]
      · simp [va_up, h1, h2]; exact qo k h1 h2
  exact loop (N) 0 S _ _ _ _ ls (by omega) (fun j => by rw [if_neg (by omega), hfr 33 (by decide) (by decide)]) (fun j => by rw [if_neg (by omega), hfr 34 (by decide) (by decide)]) (fun _ _ _ => rfl) rfl X V hl
