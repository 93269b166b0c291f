/-! bytes, text of the model. Printed by wip/whole/gen_mo28.py. -/
theorem d_Mo_bytes_0 : decode b_Mo_bytes 0 = .ok (.iload_n 3, 1) := by decide +kernel
theorem d_Mo_bytes_1 : decode b_Mo_bytes 1 = .ok (.iconst 1, 1) := by decide +kernel
theorem d_Mo_bytes_2 : decode b_Mo_bytes 2 = .ok (.if_icmp .lt 9, 3) := by decide +kernel
theorem d_Mo_bytes_5 : decode b_Mo_bytes 5 = .ok (.iload_n 3, 1) := by decide +kernel
theorem d_Mo_bytes_6 : decode b_Mo_bytes 6 = .ok (.bipush 8, 2) := by decide +kernel
theorem d_Mo_bytes_8 : decode b_Mo_bytes 8 = .ok (.if_icmp .le 7, 3) := by decide +kernel
theorem d_Mo_bytes_11 : decode b_Mo_bytes 11 = .ok (.iconst 1, 1) := by decide +kernel
theorem d_Mo_bytes_12 : decode b_Mo_bytes 12 = .ok (.goto 4, 3) := by decide +kernel
theorem d_Mo_bytes_15 : decode b_Mo_bytes 15 = .ok (.iconst 0, 1) := by decide +kernel
theorem d_Mo_bytes_16 : decode b_Mo_bytes 16 = .ok (.istore 4, 2) := by decide +kernel
theorem d_Mo_bytes_18 : decode b_Mo_bytes 18 = .ok (.aload_n 0, 1) := by decide +kernel
theorem d_Mo_bytes_19 : decode b_Mo_bytes 19 = .ok (.iload 4, 2) := by decide +kernel
theorem d_Mo_bytes_21 : decode b_Mo_bytes 21 = .ok (.iload 4, 2) := by decide +kernel
theorem d_Mo_bytes_23 : decode b_Mo_bytes 23 = .ok (.ifCond .ne 18, 3) := by decide +kernel
theorem d_Mo_bytes_26 : decode b_Mo_bytes 26 = .ok (.aload_n 0, 1) := by decide +kernel
theorem d_Mo_bytes_27 : decode b_Mo_bytes 27 = .ok (.getfield 262, 3) := by decide +kernel
theorem d_Mo_bytes_30 : decode b_Mo_bytes 30 = .ok (.iload_n 3, 1) := by decide +kernel
theorem d_Mo_bytes_31 : decode b_Mo_bytes 31 = .ok (.iadd, 1) := by decide +kernel
theorem d_Mo_bytes_32 : decode b_Mo_bytes 32 = .ok (.bipush 60, 2) := by decide +kernel
theorem d_Mo_bytes_34 : decode b_Mo_bytes 34 = .ok (.if_icmp .le 7, 3) := by decide +kernel
theorem d_Mo_bytes_37 : decode b_Mo_bytes 37 = .ok (.iconst 1, 1) := by decide +kernel
theorem d_Mo_bytes_38 : decode b_Mo_bytes 38 = .ok (.goto 4, 3) := by decide +kernel
theorem d_Mo_bytes_41 : decode b_Mo_bytes 41 = .ok (.iconst 0, 1) := by decide +kernel
theorem d_Mo_bytes_42 : decode b_Mo_bytes 42 = .ok (.invokevirtual 251, 3) := by decide +kernel
theorem d_Mo_bytes_45 : decode b_Mo_bytes 45 = .ok (.ifCond .eq 4, 3) := by decide +kernel
theorem d_Mo_bytes_48 : decode b_Mo_bytes 48 = .ok (.return_, 1) := by decide +kernel
theorem d_Mo_bytes_49 : decode b_Mo_bytes 49 = .ok (.iload_n 3, 1) := by decide +kernel
theorem d_Mo_bytes_50 : decode b_Mo_bytes 50 = .ok (.iconst 1, 1) := by decide +kernel
theorem d_Mo_bytes_51 : decode b_Mo_bytes 51 = .ok (.isub, 1) := by decide +kernel
theorem d_Mo_bytes_52 : decode b_Mo_bytes 52 = .ok (.istore 5, 2) := by decide +kernel
theorem d_Mo_bytes_54 : decode b_Mo_bytes 54 = .ok (.iload 5, 2) := by decide +kernel
theorem d_Mo_bytes_56 : decode b_Mo_bytes 56 = .ok (.ifCond .lt 40, 3) := by decide +kernel
theorem d_Mo_bytes_59 : decode b_Mo_bytes 59 = .ok (.aload_n 0, 1) := by decide +kernel
theorem d_Mo_bytes_60 : decode b_Mo_bytes 60 = .ok (.getfield 73, 3) := by decide +kernel
theorem d_Mo_bytes_63 : decode b_Mo_bytes 63 = .ok (.aload_n 0, 1) := by decide +kernel
theorem d_Mo_bytes_64 : decode b_Mo_bytes 64 = .ok (.getfield 262, 3) := by decide +kernel
theorem d_Mo_bytes_67 : decode b_Mo_bytes 67 = .ok (.lload_n 1, 1) := by decide +kernel
theorem d_Mo_bytes_68 : decode b_Mo_bytes 68 = .ok (.bipush 8, 2) := by decide +kernel
theorem d_Mo_bytes_70 : decode b_Mo_bytes 70 = .ok (.iload 5, 2) := by decide +kernel
theorem d_Mo_bytes_72 : decode b_Mo_bytes 72 = .ok (.imul, 1) := by decide +kernel
theorem d_Mo_bytes_73 : decode b_Mo_bytes 73 = .ok (.lshr, 1) := by decide +kernel
theorem d_Mo_bytes_74 : decode b_Mo_bytes 74 = .ok (.ldc2_w 144, 3) := by decide +kernel
theorem d_Mo_bytes_77 : decode b_Mo_bytes 77 = .ok (.land, 1) := by decide +kernel
theorem d_Mo_bytes_78 : decode b_Mo_bytes 78 = .ok (.l2i, 1) := by decide +kernel
theorem d_Mo_bytes_79 : decode b_Mo_bytes 79 = .ok (.iastore, 1) := by decide +kernel
theorem d_Mo_bytes_80 : decode b_Mo_bytes 80 = .ok (.aload_n 0, 1) := by decide +kernel
theorem d_Mo_bytes_81 : decode b_Mo_bytes 81 = .ok (.dup, 1) := by decide +kernel
theorem d_Mo_bytes_82 : decode b_Mo_bytes 82 = .ok (.getfield 262, 3) := by decide +kernel
theorem d_Mo_bytes_85 : decode b_Mo_bytes 85 = .ok (.iconst 1, 1) := by decide +kernel
theorem d_Mo_bytes_86 : decode b_Mo_bytes 86 = .ok (.iadd, 1) := by decide +kernel
theorem d_Mo_bytes_87 : decode b_Mo_bytes 87 = .ok (.putfield 262, 3) := by decide +kernel
theorem d_Mo_bytes_90 : decode b_Mo_bytes 90 = .ok (.iinc 5 (-1), 3) := by decide +kernel
theorem d_Mo_bytes_93 : decode b_Mo_bytes 93 = .ok (.goto (-39), 3) := by decide +kernel
theorem d_Mo_bytes_96 : decode b_Mo_bytes 96 = .ok (.return_, 1) := by decide +kernel
set_option maxHeartbeats 4000000 in
set_option maxRecDepth 100000 in
theorem c_Mo_bytes0 (l : Launch) (E : gh_E) (sz : Nat) (f : gh_F) (a : Nat) (ad : Nat → Nat) (S : Nat → Int32) (I : Nat → Nat → Int32) (J : Nat → Nat → Int64) (x : Int64) (y : Int32) (hX : mo_R E f a ad S I J) (hy : ¬ (1 ≤ y ∧ y ≤ 8)) : gh_M l y_Mo_bytes b_Mo_bytes 6 none E sz [.ref a, .long x, .int y] f { frames := 5, cells := 0, slots := 0, locals := 140 } (fun r g => r = none ∧ mo_X E f g a ad (va_up S 0 1) I J) := by
  refine gh_open (by decide) (Nat.le_of_ble_eq_true rfl) ?_
  intro p e s m args below meth c A ls hAe C V hr hlocks hname hl
  have hx := C.1
  have hb := C.2.1
  have hl : lv_has ls 6 [(0, .ref a), (1, .long x), (3, .int y)] := hl
  have X : mo_X E f f a ad S I J := ⟨hX, gh_fr.rf⟩
  refine lv_iload_n hx hb d_Mo_bytes_0 rfl (lv_at hl 2 rfl) ?_
  refine lv_iconst (v := 1) hx hb d_Mo_bytes_1 (by decide) ?_
  refine lv_icmp_lt (tgt := 11) hx hb d_Mo_bytes_2 (by decide) (fun c1 => ?_) (fun c1 => ?_)
  · refine lv_iconst (v := 1) hx hb d_Mo_bytes_11 (by decide) ?_
    refine lv_goto (tgt := 16) hx hb d_Mo_bytes_12 (by decide) ?_
    refine lv_istore hx hb d_Mo_bytes_16 hl (by decide) rfl (fun ls hl => ?_)
    have hl : lv_has ls 6 [(4, .int 1), (0, .ref a), (1, .long x), (3, .int y)] := hl
    refine lv_aload_n hx hb d_Mo_bytes_18 rfl (lv_at hl 1 rfl) ?_
    refine lv_iload hx hb d_Mo_bytes_19 (lv_at hl 0 rfl) ?_
    refine lv_iload hx hb d_Mo_bytes_21 (lv_at hl 0 rfl) ?_
    refine lv_if_ne (tgt := 41) hx hb d_Mo_bytes_23 (by decide) (fun c2 => ?_) (fun c2 => absurd c2 (by decide))
    refine lv_iconst (v := 0) hx hb d_Mo_bytes_41 (by decide) ?_
    refine W.eq (g2 := F0 m 42 ls [.int (gh_bi false), .int (gh_bi true), .ref a]) rfl ?_
    refine gh_callV C V hl.1 m_Mo_throwing l_Mo_251 (c_Mo_throwing l E _ _ a ad _ _ _ true false X.1) rfl X.1.1 gc_Mo ⟨by first | decide | omega | (dsimp only; omega), by first | decide | omega | (dsimp only; omega)⟩ ⟨by first | decide | omega | (dsimp only; omega), by first | decide | omega | (dsimp only; omega)⟩ (Nat.le_of_ble_eq_true rfl) rfl d_Mo_bytes_42 (fun r z9 H locs hp V1 => ?_)
    obtain ⟨rfl, X2⟩ := hp
    have X := X.then X2
    have V := V1
    refine W.eq (g2 := F0 m 45 ls [.int (gh_bi true)]) rfl ?_
    refine lv_if_eq (tgt := 49) hx hb d_Mo_bytes_45 (by decide) (fun c3 => absurd c3 (by decide)) (fun c3 => ?_)
    refine gh_retv hAe C V hr hlocks d_Mo_bytes_48 (by first | decide | omega | (dsimp only; omega)) (by first | decide | omega | (dsimp only; omega)) ?_
    exact ⟨rfl, X⟩
  · refine lv_iload_n hx hb d_Mo_bytes_5 rfl (lv_at hl 2 rfl) ?_
    refine lv_bipush (v := 8) hx hb d_Mo_bytes_6 (by decide) ?_
    refine lv_icmp_le (tgt := 15) hx hb d_Mo_bytes_8 (by decide) (fun c4 => absurd c4 (fun z => hy ⟨by first | exact Int32.not_lt.mp c1 | exact c1, z⟩)) (fun c4 => ?_)
    refine lv_iconst (v := 1) hx hb d_Mo_bytes_11 (by decide) ?_
    refine lv_goto (tgt := 16) hx hb d_Mo_bytes_12 (by decide) ?_
    refine lv_istore hx hb d_Mo_bytes_16 hl (by decide) rfl (fun ls hl => ?_)
    have hl : lv_has ls 6 [(4, .int 1), (0, .ref a), (1, .long x), (3, .int y)] := hl
    refine lv_aload_n hx hb d_Mo_bytes_18 rfl (lv_at hl 1 rfl) ?_
    refine lv_iload hx hb d_Mo_bytes_19 (lv_at hl 0 rfl) ?_
    refine lv_iload hx hb d_Mo_bytes_21 (lv_at hl 0 rfl) ?_
    refine lv_if_ne (tgt := 41) hx hb d_Mo_bytes_23 (by decide) (fun c5 => ?_) (fun c5 => absurd c5 (by decide))
    refine lv_iconst (v := 0) hx hb d_Mo_bytes_41 (by decide) ?_
    refine W.eq (g2 := F0 m 42 ls [.int (gh_bi false), .int (gh_bi true), .ref a]) rfl ?_
    refine gh_callV C V hl.1 m_Mo_throwing l_Mo_251 (c_Mo_throwing l E _ _ a ad _ _ _ true false X.1) rfl X.1.1 gc_Mo ⟨by first | decide | omega | (dsimp only; omega), by first | decide | omega | (dsimp only; omega)⟩ ⟨by first | decide | omega | (dsimp only; omega), by first | decide | omega | (dsimp only; omega)⟩ (Nat.le_of_ble_eq_true rfl) rfl d_Mo_bytes_42 (fun r z9 H locs hp V1 => ?_)
    obtain ⟨rfl, X2⟩ := hp
    have X := X.then X2
    have V := V1
    refine W.eq (g2 := F0 m 45 ls [.int (gh_bi true)]) rfl ?_
    refine lv_if_eq (tgt := 49) hx hb d_Mo_bytes_45 (by decide) (fun c6 => absurd c6 (by decide)) (fun c6 => ?_)
    refine gh_retv hAe C V hr hlocks d_Mo_bytes_48 (by first | decide | omega | (dsimp only; omega)) (by first | decide | omega | (dsimp only; omega)) ?_
    exact ⟨rfl, X⟩
set_option maxHeartbeats 4000000 in
set_option maxRecDepth 100000 in
theorem c_Mo_bytes1 (l : Launch) (E : gh_E) (sz : Nat) (f : gh_F) (a : Nat) (ad : Nat → Nat) (S : Nat → Int32) (I : Nat → Nat → Int32) (J : Nat → Nat → Int64) (x : Int64) (mm N : Nat) (hX : mo_R E f a ad S I J) (hm : 1 ≤ mm ∧ mm ≤ 8) (hN : N ≤ 60) (hS30 : S 30 = nI N) (hov : 60 < N + mm) : gh_M l y_Mo_bytes b_Mo_bytes 6 none E sz [.ref a, .long x, .int (nI mm)] f { frames := 5, cells := 0, slots := 0, locals := 140 } (fun r g => r = none ∧ mo_X E f g a ad (va_up S 0 2) I J) := by
  refine gh_open (by decide) (Nat.le_of_ble_eq_true rfl) ?_
  intro p e s m args below meth c A ls hAe C V hr hlocks hname hl
  have hx := C.1
  have hb := C.2.1
  have hl : lv_has ls 6 [(0, .ref a), (1, .long x), (3, .int (nI mm))] := hl
  have X : mo_X E f f a ad S I J := ⟨hX, gh_fr.rf⟩
  refine lv_iload_n hx hb d_Mo_bytes_0 rfl (lv_at hl 2 rfl) ?_
  refine lv_iconst (v := 1) hx hb d_Mo_bytes_1 (by decide) ?_
  refine lv_icmp_lt (tgt := 11) hx hb d_Mo_bytes_2 (by decide) (fun c1 => absurd c1 (nI_nlt (b := 1) (by omega) (by omega))) (fun c1 => ?_)
  refine lv_iload_n hx hb d_Mo_bytes_5 rfl (lv_at hl 2 rfl) ?_
  refine lv_bipush (v := 8) hx hb d_Mo_bytes_6 (by decide) ?_
  refine lv_icmp_le (tgt := 15) hx hb d_Mo_bytes_8 (by decide) (fun c2 => ?_) (fun c2 => absurd (nI_le (b := 8) (by omega) (by decide)) c2)
  refine lv_iconst (v := 0) hx hb d_Mo_bytes_15 (by decide) ?_
  refine lv_istore hx hb d_Mo_bytes_16 hl (by decide) rfl (fun ls hl => ?_)
  have hl : lv_has ls 6 [(4, .int 0), (0, .ref a), (1, .long x), (3, .int (nI mm))] := hl
  refine lv_aload_n hx hb d_Mo_bytes_18 rfl (lv_at hl 1 rfl) ?_
  refine lv_iload hx hb d_Mo_bytes_19 (lv_at hl 0 rfl) ?_
  refine lv_iload hx hb d_Mo_bytes_21 (lv_at hl 0 rfl) ?_
  refine lv_if_ne (tgt := 41) hx hb d_Mo_bytes_23 (by decide) (fun c3 => absurd (by decide) c3) (fun c3 => ?_)
  refine lv_aload_n hx hb d_Mo_bytes_26 rfl (lv_at hl 1 rfl) ?_
  refine mo_getS (v := nI N) C V X 30 (by decide) (by decide) (by first | rfl | exact hS30) f_Mo_262 rfl d_Mo_bytes_27 ?_
  refine lv_iload_n hx hb d_Mo_bytes_30 rfl (lv_at hl 3 rfl) ?_
  refine gn_iadd (a := N) (b := mm) hx hb d_Mo_bytes_31 ?_
  refine lv_bipush (v := 60) hx hb d_Mo_bytes_32 (by decide) ?_
  refine lv_icmp_le (tgt := 41) hx hb d_Mo_bytes_34 (by decide) (fun c4 => absurd c4 (nI_ge (a := 60) (by omega) (by omega))) (fun c4 => ?_)
  refine lv_iconst (v := 1) hx hb d_Mo_bytes_37 (by decide) ?_
  refine lv_goto (tgt := 42) hx hb d_Mo_bytes_38 (by decide) ?_
  refine W.eq (g2 := F0 m 42 ls [.int (gh_bi true), .int (gh_bi false), .ref a]) rfl ?_
  refine gh_callV C V hl.1 m_Mo_throwing l_Mo_251 (c_Mo_throwing l E _ _ a ad _ _ _ false true X.1) rfl X.1.1 gc_Mo ⟨by first | decide | omega | (dsimp only; omega), by first | decide | omega | (dsimp only; omega)⟩ ⟨by first | decide | omega | (dsimp only; omega), by first | decide | omega | (dsimp only; omega)⟩ (Nat.le_of_ble_eq_true rfl) rfl d_Mo_bytes_42 (fun r z9 H locs hp V1 => ?_)
  obtain ⟨rfl, X2⟩ := hp
  have X := X.then X2
  have V := V1
  refine W.eq (g2 := F0 m 45 ls [.int (gh_bi true)]) rfl ?_
  refine lv_if_eq (tgt := 49) hx hb d_Mo_bytes_45 (by decide) (fun c5 => absurd c5 (by decide)) (fun c5 => ?_)
  refine gh_retv hAe C V hr hlocks d_Mo_bytes_48 (by first | decide | omega | (dsimp only; omega)) (by first | decide | omega | (dsimp only; omega)) ?_
  exact ⟨rfl, X⟩
set_option maxHeartbeats 4000000 in
set_option maxRecDepth 100000 in
theorem c_Mo_bytes2 (l : Launch) (E : gh_E) (sz : Nat) (f : gh_F) (a : Nat) (ad : Nat → Nat) (S : Nat → Int32) (I : Nat → Nat → Int32) (J : Nat → Nat → Int64) (x : Int64) (mm N : Nat) (hX : mo_R E f a ad S I J) (hm : 1 ≤ mm ∧ mm ≤ 8) (hS30 : S 30 = nI N) (hov : N + mm ≤ 60) : gh_M l y_Mo_bytes b_Mo_bytes 6 none E sz [.ref a, .long x, .int (nI mm)] f { frames := 5, cells := 0, slots := 0, locals := 140 } (fun r g => r = none ∧ ∃ S2 I2, mo_X E f g a ad S2 I2 J ∧ (∀ k, k ≠ 30 → S2 k = va_up S 0 0 k) ∧ S2 30 = nI (N + mm) ∧ (∀ k, k ≠ 29 → I2 k = I k) ∧ ∀ j, I2 29 j = if N ≤ j ∧ j < N + mm then nI (by_n x (mm - 1 - (j - N))) else I 29 j) := by
  refine gh_open (by decide) (Nat.le_of_ble_eq_true rfl) ?_
  intro p e s m args below meth c A ls hAe C V hr hlocks hname hl
  have hx := C.1
  have hb := C.2.1
  have hl : lv_has ls 6 [(0, .ref a), (1, .long x), (3, .int (nI mm))] := hl
  have X : mo_X E f f a ad S I J := ⟨hX, gh_fr.rf⟩
  refine lv_iload_n hx hb d_Mo_bytes_0 rfl (lv_at hl 2 rfl) ?_
  refine lv_iconst (v := 1) hx hb d_Mo_bytes_1 (by decide) ?_
  refine lv_icmp_lt (tgt := 11) hx hb d_Mo_bytes_2 (by decide) (fun c1 => absurd c1 (nI_nlt (b := 1) (by omega) (by omega))) (fun c1 => ?_)
  refine lv_iload_n hx hb d_Mo_bytes_5 rfl (lv_at hl 2 rfl) ?_
  refine lv_bipush (v := 8) hx hb d_Mo_bytes_6 (by decide) ?_
  refine lv_icmp_le (tgt := 15) hx hb d_Mo_bytes_8 (by decide) (fun c2 => ?_) (fun c2 => absurd (nI_le (b := 8) (by omega) (by decide)) c2)
  refine lv_iconst (v := 0) hx hb d_Mo_bytes_15 (by decide) ?_
  refine lv_istore hx hb d_Mo_bytes_16 hl (by decide) rfl (fun ls hl => ?_)
  have hl : lv_has ls 6 [(4, .int 0), (0, .ref a), (1, .long x), (3, .int (nI mm))] := hl
  refine lv_aload_n hx hb d_Mo_bytes_18 rfl (lv_at hl 1 rfl) ?_
  refine lv_iload hx hb d_Mo_bytes_19 (lv_at hl 0 rfl) ?_
  refine lv_iload hx hb d_Mo_bytes_21 (lv_at hl 0 rfl) ?_
  refine lv_if_ne (tgt := 41) hx hb d_Mo_bytes_23 (by decide) (fun c3 => absurd (by decide) c3) (fun c3 => ?_)
  refine lv_aload_n hx hb d_Mo_bytes_26 rfl (lv_at hl 1 rfl) ?_
  refine mo_getS (v := nI N) C V X 30 (by decide) (by decide) (by first | rfl | exact hS30) f_Mo_262 rfl d_Mo_bytes_27 ?_
  refine lv_iload_n hx hb d_Mo_bytes_30 rfl (lv_at hl 3 rfl) ?_
  refine gn_iadd (a := N) (b := mm) hx hb d_Mo_bytes_31 ?_
  refine lv_bipush (v := 60) hx hb d_Mo_bytes_32 (by decide) ?_
  refine lv_icmp_le (tgt := 41) hx hb d_Mo_bytes_34 (by decide) (fun c4 => ?_) (fun c4 => absurd (nI_le (b := 60) (by omega) (by decide)) c4)
  refine lv_iconst (v := 0) hx hb d_Mo_bytes_41 (by decide) ?_
  refine W.eq (g2 := F0 m 42 ls [.int (gh_bi false), .int (gh_bi false), .ref a]) rfl ?_
  refine gh_callV C V hl.1 m_Mo_throwing l_Mo_251 (c_Mo_throwing l E _ _ a ad _ _ _ false false X.1) rfl X.1.1 gc_Mo ⟨by first | decide | omega | (dsimp only; omega), by first | decide | omega | (dsimp only; omega)⟩ ⟨by first | decide | omega | (dsimp only; omega), by first | decide | omega | (dsimp only; omega)⟩ (Nat.le_of_ble_eq_true rfl) rfl d_Mo_bytes_42 (fun r z9 H locs hp V1 => ?_)
  obtain ⟨rfl, X2⟩ := hp
  have X := X.then X2
  have V := V1
  refine W.eq (g2 := F0 m 45 ls [.int (gh_bi false)]) rfl ?_
  refine lv_if_eq (tgt := 49) hx hb d_Mo_bytes_45 (by decide) (fun c5 => ?_) (fun c5 => absurd (by decide) c5)
  refine lv_iload_n hx hb d_Mo_bytes_49 rfl (lv_at hl 3 rfl) ?_
  refine lv_iconst (v := 1) hx hb d_Mo_bytes_50 (by decide) ?_
  refine lv_isub hx hb d_Mo_bytes_51 ?_
  refine lv_istore hx hb d_Mo_bytes_52 hl (by decide) rfl (fun ls hl => ?_)
  have hl : lv_has ls 6 [(5, .int (nI mm - 1)), (4, .int 0), (0, .ref a), (1, .long x), (3, .int (nI mm))] := hl
  have hl : lv_has ls 6 [(5, .int (nI mm - 1)), (0, .ref a), (1, .long x), (3, .int (nI mm))] := lv_sub hl [0, 2, 3, 4] rfl
  have hl : lv_has ls 6 [(5, .int (nI mm - 1)), (0, .ref a), (1, .long x), (3, .int (nI mm))] := hl
  have loop : ∀ (r9 i9 : Nat) (S1 : Nat → Int32) (I1 : mo_I) (f1 : gh_F) (H : Heap) (locs : List Loc) (ls : Array Slot), i9 + r9 = mm → (∀ k, k ≠ 30 → S1 k = va_up S 0 0 k) → (S1 30 = nI (N + i9)) → (∀ k, k ≠ 29 → I1 k = I k) → (∀ j, I1 29 j = if N ≤ j ∧ j < N + i9 then nI (by_n x (mm - 1 - (j - N))) else I 29 j) → mo_X E f f1 a ad S1 I1 J → gh_V E A f1 s H locs → lv_has ls 6 [(5, .int (nI r9 - 1)), (0, .ref a), (1, .long x), (3, .int (nI mm))] → W p l e { frames := 5, cells := 0, slots := 0, locals := 140 } s m args below meth c H locs 0 0 (MQ below (gh_Q E f (fun r g => r = none ∧ ∃ S2 I2, mo_X E f g a ad S2 I2 J ∧ (∀ k, k ≠ 30 → S2 k = va_up S 0 0 k) ∧ S2 30 = nI (N + mm) ∧ (∀ k, k ≠ 29 → I2 k = I k) ∧ ∀ j, I2 29 j = if N ≤ j ∧ j < N + mm then nI (by_n x (mm - 1 - (j - N))) else I 29 j)) args s 0 0 A) (F0 m 54 ls []) := by
    intro r9
    induction r9 with
    | zero =>
      intro i9 S1 I1 f1 H locs ls hi qS q30 qI q29 X V hl
      have hS30 := q30
      refine lv_iload hx hb d_Mo_bytes_54 (lv_at hl 0 rfl) ?_
      refine lv_if_lt (tgt := 96) hx hb d_Mo_bytes_56 (by decide) (fun c6 => ?_) (fun c6 => absurd (by decide) c6)
      refine gh_retv hAe C V hr hlocks d_Mo_bytes_96 (by first | decide | omega | (dsimp only; omega)) (by first | decide | omega | (dsimp only; omega)) ?_
      have hi9 : i9 = mm := by omega
      subst hi9
      exact ⟨rfl, _, _, X, qS, q30, qI, q29⟩
    | succ r9 ih =>
      intro i9 S1 I1 f1 H locs ls hi qS q30 qI q29 X V hl
      have hS30 := q30
      have hl : lv_has ls 6 [(5, .int (nI r9)), (0, .ref a), (1, .long x), (3, .int (nI mm))] := by rw [← nI_pred r9]; exact hl
      refine lv_iload hx hb d_Mo_bytes_54 (lv_at hl 0 rfl) ?_
      refine lv_if_lt (tgt := 96) hx hb d_Mo_bytes_56 (by decide) (fun c7 => absurd c7 (nI_pos (by omega))) (fun c7 => ?_)
      refine lv_aload_n hx hb d_Mo_bytes_59 rfl (lv_at hl 1 rfl) ?_
      refine mo_getA C V X 29 (by decide) (by decide) f_Mo_73 rfl d_Mo_bytes_60 ?_
      refine lv_aload_n hx hb d_Mo_bytes_63 rfl (lv_at hl 1 rfl) ?_
      refine mo_getS (v := nI (N + i9)) C V X 30 (by decide) (by decide) (by first | rfl | exact hS30) f_Mo_262 rfl d_Mo_bytes_64 ?_
      refine lv_lload_n hx hb d_Mo_bytes_67 rfl (lv_at hl 2 rfl) ?_
      refine lv_bipush (v := 8) hx hb d_Mo_bytes_68 (by decide) ?_
      refine lv_iload hx hb d_Mo_bytes_70 (lv_at hl 0 rfl) ?_
      refine gn_imul (a := 8) (b := r9) hx hb d_Mo_bytes_72 ?_
      refine lv_lshr hx hb d_Mo_bytes_73 rfl ?_
      refine lv_ldc2 (v := 255) hx hb C.2.2.2.1 (C.2.2.2.2.1 _ kl_Mo_144) d_Mo_bytes_74 ?_
      refine lv_land hx hb d_Mo_bytes_77 ?_
      refine lv_l2i hx hb d_Mo_bytes_78 rfl ?_
      refine mo_ist (k := 29) (i := N + i9) (n := 60) C V X (by decide) (by decide) rfl (by omega) (by decide) d_Mo_bytes_79 (fun f1 H locs V1 X1 => ?_)
      clear V X
      have V := V1
      have X := X1
      clear V1 X1
      refine lv_aload_n hx hb d_Mo_bytes_80 rfl (lv_at hl 1 rfl) ?_
      refine lv_dup hx hb d_Mo_bytes_81 rfl ?_
      refine mo_getS (v := nI (N + i9)) C V X 30 (by decide) (by decide) (by first | rfl | exact hS30) f_Mo_262 rfl d_Mo_bytes_82 ?_
      refine lv_iconst (v := 1) hx hb d_Mo_bytes_85 (by decide) ?_
      refine gn_iadd (a := N + i9) (b := 1) hx hb d_Mo_bytes_86 ?_
      refine mo_putS C V X 30 (by decide) (by decide) f_Mo_262 rfl rfl rfl d_Mo_bytes_87 (fun f1 H locs V1 X1 => ?_)
      clear V X
      have V := V1
      have X := X1
      clear V1 X1
      refine lv_iinc (k := 0) (v := nI r9 + (-1)) hx hb d_Mo_bytes_90 hl rfl (by rfl) (by decide) rfl (fun ls hl => ?_)
      have hl : lv_has ls 6 [(5, .int (nI r9 - 1)), (0, .ref a), (1, .long x), (3, .int (nI mm))] := by rw [Int32.sub_eq_add_neg]; exact hl
      refine lv_goto (tgt := 54) hx hb d_Mo_bytes_93 (by decide) ?_
      have hl : lv_has ls 6 [(5, .int (nI r9 - 1)), (0, .ref a), (1, .long x), (3, .int (nI mm))] := lv_sub hl [0, 1, 2, 3] rfl
      refine ih (i9 + 1) _ _ _ _ _ ls (by omega) (fun k hk => ?_) ?_ (fun k hk => ?_) (fun j => ?_) X V hl
      · rw [va_up_n hk]; exact qS k hk
      · rw [va_up_s, Nat.add_assoc]
      · rw [va_up_n hk]; exact qI k hk
      · rw [va_up_s]; simp only [upd]
        by_cases e : j = N + i9
        · rw [if_pos e, if_pos (by omega), by_mo (by omega), show mm - 1 - (j - N) = r9 by omega]
        · rw [if_neg e, q29 j]; by_cases h : N ≤ j ∧ j < N + i9
          · rw [if_pos h, if_pos (by omega)]
          · rw [if_neg h, if_neg (by omega)]
  exact loop mm 0 _ _ _ _ _ ls (by omega) (fun k _ => rfl) (by rw [va_up_n (by decide)]; exact hS30) (fun _ _ => rfl) (fun j => by rw [if_neg (by omega)]) X V hl
