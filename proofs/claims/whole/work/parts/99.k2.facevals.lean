/-! The machine's face: valueOfRun, valueOrDocument, kind, integer, written, adopt. Printed by wip/whole/gen_face2.py. -/
theorem fa_m1 {i : Int32} (h : i < 0) (h1 : ¬ i = -1) : i < -1 := by
  have h2 : i.toInt < 0 := Int32.lt_iff_toInt_lt.mp h
  have h3 : i.toInt ≠ -1 := fun z => h1 (Int32.toInt_inj.mp z)
  exact Int32.lt_iff_toInt_lt.mpr (show i.toInt < -1 by omega)
theorem d_QM_valueOfRun_0 : decode b_QM_valueOfRun 0 = .ok (.aload_n 0, 1) := by decide +kernel
theorem d_QM_valueOfRun_1 : decode b_QM_valueOfRun 1 = .ok (.getfield 35, 3) := by decide +kernel
theorem d_QM_valueOfRun_4 : decode b_QM_valueOfRun 4 = .ok (.iload_n 1, 1) := by decide +kernel
theorem d_QM_valueOfRun_5 : decode b_QM_valueOfRun 5 = .ok (.invokevirtual 140, 3) := by decide +kernel
theorem d_QM_valueOfRun_8 : decode b_QM_valueOfRun 8 = .ok (.astore_n 2, 1) := by decide +kernel
theorem d_QM_valueOfRun_9 : decode b_QM_valueOfRun 9 = .ok (.aload_n 2, 1) := by decide +kernel
theorem d_QM_valueOfRun_10 : decode b_QM_valueOfRun 10 = .ok (.ifnonnull 11, 3) := by decide +kernel
theorem d_QM_valueOfRun_13 : decode b_QM_valueOfRun 13 = .ok (.new 143, 3) := by decide +kernel
theorem d_QM_valueOfRun_16 : decode b_QM_valueOfRun 16 = .ok (.dup, 1) := by decide +kernel
theorem d_QM_valueOfRun_17 : decode b_QM_valueOfRun 17 = .ok (.invokespecial 145, 3) := by decide +kernel
theorem d_QM_valueOfRun_20 : decode b_QM_valueOfRun 20 = .ok (.athrow, 1) := by decide +kernel
theorem d_QM_valueOfRun_21 : decode b_QM_valueOfRun 21 = .ok (.aload_n 2, 1) := by decide +kernel
theorem d_QM_valueOfRun_22 : decode b_QM_valueOfRun 22 = .ok (.areturn, 1) := by decide +kernel
set_option maxHeartbeats 4000000 in
set_option maxRecDepth 100000 in
theorem c_QM_valueOfRun (l : Launch) (hst : ∀ e : Env, l.admits e → e.platform.stackTraces = false) (E : gh_E) (sz : Nat) (f : gh_F) (ρ Z : Nat → Nat) (tx : Nat → Nat) (n : Nat) (bd : Int32) (dc : Nat) (X : vt) (q0 q1 N : Nat) (cb bg : Nat → Nat) (N1 : Nat) (cb1 bg1 : Nat → Nat) (φ : Nat) (en : Int32) (xs : List vt) (k : Int32) (hA : qf_A E ρ Z f tx n bd dc X q0 q1 N cb bg N1 cb1 bg1 φ en xs) : gt_M l y_QM_valueOfRun b_QM_valueOfRun 3 (some (.object "QueryMachine$Value")) E sz [.ref (Z 6), .int k] f { frames := 8, cells := 1, slots := 6, locals := 120 } (fun r g => (∃ j v, j < xs.length ∧ k = nI j ∧ r = some (.ref v) ∧ cw E (rP ρ) f v (xs.getD j (vt_0 0))) ∧ g = f) (fun cls g => cls = X_NS ∧ qf_o xs k ∧ g = f) := by
  refine gt_open (by decide) (Nat.le_of_ble_eq_true rfl) ?_
  intro p e s m args below meth c A ls hadm hno hAe C V hr hlocks hname hl
  have htr := hst e hadm
  have V0 := V
  have hx := C.1
  have hb := C.2.1
  have hl : lv_has ls 3 [(0, .ref (Z 6)), (1, .int k)] := hl
  obtain ⟨q6, qK, q8, q9, qG, qW, qU, qRK, qRG, qRS, qP, qD, qQ, qp⟩ := id hA
  have qz := qK.1
  obtain ⟨tv, t1, t2, u8⟩ := id q8
  obtain ⟨qv, qb0, cU⟩ := id qU
  obtain ⟨cQ0, cQ1, cQ2⟩ := id qQ
  have q6 : f (Z 6) = some (.inr (0, [.ref (Z 7), .int (nI n), .ref (Z 8), .ref (Z 10), .ref (Z 1), .ref dc, .ref (Z q0), .ref (Z q1)])) := q6
  refine lv_aload_n hx hb d_QM_valueOfRun_0 rfl (lv_at hl 0 rfl) ?_
  refine gh_get C V q6 gc_QM gi_QM 4 (by decide) f_QM_35 rfl rfl d_QM_valueOfRun_1 ?_
  refine lv_iload_n hx hb d_QM_valueOfRun_4 rfl (lv_at hl 1 rfl) ?_
  refine gh_callV C V hl.1 m_Ru_valueAt l_QM_140 (c_Ru_valueAt l E _ _ ρ Z tx n bd dc X q0 q1 N cb bg N1 cb1 bg1 φ en xs k hA) rfl cU gc_Ru ⟨by first | decide | omega | (dsimp only; omega), by first | decide | omega | (dsimp only; omega)⟩ ⟨by first | decide | omega | (dsimp only; omega), by first | decide | omega | (dsimp only; omega)⟩ (Nat.le_of_ble_eq_true rfl) rfl d_QM_valueOfRun_5 (fun r g9 H locs hp9 V1 => ?_)
  obtain ⟨hr9, he9⟩ := hp9
  rw [he9] at V1
  have V := V1
  rcases hr9 with ⟨j9, v9, hj9, hk9, rfl, hv9⟩ | ⟨ho9, rfl⟩
  · refine W.eq (g2 := F0 m 8 ls [.ref v9]) rfl ?_
    refine gt_of ?_
    refine lv_astore_n hx hb d_QM_valueOfRun_8 rfl hl (by decide) rfl (fun ls hl => ?_)
    have hl : lv_has ls 3 [(2, .ref v9), (0, .ref (Z 6)), (1, .int k)] := hl
    refine lv_aload_n hx hb d_QM_valueOfRun_9 rfl (lv_at hl 0 rfl) ?_
    refine lv_ifnonnull (tgt := 21) hx hb d_QM_valueOfRun_10 (by decide) ?_
    refine lv_aload_n hx hb d_QM_valueOfRun_21 rfl (lv_at hl 0 rfl) ?_
    refine gh_reta hAe C V hr (by first | exact Or.inl ⟨_, rfl⟩ | exact Or.inr ⟨_, rfl⟩) (by first | exact Or.inl rfl | exact Or.inr ⟨_, rfl⟩) hlocks d_QM_valueOfRun_22 (by first | decide | omega | (dsimp only; omega)) (by first | decide | omega | (dsimp only; omega)) ?_
    exact ⟨⟨j9, v9, hj9, hk9, rfl, hv9⟩, rfl⟩
  · refine W.eq (g2 := F0 m 8 ls [.null]) rfl ?_
    refine lv_astore_nN hx hb d_QM_valueOfRun_8 rfl hl (by decide) rfl (fun ls hl => ?_)
    have hl : lv_has ls 3 [(2, .null), (0, .ref (Z 6)), (1, .int k)] := hl
    refine lv_aload_nN hx hb d_QM_valueOfRun_9 rfl (lv_at hl 0 rfl) ?_
    refine lv_ifnonnullN hx hb d_QM_valueOfRun_10 ?_
    exact gt_throw htr hAe V0 C V hl.1 hno hlocks (by decide +kernel) (gx_NS_w C) gx_NS_c gx_NS_n gx_NS_i d_QM_valueOfRun_13 d_QM_valueOfRun_16 d_QM_valueOfRun_17 d_QM_valueOfRun_20 (by first | decide | omega | (dsimp only; omega)) (by first | decide | omega | (dsimp only; omega)) (by first | decide | omega | (dsimp only; omega)) (by first | decide | omega | (dsimp only; omega)) (by first | decide | omega | (dsimp only; omega)) (by first | decide | omega | (dsimp only; omega)) ⟨rfl, ho9, rfl⟩
theorem d_QM_valueOrDocument_0 : decode b_QM_valueOrDocument 0 = .ok (.iload_n 1, 1) := by decide +kernel
theorem d_QM_valueOrDocument_1 : decode b_QM_valueOrDocument 1 = .ok (.iconst (-1), 1) := by decide +kernel
theorem d_QM_valueOrDocument_2 : decode b_QM_valueOrDocument 2 = .ok (.if_icmp .ne 10, 3) := by decide +kernel
theorem d_QM_valueOrDocument_5 : decode b_QM_valueOrDocument 5 = .ok (.aload_n 0, 1) := by decide +kernel
theorem d_QM_valueOrDocument_6 : decode b_QM_valueOrDocument 6 = .ok (.getfield 43, 3) := by decide +kernel
theorem d_QM_valueOrDocument_9 : decode b_QM_valueOrDocument 9 = .ok (.goto 8, 3) := by decide +kernel
theorem d_QM_valueOrDocument_12 : decode b_QM_valueOrDocument 12 = .ok (.aload_n 0, 1) := by decide +kernel
theorem d_QM_valueOrDocument_13 : decode b_QM_valueOrDocument 13 = .ok (.iload_n 1, 1) := by decide +kernel
theorem d_QM_valueOrDocument_14 : decode b_QM_valueOrDocument 14 = .ok (.invokevirtual 137, 3) := by decide +kernel
theorem d_QM_valueOrDocument_17 : decode b_QM_valueOrDocument 17 = .ok (.areturn, 1) := by decide +kernel
set_option maxHeartbeats 4000000 in
set_option maxRecDepth 100000 in
theorem c_QM_valueOrDocument (l : Launch) (hst : ∀ e : Env, l.admits e → e.platform.stackTraces = false) (E : gh_E) (sz : Nat) (f : gh_F) (ρ Z : Nat → Nat) (tx : Nat → Nat) (n : Nat) (bd : Int32) (dc : Nat) (X : vt) (q0 q1 N : Nat) (cb bg : Nat → Nat) (N1 : Nat) (cb1 bg1 : Nat → Nat) (φ : Nat) (en : Int32) (xs : List vt) (k : Int32) (hA : qf_A E ρ Z f tx n bd dc X q0 q1 N cb bg N1 cb1 bg1 φ en xs) : gt_M l y_QM_valueOrDocument b_QM_valueOrDocument 2 (some (.object "QueryMachine$Value")) E sz [.ref (Z 6), .int k] f { frames := 10, cells := 1, slots := 6, locals := 160 } (fun r g => (∃ Y v, qf_v X xs k Y ∧ r = some (.ref v) ∧ cw E (rP ρ) f v Y) ∧ g = f) (fun cls g => cls = X_NS ∧ k ≠ -1 ∧ qf_o xs k ∧ g = f) := by
  refine gt_open (by decide) (Nat.le_of_ble_eq_true rfl) ?_
  intro p e s m args below meth c A ls hadm hno hAe C V hr hlocks hname hl
  have htr := hst e hadm
  have V0 := V
  have hx := C.1
  have hb := C.2.1
  have hl : lv_has ls 2 [(0, .ref (Z 6)), (1, .int k)] := hl
  obtain ⟨q6, qK, q8, q9, qG, qW, qU, qRK, qRG, qRS, qP, qD, qQ, qp⟩ := id hA
  have qz := qK.1
  obtain ⟨tv, t1, t2, u8⟩ := id q8
  obtain ⟨qv, qb0, cU⟩ := id qU
  obtain ⟨cQ0, cQ1, cQ2⟩ := id qQ
  have q6 : f (Z 6) = some (.inr (0, [.ref (Z 7), .int (nI n), .ref (Z 8), .ref (Z 10), .ref (Z 1), .ref dc, .ref (Z q0), .ref (Z q1)])) := q6
  by_cases hk1 : k = -1
  · refine gt_of ?_
    refine lv_iload_n hx hb d_QM_valueOrDocument_0 rfl (lv_at hl 1 rfl) ?_
    refine lv_iconst (v := (-1)) hx hb d_QM_valueOrDocument_1 (by decide) ?_
    refine lv_icmp_ne (tgt := 12) hx hb d_QM_valueOrDocument_2 (by decide) (fun c1 => absurd hk1 c1) (fun c1 => ?_)
    refine lv_aload_n hx hb d_QM_valueOrDocument_5 rfl (lv_at hl 0 rfl) ?_
    refine gh_get C V q6 gc_QM gi_QM 5 (by decide) f_QM_43 rfl rfl d_QM_valueOrDocument_6 ?_
    refine lv_goto (tgt := 17) hx hb d_QM_valueOrDocument_9 (by decide) ?_
    refine gh_reta hAe C V hr (by first | exact Or.inl ⟨_, rfl⟩ | exact Or.inr ⟨_, rfl⟩) (by first | exact Or.inl rfl | exact Or.inr ⟨_, rfl⟩) hlocks d_QM_valueOrDocument_17 (by first | decide | omega | (dsimp only; omega)) (by first | decide | omega | (dsimp only; omega)) ?_
    exact ⟨⟨X, dc, Or.inl ⟨hk1, rfl⟩, rfl, qD⟩, rfl⟩
  · refine lv_iload_n hx hb d_QM_valueOrDocument_0 rfl (lv_at hl 1 rfl) ?_
    refine lv_iconst (v := (-1)) hx hb d_QM_valueOrDocument_1 (by decide) ?_
    refine lv_icmp_ne (tgt := 12) hx hb d_QM_valueOrDocument_2 (by decide) (fun c2 => ?_) (fun c2 => absurd c2 hk1)
    refine lv_aload_n hx hb d_QM_valueOrDocument_12 rfl (lv_at hl 0 rfl) ?_
    refine lv_iload_n hx hb d_QM_valueOrDocument_13 rfl (lv_at hl 1 rfl) ?_
    refine gt_callV C V hl.1 m_QM_valueOfRun l_QM_137 (c_QM_valueOfRun l hst E _ _ ρ Z tx n bd dc X q0 q1 N cb bg N1 cb1 bg1 φ en xs k hA) rfl q6 gc_QM ⟨by first | decide | omega | (dsimp only; omega), by first | decide | omega | (dsimp only; omega)⟩ ⟨by first | decide | omega | (dsimp only; omega), by first | decide | omega | (dsimp only; omega)⟩ (Nat.le_of_ble_eq_true rfl) rfl d_QM_valueOrDocument_14 (fun r g9 H locs hp9 V1 => ?_) (fun x9 cls9 g8 T9 locs9 hex9 hx9 V9 X9 => gt_leave hAe C hno hlocks ⟨hex9.1, hk1, hex9.2.1, hex9.2.2⟩ hx9 V9 X9 (by first | decide | omega | (dsimp only; omega)) (by first | decide | omega | (dsimp only; omega)))
    obtain ⟨⟨j9, v9, hj9, hk9, rfl, hv9⟩, he9⟩ := hp9
    rw [he9] at V1
    have V := V1
    refine W.eq (g2 := F0 m 17 ls [.ref v9]) rfl ?_
    refine gt_of ?_
    refine gh_reta hAe C V hr (by first | exact Or.inl ⟨_, rfl⟩ | exact Or.inr ⟨_, rfl⟩) (by first | exact Or.inl rfl | exact Or.inr ⟨_, rfl⟩) hlocks d_QM_valueOrDocument_17 (by first | decide | omega | (dsimp only; omega)) (by first | decide | omega | (dsimp only; omega)) ?_
    exact ⟨⟨_, v9, Or.inr ⟨j9, hj9, hk9, rfl⟩, rfl, hv9⟩, rfl⟩
theorem d_QM_kind_0 : decode b_QM_kind 0 = .ok (.aload_n 0, 1) := by decide +kernel
theorem d_QM_kind_1 : decode b_QM_kind 1 = .ok (.iload_n 1, 1) := by decide +kernel
theorem d_QM_kind_2 : decode b_QM_kind 2 = .ok (.invokevirtual 112, 3) := by decide +kernel
theorem d_QM_kind_5 : decode b_QM_kind 5 = .ok (.getfield 116, 3) := by decide +kernel
theorem d_QM_kind_8 : decode b_QM_kind 8 = .ok (.ireturn, 1) := by decide +kernel
set_option maxHeartbeats 4000000 in
set_option maxRecDepth 100000 in
theorem c_QM_kind (l : Launch) (hst : ∀ e : Env, l.admits e → e.platform.stackTraces = false) (E : gh_E) (sz : Nat) (f : gh_F) (ρ Z : Nat → Nat) (tx : Nat → Nat) (n : Nat) (bd : Int32) (dc : Nat) (X : vt) (q0 q1 N : Nat) (cb bg : Nat → Nat) (N1 : Nat) (cb1 bg1 : Nat → Nat) (φ : Nat) (en : Int32) (xs : List vt) (k : Int32) (hA : qf_A E ρ Z f tx n bd dc X q0 q1 N cb bg N1 cb1 bg1 φ en xs) : gt_M l y_QM_kind b_QM_kind 2 (some .int) E sz [.ref (Z 6), .int k] f { frames := 12, cells := 1, slots := 6, locals := 200 } (fun r g => (∃ Y, qf_v X xs k Y ∧ vo 8 Y ∧ r = some (.int (nI (vt_k Y)))) ∧ g = f) (fun cls g => cls = X_NS ∧ k ≠ -1 ∧ qf_o xs k ∧ g = f) := by
  refine gt_open (by decide) (Nat.le_of_ble_eq_true rfl) ?_
  intro p e s m args below meth c A ls hadm hno hAe C V hr hlocks hname hl
  have htr := hst e hadm
  have V0 := V
  have hx := C.1
  have hb := C.2.1
  have hl : lv_has ls 2 [(0, .ref (Z 6)), (1, .int k)] := hl
  obtain ⟨q6, qK, q8, q9, qG, qW, qU, qRK, qRG, qRS, qP, qD, qQ, qp⟩ := id hA
  have qz := qK.1
  obtain ⟨tv, t1, t2, u8⟩ := id q8
  obtain ⟨qv, qb0, cU⟩ := id qU
  obtain ⟨cQ0, cQ1, cQ2⟩ := id qQ
  have q6 : f (Z 6) = some (.inr (0, [.ref (Z 7), .int (nI n), .ref (Z 8), .ref (Z 10), .ref (Z 1), .ref dc, .ref (Z q0), .ref (Z q1)])) := q6
  refine lv_aload_n hx hb d_QM_kind_0 rfl (lv_at hl 0 rfl) ?_
  refine lv_iload_n hx hb d_QM_kind_1 rfl (lv_at hl 1 rfl) ?_
  refine gt_callV C V hl.1 m_QM_valueOrDocument l_QM_112 (c_QM_valueOrDocument l hst E _ _ ρ Z tx n bd dc X q0 q1 N cb bg N1 cb1 bg1 φ en xs k hA) rfl q6 gc_QM ⟨by first | decide | omega | (dsimp only; omega), by first | decide | omega | (dsimp only; omega)⟩ ⟨by first | decide | omega | (dsimp only; omega), by first | decide | omega | (dsimp only; omega)⟩ (Nat.le_of_ble_eq_true rfl) rfl d_QM_kind_2 (fun r g9 H locs hp9 V1 => ?_) (fun x9 cls9 g8 T9 locs9 hex9 hx9 V9 X9 => gt_leave hAe C hno hlocks hex9 hx9 V9 X9 (by first | decide | omega | (dsimp only; omega)) (by first | decide | omega | (dsimp only; omega)))
  obtain ⟨⟨Y9, v9, hY9, rfl, hv9⟩, he9⟩ := hp9
  rw [he9] at V1
  have V := V1
  refine W.eq (g2 := F0 m 5 ls [.ref v9]) rfl ?_
  obtain ⟨la_1, ka_1, ia_1, gk_1, gi_1, K_1, B_1, hp_1, h0_1, h1_1, h2_1, h3_1, h4_1, h5_1⟩ := cv_o.mp hv9.1
  refine gt_of ?_
  refine gh_get C V h0_1 gc_Va gi_Va 0 (by decide) f_QM_116 rfl rfl d_QM_kind_5 ?_
  refine gh_reti hAe C V hr hlocks d_QM_kind_8 (by first | decide | omega | (dsimp only; omega)) (by first | decide | omega | (dsimp only; omega)) ?_
  exact ⟨⟨Y9, hY9, hv9.2, rfl⟩, rfl⟩
theorem d_QM_integer_0 : decode b_QM_integer 0 = .ok (.aload_n 0, 1) := by decide +kernel
theorem d_QM_integer_1 : decode b_QM_integer 1 = .ok (.iload_n 1, 1) := by decide +kernel
theorem d_QM_integer_2 : decode b_QM_integer 2 = .ok (.invokevirtual 112, 3) := by decide +kernel
theorem d_QM_integer_5 : decode b_QM_integer 5 = .ok (.astore_n 2, 1) := by decide +kernel
theorem d_QM_integer_6 : decode b_QM_integer 6 = .ok (.aload_n 2, 1) := by decide +kernel
theorem d_QM_integer_7 : decode b_QM_integer 7 = .ok (.getfield 116, 3) := by decide +kernel
theorem d_QM_integer_10 : decode b_QM_integer 10 = .ok (.iconst 3, 1) := by decide +kernel
theorem d_QM_integer_11 : decode b_QM_integer 11 = .ok (.if_icmp .eq 11, 3) := by decide +kernel
theorem d_QM_integer_14 : decode b_QM_integer 14 = .ok (.new 79, 3) := by decide +kernel
theorem d_QM_integer_17 : decode b_QM_integer 17 = .ok (.dup, 1) := by decide +kernel
theorem d_QM_integer_18 : decode b_QM_integer 18 = .ok (.invokespecial 81, 3) := by decide +kernel
theorem d_QM_integer_21 : decode b_QM_integer 21 = .ok (.athrow, 1) := by decide +kernel
theorem d_QM_integer_22 : decode b_QM_integer 22 = .ok (.aload_n 2, 1) := by decide +kernel
theorem d_QM_integer_23 : decode b_QM_integer 23 = .ok (.getfield 133, 3) := by decide +kernel
theorem d_QM_integer_26 : decode b_QM_integer 26 = .ok (.lreturn, 1) := by decide +kernel
set_option maxHeartbeats 4000000 in
set_option maxRecDepth 100000 in
theorem c_QM_integer (l : Launch) (hst : ∀ e : Env, l.admits e → e.platform.stackTraces = false) (E : gh_E) (sz : Nat) (f : gh_F) (ρ Z : Nat → Nat) (tx : Nat → Nat) (n : Nat) (bd : Int32) (dc : Nat) (X : vt) (q0 q1 N : Nat) (cb bg : Nat → Nat) (N1 : Nat) (cb1 bg1 : Nat → Nat) (φ : Nat) (en : Int32) (xs : List vt) (k : Int32) (hA : qf_A E ρ Z f tx n bd dc X q0 q1 N cb bg N1 cb1 bg1 φ en xs) : gt_M l y_QM_integer b_QM_integer 3 (some .long) E sz [.ref (Z 6), .int k] f { frames := 12, cells := 2, slots := 12, locals := 200 } (fun r g => (∃ Y, qf_v X xs k Y ∧ vt_k Y = 3 ∧ r = some (.long (vt_n Y))) ∧ g = f) (fun cls g => (cls = X_NS ∧ k ≠ -1 ∧ qf_o xs k ∧ g = f) ∨ (cls = X_IS ∧ (∃ Y, qf_v X xs k Y ∧ vo 8 Y ∧ vt_k Y ≠ 3) ∧ g = f)) := by
  refine gt_open (by decide) (Nat.le_of_ble_eq_true rfl) ?_
  intro p e s m args below meth c A ls hadm hno hAe C V hr hlocks hname hl
  have htr := hst e hadm
  have V0 := V
  have hx := C.1
  have hb := C.2.1
  have hl : lv_has ls 3 [(0, .ref (Z 6)), (1, .int k)] := hl
  obtain ⟨q6, qK, q8, q9, qG, qW, qU, qRK, qRG, qRS, qP, qD, qQ, qp⟩ := id hA
  have qz := qK.1
  obtain ⟨tv, t1, t2, u8⟩ := id q8
  obtain ⟨qv, qb0, cU⟩ := id qU
  obtain ⟨cQ0, cQ1, cQ2⟩ := id qQ
  have q6 : f (Z 6) = some (.inr (0, [.ref (Z 7), .int (nI n), .ref (Z 8), .ref (Z 10), .ref (Z 1), .ref dc, .ref (Z q0), .ref (Z q1)])) := q6
  refine lv_aload_n hx hb d_QM_integer_0 rfl (lv_at hl 0 rfl) ?_
  refine lv_iload_n hx hb d_QM_integer_1 rfl (lv_at hl 1 rfl) ?_
  refine gt_callV C V hl.1 m_QM_valueOrDocument l_QM_112 (c_QM_valueOrDocument l hst E _ _ ρ Z tx n bd dc X q0 q1 N cb bg N1 cb1 bg1 φ en xs k hA) rfl q6 gc_QM ⟨by first | decide | omega | (dsimp only; omega), by first | decide | omega | (dsimp only; omega)⟩ ⟨by first | decide | omega | (dsimp only; omega), by first | decide | omega | (dsimp only; omega)⟩ (Nat.le_of_ble_eq_true rfl) rfl d_QM_integer_2 (fun r g9 H locs hp9 V1 => ?_) (fun x9 cls9 g8 T9 locs9 hex9 hx9 V9 X9 => gt_leave hAe C hno hlocks (Or.inl hex9) hx9 V9 X9 (by first | decide | omega | (dsimp only; omega)) (by first | decide | omega | (dsimp only; omega)))
  obtain ⟨⟨Y9, v9, hY9, rfl, hv9⟩, he9⟩ := hp9
  rw [he9] at V1
  have V := V1
  refine W.eq (g2 := F0 m 5 ls [.ref v9]) rfl ?_
  obtain ⟨la_1, ka_1, ia_1, gk_1, gi_1, K_1, B_1, hp_1, h0_1, h1_1, h2_1, h3_1, h4_1, h5_1⟩ := cv_o.mp hv9.1
  have hk6 := (vo_o.mp hv9.2).1
  by_cases hk3 : vt_k Y9 = 3
  · refine gt_of ?_
    refine lv_astore_n hx hb d_QM_integer_5 rfl hl (by decide) rfl (fun ls hl => ?_)
    have hl : lv_has ls 3 [(2, .ref v9), (0, .ref (Z 6)), (1, .int k)] := hl
    refine lv_aload_n hx hb d_QM_integer_6 rfl (lv_at hl 0 rfl) ?_
    refine gh_get C V h0_1 gc_Va gi_Va 0 (by decide) f_QM_116 rfl rfl d_QM_integer_7 ?_
    refine lv_iconst (v := 3) hx hb d_QM_integer_10 (by decide) ?_
    refine lv_icmp_eq (tgt := 22) hx hb d_QM_integer_11 (by decide) (fun c2 => ?_) (fun c2 => absurd (by rw [hk3]; rfl) c2)
    refine lv_aload_n hx hb d_QM_integer_22 rfl (lv_at hl 0 rfl) ?_
    refine gh_get C V h0_1 gc_Va gi_Va 1 (by decide) f_QM_133 rfl rfl d_QM_integer_23 ?_
    refine gh_retl hAe C V hr hlocks d_QM_integer_26 (by first | decide | omega | (dsimp only; omega)) (by first | decide | omega | (dsimp only; omega)) ?_
    exact ⟨⟨Y9, hY9, hk3, rfl⟩, rfl⟩
  · refine lv_astore_n hx hb d_QM_integer_5 rfl hl (by decide) rfl (fun ls hl => ?_)
    have hl : lv_has ls 3 [(2, .ref v9), (0, .ref (Z 6)), (1, .int k)] := hl
    refine lv_aload_n hx hb d_QM_integer_6 rfl (lv_at hl 0 rfl) ?_
    refine gh_get C V h0_1 gc_Va gi_Va 0 (by decide) f_QM_116 rfl rfl d_QM_integer_7 ?_
    refine lv_iconst (v := 3) hx hb d_QM_integer_10 (by decide) ?_
    refine lv_icmp_eq (tgt := 22) hx hb d_QM_integer_11 (by decide) (fun c3 => absurd c3 (fun z => hk3 ((nI_eq (b := 3) (by omega) (by decide)).mp z))) (fun c3 => ?_)
    exact gt_throw htr hAe V0 C V hl.1 hno hlocks (by decide +kernel) (gx_IS_w C) gx_IS_c gx_IS_n gx_IS_i d_QM_integer_14 d_QM_integer_17 d_QM_integer_18 d_QM_integer_21 (by first | decide | omega | (dsimp only; omega)) (by first | decide | omega | (dsimp only; omega)) (by first | decide | omega | (dsimp only; omega)) (by first | decide | omega | (dsimp only; omega)) (by first | decide | omega | (dsimp only; omega)) (by first | decide | omega | (dsimp only; omega)) (Or.inr ⟨rfl, ⟨Y9, hY9, hv9.2, hk3⟩, rfl⟩)
theorem d_QM_adopt_0 : decode b_QM_adopt 0 = .ok (.aload_n 0, 1) := by decide +kernel
theorem d_QM_adopt_1 : decode b_QM_adopt 1 = .ok (.aload_n 0, 1) := by decide +kernel
theorem d_QM_adopt_2 : decode b_QM_adopt 2 = .ok (.iload_n 1, 1) := by decide +kernel
theorem d_QM_adopt_3 : decode b_QM_adopt 3 = .ok (.invokevirtual 137, 3) := by decide +kernel
theorem d_QM_adopt_6 : decode b_QM_adopt 6 = .ok (.putfield 43, 3) := by decide +kernel
theorem d_QM_adopt_9 : decode b_QM_adopt 9 = .ok (.return_, 1) := by decide +kernel
set_option maxHeartbeats 4000000 in
set_option maxRecDepth 100000 in
theorem c_QM_adopt (l : Launch) (hst : ∀ e : Env, l.admits e → e.platform.stackTraces = false) (E : gh_E) (sz : Nat) (f : gh_F) (ρ Z : Nat → Nat) (tx : Nat → Nat) (n : Nat) (bd : Int32) (dc : Nat) (X : vt) (q0 q1 N : Nat) (cb bg : Nat → Nat) (N1 : Nat) (cb1 bg1 : Nat → Nat) (φ : Nat) (en : Int32) (xs : List vt) (k : Int32) (hA : qf_A E ρ Z f tx n bd dc X q0 q1 N cb bg N1 cb1 bg1 φ en xs) : gt_M l y_QM_adopt b_QM_adopt 2 none E sz [.ref (Z 6), .int k] f { frames := 10, cells := 1, slots := 6, locals := 160 } (fun r g => r = none ∧ (∃ j v, j < xs.length ∧ k = nI j ∧ qf_A E ρ Z g tx n bd v (xs.getD j (vt_0 0)) q0 q1 N cb bg N1 cb1 bg1 φ en xs) ∧ gh_fr f g (qf_M ρ)) (fun cls g => cls = X_NS ∧ qf_o xs k ∧ g = f) := by
  refine gt_open (by decide) (Nat.le_of_ble_eq_true rfl) ?_
  intro p e s m args below meth c A ls hadm hno hAe C V hr hlocks hname hl
  have htr := hst e hadm
  have V0 := V
  have hx := C.1
  have hb := C.2.1
  have hl : lv_has ls 2 [(0, .ref (Z 6)), (1, .int k)] := hl
  obtain ⟨q6, qK, q8, q9, qG, qW, qU, qRK, qRG, qRS, qP, qD, qQ, qp⟩ := id hA
  have qz := qK.1
  obtain ⟨tv, t1, t2, u8⟩ := id q8
  obtain ⟨qv, qb0, cU⟩ := id qU
  obtain ⟨cQ0, cQ1, cQ2⟩ := id qQ
  have q6 : f (Z 6) = some (.inr (0, [.ref (Z 7), .int (nI n), .ref (Z 8), .ref (Z 10), .ref (Z 1), .ref dc, .ref (Z q0), .ref (Z q1)])) := q6
  refine lv_aload_n hx hb d_QM_adopt_0 rfl (lv_at hl 0 rfl) ?_
  refine lv_aload_n hx hb d_QM_adopt_1 rfl (lv_at hl 0 rfl) ?_
  refine lv_iload_n hx hb d_QM_adopt_2 rfl (lv_at hl 1 rfl) ?_
  refine gt_callV C V hl.1 m_QM_valueOfRun l_QM_137 (c_QM_valueOfRun l hst E _ _ ρ Z tx n bd dc X q0 q1 N cb bg N1 cb1 bg1 φ en xs k hA) rfl q6 gc_QM ⟨by first | decide | omega | (dsimp only; omega), by first | decide | omega | (dsimp only; omega)⟩ ⟨by first | decide | omega | (dsimp only; omega), by first | decide | omega | (dsimp only; omega)⟩ (Nat.le_of_ble_eq_true rfl) rfl d_QM_adopt_3 (fun r g9 H locs hp9 V1 => ?_) (fun x9 cls9 g8 T9 locs9 hex9 hx9 V9 X9 => gt_leave hAe C hno hlocks hex9 hx9 V9 X9 (by first | decide | omega | (dsimp only; omega)) (by first | decide | omega | (dsimp only; omega)))
  obtain ⟨⟨j9, v9, hj9, hk9, rfl, hv9⟩, he9⟩ := hp9
  rw [he9] at V1
  have V := V1
  refine W.eq (g2 := F0 m 6 ls [.ref v9, .ref (Z 6)]) rfl ?_
  refine gh_put C V q6 gc_QM gi_QM ty_QM nm_QM 5 (by decide) f_QM_43 rfl rfl rfl (Nat.le_of_ble_eq_true rfl) d_QM_adopt_6 (fun H locs V1 => ?_)
  obtain ⟨fa, hfa⟩ : ∃ z9 : gh_F, z9 = gh_u f (Z 6) (.inr (0, [.ref (Z 7), .int (nI n), .ref (Z 8), .ref (Z 10), .ref (Z 1), .ref v9, .ref (Z q0), .ref (Z q1)])) := ⟨_, rfl⟩
  have V : gh_V E A fa s H locs := by rw [hfa]; exact V1
  have u6 : fa (Z 6) = some (.inr (0, [.ref (Z 7), .int (nI n), .ref (Z 8), .ref (Z 10), .ref (Z 1), .ref v9, .ref (Z q0), .ref (Z q1)])) := by rw [hfa]; exact gh_us
  have e6 : ρ (Z 6) = 6 := qz 6 (by unfold rU; omega)
  have hfr : gh_fr f fa (fun b => ρ b = 6) := by rw [hfa]; exact gh_fr.rf.put (Or.inl e6)
  have hm6 : ∀ b, (fun b => ρ b = 6) b → ρ b = 6 := fun _ z => z
  refine W.eq (g2 := F0 m 9 ls []) rfl ?_
  refine gt_of ?_
  refine gh_retv hAe C V hr hlocks d_QM_adopt_9 (by first | decide | omega | (dsimp only; omega)) (by first | decide | omega | (dsimp only; omega)) ?_
  exact ⟨rfl, ⟨j9, v9, hj9, hk9, ⟨u6, qK.keep hfr (fun b hb => by have := hm6 b hb; omega), q8.keep qz hfr (fun b hb => by have := hm6 b hb; omega), q9.keep qz hfr (fun b hb => by have := hm6 b hb; omega), qG.keep qz hfr (fun b hb => by have := hm6 b hb; omega), qW.keep qz hfr (fun b hb => by have := hm6 b hb; omega), qU.keep qz hfr (fun b hb => by have := hm6 b hb; omega), qRK.keep hfr (fun b hb => by have := hm6 b hb; omega), qRG.keep qz hfr (fun b hb => by have := hm6 b hb; omega), qRS.keep qz hfr (fun b hb => by have := hm6 b hb; omega), qP.keep2 qz hfr (fun b hb => by have := hm6 b hb; omega), hv9.keep hfr (fun b hb z => by have z : ρ b = 0 := z; have := hm6 b hb; omega), qQ.keep qp.q1 qz hfr (fun b hb => by have := hm6 b hb; have := qp.q1; omega), qp⟩⟩, hfr.wide (fun b hb => by have hb : ρ b = 6 := hb; exact Or.inl (by omega))⟩
theorem d_QM_written_0 : decode b_QM_written 0 = .ok (.aload_n 0, 1) := by decide +kernel
theorem d_QM_written_1 : decode b_QM_written 1 = .ok (.getfield 28, 3) := by decide +kernel
theorem d_QM_written_4 : decode b_QM_written 4 = .ok (.aload_n 0, 1) := by decide +kernel
theorem d_QM_written_5 : decode b_QM_written 5 = .ok (.iload_n 1, 1) := by decide +kernel
theorem d_QM_written_6 : decode b_QM_written 6 = .ok (.invokevirtual 112, 3) := by decide +kernel
theorem d_QM_written_9 : decode b_QM_written 9 = .ok (.iload_n 2, 1) := by decide +kernel
theorem d_QM_written_10 : decode b_QM_written 10 = .ok (.invokevirtual 121, 3) := by decide +kernel
theorem d_QM_written_13 : decode b_QM_written 13 = .ok (.iload_n 2, 1) := by decide +kernel
theorem d_QM_written_14 : decode b_QM_written 14 = .ok (.iconst (-1), 1) := by decide +kernel
theorem d_QM_written_15 : decode b_QM_written 15 = .ok (.if_icmp .ne 11, 3) := by decide +kernel
theorem d_QM_written_18 : decode b_QM_written 18 = .ok (.aload_n 0, 1) := by decide +kernel
theorem d_QM_written_19 : decode b_QM_written 19 = .ok (.getfield 28, 3) := by decide +kernel
theorem d_QM_written_22 : decode b_QM_written 22 = .ok (.getfield 125, 3) := by decide +kernel
theorem d_QM_written_25 : decode b_QM_written 25 = .ok (.ireturn, 1) := by decide +kernel
theorem d_QM_written_26 : decode b_QM_written 26 = .ok (.iload_n 2, 1) := by decide +kernel
theorem d_QM_written_27 : decode b_QM_written 27 = .ok (.ifCond .lt 14, 3) := by decide +kernel
theorem d_QM_written_30 : decode b_QM_written 30 = .ok (.iload_n 2, 1) := by decide +kernel
theorem d_QM_written_31 : decode b_QM_written 31 = .ok (.aload_n 0, 1) := by decide +kernel
theorem d_QM_written_32 : decode b_QM_written 32 = .ok (.getfield 28, 3) := by decide +kernel
theorem d_QM_written_35 : decode b_QM_written 35 = .ok (.getfield 125, 3) := by decide +kernel
theorem d_QM_written_38 : decode b_QM_written 38 = .ok (.if_icmp .lt 11, 3) := by decide +kernel
theorem d_QM_written_41 : decode b_QM_written 41 = .ok (.new 126, 3) := by decide +kernel
theorem d_QM_written_44 : decode b_QM_written 44 = .ok (.dup, 1) := by decide +kernel
theorem d_QM_written_45 : decode b_QM_written 45 = .ok (.invokespecial 128, 3) := by decide +kernel
theorem d_QM_written_48 : decode b_QM_written 48 = .ok (.athrow, 1) := by decide +kernel
theorem d_QM_written_49 : decode b_QM_written 49 = .ok (.aload_n 0, 1) := by decide +kernel
theorem d_QM_written_50 : decode b_QM_written 50 = .ok (.getfield 28, 3) := by decide +kernel
theorem d_QM_written_53 : decode b_QM_written 53 = .ok (.getfield 129, 3) := by decide +kernel
theorem d_QM_written_56 : decode b_QM_written 56 = .ok (.ireturn, 1) := by decide +kernel
set_option maxHeartbeats 4000000 in
set_option maxRecDepth 100000 in
theorem c_QM_written (l : Launch) (hst : ∀ e : Env, l.admits e → e.platform.stackTraces = false) (E : gh_E) (sz : Nat) (f : gh_F) (ρ Z : Nat → Nat) (tx : Nat → Nat) (n : Nat) (bd : Int32) (dc : Nat) (X : vt) (q0 q1 N : Nat) (cb bg : Nat → Nat) (N1 : Nat) (cb1 bg1 : Nat → Nat) (φ : Nat) (en : Int32) (xs : List vt) (k i9 : Int32) (hA : qf_A E ρ Z f tx n bd dc X q0 q1 N cb bg N1 cb1 bg1 φ en xs) : gt_M l y_QM_written b_QM_written 3 (some .int) E sz [.ref (Z 6), .int k, .int i9] f { frames := 40, cells := 2, slots := 12, locals := 1000 } (fun r g => (∃ Y, qf_v X xs k Y ∧ vo 8 Y ∧ ((i9 = -1 ∧ r = some (.int (nI (wr_v 8 Y).length))) ∨ ∃ j, i9 = nI j ∧ j < (wr_v 8 Y).length ∧ r = some (.int ((wr_v 8 Y).getD j 0)))) ∧ qf_A E ρ Z g tx n bd dc X q0 q1 N cb bg N1 cb1 bg1 φ en xs ∧ gh_fr f g (qf_M ρ)) (fun cls g => (cls = X_NS ∧ k ≠ -1 ∧ qf_o xs k ∧ g = f) ∨ (cls = X_IO ∧ (∃ Y, qf_v X xs k Y ∧ vo 8 Y ∧ (i9 < -1 ∨ (0 ≤ i9 ∧ ¬ i9 < nI (wr_v 8 Y).length))) ∧ qf_A E ρ Z g tx n bd dc X q0 q1 N cb bg N1 cb1 bg1 φ en xs ∧ gh_fr f g (qf_M ρ))) := by
  refine gt_open (by decide) (Nat.le_of_ble_eq_true rfl) ?_
  intro p e s m args below meth c A ls hadm hno hAe C V hr hlocks hname hl
  have htr := hst e hadm
  have V0 := V
  have hx := C.1
  have hb := C.2.1
  have hl : lv_has ls 3 [(0, .ref (Z 6)), (1, .int k), (2, .int i9)] := hl
  obtain ⟨q6, qK, q8, q9, qG, qW, qU, qRK, qRG, qRS, qP, qD, qQ, qp⟩ := id hA
  have qz := qK.1
  obtain ⟨tv, t1, t2, u8⟩ := id q8
  obtain ⟨qv, qb0, cU⟩ := id qU
  obtain ⟨cQ0, cQ1, cQ2⟩ := id qQ
  have q6 : f (Z 6) = some (.inr (0, [.ref (Z 7), .int (nI n), .ref (Z 8), .ref (Z 10), .ref (Z 1), .ref dc, .ref (Z q0), .ref (Z q1)])) := q6
  obtain ⟨wt9, st9, hw9⟩ := id qW
  refine lv_aload_n hx hb d_QM_written_0 rfl (lv_at hl 0 rfl) ?_
  refine gh_get C V q6 gc_QM gi_QM 3 (by decide) f_QM_28 rfl rfl d_QM_written_1 ?_
  refine lv_aload_n hx hb d_QM_written_4 rfl (lv_at hl 0 rfl) ?_
  refine lv_iload_n hx hb d_QM_written_5 rfl (lv_at hl 1 rfl) ?_
  refine gt_callV C V hl.1 m_QM_valueOrDocument l_QM_112 (c_QM_valueOrDocument l hst E _ _ ρ Z tx n bd dc X q0 q1 N cb bg N1 cb1 bg1 φ en xs k hA) rfl q6 gc_QM ⟨by first | decide | omega | (dsimp only; omega), by first | decide | omega | (dsimp only; omega)⟩ ⟨by first | decide | omega | (dsimp only; omega), by first | decide | omega | (dsimp only; omega)⟩ (Nat.le_of_ble_eq_true rfl) rfl d_QM_written_6 (fun r g9 H locs hp9 V1 => ?_) (fun x9 cls9 g8 T9 locs9 hex9 hx9 V9 X9 => gt_leave hAe C hno hlocks (Or.inl hex9) hx9 V9 X9 (by first | decide | omega | (dsimp only; omega)) (by first | decide | omega | (dsimp only; omega)))
  obtain ⟨⟨Y9, v9, hY9, rfl, hv9⟩, he9⟩ := hp9
  rw [he9] at V1
  have V := V1
  refine W.eq (g2 := F0 m 9 ls [.ref v9, .ref (Z 10)]) rfl ?_
  refine lv_iload_n hx hb d_QM_written_9 rfl (lv_at hl 2 rfl) ?_
  have e10 : ρ (Z 10) = 10 := qz 10 (by unfold rU; omega)
  have e11 : ρ (Z 11) = 11 := qz 11 (by unfold rU; omega)
  have e6 : ρ (Z 6) = 6 := qz 6 (by unfold rU; omega)
  refine gh_callV C V hl.1 m_Wr_write l_QM_121 (c_Wr_write l E _ _ (Z 10) (Z 11) wt9 st9 (rP ρ) v9 Y9 i9 hv9 (fun z => by have z : ρ (Z 10) = 0 := z; omega) (fun z => by have z : ρ (Z 11) = 0 := z; omega) hw9) rfl hw9.1 gc_Wr ⟨by first | decide | omega | (dsimp only; omega), by first | decide | omega | (dsimp only; omega)⟩ ⟨by first | decide | omega | (dsimp only; omega), by first | decide | omega | (dsimp only; omega)⟩ (Nat.le_of_ble_eq_true rfl) rfl d_QM_written_10 (fun r gw H locs hp9 V1 => ?_)
  obtain ⟨rfl, hw2, hfr2⟩ := hp9
  have V := V1
  refine W.eq (g2 := F0 m 13 ls []) rfl ?_
  have hmw : ∀ b, wM (Z 10) (Z 11) b → ρ b = 10 ∨ ρ b = 11 := fun b hb => by rcases hb with rfl | rfl <;> omega
  have hB : qf_A E ρ Z gw tx n bd dc X q0 q1 N cb bg N1 cb1 bg1 φ en xs ∧ gh_fr f gw (qf_M ρ) := ⟨⟨qf_6.keep q6 qz hfr2 (fun b hb => by have := hmw b hb; omega), qK.keep hfr2 (fun b hb => by have := hmw b hb; omega), q8.keep qz hfr2 (fun b hb => by have := hmw b hb; omega), q9.keep qz hfr2 (fun b hb => by have := hmw b hb; omega), qG.keep qz hfr2 (fun b hb => by have := hmw b hb; omega), ⟨_, _, hw2⟩, qU.keep qz hfr2 (fun b hb => by have := hmw b hb; omega), qRK.keep hfr2 (fun b hb => by have := hmw b hb; omega), qRG.keep qz hfr2 (fun b hb => by have := hmw b hb; omega), qRS.keep qz hfr2 (fun b hb => by have := hmw b hb; omega), qP.keep2 qz hfr2 (fun b hb => by have := hmw b hb; omega), qD.keep hfr2 (fun b hb z => by have z : ρ b = 0 := z; have := hmw b hb; omega), qQ.keep qp.q1 qz hfr2 (fun b hb => by have := hmw b hb; have := qp.q1; omega), qp⟩, hfr2.wide (fun b hb => Or.inl (by have := hmw b hb; omega))⟩
  have u6 : gw (Z 6) = some (.inr (0, [.ref (Z 7), .int (nI n), .ref (Z 8), .ref (Z 10), .ref (Z 1), .ref dc, .ref (Z q0), .ref (Z q1)])) := hB.1.1
  have hmax := wr_v_max hv9.2
  have hwl : (wr_l i9 (0, 0) (wr_v 8 Y9)).1 = (wr_v 8 Y9).length := by rw [wr_l_len]; exact Nat.zero_add _
  have u10 := hw2.1
  rw [hwl] at u10
  by_cases hi1 : i9 = -1
  · refine gt_of ?_
    refine lv_iload_n hx hb d_QM_written_13 rfl (lv_at hl 2 rfl) ?_
    refine lv_iconst (v := (-1)) hx hb d_QM_written_14 (by decide) ?_
    refine lv_icmp_ne (tgt := 26) hx hb d_QM_written_15 (by decide) (fun c1 => absurd hi1 c1) (fun c1 => ?_)
    refine lv_aload_n hx hb d_QM_written_18 rfl (lv_at hl 0 rfl) ?_
    refine gh_get C V u6 gc_QM gi_QM 3 (by decide) f_QM_28 rfl rfl d_QM_written_19 ?_
    refine gh_get C V u10 gc_Wr gi_Wr 3 (by decide) f_QM_125 rfl rfl d_QM_written_22 ?_
    refine gh_reti hAe C V hr hlocks d_QM_written_25 (by first | decide | omega | (dsimp only; omega)) (by first | decide | omega | (dsimp only; omega)) ?_
    exact ⟨⟨Y9, hY9, hv9.2, Or.inl ⟨hi1, rfl⟩⟩, hB⟩
  · by_cases hi0 : i9 < 0
    · refine lv_iload_n hx hb d_QM_written_13 rfl (lv_at hl 2 rfl) ?_
      refine lv_iconst (v := (-1)) hx hb d_QM_written_14 (by decide) ?_
      refine lv_icmp_ne (tgt := 26) hx hb d_QM_written_15 (by decide) (fun c2 => ?_) (fun c2 => absurd c2 hi1)
      refine lv_iload_n hx hb d_QM_written_26 rfl (lv_at hl 2 rfl) ?_
      refine lv_if_lt (tgt := 41) hx hb d_QM_written_27 (by decide) (fun c3 => ?_) (fun c3 => absurd hi0 c3)
      exact gt_throw htr hAe V0 C V hl.1 hno hlocks (by decide +kernel) (gx_IO_w C) gx_IO_c gx_IO_n gx_IO_i d_QM_written_41 d_QM_written_44 d_QM_written_45 d_QM_written_48 (by first | decide | omega | (dsimp only; omega)) (by first | decide | omega | (dsimp only; omega)) (by first | decide | omega | (dsimp only; omega)) (by first | decide | omega | (dsimp only; omega)) (by first | decide | omega | (dsimp only; omega)) (by first | decide | omega | (dsimp only; omega)) (Or.inr ⟨rfl, ⟨Y9, hY9, hv9.2, Or.inl (fa_m1 hi0 hi1)⟩, hB⟩)
    · by_cases hi2 : i9 < nI (wr_v 8 Y9).length
      · obtain ⟨j9, hj9, hij9⟩ := fa_of (by omega) hi0 hi2
        have hat : (wr_l i9 (0, 0) (wr_v 8 Y9)).2 = (wr_v 8 Y9).getD j9 0 := by rw [hij9]; exact wr_l_at (Nat.zero_le _) (by show j9 < 0 + _; omega) (by show 0 + _ < _; omega)
        refine gt_of ?_
        refine lv_iload_n hx hb d_QM_written_13 rfl (lv_at hl 2 rfl) ?_
        refine lv_iconst (v := (-1)) hx hb d_QM_written_14 (by decide) ?_
        refine lv_icmp_ne (tgt := 26) hx hb d_QM_written_15 (by decide) (fun c4 => ?_) (fun c4 => absurd c4 hi1)
        refine lv_iload_n hx hb d_QM_written_26 rfl (lv_at hl 2 rfl) ?_
        refine lv_if_lt (tgt := 41) hx hb d_QM_written_27 (by decide) (fun c5 => absurd c5 hi0) (fun c5 => ?_)
        refine lv_iload_n hx hb d_QM_written_30 rfl (lv_at hl 2 rfl) ?_
        refine lv_aload_n hx hb d_QM_written_31 rfl (lv_at hl 0 rfl) ?_
        refine gh_get C V u6 gc_QM gi_QM 3 (by decide) f_QM_28 rfl rfl d_QM_written_32 ?_
        refine gh_get C V u10 gc_Wr gi_Wr 3 (by decide) f_QM_125 rfl rfl d_QM_written_35 ?_
        refine lv_icmp_lt (tgt := 49) hx hb d_QM_written_38 (by decide) (fun c6 => ?_) (fun c6 => absurd hi2 c6)
        refine lv_aload_n hx hb d_QM_written_49 rfl (lv_at hl 0 rfl) ?_
        refine gh_get C V u6 gc_QM gi_QM 3 (by decide) f_QM_28 rfl rfl d_QM_written_50 ?_
        refine gh_get C V u10 gc_Wr gi_Wr 2 (by decide) f_QM_129 rfl rfl d_QM_written_53 ?_
        refine gh_reti hAe C V hr hlocks d_QM_written_56 (by first | decide | omega | (dsimp only; omega)) (by first | decide | omega | (dsimp only; omega)) ?_
        exact ⟨⟨Y9, hY9, hv9.2, Or.inr ⟨j9, hij9, hj9, by rw [hat]⟩⟩, hB⟩
      · refine lv_iload_n hx hb d_QM_written_13 rfl (lv_at hl 2 rfl) ?_
        refine lv_iconst (v := (-1)) hx hb d_QM_written_14 (by decide) ?_
        refine lv_icmp_ne (tgt := 26) hx hb d_QM_written_15 (by decide) (fun c7 => ?_) (fun c7 => absurd c7 hi1)
        refine lv_iload_n hx hb d_QM_written_26 rfl (lv_at hl 2 rfl) ?_
        refine lv_if_lt (tgt := 41) hx hb d_QM_written_27 (by decide) (fun c8 => absurd c8 hi0) (fun c8 => ?_)
        refine lv_iload_n hx hb d_QM_written_30 rfl (lv_at hl 2 rfl) ?_
        refine lv_aload_n hx hb d_QM_written_31 rfl (lv_at hl 0 rfl) ?_
        refine gh_get C V u6 gc_QM gi_QM 3 (by decide) f_QM_28 rfl rfl d_QM_written_32 ?_
        refine gh_get C V u10 gc_Wr gi_Wr 3 (by decide) f_QM_125 rfl rfl d_QM_written_35 ?_
        refine lv_icmp_lt (tgt := 49) hx hb d_QM_written_38 (by decide) (fun c9 => absurd c9 hi2) (fun c9 => ?_)
        exact gt_throw htr hAe V0 C V hl.1 hno hlocks (by decide +kernel) (gx_IO_w C) gx_IO_c gx_IO_n gx_IO_i d_QM_written_41 d_QM_written_44 d_QM_written_45 d_QM_written_48 (by first | decide | omega | (dsimp only; omega)) (by first | decide | omega | (dsimp only; omega)) (by first | decide | omega | (dsimp only; omega)) (by first | decide | omega | (dsimp only; omega)) (by first | decide | omega | (dsimp only; omega)) (by first | decide | omega | (dsimp only; omega)) (Or.inr ⟨rfl, ⟨Y9, hY9, hv9.2, Or.inr ⟨Int32.not_lt.mp hi0, hi2⟩⟩, hB⟩)
