/-! The machine's face: document, query, run. Printed by wip/whole/gen_face4.py. -/
theorem re_K.zero {E : gh_E} {ρ Z tx : Nat → Nat} {n : Nat} {f : gh_F} (h : re_K E ρ Z tx n f) : re_K E ρ Z tx 0 f := by
  obtain ⟨k1, k2, k3, k4, k5, ⟨hh, k6, -⟩, -, -⟩ := h
  exact ⟨k1, k2, k3, k4, k5, ⟨hh, k6, fun j hj => absurd hj (Nat.not_lt_zero j)⟩, Nat.zero_le _, fun j hj => absurd hj (Nat.not_lt_zero j)⟩
theorem fa_251 {x : Int32} (h : x ≤ 250) : x < nI 251 := by
  have h2 : x.toInt ≤ 250 := Int32.le_iff_toInt_le.mp h
  exact Int32.lt_iff_toInt_lt.mpr (show x.toInt < 251 by omega)
theorem d_QM_document_0 : decode b_QM_document 0 = .ok (.aload_n 0, 1) := by decide +kernel
theorem d_QM_document_1 : decode b_QM_document 1 = .ok (.getfield 21, 3) := by decide +kernel
theorem d_QM_document_4 : decode b_QM_document 4 = .ok (.aload_n 0, 1) := by decide +kernel
theorem d_QM_document_5 : decode b_QM_document 5 = .ok (.getfield 12, 3) := by decide +kernel
theorem d_QM_document_8 : decode b_QM_document 8 = .ok (.aload_n 0, 1) := by decide +kernel
theorem d_QM_document_9 : decode b_QM_document 9 = .ok (.getfield 75, 3) := by decide +kernel
theorem d_QM_document_12 : decode b_QM_document 12 = .ok (.invokevirtual 86, 3) := by decide +kernel
theorem d_QM_document_15 : decode b_QM_document 15 = .ok (.astore_n 1, 1) := by decide +kernel
theorem d_QM_document_16 : decode b_QM_document 16 = .ok (.aload_n 0, 1) := by decide +kernel
theorem d_QM_document_17 : decode b_QM_document 17 = .ok (.iconst 0, 1) := by decide +kernel
theorem d_QM_document_18 : decode b_QM_document 18 = .ok (.putfield 75, 3) := by decide +kernel
theorem d_QM_document_21 : decode b_QM_document 21 = .ok (.aload_n 1, 1) := by decide +kernel
theorem d_QM_document_22 : decode b_QM_document 22 = .ok (.ifnonnull 11, 3) := by decide +kernel
theorem d_QM_document_25 : decode b_QM_document 25 = .ok (.new 72, 3) := by decide +kernel
theorem d_QM_document_28 : decode b_QM_document 28 = .ok (.dup, 1) := by decide +kernel
theorem d_QM_document_29 : decode b_QM_document 29 = .ok (.invokespecial 74, 3) := by decide +kernel
theorem d_QM_document_32 : decode b_QM_document 32 = .ok (.athrow, 1) := by decide +kernel
theorem d_QM_document_33 : decode b_QM_document 33 = .ok (.aload_n 0, 1) := by decide +kernel
theorem d_QM_document_34 : decode b_QM_document 34 = .ok (.aload_n 1, 1) := by decide +kernel
theorem d_QM_document_35 : decode b_QM_document 35 = .ok (.putfield 43, 3) := by decide +kernel
theorem d_QM_document_38 : decode b_QM_document 38 = .ok (.return_, 1) := by decide +kernel
set_option maxHeartbeats 4000000 in
set_option maxRecDepth 100000 in
theorem c_QM_document (l : Launch) (hst : ∀ e : Env, l.admits e → e.platform.stackTraces = false) (E : gh_E) (sz : Nat) (f : gh_F) (ρ Z : Nat → Nat) (tx : Nat → Nat) (n : Nat) (bd : Int32) (dc : Nat) (X : vt) (q0 q1 N : Nat) (cb bg : Nat → Nat) (N1 : Nat) (cb1 bg1 : Nat → Nat) (φ : Nat) (en : Int32) (xs : List vt) (hA : qf_A E ρ Z f tx n bd dc X q0 q1 N cb bg N1 cb1 bg1 φ en xs) : gt_M l y_QM_document b_QM_document 2 none E sz [.ref (Z 6)] f { frames := 54, cells := 485, slots := 7266, locals := 1450 } (fun r g => r = none ∧ (∃ q Y v, rd_a tx n false = (q, some Y) ∧ qf_A E ρ Z g tx 0 ((-1)) v Y q0 q1 N cb bg N1 cb1 bg1 φ en xs) ∧ gh_fr f g (qf_M ρ)) (fun cls g => cls = X_IA ∧ (∃ q, rd_a tx n false = (q, none) ∧ qf_A E ρ Z g tx 0 (nI q) dc X q0 q1 N cb bg N1 cb1 bg1 φ en xs) ∧ gh_fr f g (qf_M ρ)) := by
  refine gt_open (by decide) (Nat.le_of_ble_eq_true rfl) ?_
  intro p e s m args below meth c A ls hadm hno hAe C V hr hlocks hname hl
  have htr := hst e hadm
  have V0 := V
  have hx := C.1
  have hb := C.2.1
  have hl : lv_has ls 2 [(0, .ref (Z 6))] := hl
  obtain ⟨q6, qK, q8, q9, qG, qW, qU, qRK, qRG, qRS, qP, qD, qQ, qp⟩ := id hA
  have qz := qK.1
  obtain ⟨tv, t1, t2, u8⟩ := id q8
  obtain ⟨qv, qb0, cU⟩ := id qU
  obtain ⟨cQ0, cQ1, cQ2⟩ := id qQ
  have q6 : f (Z 6) = some (.inr (0, [.ref (Z 7), .int (nI n), .ref (Z 8), .ref (Z 10), .ref (Z 1), .ref dc, .ref (Z q0), .ref (Z q1)])) := q6
  have e6 : ρ (Z 6) = 6 := qz 6 (by unfold rU; omega)
  have e8 : ρ (Z 8) = 8 := qz 8 (by unfold rU; omega)
  have e9 : ρ (Z 9) = 9 := qz 9 (by unfold rU; omega)
  refine lv_aload_n hx hb d_QM_document_0 rfl (lv_at hl 0 rfl) ?_
  refine gh_get C V q6 gc_QM gi_QM 2 (by decide) f_QM_21 rfl rfl d_QM_document_1 ?_
  refine lv_aload_n hx hb d_QM_document_4 rfl (lv_at hl 0 rfl) ?_
  refine gh_get C V q6 gc_QM gi_QM 0 (by decide) f_QM_12 rfl rfl d_QM_document_5 ?_
  refine lv_aload_n hx hb d_QM_document_8 rfl (lv_at hl 0 rfl) ?_
  refine gh_get C V q6 gc_QM gi_QM 1 (by decide) f_QM_75 rfl rfl d_QM_document_9 ?_
  refine gh_callV C V hl.1 m_Re_read l_QM_86 (c_Re_read l E _ _ ρ Z tx n tv t1 t2 bd u8 qK q9 qG) rfl u8 gc_Re ⟨by first | decide | omega | (dsimp only; omega), by first | decide | omega | (dsimp only; omega)⟩ ⟨by first | decide | omega | (dsimp only; omega), by first | decide | omega | (dsimp only; omega)⟩ (Nat.le_of_ble_eq_true rfl) rfl d_QM_document_12 (fun r gv H locs hp9 V1 => ?_)
  obtain ⟨hr9, hfr1⟩ := hp9
  have V := V1
  have hm1 : ∀ b, re_M ρ 0 b → ρ b = 8 ∨ ρ b = 9 ∨ (100 ≤ ρ b ∧ ρ b < 124) := fun b hb => by rcases hb with hb | hb | hb <;> omega
  have u6 : gv (Z 6) = some (.inr (0, [.ref (Z 7), .int (nI n), .ref (Z 8), .ref (Z 10), .ref (Z 1), .ref dc, .ref (Z q0), .ref (Z q1)])) := hfr1.at q6 (fun z => by have := hm1 _ z; omega)
  cases hRA : rd_a tx n false with
  | mk Q O =>
    rw [hRA] at hr9
    cases O with
    | none =>
      obtain ⟨rfl, hA9⟩ := hr9
      refine W.eq (g2 := F0 m 15 ls [.null]) rfl ?_
      refine lv_astore_nN hx hb d_QM_document_15 rfl hl (by decide) rfl (fun ls hl => ?_)
      have hl : lv_has ls 2 [(1, .null), (0, .ref (Z 6))] := hl
      refine lv_aload_n hx hb d_QM_document_16 rfl (lv_at hl 1 rfl) ?_
      refine lv_iconst (v := 0) hx hb d_QM_document_17 (by decide) ?_
      refine gh_put C V u6 gc_QM gi_QM ty_QM nm_QM 1 (by decide) f_QM_75 rfl rfl rfl (Nat.le_of_ble_eq_true rfl) d_QM_document_18 (fun H locs V1 => ?_)
      obtain ⟨fa, hfa⟩ : ∃ z9 : gh_F, z9 = gh_u gv (Z 6) (.inr (0, [.ref (Z 7), .int (nI 0), .ref (Z 8), .ref (Z 10), .ref (Z 1), .ref dc, .ref (Z q0), .ref (Z q1)])) := ⟨_, rfl⟩
      have V : gh_V E A fa s H locs := by rw [hfa]; exact V1
      have u6 : fa (Z 6) = some (.inr (0, [.ref (Z 7), .int (nI 0), .ref (Z 8), .ref (Z 10), .ref (Z 1), .ref dc, .ref (Z q0), .ref (Z q1)])) := by rw [hfa]; exact gh_us
      have fr_fa : gh_fr gv fa (fun b => ρ b = 6) := by rw [hfa]; exact gh_fr.rf.put (Or.inl e6)
      refine W.eq (g2 := F0 m 21 ls []) rfl ?_
      have frb : gh_fr gv fa (fun b => ρ b = 6) := fr_fa
      have hfr : gh_fr f fa (fun b => ρ b = 6 ∨ re_M ρ 0 b) := (hfr1.wide (fun b hb => Or.inr hb)).tr frb (fun b _ _ hb => Or.inl hb)
      have hm : ∀ b, (fun b => ρ b = 6 ∨ re_M ρ 0 b) b → ρ b = 6 ∨ ρ b = 8 ∨ ρ b = 9 ∨ (100 ≤ ρ b ∧ ρ b < 124) := fun b hb => by rcases hb with hb | hb; exact Or.inl hb; exact Or.inr (hm1 b hb)
      have hm6 : ∀ b, (fun b => ρ b = 6) b → ρ b = 6 := fun _ z => z
      have k8 : qf_r Z fa (nI Q) := ⟨_, _, _, frb.at hA9.1 (fun z => by have := hm6 _ z; omega)⟩
      have hKz := hA9.2.1.keep frb (fun b hb => by have := hm6 b hb; omega)
      have k9 : qf_9 E Z fa := qf_9.keep (f := gv) hA9.2.2.1 qz frb (fun b hb => by have := hm6 b hb; omega)
      have kG := hA9.2.2.2.keep qz frb (fun b hb => by have := hm6 b hb; omega)
      have hB : qf_A E ρ Z fa tx 0 (nI Q) dc X q0 q1 N cb bg N1 cb1 bg1 φ en xs ∧ gh_fr f fa (qf_M ρ) := ⟨⟨u6, hKz.zero, k8, k9, kG, qW.keep qz hfr (fun b hb => by have := hm b hb; omega), qU.keep qz hfr (fun b hb => by have := hm b hb; omega), qRK.keep hfr (fun b hb => by have := hm b hb; omega), qRG.keep qz hfr (fun b hb => by have := hm b hb; omega), qRS.keep qz hfr (fun b hb => by have := hm b hb; omega), qP.keep2 qz hfr (fun b hb => by have := hm b hb; omega), qD.keep hfr (fun b hb z => by have z : ρ b = 0 := z; have := hm b hb; omega), qQ.keep qp.q1 qz hfr (fun b hb => by have := hm b hb; have := qp.q1; omega), qp⟩, hfr.wide (fun b hb => by have := hm b hb; unfold qf_M; omega)⟩
      refine lv_aload_nN hx hb d_QM_document_21 rfl (lv_at hl 0 rfl) ?_
      refine lv_ifnonnullN hx hb d_QM_document_22 ?_
      exact gt_throw htr hAe V0 C V hl.1 hno hlocks (by decide +kernel) (gx_IA_w C) gx_IA_c gx_IA_n gx_IA_i d_QM_document_25 d_QM_document_28 d_QM_document_29 d_QM_document_32 (by first | decide | omega | (dsimp only; omega)) (by first | decide | omega | (dsimp only; omega)) (by first | decide | omega | (dsimp only; omega)) (by first | decide | omega | (dsimp only; omega)) (by first | decide | omega | (dsimp only; omega)) (by first | decide | omega | (dsimp only; omega)) ⟨rfl, ⟨Q, rfl, hB.1⟩, hB.2⟩
    | some Y9 =>
      obtain ⟨⟨v9, rfl, hv9⟩, hA9⟩ := hr9
      refine W.eq (g2 := F0 m 15 ls [.ref v9]) rfl ?_
      refine lv_astore_n hx hb d_QM_document_15 rfl hl (by decide) rfl (fun ls hl => ?_)
      have hl : lv_has ls 2 [(1, .ref v9), (0, .ref (Z 6))] := hl
      refine lv_aload_n hx hb d_QM_document_16 rfl (lv_at hl 1 rfl) ?_
      refine lv_iconst (v := 0) hx hb d_QM_document_17 (by decide) ?_
      refine gh_put C V u6 gc_QM gi_QM ty_QM nm_QM 1 (by decide) f_QM_75 rfl rfl rfl (Nat.le_of_ble_eq_true rfl) d_QM_document_18 (fun H locs V1 => ?_)
      obtain ⟨fa, hfa⟩ : ∃ z9 : gh_F, z9 = gh_u gv (Z 6) (.inr (0, [.ref (Z 7), .int (nI 0), .ref (Z 8), .ref (Z 10), .ref (Z 1), .ref dc, .ref (Z q0), .ref (Z q1)])) := ⟨_, rfl⟩
      have V : gh_V E A fa s H locs := by rw [hfa]; exact V1
      have u6 : fa (Z 6) = some (.inr (0, [.ref (Z 7), .int (nI 0), .ref (Z 8), .ref (Z 10), .ref (Z 1), .ref dc, .ref (Z q0), .ref (Z q1)])) := by rw [hfa]; exact gh_us
      have fr_fa : gh_fr gv fa (fun b => ρ b = 6) := by rw [hfa]; exact gh_fr.rf.put (Or.inl e6)
      refine W.eq (g2 := F0 m 21 ls []) rfl ?_
      refine lv_aload_n hx hb d_QM_document_21 rfl (lv_at hl 0 rfl) ?_
      refine lv_ifnonnull (tgt := 33) hx hb d_QM_document_22 (by decide) ?_
      refine lv_aload_n hx hb d_QM_document_33 rfl (lv_at hl 1 rfl) ?_
      refine lv_aload_n hx hb d_QM_document_34 rfl (lv_at hl 0 rfl) ?_
      refine gh_put C V u6 gc_QM gi_QM ty_QM nm_QM 5 (by decide) f_QM_43 rfl rfl rfl (Nat.le_of_ble_eq_true rfl) d_QM_document_35 (fun H locs V1 => ?_)
      obtain ⟨fb2, hfb2⟩ : ∃ z9 : gh_F, z9 = gh_u fa (Z 6) (.inr (0, [.ref (Z 7), .int (nI 0), .ref (Z 8), .ref (Z 10), .ref (Z 1), .ref v9, .ref (Z q0), .ref (Z q1)])) := ⟨_, rfl⟩
      have V : gh_V E A fb2 s H locs := by rw [hfb2]; exact V1
      have u6 : fb2 (Z 6) = some (.inr (0, [.ref (Z 7), .int (nI 0), .ref (Z 8), .ref (Z 10), .ref (Z 1), .ref v9, .ref (Z q0), .ref (Z q1)])) := by rw [hfb2]; exact gh_us
      have fr_fb2 : gh_fr fa fb2 (fun b => ρ b = 6) := by rw [hfb2]; exact gh_fr.rf.put (Or.inl e6)
      refine W.eq (g2 := F0 m 38 ls []) rfl ?_
      have frb : gh_fr gv fb2 (fun b => ρ b = 6) := fr_fa.tr fr_fb2 (fun _ _ _ z => z)
      have hfr : gh_fr f fb2 (fun b => ρ b = 6 ∨ re_M ρ 0 b) := (hfr1.wide (fun b hb => Or.inr hb)).tr frb (fun b _ _ hb => Or.inl hb)
      have hm : ∀ b, (fun b => ρ b = 6 ∨ re_M ρ 0 b) b → ρ b = 6 ∨ ρ b = 8 ∨ ρ b = 9 ∨ (100 ≤ ρ b ∧ ρ b < 124) := fun b hb => by rcases hb with hb | hb; exact Or.inl hb; exact Or.inr (hm1 b hb)
      have hm6 : ∀ b, (fun b => ρ b = 6) b → ρ b = 6 := fun _ z => z
      have k8 : qf_r Z fb2 ((-1)) := ⟨_, _, _, frb.at hA9.1 (fun z => by have := hm6 _ z; omega)⟩
      have hKz := hA9.2.1.keep frb (fun b hb => by have := hm6 b hb; omega)
      have k9 : qf_9 E Z fb2 := qf_9.keep (f := gv) hA9.2.2.1 qz frb (fun b hb => by have := hm6 b hb; omega)
      have kG := hA9.2.2.2.keep qz frb (fun b hb => by have := hm6 b hb; omega)
      have hB : qf_A E ρ Z fb2 tx 0 ((-1)) v9 Y9 q0 q1 N cb bg N1 cb1 bg1 φ en xs ∧ gh_fr f fb2 (qf_M ρ) := ⟨⟨u6, hKz.zero, k8, k9, kG, qW.keep qz hfr (fun b hb => by have := hm b hb; omega), qU.keep qz hfr (fun b hb => by have := hm b hb; omega), qRK.keep hfr (fun b hb => by have := hm b hb; omega), qRG.keep qz hfr (fun b hb => by have := hm b hb; omega), qRS.keep qz hfr (fun b hb => by have := hm b hb; omega), qP.keep2 qz hfr (fun b hb => by have := hm b hb; omega), hv9.keep frb (fun b hb z => by have z : ρ b = 0 := z; have := hm6 b hb; omega), qQ.keep qp.q1 qz hfr (fun b hb => by have := hm b hb; have := qp.q1; omega), qp⟩, hfr.wide (fun b hb => by have := hm b hb; unfold qf_M; omega)⟩
      refine gt_of ?_
      refine gh_retv hAe C V hr hlocks d_QM_document_38 (by first | decide | omega | (dsimp only; omega)) (by first | decide | omega | (dsimp only; omega)) ?_
      exact ⟨rfl, ⟨Q, Y9, v9, rfl, hB.1⟩, hB.2⟩
theorem d_QM_query_0 : decode b_QM_query 0 = .ok (.aload_n 0, 1) := by decide +kernel
theorem d_QM_query_1 : decode b_QM_query 1 = .ok (.getfield 61, 3) := by decide +kernel
theorem d_QM_query_4 : decode b_QM_query 4 = .ok (.invokevirtual 57, 3) := by decide +kernel
theorem d_QM_query_7 : decode b_QM_query 7 = .ok (.istore_n 1, 1) := by decide +kernel
theorem d_QM_query_8 : decode b_QM_query 8 = .ok (.iload_n 1, 1) := by decide +kernel
theorem d_QM_query_9 : decode b_QM_query 9 = .ok (.ifCond .eq 21, 3) := by decide +kernel
theorem d_QM_query_12 : decode b_QM_query 12 = .ok (.aload_n 0, 1) := by decide +kernel
theorem d_QM_query_13 : decode b_QM_query 13 = .ok (.getfield 49, 3) := by decide +kernel
theorem d_QM_query_16 : decode b_QM_query 16 = .ok (.astore_n 2, 1) := by decide +kernel
theorem d_QM_query_17 : decode b_QM_query 17 = .ok (.aload_n 0, 1) := by decide +kernel
theorem d_QM_query_18 : decode b_QM_query 18 = .ok (.aload_n 0, 1) := by decide +kernel
theorem d_QM_query_19 : decode b_QM_query 19 = .ok (.getfield 61, 3) := by decide +kernel
theorem d_QM_query_22 : decode b_QM_query 22 = .ok (.putfield 49, 3) := by decide +kernel
theorem d_QM_query_25 : decode b_QM_query 25 = .ok (.aload_n 0, 1) := by decide +kernel
theorem d_QM_query_26 : decode b_QM_query 26 = .ok (.aload_n 2, 1) := by decide +kernel
theorem d_QM_query_27 : decode b_QM_query 27 = .ok (.putfield 61, 3) := by decide +kernel
theorem d_QM_query_30 : decode b_QM_query 30 = .ok (.aload_n 0, 1) := by decide +kernel
theorem d_QM_query_31 : decode b_QM_query 31 = .ok (.getfield 61, 3) := by decide +kernel
theorem d_QM_query_34 : decode b_QM_query 34 = .ok (.invokevirtual 96, 3) := by decide +kernel
theorem d_QM_query_37 : decode b_QM_query 37 = .ok (.iload_n 1, 1) := by decide +kernel
theorem d_QM_query_38 : decode b_QM_query 38 = .ok (.ifCond .ne 11, 3) := by decide +kernel
theorem d_QM_query_41 : decode b_QM_query 41 = .ok (.new 72, 3) := by decide +kernel
theorem d_QM_query_44 : decode b_QM_query 44 = .ok (.dup, 1) := by decide +kernel
theorem d_QM_query_45 : decode b_QM_query 45 = .ok (.invokespecial 74, 3) := by decide +kernel
theorem d_QM_query_48 : decode b_QM_query 48 = .ok (.athrow, 1) := by decide +kernel
theorem d_QM_query_49 : decode b_QM_query 49 = .ok (.return_, 1) := by decide +kernel
set_option maxHeartbeats 4000000 in
set_option maxRecDepth 100000 in
theorem c_QM_query (l : Launch) (hst : ∀ e : Env, l.admits e → e.platform.stackTraces = false) (E : gh_E) (sz : Nat) (f : gh_F) (ρ Z : Nat → Nat) (tx : Nat → Nat) (n : Nat) (bd : Int32) (dc : Nat) (X : vt) (q0 q1 N : Nat) (cb bg : Nat → Nat) (N1 : Nat) (cb1 bg1 : Nat → Nat) (φ : Nat) (en : Int32) (xs : List vt) (hA : qf_A E ρ Z f tx n bd dc X q0 q1 N cb bg N1 cb1 bg1 φ en xs) : gt_M l y_QM_query b_QM_query 3 none E sz [.ref (Z 6)] f { frames := 24, cells := 1, slots := 6, locals := 560 } (fun r g => r = none ∧ ((qy_run cb1 N1 13 0 bg1).1 = some N1 ∧ qf_A E ρ Z g tx n bd dc X q1 q0 N1 cb1 ((qy_run cb1 N1 13 0 bg1).2) 0 cb bg φ en xs) ∧ gh_fr f g (qf_M ρ)) (fun cls g => cls = X_IA ∧ (¬ (qy_run cb1 N1 13 0 bg1).1 = some N1 ∧ qf_A E ρ Z g tx n bd dc X q0 q1 N cb bg 0 cb1 ((qy_run cb1 N1 13 0 bg1).2) φ en xs) ∧ gh_fr f g (qf_M ρ)) := by
  refine gt_open (by decide) (Nat.le_of_ble_eq_true rfl) ?_
  intro p e s m args below meth c A ls hadm hno hAe C V hr hlocks hname hl
  have htr := hst e hadm
  have V0 := V
  have hx := C.1
  have hb := C.2.1
  have hl : lv_has ls 3 [(0, .ref (Z 6))] := hl
  obtain ⟨q6, qK, q8, q9, qG, qW, qU, qRK, qRG, qRS, qP, qD, qQ, qp⟩ := id hA
  have qz := qK.1
  obtain ⟨tv, t1, t2, u8⟩ := id q8
  obtain ⟨qv, qb0, cU⟩ := id qU
  obtain ⟨cQ0, cQ1, cQ2⟩ := id qQ
  have q6 : f (Z 6) = some (.inr (0, [.ref (Z 7), .int (nI n), .ref (Z 8), .ref (Z 10), .ref (Z 1), .ref dc, .ref (Z q0), .ref (Z q1)])) := q6
  have e6 : ρ (Z 6) = 6 := qz 6 (by unfold rU; omega)
  have hq01 := qp.2.2.1
  have hq1 := qp.q1
  have e_q0_0 : ρ (Z (q0)) = q0 := qz _ (by unfold rU; omega)
  have e_q0_1 : ρ (Z (q0 + 1)) = q0 + 1 := qz _ (by unfold rU; omega)
  have e_q0_2 : ρ (Z (q0 + 2)) = q0 + 2 := qz _ (by unfold rU; omega)
  have e_q1_0 : ρ (Z (q1)) = q1 := qz _ (by unfold rU; omega)
  have e_q1_1 : ρ (Z (q1 + 1)) = q1 + 1 := qz _ (by unfold rU; omega)
  have e_q1_2 : ρ (Z (q1 + 2)) = q1 + 2 := qz _ (by unfold rU; omega)
  refine lv_aload_n hx hb d_QM_query_0 rfl (lv_at hl 0 rfl) ?_
  refine gh_get C V q6 gc_QM gi_QM 7 (by decide) f_QM_61 rfl rfl d_QM_query_1 ?_
  refine gh_callV C V hl.1 m_Qu_findsParts l_QM_57 (c_Qu_findsParts l E _ _ (Z q1) (Z (q1 + 1)) (Z (q1 + 2)) N1 cb1 bg1 qp.2.2.2.1 qp.2.2.2.2 cQ0 cQ1 cQ2 (fun z => by rw [z] at e_q1_1; omega)) rfl cQ0 gc_Qu ⟨by first | decide | omega | (dsimp only; omega), by first | decide | omega | (dsimp only; omega)⟩ ⟨by first | decide | omega | (dsimp only; omega), by first | decide | omega | (dsimp only; omega)⟩ (Nat.le_of_ble_eq_true rfl) rfl d_QM_query_4 (fun r ga H locs hp9 V1 => ?_)
  obtain ⟨rfl, k2, hfr1⟩ := hp9
  have V := V1
  have hm1 : ∀ b, b ∈ ([Z (q1 + 2)] : List Nat) → ρ b = q1 + 2 := fun b hb => by rw [List.mem_singleton.mp hb]; exact e_q1_2
  have u6 : ga (Z 6) = some (.inr (0, [.ref (Z 7), .int (nI n), .ref (Z 8), .ref (Z 10), .ref (Z 1), .ref dc, .ref (Z q0), .ref (Z q1)])) := hfr1.at q6 (fun z => by have := hm1 _ z; omega)
  have k0 := hfr1.at cQ0 (fun z => by have := hm1 _ z; omega)
  have k1 := hfr1.at cQ1 (fun z => by have := hm1 _ z; omega)
  by_cases hwf : (qy_run cb1 N1 13 0 bg1).1 = some N1
  · rw [decide_eq_true hwf]
    refine W.eq (g2 := F0 m 7 ls [.int 1]) rfl ?_
    refine lv_istore_n hx hb d_QM_query_7 rfl hl (by decide) rfl (fun ls hl => ?_)
    have hl : lv_has ls 3 [(1, .int 1), (0, .ref (Z 6))] := hl
    refine lv_iload_n hx hb d_QM_query_8 rfl (lv_at hl 0 rfl) ?_
    refine lv_if_eq (tgt := 30) hx hb d_QM_query_9 (by decide) (fun c1 => absurd c1 (by decide)) (fun c1 => ?_)
    refine lv_aload_n hx hb d_QM_query_12 rfl (lv_at hl 1 rfl) ?_
    refine gh_get C V u6 gc_QM gi_QM 6 (by decide) f_QM_49 rfl rfl d_QM_query_13 ?_
    refine lv_astore_n hx hb d_QM_query_16 rfl hl (by decide) rfl (fun ls hl => ?_)
    have hl : lv_has ls 3 [(2, .ref (Z q0)), (1, .int 1), (0, .ref (Z 6))] := hl
    refine lv_aload_n hx hb d_QM_query_17 rfl (lv_at hl 2 rfl) ?_
    refine lv_aload_n hx hb d_QM_query_18 rfl (lv_at hl 2 rfl) ?_
    refine gh_get C V u6 gc_QM gi_QM 7 (by decide) f_QM_61 rfl rfl d_QM_query_19 ?_
    refine gh_put C V u6 gc_QM gi_QM ty_QM nm_QM 6 (by decide) f_QM_49 rfl rfl rfl (Nat.le_of_ble_eq_true rfl) d_QM_query_22 (fun H locs V1 => ?_)
    obtain ⟨fa, hfa⟩ : ∃ z9 : gh_F, z9 = gh_u ga (Z 6) (.inr (0, [.ref (Z 7), .int (nI n), .ref (Z 8), .ref (Z 10), .ref (Z 1), .ref dc, .ref (Z q1), .ref (Z q1)])) := ⟨_, rfl⟩
    have V : gh_V E A fa s H locs := by rw [hfa]; exact V1
    have u6 : fa (Z 6) = some (.inr (0, [.ref (Z 7), .int (nI n), .ref (Z 8), .ref (Z 10), .ref (Z 1), .ref dc, .ref (Z q1), .ref (Z q1)])) := by rw [hfa]; exact gh_us
    have fr_fa : gh_fr ga fa (fun b => ρ b = 6) := by rw [hfa]; exact gh_fr.rf.put (Or.inl e6)
    refine W.eq (g2 := F0 m 25 ls []) rfl ?_
    refine lv_aload_n hx hb d_QM_query_25 rfl (lv_at hl 2 rfl) ?_
    refine lv_aload_n hx hb d_QM_query_26 rfl (lv_at hl 0 rfl) ?_
    refine gh_put C V u6 gc_QM gi_QM ty_QM nm_QM 7 (by decide) f_QM_61 rfl rfl rfl (Nat.le_of_ble_eq_true rfl) d_QM_query_27 (fun H locs V1 => ?_)
    obtain ⟨fb2, hfb2⟩ : ∃ z9 : gh_F, z9 = gh_u fa (Z 6) (.inr (0, [.ref (Z 7), .int (nI n), .ref (Z 8), .ref (Z 10), .ref (Z 1), .ref dc, .ref (Z q1), .ref (Z q0)])) := ⟨_, rfl⟩
    have V : gh_V E A fb2 s H locs := by rw [hfb2]; exact V1
    have u6 : fb2 (Z 6) = some (.inr (0, [.ref (Z 7), .int (nI n), .ref (Z 8), .ref (Z 10), .ref (Z 1), .ref dc, .ref (Z q1), .ref (Z q0)])) := by rw [hfb2]; exact gh_us
    have fr_fb2 : gh_fr fa fb2 (fun b => ρ b = 6) := by rw [hfb2]; exact gh_fr.rf.put (Or.inl e6)
    refine W.eq (g2 := F0 m 30 ls []) rfl ?_
    refine lv_aload_n hx hb d_QM_query_30 rfl (lv_at hl 2 rfl) ?_
    refine gh_get C V u6 gc_QM gi_QM 7 (by decide) f_QM_61 rfl rfl d_QM_query_31 ?_
    have hfr2 : gh_fr f fb2 (fun b => ρ b = 6 ∨ ρ b = q1 + 2) := ((hfr1.wide (fun b hb => Or.inr (hm1 b hb))).tr fr_fa (fun b _ _ z => Or.inl z)).tr fr_fb2 (fun b _ _ z => Or.inl z)
    have hm2 : ∀ b, (fun b => ρ b = 6 ∨ ρ b = q1 + 2) b → ρ b = 6 ∨ ρ b = q1 + 2 := fun _ z => z
    obtain ⟨-, -, -, -, -, r0, r1, r2, rN, -⟩ := id qRK
    have g0 := hfr2.at r0 (fun z => by have := hm2 _ z; omega)
    refine gh_callV C V hl.1 m_Qu_clear l_QM_96 (c_Qu_clear l E _ _ (Z q0) (Z (q0 + 1)) (Z (q0 + 2)) N g0) rfl g0 gc_Qu ⟨by first | decide | omega | (dsimp only; omega), by first | decide | omega | (dsimp only; omega)⟩ ⟨by first | decide | omega | (dsimp only; omega), by first | decide | omega | (dsimp only; omega)⟩ (Nat.le_of_ble_eq_true rfl) rfl d_QM_query_34 (fun r gc H locs hp9 V1 => ?_)
    obtain ⟨rfl, j0, hfr3⟩ := hp9
    have V := V1
    refine W.eq (g2 := F0 m 37 ls []) rfl ?_
    have hm3 : ∀ b, b ∈ ([Z q0] : List Nat) → ρ b = q0 := fun b hb => by rw [List.mem_singleton.mp hb]; exact e_q0_0
    have hfr : gh_fr f gc (fun b => ρ b = 6 ∨ ρ b = q1 + 2 ∨ ρ b = q0) := (hfr2.wide (fun b hb => by have := hm2 b hb; omega)).tr hfr3 (fun b _ _ z => by have := hm3 b z; omega)
    have hm : ∀ b, (fun b => ρ b = 6 ∨ ρ b = q1 + 2 ∨ ρ b = q0) b → ρ b = 6 ∨ ρ b = q1 + 2 ∨ ρ b = q0 := fun _ z => z
    have u6 : gc (Z 6) = some (.inr (0, [.ref (Z 7), .int (nI n), .ref (Z 8), .ref (Z 10), .ref (Z 1), .ref dc, .ref (Z q1), .ref (Z q0)])) := hfr3.at u6 (fun z => by have := hm3 _ z; omega)
    have kg : gh_fr ga gc (fun b => ρ b = 6 ∨ ρ b = q0) := ((fr_fa.tr fr_fb2 (fun _ _ _ z => z)).wide (fun b hb => Or.inl hb)).tr hfr3 (fun b _ _ z => Or.inr (hm3 b z))
    have hmk : ∀ b, (fun b => ρ b = 6 ∨ ρ b = q0) b → ρ b = 6 ∨ ρ b = q0 := fun _ z => z
    have k0 := kg.at k0 (fun z => by have := hmk _ z; omega)
    have k1 := kg.at k1 (fun z => by have := hmk _ z; omega)
    have k2 := kg.at k2 (fun z => by have := hmk _ z; omega)
    have j1 := hfr.at r1 (fun z => by have := hm _ z; omega)
    have j2 := hfr.at r2 (fun z => by have := hm _ z; omega)
    have hRK2 : rn_K E ρ Z gc q1 N1 cb1 (qy_run cb1 N1 13 0 bg1).2 := by
      obtain ⟨w1, w2, ⟨gS, w3, w4⟩, ⟨gG, w5, w6⟩, w7, -⟩ := qRK
      have n0 : ∀ a, ρ a = 0 → ¬ (fun b => ρ b = 6 ∨ ρ b = q1 + 2 ∨ ρ b = q0) a := fun a ha z => by have := hm a z; omega
      exact ⟨w1, w2, ⟨gS, hfr.at w3 (n0 _ w2.1), w4⟩, ⟨gG, hfr.at w5 (n0 _ w2.2), w6⟩, w7.keep hfr (fun b hb z => n0 b z hb), k0, k1, k2, qp.2.2.2.1, hq1⟩
    have hp2 : qf_p q1 q0 N1 cb1 (qy_run cb1 N1 13 0 bg1).2 0 cb := ⟨qy_run_qn qp.2.2.2.2 13 0 bg1 N1 _ (by rw [← hwf]), qp.2.2.2.2, by omega, Nat.zero_le _, qp.2.1⟩
    refine gt_of ?_
    refine lv_iload_n hx hb d_QM_query_37 rfl (lv_at hl 1 rfl) ?_
    refine lv_if_ne (tgt := 49) hx hb d_QM_query_38 (by decide) (fun c2 => ?_) (fun c2 => absurd c2 (by decide))
    refine gh_retv hAe C V hr hlocks d_QM_query_49 (by first | decide | omega | (dsimp only; omega)) (by first | decide | omega | (dsimp only; omega)) ?_
    exact ⟨rfl, ⟨hwf, ⟨u6, qK.keep hfr (fun b hb => by have := hm b hb; omega), q8.keep qz hfr (fun b hb => by have := hm b hb; omega), q9.keep qz hfr (fun b hb => by have := hm b hb; omega), qG.keep qz hfr (fun b hb => by have := hm b hb; omega), qW.keep qz hfr (fun b hb => by have := hm b hb; omega), qU.keep qz hfr (fun b hb => by have := hm b hb; omega), hRK2, qRG.keep qz hfr (fun b hb => by have := hm b hb; omega), qRS.keep qz hfr (fun b hb => by have := hm b hb; omega), qP.keep2 qz hfr (fun b hb => by have := hm b hb; omega), qD.keep hfr (fun b hb z => by have z : ρ b = 0 := z; have := hm b hb; omega), ⟨j0, j1, j2⟩, hp2⟩⟩, hfr.wide (fun b hb => Or.inl (by have := hm b hb; omega))⟩
  · rw [decide_eq_false hwf]
    refine W.eq (g2 := F0 m 7 ls [.int 0]) rfl ?_
    refine lv_istore_n hx hb d_QM_query_7 rfl hl (by decide) rfl (fun ls hl => ?_)
    have hl : lv_has ls 3 [(1, .int 0), (0, .ref (Z 6))] := hl
    refine lv_iload_n hx hb d_QM_query_8 rfl (lv_at hl 0 rfl) ?_
    refine lv_if_eq (tgt := 30) hx hb d_QM_query_9 (by decide) (fun c3 => ?_) (fun c3 => absurd (by decide) c3)
    refine lv_aload_n hx hb d_QM_query_30 rfl (lv_at hl 1 rfl) ?_
    refine gh_get C V u6 gc_QM gi_QM 7 (by decide) f_QM_61 rfl rfl d_QM_query_31 ?_
    refine gh_callV C V hl.1 m_Qu_clear l_QM_96 (c_Qu_clear l E _ _ (Z q1) (Z (q1 + 1)) (Z (q1 + 2)) N1 k0) rfl k0 gc_Qu ⟨by first | decide | omega | (dsimp only; omega), by first | decide | omega | (dsimp only; omega)⟩ ⟨by first | decide | omega | (dsimp only; omega), by first | decide | omega | (dsimp only; omega)⟩ (Nat.le_of_ble_eq_true rfl) rfl d_QM_query_34 (fun r gc H locs hp9 V1 => ?_)
    obtain ⟨rfl, j0, hfr3⟩ := hp9
    have V := V1
    refine W.eq (g2 := F0 m 37 ls []) rfl ?_
    have hm3 : ∀ b, b ∈ ([Z q1] : List Nat) → ρ b = q1 := fun b hb => by rw [List.mem_singleton.mp hb]; exact e_q1_0
    have hfr : gh_fr f gc (fun b => ρ b = q1 + 2 ∨ ρ b = q1) := (hfr1.wide (fun b hb => by have := hm1 b hb; omega)).tr hfr3 (fun b _ _ z => by have := hm3 b z; omega)
    have hm : ∀ b, (fun b => ρ b = q1 + 2 ∨ ρ b = q1) b → ρ b = q1 + 2 ∨ ρ b = q1 := fun _ z => z
    have u6 := hfr3.at u6 (fun z => by have := hm3 _ z; omega)
    have k1 := hfr3.at k1 (fun z => by have := hm3 _ z; omega)
    have k2 := hfr3.at k2 (fun z => by have := hm3 _ z; omega)
    have hp2 : qf_p q0 q1 N cb bg 0 cb1 := ⟨qp.1, qp.2.1, qp.2.2.1, Nat.zero_le _, qp.2.2.2.2⟩
    refine lv_iload_n hx hb d_QM_query_37 rfl (lv_at hl 0 rfl) ?_
    refine lv_if_ne (tgt := 49) hx hb d_QM_query_38 (by decide) (fun c4 => absurd (by decide) c4) (fun c4 => ?_)
    exact gt_throw htr hAe V0 C V hl.1 hno hlocks (by decide +kernel) (gx_IA_w C) gx_IA_c gx_IA_n gx_IA_i d_QM_query_41 d_QM_query_44 d_QM_query_45 d_QM_query_48 (by first | decide | omega | (dsimp only; omega)) (by first | decide | omega | (dsimp only; omega)) (by first | decide | omega | (dsimp only; omega)) (by first | decide | omega | (dsimp only; omega)) (by first | decide | omega | (dsimp only; omega)) (by first | decide | omega | (dsimp only; omega)) ⟨rfl, ⟨hwf, ⟨u6, qK.keep hfr (fun b hb => by have := hm b hb; omega), q8.keep qz hfr (fun b hb => by have := hm b hb; omega), q9.keep qz hfr (fun b hb => by have := hm b hb; omega), qG.keep qz hfr (fun b hb => by have := hm b hb; omega), qW.keep qz hfr (fun b hb => by have := hm b hb; omega), qU.keep qz hfr (fun b hb => by have := hm b hb; omega), rn_Kq qRK hq01 hfr (fun b hb => by have := hm b hb; omega), qRG.keep qz hfr (fun b hb => by have := hm b hb; omega), qRS.keep qz hfr (fun b hb => by have := hm b hb; omega), qP.keep2 qz hfr (fun b hb => by have := hm b hb; omega), qD.keep hfr (fun b hb z => by have z : ρ b = 0 := z; have := hm b hb; omega), ⟨j0, k1, k2⟩, hp2⟩⟩, hfr.wide (fun b hb => Or.inl (by have := hm b hb; omega))⟩
theorem d_QM_run_0 : decode b_QM_run 0 = .ok (.iload_n 1, 1) := by decide +kernel
theorem d_QM_run_1 : decode b_QM_run 1 = .ok (.ifCond .lt 10, 3) := by decide +kernel
theorem d_QM_run_4 : decode b_QM_run 4 = .ok (.iload_n 1, 1) := by decide +kernel
theorem d_QM_run_5 : decode b_QM_run 5 = .ok (.sipush 250, 3) := by decide +kernel
theorem d_QM_run_8 : decode b_QM_run 8 = .ok (.if_icmp .le 11, 3) := by decide +kernel
theorem d_QM_run_11 : decode b_QM_run 11 = .ok (.new 72, 3) := by decide +kernel
theorem d_QM_run_14 : decode b_QM_run 14 = .ok (.dup, 1) := by decide +kernel
theorem d_QM_run_15 : decode b_QM_run 15 = .ok (.invokespecial 74, 3) := by decide +kernel
theorem d_QM_run_18 : decode b_QM_run 18 = .ok (.athrow, 1) := by decide +kernel
theorem d_QM_run_19 : decode b_QM_run 19 = .ok (.aload_n 0, 1) := by decide +kernel
theorem d_QM_run_20 : decode b_QM_run 20 = .ok (.getfield 35, 3) := by decide +kernel
theorem d_QM_run_23 : decode b_QM_run 23 = .ok (.aload_n 0, 1) := by decide +kernel
theorem d_QM_run_24 : decode b_QM_run 24 = .ok (.getfield 49, 3) := by decide +kernel
theorem d_QM_run_27 : decode b_QM_run 27 = .ok (.aload_n 0, 1) := by decide +kernel
theorem d_QM_run_28 : decode b_QM_run 28 = .ok (.getfield 43, 3) := by decide +kernel
theorem d_QM_run_31 : decode b_QM_run 31 = .ok (.iload_n 1, 1) := by decide +kernel
theorem d_QM_run_32 : decode b_QM_run 32 = .ok (.invokevirtual 99, 3) := by decide +kernel
theorem d_QM_run_35 : decode b_QM_run 35 = .ok (.aload_n 0, 1) := by decide +kernel
theorem d_QM_run_36 : decode b_QM_run 36 = .ok (.getfield 35, 3) := by decide +kernel
theorem d_QM_run_39 : decode b_QM_run 39 = .ok (.getfield 103, 3) := by decide +kernel
theorem d_QM_run_42 : decode b_QM_run 42 = .ok (.ireturn, 1) := by decide +kernel
set_option maxHeartbeats 4000000 in
set_option maxRecDepth 100000 in
theorem c_QM_run (l : Launch) (hst : ∀ e : Env, l.admits e → e.platform.stackTraces = false) (E : gh_E) (sz : Nat) (f : gh_F) (ρ Z : Nat → Nat) (tx : Nat → Nat) (n : Nat) (bd : Int32) (dc : Nat) (X : vt) (q0 q1 N : Nat) (cb bg : Nat → Nat) (N1 : Nat) (cb1 bg1 : Nat → Nat) (φ : Nat) (en : Int32) (xs : List vt) (x : Int32) (hA : qf_A E ρ Z f tx n bd dc X q0 q1 N cb bg N1 cb1 bg1 φ en xs) : gt_M l y_QM_run b_QM_run 2 (some .int) E sz [.ref (Z 6), .int x] f { frames := 170, cells := 750, slots := 9750, locals := 6200 } (fun r g => (∃ φ1, x = nI φ1 ∧ φ1 ≤ 250 ∧ r = some (.int (nI (sr_run 16 φ1 (sr_D cb bg 20 0 X (vt_0 0))).1.length)) ∧ qf_A E ρ Z g tx n bd dc X q0 q1 N cb bg N1 cb1 bg1 ((sr_run 16 φ1 (sr_D cb bg 20 0 X (vt_0 0))).2.2) (nI (sr_run 16 φ1 (sr_D cb bg 20 0 X (vt_0 0))).2.1) ((sr_run 16 φ1 (sr_D cb bg 20 0 X (vt_0 0))).1)) ∧ gh_fr f g (qf_M ρ)) (fun cls g => cls = X_IA ∧ (0 ≤ x → ¬ x ≤ 250) ∧ g = f) := by
  refine gt_open (by decide) (Nat.le_of_ble_eq_true rfl) ?_
  intro p e s m args below meth c A ls hadm hno hAe C V hr hlocks hname hl
  have htr := hst e hadm
  have V0 := V
  have hx := C.1
  have hb := C.2.1
  have hl : lv_has ls 2 [(0, .ref (Z 6)), (1, .int x)] := hl
  obtain ⟨q6, qK, q8, q9, qG, qW, qU, qRK, qRG, qRS, qP, qD, qQ, qp⟩ := id hA
  have qz := qK.1
  obtain ⟨tv, t1, t2, u8⟩ := id q8
  obtain ⟨qv, qb0, cU⟩ := id qU
  obtain ⟨cQ0, cQ1, cQ2⟩ := id qQ
  have q6 : f (Z 6) = some (.inr (0, [.ref (Z 7), .int (nI n), .ref (Z 8), .ref (Z 10), .ref (Z 1), .ref dc, .ref (Z q0), .ref (Z q1)])) := q6
  have e6 : ρ (Z 6) = 6 := qz 6 (by unfold rU; omega)
  by_cases h0 : x < 0
  · refine lv_iload_n hx hb d_QM_run_0 rfl (lv_at hl 1 rfl) ?_
    refine lv_if_lt (tgt := 11) hx hb d_QM_run_1 (by decide) (fun c1 => ?_) (fun c1 => absurd h0 c1)
    exact gt_throw htr hAe V0 C V hl.1 hno hlocks (by decide +kernel) (gx_IA_w C) gx_IA_c gx_IA_n gx_IA_i d_QM_run_11 d_QM_run_14 d_QM_run_15 d_QM_run_18 (by first | decide | omega | (dsimp only; omega)) (by first | decide | omega | (dsimp only; omega)) (by first | decide | omega | (dsimp only; omega)) (by first | decide | omega | (dsimp only; omega)) (by first | decide | omega | (dsimp only; omega)) (by first | decide | omega | (dsimp only; omega)) ⟨rfl, fun z => absurd h0 (Int32.not_lt.mpr z), rfl⟩
  · by_cases h1 : x ≤ 250
    · obtain ⟨φ1, hφ1, hx1⟩ := fa_of (L := 251) (by decide) h0 (fa_251 h1)
      refine lv_iload_n hx hb d_QM_run_0 rfl (lv_at hl 1 rfl) ?_
      refine lv_if_lt (tgt := 11) hx hb d_QM_run_1 (by decide) (fun c2 => absurd c2 h0) (fun c2 => ?_)
      refine lv_iload_n hx hb d_QM_run_4 rfl (lv_at hl 1 rfl) ?_
      refine lv_sipush (v := 250) hx hb d_QM_run_5 (by decide) ?_
      refine lv_icmp_le (tgt := 19) hx hb d_QM_run_8 (by decide) (fun c3 => ?_) (fun c3 => absurd h1 c3)
      refine lv_aload_n hx hb d_QM_run_19 rfl (lv_at hl 0 rfl) ?_
      refine gh_get C V q6 gc_QM gi_QM 4 (by decide) f_QM_35 rfl rfl d_QM_run_20 ?_
      refine lv_aload_n hx hb d_QM_run_23 rfl (lv_at hl 0 rfl) ?_
      refine gh_get C V q6 gc_QM gi_QM 6 (by decide) f_QM_49 rfl rfl d_QM_run_24 ?_
      refine lv_aload_n hx hb d_QM_run_27 rfl (lv_at hl 0 rfl) ?_
      refine gh_get C V q6 gc_QM gi_QM 5 (by decide) f_QM_43 rfl rfl d_QM_run_28 ?_
      refine lv_iload_n hx hb d_QM_run_31 rfl (lv_at hl 1 rfl) ?_
      refine W.eq (g2 := F0 m 32 ls [.int (nI φ1), .ref dc, .ref (Z q0), .ref (Z 1)]) (by rw [hx1]) ?_
      refine gh_callV C V hl.1 m_Ru_start l_QM_99 (c_Ru_start l E _ _ ρ Z q0 N cb bg φ1 dc X qv qb0 φ (nI xs.length) en xs cU qRK qRG qRS qK.2.2.2.2.1 qP qD qp.1.qw (by omega)) rfl cU gc_Ru ⟨by first | decide | omega | (dsimp only; omega), by first | decide | omega | (dsimp only; omega)⟩ ⟨by first | decide | omega | (dsimp only; omega), by first | decide | omega | (dsimp only; omega)⟩ (Nat.le_of_ble_eq_true rfl) rfl d_QM_run_32 (fun r gr H locs hp9 V1 => ?_)
      obtain ⟨rfl, ⟨b1, hb1, hRR⟩, hPP, hfr⟩ := hp9
      have V := V1
      refine W.eq (g2 := F0 m 35 ls []) rfl ?_
      have hm : ∀ b, rn_MR ρ b → (1 ≤ ρ b ∧ ρ b ≤ 5) ∨ (130 ≤ ρ b ∧ ρ b < 166) ∨ (1000 ≤ ρ b ∧ ρ b < 1250) := fun _ z => z
      have u6 : gr (Z 6) = some (.inr (0, [.ref (Z 7), .int (nI n), .ref (Z 8), .ref (Z 10), .ref (Z 1), .ref dc, .ref (Z q0), .ref (Z q1)])) := hfr.at q6 (fun z => by have := hm _ z; omega)
      obtain ⟨cR, wK, wG, wS9, -⟩ := id hRR
      refine gt_of ?_
      refine lv_aload_n hx hb d_QM_run_35 rfl (lv_at hl 0 rfl) ?_
      refine gh_get C V u6 gc_QM gi_QM 4 (by decide) f_QM_35 rfl rfl d_QM_run_36 ?_
      refine gh_get C V cR gc_Ru gi_Ru 7 (by decide) f_QM_103 rfl rfl d_QM_run_39 ?_
      refine gh_reti hAe C V hr hlocks d_QM_run_42 (by first | decide | omega | (dsimp only; omega)) (by first | decide | omega | (dsimp only; omega)) ?_
      exact ⟨⟨φ1, hx1, by omega, rfl, ⟨u6, qK.keep hfr (fun b hb => by have := hm b hb; omega), q8.keep qz hfr (fun b hb => by have := hm b hb; omega), q9.keep qz hfr (fun b hb => by have := hm b hb; omega), qG.keep qz hfr (fun b hb => by have := hm b hb; omega), qW.keep qz hfr (fun b hb => by have := hm b hb; omega), ⟨_, _, cR⟩, wK, wG, wS9, hPP, qD.keep hfr (fun b hb z => by have z : ρ b = 0 := z; have := hm b hb; omega), qQ.keep qp.q1 qz hfr (fun b hb => by have := hm b hb; have := qp.q1; omega), qp⟩⟩, hfr.wide (fun b hb => by have := hm b hb; unfold qf_M; omega)⟩
    · refine lv_iload_n hx hb d_QM_run_0 rfl (lv_at hl 1 rfl) ?_
      refine lv_if_lt (tgt := 11) hx hb d_QM_run_1 (by decide) (fun c4 => absurd c4 h0) (fun c4 => ?_)
      refine lv_iload_n hx hb d_QM_run_4 rfl (lv_at hl 1 rfl) ?_
      refine lv_sipush (v := 250) hx hb d_QM_run_5 (by decide) ?_
      refine lv_icmp_le (tgt := 19) hx hb d_QM_run_8 (by decide) (fun c5 => absurd c5 h1) (fun c5 => ?_)
      exact gt_throw htr hAe V0 C V hl.1 hno hlocks (by decide +kernel) (gx_IA_w C) gx_IA_c gx_IA_n gx_IA_i d_QM_run_11 d_QM_run_14 d_QM_run_15 d_QM_run_18 (by first | decide | omega | (dsimp only; omega)) (by first | decide | omega | (dsimp only; omega)) (by first | decide | omega | (dsimp only; omega)) (by first | decide | omega | (dsimp only; omega)) (by first | decide | omega | (dsimp only; omega)) (by first | decide | omega | (dsimp only; omega)) ⟨rfl, fun _ => h1, rfl⟩
