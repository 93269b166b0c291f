/-! The law: the cases with an answer. Printed by wip/whole/gen_law3.py. -/
set_option maxHeartbeats 4000000 in
set_option maxRecDepth 100000 in
theorem lw_case5 {p : Program} {l : Launch} {e : Env} {s : State} {m : MethodId} {args : Array Value} {below : List Frame} {meth : Method} {c : Code} {H : Heap} {locs : List Loc} {cells slots : Nat} {Q : State → Prop} {ls : Array Slot} {E : gh_E} {A : Nat → Prop} {f : gh_F} {ρ Z : Nat → Nat} {mo : Nat} {ad : Nat → Nat} {sb L i9 : Nat} {sc : Nat → Int32} (hst : ∀ e : Env, l.admits e → e.platform.stackTraces = false) (C : gh_C E A p s m args c code R_La 8) (V : gh_V E A f s H locs) (hX : va_X sb L sc s s.heap ∧ sb < s.heap.size ∧ ¬ A sb ∧ L ≤ 2048) (hI : lw_I E ρ Z mo ad f) (hi : i9 + 4 ≤ L) (hl : lv_has ls 8 [(4, .int (nI i9)), (0, .ref sb), (1, .ref (Z 6)), (2, .ref mo), (3, .ref (Z 18))]) (hc : cells + 800 ≤ 601024) (hs : slots + 9800 ≤ 7293034) (k : ∀ (f9 : gh_F) (H9 : Heap) (locs9 : List Loc) (ls9 : Array Slot), gh_V E A f9 s H9 locs9 → lw_I E ρ Z mo ad f9 → lv_has ls9 8 [(4, .int (nI i9)), (0, .ref sb), (1, .ref (Z 6)), (2, .ref mo), (3, .ref (Z 18))] → W p l e { frames := 2048, cells := 601024, slots := 7293034, locals := 84000 } s m args below meth c H9 locs9 (cells + 800) (slots + 9800) Q (F0 m 635 ls9 [])) : W p l e { frames := 2048, cells := 601024, slots := 7293034, locals := 84000 } s m args below meth c H locs cells slots Q (F0 m 325 ls []) := by
  have hx := C.1
  have hb := C.2.1
  obtain ⟨hρ, ⟨ho9, hoc⟩, tx, n, bd, dc, X, q0, q1, N, cb, bg, N1, cb1, bg1, φ, en, xs, S, I, J, hA, hR, hM⟩ := hI
  have hMo := lw_M hρ
  have qz : rZ ρ Z := hA.2.1.1
  have e18 : ρ (Z 18) = 18 := qz 18 (by unfold rU; omega)
  have q6 : f (Z 6) = some (.inr (0, [.ref (Z 7), .int (nI n), .ref (Z 8), .ref (Z 10), .ref (Z 1), .ref dc, .ref (Z q0), .ref (Z q1)])) := hA.1
  have h2048 := hX.2.2.2
  refine lv_aload_n hx hb d_La_law_325 rfl (lv_at hl 2 rfl) ?_
  refine lv_aload_n hx hb d_La_law_326 rfl (lv_at hl 1 rfl) ?_
  refine lv_iload hx hb d_La_law_327 (lv_at hl 0 rfl) ?_
  refine lv_iconst (v := 1) hx hb d_La_law_329 (by decide) ?_
  refine gn_iadd (a := i9) (b := 1) hx hb d_La_law_330 ?_
  refine lw_ld C V hX (j := i9 + 1) (by omega) d_La_law_331 ?_
  refine lv_aload_n hx hb d_La_law_332 rfl (lv_at hl 4 rfl) ?_
  refine gc_callS C V hl.1 m_La_run l_La_79 (c_La_run l E _ _ (Z 6) (Z 18) (sc (i9 + 1)) _ q6 _ _ (fun sz => c_QM_run l hst E sz f ρ Z tx n bd dc X q0 q1 N cb bg N1 cb1 bg1 φ en xs (sc (i9 + 1)) hA) (fun cls g h => h.1) (fun r g h => by obtain ⟨⟨φ1, h1, h2, h3, h4⟩, h5⟩ := h; exact ⟨⟨_, h3⟩, _, h5.at hoc (lw_n18 _ e18)⟩)) rfl ⟨by first | decide | omega | (dsimp only; omega), by first | decide | omega | (dsimp only; omega)⟩ ⟨by first | decide | omega | (dsimp only; omega), by first | decide | omega | (dsimp only; omega)⟩ (Nat.le_of_ble_eq_true rfl) rfl d_La_law_333 (fun r g9 H locs hp9 V1 => ?_)
  have V := V1
  rcases hp9 with ⟨rfl, v9, g0, h9, hpo, ho0, hgu⟩ | ⟨rfl, -, hq9, he9⟩
  · obtain ⟨⟨φ1, hx9, h250, hv9, hA9⟩, hfr9⟩ := hpo
    have hqn := hA.2.2.2.2.2.2.2.2.2.2.2.2.2.1
    have hN60 : N ≤ 60 := hA.2.2.2.2.2.2.2.1.2.2.2.2.2.2.2.2.1
    injection hv9 with hv9
    injection hv9 with hv9
    rw [hv9] at hgu
    have fr18 : gh_fr g0 g9 (fun b => ρ b = 18) := by rw [hgu]; exact gh_fr.rf.put (Or.inl e18)
    have hR := hR.keep hfr9 (fun b hb => lw_nq b (hMo b hb))
    have hR := hR.keep fr18 (fun b hb z => by have z : ρ b = 18 := z; have := hMo b hb; omega)
    have hA := (hA9).keep fr18 (fun b hb => Or.inl (by have hb : ρ b = 18 := hb; omega))
    have hoc : g9 (Z 18) = some (.inl (E.2.2.1 1, 1, .inr (.inl (vp_updL h9 0 ((nI (sr_run 16 φ1 (sr_D cb bg 20 0 X (vt_0 0))).1.length).toInt64))))) := by rw [hgu]; exact gh_us
    refine W.eq (g2 := F0 m 336 ls [.int 0]) rfl ?_
    refine lv_istore hx hb d_La_law_336 hl (by decide) rfl (fun ls hl => ?_)
    have hl : lv_has ls 8 [(5, .int 0), (4, .int (nI i9)), (0, .ref sb), (1, .ref (Z 6)), (2, .ref mo), (3, .ref (Z 18))] := hl
    refine lv_aload_n hx hb d_La_law_338 rfl (lv_at hl 4 rfl) ?_
    refine lv_aload_n hx hb d_La_law_339 rfl (lv_at hl 2 rfl) ?_
    refine lv_iload hx hb d_La_law_340 (lv_at hl 1 rfl) ?_
    refine lv_iconst (v := 1) hx hb d_La_law_342 (by decide) ?_
    refine gn_iadd (a := i9) (b := 1) hx hb d_La_law_343 ?_
    refine lw_ld C V hX (j := i9 + 1) (by omega) d_La_law_344 ?_
    obtain ⟨nvd, npd, u9, hnv9, hnp9, hu9, hmw9, hc0⟩ := id hM.2.2.2.2.2
    obtain ⟨cbm, bgm, h33, h34, hqm, hcc9, hqa9⟩ := id hM.2.2.2.1
    refine W.eq (g2 := F0 m 345 ls [.int (nI φ1), .ref mo]) (by rw [hx9]) ?_
    refine gh_callV C V hl.1 m_Mo_run l_La_82 (c_Mo_run l E _ _ mo ad S I J φ1 u9 nvd npd N cbm bgm X hR h250 hu9 hmw9 hc0 hnv9 hnp9 hN60 hqm h33 h34) rfl hR.1 gc_Mo ⟨by first | decide | omega | (dsimp only; omega), by first | decide | omega | (dsimp only; omega)⟩ ⟨by first | decide | omega | (dsimp only; omega), by first | decide | omega | (dsimp only; omega)⟩ (Nat.le_of_ble_eq_true rfl) rfl d_La_law_345 (fun r gm H locs hp9 V1 => ?_)
    have V := V1
    rw [li_same hqn hcc9 hqa9] at hp9
    obtain ⟨rfl, S2, I2, J2, hXm, hmr9⟩ := hp9
    refine W.eq (g2 := F0 m 348 ls [.int (nI (sr_run 16 φ1 (sr_D cb bg 20 0 X (vt_0 0))).1.length)]) rfl ?_
    have hA := hA.keep (hXm.2) (fun b hb => Or.inr (by have := hMo b hb; omega))
    have hoc := (hXm.2).at hoc (fun z => by have := hMo _ z; omega)
    have hR := hXm.1
    have hM := li_run hM hmr9
    have h00 : S2 0 = 0 := hmr9.2.2.2.2.2.1
    refine lv_istore hx hb d_La_law_348 hl (by decide) rfl (fun ls hl => ?_)
    have hl : lv_has ls 8 [(6, .int (nI (sr_run 16 φ1 (sr_D cb bg 20 0 X (vt_0 0))).1.length)), (5, .int 0), (4, .int (nI i9)), (0, .ref sb), (1, .ref (Z 6)), (2, .ref mo), (3, .ref (Z 18))] := hl
    refine lv_aload_n hx hb d_La_law_350 rfl (lv_at hl 5 rfl) ?_
    refine gh_callV C V hl.1 m_Mo_thrown l_La_61 (c_Mo_thrown l E _ _ mo ad _ _ _ hR) rfl hR.1 gc_Mo ⟨by first | decide | omega | (dsimp only; omega), by first | decide | omega | (dsimp only; omega)⟩ ⟨by first | decide | omega | (dsimp only; omega), by first | decide | omega | (dsimp only; omega)⟩ (Nat.le_of_ble_eq_true rfl) rfl d_La_law_351 (fun r g8 H locs hp9 V1 => ?_)
    obtain ⟨rfl, he9⟩ := hp9
    rw [he9] at V1
    have V := V1
    rw [h00]
    refine W.eq (g2 := F0 m 354 ls [.int 0]) rfl ?_
    refine lv_iload hx hb d_La_law_354 (lv_at hl 1 rfl) ?_
    refine lv_icmp_eq (tgt := 361) hx hb d_La_law_356 (by decide) (fun c1 => ?_) (fun c1 => absurd rfl c1)
    refine lv_iload hx hb d_La_law_361 (lv_at hl 1 rfl) ?_
    refine lv_if_ne (tgt := 378) hx hb d_La_law_363 (by decide) (fun c2 => absurd (by decide) c2) (fun c2 => ?_)
    refine lv_aload_n hx hb d_La_law_366 rfl (lv_at hl 6 rfl) ?_
    refine lv_iconst (v := 0) hx hb d_La_law_367 (by decide) ?_
    refine W.eq (g2 := F0 m 368 ls [.int (nI 0), .ref (Z 18)]) rfl ?_
    refine gn_lald (i := 0) C V hoc (by decide) (by decide) d_La_law_368 ?_
    refine W.eq (g2 := F0 m 369 ls [.long ((nI (sr_run 16 φ1 (sr_D cb bg 20 0 X (vt_0 0))).1.length).toInt64)]) rfl ?_
    refine lv_iload hx hb d_La_law_369 (lv_at hl 0 rfl) ?_
    refine lv_i2l hx hb d_La_law_371 rfl ?_
    refine W.lcmp hx hb d_La_law_372 ?_
    refine lv_if_eq (tgt := 378) hx hb d_La_law_373 (by decide) (fun c3 => ?_) (fun c3 => absurd (lg_eq.mpr rfl) c3)
    refine lv_goto (tgt := 635) hx hb d_La_law_378 (by decide) ?_
    have hl : lv_has ls 8 [(4, .int (nI i9)), (0, .ref sb), (1, .ref (Z 6)), (2, .ref mo), (3, .ref (Z 18))] := lv_sub hl [2, 3, 4, 5, 6] rfl
    exact gw_le (by first | omega | (dsimp only; omega)) (by first | omega | (dsimp only; omega)) (k _ _ _ _ V ⟨hρ, ⟨_, hoc⟩, _, _, _, _, _, _, _, _, _, _, _, _, _, _, _, _, _, _, _, hA, hR, hM⟩ hl)
  · rw [he9] at V
    refine W.eq (g2 := F0 m 336 ls [.int 1]) rfl ?_
    refine lv_istore hx hb d_La_law_336 hl (by decide) rfl (fun ls hl => ?_)
    have hl : lv_has ls 8 [(5, .int 1), (4, .int (nI i9)), (0, .ref sb), (1, .ref (Z 6)), (2, .ref mo), (3, .ref (Z 18))] := hl
    refine lv_aload_n hx hb d_La_law_338 rfl (lv_at hl 4 rfl) ?_
    refine lv_aload_n hx hb d_La_law_339 rfl (lv_at hl 2 rfl) ?_
    refine lv_iload hx hb d_La_law_340 (lv_at hl 1 rfl) ?_
    refine lv_iconst (v := 1) hx hb d_La_law_342 (by decide) ?_
    refine gn_iadd (a := i9) (b := 1) hx hb d_La_law_343 ?_
    refine lw_ld C V hX (j := i9 + 1) (by omega) d_La_law_344 ?_
    refine gh_callV C V hl.1 m_Mo_run l_La_82 (c_Mo_run0 l E _ _ mo ad S I J _ hR hq9) rfl hR.1 gc_Mo ⟨by first | decide | omega | (dsimp only; omega), by first | decide | omega | (dsimp only; omega)⟩ ⟨by first | decide | omega | (dsimp only; omega), by first | decide | omega | (dsimp only; omega)⟩ (Nat.le_of_ble_eq_true rfl) rfl d_La_law_345 (fun r gm H locs hp9 V1 => ?_)
    obtain ⟨rfl, hXm⟩ := hp9
    have V := V1
    refine W.eq (g2 := F0 m 348 ls [.int 0]) rfl ?_
    have hA := hA.keep (hXm.2) (fun b hb => Or.inr (by have := hMo b hb; omega))
    have hoc := (hXm.2).at hoc (fun z => by have := hMo _ z; omega)
    have hR := hXm.1
    have hM := hM.s0 (v := 1)
    refine lv_istore hx hb d_La_law_348 hl (by decide) rfl (fun ls hl => ?_)
    have hl : lv_has ls 8 [(6, .int 0), (5, .int 1), (4, .int (nI i9)), (0, .ref sb), (1, .ref (Z 6)), (2, .ref mo), (3, .ref (Z 18))] := hl
    refine lv_aload_n hx hb d_La_law_350 rfl (lv_at hl 5 rfl) ?_
    refine gh_callV C V hl.1 m_Mo_thrown l_La_61 (c_Mo_thrown l E _ _ mo ad _ _ _ hR) rfl hR.1 gc_Mo ⟨by first | decide | omega | (dsimp only; omega), by first | decide | omega | (dsimp only; omega)⟩ ⟨by first | decide | omega | (dsimp only; omega), by first | decide | omega | (dsimp only; omega)⟩ (Nat.le_of_ble_eq_true rfl) rfl d_La_law_351 (fun r g8 H locs hp9 V1 => ?_)
    obtain ⟨rfl, he9⟩ := hp9
    rw [he9] at V1
    have V := V1
    rw [va_up_s]
    refine W.eq (g2 := F0 m 354 ls [.int 1]) rfl ?_
    refine lv_iload hx hb d_La_law_354 (lv_at hl 1 rfl) ?_
    refine lv_icmp_eq (tgt := 361) hx hb d_La_law_356 (by decide) (fun c4 => ?_) (fun c4 => absurd rfl c4)
    refine lv_iload hx hb d_La_law_361 (lv_at hl 1 rfl) ?_
    refine lv_if_ne (tgt := 378) hx hb d_La_law_363 (by decide) (fun c5 => ?_) (fun c5 => absurd c5 (by decide))
    refine lv_goto (tgt := 635) hx hb d_La_law_378 (by decide) ?_
    have hl : lv_has ls 8 [(4, .int (nI i9)), (0, .ref sb), (1, .ref (Z 6)), (2, .ref mo), (3, .ref (Z 18))] := lv_sub hl [2, 3, 4, 5, 6] rfl
    exact gw_le (by first | omega | (dsimp only; omega)) (by first | omega | (dsimp only; omega)) (k _ _ _ _ V ⟨hρ, ⟨_, hoc⟩, _, _, _, _, _, _, _, _, _, _, _, _, _, _, _, _, _, _, _, hA, hR, hM⟩ hl)
set_option maxHeartbeats 4000000 in
set_option maxRecDepth 100000 in
theorem lw_case9 {p : Program} {l : Launch} {e : Env} {s : State} {m : MethodId} {args : Array Value} {below : List Frame} {meth : Method} {c : Code} {H : Heap} {locs : List Loc} {cells slots : Nat} {Q : State → Prop} {ls : Array Slot} {E : gh_E} {A : Nat → Prop} {f : gh_F} {ρ Z : Nat → Nat} {mo : Nat} {ad : Nat → Nat} {sb L i9 : Nat} {sc : Nat → Int32} (hst : ∀ e : Env, l.admits e → e.platform.stackTraces = false) (C : gh_C E A p s m args c code R_La 8) (V : gh_V E A f s H locs) (hX : va_X sb L sc s s.heap ∧ sb < s.heap.size ∧ ¬ A sb ∧ L ≤ 2048) (hI : lw_I E ρ Z mo ad f) (hi : i9 + 4 ≤ L) (hl : lv_has ls 8 [(4, .int (nI i9)), (0, .ref sb), (1, .ref (Z 6)), (2, .ref mo), (3, .ref (Z 18))]) (hc : cells + 800 ≤ 601024) (hs : slots + 9800 ≤ 7293034) (k : ∀ (f9 : gh_F) (H9 : Heap) (locs9 : List Loc) (ls9 : Array Slot), gh_V E A f9 s H9 locs9 → lw_I E ρ Z mo ad f9 → lv_has ls9 8 [(4, .int (nI i9)), (0, .ref sb), (1, .ref (Z 6)), (2, .ref mo), (3, .ref (Z 18))] → W p l e { frames := 2048, cells := 601024, slots := 7293034, locals := 84000 } s m args below meth c H9 locs9 (cells + 800) (slots + 9800) Q (F0 m 635 ls9 [])) : W p l e { frames := 2048, cells := 601024, slots := 7293034, locals := 84000 } s m args below meth c H locs cells slots Q (F0 m 420 ls []) := by
  have hx := C.1
  have hb := C.2.1
  obtain ⟨hρ, ⟨ho9, hoc⟩, tx, n, bd, dc, X, q0, q1, N, cb, bg, N1, cb1, bg1, φ, en, xs, S, I, J, hA, hR, hM⟩ := hI
  have hMo := lw_M hρ
  have qz : rZ ρ Z := hA.2.1.1
  have e18 : ρ (Z 18) = 18 := qz 18 (by unfold rU; omega)
  have q6 : f (Z 6) = some (.inr (0, [.ref (Z 7), .int (nI n), .ref (Z 8), .ref (Z 10), .ref (Z 1), .ref dc, .ref (Z q0), .ref (Z q1)])) := hA.1
  have h2048 := hX.2.2.2
  refine lv_aload_n hx hb d_La_law_420 rfl (lv_at hl 2 rfl) ?_
  refine lv_aload_n hx hb d_La_law_421 rfl (lv_at hl 1 rfl) ?_
  refine lv_iload hx hb d_La_law_422 (lv_at hl 0 rfl) ?_
  refine lv_iconst (v := 1) hx hb d_La_law_424 (by decide) ?_
  refine gn_iadd (a := i9) (b := 1) hx hb d_La_law_425 ?_
  refine lw_ld C V hX (j := i9 + 1) (by omega) d_La_law_426 ?_
  refine lv_aload_n hx hb d_La_law_427 rfl (lv_at hl 4 rfl) ?_
  refine gc_callS C V hl.1 m_La_kind l_La_95 (c_La_kind l E _ _ (Z 6) (Z 18) (sc (i9 + 1)) _ q6 _ _ (fun sz => c_QM_kind l hst E sz f ρ Z tx n bd dc X q0 q1 N cb bg N1 cb1 bg1 φ en xs (sc (i9 + 1)) hA) (fun cls g h => h.1) (fun r g h => by obtain ⟨⟨Y, h1, h2, h3⟩, h4⟩ := h; exact ⟨⟨_, h3⟩, _, by rw [h4]; exact hoc⟩)) rfl ⟨by first | decide | omega | (dsimp only; omega), by first | decide | omega | (dsimp only; omega)⟩ ⟨by first | decide | omega | (dsimp only; omega), by first | decide | omega | (dsimp only; omega)⟩ (Nat.le_of_ble_eq_true rfl) rfl d_La_law_428 (fun r g9 H locs hp9 V1 => ?_)
  have V := V1
  rcases hp9 with ⟨rfl, v9, g0, h9, hpo, ho0, hgu⟩ | ⟨rfl, -, hk9, hq9, he9⟩
  · obtain ⟨⟨Y9, hY9, hvo9, hv9⟩, he0⟩ := hpo
    injection hv9 with hv9
    injection hv9 with hv9
    rw [hv9] at hgu
    have fr18 : gh_fr g0 g9 (fun b => ρ b = 18) := by rw [hgu]; exact gh_fr.rf.put (Or.inl e18)
    have hR : mo_R E g0 mo ad S I J := by rw [he0]; exact hR
    have hR := hR.keep fr18 (fun b hb z => by have z : ρ b = 18 := z; have := hMo b hb; omega)
    have hA := (show qf_A E ρ Z g0 tx n bd dc X q0 q1 N cb bg N1 cb1 bg1 φ en xs by rw [he0]; exact hA).keep fr18 (fun b hb => Or.inl (by have hb : ρ b = 18 := hb; omega))
    have hoc : g9 (Z 18) = some (.inl (E.2.2.1 1, 1, .inr (.inl (vp_updL h9 0 ((nI (vt_k Y9)).toInt64))))) := by rw [hgu]; exact gh_us
    refine W.eq (g2 := F0 m 431 ls [.int 0]) rfl ?_
    refine lv_istore hx hb d_La_law_431 hl (by decide) rfl (fun ls hl => ?_)
    have hl : lv_has ls 8 [(5, .int 0), (4, .int (nI i9)), (0, .ref sb), (1, .ref (Z 6)), (2, .ref mo), (3, .ref (Z 18))] := hl
    refine lv_aload_n hx hb d_La_law_433 rfl (lv_at hl 4 rfl) ?_
    refine lv_aload_n hx hb d_La_law_434 rfl (lv_at hl 2 rfl) ?_
    refine lv_iload hx hb d_La_law_435 (lv_at hl 1 rfl) ?_
    refine lv_iconst (v := 1) hx hb d_La_law_437 (by decide) ?_
    refine gn_iadd (a := i9) (b := 1) hx hb d_La_law_438 ?_
    refine lw_ld C V hX (j := i9 + 1) (by omega) d_La_law_439 ?_
    obtain ⟨vv9, b9, nv9, pb9, np9, hval, hmw9, hnp9⟩ := li_val hM hY9
    refine gh_callV C V hl.1 m_Mo_kind l_La_97 (c_Mo_kind1 l E _ _ mo ad S I J _ vv9 (vt_k Y9) hR (li_no1 hM.2.2.2.2.1.1.2.2.2 hM.2.2.2.2.1.1.2.2.1 hY9) hval hmw9.lt (mv_o.mp hmw9.1).2.1) rfl hR.1 gc_Mo ⟨by first | decide | omega | (dsimp only; omega), by first | decide | omega | (dsimp only; omega)⟩ ⟨by first | decide | omega | (dsimp only; omega), by first | decide | omega | (dsimp only; omega)⟩ (Nat.le_of_ble_eq_true rfl) rfl d_La_law_440 (fun r gm H locs hp9 V1 => ?_)
    obtain ⟨rfl, hXm⟩ := hp9
    have V := V1
    refine W.eq (g2 := F0 m 443 ls [.int (nI (vt_k Y9))]) rfl ?_
    have hA := hA.keep (hXm.2) (fun b hb => Or.inr (by have := hMo b hb; omega))
    have hoc := (hXm.2).at hoc (fun z => by have := hMo _ z; omega)
    have hR := hXm.1
    have hM := hM.s0 (v := 0)
    refine lv_istore hx hb d_La_law_443 hl (by decide) rfl (fun ls hl => ?_)
    have hl : lv_has ls 8 [(6, .int (nI (vt_k Y9))), (5, .int 0), (4, .int (nI i9)), (0, .ref sb), (1, .ref (Z 6)), (2, .ref mo), (3, .ref (Z 18))] := hl
    refine lv_aload_n hx hb d_La_law_445 rfl (lv_at hl 5 rfl) ?_
    refine gh_callV C V hl.1 m_Mo_thrown l_La_61 (c_Mo_thrown l E _ _ mo ad _ _ _ hR) rfl hR.1 gc_Mo ⟨by first | decide | omega | (dsimp only; omega), by first | decide | omega | (dsimp only; omega)⟩ ⟨by first | decide | omega | (dsimp only; omega), by first | decide | omega | (dsimp only; omega)⟩ (Nat.le_of_ble_eq_true rfl) rfl d_La_law_446 (fun r g8 H locs hp9 V1 => ?_)
    obtain ⟨rfl, he9⟩ := hp9
    rw [he9] at V1
    have V := V1
    rw [va_up_s]
    refine W.eq (g2 := F0 m 449 ls [.int 0]) rfl ?_
    refine lv_iload hx hb d_La_law_449 (lv_at hl 1 rfl) ?_
    refine lv_icmp_eq (tgt := 456) hx hb d_La_law_451 (by decide) (fun c1 => ?_) (fun c1 => absurd rfl c1)
    refine lv_iload hx hb d_La_law_456 (lv_at hl 1 rfl) ?_
    refine lv_if_ne (tgt := 473) hx hb d_La_law_458 (by decide) (fun c2 => absurd (by decide) c2) (fun c2 => ?_)
    refine lv_aload_n hx hb d_La_law_461 rfl (lv_at hl 6 rfl) ?_
    refine lv_iconst (v := 0) hx hb d_La_law_462 (by decide) ?_
    refine W.eq (g2 := F0 m 463 ls [.int (nI 0), .ref (Z 18)]) rfl ?_
    refine gn_lald (i := 0) C V hoc (by decide) (by decide) d_La_law_463 ?_
    refine W.eq (g2 := F0 m 464 ls [.long ((nI (vt_k Y9)).toInt64)]) rfl ?_
    refine lv_iload hx hb d_La_law_464 (lv_at hl 0 rfl) ?_
    refine lv_i2l hx hb d_La_law_466 rfl ?_
    refine W.lcmp hx hb d_La_law_467 ?_
    refine lv_if_eq (tgt := 473) hx hb d_La_law_468 (by decide) (fun c3 => ?_) (fun c3 => absurd (lg_eq.mpr rfl) c3)
    refine lv_goto (tgt := 635) hx hb d_La_law_473 (by decide) ?_
    have hl : lv_has ls 8 [(4, .int (nI i9)), (0, .ref sb), (1, .ref (Z 6)), (2, .ref mo), (3, .ref (Z 18))] := lv_sub hl [2, 3, 4, 5, 6] rfl
    exact gw_le (by first | omega | (dsimp only; omega)) (by first | omega | (dsimp only; omega)) (k _ _ _ _ V ⟨hρ, ⟨_, hoc⟩, _, _, _, _, _, _, _, _, _, _, _, _, _, _, _, _, _, _, _, hA, hR, hM⟩ hl)
  · rw [he9] at V
    refine W.eq (g2 := F0 m 431 ls [.int 1]) rfl ?_
    refine lv_istore hx hb d_La_law_431 hl (by decide) rfl (fun ls hl => ?_)
    have hl : lv_has ls 8 [(5, .int 1), (4, .int (nI i9)), (0, .ref sb), (1, .ref (Z 6)), (2, .ref mo), (3, .ref (Z 18))] := hl
    refine lv_aload_n hx hb d_La_law_433 rfl (lv_at hl 4 rfl) ?_
    refine lv_aload_n hx hb d_La_law_434 rfl (lv_at hl 2 rfl) ?_
    refine lv_iload hx hb d_La_law_435 (lv_at hl 1 rfl) ?_
    refine lv_iconst (v := 1) hx hb d_La_law_437 (by decide) ?_
    refine gn_iadd (a := i9) (b := 1) hx hb d_La_law_438 ?_
    refine lw_ld C V hX (j := i9 + 1) (by omega) d_La_law_439 ?_
    refine gh_callV C V hl.1 m_Mo_kind l_La_97 (c_Mo_kind0 l E _ _ mo ad S I J _ hR (li_no0 hM.2.2.2.2.1.1.2.2.1 hk9 hq9)) rfl hR.1 gc_Mo ⟨by first | decide | omega | (dsimp only; omega), by first | decide | omega | (dsimp only; omega)⟩ ⟨by first | decide | omega | (dsimp only; omega), by first | decide | omega | (dsimp only; omega)⟩ (Nat.le_of_ble_eq_true rfl) rfl d_La_law_440 (fun r gm H locs hp9 V1 => ?_)
    obtain ⟨rfl, hXm⟩ := hp9
    have V := V1
    refine W.eq (g2 := F0 m 443 ls [.int 0]) rfl ?_
    have hA := hA.keep (hXm.2) (fun b hb => Or.inr (by have := hMo b hb; omega))
    have hoc := (hXm.2).at hoc (fun z => by have := hMo _ z; omega)
    have hR := hXm.1
    have hM := hM.s0 (v := 1)
    refine lv_istore hx hb d_La_law_443 hl (by decide) rfl (fun ls hl => ?_)
    have hl : lv_has ls 8 [(6, .int 0), (5, .int 1), (4, .int (nI i9)), (0, .ref sb), (1, .ref (Z 6)), (2, .ref mo), (3, .ref (Z 18))] := hl
    refine lv_aload_n hx hb d_La_law_445 rfl (lv_at hl 5 rfl) ?_
    refine gh_callV C V hl.1 m_Mo_thrown l_La_61 (c_Mo_thrown l E _ _ mo ad _ _ _ hR) rfl hR.1 gc_Mo ⟨by first | decide | omega | (dsimp only; omega), by first | decide | omega | (dsimp only; omega)⟩ ⟨by first | decide | omega | (dsimp only; omega), by first | decide | omega | (dsimp only; omega)⟩ (Nat.le_of_ble_eq_true rfl) rfl d_La_law_446 (fun r g8 H locs hp9 V1 => ?_)
    obtain ⟨rfl, he9⟩ := hp9
    rw [he9] at V1
    have V := V1
    rw [va_up_s]
    refine W.eq (g2 := F0 m 449 ls [.int 1]) rfl ?_
    refine lv_iload hx hb d_La_law_449 (lv_at hl 1 rfl) ?_
    refine lv_icmp_eq (tgt := 456) hx hb d_La_law_451 (by decide) (fun c4 => ?_) (fun c4 => absurd rfl c4)
    refine lv_iload hx hb d_La_law_456 (lv_at hl 1 rfl) ?_
    refine lv_if_ne (tgt := 473) hx hb d_La_law_458 (by decide) (fun c5 => ?_) (fun c5 => absurd c5 (by decide))
    refine lv_goto (tgt := 635) hx hb d_La_law_473 (by decide) ?_
    have hl : lv_has ls 8 [(4, .int (nI i9)), (0, .ref sb), (1, .ref (Z 6)), (2, .ref mo), (3, .ref (Z 18))] := lv_sub hl [2, 3, 4, 5, 6] rfl
    exact gw_le (by first | omega | (dsimp only; omega)) (by first | omega | (dsimp only; omega)) (k _ _ _ _ V ⟨hρ, ⟨_, hoc⟩, _, _, _, _, _, _, _, _, _, _, _, _, _, _, _, _, _, _, _, hA, hR, hM⟩ hl)
set_option maxHeartbeats 4000000 in
set_option maxRecDepth 100000 in
theorem lw_case11 {p : Program} {l : Launch} {e : Env} {s : State} {m : MethodId} {args : Array Value} {below : List Frame} {meth : Method} {c : Code} {H : Heap} {locs : List Loc} {cells slots : Nat} {Q : State → Prop} {ls : Array Slot} {E : gh_E} {A : Nat → Prop} {f : gh_F} {ρ Z : Nat → Nat} {mo : Nat} {ad : Nat → Nat} {sb L i9 : Nat} {sc : Nat → Int32} (hst : ∀ e : Env, l.admits e → e.platform.stackTraces = false) (C : gh_C E A p s m args c code R_La 8) (V : gh_V E A f s H locs) (hX : va_X sb L sc s s.heap ∧ sb < s.heap.size ∧ ¬ A sb ∧ L ≤ 2048) (hI : lw_I E ρ Z mo ad f) (hi : i9 + 4 ≤ L) (hl : lv_has ls 8 [(4, .int (nI i9)), (0, .ref sb), (1, .ref (Z 6)), (2, .ref mo), (3, .ref (Z 18))]) (hc : cells + 800 ≤ 601024) (hs : slots + 9800 ≤ 7293034) (k : ∀ (f9 : gh_F) (H9 : Heap) (locs9 : List Loc) (ls9 : Array Slot), gh_V E A f9 s H9 locs9 → lw_I E ρ Z mo ad f9 → lv_has ls9 8 [(4, .int (nI i9)), (0, .ref sb), (1, .ref (Z 6)), (2, .ref mo), (3, .ref (Z 18))] → W p l e { frames := 2048, cells := 601024, slots := 7293034, locals := 84000 } s m args below meth c H9 locs9 (cells + 800) (slots + 9800) Q (F0 m 635 ls9 [])) : W p l e { frames := 2048, cells := 601024, slots := 7293034, locals := 84000 } s m args below meth c H locs cells slots Q (F0 m 544 ls []) := by
  have hx := C.1
  have hb := C.2.1
  obtain ⟨hρ, ⟨ho9, hoc⟩, tx, n, bd, dc, X, q0, q1, N, cb, bg, N1, cb1, bg1, φ, en, xs, S, I, J, hA, hR, hM⟩ := hI
  have hMo := lw_M hρ
  have qz : rZ ρ Z := hA.2.1.1
  have e18 : ρ (Z 18) = 18 := qz 18 (by unfold rU; omega)
  have q6 : f (Z 6) = some (.inr (0, [.ref (Z 7), .int (nI n), .ref (Z 8), .ref (Z 10), .ref (Z 1), .ref dc, .ref (Z q0), .ref (Z q1)])) := hA.1
  have h2048 := hX.2.2.2
  refine lv_aload_n hx hb d_La_law_544 rfl (lv_at hl 2 rfl) ?_
  refine lv_aload_n hx hb d_La_law_545 rfl (lv_at hl 1 rfl) ?_
  refine lv_iload hx hb d_La_law_546 (lv_at hl 0 rfl) ?_
  refine lv_iconst (v := 1) hx hb d_La_law_548 (by decide) ?_
  refine gn_iadd (a := i9) (b := 1) hx hb d_La_law_549 ?_
  refine lw_ld C V hX (j := i9 + 1) (by omega) d_La_law_550 ?_
  refine lv_aload_n hx hb d_La_law_551 rfl (lv_at hl 4 rfl) ?_
  refine gc_callS C V hl.1 m_La_integer l_La_102 (c_La_integer l E _ _ (Z 6) (Z 18) (sc (i9 + 1)) _ q6 _ _ (fun sz => c_QM_integer l hst E sz f ρ Z tx n bd dc X q0 q1 N cb bg N1 cb1 bg1 φ en xs (sc (i9 + 1)) hA) (fun cls g h => by rcases h with h | h; exact Or.inl h.1; exact Or.inr h.1) (fun r g h => by obtain ⟨⟨Y, h1, h2, h3⟩, h4⟩ := h; exact ⟨⟨_, h3⟩, _, by rw [h4]; exact hoc⟩)) rfl ⟨by first | decide | omega | (dsimp only; omega), by first | decide | omega | (dsimp only; omega)⟩ ⟨by first | decide | omega | (dsimp only; omega), by first | decide | omega | (dsimp only; omega)⟩ (Nat.le_of_ble_eq_true rfl) rfl d_La_law_552 (fun r g9 H locs hp9 V1 => ?_)
  have V := V1
  rcases hp9 with ⟨rfl, v9, g0, h9, hpo, ho0, hgu⟩ | ⟨rfl, hx9⟩ | ⟨rfl, hx9⟩
  · obtain ⟨⟨Y9, hY9, hk3, hv9⟩, he0⟩ := hpo
    injection hv9 with hv9
    injection hv9 with hv9
    rw [hv9] at hgu
    have fr18 : gh_fr g0 g9 (fun b => ρ b = 18) := by rw [hgu]; exact gh_fr.rf.put (Or.inl e18)
    have hR : mo_R E g0 mo ad S I J := by rw [he0]; exact hR
    have hR := hR.keep fr18 (fun b hb z => by have z : ρ b = 18 := z; have := hMo b hb; omega)
    have hA := (show qf_A E ρ Z g0 tx n bd dc X q0 q1 N cb bg N1 cb1 bg1 φ en xs by rw [he0]; exact hA).keep fr18 (fun b hb => Or.inl (by have hb : ρ b = 18 := hb; omega))
    have hoc : g9 (Z 18) = some (.inl (E.2.2.1 1, 1, .inr (.inl (vp_updL h9 0 (vt_n Y9))))) := by rw [hgu]; exact gh_us
    refine W.eq (g2 := F0 m 555 ls [.int 0]) rfl ?_
    refine lv_istore hx hb d_La_law_555 hl (by decide) rfl (fun ls hl => ?_)
    have hl : lv_has ls 8 [(5, .int 0), (4, .int (nI i9)), (0, .ref sb), (1, .ref (Z 6)), (2, .ref mo), (3, .ref (Z 18))] := hl
    refine lv_aload_n hx hb d_La_law_557 rfl (lv_at hl 4 rfl) ?_
    refine lv_aload_n hx hb d_La_law_558 rfl (lv_at hl 2 rfl) ?_
    refine lv_iload hx hb d_La_law_559 (lv_at hl 1 rfl) ?_
    refine lv_iconst (v := 1) hx hb d_La_law_561 (by decide) ?_
    refine gn_iadd (a := i9) (b := 1) hx hb d_La_law_562 ?_
    refine lw_ld C V hX (j := i9 + 1) (by omega) d_La_law_563 ?_
    obtain ⟨vv9, b9, nv9, pb9, np9, hval, hmw9, hnp9⟩ := li_val hM hY9
    have hm9 := mv_o.mp hmw9.1
    refine gh_callV C V hl.1 m_Mo_integer l_La_104 (c_Mo_integer2 l E _ _ mo ad S I J _ vv9 hR (li_no1 hM.2.2.2.2.1.1.2.2.2 hM.2.2.2.2.1.1.2.2.1 hY9) hval hmw9.lt (by rw [hm9.2.1, hk3])) rfl hR.1 gc_Mo ⟨by first | decide | omega | (dsimp only; omega), by first | decide | omega | (dsimp only; omega)⟩ ⟨by first | decide | omega | (dsimp only; omega), by first | decide | omega | (dsimp only; omega)⟩ (Nat.le_of_ble_eq_true rfl) rfl d_La_law_564 (fun r gm H locs hp9 V1 => ?_)
    obtain ⟨rfl, hXm⟩ := hp9
    have V := V1
    rw [hm9.2.2.1]
    refine W.eq (g2 := F0 m 567 ls [.long (vt_n Y9)]) rfl ?_
    have hA := hA.keep (hXm.2) (fun b hb => Or.inr (by have := hMo b hb; omega))
    have hoc := (hXm.2).at hoc (fun z => by have := hMo _ z; omega)
    have hR := hXm.1
    have hM := hM.s0 (v := 0)
    refine lv_lstore hx hb d_La_law_567 hl (by decide) rfl (fun ls hl => ?_)
    have hl : lv_has ls 8 [(6, .long (vt_n Y9)), (5, .int 0), (4, .int (nI i9)), (0, .ref sb), (1, .ref (Z 6)), (2, .ref mo), (3, .ref (Z 18))] := hl
    refine lv_aload_n hx hb d_La_law_569 rfl (lv_at hl 5 rfl) ?_
    refine gh_callV C V hl.1 m_Mo_thrown l_La_61 (c_Mo_thrown l E _ _ mo ad _ _ _ hR) rfl hR.1 gc_Mo ⟨by first | decide | omega | (dsimp only; omega), by first | decide | omega | (dsimp only; omega)⟩ ⟨by first | decide | omega | (dsimp only; omega), by first | decide | omega | (dsimp only; omega)⟩ (Nat.le_of_ble_eq_true rfl) rfl d_La_law_570 (fun r g8 H locs hp9 V1 => ?_)
    obtain ⟨rfl, he9⟩ := hp9
    rw [he9] at V1
    have V := V1
    rw [va_up_s]
    refine W.eq (g2 := F0 m 573 ls [.int 0]) rfl ?_
    refine lv_iload hx hb d_La_law_573 (lv_at hl 1 rfl) ?_
    refine lv_icmp_eq (tgt := 580) hx hb d_La_law_575 (by decide) (fun c1 => ?_) (fun c1 => absurd rfl c1)
    refine lv_iload hx hb d_La_law_580 (lv_at hl 1 rfl) ?_
    refine lv_if_ne (tgt := 596) hx hb d_La_law_582 (by decide) (fun c2 => absurd (by decide) c2) (fun c2 => ?_)
    refine lv_aload_n hx hb d_La_law_585 rfl (lv_at hl 6 rfl) ?_
    refine lv_iconst (v := 0) hx hb d_La_law_586 (by decide) ?_
    refine W.eq (g2 := F0 m 587 ls [.int (nI 0), .ref (Z 18)]) rfl ?_
    refine gn_lald (i := 0) C V hoc (by decide) (by decide) d_La_law_587 ?_
    refine W.eq (g2 := F0 m 588 ls [.long (vt_n Y9)]) rfl ?_
    refine lv_lload hx hb d_La_law_588 (lv_at hl 0 rfl) ?_
    refine W.lcmp hx hb d_La_law_590 ?_
    refine lv_if_eq (tgt := 596) hx hb d_La_law_591 (by decide) (fun c3 => ?_) (fun c3 => absurd (lg_eq.mpr rfl) c3)
    refine lv_goto (tgt := 635) hx hb d_La_law_596 (by decide) ?_
    have hl : lv_has ls 8 [(4, .int (nI i9)), (0, .ref sb), (1, .ref (Z 6)), (2, .ref mo), (3, .ref (Z 18))] := lv_sub hl [2, 3, 4, 5, 6] rfl
    exact gw_le (by first | omega | (dsimp only; omega)) (by first | omega | (dsimp only; omega)) (k _ _ _ _ V ⟨hρ, ⟨_, hoc⟩, _, _, _, _, _, _, _, _, _, _, _, _, _, _, _, _, _, _, _, hA, hR, hM⟩ hl)
  · rcases hx9 with ⟨-, hk9, hq9, he9⟩ | ⟨hx8, -⟩
    · rw [he9] at V
      refine W.eq (g2 := F0 m 555 ls [.int 1]) rfl ?_
      refine lv_istore hx hb d_La_law_555 hl (by decide) rfl (fun ls hl => ?_)
      have hl : lv_has ls 8 [(5, .int 1), (4, .int (nI i9)), (0, .ref sb), (1, .ref (Z 6)), (2, .ref mo), (3, .ref (Z 18))] := hl
      refine lv_aload_n hx hb d_La_law_557 rfl (lv_at hl 4 rfl) ?_
      refine lv_aload_n hx hb d_La_law_558 rfl (lv_at hl 2 rfl) ?_
      refine lv_iload hx hb d_La_law_559 (lv_at hl 1 rfl) ?_
      refine lv_iconst (v := 1) hx hb d_La_law_561 (by decide) ?_
      refine gn_iadd (a := i9) (b := 1) hx hb d_La_law_562 ?_
      refine lw_ld C V hX (j := i9 + 1) (by omega) d_La_law_563 ?_
      refine gh_callV C V hl.1 m_Mo_integer l_La_104 (c_Mo_integer0 l E _ _ mo ad S I J _ hR (li_no0 hM.2.2.2.2.1.1.2.2.1 hk9 hq9)) rfl hR.1 gc_Mo ⟨by first | decide | omega | (dsimp only; omega), by first | decide | omega | (dsimp only; omega)⟩ ⟨by first | decide | omega | (dsimp only; omega), by first | decide | omega | (dsimp only; omega)⟩ (Nat.le_of_ble_eq_true rfl) rfl d_La_law_564 (fun r gm H locs hp9 V1 => ?_)
      obtain ⟨rfl, hXm⟩ := hp9
      have V := V1
      refine W.eq (g2 := F0 m 567 ls [.long 0]) rfl ?_
      have hA := hA.keep (hXm.2) (fun b hb => Or.inr (by have := hMo b hb; omega))
      have hoc := (hXm.2).at hoc (fun z => by have := hMo _ z; omega)
      have hR := hXm.1
      have hM := hM.s0 (v := 1)
      refine lv_lstore hx hb d_La_law_567 hl (by decide) rfl (fun ls hl => ?_)
      have hl : lv_has ls 8 [(6, .long 0), (5, .int 1), (4, .int (nI i9)), (0, .ref sb), (1, .ref (Z 6)), (2, .ref mo), (3, .ref (Z 18))] := hl
      refine lv_aload_n hx hb d_La_law_569 rfl (lv_at hl 5 rfl) ?_
      refine gh_callV C V hl.1 m_Mo_thrown l_La_61 (c_Mo_thrown l E _ _ mo ad _ _ _ hR) rfl hR.1 gc_Mo ⟨by first | decide | omega | (dsimp only; omega), by first | decide | omega | (dsimp only; omega)⟩ ⟨by first | decide | omega | (dsimp only; omega), by first | decide | omega | (dsimp only; omega)⟩ (Nat.le_of_ble_eq_true rfl) rfl d_La_law_570 (fun r g8 H locs hp9 V1 => ?_)
      obtain ⟨rfl, he9⟩ := hp9
      rw [he9] at V1
      have V := V1
      rw [va_up_s]
      refine W.eq (g2 := F0 m 573 ls [.int 1]) rfl ?_
      refine lv_iload hx hb d_La_law_573 (lv_at hl 1 rfl) ?_
      refine lv_icmp_eq (tgt := 580) hx hb d_La_law_575 (by decide) (fun c4 => ?_) (fun c4 => absurd rfl c4)
      refine lv_iload hx hb d_La_law_580 (lv_at hl 1 rfl) ?_
      refine lv_if_ne (tgt := 596) hx hb d_La_law_582 (by decide) (fun c5 => ?_) (fun c5 => absurd c5 (by decide))
      refine lv_goto (tgt := 635) hx hb d_La_law_596 (by decide) ?_
      have hl : lv_has ls 8 [(4, .int (nI i9)), (0, .ref sb), (1, .ref (Z 6)), (2, .ref mo), (3, .ref (Z 18))] := lv_sub hl [2, 3, 4, 5, 6] rfl
      exact gw_le (by first | omega | (dsimp only; omega)) (by first | omega | (dsimp only; omega)) (k _ _ _ _ V ⟨hρ, ⟨_, hoc⟩, _, _, _, _, _, _, _, _, _, _, _, _, _, _, _, _, _, _, _, hA, hR, hM⟩ hl)
    · exact absurd hx8 (by decide)
  · rcases hx9 with ⟨hx8, -⟩ | ⟨-, ⟨Y9, hY9, hvo9, hk3⟩, he9⟩
    · exact absurd hx8 (by decide)
    · rw [he9] at V
      obtain ⟨vv9, b9, nv9, pb9, np9, hval, hmw9, hnp9⟩ := li_val hM hY9
      have hk6 := (vo_o.mp hvo9).1
      refine W.eq (g2 := F0 m 555 ls [.int 2]) rfl ?_
      refine lv_istore hx hb d_La_law_555 hl (by decide) rfl (fun ls hl => ?_)
      have hl : lv_has ls 8 [(5, .int 2), (4, .int (nI i9)), (0, .ref sb), (1, .ref (Z 6)), (2, .ref mo), (3, .ref (Z 18))] := hl
      refine lv_aload_n hx hb d_La_law_557 rfl (lv_at hl 4 rfl) ?_
      refine lv_aload_n hx hb d_La_law_558 rfl (lv_at hl 2 rfl) ?_
      refine lv_iload hx hb d_La_law_559 (lv_at hl 1 rfl) ?_
      refine lv_iconst (v := 1) hx hb d_La_law_561 (by decide) ?_
      refine gn_iadd (a := i9) (b := 1) hx hb d_La_law_562 ?_
      refine lw_ld C V hX (j := i9 + 1) (by omega) d_La_law_563 ?_
      refine gh_callV C V hl.1 m_Mo_integer l_La_104 (c_Mo_integer1 l E _ _ mo ad S I J _ vv9 (vt_k Y9) hR (li_no1 hM.2.2.2.2.1.1.2.2.2 hM.2.2.2.2.1.1.2.2.1 hY9) hval hmw9.lt (mv_o.mp hmw9.1).2.1 ⟨hk3, by omega⟩) rfl hR.1 gc_Mo ⟨by first | decide | omega | (dsimp only; omega), by first | decide | omega | (dsimp only; omega)⟩ ⟨by first | decide | omega | (dsimp only; omega), by first | decide | omega | (dsimp only; omega)⟩ (Nat.le_of_ble_eq_true rfl) rfl d_La_law_564 (fun r gm H locs hp9 V1 => ?_)
      obtain ⟨rfl, hXm⟩ := hp9
      have V := V1
      refine W.eq (g2 := F0 m 567 ls [.long 0]) rfl ?_
      have hA := hA.keep (hXm.2) (fun b hb => Or.inr (by have := hMo b hb; omega))
      have hoc := (hXm.2).at hoc (fun z => by have := hMo _ z; omega)
      have hR := hXm.1
      have hM := hM.s0 (v := 2)
      refine lv_lstore hx hb d_La_law_567 hl (by decide) rfl (fun ls hl => ?_)
      have hl : lv_has ls 8 [(6, .long 0), (5, .int 2), (4, .int (nI i9)), (0, .ref sb), (1, .ref (Z 6)), (2, .ref mo), (3, .ref (Z 18))] := hl
      refine lv_aload_n hx hb d_La_law_569 rfl (lv_at hl 5 rfl) ?_
      refine gh_callV C V hl.1 m_Mo_thrown l_La_61 (c_Mo_thrown l E _ _ mo ad _ _ _ hR) rfl hR.1 gc_Mo ⟨by first | decide | omega | (dsimp only; omega), by first | decide | omega | (dsimp only; omega)⟩ ⟨by first | decide | omega | (dsimp only; omega), by first | decide | omega | (dsimp only; omega)⟩ (Nat.le_of_ble_eq_true rfl) rfl d_La_law_570 (fun r g8 H locs hp9 V1 => ?_)
      obtain ⟨rfl, he9⟩ := hp9
      rw [he9] at V1
      have V := V1
      rw [va_up_s]
      refine W.eq (g2 := F0 m 573 ls [.int 2]) rfl ?_
      refine lv_iload hx hb d_La_law_573 (lv_at hl 1 rfl) ?_
      refine lv_icmp_eq (tgt := 580) hx hb d_La_law_575 (by decide) (fun c6 => ?_) (fun c6 => absurd rfl c6)
      refine lv_iload hx hb d_La_law_580 (lv_at hl 1 rfl) ?_
      refine lv_if_ne (tgt := 596) hx hb d_La_law_582 (by decide) (fun c7 => ?_) (fun c7 => absurd c7 (by decide))
      refine lv_goto (tgt := 635) hx hb d_La_law_596 (by decide) ?_
      have hl : lv_has ls 8 [(4, .int (nI i9)), (0, .ref sb), (1, .ref (Z 6)), (2, .ref mo), (3, .ref (Z 18))] := lv_sub hl [2, 3, 4, 5, 6] rfl
      exact gw_le (by first | omega | (dsimp only; omega)) (by first | omega | (dsimp only; omega)) (k _ _ _ _ V ⟨hρ, ⟨_, hoc⟩, _, _, _, _, _, _, _, _, _, _, _, _, _, _, _, _, _, _, _, hA, hR, hM⟩ hl)
set_option maxHeartbeats 4000000 in
set_option maxRecDepth 100000 in
theorem lw_case10 {p : Program} {l : Launch} {e : Env} {s : State} {m : MethodId} {args : Array Value} {below : List Frame} {meth : Method} {c : Code} {H : Heap} {locs : List Loc} {cells slots : Nat} {Q : State → Prop} {ls : Array Slot} {E : gh_E} {A : Nat → Prop} {f : gh_F} {ρ Z : Nat → Nat} {mo : Nat} {ad : Nat → Nat} {sb L i9 : Nat} {sc : Nat → Int32} (hst : ∀ e : Env, l.admits e → e.platform.stackTraces = false) (C : gh_C E A p s m args c code R_La 8) (V : gh_V E A f s H locs) (hX : va_X sb L sc s s.heap ∧ sb < s.heap.size ∧ ¬ A sb ∧ L ≤ 2048) (hI : lw_I E ρ Z mo ad f) (hi : i9 + 4 ≤ L) (hl : lv_has ls 8 [(4, .int (nI i9)), (0, .ref sb), (1, .ref (Z 6)), (2, .ref mo), (3, .ref (Z 18))]) (hc : cells + 800 ≤ 601024) (hs : slots + 9800 ≤ 7293034) (k : ∀ (f9 : gh_F) (H9 : Heap) (locs9 : List Loc) (ls9 : Array Slot), gh_V E A f9 s H9 locs9 → lw_I E ρ Z mo ad f9 → lv_has ls9 8 [(4, .int (nI i9)), (0, .ref sb), (1, .ref (Z 6)), (2, .ref mo), (3, .ref (Z 18))] → W p l e { frames := 2048, cells := 601024, slots := 7293034, locals := 84000 } s m args below meth c H9 locs9 (cells + 800) (slots + 9800) Q (F0 m 635 ls9 [])) : W p l e { frames := 2048, cells := 601024, slots := 7293034, locals := 84000 } s m args below meth c H locs cells slots Q (F0 m 476 ls []) := by
  have hx := C.1
  have hb := C.2.1
  obtain ⟨hρ, ⟨ho9, hoc⟩, tx, n, bd, dc, X, q0, q1, N, cb, bg, N1, cb1, bg1, φ, en, xs, S, I, J, hA, hR, hM⟩ := hI
  have hMo := lw_M hρ
  have qz : rZ ρ Z := hA.2.1.1
  have e18 : ρ (Z 18) = 18 := qz 18 (by unfold rU; omega)
  have q6 : f (Z 6) = some (.inr (0, [.ref (Z 7), .int (nI n), .ref (Z 8), .ref (Z 10), .ref (Z 1), .ref dc, .ref (Z q0), .ref (Z q1)])) := hA.1
  have h2048 := hX.2.2.2
  refine lv_aload_n hx hb d_La_law_476 rfl (lv_at hl 2 rfl) ?_
  refine lv_aload_n hx hb d_La_law_477 rfl (lv_at hl 1 rfl) ?_
  refine lv_iload hx hb d_La_law_478 (lv_at hl 0 rfl) ?_
  refine lv_iconst (v := 1) hx hb d_La_law_480 (by decide) ?_
  refine gn_iadd (a := i9) (b := 1) hx hb d_La_law_481 ?_
  refine lw_ld C V hX (j := i9 + 1) (by omega) d_La_law_482 ?_
  refine lv_aload_n hx hb d_La_law_483 rfl (lv_at hl 1 rfl) ?_
  refine lv_iload hx hb d_La_law_484 (lv_at hl 0 rfl) ?_
  refine lv_iconst (v := 2) hx hb d_La_law_486 (by decide) ?_
  refine gn_iadd (a := i9) (b := 2) hx hb d_La_law_487 ?_
  refine lw_ld C V hX (j := i9 + 2) (by omega) d_La_law_488 ?_
  refine lv_aload_n hx hb d_La_law_489 rfl (lv_at hl 4 rfl) ?_
  refine gc_callS C V hl.1 m_La_written l_La_98 (c_La_written l E _ _ (Z 6) (Z 18) (sc (i9 + 1)) (sc (i9 + 2)) _ q6 _ _ (fun sz => c_QM_written l hst E sz f ρ Z tx n bd dc X q0 q1 N cb bg N1 cb1 bg1 φ en xs (sc (i9 + 1)) (sc (i9 + 2)) hA) (fun cls g h => by rcases h with h | h; exact Or.inl h.1; exact Or.inr h.1) (fun r g h => by obtain ⟨⟨Y, h1, h2, h3⟩, h4, h5⟩ := h; refine ⟨?_, _, h5.at hoc (lw_n18 _ e18)⟩; rcases h3 with ⟨_, h3⟩ | ⟨j, _, _, h3⟩; exact ⟨_, h3⟩; exact ⟨_, h3⟩)) rfl ⟨by first | decide | omega | (dsimp only; omega), by first | decide | omega | (dsimp only; omega)⟩ ⟨by first | decide | omega | (dsimp only; omega), by first | decide | omega | (dsimp only; omega)⟩ (Nat.le_of_ble_eq_true rfl) rfl d_La_law_490 (fun r g9 H locs hp9 V1 => ?_)
  have V := V1
  rcases hp9 with ⟨rfl, v9, g0, h9, hpo, ho0, hgu⟩ | ⟨rfl, hx9⟩ | ⟨rfl, hx9⟩
  · obtain ⟨⟨Y9, hY9, hvo9, hrr⟩, hA9, hfr9⟩ := hpo
    rcases hrr with ⟨hi9, hv9⟩ | ⟨j9, hi9, hj9, hv9⟩
    · injection hv9 with hv9
      injection hv9 with hv9
      rw [hv9] at hgu
      have fr18 : gh_fr g0 g9 (fun b => ρ b = 18) := by rw [hgu]; exact gh_fr.rf.put (Or.inl e18)
      have hR := hR.keep hfr9 (fun b hb => lw_nq b (hMo b hb))
      have hR := hR.keep fr18 (fun b hb z => by have z : ρ b = 18 := z; have := hMo b hb; omega)
      have hA := (hA9).keep fr18 (fun b hb => Or.inl (by have hb : ρ b = 18 := hb; omega))
      have hoc : g9 (Z 18) = some (.inl (E.2.2.1 1, 1, .inr (.inl (vp_updL h9 0 ((nI (wr_v 8 Y9).length).toInt64))))) := by rw [hgu]; exact gh_us
      refine W.eq (g2 := F0 m 493 ls [.int 0]) rfl ?_
      refine lv_istore hx hb d_La_law_493 hl (by decide) rfl (fun ls hl => ?_)
      have hl : lv_has ls 8 [(5, .int 0), (4, .int (nI i9)), (0, .ref sb), (1, .ref (Z 6)), (2, .ref mo), (3, .ref (Z 18))] := hl
      refine lv_aload_n hx hb d_La_law_495 rfl (lv_at hl 4 rfl) ?_
      refine lv_aload_n hx hb d_La_law_496 rfl (lv_at hl 2 rfl) ?_
      refine lv_iload hx hb d_La_law_497 (lv_at hl 1 rfl) ?_
      refine lv_iconst (v := 1) hx hb d_La_law_499 (by decide) ?_
      refine gn_iadd (a := i9) (b := 1) hx hb d_La_law_500 ?_
      refine lw_ld C V hX (j := i9 + 1) (by omega) d_La_law_501 ?_
      refine lv_aload_n hx hb d_La_law_502 rfl (lv_at hl 2 rfl) ?_
      refine lv_iload hx hb d_La_law_503 (lv_at hl 1 rfl) ?_
      refine lv_iconst (v := 2) hx hb d_La_law_505 (by decide) ?_
      refine gn_iadd (a := i9) (b := 2) hx hb d_La_law_506 ?_
      refine lw_ld C V hX (j := i9 + 2) (by omega) d_La_law_507 ?_
      obtain ⟨vv9, b9, nv9, pb9, np9, hval, hmw9, hnp9⟩ := li_val hM hY9
      refine W.eq (g2 := F0 m 508 ls [.int (-1), .int (sc (i9 + 1)), .ref mo]) (by rw [hi9]) ?_
      refine gh_callV C V hl.1 m_Mo_written l_La_101 (c_Mo_written2 l E _ _ mo ad S I J _ b9 nv9 pb9 np9 vv9 Y9 hR (li_no1 hM.2.2.2.2.1.1.2.2.2 hM.2.2.2.2.1.1.2.2.1 hY9) hval hmw9 hnp9) rfl hR.1 gc_Mo ⟨by first | decide | omega | (dsimp only; omega), by first | decide | omega | (dsimp only; omega)⟩ ⟨by first | decide | omega | (dsimp only; omega), by first | decide | omega | (dsimp only; omega)⟩ (Nat.le_of_ble_eq_true rfl) rfl d_La_law_508 (fun r gm H locs hp9 V1 => ?_)
      obtain ⟨rfl, S2, I2, hXm, t1, t2⟩ := hp9
      have V := V1
      refine W.eq (g2 := F0 m 511 ls [.int (nI (wr_v 8 Y9).length)]) rfl ?_
      have hA := hA.keep (hXm.2) (fun b hb => Or.inr (by have := hMo b hb; omega))
      have hoc := (hXm.2).at hoc (fun z => by have := hMo _ z; omega)
      have hR := hXm.1
      have hM := hM.keep (S2 := va_up S2 0 0) (I2 := I2) (fun k hk => (va_up_n (by omega)).trans (t1 k (by omega) (by omega) (by omega) (by omega))) (fun k hk => t2 k (by omega) (by omega))
      refine lv_istore hx hb d_La_law_511 hl (by decide) rfl (fun ls hl => ?_)
      have hl : lv_has ls 8 [(6, .int (nI (wr_v 8 Y9).length)), (5, .int 0), (4, .int (nI i9)), (0, .ref sb), (1, .ref (Z 6)), (2, .ref mo), (3, .ref (Z 18))] := hl
      refine lv_aload_n hx hb d_La_law_513 rfl (lv_at hl 5 rfl) ?_
      refine gh_callV C V hl.1 m_Mo_thrown l_La_61 (c_Mo_thrown l E _ _ mo ad _ _ _ hR) rfl hR.1 gc_Mo ⟨by first | decide | omega | (dsimp only; omega), by first | decide | omega | (dsimp only; omega)⟩ ⟨by first | decide | omega | (dsimp only; omega), by first | decide | omega | (dsimp only; omega)⟩ (Nat.le_of_ble_eq_true rfl) rfl d_La_law_514 (fun r g8 H locs hp9 V1 => ?_)
      obtain ⟨rfl, he9⟩ := hp9
      rw [he9] at V1
      have V := V1
      rw [va_up_s]
      refine W.eq (g2 := F0 m 517 ls [.int 0]) rfl ?_
      refine lv_iload hx hb d_La_law_517 (lv_at hl 1 rfl) ?_
      refine lv_icmp_eq (tgt := 524) hx hb d_La_law_519 (by decide) (fun c1 => ?_) (fun c1 => absurd rfl c1)
      refine lv_iload hx hb d_La_law_524 (lv_at hl 1 rfl) ?_
      refine lv_if_ne (tgt := 541) hx hb d_La_law_526 (by decide) (fun c2 => absurd (by decide) c2) (fun c2 => ?_)
      refine lv_aload_n hx hb d_La_law_529 rfl (lv_at hl 6 rfl) ?_
      refine lv_iconst (v := 0) hx hb d_La_law_530 (by decide) ?_
      refine W.eq (g2 := F0 m 531 ls [.int (nI 0), .ref (Z 18)]) rfl ?_
      refine gn_lald (i := 0) C V hoc (by decide) (by decide) d_La_law_531 ?_
      refine W.eq (g2 := F0 m 532 ls [.long ((nI (wr_v 8 Y9).length).toInt64)]) rfl ?_
      refine lv_iload hx hb d_La_law_532 (lv_at hl 0 rfl) ?_
      refine lv_i2l hx hb d_La_law_534 rfl ?_
      refine W.lcmp hx hb d_La_law_535 ?_
      refine lv_if_eq (tgt := 541) hx hb d_La_law_536 (by decide) (fun c3 => ?_) (fun c3 => absurd (lg_eq.mpr rfl) c3)
      refine lv_goto (tgt := 635) hx hb d_La_law_541 (by decide) ?_
      have hl : lv_has ls 8 [(4, .int (nI i9)), (0, .ref sb), (1, .ref (Z 6)), (2, .ref mo), (3, .ref (Z 18))] := lv_sub hl [2, 3, 4, 5, 6] rfl
      exact gw_le (by first | omega | (dsimp only; omega)) (by first | omega | (dsimp only; omega)) (k _ _ _ _ V ⟨hρ, ⟨_, hoc⟩, _, _, _, _, _, _, _, _, _, _, _, _, _, _, _, _, _, _, _, hA, hR, hM⟩ hl)
    · injection hv9 with hv9
      injection hv9 with hv9
      rw [hv9] at hgu
      have fr18 : gh_fr g0 g9 (fun b => ρ b = 18) := by rw [hgu]; exact gh_fr.rf.put (Or.inl e18)
      have hR := hR.keep hfr9 (fun b hb => lw_nq b (hMo b hb))
      have hR := hR.keep fr18 (fun b hb z => by have z : ρ b = 18 := z; have := hMo b hb; omega)
      have hA := (hA9).keep fr18 (fun b hb => Or.inl (by have hb : ρ b = 18 := hb; omega))
      have hoc : g9 (Z 18) = some (.inl (E.2.2.1 1, 1, .inr (.inl (vp_updL h9 0 (((wr_v 8 Y9).getD j9 0).toInt64))))) := by rw [hgu]; exact gh_us
      refine W.eq (g2 := F0 m 493 ls [.int 0]) rfl ?_
      refine lv_istore hx hb d_La_law_493 hl (by decide) rfl (fun ls hl => ?_)
      have hl : lv_has ls 8 [(5, .int 0), (4, .int (nI i9)), (0, .ref sb), (1, .ref (Z 6)), (2, .ref mo), (3, .ref (Z 18))] := hl
      refine lv_aload_n hx hb d_La_law_495 rfl (lv_at hl 4 rfl) ?_
      refine lv_aload_n hx hb d_La_law_496 rfl (lv_at hl 2 rfl) ?_
      refine lv_iload hx hb d_La_law_497 (lv_at hl 1 rfl) ?_
      refine lv_iconst (v := 1) hx hb d_La_law_499 (by decide) ?_
      refine gn_iadd (a := i9) (b := 1) hx hb d_La_law_500 ?_
      refine lw_ld C V hX (j := i9 + 1) (by omega) d_La_law_501 ?_
      refine lv_aload_n hx hb d_La_law_502 rfl (lv_at hl 2 rfl) ?_
      refine lv_iload hx hb d_La_law_503 (lv_at hl 1 rfl) ?_
      refine lv_iconst (v := 2) hx hb d_La_law_505 (by decide) ?_
      refine gn_iadd (a := i9) (b := 2) hx hb d_La_law_506 ?_
      refine lw_ld C V hX (j := i9 + 2) (by omega) d_La_law_507 ?_
      obtain ⟨vv9, b9, nv9, pb9, np9, hval, hmw9, hnp9⟩ := li_val hM hY9
      refine W.eq (g2 := F0 m 508 ls [.int (nI j9), .int (sc (i9 + 1)), .ref mo]) (by rw [hi9]) ?_
      refine gh_callV C V hl.1 m_Mo_written l_La_101 (c_Mo_written3 l E _ _ mo ad S I J _ b9 nv9 pb9 np9 vv9 Y9 j9 hR (li_no1 hM.2.2.2.2.1.1.2.2.2 hM.2.2.2.2.1.1.2.2.1 hY9) hval hmw9 hnp9 hj9) rfl hR.1 gc_Mo ⟨by first | decide | omega | (dsimp only; omega), by first | decide | omega | (dsimp only; omega)⟩ ⟨by first | decide | omega | (dsimp only; omega), by first | decide | omega | (dsimp only; omega)⟩ (Nat.le_of_ble_eq_true rfl) rfl d_La_law_508 (fun r gm H locs hp9 V1 => ?_)
      obtain ⟨rfl, S2, I2, hXm, t1, t2⟩ := hp9
      have V := V1
      refine W.eq (g2 := F0 m 511 ls [.int ((wr_v 8 Y9).getD j9 0)]) rfl ?_
      have hA := hA.keep (hXm.2) (fun b hb => Or.inr (by have := hMo b hb; omega))
      have hoc := (hXm.2).at hoc (fun z => by have := hMo _ z; omega)
      have hR := hXm.1
      have hM := hM.keep (S2 := va_up S2 0 0) (I2 := I2) (fun k hk => (va_up_n (by omega)).trans (t1 k (by omega) (by omega) (by omega) (by omega))) (fun k hk => t2 k (by omega) (by omega))
      refine lv_istore hx hb d_La_law_511 hl (by decide) rfl (fun ls hl => ?_)
      have hl : lv_has ls 8 [(6, .int ((wr_v 8 Y9).getD j9 0)), (5, .int 0), (4, .int (nI i9)), (0, .ref sb), (1, .ref (Z 6)), (2, .ref mo), (3, .ref (Z 18))] := hl
      refine lv_aload_n hx hb d_La_law_513 rfl (lv_at hl 5 rfl) ?_
      refine gh_callV C V hl.1 m_Mo_thrown l_La_61 (c_Mo_thrown l E _ _ mo ad _ _ _ hR) rfl hR.1 gc_Mo ⟨by first | decide | omega | (dsimp only; omega), by first | decide | omega | (dsimp only; omega)⟩ ⟨by first | decide | omega | (dsimp only; omega), by first | decide | omega | (dsimp only; omega)⟩ (Nat.le_of_ble_eq_true rfl) rfl d_La_law_514 (fun r g8 H locs hp9 V1 => ?_)
      obtain ⟨rfl, he9⟩ := hp9
      rw [he9] at V1
      have V := V1
      rw [va_up_s]
      refine W.eq (g2 := F0 m 517 ls [.int 0]) rfl ?_
      refine lv_iload hx hb d_La_law_517 (lv_at hl 1 rfl) ?_
      refine lv_icmp_eq (tgt := 524) hx hb d_La_law_519 (by decide) (fun c4 => ?_) (fun c4 => absurd rfl c4)
      refine lv_iload hx hb d_La_law_524 (lv_at hl 1 rfl) ?_
      refine lv_if_ne (tgt := 541) hx hb d_La_law_526 (by decide) (fun c5 => absurd (by decide) c5) (fun c5 => ?_)
      refine lv_aload_n hx hb d_La_law_529 rfl (lv_at hl 6 rfl) ?_
      refine lv_iconst (v := 0) hx hb d_La_law_530 (by decide) ?_
      refine W.eq (g2 := F0 m 531 ls [.int (nI 0), .ref (Z 18)]) rfl ?_
      refine gn_lald (i := 0) C V hoc (by decide) (by decide) d_La_law_531 ?_
      refine W.eq (g2 := F0 m 532 ls [.long (((wr_v 8 Y9).getD j9 0).toInt64)]) rfl ?_
      refine lv_iload hx hb d_La_law_532 (lv_at hl 0 rfl) ?_
      refine lv_i2l hx hb d_La_law_534 rfl ?_
      refine W.lcmp hx hb d_La_law_535 ?_
      refine lv_if_eq (tgt := 541) hx hb d_La_law_536 (by decide) (fun c6 => ?_) (fun c6 => absurd (lg_eq.mpr rfl) c6)
      refine lv_goto (tgt := 635) hx hb d_La_law_541 (by decide) ?_
      have hl : lv_has ls 8 [(4, .int (nI i9)), (0, .ref sb), (1, .ref (Z 6)), (2, .ref mo), (3, .ref (Z 18))] := lv_sub hl [2, 3, 4, 5, 6] rfl
      exact gw_le (by first | omega | (dsimp only; omega)) (by first | omega | (dsimp only; omega)) (k _ _ _ _ V ⟨hρ, ⟨_, hoc⟩, _, _, _, _, _, _, _, _, _, _, _, _, _, _, _, _, _, _, _, hA, hR, hM⟩ hl)
  · rcases hx9 with ⟨-, hk9, hq9, he9⟩ | ⟨hx8, -⟩
    · rw [he9] at V
      refine W.eq (g2 := F0 m 493 ls [.int 1]) rfl ?_
      refine lv_istore hx hb d_La_law_493 hl (by decide) rfl (fun ls hl => ?_)
      have hl : lv_has ls 8 [(5, .int 1), (4, .int (nI i9)), (0, .ref sb), (1, .ref (Z 6)), (2, .ref mo), (3, .ref (Z 18))] := hl
      refine lv_aload_n hx hb d_La_law_495 rfl (lv_at hl 4 rfl) ?_
      refine lv_aload_n hx hb d_La_law_496 rfl (lv_at hl 2 rfl) ?_
      refine lv_iload hx hb d_La_law_497 (lv_at hl 1 rfl) ?_
      refine lv_iconst (v := 1) hx hb d_La_law_499 (by decide) ?_
      refine gn_iadd (a := i9) (b := 1) hx hb d_La_law_500 ?_
      refine lw_ld C V hX (j := i9 + 1) (by omega) d_La_law_501 ?_
      refine lv_aload_n hx hb d_La_law_502 rfl (lv_at hl 2 rfl) ?_
      refine lv_iload hx hb d_La_law_503 (lv_at hl 1 rfl) ?_
      refine lv_iconst (v := 2) hx hb d_La_law_505 (by decide) ?_
      refine gn_iadd (a := i9) (b := 2) hx hb d_La_law_506 ?_
      refine lw_ld C V hX (j := i9 + 2) (by omega) d_La_law_507 ?_
      refine gh_callV C V hl.1 m_Mo_written l_La_101 (c_Mo_written0 l E _ _ mo ad S I J _ _ hR (li_no0 hM.2.2.2.2.1.1.2.2.1 hk9 hq9)) rfl hR.1 gc_Mo ⟨by first | decide | omega | (dsimp only; omega), by first | decide | omega | (dsimp only; omega)⟩ ⟨by first | decide | omega | (dsimp only; omega), by first | decide | omega | (dsimp only; omega)⟩ (Nat.le_of_ble_eq_true rfl) rfl d_La_law_508 (fun r gm H locs hp9 V1 => ?_)
      obtain ⟨rfl, hXm⟩ := hp9
      have V := V1
      refine W.eq (g2 := F0 m 511 ls [.int 0]) rfl ?_
      have hA := hA.keep (hXm.2) (fun b hb => Or.inr (by have := hMo b hb; omega))
      have hoc := (hXm.2).at hoc (fun z => by have := hMo _ z; omega)
      have hR := hXm.1
      have hM := hM.s0 (v := 1)
      refine lv_istore hx hb d_La_law_511 hl (by decide) rfl (fun ls hl => ?_)
      have hl : lv_has ls 8 [(6, .int 0), (5, .int 1), (4, .int (nI i9)), (0, .ref sb), (1, .ref (Z 6)), (2, .ref mo), (3, .ref (Z 18))] := hl
      refine lv_aload_n hx hb d_La_law_513 rfl (lv_at hl 5 rfl) ?_
      refine gh_callV C V hl.1 m_Mo_thrown l_La_61 (c_Mo_thrown l E _ _ mo ad _ _ _ hR) rfl hR.1 gc_Mo ⟨by first | decide | omega | (dsimp only; omega), by first | decide | omega | (dsimp only; omega)⟩ ⟨by first | decide | omega | (dsimp only; omega), by first | decide | omega | (dsimp only; omega)⟩ (Nat.le_of_ble_eq_true rfl) rfl d_La_law_514 (fun r g8 H locs hp9 V1 => ?_)
      obtain ⟨rfl, he9⟩ := hp9
      rw [he9] at V1
      have V := V1
      rw [va_up_s]
      refine W.eq (g2 := F0 m 517 ls [.int 1]) rfl ?_
      refine lv_iload hx hb d_La_law_517 (lv_at hl 1 rfl) ?_
      refine lv_icmp_eq (tgt := 524) hx hb d_La_law_519 (by decide) (fun c7 => ?_) (fun c7 => absurd rfl c7)
      refine lv_iload hx hb d_La_law_524 (lv_at hl 1 rfl) ?_
      refine lv_if_ne (tgt := 541) hx hb d_La_law_526 (by decide) (fun c8 => ?_) (fun c8 => absurd c8 (by decide))
      refine lv_goto (tgt := 635) hx hb d_La_law_541 (by decide) ?_
      have hl : lv_has ls 8 [(4, .int (nI i9)), (0, .ref sb), (1, .ref (Z 6)), (2, .ref mo), (3, .ref (Z 18))] := lv_sub hl [2, 3, 4, 5, 6] rfl
      exact gw_le (by first | omega | (dsimp only; omega)) (by first | omega | (dsimp only; omega)) (k _ _ _ _ V ⟨hρ, ⟨_, hoc⟩, _, _, _, _, _, _, _, _, _, _, _, _, _, _, _, _, _, _, _, hA, hR, hM⟩ hl)
    · exact absurd hx8 (by decide)
  · rcases hx9 with ⟨hx8, -⟩ | ⟨-, ⟨Y9, hY9, hvo9, hi9⟩, hA9, hfr9⟩
    · exact absurd hx8 (by decide)
    · have hR := hR.keep (hfr9) (fun b hb => lw_nq b (hMo b hb))
      have hoc := (hfr9).at hoc (lw_n18 _ e18)
      have hA := hA9
      obtain ⟨vv9, b9, nv9, pb9, np9, hval, hmw9, hnp9⟩ := li_val hM hY9
      refine W.eq (g2 := F0 m 493 ls [.int 2]) rfl ?_
      refine lv_istore hx hb d_La_law_493 hl (by decide) rfl (fun ls hl => ?_)
      have hl : lv_has ls 8 [(5, .int 2), (4, .int (nI i9)), (0, .ref sb), (1, .ref (Z 6)), (2, .ref mo), (3, .ref (Z 18))] := hl
      refine lv_aload_n hx hb d_La_law_495 rfl (lv_at hl 4 rfl) ?_
      refine lv_aload_n hx hb d_La_law_496 rfl (lv_at hl 2 rfl) ?_
      refine lv_iload hx hb d_La_law_497 (lv_at hl 1 rfl) ?_
      refine lv_iconst (v := 1) hx hb d_La_law_499 (by decide) ?_
      refine gn_iadd (a := i9) (b := 1) hx hb d_La_law_500 ?_
      refine lw_ld C V hX (j := i9 + 1) (by omega) d_La_law_501 ?_
      refine lv_aload_n hx hb d_La_law_502 rfl (lv_at hl 2 rfl) ?_
      refine lv_iload hx hb d_La_law_503 (lv_at hl 1 rfl) ?_
      refine lv_iconst (v := 2) hx hb d_La_law_505 (by decide) ?_
      refine gn_iadd (a := i9) (b := 2) hx hb d_La_law_506 ?_
      refine lw_ld C V hX (j := i9 + 2) (by omega) d_La_law_507 ?_
      refine gh_callV C V hl.1 m_Mo_written l_La_101 (c_Mo_written1 l E _ _ mo ad S I J _ b9 nv9 pb9 np9 vv9 Y9 _ hR (li_no1 hM.2.2.2.2.1.1.2.2.2 hM.2.2.2.2.1.1.2.2.1 hY9) hval hmw9 hnp9 (hi9.elim Or.inl (fun z => Or.inr z.2))) rfl hR.1 gc_Mo ⟨by first | decide | omega | (dsimp only; omega), by first | decide | omega | (dsimp only; omega)⟩ ⟨by first | decide | omega | (dsimp only; omega), by first | decide | omega | (dsimp only; omega)⟩ (Nat.le_of_ble_eq_true rfl) rfl d_La_law_508 (fun r gm H locs hp9 V1 => ?_)
      obtain ⟨rfl, S2, I2, hXm, t1, t2⟩ := hp9
      have V := V1
      refine W.eq (g2 := F0 m 511 ls [.int 0]) rfl ?_
      have hA := hA.keep (hXm.2) (fun b hb => Or.inr (by have := hMo b hb; omega))
      have hoc := (hXm.2).at hoc (fun z => by have := hMo _ z; omega)
      have hR := hXm.1
      have hM := hM.keep (S2 := va_up S2 0 2) (I2 := I2) (fun k hk => (va_up_n (by omega)).trans (t1 k (by omega) (by omega) (by omega) (by omega))) (fun k hk => t2 k (by omega) (by omega))
      refine lv_istore hx hb d_La_law_511 hl (by decide) rfl (fun ls hl => ?_)
      have hl : lv_has ls 8 [(6, .int 0), (5, .int 2), (4, .int (nI i9)), (0, .ref sb), (1, .ref (Z 6)), (2, .ref mo), (3, .ref (Z 18))] := hl
      refine lv_aload_n hx hb d_La_law_513 rfl (lv_at hl 5 rfl) ?_
      refine gh_callV C V hl.1 m_Mo_thrown l_La_61 (c_Mo_thrown l E _ _ mo ad _ _ _ hR) rfl hR.1 gc_Mo ⟨by first | decide | omega | (dsimp only; omega), by first | decide | omega | (dsimp only; omega)⟩ ⟨by first | decide | omega | (dsimp only; omega), by first | decide | omega | (dsimp only; omega)⟩ (Nat.le_of_ble_eq_true rfl) rfl d_La_law_514 (fun r g8 H locs hp9 V1 => ?_)
      obtain ⟨rfl, he9⟩ := hp9
      rw [he9] at V1
      have V := V1
      rw [va_up_s]
      refine W.eq (g2 := F0 m 517 ls [.int 2]) rfl ?_
      refine lv_iload hx hb d_La_law_517 (lv_at hl 1 rfl) ?_
      refine lv_icmp_eq (tgt := 524) hx hb d_La_law_519 (by decide) (fun c9 => ?_) (fun c9 => absurd rfl c9)
      refine lv_iload hx hb d_La_law_524 (lv_at hl 1 rfl) ?_
      refine lv_if_ne (tgt := 541) hx hb d_La_law_526 (by decide) (fun c10 => ?_) (fun c10 => absurd c10 (by decide))
      refine lv_goto (tgt := 635) hx hb d_La_law_541 (by decide) ?_
      have hl : lv_has ls 8 [(4, .int (nI i9)), (0, .ref sb), (1, .ref (Z 6)), (2, .ref mo), (3, .ref (Z 18))] := lv_sub hl [2, 3, 4, 5, 6] rfl
      exact gw_le (by first | omega | (dsimp only; omega)) (by first | omega | (dsimp only; omega)) (k _ _ _ _ V ⟨hρ, ⟨_, hoc⟩, _, _, _, _, _, _, _, _, _, _, _, _, _, _, _, _, _, _, _, hA, hR, hM⟩ hl)
