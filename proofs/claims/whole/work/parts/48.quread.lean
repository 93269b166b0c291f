/-! What a run reads of a query. Printed by wip/whole/gen_qu2.py. -/
theorem d_Qu_byteAt_0 : decode b_Qu_byteAt 0 = .ok (.iload_n 1, 1) := by decide +kernel
theorem d_Qu_byteAt_1 : decode b_Qu_byteAt 1 = .ok (.ifCond .lt 20, 3) := by decide +kernel
theorem d_Qu_byteAt_4 : decode b_Qu_byteAt 4 = .ok (.iload_n 1, 1) := by decide +kernel
theorem d_Qu_byteAt_5 : decode b_Qu_byteAt 5 = .ok (.aload_n 0, 1) := by decide +kernel
theorem d_Qu_byteAt_6 : decode b_Qu_byteAt 6 = .ok (.getfield 16, 3) := by decide +kernel
theorem d_Qu_byteAt_9 : decode b_Qu_byteAt 9 = .ok (.if_icmp .ge 12, 3) := by decide +kernel
theorem d_Qu_byteAt_12 : decode b_Qu_byteAt 12 = .ok (.aload_n 0, 1) := by decide +kernel
theorem d_Qu_byteAt_13 : decode b_Qu_byteAt 13 = .ok (.getfield 9, 3) := by decide +kernel
theorem d_Qu_byteAt_16 : decode b_Qu_byteAt 16 = .ok (.iload_n 1, 1) := by decide +kernel
theorem d_Qu_byteAt_17 : decode b_Qu_byteAt 17 = .ok (.iaload, 1) := by decide +kernel
theorem d_Qu_byteAt_18 : decode b_Qu_byteAt 18 = .ok (.goto 5, 3) := by decide +kernel
theorem d_Qu_byteAt_21 : decode b_Qu_byteAt 21 = .ok (.bipush 18, 2) := by decide +kernel
theorem d_Qu_byteAt_23 : decode b_Qu_byteAt 23 = .ok (.ireturn, 1) := by decide +kernel
set_option maxHeartbeats 4000000 in
set_option maxRecDepth 100000 in
theorem c_Qu_byteAt (l : Launch) (E : gh_E) (sz : Nat) (f : gh_F) (q cd ba n : Nat) (cb bg : Nat → Nat) (i : Nat) (hn : n ≤ 60) (hq : f q = some (.inr (2, [.ref cd, .ref ba, .int (nI n)]))) (hcd : f cd = some (.inl (E.2.2.1 0, 60, .inl (fun j => nI (cb j))))) (hba : f ba = some (.inl (E.2.2.1 0, 180, .inl (fun j => nI (bg j))))) (hi : i < n) : gh_M l y_Qu_byteAt b_Qu_byteAt 2 (some .int) E sz [.ref q, .int (nI i)] f { frames := 1, cells := 0, slots := 0, locals := 12 } (fun r g => r = some (.int (nI (cb i))) ∧ g = f) := by
  refine gh_open (by decide) (Nat.le_of_ble_eq_true rfl) ?_
  intro p e s m args below meth c A ls hAe C V hr hlocks hname hl
  have hx := C.1
  have hb := C.2.1
  have hl : lv_has ls 2 [(0, .ref q), (1, .int (nI i))] := hl
  refine lv_iload_n hx hb d_Qu_byteAt_0 rfl (lv_at hl 1 rfl) ?_
  refine lv_if_lt (tgt := 21) hx hb d_Qu_byteAt_1 (by decide) (fun c1 => absurd c1 (nI_pos (by omega))) (fun c1 => ?_)
  refine lv_iload_n hx hb d_Qu_byteAt_4 rfl (lv_at hl 1 rfl) ?_
  refine lv_aload_n hx hb d_Qu_byteAt_5 rfl (lv_at hl 0 rfl) ?_
  refine gh_get C V hq gc_Qu gi_Qu 2 (by decide) f_Qu_16 rfl rfl d_Qu_byteAt_6 ?_
  refine lv_icmp_ge (tgt := 21) hx hb d_Qu_byteAt_9 (by decide) (fun c2 => absurd c2 (nI_ge (by omega) (by omega))) (fun c2 => ?_)
  refine lv_aload_n hx hb d_Qu_byteAt_12 rfl (lv_at hl 0 rfl) ?_
  refine gh_get C V hq gc_Qu gi_Qu 0 (by decide) f_Qu_9 rfl rfl d_Qu_byteAt_13 ?_
  refine lv_iload_n hx hb d_Qu_byteAt_16 rfl (lv_at hl 1 rfl) ?_
  refine gn_iald (i := i) C V hcd (by omega) (by omega) d_Qu_byteAt_17 ?_
  refine lv_goto (tgt := 23) hx hb d_Qu_byteAt_18 (by decide) ?_
  refine gh_reti hAe C V hr hlocks d_Qu_byteAt_23 (by first | decide | omega | (dsimp only; omega)) (by first | decide | omega | (dsimp only; omega)) ?_
  exact ⟨rfl, rfl⟩
theorem d_Qu_partAt_0 : decode b_Qu_partAt 0 = .ok (.aload_n 0, 1) := by decide +kernel
theorem d_Qu_partAt_1 : decode b_Qu_partAt 1 = .ok (.iload_n 1, 1) := by decide +kernel
theorem d_Qu_partAt_2 : decode b_Qu_partAt 2 = .ok (.invokevirtual 37, 3) := by decide +kernel
theorem d_Qu_partAt_5 : decode b_Qu_partAt 5 = .ok (.ireturn, 1) := by decide +kernel
set_option maxHeartbeats 4000000 in
set_option maxRecDepth 100000 in
theorem c_Qu_partAt (l : Launch) (E : gh_E) (sz : Nat) (f : gh_F) (q cd ba n : Nat) (cb bg : Nat → Nat) (i : Nat) (hn : n ≤ 60) (hq : f q = some (.inr (2, [.ref cd, .ref ba, .int (nI n)]))) (hcd : f cd = some (.inl (E.2.2.1 0, 60, .inl (fun j => nI (cb j))))) (hba : f ba = some (.inl (E.2.2.1 0, 180, .inl (fun j => nI (bg j))))) (hi : i < n) : gh_M l y_Qu_partAt b_Qu_partAt 2 (some .int) E sz [.ref q, .int (nI i)] f { frames := 2, cells := 0, slots := 0, locals := 40 } (fun r g => r = some (.int (nI (cb i))) ∧ g = f) := by
  refine gh_open (by decide) (Nat.le_of_ble_eq_true rfl) ?_
  intro p e s m args below meth c A ls hAe C V hr hlocks hname hl
  have hx := C.1
  have hb := C.2.1
  have hl : lv_has ls 2 [(0, .ref q), (1, .int (nI i))] := hl
  refine lv_aload_n hx hb d_Qu_partAt_0 rfl (lv_at hl 0 rfl) ?_
  refine lv_iload_n hx hb d_Qu_partAt_1 rfl (lv_at hl 1 rfl) ?_
  refine gh_callV C V hl.1 m_Qu_byteAt l_Qu_37 (c_Qu_byteAt l E _ f q cd ba n cb bg i hn hq hcd hba (by omega)) rfl hq gc_Qu ⟨by first | decide | omega | (dsimp only; omega), by first | decide | omega | (dsimp only; omega)⟩ ⟨by first | decide | omega | (dsimp only; omega), by first | decide | omega | (dsimp only; omega)⟩ (Nat.le_of_ble_eq_true rfl) rfl d_Qu_partAt_2 (fun r f1 H locs hp V => ?_)
  obtain ⟨rfl, he9⟩ := hp
  rw [he9] at V
  refine W.eq (g2 := F0 m 5 ls [.int (nI (cb i))]) rfl ?_
  refine gh_reti hAe C V hr hlocks d_Qu_partAt_5 (by first | decide | omega | (dsimp only; omega)) (by first | decide | omega | (dsimp only; omega)) ?_
  exact ⟨rfl, rfl⟩
theorem d_Qu_letterOf_0 : decode b_Qu_letterOf 0 = .ok (.aload_n 0, 1) := by decide +kernel
theorem d_Qu_letterOf_1 : decode b_Qu_letterOf 1 = .ok (.iload_n 1, 1) := by decide +kernel
theorem d_Qu_letterOf_2 : decode b_Qu_letterOf 2 = .ok (.iconst 1, 1) := by decide +kernel
theorem d_Qu_letterOf_3 : decode b_Qu_letterOf 3 = .ok (.iadd, 1) := by decide +kernel
theorem d_Qu_letterOf_4 : decode b_Qu_letterOf 4 = .ok (.invokevirtual 37, 3) := by decide +kernel
theorem d_Qu_letterOf_7 : decode b_Qu_letterOf 7 = .ok (.ireturn, 1) := by decide +kernel
set_option maxHeartbeats 4000000 in
set_option maxRecDepth 100000 in
theorem c_Qu_letterOf (l : Launch) (E : gh_E) (sz : Nat) (f : gh_F) (q cd ba n : Nat) (cb bg : Nat → Nat) (i : Nat) (hn : n ≤ 60) (hq : f q = some (.inr (2, [.ref cd, .ref ba, .int (nI n)]))) (hcd : f cd = some (.inl (E.2.2.1 0, 60, .inl (fun j => nI (cb j))))) (hba : f ba = some (.inl (E.2.2.1 0, 180, .inl (fun j => nI (bg j))))) (hi : i + 1 < n) : gh_M l y_Qu_letterOf b_Qu_letterOf 2 (some .int) E sz [.ref q, .int (nI i)] f { frames := 2, cells := 0, slots := 0, locals := 40 } (fun r g => r = some (.int (nI (cb (i + 1)))) ∧ g = f) := by
  refine gh_open (by decide) (Nat.le_of_ble_eq_true rfl) ?_
  intro p e s m args below meth c A ls hAe C V hr hlocks hname hl
  have hx := C.1
  have hb := C.2.1
  have hl : lv_has ls 2 [(0, .ref q), (1, .int (nI i))] := hl
  refine lv_aload_n hx hb d_Qu_letterOf_0 rfl (lv_at hl 0 rfl) ?_
  refine lv_iload_n hx hb d_Qu_letterOf_1 rfl (lv_at hl 1 rfl) ?_
  refine lv_iconst (v := 1) hx hb d_Qu_letterOf_2 (by decide) ?_
  refine gn_iadd (a := i) (b := 1) hx hb d_Qu_letterOf_3 ?_
  refine gh_callV C V hl.1 m_Qu_byteAt l_Qu_37 (c_Qu_byteAt l E _ f q cd ba n cb bg (i + 1) hn hq hcd hba (by omega)) rfl hq gc_Qu ⟨by first | decide | omega | (dsimp only; omega), by first | decide | omega | (dsimp only; omega)⟩ ⟨by first | decide | omega | (dsimp only; omega), by first | decide | omega | (dsimp only; omega)⟩ (Nat.le_of_ble_eq_true rfl) rfl d_Qu_letterOf_4 (fun r f1 H locs hp V => ?_)
  obtain ⟨rfl, he9⟩ := hp
  rw [he9] at V
  refine W.eq (g2 := F0 m 7 ls [.int (nI (cb (i + 1)))]) rfl ?_
  refine gh_reti hAe C V hr hlocks d_Qu_letterOf_7 (by first | decide | omega | (dsimp only; omega)) (by first | decide | omega | (dsimp only; omega)) ?_
  exact ⟨rfl, rfl⟩
theorem d_Qu_numberOf_0 : decode b_Qu_numberOf 0 = .ok (.aload_n 0, 1) := by decide +kernel
theorem d_Qu_numberOf_1 : decode b_Qu_numberOf 1 = .ok (.iload_n 1, 1) := by decide +kernel
theorem d_Qu_numberOf_2 : decode b_Qu_numberOf 2 = .ok (.iconst 1, 1) := by decide +kernel
theorem d_Qu_numberOf_3 : decode b_Qu_numberOf 3 = .ok (.iadd, 1) := by decide +kernel
theorem d_Qu_numberOf_4 : decode b_Qu_numberOf 4 = .ok (.invokevirtual 37, 3) := by decide +kernel
theorem d_Qu_numberOf_7 : decode b_Qu_numberOf 7 = .ok (.sipush 128, 3) := by decide +kernel
theorem d_Qu_numberOf_10 : decode b_Qu_numberOf 10 = .ok (.isub, 1) := by decide +kernel
theorem d_Qu_numberOf_11 : decode b_Qu_numberOf 11 = .ok (.ireturn, 1) := by decide +kernel
set_option maxHeartbeats 4000000 in
set_option maxRecDepth 100000 in
theorem c_Qu_numberOf (l : Launch) (E : gh_E) (sz : Nat) (f : gh_F) (q cd ba n : Nat) (cb bg : Nat → Nat) (i : Nat) (hn : n ≤ 60) (hq : f q = some (.inr (2, [.ref cd, .ref ba, .int (nI n)]))) (hcd : f cd = some (.inl (E.2.2.1 0, 60, .inl (fun j => nI (cb j))))) (hba : f ba = some (.inl (E.2.2.1 0, 180, .inl (fun j => nI (bg j))))) (hi : i + 1 < n) : gh_M l y_Qu_numberOf b_Qu_numberOf 2 (some .int) E sz [.ref q, .int (nI i)] f { frames := 2, cells := 0, slots := 0, locals := 40 } (fun r g => r = some (.int (nI (cb (i + 1)) - 128)) ∧ g = f) := by
  refine gh_open (by decide) (Nat.le_of_ble_eq_true rfl) ?_
  intro p e s m args below meth c A ls hAe C V hr hlocks hname hl
  have hx := C.1
  have hb := C.2.1
  have hl : lv_has ls 2 [(0, .ref q), (1, .int (nI i))] := hl
  refine lv_aload_n hx hb d_Qu_numberOf_0 rfl (lv_at hl 0 rfl) ?_
  refine lv_iload_n hx hb d_Qu_numberOf_1 rfl (lv_at hl 1 rfl) ?_
  refine lv_iconst (v := 1) hx hb d_Qu_numberOf_2 (by decide) ?_
  refine gn_iadd (a := i) (b := 1) hx hb d_Qu_numberOf_3 ?_
  refine gh_callV C V hl.1 m_Qu_byteAt l_Qu_37 (c_Qu_byteAt l E _ f q cd ba n cb bg (i + 1) hn hq hcd hba (by omega)) rfl hq gc_Qu ⟨by first | decide | omega | (dsimp only; omega), by first | decide | omega | (dsimp only; omega)⟩ ⟨by first | decide | omega | (dsimp only; omega), by first | decide | omega | (dsimp only; omega)⟩ (Nat.le_of_ble_eq_true rfl) rfl d_Qu_numberOf_4 (fun r f1 H locs hp V => ?_)
  obtain ⟨rfl, he9⟩ := hp
  rw [he9] at V
  refine W.eq (g2 := F0 m 7 ls [.int (nI (cb (i + 1)))]) rfl ?_
  refine lv_sipush (v := 128) hx hb d_Qu_numberOf_7 (by decide) ?_
  refine lv_isub hx hb d_Qu_numberOf_10 ?_
  refine gh_reti hAe C V hr hlocks d_Qu_numberOf_11 (by first | decide | omega | (dsimp only; omega)) (by first | decide | omega | (dsimp only; omega)) ?_
  exact ⟨rfl, rfl⟩
theorem d_Qu_placeIn_0 : decode b_Qu_placeIn 0 = .ok (.iload_n 1, 1) := by decide +kernel
theorem d_Qu_placeIn_1 : decode b_Qu_placeIn 1 = .ok (.iconst 3, 1) := by decide +kernel
theorem d_Qu_placeIn_2 : decode b_Qu_placeIn 2 = .ok (.imul, 1) := by decide +kernel
theorem d_Qu_placeIn_3 : decode b_Qu_placeIn 3 = .ok (.iload_n 2, 1) := by decide +kernel
theorem d_Qu_placeIn_4 : decode b_Qu_placeIn 4 = .ok (.iadd, 1) := by decide +kernel
theorem d_Qu_placeIn_5 : decode b_Qu_placeIn 5 = .ok (.istore_n 3, 1) := by decide +kernel
theorem d_Qu_placeIn_6 : decode b_Qu_placeIn 6 = .ok (.iload_n 3, 1) := by decide +kernel
theorem d_Qu_placeIn_7 : decode b_Qu_placeIn 7 = .ok (.ifCond .lt 21, 3) := by decide +kernel
theorem d_Qu_placeIn_10 : decode b_Qu_placeIn 10 = .ok (.iload_n 3, 1) := by decide +kernel
theorem d_Qu_placeIn_11 : decode b_Qu_placeIn 11 = .ok (.aload_n 0, 1) := by decide +kernel
theorem d_Qu_placeIn_12 : decode b_Qu_placeIn 12 = .ok (.getfield 13, 3) := by decide +kernel
theorem d_Qu_placeIn_15 : decode b_Qu_placeIn 15 = .ok (.arraylength, 1) := by decide +kernel
theorem d_Qu_placeIn_16 : decode b_Qu_placeIn 16 = .ok (.if_icmp .ge 12, 3) := by decide +kernel
theorem d_Qu_placeIn_19 : decode b_Qu_placeIn 19 = .ok (.aload_n 0, 1) := by decide +kernel
theorem d_Qu_placeIn_20 : decode b_Qu_placeIn 20 = .ok (.getfield 13, 3) := by decide +kernel
theorem d_Qu_placeIn_23 : decode b_Qu_placeIn 23 = .ok (.iload_n 3, 1) := by decide +kernel
theorem d_Qu_placeIn_24 : decode b_Qu_placeIn 24 = .ok (.iaload, 1) := by decide +kernel
theorem d_Qu_placeIn_25 : decode b_Qu_placeIn 25 = .ok (.goto 7, 3) := by decide +kernel
theorem d_Qu_placeIn_28 : decode b_Qu_placeIn 28 = .ok (.aload_n 0, 1) := by decide +kernel
theorem d_Qu_placeIn_29 : decode b_Qu_placeIn 29 = .ok (.getfield 16, 3) := by decide +kernel
theorem d_Qu_placeIn_32 : decode b_Qu_placeIn 32 = .ok (.ireturn, 1) := by decide +kernel
set_option maxHeartbeats 4000000 in
set_option maxRecDepth 100000 in
theorem c_Qu_placeIn (l : Launch) (E : gh_E) (sz : Nat) (f : gh_F) (q cd ba n : Nat) (cb bg : Nat → Nat) (i w9 : Nat) (hn : n ≤ 60) (hq : f q = some (.inr (2, [.ref cd, .ref ba, .int (nI n)]))) (hcd : f cd = some (.inl (E.2.2.1 0, 60, .inl (fun j => nI (cb j))))) (hba : f ba = some (.inl (E.2.2.1 0, 180, .inl (fun j => nI (bg j))))) (hi : i < 60) (hw : w9 < 3) : gh_M l y_Qu_placeIn b_Qu_placeIn 4 (some .int) E sz [.ref q, .int (nI i), .int (nI w9)] f { frames := 1, cells := 0, slots := 0, locals := 12 } (fun r g => r = some (.int (nI (bg (i * 3 + w9)))) ∧ g = f) := by
  refine gh_open (by decide) (Nat.le_of_ble_eq_true rfl) ?_
  intro p e s m args below meth c A ls hAe C V hr hlocks hname hl
  have hx := C.1
  have hb := C.2.1
  have hl : lv_has ls 4 [(0, .ref q), (1, .int (nI i)), (2, .int (nI w9))] := hl
  refine lv_iload_n hx hb d_Qu_placeIn_0 rfl (lv_at hl 1 rfl) ?_
  refine lv_iconst (v := 3) hx hb d_Qu_placeIn_1 (by decide) ?_
  refine gn_imul (a := i) (b := 3) hx hb d_Qu_placeIn_2 ?_
  refine lv_iload_n hx hb d_Qu_placeIn_3 rfl (lv_at hl 2 rfl) ?_
  refine gn_iadd (a := i * 3) (b := w9) hx hb d_Qu_placeIn_4 ?_
  refine lv_istore_n hx hb d_Qu_placeIn_5 rfl hl (by decide) rfl (fun ls hl => ?_)
  have hl : lv_has ls 4 [(3, .int (nI ((i * 3) + w9))), (0, .ref q), (1, .int (nI i)), (2, .int (nI w9))] := hl
  refine lv_iload_n hx hb d_Qu_placeIn_6 rfl (lv_at hl 0 rfl) ?_
  refine lv_if_lt (tgt := 28) hx hb d_Qu_placeIn_7 (by decide) (fun c1 => absurd c1 (nI_pos (by omega))) (fun c1 => ?_)
  refine lv_iload_n hx hb d_Qu_placeIn_10 rfl (lv_at hl 0 rfl) ?_
  refine lv_aload_n hx hb d_Qu_placeIn_11 rfl (lv_at hl 1 rfl) ?_
  refine gh_get C V hq gc_Qu gi_Qu 1 (by decide) f_Qu_13 rfl rfl d_Qu_placeIn_12 ?_
  refine gh_alen (t0 := 0) C V rfl hba (v := nI 180) rfl d_Qu_placeIn_15 ?_
  refine lv_icmp_ge (tgt := 28) hx hb d_Qu_placeIn_16 (by decide) (fun c2 => absurd c2 (nI_ge (by omega) (by omega))) (fun c2 => ?_)
  refine lv_aload_n hx hb d_Qu_placeIn_19 rfl (lv_at hl 1 rfl) ?_
  refine gh_get C V hq gc_Qu gi_Qu 1 (by decide) f_Qu_13 rfl rfl d_Qu_placeIn_20 ?_
  refine lv_iload_n hx hb d_Qu_placeIn_23 rfl (lv_at hl 0 rfl) ?_
  refine gn_iald (i := (i * 3) + w9) C V hba (by omega) (by omega) d_Qu_placeIn_24 ?_
  refine lv_goto (tgt := 32) hx hb d_Qu_placeIn_25 (by decide) ?_
  refine gh_reti hAe C V hr hlocks d_Qu_placeIn_32 (by first | decide | omega | (dsimp only; omega)) (by first | decide | omega | (dsimp only; omega)) ?_
  exact ⟨rfl, rfl⟩
theorem d_Qu_clear_0 : decode b_Qu_clear 0 = .ok (.aload_n 0, 1) := by decide +kernel
theorem d_Qu_clear_1 : decode b_Qu_clear 1 = .ok (.iconst 0, 1) := by decide +kernel
theorem d_Qu_clear_2 : decode b_Qu_clear 2 = .ok (.putfield 16, 3) := by decide +kernel
theorem d_Qu_clear_5 : decode b_Qu_clear 5 = .ok (.return_, 1) := by decide +kernel
set_option maxHeartbeats 4000000 in
set_option maxRecDepth 100000 in
theorem c_Qu_clear (l : Launch) (E : gh_E) (sz : Nat) (f : gh_F) (q cd ba n : Nat) (hq : f q = some (.inr (2, [.ref cd, .ref ba, .int (nI n)]))) : gh_M l y_Qu_clear b_Qu_clear 1 none E sz [.ref q] f { frames := 1, cells := 0, slots := 0, locals := 12 } (fun r g => r = none ∧ g q = some (.inr (2, [.ref cd, .ref ba, .int (nI 0)])) ∧ gh_fr f g (fun b => b ∈ ([q] : List Nat))) := by
  refine gh_open (by decide) (Nat.le_of_ble_eq_true rfl) ?_
  intro p e s m args below meth c A ls hAe C V hr hlocks hname hl
  have hx := C.1
  have hb := C.2.1
  have hl : lv_has ls 1 [(0, .ref q)] := hl
  have hfr : gh_fr f f (fun b => b ∈ ([q] : List Nat)) := gh_fr.rf
  refine lv_aload_n hx hb d_Qu_clear_0 rfl (lv_at hl 0 rfl) ?_
  refine lv_iconst (v := 0) hx hb d_Qu_clear_1 (by decide) ?_
  refine gh_put C V hq gc_Qu gi_Qu ty_Qu nm_Qu 2 (by decide) f_Qu_16 rfl (by first | rfl | decide) (by first | rfl | decide) (Nat.le_of_ble_eq_true rfl) d_Qu_clear_2 (fun H locs V => ?_)
  obtain ⟨f1, hff1⟩ : ∃ z9 : gh_F, z9 = gh_u f q (.inr (2, [.ref cd, .ref ba, .int 0])) := ⟨_, rfl⟩
  have V : gh_V E A f1 s H locs := by rw [hff1]; exact V
  have hfr : gh_fr f f1 (fun b => b ∈ ([q] : List Nat)) := by rw [hff1]; exact hfr.put (Or.inl (by simp))
  have h_q_f1 : f1 q = some (.inr (2, [.ref cd, .ref ba, .int 0])) := by rw [hff1, gh_us]
  refine gh_retv hAe C V hr hlocks d_Qu_clear_5 (by first | decide | omega | (dsimp only; omega)) (by first | decide | omega | (dsimp only; omega)) ?_
  exact ⟨rfl, h_q_f1, hfr⟩
