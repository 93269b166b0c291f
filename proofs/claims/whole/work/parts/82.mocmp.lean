/-! compareLetters, findKey, isLess of the model. Printed by wip/whole/gen_mo6.py. -/
theorem d_Mo_compareLetters_0 : decode b_Mo_compareLetters 0 = .ok (.iconst 0, 1) := by decide +kernel
theorem d_Mo_compareLetters_1 : decode b_Mo_compareLetters 1 = .ok (.istore_n 3, 1) := by decide +kernel
theorem d_Mo_compareLetters_2 : decode b_Mo_compareLetters 2 = .ok (.iload_n 3, 1) := by decide +kernel
theorem d_Mo_compareLetters_3 : decode b_Mo_compareLetters 3 = .ok (.aload_n 0, 1) := by decide +kernel
theorem d_Mo_compareLetters_4 : decode b_Mo_compareLetters 4 = .ok (.getfield 17, 3) := by decide +kernel
theorem d_Mo_compareLetters_7 : decode b_Mo_compareLetters 7 = .ok (.iload_n 1, 1) := by decide +kernel
theorem d_Mo_compareLetters_8 : decode b_Mo_compareLetters 8 = .ok (.iaload, 1) := by decide +kernel
theorem d_Mo_compareLetters_9 : decode b_Mo_compareLetters 9 = .ok (.if_icmp .ge 48, 3) := by decide +kernel
theorem d_Mo_compareLetters_12 : decode b_Mo_compareLetters 12 = .ok (.iload_n 3, 1) := by decide +kernel
theorem d_Mo_compareLetters_13 : decode b_Mo_compareLetters 13 = .ok (.aload_n 0, 1) := by decide +kernel
theorem d_Mo_compareLetters_14 : decode b_Mo_compareLetters 14 = .ok (.getfield 17, 3) := by decide +kernel
theorem d_Mo_compareLetters_17 : decode b_Mo_compareLetters 17 = .ok (.iload_n 2, 1) := by decide +kernel
theorem d_Mo_compareLetters_18 : decode b_Mo_compareLetters 18 = .ok (.iaload, 1) := by decide +kernel
theorem d_Mo_compareLetters_19 : decode b_Mo_compareLetters 19 = .ok (.if_icmp .ge 38, 3) := by decide +kernel
theorem d_Mo_compareLetters_22 : decode b_Mo_compareLetters 22 = .ok (.aload_n 0, 1) := by decide +kernel
theorem d_Mo_compareLetters_23 : decode b_Mo_compareLetters 23 = .ok (.iload_n 1, 1) := by decide +kernel
theorem d_Mo_compareLetters_24 : decode b_Mo_compareLetters 24 = .ok (.iload_n 3, 1) := by decide +kernel
theorem d_Mo_compareLetters_25 : decode b_Mo_compareLetters 25 = .ok (.invokevirtual 146, 3) := by decide +kernel
theorem d_Mo_compareLetters_28 : decode b_Mo_compareLetters 28 = .ok (.aload_n 0, 1) := by decide +kernel
theorem d_Mo_compareLetters_29 : decode b_Mo_compareLetters 29 = .ok (.iload_n 2, 1) := by decide +kernel
theorem d_Mo_compareLetters_30 : decode b_Mo_compareLetters 30 = .ok (.iload_n 3, 1) := by decide +kernel
theorem d_Mo_compareLetters_31 : decode b_Mo_compareLetters 31 = .ok (.invokevirtual 146, 3) := by decide +kernel
theorem d_Mo_compareLetters_34 : decode b_Mo_compareLetters 34 = .ok (.if_icmp .eq 17, 3) := by decide +kernel
theorem d_Mo_compareLetters_37 : decode b_Mo_compareLetters 37 = .ok (.aload_n 0, 1) := by decide +kernel
theorem d_Mo_compareLetters_38 : decode b_Mo_compareLetters 38 = .ok (.iload_n 1, 1) := by decide +kernel
theorem d_Mo_compareLetters_39 : decode b_Mo_compareLetters 39 = .ok (.iload_n 3, 1) := by decide +kernel
theorem d_Mo_compareLetters_40 : decode b_Mo_compareLetters 40 = .ok (.invokevirtual 146, 3) := by decide +kernel
theorem d_Mo_compareLetters_43 : decode b_Mo_compareLetters 43 = .ok (.aload_n 0, 1) := by decide +kernel
theorem d_Mo_compareLetters_44 : decode b_Mo_compareLetters 44 = .ok (.iload_n 2, 1) := by decide +kernel
theorem d_Mo_compareLetters_45 : decode b_Mo_compareLetters 45 = .ok (.iload_n 3, 1) := by decide +kernel
theorem d_Mo_compareLetters_46 : decode b_Mo_compareLetters 46 = .ok (.invokevirtual 146, 3) := by decide +kernel
theorem d_Mo_compareLetters_49 : decode b_Mo_compareLetters 49 = .ok (.isub, 1) := by decide +kernel
theorem d_Mo_compareLetters_50 : decode b_Mo_compareLetters 50 = .ok (.ireturn, 1) := by decide +kernel
theorem d_Mo_compareLetters_51 : decode b_Mo_compareLetters 51 = .ok (.iinc 3 1, 3) := by decide +kernel
theorem d_Mo_compareLetters_54 : decode b_Mo_compareLetters 54 = .ok (.goto (-52), 3) := by decide +kernel
theorem d_Mo_compareLetters_57 : decode b_Mo_compareLetters 57 = .ok (.aload_n 0, 1) := by decide +kernel
theorem d_Mo_compareLetters_58 : decode b_Mo_compareLetters 58 = .ok (.getfield 17, 3) := by decide +kernel
theorem d_Mo_compareLetters_61 : decode b_Mo_compareLetters 61 = .ok (.iload_n 1, 1) := by decide +kernel
theorem d_Mo_compareLetters_62 : decode b_Mo_compareLetters 62 = .ok (.iaload, 1) := by decide +kernel
theorem d_Mo_compareLetters_63 : decode b_Mo_compareLetters 63 = .ok (.aload_n 0, 1) := by decide +kernel
theorem d_Mo_compareLetters_64 : decode b_Mo_compareLetters 64 = .ok (.getfield 17, 3) := by decide +kernel
theorem d_Mo_compareLetters_67 : decode b_Mo_compareLetters 67 = .ok (.iload_n 2, 1) := by decide +kernel
theorem d_Mo_compareLetters_68 : decode b_Mo_compareLetters 68 = .ok (.iaload, 1) := by decide +kernel
theorem d_Mo_compareLetters_69 : decode b_Mo_compareLetters 69 = .ok (.isub, 1) := by decide +kernel
theorem d_Mo_compareLetters_70 : decode b_Mo_compareLetters 70 = .ok (.ireturn, 1) := by decide +kernel
set_option maxHeartbeats 4000000 in
set_option maxRecDepth 100000 in
theorem c_Mo_compareLetters (l : Launch) (E : gh_E) (sz : Nat) (f : gh_F) (a : Nat) (ad : Nat → Nat) (S : Nat → Int32) (I : Nat → Nat → Int32) (J : Nat → Nat → Int64) (x y : Nat) (LA LB : List Int32) (hX : mo_R E f a ad S I J) (hx7 : x < 760) (hy7 : y < 760) (h3x : I 3 x = nI LA.length) (h3y : I 3 y = nI LB.length) (hLA : ml_L J x LA) (hLB : ml_L J y LB) : gh_M l y_Mo_compareLetters b_Mo_compareLetters 4 (some .int) E sz [.ref a, .int (nI x), .int (nI y)] f { frames := 4, cells := 0, slots := 0, locals := 100 } (fun r g => r = some (.int (vt_ord LA LB)) ∧ g = f) := by
  have hA24 := hLA.1
  have hB24 := hLB.1
  refine gh_open (by decide) (Nat.le_of_ble_eq_true rfl) ?_
  intro p e s m args below meth c A ls hAe C V hr hlocks hname hl
  have hx := C.1
  have hb := C.2.1
  have hl : lv_has ls 4 [(0, .ref a), (1, .int (nI x)), (2, .int (nI y))] := hl
  have X : mo_X E f f a ad S I J := ⟨hX, gh_fr.rf⟩
  refine lv_iconst (v := 0) hx hb d_Mo_compareLetters_0 (by decide) ?_
  refine lv_istore_n hx hb d_Mo_compareLetters_1 rfl hl (by decide) rfl (fun ls hl => ?_)
  have hl : lv_has ls 4 [(3, .int 0), (0, .ref a), (1, .int (nI x)), (2, .int (nI y))] := hl
  have hl : lv_has ls 4 [(3, .int 0), (0, .ref a), (1, .int (nI x)), (2, .int (nI y))] := lv_sub hl [0, 1, 2, 3] rfl
  have hl : lv_has ls 4 [(3, .int (nI 0)), (0, .ref a), (1, .int (nI x)), (2, .int (nI y))] := hl
  have loop : ∀ (n9 i9 : Nat) (H : Heap) (locs : List Loc) (ls : Array Slot), i9 + n9 = LA.length → (vt_cmp LA LB n9 i9 = vt_ord LA LB) → gh_V E A f s H locs → lv_has ls 4 [(3, .int (nI i9)), (0, .ref a), (1, .int (nI x)), (2, .int (nI y))] → W p l e { frames := 4, cells := 0, slots := 0, locals := 100 } s m args below meth c H locs 0 0 (MQ below (gh_Q E f (fun r g => r = some (.int (vt_ord LA LB)) ∧ g = f)) args s 0 0 A) (F0 m 2 ls []) := by
    intro n9
    induction n9 with
    | zero =>
      intro i9 H locs ls hi hst V hl
      refine lv_iload_n hx hb d_Mo_compareLetters_2 rfl (lv_at hl 0 rfl) ?_
      refine lv_aload_n hx hb d_Mo_compareLetters_3 rfl (lv_at hl 1 rfl) ?_
      refine mo_getA C V X 3 (by decide) (by decide) f_Mo_17 rfl d_Mo_compareLetters_4 ?_
      refine lv_iload_n hx hb d_Mo_compareLetters_7 rfl (lv_at hl 2 rfl) ?_
      refine mo_ild (k := 3) (i := x) (n := 760) C V X (by decide) (by decide) rfl (by omega) (by decide) d_Mo_compareLetters_8 ?_
      rw [show I 3 x = nI (LA.length) from h3x]
      refine lv_icmp_ge (tgt := 57) hx hb d_Mo_compareLetters_9 (by decide) (fun c1 => ?_) (fun c1 => absurd (nI_le (by omega) (by omega)) c1)
      refine lv_aload_n hx hb d_Mo_compareLetters_57 rfl (lv_at hl 1 rfl) ?_
      refine mo_getA C V X 3 (by decide) (by decide) f_Mo_17 rfl d_Mo_compareLetters_58 ?_
      refine lv_iload_n hx hb d_Mo_compareLetters_61 rfl (lv_at hl 2 rfl) ?_
      refine mo_ild (k := 3) (i := x) (n := 760) C V X (by decide) (by decide) rfl (by omega) (by decide) d_Mo_compareLetters_62 ?_
      rw [show I 3 x = nI (LA.length) from h3x]
      refine lv_aload_n hx hb d_Mo_compareLetters_63 rfl (lv_at hl 1 rfl) ?_
      refine mo_getA C V X 3 (by decide) (by decide) f_Mo_17 rfl d_Mo_compareLetters_64 ?_
      refine lv_iload_n hx hb d_Mo_compareLetters_67 rfl (lv_at hl 3 rfl) ?_
      refine mo_ild (k := 3) (i := y) (n := 760) C V X (by decide) (by decide) rfl (by omega) (by decide) d_Mo_compareLetters_68 ?_
      rw [show I 3 y = nI (LB.length) from h3y]
      refine lv_isub hx hb d_Mo_compareLetters_69 ?_
      refine gh_reti hAe C V hr hlocks d_Mo_compareLetters_70 (by first | decide | omega | (dsimp only; omega)) (by first | decide | omega | (dsimp only; omega)) ?_
      exact ⟨by rw [← hst]; rfl, rfl⟩
    | succ n9 ih =>
      intro i9 H locs ls hi hst V hl
      refine lv_iload_n hx hb d_Mo_compareLetters_2 rfl (lv_at hl 0 rfl) ?_
      refine lv_aload_n hx hb d_Mo_compareLetters_3 rfl (lv_at hl 1 rfl) ?_
      refine mo_getA C V X 3 (by decide) (by decide) f_Mo_17 rfl d_Mo_compareLetters_4 ?_
      refine lv_iload_n hx hb d_Mo_compareLetters_7 rfl (lv_at hl 2 rfl) ?_
      refine mo_ild (k := 3) (i := x) (n := 760) C V X (by decide) (by decide) rfl (by omega) (by decide) d_Mo_compareLetters_8 ?_
      rw [show I 3 x = nI (LA.length) from h3x]
      refine lv_icmp_ge (tgt := 57) hx hb d_Mo_compareLetters_9 (by decide) (fun c2 => absurd c2 (nI_ge (by omega) (by omega))) (fun c2 => ?_)
      refine lv_iload_n hx hb d_Mo_compareLetters_12 rfl (lv_at hl 0 rfl) ?_
      refine lv_aload_n hx hb d_Mo_compareLetters_13 rfl (lv_at hl 1 rfl) ?_
      refine mo_getA C V X 3 (by decide) (by decide) f_Mo_17 rfl d_Mo_compareLetters_14 ?_
      refine lv_iload_n hx hb d_Mo_compareLetters_17 rfl (lv_at hl 3 rfl) ?_
      refine mo_ild (k := 3) (i := y) (n := 760) C V X (by decide) (by decide) rfl (by omega) (by decide) d_Mo_compareLetters_18 ?_
      rw [show I 3 y = nI (LB.length) from h3y]
      refine lv_icmp_ge (tgt := 57) hx hb d_Mo_compareLetters_19 (by decide) (fun c3 => ?_) (fun c3 => ?_)
      · have c3 : LB.length ≤ i9 := by rw [← gq_le (a := LB.length) (b := i9) (by omega) (by omega)]; exact c3
        refine lv_aload_n hx hb d_Mo_compareLetters_57 rfl (lv_at hl 1 rfl) ?_
        refine mo_getA C V X 3 (by decide) (by decide) f_Mo_17 rfl d_Mo_compareLetters_58 ?_
        refine lv_iload_n hx hb d_Mo_compareLetters_61 rfl (lv_at hl 2 rfl) ?_
        refine mo_ild (k := 3) (i := x) (n := 760) C V X (by decide) (by decide) rfl (by omega) (by decide) d_Mo_compareLetters_62 ?_
        rw [show I 3 x = nI (LA.length) from h3x]
        refine lv_aload_n hx hb d_Mo_compareLetters_63 rfl (lv_at hl 1 rfl) ?_
        refine mo_getA C V X 3 (by decide) (by decide) f_Mo_17 rfl d_Mo_compareLetters_64 ?_
        refine lv_iload_n hx hb d_Mo_compareLetters_67 rfl (lv_at hl 3 rfl) ?_
        refine mo_ild (k := 3) (i := y) (n := 760) C V X (by decide) (by decide) rfl (by omega) (by decide) d_Mo_compareLetters_68 ?_
        rw [show I 3 y = nI (LB.length) from h3y]
        refine lv_isub hx hb d_Mo_compareLetters_69 ?_
        refine gh_reti hAe C V hr hlocks d_Mo_compareLetters_70 (by first | decide | omega | (dsimp only; omega)) (by first | decide | omega | (dsimp only; omega)) ?_
        exact ⟨by rw [← hst, vt_cmp, if_neg (by omega)], rfl⟩
      · have c3 : ¬ LB.length ≤ i9 := by rw [← gq_le (a := LB.length) (b := i9) (by omega) (by omega)]; exact c3
        refine lv_aload_n hx hb d_Mo_compareLetters_22 rfl (lv_at hl 1 rfl) ?_
        refine lv_iload_n hx hb d_Mo_compareLetters_23 rfl (lv_at hl 2 rfl) ?_
        refine lv_iload_n hx hb d_Mo_compareLetters_24 rfl (lv_at hl 0 rfl) ?_
        refine gh_callV C V hl.1 m_Mo_letterOf l_Mo_146 (c_Mo_letterOf l E _ _ a ad _ _ _ x i9 X.1 (by omega) (by omega)) rfl X.1.1 gc_Mo ⟨by first | decide | omega | (dsimp only; omega), by first | decide | omega | (dsimp only; omega)⟩ ⟨by first | decide | omega | (dsimp only; omega), by first | decide | omega | (dsimp only; omega)⟩ (Nat.le_of_ble_eq_true rfl) rfl d_Mo_compareLetters_25 (fun r z9 H locs hp V1 => ?_)
        rw [hLA.2 i9 (by omega)] at hp
        obtain ⟨rfl, he9⟩ := hp
        rw [he9] at V1
        have V := V1
        refine W.eq (g2 := F0 m 28 ls [.int (LA.getD i9 0)]) rfl ?_
        refine lv_aload_n hx hb d_Mo_compareLetters_28 rfl (lv_at hl 1 rfl) ?_
        refine lv_iload_n hx hb d_Mo_compareLetters_29 rfl (lv_at hl 3 rfl) ?_
        refine lv_iload_n hx hb d_Mo_compareLetters_30 rfl (lv_at hl 0 rfl) ?_
        refine gh_callV C V hl.1 m_Mo_letterOf l_Mo_146 (c_Mo_letterOf l E _ _ a ad _ _ _ y i9 X.1 (by omega) (by omega)) rfl X.1.1 gc_Mo ⟨by first | decide | omega | (dsimp only; omega), by first | decide | omega | (dsimp only; omega)⟩ ⟨by first | decide | omega | (dsimp only; omega), by first | decide | omega | (dsimp only; omega)⟩ (Nat.le_of_ble_eq_true rfl) rfl d_Mo_compareLetters_31 (fun r z9 H locs hp V1 => ?_)
        rw [hLB.2 i9 (by omega)] at hp
        obtain ⟨rfl, he9⟩ := hp
        rw [he9] at V1
        have V := V1
        refine W.eq (g2 := F0 m 34 ls [.int (LB.getD i9 0), .int (LA.getD i9 0)]) rfl ?_
        refine lv_icmp_eq (tgt := 51) hx hb d_Mo_compareLetters_34 (by decide) (fun c4 => ?_) (fun c4 => ?_)
        · refine lv_iinc (k := 0) (v := (nI i9) + 1) hx hb d_Mo_compareLetters_51 hl rfl (by rfl) (by decide) rfl (fun ls hl => ?_)
          have hl : lv_has ls 4 [(3, .int (nI (i9 + 1))), (0, .ref a), (1, .int (nI x)), (2, .int (nI y))] := by rw [nI_succ]; exact hl
          refine lv_goto (tgt := 2) hx hb d_Mo_compareLetters_54 (by decide) ?_
          have hl : lv_has ls 4 [(3, .int (nI (i9 + 1))), (0, .ref a), (1, .int (nI x)), (2, .int (nI y))] := lv_sub hl [0, 1, 2, 3] rfl
          have hl : lv_has ls 4 [(3, .int (nI (i9 + 1))), (0, .ref a), (1, .int (nI x)), (2, .int (nI y))] := hl
          exact ih (i9 + 1) H locs ls (by omega) (by rw [← hst, vt_cmp, if_pos (by omega), if_pos (by assumption)]) V hl
        · refine lv_aload_n hx hb d_Mo_compareLetters_37 rfl (lv_at hl 1 rfl) ?_
          refine lv_iload_n hx hb d_Mo_compareLetters_38 rfl (lv_at hl 2 rfl) ?_
          refine lv_iload_n hx hb d_Mo_compareLetters_39 rfl (lv_at hl 0 rfl) ?_
          refine gh_callV C V hl.1 m_Mo_letterOf l_Mo_146 (c_Mo_letterOf l E _ _ a ad _ _ _ x i9 X.1 (by omega) (by omega)) rfl X.1.1 gc_Mo ⟨by first | decide | omega | (dsimp only; omega), by first | decide | omega | (dsimp only; omega)⟩ ⟨by first | decide | omega | (dsimp only; omega), by first | decide | omega | (dsimp only; omega)⟩ (Nat.le_of_ble_eq_true rfl) rfl d_Mo_compareLetters_40 (fun r z9 H locs hp V1 => ?_)
          rw [hLA.2 i9 (by omega)] at hp
          obtain ⟨rfl, he9⟩ := hp
          rw [he9] at V1
          have V := V1
          refine W.eq (g2 := F0 m 43 ls [.int (LA.getD i9 0)]) rfl ?_
          refine lv_aload_n hx hb d_Mo_compareLetters_43 rfl (lv_at hl 1 rfl) ?_
          refine lv_iload_n hx hb d_Mo_compareLetters_44 rfl (lv_at hl 3 rfl) ?_
          refine lv_iload_n hx hb d_Mo_compareLetters_45 rfl (lv_at hl 0 rfl) ?_
          refine gh_callV C V hl.1 m_Mo_letterOf l_Mo_146 (c_Mo_letterOf l E _ _ a ad _ _ _ y i9 X.1 (by omega) (by omega)) rfl X.1.1 gc_Mo ⟨by first | decide | omega | (dsimp only; omega), by first | decide | omega | (dsimp only; omega)⟩ ⟨by first | decide | omega | (dsimp only; omega), by first | decide | omega | (dsimp only; omega)⟩ (Nat.le_of_ble_eq_true rfl) rfl d_Mo_compareLetters_46 (fun r z9 H locs hp V1 => ?_)
          rw [hLB.2 i9 (by omega)] at hp
          obtain ⟨rfl, he9⟩ := hp
          rw [he9] at V1
          have V := V1
          refine W.eq (g2 := F0 m 49 ls [.int (LB.getD i9 0), .int (LA.getD i9 0)]) rfl ?_
          refine lv_isub hx hb d_Mo_compareLetters_49 ?_
          refine gh_reti hAe C V hr hlocks d_Mo_compareLetters_50 (by first | decide | omega | (dsimp only; omega)) (by first | decide | omega | (dsimp only; omega)) ?_
          exact ⟨by rw [← hst, vt_cmp, if_pos (by omega), if_neg (by assumption)], rfl⟩
  exact loop (LA.length) 0 _ _ ls (by omega) rfl V hl
theorem d_Mo_findKey_0 : decode b_Mo_findKey 0 = .ok (.iconst 0, 1) := by decide +kernel
theorem d_Mo_findKey_1 : decode b_Mo_findKey 1 = .ok (.istore_n 3, 1) := by decide +kernel
theorem d_Mo_findKey_2 : decode b_Mo_findKey 2 = .ok (.iload_n 3, 1) := by decide +kernel
theorem d_Mo_findKey_3 : decode b_Mo_findKey 3 = .ok (.aload_n 0, 1) := by decide +kernel
theorem d_Mo_findKey_4 : decode b_Mo_findKey 4 = .ok (.getfield 17, 3) := by decide +kernel
theorem d_Mo_findKey_7 : decode b_Mo_findKey 7 = .ok (.iload_n 1, 1) := by decide +kernel
theorem d_Mo_findKey_8 : decode b_Mo_findKey 8 = .ok (.iaload, 1) := by decide +kernel
theorem d_Mo_findKey_9 : decode b_Mo_findKey 9 = .ok (.if_icmp .ge 25, 3) := by decide +kernel
theorem d_Mo_findKey_12 : decode b_Mo_findKey 12 = .ok (.aload_n 0, 1) := by decide +kernel
theorem d_Mo_findKey_13 : decode b_Mo_findKey 13 = .ok (.aload_n 0, 1) := by decide +kernel
theorem d_Mo_findKey_14 : decode b_Mo_findKey 14 = .ok (.iload_n 1, 1) := by decide +kernel
theorem d_Mo_findKey_15 : decode b_Mo_findKey 15 = .ok (.iload_n 3, 1) := by decide +kernel
theorem d_Mo_findKey_16 : decode b_Mo_findKey 16 = .ok (.invokevirtual 150, 3) := by decide +kernel
theorem d_Mo_findKey_19 : decode b_Mo_findKey 19 = .ok (.iload_n 2, 1) := by decide +kernel
theorem d_Mo_findKey_20 : decode b_Mo_findKey 20 = .ok (.invokevirtual 153, 3) := by decide +kernel
theorem d_Mo_findKey_23 : decode b_Mo_findKey 23 = .ok (.ifCond .ne 5, 3) := by decide +kernel
theorem d_Mo_findKey_26 : decode b_Mo_findKey 26 = .ok (.iload_n 3, 1) := by decide +kernel
theorem d_Mo_findKey_27 : decode b_Mo_findKey 27 = .ok (.ireturn, 1) := by decide +kernel
theorem d_Mo_findKey_28 : decode b_Mo_findKey 28 = .ok (.iinc 3 1, 3) := by decide +kernel
theorem d_Mo_findKey_31 : decode b_Mo_findKey 31 = .ok (.goto (-29), 3) := by decide +kernel
theorem d_Mo_findKey_34 : decode b_Mo_findKey 34 = .ok (.iconst (-1), 1) := by decide +kernel
theorem d_Mo_findKey_35 : decode b_Mo_findKey 35 = .ok (.ireturn, 1) := by decide +kernel
set_option maxHeartbeats 4000000 in
set_option maxRecDepth 100000 in
theorem c_Mo_findKey (l : Launch) (E : gh_E) (sz : Nat) (f : gh_F) (a : Nat) (ad : Nat → Nat) (S : Nat → Int32) (I : Nat → Nat → Int32) (J : Nat → Nat → Int64) (b0 nv v y fv : Nat) (O : vt) (K : Nat → Nat) (LB : List Int32) (hX : mo_R E f a ad S I J) (hv7 : v < 760) (hy7 : y < 760) (h3v : I 3 v = nI (vt_c O)) (hfv : I 9 v = nI fv) (hc16 : vt_c O ≤ 16) (hp8 : fv + vt_c O + vt_c O ≤ 8800) (hqc : (vt_q O).length = vt_c O) (hK : ∀ j, j < vt_c O → I 10 (fv + vt_c O + j) = nI (K j) ∧ mv_S I J b0 nv (K j) ((vt_q O).getD j [])) (h3y : I 3 y = nI LB.length) (hLB : ml_L J y LB) : gh_M l y_Mo_findKey b_Mo_findKey 4 (some .int) E sz [.ref a, .int (nI v), .int (nI y)] f { frames := 5, cells := 0, slots := 0, locals := 140 } (fun r g => r = some (.int (vt_oi (vt_find (vt_q O) LB))) ∧ g = f) := by
  refine gh_open (by decide) (Nat.le_of_ble_eq_true rfl) ?_
  intro p e s m args below meth c A ls hAe C V hr hlocks hname hl
  have hx := C.1
  have hb := C.2.1
  have hl : lv_has ls 4 [(0, .ref a), (1, .int (nI v)), (2, .int (nI y))] := hl
  have X : mo_X E f f a ad S I J := ⟨hX, gh_fr.rf⟩
  refine lv_iconst (v := 0) hx hb d_Mo_findKey_0 (by decide) ?_
  refine lv_istore_n hx hb d_Mo_findKey_1 rfl hl (by decide) rfl (fun ls hl => ?_)
  have hl : lv_has ls 4 [(3, .int 0), (0, .ref a), (1, .int (nI v)), (2, .int (nI y))] := hl
  have hl : lv_has ls 4 [(3, .int 0), (0, .ref a), (1, .int (nI v)), (2, .int (nI y))] := lv_sub hl [0, 1, 2, 3] rfl
  have hl : lv_has ls 4 [(3, .int (nI 0)), (0, .ref a), (1, .int (nI v)), (2, .int (nI y))] := hl
  have loop : ∀ (n9 i9 : Nat) (H : Heap) (locs : List Loc) (ls : Array Slot), i9 + n9 = vt_c O → (vt_fd (vt_q O) LB n9 i9 = vt_find (vt_q O) LB) → gh_V E A f s H locs → lv_has ls 4 [(3, .int (nI i9)), (0, .ref a), (1, .int (nI v)), (2, .int (nI y))] → W p l e { frames := 5, cells := 0, slots := 0, locals := 140 } s m args below meth c H locs 0 0 (MQ below (gh_Q E f (fun r g => r = some (.int (vt_oi (vt_find (vt_q O) LB))) ∧ g = f)) args s 0 0 A) (F0 m 2 ls []) := by
    intro n9
    induction n9 with
    | zero =>
      intro i9 H locs ls hi hst V hl
      refine lv_iload_n hx hb d_Mo_findKey_2 rfl (lv_at hl 0 rfl) ?_
      refine lv_aload_n hx hb d_Mo_findKey_3 rfl (lv_at hl 1 rfl) ?_
      refine mo_getA C V X 3 (by decide) (by decide) f_Mo_17 rfl d_Mo_findKey_4 ?_
      refine lv_iload_n hx hb d_Mo_findKey_7 rfl (lv_at hl 2 rfl) ?_
      refine mo_ild (k := 3) (i := v) (n := 760) C V X (by decide) (by decide) rfl (by omega) (by decide) d_Mo_findKey_8 ?_
      rw [show I 3 v = nI (vt_c O) from h3v]
      refine lv_icmp_ge (tgt := 34) hx hb d_Mo_findKey_9 (by decide) (fun c1 => ?_) (fun c1 => absurd (nI_le (by omega) (by omega)) c1)
      refine lv_iconst (v := (-1)) hx hb d_Mo_findKey_34 (by decide) ?_
      refine gh_reti hAe C V hr hlocks d_Mo_findKey_35 (by first | decide | omega | (dsimp only; omega)) (by first | decide | omega | (dsimp only; omega)) ?_
      exact ⟨by rw [← hst]; rfl, rfl⟩
    | succ n9 ih =>
      intro i9 H locs ls hi hst V hl
      refine lv_iload_n hx hb d_Mo_findKey_2 rfl (lv_at hl 0 rfl) ?_
      refine lv_aload_n hx hb d_Mo_findKey_3 rfl (lv_at hl 1 rfl) ?_
      refine mo_getA C V X 3 (by decide) (by decide) f_Mo_17 rfl d_Mo_findKey_4 ?_
      refine lv_iload_n hx hb d_Mo_findKey_7 rfl (lv_at hl 2 rfl) ?_
      refine mo_ild (k := 3) (i := v) (n := 760) C V X (by decide) (by decide) rfl (by omega) (by decide) d_Mo_findKey_8 ?_
      rw [show I 3 v = nI (vt_c O) from h3v]
      refine lv_icmp_ge (tgt := 34) hx hb d_Mo_findKey_9 (by decide) (fun c2 => absurd c2 (nI_ge (by omega) (by omega))) (fun c2 => ?_)
      refine lv_aload_n hx hb d_Mo_findKey_12 rfl (lv_at hl 1 rfl) ?_
      refine lv_aload_n hx hb d_Mo_findKey_13 rfl (lv_at hl 1 rfl) ?_
      refine lv_iload_n hx hb d_Mo_findKey_14 rfl (lv_at hl 2 rfl) ?_
      refine lv_iload_n hx hb d_Mo_findKey_15 rfl (lv_at hl 0 rfl) ?_
      refine gh_callV C V hl.1 m_Mo_keyOf l_Mo_150 (c_Mo_keyOf l E _ _ a ad _ _ _ v i9 fv (vt_c O) X.1 (by omega) hfv h3v (by omega)) rfl X.1.1 gc_Mo ⟨by first | decide | omega | (dsimp only; omega), by first | decide | omega | (dsimp only; omega)⟩ ⟨by first | decide | omega | (dsimp only; omega), by first | decide | omega | (dsimp only; omega)⟩ (Nat.le_of_ble_eq_true rfl) rfl d_Mo_findKey_16 (fun r z9 H locs hp V1 => ?_)
      rw [(hK i9 (by omega)).1] at hp
      obtain ⟨rfl, he9⟩ := hp
      rw [he9] at V1
      have V := V1
      refine W.eq (g2 := F0 m 19 ls [.int (nI (K i9)), .ref a]) rfl ?_
      refine lv_iload_n hx hb d_Mo_findKey_19 rfl (lv_at hl 3 rfl) ?_
      refine gh_callV C V hl.1 m_Mo_compareLetters l_Mo_153 (c_Mo_compareLetters l E _ _ a ad _ _ _ (K i9) y ((vt_q O).getD i9 []) LB X.1 (hK i9 (by omega)).2.1.2 hy7 (hK i9 (by omega)).2.2.2.2.1 h3y (hK i9 (by omega)).2.2.2.2.2.1 hLB) rfl X.1.1 gc_Mo ⟨by first | decide | omega | (dsimp only; omega), by first | decide | omega | (dsimp only; omega)⟩ ⟨by first | decide | omega | (dsimp only; omega), by first | decide | omega | (dsimp only; omega)⟩ (Nat.le_of_ble_eq_true rfl) rfl d_Mo_findKey_20 (fun r z9 H locs hp V1 => ?_)
      obtain ⟨rfl, he9⟩ := hp
      rw [he9] at V1
      have V := V1
      refine W.eq (g2 := F0 m 23 ls [.int (vt_ord ((vt_q O).getD i9 []) LB)]) rfl ?_
      refine lv_if_ne (tgt := 28) hx hb d_Mo_findKey_23 (by decide) (fun c3 => ?_) (fun c3 => ?_)
      · refine lv_iinc (k := 0) (v := (nI i9) + 1) hx hb d_Mo_findKey_28 hl rfl (by rfl) (by decide) rfl (fun ls hl => ?_)
        have hl : lv_has ls 4 [(3, .int (nI (i9 + 1))), (0, .ref a), (1, .int (nI v)), (2, .int (nI y))] := by rw [nI_succ]; exact hl
        refine lv_goto (tgt := 2) hx hb d_Mo_findKey_31 (by decide) ?_
        have hl : lv_has ls 4 [(3, .int (nI (i9 + 1))), (0, .ref a), (1, .int (nI v)), (2, .int (nI y))] := lv_sub hl [0, 1, 2, 3] rfl
        have hl : lv_has ls 4 [(3, .int (nI (i9 + 1))), (0, .ref a), (1, .int (nI v)), (2, .int (nI y))] := hl
        exact ih (i9 + 1) H locs ls (by omega) (by rw [← hst, vt_fd, if_neg (by assumption)]) V hl
      · refine lv_iload_n hx hb d_Mo_findKey_26 rfl (lv_at hl 0 rfl) ?_
        refine gh_reti hAe C V hr hlocks d_Mo_findKey_27 (by first | decide | omega | (dsimp only; omega)) (by first | decide | omega | (dsimp only; omega)) ?_
        exact ⟨by rw [← hst, vt_fd, if_pos (by assumption)]; rfl, rfl⟩
  exact loop (vt_c O) 0 _ _ ls (by omega) (by unfold vt_find; rw [hqc]) V hl
