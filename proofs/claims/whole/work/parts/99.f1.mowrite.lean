/-! writeWord, writeLetters of the model. Printed by wip/whole/gen_mo30.py. -/
theorem d_Mo_writeWord_0 : decode b_Mo_writeWord 0 = .ok (.aload_n 0, 1) := by decide +kernel
theorem d_Mo_writeWord_1 : decode b_Mo_writeWord 1 = .ok (.iload_n 1, 1) := by decide +kernel
theorem d_Mo_writeWord_2 : decode b_Mo_writeWord 2 = .ok (.invokevirtual 388, 3) := by decide +kernel
theorem d_Mo_writeWord_5 : decode b_Mo_writeWord 5 = .ok (.aload_n 0, 1) := by decide +kernel
theorem d_Mo_writeWord_6 : decode b_Mo_writeWord 6 = .ok (.iload_n 2, 1) := by decide +kernel
theorem d_Mo_writeWord_7 : decode b_Mo_writeWord 7 = .ok (.invokevirtual 388, 3) := by decide +kernel
theorem d_Mo_writeWord_10 : decode b_Mo_writeWord 10 = .ok (.aload_n 0, 1) := by decide +kernel
theorem d_Mo_writeWord_11 : decode b_Mo_writeWord 11 = .ok (.iload_n 3, 1) := by decide +kernel
theorem d_Mo_writeWord_12 : decode b_Mo_writeWord 12 = .ok (.invokevirtual 388, 3) := by decide +kernel
theorem d_Mo_writeWord_15 : decode b_Mo_writeWord 15 = .ok (.aload_n 0, 1) := by decide +kernel
theorem d_Mo_writeWord_16 : decode b_Mo_writeWord 16 = .ok (.iload 4, 2) := by decide +kernel
theorem d_Mo_writeWord_18 : decode b_Mo_writeWord 18 = .ok (.invokevirtual 388, 3) := by decide +kernel
theorem d_Mo_writeWord_21 : decode b_Mo_writeWord 21 = .ok (.return_, 1) := by decide +kernel
set_option maxHeartbeats 4000000 in
set_option maxRecDepth 100000 in
theorem c_Mo_writeWord (l : Launch) (E : gh_E) (sz : Nat) (f : gh_F) (a : Nat) (ad : Nat → Nat) (S : Nat → Int32) (I : Nat → Nat → Int32) (J : Nat → Nat → Int64) (x1 x2 x3 x4 : Int32) (n : Nat) (hX : mo_R E f a ad S I J) (h55 : S 55 = nI n) : gh_M l y_Mo_writeWord b_Mo_writeWord 5 none E sz [.ref a, .int x1, .int x2, .int x3, .int x4] f { frames := 5, cells := 0, slots := 0, locals := 100 } (fun r g => r = none ∧ ∃ S2, mo_X E f g a ad S2 I J ∧ wQ n S [x1, x2, x3, x4] S2) := by
  have hq : wQ n S [] S := wQ.nil h55
  refine gh_open (by decide) (Nat.le_of_ble_eq_true rfl) ?_
  intro p e s m args below meth c A ls hAe C V hr hlocks hname hl
  have hx := C.1
  have hb := C.2.1
  have hl : lv_has ls 5 [(0, .ref a), (1, .int x1), (2, .int x2), (3, .int x3), (4, .int x4)] := hl
  have X : mo_X E f f a ad S I J := ⟨hX, gh_fr.rf⟩
  refine lv_aload_n hx hb d_Mo_writeWord_0 rfl (lv_at hl 0 rfl) ?_
  refine lv_iload_n hx hb d_Mo_writeWord_1 rfl (lv_at hl 1 rfl) ?_
  refine gh_callV C V hl.1 m_Mo_write l_Mo_388 (c_Mo_wr l E _ _ a ad _ _ _ x1 _ X.1 hq.at55) rfl X.1.1 gc_Mo ⟨by first | decide | omega | (dsimp only; omega), by first | decide | omega | (dsimp only; omega)⟩ ⟨by first | decide | omega | (dsimp only; omega), by first | decide | omega | (dsimp only; omega)⟩ (Nat.le_of_ble_eq_true rfl) rfl d_Mo_writeWord_2 (fun r z9 H locs hp V1 => ?_)
  obtain ⟨rfl, S1, X2, hq2⟩ := hp
  have hq := hq.tr hq2
  have X := X.then X2
  have V := V1
  refine W.eq (g2 := F0 m 5 ls []) rfl ?_
  refine lv_aload_n hx hb d_Mo_writeWord_5 rfl (lv_at hl 0 rfl) ?_
  refine lv_iload_n hx hb d_Mo_writeWord_6 rfl (lv_at hl 2 rfl) ?_
  refine gh_callV C V hl.1 m_Mo_write l_Mo_388 (c_Mo_wr l E _ _ a ad _ _ _ x2 _ X.1 hq.at55) rfl X.1.1 gc_Mo ⟨by first | decide | omega | (dsimp only; omega), by first | decide | omega | (dsimp only; omega)⟩ ⟨by first | decide | omega | (dsimp only; omega), by first | decide | omega | (dsimp only; omega)⟩ (Nat.le_of_ble_eq_true rfl) rfl d_Mo_writeWord_7 (fun r z9 H locs hp V1 => ?_)
  obtain ⟨rfl, S2, X2, hq2⟩ := hp
  have hq := hq.tr hq2
  have X := X.then X2
  have V := V1
  refine W.eq (g2 := F0 m 10 ls []) rfl ?_
  refine lv_aload_n hx hb d_Mo_writeWord_10 rfl (lv_at hl 0 rfl) ?_
  refine lv_iload_n hx hb d_Mo_writeWord_11 rfl (lv_at hl 3 rfl) ?_
  refine gh_callV C V hl.1 m_Mo_write l_Mo_388 (c_Mo_wr l E _ _ a ad _ _ _ x3 _ X.1 hq.at55) rfl X.1.1 gc_Mo ⟨by first | decide | omega | (dsimp only; omega), by first | decide | omega | (dsimp only; omega)⟩ ⟨by first | decide | omega | (dsimp only; omega), by first | decide | omega | (dsimp only; omega)⟩ (Nat.le_of_ble_eq_true rfl) rfl d_Mo_writeWord_12 (fun r z9 H locs hp V1 => ?_)
  obtain ⟨rfl, S3, X2, hq2⟩ := hp
  have hq := hq.tr hq2
  have X := X.then X2
  have V := V1
  refine W.eq (g2 := F0 m 15 ls []) rfl ?_
  refine lv_aload_n hx hb d_Mo_writeWord_15 rfl (lv_at hl 0 rfl) ?_
  refine lv_iload hx hb d_Mo_writeWord_16 (lv_at hl 4 rfl) ?_
  refine gh_callV C V hl.1 m_Mo_write l_Mo_388 (c_Mo_wr l E _ _ a ad _ _ _ x4 _ X.1 hq.at55) rfl X.1.1 gc_Mo ⟨by first | decide | omega | (dsimp only; omega), by first | decide | omega | (dsimp only; omega)⟩ ⟨by first | decide | omega | (dsimp only; omega), by first | decide | omega | (dsimp only; omega)⟩ (Nat.le_of_ble_eq_true rfl) rfl d_Mo_writeWord_18 (fun r z9 H locs hp V1 => ?_)
  obtain ⟨rfl, S4, X2, hq2⟩ := hp
  have hq := hq.tr hq2
  have X := X.then X2
  have V := V1
  refine W.eq (g2 := F0 m 21 ls []) rfl ?_
  refine gh_retv hAe C V hr hlocks d_Mo_writeWord_21 (by first | decide | omega | (dsimp only; omega)) (by first | decide | omega | (dsimp only; omega)) ?_
  exact ⟨rfl, _, X, hq⟩
theorem d_Mo_writeLetters_0 : decode b_Mo_writeLetters 0 = .ok (.aload_n 0, 1) := by decide +kernel
theorem d_Mo_writeLetters_1 : decode b_Mo_writeLetters 1 = .ok (.bipush 34, 2) := by decide +kernel
theorem d_Mo_writeLetters_3 : decode b_Mo_writeLetters 3 = .ok (.invokevirtual 388, 3) := by decide +kernel
theorem d_Mo_writeLetters_6 : decode b_Mo_writeLetters 6 = .ok (.iconst 0, 1) := by decide +kernel
theorem d_Mo_writeLetters_7 : decode b_Mo_writeLetters 7 = .ok (.istore_n 2, 1) := by decide +kernel
theorem d_Mo_writeLetters_8 : decode b_Mo_writeLetters 8 = .ok (.iload_n 2, 1) := by decide +kernel
theorem d_Mo_writeLetters_9 : decode b_Mo_writeLetters 9 = .ok (.aload_n 0, 1) := by decide +kernel
theorem d_Mo_writeLetters_10 : decode b_Mo_writeLetters 10 = .ok (.getfield 17, 3) := by decide +kernel
theorem d_Mo_writeLetters_13 : decode b_Mo_writeLetters 13 = .ok (.iload_n 1, 1) := by decide +kernel
theorem d_Mo_writeLetters_14 : decode b_Mo_writeLetters 14 = .ok (.iaload, 1) := by decide +kernel
theorem d_Mo_writeLetters_15 : decode b_Mo_writeLetters 15 = .ok (.if_icmp .ge 39, 3) := by decide +kernel
theorem d_Mo_writeLetters_18 : decode b_Mo_writeLetters 18 = .ok (.aload_n 0, 1) := by decide +kernel
theorem d_Mo_writeLetters_19 : decode b_Mo_writeLetters 19 = .ok (.iload_n 1, 1) := by decide +kernel
theorem d_Mo_writeLetters_20 : decode b_Mo_writeLetters 20 = .ok (.iload_n 2, 1) := by decide +kernel
theorem d_Mo_writeLetters_21 : decode b_Mo_writeLetters 21 = .ok (.invokevirtual 146, 3) := by decide +kernel
theorem d_Mo_writeLetters_24 : decode b_Mo_writeLetters 24 = .ok (.istore_n 3, 1) := by decide +kernel
theorem d_Mo_writeLetters_25 : decode b_Mo_writeLetters 25 = .ok (.iload_n 3, 1) := by decide +kernel
theorem d_Mo_writeLetters_26 : decode b_Mo_writeLetters 26 = .ok (.bipush 34, 2) := by decide +kernel
theorem d_Mo_writeLetters_28 : decode b_Mo_writeLetters 28 = .ok (.if_icmp .eq 9, 3) := by decide +kernel
theorem d_Mo_writeLetters_31 : decode b_Mo_writeLetters 31 = .ok (.iload_n 3, 1) := by decide +kernel
theorem d_Mo_writeLetters_32 : decode b_Mo_writeLetters 32 = .ok (.bipush 92, 2) := by decide +kernel
theorem d_Mo_writeLetters_34 : decode b_Mo_writeLetters 34 = .ok (.if_icmp .ne 9, 3) := by decide +kernel
theorem d_Mo_writeLetters_37 : decode b_Mo_writeLetters 37 = .ok (.aload_n 0, 1) := by decide +kernel
theorem d_Mo_writeLetters_38 : decode b_Mo_writeLetters 38 = .ok (.bipush 92, 2) := by decide +kernel
theorem d_Mo_writeLetters_40 : decode b_Mo_writeLetters 40 = .ok (.invokevirtual 388, 3) := by decide +kernel
theorem d_Mo_writeLetters_43 : decode b_Mo_writeLetters 43 = .ok (.aload_n 0, 1) := by decide +kernel
theorem d_Mo_writeLetters_44 : decode b_Mo_writeLetters 44 = .ok (.iload_n 3, 1) := by decide +kernel
theorem d_Mo_writeLetters_45 : decode b_Mo_writeLetters 45 = .ok (.invokevirtual 388, 3) := by decide +kernel
theorem d_Mo_writeLetters_48 : decode b_Mo_writeLetters 48 = .ok (.iinc 2 1, 3) := by decide +kernel
theorem d_Mo_writeLetters_51 : decode b_Mo_writeLetters 51 = .ok (.goto (-43), 3) := by decide +kernel
theorem d_Mo_writeLetters_54 : decode b_Mo_writeLetters 54 = .ok (.aload_n 0, 1) := by decide +kernel
theorem d_Mo_writeLetters_55 : decode b_Mo_writeLetters 55 = .ok (.bipush 34, 2) := by decide +kernel
theorem d_Mo_writeLetters_57 : decode b_Mo_writeLetters 57 = .ok (.invokevirtual 388, 3) := by decide +kernel
theorem d_Mo_writeLetters_60 : decode b_Mo_writeLetters 60 = .ok (.return_, 1) := by decide +kernel
set_option maxHeartbeats 4000000 in
set_option maxRecDepth 100000 in
theorem c_Mo_writeLetters (l : Launch) (E : gh_E) (sz : Nat) (f : gh_F) (a : Nat) (ad : Nat → Nat) (S : Nat → Int32) (I : Nat → Nat → Int32) (J : Nat → Nat → Int64) (v n : Nat) (L : List Int32) (hX : mo_R E f a ad S I J) (hv7 : v < 760) (h3 : I 3 v = nI L.length) (hL : ml_L J v L) (h55 : S 55 = nI n) : gh_M l y_Mo_writeLetters b_Mo_writeLetters 4 none E sz [.ref a, .int (nI v)] f { frames := 6, cells := 0, slots := 0, locals := 140 } (fun r g => r = none ∧ ∃ S2, mo_X E f g a ad S2 I J ∧ wQ n S (wr_t L) S2) := by
  have hq : wQ n S [] S := wQ.nil h55
  have h24 := hL.1
  refine gh_open (by decide) (Nat.le_of_ble_eq_true rfl) ?_
  intro p e s m args below meth c A ls hAe C V hr hlocks hname hl
  have hx := C.1
  have hb := C.2.1
  have hl : lv_has ls 4 [(0, .ref a), (1, .int (nI v))] := hl
  have X : mo_X E f f a ad S I J := ⟨hX, gh_fr.rf⟩
  refine lv_aload_n hx hb d_Mo_writeLetters_0 rfl (lv_at hl 0 rfl) ?_
  refine lv_bipush (v := 34) hx hb d_Mo_writeLetters_1 (by decide) ?_
  refine gh_callV C V hl.1 m_Mo_write l_Mo_388 (c_Mo_wr l E _ _ a ad _ _ _ 34 _ X.1 hq.at55) rfl X.1.1 gc_Mo ⟨by first | decide | omega | (dsimp only; omega), by first | decide | omega | (dsimp only; omega)⟩ ⟨by first | decide | omega | (dsimp only; omega), by first | decide | omega | (dsimp only; omega)⟩ (Nat.le_of_ble_eq_true rfl) rfl d_Mo_writeLetters_3 (fun r z9 H locs hp V1 => ?_)
  obtain ⟨rfl, S1, X2, hq2⟩ := hp
  have hq := hq.tr hq2
  have X := X.then X2
  have V := V1
  refine W.eq (g2 := F0 m 6 ls []) rfl ?_
  refine lv_iconst (v := 0) hx hb d_Mo_writeLetters_6 (by decide) ?_
  refine lv_istore_n hx hb d_Mo_writeLetters_7 rfl hl (by decide) rfl (fun ls hl => ?_)
  have hl : lv_has ls 4 [(2, .int 0), (0, .ref a), (1, .int (nI v))] := hl
  have hq : wQ n S ([34] ++ wr_s L 0) S1 := hq
  have hl : lv_has ls 4 [(2, .int 0), (0, .ref a), (1, .int (nI v))] := lv_sub hl [0, 1, 2] rfl
  have hl : lv_has ls 4 [(2, .int (nI 0)), (0, .ref a), (1, .int (nI v))] := hl
  have loop : ∀ (n9 i9 : Nat) (S1 : Nat → Int32) (I1 : mo_I) (f1 : gh_F) (H : Heap) (locs : List Loc) (ls : Array Slot), i9 + n9 = L.length → (wQ n S ([34] ++ wr_s L i9) S1) → (I1 = I) → mo_X E f f1 a ad S1 I1 J → gh_V E A f1 s H locs → lv_has ls 4 [(2, .int (nI i9)), (0, .ref a), (1, .int (nI v))] → W p l e { frames := 6, cells := 0, slots := 0, locals := 140 } s m args below meth c H locs 0 0 (MQ below (gh_Q E f (fun r g => r = none ∧ ∃ S2, mo_X E f g a ad S2 I J ∧ wQ n S (wr_t L) S2)) args s 0 0 A) (F0 m 8 ls []) := by
    intro n9
    induction n9 with
    | zero =>
      intro i9 S1 I1 f1 H locs ls hi hq qI X V hl
      rw [qI] at X
      have hi9 : i9 = L.length := by omega
      rw [hi9] at hq
      refine lv_iload_n hx hb d_Mo_writeLetters_8 rfl (lv_at hl 0 rfl) ?_
      refine lv_aload_n hx hb d_Mo_writeLetters_9 rfl (lv_at hl 1 rfl) ?_
      refine mo_getA C V X 3 (by decide) (by decide) f_Mo_17 rfl d_Mo_writeLetters_10 ?_
      refine lv_iload_n hx hb d_Mo_writeLetters_13 rfl (lv_at hl 2 rfl) ?_
      refine mo_ild (k := 3) (i := v) (n := 760) C V X (by decide) (by decide) rfl (by omega) (by decide) d_Mo_writeLetters_14 ?_
      rw [show I 3 v = nI L.length from h3]
      refine lv_icmp_ge (tgt := 54) hx hb d_Mo_writeLetters_15 (by decide) (fun c2 => ?_) (fun c2 => absurd (nI_le (by omega) (by omega)) c2)
      refine lv_aload_n hx hb d_Mo_writeLetters_54 rfl (lv_at hl 1 rfl) ?_
      refine lv_bipush (v := 34) hx hb d_Mo_writeLetters_55 (by decide) ?_
      refine gh_callV C V hl.1 m_Mo_write l_Mo_388 (c_Mo_wr l E _ _ a ad _ _ _ 34 _ X.1 hq.at55) rfl X.1.1 gc_Mo ⟨by first | decide | omega | (dsimp only; omega), by first | decide | omega | (dsimp only; omega)⟩ ⟨by first | decide | omega | (dsimp only; omega), by first | decide | omega | (dsimp only; omega)⟩ (Nat.le_of_ble_eq_true rfl) rfl d_Mo_writeLetters_57 (fun r z9 H locs hp V1 => ?_)
      obtain ⟨rfl, S3, X2, hq2⟩ := hp
      have hq := hq.tr hq2
      have X := X.then X2
      have V := V1
      refine W.eq (g2 := F0 m 60 ls []) rfl ?_
      refine gh_retv hAe C V hr hlocks d_Mo_writeLetters_60 (by first | decide | omega | (dsimp only; omega)) (by first | decide | omega | (dsimp only; omega)) ?_
      exact ⟨rfl, _, X, hq⟩
    | succ n9 ih =>
      intro i9 S1 I1 f1 H locs ls hi hq qI X V hl
      rw [qI] at X
      refine lv_iload_n hx hb d_Mo_writeLetters_8 rfl (lv_at hl 0 rfl) ?_
      refine lv_aload_n hx hb d_Mo_writeLetters_9 rfl (lv_at hl 1 rfl) ?_
      refine mo_getA C V X 3 (by decide) (by decide) f_Mo_17 rfl d_Mo_writeLetters_10 ?_
      refine lv_iload_n hx hb d_Mo_writeLetters_13 rfl (lv_at hl 2 rfl) ?_
      refine mo_ild (k := 3) (i := v) (n := 760) C V X (by decide) (by decide) rfl (by omega) (by decide) d_Mo_writeLetters_14 ?_
      rw [show I 3 v = nI L.length from h3]
      refine lv_icmp_ge (tgt := 54) hx hb d_Mo_writeLetters_15 (by decide) (fun c4 => absurd c4 (nI_ge (by omega) (by omega))) (fun c4 => ?_)
      refine lv_aload_n hx hb d_Mo_writeLetters_18 rfl (lv_at hl 1 rfl) ?_
      refine lv_iload_n hx hb d_Mo_writeLetters_19 rfl (lv_at hl 2 rfl) ?_
      refine lv_iload_n hx hb d_Mo_writeLetters_20 rfl (lv_at hl 0 rfl) ?_
      refine gh_callV C V hl.1 m_Mo_letterOf l_Mo_146 (c_Mo_letterOf l E _ _ a ad _ _ _ v i9 X.1 hv7 (by omega)) rfl X.1.1 gc_Mo ⟨by first | decide | omega | (dsimp only; omega), by first | decide | omega | (dsimp only; omega)⟩ ⟨by first | decide | omega | (dsimp only; omega), by first | decide | omega | (dsimp only; omega)⟩ (Nat.le_of_ble_eq_true rfl) rfl d_Mo_writeLetters_21 (fun r z9 H locs hp V1 => ?_)
      obtain ⟨rfl, he9⟩ := hp
      rw [he9] at V1
      have V := V1
      rw [hL.2 i9 (by omega)]
      refine W.eq (g2 := F0 m 24 ls [.int (L.getD i9 0)]) rfl ?_
      refine lv_istore_n hx hb d_Mo_writeLetters_24 rfl hl (by decide) rfl (fun ls hl => ?_)
      have hl : lv_has ls 4 [(3, .int (L.getD i9 0)), (2, .int (nI i9)), (0, .ref a), (1, .int (nI v))] := hl
      refine lv_iload_n hx hb d_Mo_writeLetters_25 rfl (lv_at hl 0 rfl) ?_
      refine lv_bipush (v := 34) hx hb d_Mo_writeLetters_26 (by decide) ?_
      refine lv_icmp_eq (tgt := 37) hx hb d_Mo_writeLetters_28 (by decide) (fun c5 => ?_) (fun c5 => ?_)
      · refine lv_aload_n hx hb d_Mo_writeLetters_37 rfl (lv_at hl 2 rfl) ?_
        refine lv_bipush (v := 92) hx hb d_Mo_writeLetters_38 (by decide) ?_
        refine gh_callV C V hl.1 m_Mo_write l_Mo_388 (c_Mo_wr l E _ _ a ad _ _ _ 92 _ X.1 hq.at55) rfl X.1.1 gc_Mo ⟨by first | decide | omega | (dsimp only; omega), by first | decide | omega | (dsimp only; omega)⟩ ⟨by first | decide | omega | (dsimp only; omega), by first | decide | omega | (dsimp only; omega)⟩ (Nat.le_of_ble_eq_true rfl) rfl d_Mo_writeLetters_40 (fun r z9 H locs hp V1 => ?_)
        obtain ⟨rfl, S6, X2, hq2⟩ := hp
        have hq := hq.tr hq2
        have X := X.then X2
        have V := V1
        refine W.eq (g2 := F0 m 43 ls []) rfl ?_
        refine lv_aload_n hx hb d_Mo_writeLetters_43 rfl (lv_at hl 2 rfl) ?_
        refine lv_iload_n hx hb d_Mo_writeLetters_44 rfl (lv_at hl 0 rfl) ?_
        refine gh_callV C V hl.1 m_Mo_write l_Mo_388 (c_Mo_wr l E _ _ a ad _ _ _ (L.getD i9 0) _ X.1 hq.at55) rfl X.1.1 gc_Mo ⟨by first | decide | omega | (dsimp only; omega), by first | decide | omega | (dsimp only; omega)⟩ ⟨by first | decide | omega | (dsimp only; omega), by first | decide | omega | (dsimp only; omega)⟩ (Nat.le_of_ble_eq_true rfl) rfl d_Mo_writeLetters_45 (fun r z9 H locs hp V1 => ?_)
        obtain ⟨rfl, S7, X2, hq2⟩ := hp
        have hq := hq.tr hq2
        have X := X.then X2
        have V := V1
        refine W.eq (g2 := F0 m 48 ls []) rfl ?_
        refine lv_iinc (k := 1) (v := (nI i9) + 1) hx hb d_Mo_writeLetters_48 hl rfl (by rfl) (by decide) rfl (fun ls hl => ?_)
        have hl : lv_has ls 4 [(2, .int (nI (i9 + 1))), (3, .int (L.getD i9 0)), (0, .ref a), (1, .int (nI v))] := by rw [nI_succ]; exact hl
        refine lv_goto (tgt := 8) hx hb d_Mo_writeLetters_51 (by decide) ?_
        have hl : lv_has ls 4 [(2, .int (nI (i9 + 1))), (0, .ref a), (1, .int (nI v))] := lv_sub hl [0, 2, 3] rfl
        have hl : lv_has ls 4 [(2, .int (nI (i9 + 1))), (0, .ref a), (1, .int (nI v))] := hl
        refine ih (i9 + 1) _ _ _ H locs ls (by omega) (hq.eq ?_) rfl X V hl
        show _ = [34] ++ (wr_s L i9 ++ wr_e (L.getD i9 0))
        unfold wr_e
        first | (rw [if_pos (Or.inl (by assumption))]; simp [List.append_assoc]) | (rw [if_pos (Or.inr (by assumption))]; simp [List.append_assoc]) | (rw [if_neg (fun z => z.elim (by assumption) (by assumption))]; simp [List.append_assoc])
      · refine lv_iload_n hx hb d_Mo_writeLetters_31 rfl (lv_at hl 0 rfl) ?_
        refine lv_bipush (v := 92) hx hb d_Mo_writeLetters_32 (by decide) ?_
        refine lv_icmp_ne (tgt := 43) hx hb d_Mo_writeLetters_34 (by decide) (fun c8 => ?_) (fun c8 => ?_)
        · refine lv_aload_n hx hb d_Mo_writeLetters_43 rfl (lv_at hl 2 rfl) ?_
          refine lv_iload_n hx hb d_Mo_writeLetters_44 rfl (lv_at hl 0 rfl) ?_
          refine gh_callV C V hl.1 m_Mo_write l_Mo_388 (c_Mo_wr l E _ _ a ad _ _ _ (L.getD i9 0) _ X.1 hq.at55) rfl X.1.1 gc_Mo ⟨by first | decide | omega | (dsimp only; omega), by first | decide | omega | (dsimp only; omega)⟩ ⟨by first | decide | omega | (dsimp only; omega), by first | decide | omega | (dsimp only; omega)⟩ (Nat.le_of_ble_eq_true rfl) rfl d_Mo_writeLetters_45 (fun r z9 H locs hp V1 => ?_)
          obtain ⟨rfl, S9, X2, hq2⟩ := hp
          have hq := hq.tr hq2
          have X := X.then X2
          have V := V1
          refine W.eq (g2 := F0 m 48 ls []) rfl ?_
          refine lv_iinc (k := 1) (v := (nI i9) + 1) hx hb d_Mo_writeLetters_48 hl rfl (by rfl) (by decide) rfl (fun ls hl => ?_)
          have hl : lv_has ls 4 [(2, .int (nI (i9 + 1))), (3, .int (L.getD i9 0)), (0, .ref a), (1, .int (nI v))] := by rw [nI_succ]; exact hl
          refine lv_goto (tgt := 8) hx hb d_Mo_writeLetters_51 (by decide) ?_
          have hl : lv_has ls 4 [(2, .int (nI (i9 + 1))), (0, .ref a), (1, .int (nI v))] := lv_sub hl [0, 2, 3] rfl
          have hl : lv_has ls 4 [(2, .int (nI (i9 + 1))), (0, .ref a), (1, .int (nI v))] := hl
          refine ih (i9 + 1) _ _ _ H locs ls (by omega) (hq.eq ?_) rfl X V hl
          show _ = [34] ++ (wr_s L i9 ++ wr_e (L.getD i9 0))
          unfold wr_e
          first | (rw [if_pos (Or.inl (by assumption))]; simp [List.append_assoc]) | (rw [if_pos (Or.inr (by assumption))]; simp [List.append_assoc]) | (rw [if_neg (fun z => z.elim (by assumption) (by assumption))]; simp [List.append_assoc])
        · refine lv_aload_n hx hb d_Mo_writeLetters_37 rfl (lv_at hl 2 rfl) ?_
          refine lv_bipush (v := 92) hx hb d_Mo_writeLetters_38 (by decide) ?_
          refine gh_callV C V hl.1 m_Mo_write l_Mo_388 (c_Mo_wr l E _ _ a ad _ _ _ 92 _ X.1 hq.at55) rfl X.1.1 gc_Mo ⟨by first | decide | omega | (dsimp only; omega), by first | decide | omega | (dsimp only; omega)⟩ ⟨by first | decide | omega | (dsimp only; omega), by first | decide | omega | (dsimp only; omega)⟩ (Nat.le_of_ble_eq_true rfl) rfl d_Mo_writeLetters_40 (fun r z9 H locs hp V1 => ?_)
          obtain ⟨rfl, S10, X2, hq2⟩ := hp
          have hq := hq.tr hq2
          have X := X.then X2
          have V := V1
          refine W.eq (g2 := F0 m 43 ls []) rfl ?_
          refine lv_aload_n hx hb d_Mo_writeLetters_43 rfl (lv_at hl 2 rfl) ?_
          refine lv_iload_n hx hb d_Mo_writeLetters_44 rfl (lv_at hl 0 rfl) ?_
          refine gh_callV C V hl.1 m_Mo_write l_Mo_388 (c_Mo_wr l E _ _ a ad _ _ _ (L.getD i9 0) _ X.1 hq.at55) rfl X.1.1 gc_Mo ⟨by first | decide | omega | (dsimp only; omega), by first | decide | omega | (dsimp only; omega)⟩ ⟨by first | decide | omega | (dsimp only; omega), by first | decide | omega | (dsimp only; omega)⟩ (Nat.le_of_ble_eq_true rfl) rfl d_Mo_writeLetters_45 (fun r z9 H locs hp V1 => ?_)
          obtain ⟨rfl, S11, X2, hq2⟩ := hp
          have hq := hq.tr hq2
          have X := X.then X2
          have V := V1
          refine W.eq (g2 := F0 m 48 ls []) rfl ?_
          refine lv_iinc (k := 1) (v := (nI i9) + 1) hx hb d_Mo_writeLetters_48 hl rfl (by rfl) (by decide) rfl (fun ls hl => ?_)
          have hl : lv_has ls 4 [(2, .int (nI (i9 + 1))), (3, .int (L.getD i9 0)), (0, .ref a), (1, .int (nI v))] := by rw [nI_succ]; exact hl
          refine lv_goto (tgt := 8) hx hb d_Mo_writeLetters_51 (by decide) ?_
          have hl : lv_has ls 4 [(2, .int (nI (i9 + 1))), (0, .ref a), (1, .int (nI v))] := lv_sub hl [0, 2, 3] rfl
          have hl : lv_has ls 4 [(2, .int (nI (i9 + 1))), (0, .ref a), (1, .int (nI v))] := hl
          refine ih (i9 + 1) _ _ _ H locs ls (by omega) (hq.eq ?_) rfl X V hl
          show _ = [34] ++ (wr_s L i9 ++ wr_e (L.getD i9 0))
          unfold wr_e
          first | (rw [if_pos (Or.inl (by assumption))]; simp [List.append_assoc]) | (rw [if_pos (Or.inr (by assumption))]; simp [List.append_assoc]) | (rw [if_neg (fun z => z.elim (by assumption) (by assumption))]; simp [List.append_assoc])
  exact loop (L.length) 0 _ _ _ _ _ ls (by omega) hq rfl X V hl
