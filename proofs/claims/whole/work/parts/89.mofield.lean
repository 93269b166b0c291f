/-! check, field, item, measure of the model. Printed by wip/whole/gen_mo10.py. -/
theorem d_Mo_check_0 : decode b_Mo_check 0 = .ok (.aload_n 0, 1) := by decide +kernel
theorem d_Mo_check_1 : decode b_Mo_check 1 = .ok (.getfield 20, 3) := by decide +kernel
theorem d_Mo_check_4 : decode b_Mo_check 4 = .ok (.iload_n 1, 1) := by decide +kernel
theorem d_Mo_check_5 : decode b_Mo_check 5 = .ok (.iaload, 1) := by decide +kernel
theorem d_Mo_check_6 : decode b_Mo_check 6 = .ok (.bipush 100, 2) := by decide +kernel
theorem d_Mo_check_8 : decode b_Mo_check 8 = .ok (.if_icmp .gt 14, 3) := by decide +kernel
theorem d_Mo_check_11 : decode b_Mo_check 11 = .ok (.aload_n 0, 1) := by decide +kernel
theorem d_Mo_check_12 : decode b_Mo_check 12 = .ok (.getfield 23, 3) := by decide +kernel
theorem d_Mo_check_15 : decode b_Mo_check 15 = .ok (.iload_n 1, 1) := by decide +kernel
theorem d_Mo_check_16 : decode b_Mo_check 16 = .ok (.iaload, 1) := by decide +kernel
theorem d_Mo_check_17 : decode b_Mo_check 17 = .ok (.bipush 8, 2) := by decide +kernel
theorem d_Mo_check_19 : decode b_Mo_check 19 = .ok (.if_icmp .le 11, 3) := by decide +kernel
theorem d_Mo_check_22 : decode b_Mo_check 22 = .ok (.aload_n 0, 1) := by decide +kernel
theorem d_Mo_check_23 : decode b_Mo_check 23 = .ok (.iconst 3, 1) := by decide +kernel
theorem d_Mo_check_24 : decode b_Mo_check 24 = .ok (.invokevirtual 289, 3) := by decide +kernel
theorem d_Mo_check_27 : decode b_Mo_check 27 = .ok (.goto 8, 3) := by decide +kernel
theorem d_Mo_check_30 : decode b_Mo_check 30 = .ok (.aload_n 0, 1) := by decide +kernel
theorem d_Mo_check_31 : decode b_Mo_check 31 = .ok (.iload_n 1, 1) := by decide +kernel
theorem d_Mo_check_32 : decode b_Mo_check 32 = .ok (.invokevirtual 342, 3) := by decide +kernel
theorem d_Mo_check_35 : decode b_Mo_check 35 = .ok (.return_, 1) := by decide +kernel
set_option maxHeartbeats 4000000 in
set_option maxRecDepth 100000 in
theorem c_Mo_check (l : Launch) (E : gh_E) (sz : Nat) (f : gh_F) (a : Nat) (ad : Nat → Nat) (S : Nat → Int32) (I : Nat → Nat → Int32) (J : Nat → Nat → Int64) (v w9 h9 wt : Nat) (hX : mo_R E f a ad S I J) (hv7 : v < 760) (h4 : I 4 v = nI w9) (h5 : I 5 v = nI h9) (hw : w9 < 10000) (hh : h9 < 10000) (hS45 : S 45 = nI (wt + 1)) : gh_M l y_Mo_check b_Mo_check 2 none E sz [.ref a, .int (nI v)] f { frames := 5, cells := 0, slots := 0, locals := 140 } (fun r g => r = none ∧ mo_X E f g a ad (if w9 ≤ 100 ∧ h9 ≤ 8 then va_up (va_up (va_up S 47 (nI v)) 45 (nI wt)) 46 1 else va_up (va_up S 45 (nI wt)) 46 3) I J) := by
  refine gh_open (by decide) (Nat.le_of_ble_eq_true rfl) ?_
  intro p e s m args below meth c A ls hAe C V hr hlocks hname hl
  have hx := C.1
  have hb := C.2.1
  have hl : lv_has ls 2 [(0, .ref a), (1, .int (nI v))] := hl
  have X : mo_X E f f a ad S I J := ⟨hX, gh_fr.rf⟩
  refine lv_aload_n hx hb d_Mo_check_0 rfl (lv_at hl 0 rfl) ?_
  refine mo_getA C V X 4 (by decide) (by decide) f_Mo_20 rfl d_Mo_check_1 ?_
  refine lv_iload_n hx hb d_Mo_check_4 rfl (lv_at hl 1 rfl) ?_
  refine mo_ild (k := 4) (i := v) (n := 760) C V X (by decide) (by decide) rfl (by omega) (by decide) d_Mo_check_5 ?_
  rw [show I 4 v = nI w9 from h4]
  refine lv_bipush (v := 100) hx hb d_Mo_check_6 (by decide) ?_
  refine lv_icmp_gt (tgt := 22) hx hb d_Mo_check_8 (by decide) (fun c1 => ?_) (fun c1 => ?_)
  · have c1 : 100 < w9 := by rw [← gq_lt (a := 100) (b := w9) (by omega) (by omega)]; exact c1
    refine lv_aload_n hx hb d_Mo_check_22 rfl (lv_at hl 0 rfl) ?_
    refine lv_iconst (v := 3) hx hb d_Mo_check_23 (by decide) ?_
    refine gh_callV C V hl.1 m_Mo_tell l_Mo_289 (c_Mo_tell l E _ _ a ad _ _ _ 3 wt X.1 hS45) rfl X.1.1 gc_Mo ⟨by first | decide | omega | (dsimp only; omega), by first | decide | omega | (dsimp only; omega)⟩ ⟨by first | decide | omega | (dsimp only; omega), by first | decide | omega | (dsimp only; omega)⟩ (Nat.le_of_ble_eq_true rfl) rfl d_Mo_check_24 (fun r z9 H locs hp V1 => ?_)
    obtain ⟨rfl, X2⟩ := hp
    have X := X.then X2
    have V := V1
    refine W.eq (g2 := F0 m 27 ls []) rfl ?_
    refine lv_goto (tgt := 35) hx hb d_Mo_check_27 (by decide) ?_
    refine gh_retv hAe C V hr hlocks d_Mo_check_35 (by first | decide | omega | (dsimp only; omega)) (by first | decide | omega | (dsimp only; omega)) ?_
    rw [if_neg (by omega)]
    exact ⟨rfl, X⟩
  · have c1 : ¬ 100 < w9 := by rw [← gq_lt (a := 100) (b := w9) (by omega) (by omega)]; exact c1
    refine lv_aload_n hx hb d_Mo_check_11 rfl (lv_at hl 0 rfl) ?_
    refine mo_getA C V X 5 (by decide) (by decide) f_Mo_23 rfl d_Mo_check_12 ?_
    refine lv_iload_n hx hb d_Mo_check_15 rfl (lv_at hl 1 rfl) ?_
    refine mo_ild (k := 5) (i := v) (n := 760) C V X (by decide) (by decide) rfl (by omega) (by decide) d_Mo_check_16 ?_
    rw [show I 5 v = nI h9 from h5]
    refine lv_bipush (v := 8) hx hb d_Mo_check_17 (by decide) ?_
    refine lv_icmp_le (tgt := 30) hx hb d_Mo_check_19 (by decide) (fun c2 => ?_) (fun c2 => ?_)
    · have c2 : h9 ≤ 8 := by rw [← gq_le (a := h9) (b := 8) (by omega) (by omega)]; exact c2
      refine lv_aload_n hx hb d_Mo_check_30 rfl (lv_at hl 0 rfl) ?_
      refine lv_iload_n hx hb d_Mo_check_31 rfl (lv_at hl 1 rfl) ?_
      refine gh_callV C V hl.1 m_Mo_give l_Mo_342 (c_Mo_give l E _ _ a ad _ _ _ (nI v) wt X.1 hS45) rfl X.1.1 gc_Mo ⟨by first | decide | omega | (dsimp only; omega), by first | decide | omega | (dsimp only; omega)⟩ ⟨by first | decide | omega | (dsimp only; omega), by first | decide | omega | (dsimp only; omega)⟩ (Nat.le_of_ble_eq_true rfl) rfl d_Mo_check_32 (fun r z9 H locs hp V1 => ?_)
      obtain ⟨rfl, X2⟩ := hp
      have X := X.then X2
      have V := V1
      refine W.eq (g2 := F0 m 35 ls []) rfl ?_
      refine gh_retv hAe C V hr hlocks d_Mo_check_35 (by first | decide | omega | (dsimp only; omega)) (by first | decide | omega | (dsimp only; omega)) ?_
      rw [if_pos (by omega)]
      exact ⟨rfl, X⟩
    · have c2 : ¬ h9 ≤ 8 := by rw [← gq_le (a := h9) (b := 8) (by omega) (by omega)]; exact c2
      refine lv_aload_n hx hb d_Mo_check_22 rfl (lv_at hl 0 rfl) ?_
      refine lv_iconst (v := 3) hx hb d_Mo_check_23 (by decide) ?_
      refine gh_callV C V hl.1 m_Mo_tell l_Mo_289 (c_Mo_tell l E _ _ a ad _ _ _ 3 wt X.1 hS45) rfl X.1.1 gc_Mo ⟨by first | decide | omega | (dsimp only; omega), by first | decide | omega | (dsimp only; omega)⟩ ⟨by first | decide | omega | (dsimp only; omega), by first | decide | omega | (dsimp only; omega)⟩ (Nat.le_of_ble_eq_true rfl) rfl d_Mo_check_24 (fun r z9 H locs hp V1 => ?_)
      obtain ⟨rfl, X2⟩ := hp
      have X := X.then X2
      have V := V1
      refine W.eq (g2 := F0 m 27 ls []) rfl ?_
      refine lv_goto (tgt := 35) hx hb d_Mo_check_27 (by decide) ?_
      refine gh_retv hAe C V hr hlocks d_Mo_check_35 (by first | decide | omega | (dsimp only; omega)) (by first | decide | omega | (dsimp only; omega)) ?_
      rw [if_neg (by omega)]
      exact ⟨rfl, X⟩
theorem d_Mo_field_0 : decode b_Mo_field 0 = .ok (.aload_n 0, 1) := by decide +kernel
theorem d_Mo_field_1 : decode b_Mo_field 1 = .ok (.getfield 7, 3) := by decide +kernel
theorem d_Mo_field_4 : decode b_Mo_field 4 = .ok (.iload_n 1, 1) := by decide +kernel
theorem d_Mo_field_5 : decode b_Mo_field 5 = .ok (.iaload, 1) := by decide +kernel
theorem d_Mo_field_6 : decode b_Mo_field 6 = .ok (.bipush 6, 2) := by decide +kernel
theorem d_Mo_field_8 : decode b_Mo_field 8 = .ok (.if_icmp .ne 15, 3) := by decide +kernel
theorem d_Mo_field_11 : decode b_Mo_field 11 = .ok (.aload_n 0, 1) := by decide +kernel
theorem d_Mo_field_12 : decode b_Mo_field 12 = .ok (.iload_n 1, 1) := by decide +kernel
theorem d_Mo_field_13 : decode b_Mo_field 13 = .ok (.iload_n 2, 1) := by decide +kernel
theorem d_Mo_field_14 : decode b_Mo_field 14 = .ok (.bipush 94, 2) := by decide +kernel
theorem d_Mo_field_16 : decode b_Mo_field 16 = .ok (.isub, 1) := by decide +kernel
theorem d_Mo_field_17 : decode b_Mo_field 17 = .ok (.invokevirtual 173, 3) := by decide +kernel
theorem d_Mo_field_20 : decode b_Mo_field 20 = .ok (.goto 4, 3) := by decide +kernel
theorem d_Mo_field_23 : decode b_Mo_field 23 = .ok (.iconst (-1), 1) := by decide +kernel
theorem d_Mo_field_24 : decode b_Mo_field 24 = .ok (.istore_n 3, 1) := by decide +kernel
theorem d_Mo_field_25 : decode b_Mo_field 25 = .ok (.iload_n 3, 1) := by decide +kernel
theorem d_Mo_field_26 : decode b_Mo_field 26 = .ok (.ifCond .lt 16, 3) := by decide +kernel
theorem d_Mo_field_29 : decode b_Mo_field 29 = .ok (.aload_n 0, 1) := by decide +kernel
theorem d_Mo_field_30 : decode b_Mo_field 30 = .ok (.aload_n 0, 1) := by decide +kernel
theorem d_Mo_field_31 : decode b_Mo_field 31 = .ok (.iload_n 1, 1) := by decide +kernel
theorem d_Mo_field_32 : decode b_Mo_field 32 = .ok (.iload_n 3, 1) := by decide +kernel
theorem d_Mo_field_33 : decode b_Mo_field 33 = .ok (.invokevirtual 176, 3) := by decide +kernel
theorem d_Mo_field_36 : decode b_Mo_field 36 = .ok (.invokevirtual 342, 3) := by decide +kernel
theorem d_Mo_field_39 : decode b_Mo_field 39 = .ok (.goto 36, 3) := by decide +kernel
theorem d_Mo_field_42 : decode b_Mo_field 42 = .ok (.aload_n 0, 1) := by decide +kernel
theorem d_Mo_field_43 : decode b_Mo_field 43 = .ok (.getfield 7, 3) := by decide +kernel
theorem d_Mo_field_46 : decode b_Mo_field 46 = .ok (.iload_n 1, 1) := by decide +kernel
theorem d_Mo_field_47 : decode b_Mo_field 47 = .ok (.iaload, 1) := by decide +kernel
theorem d_Mo_field_48 : decode b_Mo_field 48 = .ok (.bipush 6, 2) := by decide +kernel
theorem d_Mo_field_50 : decode b_Mo_field 50 = .ok (.if_icmp .eq 12, 3) := by decide +kernel
theorem d_Mo_field_53 : decode b_Mo_field 53 = .ok (.aload_n 0, 1) := by decide +kernel
theorem d_Mo_field_54 : decode b_Mo_field 54 = .ok (.getfield 7, 3) := by decide +kernel
theorem d_Mo_field_57 : decode b_Mo_field 57 = .ok (.iload_n 1, 1) := by decide +kernel
theorem d_Mo_field_58 : decode b_Mo_field 58 = .ok (.iaload, 1) := by decide +kernel
theorem d_Mo_field_59 : decode b_Mo_field 59 = .ok (.ifCond .ne 11, 3) := by decide +kernel
theorem d_Mo_field_62 : decode b_Mo_field 62 = .ok (.aload_n 0, 1) := by decide +kernel
theorem d_Mo_field_63 : decode b_Mo_field 63 = .ok (.iconst 0, 1) := by decide +kernel
theorem d_Mo_field_64 : decode b_Mo_field 64 = .ok (.invokevirtual 342, 3) := by decide +kernel
theorem d_Mo_field_67 : decode b_Mo_field 67 = .ok (.goto 8, 3) := by decide +kernel
theorem d_Mo_field_70 : decode b_Mo_field 70 = .ok (.aload_n 0, 1) := by decide +kernel
theorem d_Mo_field_71 : decode b_Mo_field 71 = .ok (.iconst 3, 1) := by decide +kernel
theorem d_Mo_field_72 : decode b_Mo_field 72 = .ok (.invokevirtual 289, 3) := by decide +kernel
theorem d_Mo_field_75 : decode b_Mo_field 75 = .ok (.return_, 1) := by decide +kernel
set_option maxHeartbeats 4000000 in
set_option maxRecDepth 100000 in
theorem c_Mo_field (l : Launch) (E : gh_E) (sz : Nat) (f : gh_F) (a : Nat) (ad : Nat → Nat) (S : Nat → Int32) (I : Nat → Nat → Int32) (J : Nat → Nat → Int64) (b0 nv pb np wt : Nat) (v lt : Nat) (O : vt) (hX : mo_R E f a ad S I J) (h11 : S 11 = nI nv) (h12 : S 12 = nI np) (hp8 : np + 32 ≤ 8800) (hnv : nv < 760) (h29 : 29 ≤ nv) (hb0 : b0 ≤ nv) (hpb : pb ≤ np) (hS45 : S 45 = nI (wt + 1)) (hc : mc I J b0 nv pb np) (hO : mw I J b0 nv pb np v O) (hlt : 97 ≤ lt ∧ lt ≤ 122) : gh_M l y_Mo_field b_Mo_field 4 none E sz [.ref a, .int (nI v), .int (nI lt)] f { frames := 6, cells := 0, slots := 0, locals := 180 } (fun r g => r = none ∧ ∃ S2 I2 J2, mo_X E f g a ad S2 I2 J2 ∧ mr_A (sr_fld O [nI lt]) S I J b0 nv pb np wt S2 I2 J2) := by
  obtain ⟨hav, h1v, h2v, h3v, h4v, h5v, h6v, h7v⟩ := mv_o.mp hO.1
  have hv7 := hav.2
  have hoO := vo_o.mp hO.2
  have hk6 := hoO.1
  have hc16 := hoO.2.2.2.2.2.2.1
  have hqc := hoO.2.2.2.2.1
  refine gh_open (by decide) (Nat.le_of_ble_eq_true rfl) ?_
  intro p e s m args below meth c A ls hAe C V hr hlocks hname hl
  have hx := C.1
  have hb := C.2.1
  have hl : lv_has ls 4 [(0, .ref a), (1, .int (nI v)), (2, .int (nI lt))] := hl
  have X : mo_X E f f a ad S I J := ⟨hX, gh_fr.rf⟩
  refine lv_aload_n hx hb d_Mo_field_0 rfl (lv_at hl 0 rfl) ?_
  refine mo_getA C V X 1 (by decide) (by decide) f_Mo_7 rfl d_Mo_field_1 ?_
  refine lv_iload_n hx hb d_Mo_field_4 rfl (lv_at hl 1 rfl) ?_
  refine mo_ild (k := 1) (i := v) (n := 760) C V X (by decide) (by decide) rfl (by omega) (by decide) d_Mo_field_5 ?_
  rw [show I 1 v = nI (vt_k O) from h1v]
  refine lv_bipush (v := 6) hx hb d_Mo_field_6 (by decide) ?_
  refine lv_icmp_ne (tgt := 23) hx hb d_Mo_field_8 (by decide) (fun c1 => ?_) (fun c1 => ?_)
  · have c1 : ¬ (vt_k O) = 6 := by rw [← gq_eq (a := vt_k O) (b := 6) (by omega) (by omega)]; exact c1
    refine lv_iconst (v := (-1)) hx hb d_Mo_field_23 (by decide) ?_
    refine lv_istore_n hx hb d_Mo_field_24 rfl hl (by decide) rfl (fun ls hl => ?_)
    have hl : lv_has ls 4 [(3, .int ((-1))), (0, .ref a), (1, .int (nI v)), (2, .int (nI lt))] := hl
    refine lv_iload_n hx hb d_Mo_field_25 rfl (lv_at hl 0 rfl) ?_
    refine lv_if_lt (tgt := 42) hx hb d_Mo_field_26 (by decide) (fun c2 => ?_) (fun c2 => absurd (by decide) c2)
    refine lv_aload_n hx hb d_Mo_field_42 rfl (lv_at hl 1 rfl) ?_
    refine mo_getA C V X 1 (by decide) (by decide) f_Mo_7 rfl d_Mo_field_43 ?_
    refine lv_iload_n hx hb d_Mo_field_46 rfl (lv_at hl 2 rfl) ?_
    refine mo_ild (k := 1) (i := v) (n := 760) C V X (by decide) (by decide) rfl (by omega) (by decide) d_Mo_field_47 ?_
    rw [show I 1 v = nI (vt_k O) from h1v]
    refine lv_bipush (v := 6) hx hb d_Mo_field_48 (by decide) ?_
    refine lv_icmp_eq (tgt := 62) hx hb d_Mo_field_50 (by decide) (fun c3 => ?_) (fun c3 => ?_)
    · have c3 : (vt_k O) = 6 := by rw [← gq_eq (a := vt_k O) (b := 6) (by omega) (by omega)]; exact c3
      refine lv_aload_n hx hb d_Mo_field_62 rfl (lv_at hl 1 rfl) ?_
      refine lv_iconst (v := 0) hx hb d_Mo_field_63 (by decide) ?_
      refine gh_callV C V hl.1 m_Mo_give l_Mo_342 (c_Mo_give l E _ _ a ad _ _ _ 0 wt X.1 hS45) rfl X.1.1 gc_Mo ⟨by first | decide | omega | (dsimp only; omega), by first | decide | omega | (dsimp only; omega)⟩ ⟨by first | decide | omega | (dsimp only; omega), by first | decide | omega | (dsimp only; omega)⟩ (Nat.le_of_ble_eq_true rfl) rfl d_Mo_field_64 (fun r z9 H locs hp V1 => ?_)
      obtain ⟨rfl, X2⟩ := hp
      have X := X.then X2
      have V := V1
      refine W.eq (g2 := F0 m 67 ls []) rfl ?_
      refine lv_goto (tgt := 75) hx hb d_Mo_field_67 (by decide) ?_
      refine gh_retv hAe C V hr hlocks d_Mo_field_75 (by first | decide | omega | (dsimp only; omega)) (by first | decide | omega | (dsimp only; omega)) ?_
      exact ⟨rfl, _, _, _, X, by unfold sr_fld; rw [if_neg (by omega), if_pos (by omega)]; exact mr_give (u := 0) h11 h12 (by omega) hc.1⟩
    · have c3 : ¬ (vt_k O) = 6 := by rw [← gq_eq (a := vt_k O) (b := 6) (by omega) (by omega)]; exact c3
      refine lv_aload_n hx hb d_Mo_field_53 rfl (lv_at hl 1 rfl) ?_
      refine mo_getA C V X 1 (by decide) (by decide) f_Mo_7 rfl d_Mo_field_54 ?_
      refine lv_iload_n hx hb d_Mo_field_57 rfl (lv_at hl 2 rfl) ?_
      refine mo_ild (k := 1) (i := v) (n := 760) C V X (by decide) (by decide) rfl (by omega) (by decide) d_Mo_field_58 ?_
      rw [show I 1 v = nI (vt_k O) from h1v]
      refine lv_if_ne (tgt := 70) hx hb d_Mo_field_59 (by decide) (fun c4 => ?_) (fun c4 => ?_)
      · have c4 : ¬ (vt_k O) = 0 := by rw [← gq_eq (a := vt_k O) (b := 0) (by omega) (by omega)]; exact c4
        refine lv_aload_n hx hb d_Mo_field_70 rfl (lv_at hl 1 rfl) ?_
        refine lv_iconst (v := 3) hx hb d_Mo_field_71 (by decide) ?_
        refine gh_callV C V hl.1 m_Mo_tell l_Mo_289 (c_Mo_tell l E _ _ a ad _ _ _ 3 wt X.1 hS45) rfl X.1.1 gc_Mo ⟨by first | decide | omega | (dsimp only; omega), by first | decide | omega | (dsimp only; omega)⟩ ⟨by first | decide | omega | (dsimp only; omega), by first | decide | omega | (dsimp only; omega)⟩ (Nat.le_of_ble_eq_true rfl) rfl d_Mo_field_72 (fun r z9 H locs hp V1 => ?_)
        obtain ⟨rfl, X2⟩ := hp
        have X := X.then X2
        have V := V1
        refine W.eq (g2 := F0 m 75 ls []) rfl ?_
        refine gh_retv hAe C V hr hlocks d_Mo_field_75 (by first | decide | omega | (dsimp only; omega)) (by first | decide | omega | (dsimp only; omega)) ?_
        exact ⟨rfl, _, _, _, X, by unfold sr_fld; rw [if_neg (by omega), if_neg (by omega)]; exact mr_fail h11 h12 (by omega)⟩
      · have c4 : (vt_k O) = 0 := by rw [← gq_eq (a := vt_k O) (b := 0) (by omega) (by omega)]; exact c4
        refine lv_aload_n hx hb d_Mo_field_62 rfl (lv_at hl 1 rfl) ?_
        refine lv_iconst (v := 0) hx hb d_Mo_field_63 (by decide) ?_
        refine gh_callV C V hl.1 m_Mo_give l_Mo_342 (c_Mo_give l E _ _ a ad _ _ _ 0 wt X.1 hS45) rfl X.1.1 gc_Mo ⟨by first | decide | omega | (dsimp only; omega), by first | decide | omega | (dsimp only; omega)⟩ ⟨by first | decide | omega | (dsimp only; omega), by first | decide | omega | (dsimp only; omega)⟩ (Nat.le_of_ble_eq_true rfl) rfl d_Mo_field_64 (fun r z9 H locs hp V1 => ?_)
        obtain ⟨rfl, X2⟩ := hp
        have X := X.then X2
        have V := V1
        refine W.eq (g2 := F0 m 67 ls []) rfl ?_
        refine lv_goto (tgt := 75) hx hb d_Mo_field_67 (by decide) ?_
        refine gh_retv hAe C V hr hlocks d_Mo_field_75 (by first | decide | omega | (dsimp only; omega)) (by first | decide | omega | (dsimp only; omega)) ?_
        exact ⟨rfl, _, _, _, X, by unfold sr_fld; rw [if_neg (by omega), if_pos (by omega)]; exact mr_give (u := 0) h11 h12 (by omega) hc.1⟩
  · have c1 : (vt_k O) = 6 := by rw [← gq_eq (a := vt_k O) (b := 6) (by omega) (by omega)]; exact c1
    refine lv_aload_n hx hb d_Mo_field_11 rfl (lv_at hl 0 rfl) ?_
    refine lv_iload_n hx hb d_Mo_field_12 rfl (lv_at hl 1 rfl) ?_
    refine lv_iload_n hx hb d_Mo_field_13 rfl (lv_at hl 2 rfl) ?_
    refine lv_bipush (v := 94) hx hb d_Mo_field_14 (by decide) ?_
    refine gn_isub (a := lt) (b := 94) hx hb (by omega) d_Mo_field_16 ?_
    have hk := c1
    obtain ⟨fv, B, K, hfv, ⟨hf1, hf2, hf3⟩, hB, hK⟩ := h7v (by omega)
    rw [hk, if_pos rfl] at hqc
    rw [show vt_ln O = vt_c O by unfold vt_ln; rw [if_neg (by omega)]] at h3v
    have hle := hc.2.2.2 (lt - 97) (by omega)
    rw [show 3 + (lt - 97) = lt - 94 by omega, show 97 + (lt - 97) = lt by omega] at hle
    refine gh_callV C V hl.1 m_Mo_findKey l_Mo_173 (c_Mo_findKey l E _ _ a ad _ _ _ b0 nv v (lt - 94) fv O K [nI lt] X.1 hv7 hle.1.2 h3v hfv hc16 (by omega) hqc (fun j hj => hK j (by omega)) hle.2.2.2.1 hle.2.2.2.2.1) rfl X.1.1 gc_Mo ⟨by first | decide | omega | (dsimp only; omega), by first | decide | omega | (dsimp only; omega)⟩ ⟨by first | decide | omega | (dsimp only; omega), by first | decide | omega | (dsimp only; omega)⟩ (Nat.le_of_ble_eq_true rfl) rfl d_Mo_field_17 (fun r z9 H locs hp V1 => ?_)
    obtain ⟨rfl, he9⟩ := hp
    rw [he9] at V1
    have V := V1
    cases hF : vt_find (vt_q O) [nI lt] with
    | none =>
      refine W.eq (g2 := F0 m 20 ls [.int ((-1))]) rfl ?_
      refine lv_goto (tgt := 24) hx hb d_Mo_field_20 (by decide) ?_
      refine lv_istore_n hx hb d_Mo_field_24 rfl hl (by decide) rfl (fun ls hl => ?_)
      have hl : lv_has ls 4 [(3, .int ((-1))), (0, .ref a), (1, .int (nI v)), (2, .int (nI lt))] := hl
      refine lv_iload_n hx hb d_Mo_field_25 rfl (lv_at hl 0 rfl) ?_
      refine lv_if_lt (tgt := 42) hx hb d_Mo_field_26 (by decide) (fun c5 => ?_) (fun c5 => absurd (by decide) c5)
      refine lv_aload_n hx hb d_Mo_field_42 rfl (lv_at hl 1 rfl) ?_
      refine mo_getA C V X 1 (by decide) (by decide) f_Mo_7 rfl d_Mo_field_43 ?_
      refine lv_iload_n hx hb d_Mo_field_46 rfl (lv_at hl 2 rfl) ?_
      refine mo_ild (k := 1) (i := v) (n := 760) C V X (by decide) (by decide) rfl (by omega) (by decide) d_Mo_field_47 ?_
      rw [show I 1 v = nI (vt_k O) from h1v]
      refine lv_bipush (v := 6) hx hb d_Mo_field_48 (by decide) ?_
      refine lv_icmp_eq (tgt := 62) hx hb d_Mo_field_50 (by decide) (fun c6 => ?_) (fun c6 => absurd (by rw [hk]; decide) c6)
      refine lv_aload_n hx hb d_Mo_field_62 rfl (lv_at hl 1 rfl) ?_
      refine lv_iconst (v := 0) hx hb d_Mo_field_63 (by decide) ?_
      refine gh_callV C V hl.1 m_Mo_give l_Mo_342 (c_Mo_give l E _ _ a ad _ _ _ 0 wt X.1 hS45) rfl X.1.1 gc_Mo ⟨by first | decide | omega | (dsimp only; omega), by first | decide | omega | (dsimp only; omega)⟩ ⟨by first | decide | omega | (dsimp only; omega), by first | decide | omega | (dsimp only; omega)⟩ (Nat.le_of_ble_eq_true rfl) rfl d_Mo_field_64 (fun r z9 H locs hp V1 => ?_)
      obtain ⟨rfl, X2⟩ := hp
      have X := X.then X2
      have V := V1
      refine W.eq (g2 := F0 m 67 ls []) rfl ?_
      refine lv_goto (tgt := 75) hx hb d_Mo_field_67 (by decide) ?_
      refine gh_retv hAe C V hr hlocks d_Mo_field_75 (by first | decide | omega | (dsimp only; omega)) (by first | decide | omega | (dsimp only; omega)) ?_
      exact ⟨rfl, _, _, _, X, by unfold sr_fld; rw [if_pos hk, hF]; exact mr_give (u := 0) h11 h12 (by omega) hc.1⟩
    | some j9 =>
      have hj9 : j9 < vt_c O := by have := vt_find_lt hF; omega
      refine W.eq (g2 := F0 m 20 ls [.int (nI j9)]) rfl ?_
      refine lv_goto (tgt := 24) hx hb d_Mo_field_20 (by decide) ?_
      refine lv_istore_n hx hb d_Mo_field_24 rfl hl (by decide) rfl (fun ls hl => ?_)
      have hl : lv_has ls 4 [(3, .int (nI j9)), (0, .ref a), (1, .int (nI v)), (2, .int (nI lt))] := hl
      refine lv_iload_n hx hb d_Mo_field_25 rfl (lv_at hl 0 rfl) ?_
      refine lv_if_lt (tgt := 42) hx hb d_Mo_field_26 (by decide) (fun c7 => absurd c7 (nI_pos (by omega))) (fun c7 => ?_)
      refine lv_aload_n hx hb d_Mo_field_29 rfl (lv_at hl 1 rfl) ?_
      refine lv_aload_n hx hb d_Mo_field_30 rfl (lv_at hl 1 rfl) ?_
      refine lv_iload_n hx hb d_Mo_field_31 rfl (lv_at hl 2 rfl) ?_
      refine lv_iload_n hx hb d_Mo_field_32 rfl (lv_at hl 0 rfl) ?_
      refine gh_callV C V hl.1 m_Mo_itemOf l_Mo_176 (c_Mo_itemOf l E _ _ a ad _ _ _ v j9 fv X.1 hv7 hfv (by omega)) rfl X.1.1 gc_Mo ⟨by first | decide | omega | (dsimp only; omega), by first | decide | omega | (dsimp only; omega)⟩ ⟨by first | decide | omega | (dsimp only; omega), by first | decide | omega | (dsimp only; omega)⟩ (Nat.le_of_ble_eq_true rfl) rfl d_Mo_field_33 (fun r z9 H locs hp V1 => ?_)
      rw [(hB j9 (by omega)).1] at hp
      obtain ⟨rfl, he9⟩ := hp
      rw [he9] at V1
      have V := V1
      refine W.eq (g2 := F0 m 36 ls [.int (nI (B j9)), .ref a]) rfl ?_
      refine gh_callV C V hl.1 m_Mo_give l_Mo_342 (c_Mo_give l E _ _ a ad _ _ _ (nI (B j9)) wt X.1 hS45) rfl X.1.1 gc_Mo ⟨by first | decide | omega | (dsimp only; omega), by first | decide | omega | (dsimp only; omega)⟩ ⟨by first | decide | omega | (dsimp only; omega), by first | decide | omega | (dsimp only; omega)⟩ (Nat.le_of_ble_eq_true rfl) rfl d_Mo_field_36 (fun r z9 H locs hp V1 => ?_)
      obtain ⟨rfl, X2⟩ := hp
      have X := X.then X2
      have V := V1
      refine W.eq (g2 := F0 m 39 ls []) rfl ?_
      refine lv_goto (tgt := 75) hx hb d_Mo_field_39 (by decide) ?_
      refine gh_retv hAe C V hr hlocks d_Mo_field_75 (by first | decide | omega | (dsimp only; omega)) (by first | decide | omega | (dsimp only; omega)) ?_
      exact ⟨rfl, _, _, _, X, by unfold sr_fld; rw [if_pos hk, hF]; exact mr_give h11 h12 (by omega) (mw_item hO.2 hj9 (hB j9 hj9).2)⟩
theorem nl_pos {n : Nat} (h : n < 2 ^ 31) : ¬ (nI n).toInt64 < 0 := by
  rw [Int64.lt_iff_toInt_lt, Int32.toInt_toInt64, nI_toInt h]
  show ¬ (n : Int) < 0
  omega
theorem d_Mo_measure_0 : decode b_Mo_measure 0 = .ok (.aload_n 0, 1) := by decide +kernel
theorem d_Mo_measure_1 : decode b_Mo_measure 1 = .ok (.getfield 7, 3) := by decide +kernel
theorem d_Mo_measure_4 : decode b_Mo_measure 4 = .ok (.iload_n 1, 1) := by decide +kernel
theorem d_Mo_measure_5 : decode b_Mo_measure 5 = .ok (.iaload, 1) := by decide +kernel
theorem d_Mo_measure_6 : decode b_Mo_measure 6 = .ok (.iconst 3, 1) := by decide +kernel
theorem d_Mo_measure_7 : decode b_Mo_measure 7 = .ok (.if_icmp .ne 12, 3) := by decide +kernel
theorem d_Mo_measure_10 : decode b_Mo_measure 10 = .ok (.aload_n 0, 1) := by decide +kernel
theorem d_Mo_measure_11 : decode b_Mo_measure 11 = .ok (.getfield 13, 3) := by decide +kernel
theorem d_Mo_measure_14 : decode b_Mo_measure 14 = .ok (.iload_n 1, 1) := by decide +kernel
theorem d_Mo_measure_15 : decode b_Mo_measure 15 = .ok (.laload, 1) := by decide +kernel
theorem d_Mo_measure_16 : decode b_Mo_measure 16 = .ok (.goto 10, 3) := by decide +kernel
theorem d_Mo_measure_19 : decode b_Mo_measure 19 = .ok (.aload_n 0, 1) := by decide +kernel
theorem d_Mo_measure_20 : decode b_Mo_measure 20 = .ok (.getfield 17, 3) := by decide +kernel
theorem d_Mo_measure_23 : decode b_Mo_measure 23 = .ok (.iload_n 1, 1) := by decide +kernel
theorem d_Mo_measure_24 : decode b_Mo_measure 24 = .ok (.iaload, 1) := by decide +kernel
theorem d_Mo_measure_25 : decode b_Mo_measure 25 = .ok (.i2l, 1) := by decide +kernel
theorem d_Mo_measure_26 : decode b_Mo_measure 26 = .ok (.lstore_n 2, 1) := by decide +kernel
theorem d_Mo_measure_27 : decode b_Mo_measure 27 = .ok (.aload_n 0, 1) := by decide +kernel
theorem d_Mo_measure_28 : decode b_Mo_measure 28 = .ok (.getfield 7, 3) := by decide +kernel
theorem d_Mo_measure_31 : decode b_Mo_measure 31 = .ok (.iload_n 1, 1) := by decide +kernel
theorem d_Mo_measure_32 : decode b_Mo_measure 32 = .ok (.iaload, 1) := by decide +kernel
theorem d_Mo_measure_33 : decode b_Mo_measure 33 = .ok (.iconst 1, 1) := by decide +kernel
theorem d_Mo_measure_34 : decode b_Mo_measure 34 = .ok (.if_icmp .eq 13, 3) := by decide +kernel
theorem d_Mo_measure_37 : decode b_Mo_measure 37 = .ok (.aload_n 0, 1) := by decide +kernel
theorem d_Mo_measure_38 : decode b_Mo_measure 38 = .ok (.getfield 7, 3) := by decide +kernel
theorem d_Mo_measure_41 : decode b_Mo_measure 41 = .ok (.iload_n 1, 1) := by decide +kernel
theorem d_Mo_measure_42 : decode b_Mo_measure 42 = .ok (.iaload, 1) := by decide +kernel
theorem d_Mo_measure_43 : decode b_Mo_measure 43 = .ok (.iconst 2, 1) := by decide +kernel
theorem d_Mo_measure_44 : decode b_Mo_measure 44 = .ok (.if_icmp .ne 11, 3) := by decide +kernel
theorem d_Mo_measure_47 : decode b_Mo_measure 47 = .ok (.aload_n 0, 1) := by decide +kernel
theorem d_Mo_measure_48 : decode b_Mo_measure 48 = .ok (.iconst 3, 1) := by decide +kernel
theorem d_Mo_measure_49 : decode b_Mo_measure 49 = .ok (.invokevirtual 289, 3) := by decide +kernel
theorem d_Mo_measure_52 : decode b_Mo_measure 52 = .ok (.goto 24, 3) := by decide +kernel
theorem d_Mo_measure_55 : decode b_Mo_measure 55 = .ok (.aload_n 0, 1) := by decide +kernel
theorem d_Mo_measure_56 : decode b_Mo_measure 56 = .ok (.aload_n 0, 1) := by decide +kernel
theorem d_Mo_measure_57 : decode b_Mo_measure 57 = .ok (.iconst 3, 1) := by decide +kernel
theorem d_Mo_measure_58 : decode b_Mo_measure 58 = .ok (.lload_n 2, 1) := by decide +kernel
theorem d_Mo_measure_59 : decode b_Mo_measure 59 = .ok (.lconst 0, 1) := by decide +kernel
theorem d_Mo_measure_60 : decode b_Mo_measure 60 = .ok (.lcmp, 1) := by decide +kernel
theorem d_Mo_measure_61 : decode b_Mo_measure 61 = .ok (.ifCond .ge 8, 3) := by decide +kernel
theorem d_Mo_measure_64 : decode b_Mo_measure 64 = .ok (.lload_n 2, 1) := by decide +kernel
theorem d_Mo_measure_65 : decode b_Mo_measure 65 = .ok (.lneg, 1) := by decide +kernel
theorem d_Mo_measure_66 : decode b_Mo_measure 66 = .ok (.goto 4, 3) := by decide +kernel
theorem d_Mo_measure_69 : decode b_Mo_measure 69 = .ok (.lload_n 2, 1) := by decide +kernel
theorem d_Mo_measure_70 : decode b_Mo_measure 70 = .ok (.invokevirtual 159, 3) := by decide +kernel
theorem d_Mo_measure_73 : decode b_Mo_measure 73 = .ok (.invokevirtual 342, 3) := by decide +kernel
theorem d_Mo_measure_76 : decode b_Mo_measure 76 = .ok (.return_, 1) := by decide +kernel
set_option maxHeartbeats 4000000 in
set_option maxRecDepth 100000 in
theorem c_Mo_measure (l : Launch) (E : gh_E) (sz : Nat) (f : gh_F) (a : Nat) (ad : Nat → Nat) (S : Nat → Int32) (I : Nat → Nat → Int32) (J : Nat → Nat → Int64) (b0 nv pb np wt : Nat) (v : Nat) (O : vt) (hX : mo_R E f a ad S I J) (h11 : S 11 = nI nv) (h12 : S 12 = nI np) (hp8 : np + 32 ≤ 8800) (hnv : nv < 760) (h29 : 29 ≤ nv) (hb0 : b0 ≤ nv) (hpb : pb ≤ np) (hS45 : S 45 = nI (wt + 1)) (hc : mc I J b0 nv pb np) (hO : mw I J b0 nv pb np v O) : gh_M l y_Mo_measure b_Mo_measure 4 none E sz [.ref a, .int (nI v)] f { frames := 6, cells := 0, slots := 0, locals := 180 } (fun r g => r = none ∧ ∃ S2 I2 J2, mo_X E f g a ad S2 I2 J2 ∧ mr_A (sr_len O) S I J b0 nv pb np wt S2 I2 J2) := by
  obtain ⟨hav, h1v, h2v, h3v, h4v, h5v, h6v, h7v⟩ := mv_o.mp hO.1
  have hv7 := hav.2
  have hoO := vo_o.mp hO.2
  have hk6 := hoO.1
  have hc16 := hoO.2.2.2.2.2.2.1
  have hqc := hoO.2.2.2.2.1
  have hl24 := hoO.2.2.2.1.1
  have hsz : vt_sz O < 100 := by unfold vt_sz; split <;> omega
  refine gh_open (by decide) (Nat.le_of_ble_eq_true rfl) ?_
  intro p e s m args below meth c A ls hAe C V hr hlocks hname hl
  have hx := C.1
  have hb := C.2.1
  have hl : lv_has ls 4 [(0, .ref a), (1, .int (nI v))] := hl
  have X : mo_X E f f a ad S I J := ⟨hX, gh_fr.rf⟩
  refine lv_aload_n hx hb d_Mo_measure_0 rfl (lv_at hl 0 rfl) ?_
  refine mo_getA C V X 1 (by decide) (by decide) f_Mo_7 rfl d_Mo_measure_1 ?_
  refine lv_iload_n hx hb d_Mo_measure_4 rfl (lv_at hl 1 rfl) ?_
  refine mo_ild (k := 1) (i := v) (n := 760) C V X (by decide) (by decide) rfl (by omega) (by decide) d_Mo_measure_5 ?_
  rw [show I 1 v = nI (vt_k O) from h1v]
  refine lv_iconst (v := 3) hx hb d_Mo_measure_6 (by decide) ?_
  refine lv_icmp_ne (tgt := 19) hx hb d_Mo_measure_7 (by decide) (fun c1 => ?_) (fun c1 => ?_)
  · have c1 : ¬ (vt_k O) = 3 := by rw [← gq_eq (a := vt_k O) (b := 3) (by omega) (by omega)]; exact c1
    refine lv_aload_n hx hb d_Mo_measure_19 rfl (lv_at hl 0 rfl) ?_
    refine mo_getA C V X 3 (by decide) (by decide) f_Mo_17 rfl d_Mo_measure_20 ?_
    refine lv_iload_n hx hb d_Mo_measure_23 rfl (lv_at hl 1 rfl) ?_
    refine mo_ild (k := 3) (i := v) (n := 760) C V X (by decide) (by decide) rfl (by omega) (by decide) d_Mo_measure_24 ?_
    rw [show I 3 v = nI (vt_sz O) from h3v]
    refine lv_i2l hx hb d_Mo_measure_25 rfl ?_
    refine lv_lstore_n hx hb d_Mo_measure_26 rfl hl (by decide) rfl (fun ls hl => ?_)
    have hl : lv_has ls 4 [(2, .long ((nI (vt_sz O)).toInt64)), (0, .ref a), (1, .int (nI v))] := hl
    refine lv_aload_n hx hb d_Mo_measure_27 rfl (lv_at hl 1 rfl) ?_
    refine mo_getA C V X 1 (by decide) (by decide) f_Mo_7 rfl d_Mo_measure_28 ?_
    refine lv_iload_n hx hb d_Mo_measure_31 rfl (lv_at hl 2 rfl) ?_
    refine mo_ild (k := 1) (i := v) (n := 760) C V X (by decide) (by decide) rfl (by omega) (by decide) d_Mo_measure_32 ?_
    rw [show I 1 v = nI (vt_k O) from h1v]
    refine lv_iconst (v := 1) hx hb d_Mo_measure_33 (by decide) ?_
    refine lv_icmp_eq (tgt := 47) hx hb d_Mo_measure_34 (by decide) (fun c2 => ?_) (fun c2 => ?_)
    · have c2 : (vt_k O) = 1 := by rw [← gq_eq (a := vt_k O) (b := 1) (by omega) (by omega)]; exact c2
      refine lv_aload_n hx hb d_Mo_measure_47 rfl (lv_at hl 1 rfl) ?_
      refine lv_iconst (v := 3) hx hb d_Mo_measure_48 (by decide) ?_
      refine gh_callV C V hl.1 m_Mo_tell l_Mo_289 (c_Mo_tell l E _ _ a ad _ _ _ 3 wt X.1 hS45) rfl X.1.1 gc_Mo ⟨by first | decide | omega | (dsimp only; omega), by first | decide | omega | (dsimp only; omega)⟩ ⟨by first | decide | omega | (dsimp only; omega), by first | decide | omega | (dsimp only; omega)⟩ (Nat.le_of_ble_eq_true rfl) rfl d_Mo_measure_49 (fun r z9 H locs hp V1 => ?_)
      obtain ⟨rfl, X2⟩ := hp
      have X := X.then X2
      have V := V1
      refine W.eq (g2 := F0 m 52 ls []) rfl ?_
      refine lv_goto (tgt := 76) hx hb d_Mo_measure_52 (by decide) ?_
      refine gh_retv hAe C V hr hlocks d_Mo_measure_76 (by first | decide | omega | (dsimp only; omega)) (by first | decide | omega | (dsimp only; omega)) ?_
      exact ⟨rfl, _, _, _, X, by unfold sr_len; rw [if_pos (by omega)]; exact mr_fail h11 h12 (by omega)⟩
    · have c2 : ¬ (vt_k O) = 1 := by rw [← gq_eq (a := vt_k O) (b := 1) (by omega) (by omega)]; exact c2
      refine lv_aload_n hx hb d_Mo_measure_37 rfl (lv_at hl 1 rfl) ?_
      refine mo_getA C V X 1 (by decide) (by decide) f_Mo_7 rfl d_Mo_measure_38 ?_
      refine lv_iload_n hx hb d_Mo_measure_41 rfl (lv_at hl 2 rfl) ?_
      refine mo_ild (k := 1) (i := v) (n := 760) C V X (by decide) (by decide) rfl (by omega) (by decide) d_Mo_measure_42 ?_
      rw [show I 1 v = nI (vt_k O) from h1v]
      refine lv_iconst (v := 2) hx hb d_Mo_measure_43 (by decide) ?_
      refine lv_icmp_ne (tgt := 55) hx hb d_Mo_measure_44 (by decide) (fun c3 => ?_) (fun c3 => ?_)
      · have c3 : ¬ (vt_k O) = 2 := by rw [← gq_eq (a := vt_k O) (b := 2) (by omega) (by omega)]; exact c3
        refine lv_aload_n hx hb d_Mo_measure_55 rfl (lv_at hl 1 rfl) ?_
        refine lv_aload_n hx hb d_Mo_measure_56 rfl (lv_at hl 1 rfl) ?_
        refine lv_iconst (v := 3) hx hb d_Mo_measure_57 (by decide) ?_
        refine lv_lload_n hx hb d_Mo_measure_58 rfl (lv_at hl 0 rfl) ?_
        refine lv_lconst (v := 0) hx hb d_Mo_measure_59 (by decide) ?_
        refine W.lcmp hx hb d_Mo_measure_60 ?_
        refine lv_if_ge (tgt := 69) hx hb d_Mo_measure_61 (by decide) (fun c4 => ?_) (fun c4 => ?_)
        · have c4 : ¬ ((nI (vt_sz O)).toInt64) < 0 := by rw [← lg_lt]; exact lg_ge0 c4
          refine lv_lload_n hx hb d_Mo_measure_69 rfl (lv_at hl 0 rfl) ?_
          refine gh_callV C V hl.1 m_Mo_make l_Mo_159 (c_Mo_mk l E _ _ a ad _ _ _ 3 ((nI (vt_sz O)).toInt64) nv X.1 h11 hnv) rfl X.1.1 gc_Mo ⟨by first | decide | omega | (dsimp only; omega), by first | decide | omega | (dsimp only; omega)⟩ ⟨by first | decide | omega | (dsimp only; omega), by first | decide | omega | (dsimp only; omega)⟩ (Nat.le_of_ble_eq_true rfl) rfl d_Mo_measure_70 (fun r z9 H locs hp V1 => ?_)
          obtain ⟨rfl, S1, I1, J1, X2, hmk⟩ := hp
          have X := X.then X2
          have V := V1
          have h45a : S1 45 = nI (wt + 1) := by rw [hmk.1, va_up_n (by decide)]; exact hS45
          refine W.eq (g2 := F0 m 73 ls [.int (nI nv), .ref a]) rfl ?_
          refine gh_callV C V hl.1 m_Mo_give l_Mo_342 (c_Mo_give l E _ _ a ad _ _ _ (nI nv) wt X.1 h45a) rfl X.1.1 gc_Mo ⟨by first | decide | omega | (dsimp only; omega), by first | decide | omega | (dsimp only; omega)⟩ ⟨by first | decide | omega | (dsimp only; omega), by first | decide | omega | (dsimp only; omega)⟩ (Nat.le_of_ble_eq_true rfl) rfl d_Mo_measure_73 (fun r z9 H locs hp V1 => ?_)
          obtain ⟨rfl, X2⟩ := hp
          have X := X.then X2
          have V := V1
          refine W.eq (g2 := F0 m 76 ls []) rfl ?_
          refine gh_retv hAe C V hr hlocks d_Mo_measure_76 (by first | decide | omega | (dsimp only; omega)) (by first | decide | omega | (dsimp only; omega)) ?_
          exact ⟨rfl, _, _, _, X, by unfold sr_len; rw [if_neg (by omega), if_neg (by omega)]; exact mr_int hmk h12 hb0 hnv h29 (by omega)⟩
        · have c4 : ((nI (vt_sz O)).toInt64) < 0 := by rw [← lg_lt]; exact lg_lt0 c4
          refine lv_lload_n hx hb d_Mo_measure_64 rfl (lv_at hl 0 rfl) ?_
          refine lv_lneg hx hb d_Mo_measure_65 ?_
          refine lv_goto (tgt := 70) hx hb d_Mo_measure_66 (by decide) ?_
          refine gh_callV C V hl.1 m_Mo_make l_Mo_159 (c_Mo_mk l E _ _ a ad _ _ _ 3 (-((nI (vt_sz O)).toInt64)) nv X.1 h11 hnv) rfl X.1.1 gc_Mo ⟨by first | decide | omega | (dsimp only; omega), by first | decide | omega | (dsimp only; omega)⟩ ⟨by first | decide | omega | (dsimp only; omega), by first | decide | omega | (dsimp only; omega)⟩ (Nat.le_of_ble_eq_true rfl) rfl d_Mo_measure_70 (fun r z9 H locs hp V1 => ?_)
          obtain ⟨rfl, S1, I1, J1, X2, hmk⟩ := hp
          have X := X.then X2
          have V := V1
          have h45a : S1 45 = nI (wt + 1) := by rw [hmk.1, va_up_n (by decide)]; exact hS45
          refine W.eq (g2 := F0 m 73 ls [.int (nI nv), .ref a]) rfl ?_
          refine gh_callV C V hl.1 m_Mo_give l_Mo_342 (c_Mo_give l E _ _ a ad _ _ _ (nI nv) wt X.1 h45a) rfl X.1.1 gc_Mo ⟨by first | decide | omega | (dsimp only; omega), by first | decide | omega | (dsimp only; omega)⟩ ⟨by first | decide | omega | (dsimp only; omega), by first | decide | omega | (dsimp only; omega)⟩ (Nat.le_of_ble_eq_true rfl) rfl d_Mo_measure_73 (fun r z9 H locs hp V1 => ?_)
          obtain ⟨rfl, X2⟩ := hp
          have X := X.then X2
          have V := V1
          refine W.eq (g2 := F0 m 76 ls []) rfl ?_
          refine gh_retv hAe C V hr hlocks d_Mo_measure_76 (by first | decide | omega | (dsimp only; omega)) (by first | decide | omega | (dsimp only; omega)) ?_
          exact absurd c4 (nl_pos (by omega))
      · have c3 : (vt_k O) = 2 := by rw [← gq_eq (a := vt_k O) (b := 2) (by omega) (by omega)]; exact c3
        refine lv_aload_n hx hb d_Mo_measure_47 rfl (lv_at hl 1 rfl) ?_
        refine lv_iconst (v := 3) hx hb d_Mo_measure_48 (by decide) ?_
        refine gh_callV C V hl.1 m_Mo_tell l_Mo_289 (c_Mo_tell l E _ _ a ad _ _ _ 3 wt X.1 hS45) rfl X.1.1 gc_Mo ⟨by first | decide | omega | (dsimp only; omega), by first | decide | omega | (dsimp only; omega)⟩ ⟨by first | decide | omega | (dsimp only; omega), by first | decide | omega | (dsimp only; omega)⟩ (Nat.le_of_ble_eq_true rfl) rfl d_Mo_measure_49 (fun r z9 H locs hp V1 => ?_)
        obtain ⟨rfl, X2⟩ := hp
        have X := X.then X2
        have V := V1
        refine W.eq (g2 := F0 m 52 ls []) rfl ?_
        refine lv_goto (tgt := 76) hx hb d_Mo_measure_52 (by decide) ?_
        refine gh_retv hAe C V hr hlocks d_Mo_measure_76 (by first | decide | omega | (dsimp only; omega)) (by first | decide | omega | (dsimp only; omega)) ?_
        exact ⟨rfl, _, _, _, X, by unfold sr_len; rw [if_pos (by omega)]; exact mr_fail h11 h12 (by omega)⟩
  · have c1 : (vt_k O) = 3 := by rw [← gq_eq (a := vt_k O) (b := 3) (by omega) (by omega)]; exact c1
    refine lv_aload_n hx hb d_Mo_measure_10 rfl (lv_at hl 0 rfl) ?_
    refine mo_getA C V X 2 (by decide) (by decide) f_Mo_13 rfl d_Mo_measure_11 ?_
    refine lv_iload_n hx hb d_Mo_measure_14 rfl (lv_at hl 1 rfl) ?_
    refine mo_lld (k := 2) (i := v) (n := 760) C V X (by decide) (by decide) rfl (by omega) (by decide) d_Mo_measure_15 ?_
    refine lv_goto (tgt := 26) hx hb d_Mo_measure_16 (by decide) ?_
    refine lv_lstore_n hx hb d_Mo_measure_26 rfl hl (by decide) rfl (fun ls hl => ?_)
    have hl : lv_has ls 4 [(2, .long (J 2 v)), (0, .ref a), (1, .int (nI v))] := hl
    refine lv_aload_n hx hb d_Mo_measure_27 rfl (lv_at hl 1 rfl) ?_
    refine mo_getA C V X 1 (by decide) (by decide) f_Mo_7 rfl d_Mo_measure_28 ?_
    refine lv_iload_n hx hb d_Mo_measure_31 rfl (lv_at hl 2 rfl) ?_
    refine mo_ild (k := 1) (i := v) (n := 760) C V X (by decide) (by decide) rfl (by omega) (by decide) d_Mo_measure_32 ?_
    rw [show I 1 v = nI (vt_k O) from h1v]
    refine lv_iconst (v := 1) hx hb d_Mo_measure_33 (by decide) ?_
    refine lv_icmp_eq (tgt := 47) hx hb d_Mo_measure_34 (by decide) (fun c5 => ?_) (fun c5 => ?_)
    · have c5 : (vt_k O) = 1 := by rw [← gq_eq (a := vt_k O) (b := 1) (by omega) (by omega)]; exact c5
      refine lv_aload_n hx hb d_Mo_measure_47 rfl (lv_at hl 1 rfl) ?_
      refine lv_iconst (v := 3) hx hb d_Mo_measure_48 (by decide) ?_
      refine gh_callV C V hl.1 m_Mo_tell l_Mo_289 (c_Mo_tell l E _ _ a ad _ _ _ 3 wt X.1 hS45) rfl X.1.1 gc_Mo ⟨by first | decide | omega | (dsimp only; omega), by first | decide | omega | (dsimp only; omega)⟩ ⟨by first | decide | omega | (dsimp only; omega), by first | decide | omega | (dsimp only; omega)⟩ (Nat.le_of_ble_eq_true rfl) rfl d_Mo_measure_49 (fun r z9 H locs hp V1 => ?_)
      obtain ⟨rfl, X2⟩ := hp
      have X := X.then X2
      have V := V1
      refine W.eq (g2 := F0 m 52 ls []) rfl ?_
      refine lv_goto (tgt := 76) hx hb d_Mo_measure_52 (by decide) ?_
      refine gh_retv hAe C V hr hlocks d_Mo_measure_76 (by first | decide | omega | (dsimp only; omega)) (by first | decide | omega | (dsimp only; omega)) ?_
      exact ⟨rfl, _, _, _, X, by unfold sr_len; rw [if_pos (by omega)]; exact mr_fail h11 h12 (by omega)⟩
    · have c5 : ¬ (vt_k O) = 1 := by rw [← gq_eq (a := vt_k O) (b := 1) (by omega) (by omega)]; exact c5
      refine lv_aload_n hx hb d_Mo_measure_37 rfl (lv_at hl 1 rfl) ?_
      refine mo_getA C V X 1 (by decide) (by decide) f_Mo_7 rfl d_Mo_measure_38 ?_
      refine lv_iload_n hx hb d_Mo_measure_41 rfl (lv_at hl 2 rfl) ?_
      refine mo_ild (k := 1) (i := v) (n := 760) C V X (by decide) (by decide) rfl (by omega) (by decide) d_Mo_measure_42 ?_
      rw [show I 1 v = nI (vt_k O) from h1v]
      refine lv_iconst (v := 2) hx hb d_Mo_measure_43 (by decide) ?_
      refine lv_icmp_ne (tgt := 55) hx hb d_Mo_measure_44 (by decide) (fun c6 => ?_) (fun c6 => ?_)
      · have c6 : ¬ (vt_k O) = 2 := by rw [← gq_eq (a := vt_k O) (b := 2) (by omega) (by omega)]; exact c6
        refine lv_aload_n hx hb d_Mo_measure_55 rfl (lv_at hl 1 rfl) ?_
        refine lv_aload_n hx hb d_Mo_measure_56 rfl (lv_at hl 1 rfl) ?_
        refine lv_iconst (v := 3) hx hb d_Mo_measure_57 (by decide) ?_
        refine lv_lload_n hx hb d_Mo_measure_58 rfl (lv_at hl 0 rfl) ?_
        refine lv_lconst (v := 0) hx hb d_Mo_measure_59 (by decide) ?_
        refine W.lcmp hx hb d_Mo_measure_60 ?_
        refine lv_if_ge (tgt := 69) hx hb d_Mo_measure_61 (by decide) (fun c7 => ?_) (fun c7 => ?_)
        · have c7 : ¬ (J 2 v) < 0 := by rw [← lg_lt]; exact lg_ge0 c7
          refine lv_lload_n hx hb d_Mo_measure_69 rfl (lv_at hl 0 rfl) ?_
          refine gh_callV C V hl.1 m_Mo_make l_Mo_159 (c_Mo_mk l E _ _ a ad _ _ _ 3 (J 2 v) nv X.1 h11 hnv) rfl X.1.1 gc_Mo ⟨by first | decide | omega | (dsimp only; omega), by first | decide | omega | (dsimp only; omega)⟩ ⟨by first | decide | omega | (dsimp only; omega), by first | decide | omega | (dsimp only; omega)⟩ (Nat.le_of_ble_eq_true rfl) rfl d_Mo_measure_70 (fun r z9 H locs hp V1 => ?_)
          obtain ⟨rfl, S1, I1, J1, X2, hmk⟩ := hp
          have X := X.then X2
          have V := V1
          have h45a : S1 45 = nI (wt + 1) := by rw [hmk.1, va_up_n (by decide)]; exact hS45
          refine W.eq (g2 := F0 m 73 ls [.int (nI nv), .ref a]) rfl ?_
          refine gh_callV C V hl.1 m_Mo_give l_Mo_342 (c_Mo_give l E _ _ a ad _ _ _ (nI nv) wt X.1 h45a) rfl X.1.1 gc_Mo ⟨by first | decide | omega | (dsimp only; omega), by first | decide | omega | (dsimp only; omega)⟩ ⟨by first | decide | omega | (dsimp only; omega), by first | decide | omega | (dsimp only; omega)⟩ (Nat.le_of_ble_eq_true rfl) rfl d_Mo_measure_73 (fun r z9 H locs hp V1 => ?_)
          obtain ⟨rfl, X2⟩ := hp
          have X := X.then X2
          have V := V1
          refine W.eq (g2 := F0 m 76 ls []) rfl ?_
          refine gh_retv hAe C V hr hlocks d_Mo_measure_76 (by first | decide | omega | (dsimp only; omega)) (by first | decide | omega | (dsimp only; omega)) ?_
          exact ⟨rfl, _, _, _, X, by unfold sr_len; rw [if_neg (by omega), if_pos (by omega), ← h2v, if_neg c7]; exact mr_int hmk h12 hb0 hnv h29 (by omega)⟩
        · have c7 : (J 2 v) < 0 := by rw [← lg_lt]; exact lg_lt0 c7
          refine lv_lload_n hx hb d_Mo_measure_64 rfl (lv_at hl 0 rfl) ?_
          refine lv_lneg hx hb d_Mo_measure_65 ?_
          refine lv_goto (tgt := 70) hx hb d_Mo_measure_66 (by decide) ?_
          refine gh_callV C V hl.1 m_Mo_make l_Mo_159 (c_Mo_mk l E _ _ a ad _ _ _ 3 (-(J 2 v)) nv X.1 h11 hnv) rfl X.1.1 gc_Mo ⟨by first | decide | omega | (dsimp only; omega), by first | decide | omega | (dsimp only; omega)⟩ ⟨by first | decide | omega | (dsimp only; omega), by first | decide | omega | (dsimp only; omega)⟩ (Nat.le_of_ble_eq_true rfl) rfl d_Mo_measure_70 (fun r z9 H locs hp V1 => ?_)
          obtain ⟨rfl, S1, I1, J1, X2, hmk⟩ := hp
          have X := X.then X2
          have V := V1
          have h45a : S1 45 = nI (wt + 1) := by rw [hmk.1, va_up_n (by decide)]; exact hS45
          refine W.eq (g2 := F0 m 73 ls [.int (nI nv), .ref a]) rfl ?_
          refine gh_callV C V hl.1 m_Mo_give l_Mo_342 (c_Mo_give l E _ _ a ad _ _ _ (nI nv) wt X.1 h45a) rfl X.1.1 gc_Mo ⟨by first | decide | omega | (dsimp only; omega), by first | decide | omega | (dsimp only; omega)⟩ ⟨by first | decide | omega | (dsimp only; omega), by first | decide | omega | (dsimp only; omega)⟩ (Nat.le_of_ble_eq_true rfl) rfl d_Mo_measure_73 (fun r z9 H locs hp V1 => ?_)
          obtain ⟨rfl, X2⟩ := hp
          have X := X.then X2
          have V := V1
          refine W.eq (g2 := F0 m 76 ls []) rfl ?_
          refine gh_retv hAe C V hr hlocks d_Mo_measure_76 (by first | decide | omega | (dsimp only; omega)) (by first | decide | omega | (dsimp only; omega)) ?_
          exact ⟨rfl, _, _, _, X, by unfold sr_len; rw [if_neg (by omega), if_pos (by omega), ← h2v, if_pos c7]; exact mr_int hmk h12 hb0 hnv h29 (by omega)⟩
      · have c6 : (vt_k O) = 2 := by rw [← gq_eq (a := vt_k O) (b := 2) (by omega) (by omega)]; exact c6
        refine lv_aload_n hx hb d_Mo_measure_47 rfl (lv_at hl 1 rfl) ?_
        refine lv_iconst (v := 3) hx hb d_Mo_measure_48 (by decide) ?_
        refine gh_callV C V hl.1 m_Mo_tell l_Mo_289 (c_Mo_tell l E _ _ a ad _ _ _ 3 wt X.1 hS45) rfl X.1.1 gc_Mo ⟨by first | decide | omega | (dsimp only; omega), by first | decide | omega | (dsimp only; omega)⟩ ⟨by first | decide | omega | (dsimp only; omega), by first | decide | omega | (dsimp only; omega)⟩ (Nat.le_of_ble_eq_true rfl) rfl d_Mo_measure_49 (fun r z9 H locs hp V1 => ?_)
        obtain ⟨rfl, X2⟩ := hp
        have X := X.then X2
        have V := V1
        refine W.eq (g2 := F0 m 52 ls []) rfl ?_
        refine lv_goto (tgt := 76) hx hb d_Mo_measure_52 (by decide) ?_
        refine gh_retv hAe C V hr hlocks d_Mo_measure_76 (by first | decide | omega | (dsimp only; omega)) (by first | decide | omega | (dsimp only; omega)) ?_
        exact ⟨rfl, _, _, _, X, by unfold sr_len; rw [if_pos (by omega)]; exact mr_fail h11 h12 (by omega)⟩
theorem d_Mo_item_0 : decode b_Mo_item 0 = .ok (.aload_n 0, 1) := by decide +kernel
theorem d_Mo_item_1 : decode b_Mo_item 1 = .ok (.getfield 7, 3) := by decide +kernel
theorem d_Mo_item_4 : decode b_Mo_item 4 = .ok (.iload_n 1, 1) := by decide +kernel
theorem d_Mo_item_5 : decode b_Mo_item 5 = .ok (.iaload, 1) := by decide +kernel
theorem d_Mo_item_6 : decode b_Mo_item 6 = .ok (.iconst 5, 1) := by decide +kernel
theorem d_Mo_item_7 : decode b_Mo_item 7 = .ok (.if_icmp .eq 7, 3) := by decide +kernel
theorem d_Mo_item_10 : decode b_Mo_item 10 = .ok (.iconst (-1), 1) := by decide +kernel
theorem d_Mo_item_11 : decode b_Mo_item 11 = .ok (.goto 19, 3) := by decide +kernel
theorem d_Mo_item_14 : decode b_Mo_item 14 = .ok (.iload_n 2, 1) := by decide +kernel
theorem d_Mo_item_15 : decode b_Mo_item 15 = .ok (.ifCond .ge 14, 3) := by decide +kernel
theorem d_Mo_item_18 : decode b_Mo_item 18 = .ok (.aload_n 0, 1) := by decide +kernel
theorem d_Mo_item_19 : decode b_Mo_item 19 = .ok (.getfield 17, 3) := by decide +kernel
theorem d_Mo_item_22 : decode b_Mo_item 22 = .ok (.iload_n 1, 1) := by decide +kernel
theorem d_Mo_item_23 : decode b_Mo_item 23 = .ok (.iaload, 1) := by decide +kernel
theorem d_Mo_item_24 : decode b_Mo_item 24 = .ok (.iload_n 2, 1) := by decide +kernel
theorem d_Mo_item_25 : decode b_Mo_item 25 = .ok (.iadd, 1) := by decide +kernel
theorem d_Mo_item_26 : decode b_Mo_item 26 = .ok (.goto 4, 3) := by decide +kernel
theorem d_Mo_item_29 : decode b_Mo_item 29 = .ok (.iload_n 2, 1) := by decide +kernel
theorem d_Mo_item_30 : decode b_Mo_item 30 = .ok (.istore_n 3, 1) := by decide +kernel
theorem d_Mo_item_31 : decode b_Mo_item 31 = .ok (.aload_n 0, 1) := by decide +kernel
theorem d_Mo_item_32 : decode b_Mo_item 32 = .ok (.getfield 7, 3) := by decide +kernel
theorem d_Mo_item_35 : decode b_Mo_item 35 = .ok (.iload_n 1, 1) := by decide +kernel
theorem d_Mo_item_36 : decode b_Mo_item 36 = .ok (.iaload, 1) := by decide +kernel
theorem d_Mo_item_37 : decode b_Mo_item 37 = .ok (.iconst 5, 1) := by decide +kernel
theorem d_Mo_item_38 : decode b_Mo_item 38 = .ok (.if_icmp .ne 29, 3) := by decide +kernel
theorem d_Mo_item_41 : decode b_Mo_item 41 = .ok (.iload_n 3, 1) := by decide +kernel
theorem d_Mo_item_42 : decode b_Mo_item 42 = .ok (.aload_n 0, 1) := by decide +kernel
theorem d_Mo_item_43 : decode b_Mo_item 43 = .ok (.getfield 17, 3) := by decide +kernel
theorem d_Mo_item_46 : decode b_Mo_item 46 = .ok (.iload_n 1, 1) := by decide +kernel
theorem d_Mo_item_47 : decode b_Mo_item 47 = .ok (.iaload, 1) := by decide +kernel
theorem d_Mo_item_48 : decode b_Mo_item 48 = .ok (.invokestatic 354, 3) := by decide +kernel
theorem d_Mo_item_51 : decode b_Mo_item 51 = .ok (.ifCond .ne 16, 3) := by decide +kernel
theorem d_Mo_item_54 : decode b_Mo_item 54 = .ok (.aload_n 0, 1) := by decide +kernel
theorem d_Mo_item_55 : decode b_Mo_item 55 = .ok (.aload_n 0, 1) := by decide +kernel
theorem d_Mo_item_56 : decode b_Mo_item 56 = .ok (.iload_n 1, 1) := by decide +kernel
theorem d_Mo_item_57 : decode b_Mo_item 57 = .ok (.iload_n 3, 1) := by decide +kernel
theorem d_Mo_item_58 : decode b_Mo_item 58 = .ok (.invokevirtual 176, 3) := by decide +kernel
theorem d_Mo_item_61 : decode b_Mo_item 61 = .ok (.invokevirtual 342, 3) := by decide +kernel
theorem d_Mo_item_64 : decode b_Mo_item 64 = .ok (.goto 35, 3) := by decide +kernel
theorem d_Mo_item_67 : decode b_Mo_item 67 = .ok (.aload_n 0, 1) := by decide +kernel
theorem d_Mo_item_68 : decode b_Mo_item 68 = .ok (.getfield 7, 3) := by decide +kernel
theorem d_Mo_item_71 : decode b_Mo_item 71 = .ok (.iload_n 1, 1) := by decide +kernel
theorem d_Mo_item_72 : decode b_Mo_item 72 = .ok (.iaload, 1) := by decide +kernel
theorem d_Mo_item_73 : decode b_Mo_item 73 = .ok (.iconst 5, 1) := by decide +kernel
theorem d_Mo_item_74 : decode b_Mo_item 74 = .ok (.if_icmp .eq 12, 3) := by decide +kernel
theorem d_Mo_item_77 : decode b_Mo_item 77 = .ok (.aload_n 0, 1) := by decide +kernel
theorem d_Mo_item_78 : decode b_Mo_item 78 = .ok (.getfield 7, 3) := by decide +kernel
theorem d_Mo_item_81 : decode b_Mo_item 81 = .ok (.iload_n 1, 1) := by decide +kernel
theorem d_Mo_item_82 : decode b_Mo_item 82 = .ok (.iaload, 1) := by decide +kernel
theorem d_Mo_item_83 : decode b_Mo_item 83 = .ok (.ifCond .ne 11, 3) := by decide +kernel
theorem d_Mo_item_86 : decode b_Mo_item 86 = .ok (.aload_n 0, 1) := by decide +kernel
theorem d_Mo_item_87 : decode b_Mo_item 87 = .ok (.iconst 0, 1) := by decide +kernel
theorem d_Mo_item_88 : decode b_Mo_item 88 = .ok (.invokevirtual 342, 3) := by decide +kernel
theorem d_Mo_item_91 : decode b_Mo_item 91 = .ok (.goto 8, 3) := by decide +kernel
theorem d_Mo_item_94 : decode b_Mo_item 94 = .ok (.aload_n 0, 1) := by decide +kernel
theorem d_Mo_item_95 : decode b_Mo_item 95 = .ok (.iconst 3, 1) := by decide +kernel
theorem d_Mo_item_96 : decode b_Mo_item 96 = .ok (.invokevirtual 289, 3) := by decide +kernel
theorem d_Mo_item_99 : decode b_Mo_item 99 = .ok (.return_, 1) := by decide +kernel
set_option maxHeartbeats 4000000 in
set_option maxRecDepth 100000 in
theorem c_Mo_item (l : Launch) (E : gh_E) (sz : Nat) (f : gh_F) (a : Nat) (ad : Nat → Nat) (S : Nat → Int32) (I : Nat → Nat → Int32) (J : Nat → Nat → Int64) (b0 nv pb np wt : Nat) (v bt : Nat) (O : vt) (hX : mo_R E f a ad S I J) (h11 : S 11 = nI nv) (h12 : S 12 = nI np) (hp8 : np + 32 ≤ 8800) (hnv : nv < 760) (h29 : 29 ≤ nv) (hb0 : b0 ≤ nv) (hpb : pb ≤ np) (hS45 : S 45 = nI (wt + 1)) (hc : mc I J b0 nv pb np) (hO : mw I J b0 nv pb np v O) (hbt : bt < 256) : gh_M l y_Mo_item b_Mo_item 4 none E sz [.ref a, .int (nI v), .int (nI bt - 128)] f { frames := 6, cells := 0, slots := 0, locals := 180 } (fun r g => r = none ∧ ∃ S2 I2 J2, mo_X E f g a ad S2 I2 J2 ∧ mr_A (sr_itm O bt) S I J b0 nv pb np wt S2 I2 J2) := by
  obtain ⟨hav, h1v, h2v, h3v, h4v, h5v, h6v, h7v⟩ := mv_o.mp hO.1
  have hv7 := hav.2
  have hoO := vo_o.mp hO.2
  have hk6 := hoO.1
  have hc16 := hoO.2.2.2.2.2.2.1
  have hqc := hoO.2.2.2.2.1
  refine gh_open (by decide) (Nat.le_of_ble_eq_true rfl) ?_
  intro p e s m args below meth c A ls hAe C V hr hlocks hname hl
  have hx := C.1
  have hb := C.2.1
  have hl : lv_has ls 4 [(0, .ref a), (1, .int (nI v)), (2, .int (nI bt - 128))] := hl
  have X : mo_X E f f a ad S I J := ⟨hX, gh_fr.rf⟩
  refine lv_aload_n hx hb d_Mo_item_0 rfl (lv_at hl 0 rfl) ?_
  refine mo_getA C V X 1 (by decide) (by decide) f_Mo_7 rfl d_Mo_item_1 ?_
  refine lv_iload_n hx hb d_Mo_item_4 rfl (lv_at hl 1 rfl) ?_
  refine mo_ild (k := 1) (i := v) (n := 760) C V X (by decide) (by decide) rfl (by omega) (by decide) d_Mo_item_5 ?_
  rw [show I 1 v = nI (vt_k O) from h1v]
  refine lv_iconst (v := 5) hx hb d_Mo_item_6 (by decide) ?_
  refine lv_icmp_eq (tgt := 14) hx hb d_Mo_item_7 (by decide) (fun c1 => ?_) (fun c1 => ?_)
  · have c1 : (vt_k O) = 5 := by rw [← gq_eq (a := vt_k O) (b := 5) (by omega) (by omega)]; exact c1
    have hk := c1
    obtain ⟨fv, B, K, hfv, ⟨hf1, hf2, hf3⟩, hB, hK⟩ := h7v (by omega)
    rw [show vt_ln O = vt_c O by unfold vt_ln; rw [if_neg (by omega)]] at h3v
    by_cases hb8 : bt < 128
    · by_cases hb9 : 128 ≤ vt_c O + bt
      · refine lv_iload_n hx hb d_Mo_item_14 rfl (lv_at hl 2 rfl) ?_
        refine lv_if_ge (tgt := 29) hx hb d_Mo_item_15 (by decide) (fun c2 => absurd c2 (fun z => absurd (it_neg bt hb8) (lg_ge0 z))) (fun c2 => ?_)
        refine lv_aload_n hx hb d_Mo_item_18 rfl (lv_at hl 0 rfl) ?_
        refine mo_getA C V X 3 (by decide) (by decide) f_Mo_17 rfl d_Mo_item_19 ?_
        refine lv_iload_n hx hb d_Mo_item_22 rfl (lv_at hl 1 rfl) ?_
        refine mo_ild (k := 3) (i := v) (n := 760) C V X (by decide) (by decide) rfl (by omega) (by decide) d_Mo_item_23 ?_
        rw [show I 3 v = nI (vt_c O) from h3v]
        refine lv_iload_n hx hb d_Mo_item_24 rfl (lv_at hl 2 rfl) ?_
        refine lv_iadd hx hb d_Mo_item_25 ?_
        rw [it_in (vt_c O) (by omega) bt hb8 hb9]
        refine lv_goto (tgt := 30) hx hb d_Mo_item_26 (by decide) ?_
        refine lv_istore_n hx hb d_Mo_item_30 rfl hl (by decide) rfl (fun ls hl => ?_)
        have hl : lv_has ls 4 [(3, .int (nI (vt_c O + bt - 128))), (0, .ref a), (1, .int (nI v)), (2, .int (nI bt - 128))] := hl
        refine lv_aload_n hx hb d_Mo_item_31 rfl (lv_at hl 1 rfl) ?_
        refine mo_getA C V X 1 (by decide) (by decide) f_Mo_7 rfl d_Mo_item_32 ?_
        refine lv_iload_n hx hb d_Mo_item_35 rfl (lv_at hl 2 rfl) ?_
        refine mo_ild (k := 1) (i := v) (n := 760) C V X (by decide) (by decide) rfl (by omega) (by decide) d_Mo_item_36 ?_
        rw [show I 1 v = nI (vt_k O) from h1v]
        refine lv_iconst (v := 5) hx hb d_Mo_item_37 (by decide) ?_
        refine lv_icmp_ne (tgt := 67) hx hb d_Mo_item_38 (by decide) (fun c3 => absurd (by rw [hk]; decide) c3) (fun c3 => ?_)
        refine lv_iload_n hx hb d_Mo_item_41 rfl (lv_at hl 0 rfl) ?_
        refine lv_aload_n hx hb d_Mo_item_42 rfl (lv_at hl 1 rfl) ?_
        refine mo_getA C V X 3 (by decide) (by decide) f_Mo_17 rfl d_Mo_item_43 ?_
        refine lv_iload_n hx hb d_Mo_item_46 rfl (lv_at hl 2 rfl) ?_
        refine mo_ild (k := 3) (i := v) (n := 760) C V X (by decide) (by decide) rfl (by omega) (by decide) d_Mo_item_47 ?_
        rw [show I 3 v = nI (vt_c O) from h3v]
        refine gh_callS C V hl.1 m_Mo_out l_Mo_354 (c_Mo_out l E _ _ (nI (vt_c O + bt - 128)) (nI (vt_c O))) rfl ⟨by first | decide | omega | (dsimp only; omega), by first | decide | omega | (dsimp only; omega)⟩ ⟨by first | decide | omega | (dsimp only; omega), by first | decide | omega | (dsimp only; omega)⟩ (Nat.le_of_ble_eq_true rfl) rfl d_Mo_item_48 (fun r z9 H locs hp V1 => ?_)
        obtain ⟨rfl, he9⟩ := hp
        rw [he9] at V1
        have V := V1
        have hbo : (decide (nI (vt_c O + bt - 128) < 0) || !decide (nI (vt_c O + bt - 128) < nI (vt_c O))) = false := by rw [decide_eq_false (nI_pos (by omega)), decide_eq_true (nI_lt (by omega) (by omega))]; rfl
        rw [hbo]
        refine W.eq (g2 := F0 m 51 ls [.int (gh_bi false)]) rfl ?_
        refine lv_if_ne (tgt := 67) hx hb d_Mo_item_51 (by decide) (fun c4 => absurd (by decide) c4) (fun c4 => ?_)
        refine lv_aload_n hx hb d_Mo_item_54 rfl (lv_at hl 1 rfl) ?_
        refine lv_aload_n hx hb d_Mo_item_55 rfl (lv_at hl 1 rfl) ?_
        refine lv_iload_n hx hb d_Mo_item_56 rfl (lv_at hl 2 rfl) ?_
        refine lv_iload_n hx hb d_Mo_item_57 rfl (lv_at hl 0 rfl) ?_
        refine gh_callV C V hl.1 m_Mo_itemOf l_Mo_176 (c_Mo_itemOf l E _ _ a ad _ _ _ v (vt_c O + bt - 128) fv X.1 hv7 hfv (by omega)) rfl X.1.1 gc_Mo ⟨by first | decide | omega | (dsimp only; omega), by first | decide | omega | (dsimp only; omega)⟩ ⟨by first | decide | omega | (dsimp only; omega), by first | decide | omega | (dsimp only; omega)⟩ (Nat.le_of_ble_eq_true rfl) rfl d_Mo_item_58 (fun r z9 H locs hp V1 => ?_)
        rw [(hB (vt_c O + bt - 128) (by omega)).1] at hp
        obtain ⟨rfl, he9⟩ := hp
        rw [he9] at V1
        have V := V1
        refine W.eq (g2 := F0 m 61 ls [.int (nI (B (vt_c O + bt - 128))), .ref a]) rfl ?_
        refine gh_callV C V hl.1 m_Mo_give l_Mo_342 (c_Mo_give l E _ _ a ad _ _ _ (nI (B (vt_c O + bt - 128))) wt X.1 hS45) rfl X.1.1 gc_Mo ⟨by first | decide | omega | (dsimp only; omega), by first | decide | omega | (dsimp only; omega)⟩ ⟨by first | decide | omega | (dsimp only; omega), by first | decide | omega | (dsimp only; omega)⟩ (Nat.le_of_ble_eq_true rfl) rfl d_Mo_item_61 (fun r z9 H locs hp V1 => ?_)
        obtain ⟨rfl, X2⟩ := hp
        have X := X.then X2
        have V := V1
        refine W.eq (g2 := F0 m 64 ls []) rfl ?_
        refine lv_goto (tgt := 99) hx hb d_Mo_item_64 (by decide) ?_
        refine gh_retv hAe C V hr hlocks d_Mo_item_99 (by first | decide | omega | (dsimp only; omega)) (by first | decide | omega | (dsimp only; omega)) ?_
        have hpl : sr_pl (vt_c O) bt = some (vt_c O + bt - 128) := by unfold sr_pl; rw [if_pos hb8, if_pos hb9]
        exact ⟨rfl, _, _, _, X, by unfold sr_itm; rw [if_pos hk, hpl]; exact mr_give h11 h12 (by omega) (mw_item hO.2 (by omega) (hB _ (by omega)).2)⟩
      · refine lv_iload_n hx hb d_Mo_item_14 rfl (lv_at hl 2 rfl) ?_
        refine lv_if_ge (tgt := 29) hx hb d_Mo_item_15 (by decide) (fun c5 => absurd c5 (fun z => absurd (it_neg bt hb8) (lg_ge0 z))) (fun c5 => ?_)
        refine lv_aload_n hx hb d_Mo_item_18 rfl (lv_at hl 0 rfl) ?_
        refine mo_getA C V X 3 (by decide) (by decide) f_Mo_17 rfl d_Mo_item_19 ?_
        refine lv_iload_n hx hb d_Mo_item_22 rfl (lv_at hl 1 rfl) ?_
        refine mo_ild (k := 3) (i := v) (n := 760) C V X (by decide) (by decide) rfl (by omega) (by decide) d_Mo_item_23 ?_
        rw [show I 3 v = nI (vt_c O) from h3v]
        refine lv_iload_n hx hb d_Mo_item_24 rfl (lv_at hl 2 rfl) ?_
        refine lv_iadd hx hb d_Mo_item_25 ?_
        refine lv_goto (tgt := 30) hx hb d_Mo_item_26 (by decide) ?_
        refine lv_istore_n hx hb d_Mo_item_30 rfl hl (by decide) rfl (fun ls hl => ?_)
        have hl : lv_has ls 4 [(3, .int (nI (vt_c O) + (nI bt - 128))), (0, .ref a), (1, .int (nI v)), (2, .int (nI bt - 128))] := hl
        refine lv_aload_n hx hb d_Mo_item_31 rfl (lv_at hl 1 rfl) ?_
        refine mo_getA C V X 1 (by decide) (by decide) f_Mo_7 rfl d_Mo_item_32 ?_
        refine lv_iload_n hx hb d_Mo_item_35 rfl (lv_at hl 2 rfl) ?_
        refine mo_ild (k := 1) (i := v) (n := 760) C V X (by decide) (by decide) rfl (by omega) (by decide) d_Mo_item_36 ?_
        rw [show I 1 v = nI (vt_k O) from h1v]
        refine lv_iconst (v := 5) hx hb d_Mo_item_37 (by decide) ?_
        refine lv_icmp_ne (tgt := 67) hx hb d_Mo_item_38 (by decide) (fun c6 => absurd (by rw [hk]; decide) c6) (fun c6 => ?_)
        refine lv_iload_n hx hb d_Mo_item_41 rfl (lv_at hl 0 rfl) ?_
        refine lv_aload_n hx hb d_Mo_item_42 rfl (lv_at hl 1 rfl) ?_
        refine mo_getA C V X 3 (by decide) (by decide) f_Mo_17 rfl d_Mo_item_43 ?_
        refine lv_iload_n hx hb d_Mo_item_46 rfl (lv_at hl 2 rfl) ?_
        refine mo_ild (k := 3) (i := v) (n := 760) C V X (by decide) (by decide) rfl (by omega) (by decide) d_Mo_item_47 ?_
        rw [show I 3 v = nI (vt_c O) from h3v]
        refine gh_callS C V hl.1 m_Mo_out l_Mo_354 (c_Mo_out l E _ _ (nI (vt_c O) + (nI bt - 128)) (nI (vt_c O))) rfl ⟨by first | decide | omega | (dsimp only; omega), by first | decide | omega | (dsimp only; omega)⟩ ⟨by first | decide | omega | (dsimp only; omega), by first | decide | omega | (dsimp only; omega)⟩ (Nat.le_of_ble_eq_true rfl) rfl d_Mo_item_48 (fun r z9 H locs hp V1 => ?_)
        obtain ⟨rfl, he9⟩ := hp
        rw [he9] at V1
        have V := V1
        have hbo : (decide (nI (vt_c O) + (nI bt - 128) < 0) || !decide (nI (vt_c O) + (nI bt - 128) < nI (vt_c O))) = true := by rw [decide_eq_true (it_out (vt_c O) (by omega) bt hb8 hb9)]; rfl
        rw [hbo]
        refine W.eq (g2 := F0 m 51 ls [.int (gh_bi true)]) rfl ?_
        refine lv_if_ne (tgt := 67) hx hb d_Mo_item_51 (by decide) (fun c7 => ?_) (fun c7 => absurd c7 (by decide))
        refine lv_aload_n hx hb d_Mo_item_67 rfl (lv_at hl 1 rfl) ?_
        refine mo_getA C V X 1 (by decide) (by decide) f_Mo_7 rfl d_Mo_item_68 ?_
        refine lv_iload_n hx hb d_Mo_item_71 rfl (lv_at hl 2 rfl) ?_
        refine mo_ild (k := 1) (i := v) (n := 760) C V X (by decide) (by decide) rfl (by omega) (by decide) d_Mo_item_72 ?_
        rw [show I 1 v = nI (vt_k O) from h1v]
        refine lv_iconst (v := 5) hx hb d_Mo_item_73 (by decide) ?_
        refine lv_icmp_eq (tgt := 86) hx hb d_Mo_item_74 (by decide) (fun c8 => ?_) (fun c8 => absurd (by rw [hk]; decide) c8)
        refine lv_aload_n hx hb d_Mo_item_86 rfl (lv_at hl 1 rfl) ?_
        refine lv_iconst (v := 0) hx hb d_Mo_item_87 (by decide) ?_
        refine gh_callV C V hl.1 m_Mo_give l_Mo_342 (c_Mo_give l E _ _ a ad _ _ _ 0 wt X.1 hS45) rfl X.1.1 gc_Mo ⟨by first | decide | omega | (dsimp only; omega), by first | decide | omega | (dsimp only; omega)⟩ ⟨by first | decide | omega | (dsimp only; omega), by first | decide | omega | (dsimp only; omega)⟩ (Nat.le_of_ble_eq_true rfl) rfl d_Mo_item_88 (fun r z9 H locs hp V1 => ?_)
        obtain ⟨rfl, X2⟩ := hp
        have X := X.then X2
        have V := V1
        refine W.eq (g2 := F0 m 91 ls []) rfl ?_
        refine lv_goto (tgt := 99) hx hb d_Mo_item_91 (by decide) ?_
        refine gh_retv hAe C V hr hlocks d_Mo_item_99 (by first | decide | omega | (dsimp only; omega)) (by first | decide | omega | (dsimp only; omega)) ?_
        have hpl : sr_pl (vt_c O) bt = none := by unfold sr_pl; rw [if_pos hb8, if_neg hb9]
        exact ⟨rfl, _, _, _, X, by unfold sr_itm; rw [if_pos hk, hpl]; exact mr_give (u := 0) h11 h12 (by omega) hc.1⟩
    · rw [it_pos bt hbt (by omega)] at hl
      refine lv_iload_n hx hb d_Mo_item_14 rfl (lv_at hl 2 rfl) ?_
      refine lv_if_ge (tgt := 29) hx hb d_Mo_item_15 (by decide) (fun c9 => ?_) (fun c9 => absurd (nI_pos' (by omega)) c9)
      refine lv_iload_n hx hb d_Mo_item_29 rfl (lv_at hl 2 rfl) ?_
      refine lv_istore_n hx hb d_Mo_item_30 rfl hl (by decide) rfl (fun ls hl => ?_)
      have hl : lv_has ls 4 [(3, .int (nI (bt - 128))), (0, .ref a), (1, .int (nI v)), (2, .int (nI (bt - 128)))] := hl
      refine lv_aload_n hx hb d_Mo_item_31 rfl (lv_at hl 1 rfl) ?_
      refine mo_getA C V X 1 (by decide) (by decide) f_Mo_7 rfl d_Mo_item_32 ?_
      refine lv_iload_n hx hb d_Mo_item_35 rfl (lv_at hl 2 rfl) ?_
      refine mo_ild (k := 1) (i := v) (n := 760) C V X (by decide) (by decide) rfl (by omega) (by decide) d_Mo_item_36 ?_
      rw [show I 1 v = nI (vt_k O) from h1v]
      refine lv_iconst (v := 5) hx hb d_Mo_item_37 (by decide) ?_
      refine lv_icmp_ne (tgt := 67) hx hb d_Mo_item_38 (by decide) (fun c10 => absurd (by rw [hk]; decide) c10) (fun c10 => ?_)
      refine lv_iload_n hx hb d_Mo_item_41 rfl (lv_at hl 0 rfl) ?_
      refine lv_aload_n hx hb d_Mo_item_42 rfl (lv_at hl 1 rfl) ?_
      refine mo_getA C V X 3 (by decide) (by decide) f_Mo_17 rfl d_Mo_item_43 ?_
      refine lv_iload_n hx hb d_Mo_item_46 rfl (lv_at hl 2 rfl) ?_
      refine mo_ild (k := 3) (i := v) (n := 760) C V X (by decide) (by decide) rfl (by omega) (by decide) d_Mo_item_47 ?_
      rw [show I 3 v = nI (vt_c O) from h3v]
      refine gh_callS C V hl.1 m_Mo_out l_Mo_354 (c_Mo_out l E _ _ (nI (bt - 128)) (nI (vt_c O))) rfl ⟨by first | decide | omega | (dsimp only; omega), by first | decide | omega | (dsimp only; omega)⟩ ⟨by first | decide | omega | (dsimp only; omega), by first | decide | omega | (dsimp only; omega)⟩ (Nat.le_of_ble_eq_true rfl) rfl d_Mo_item_48 (fun r z9 H locs hp V1 => ?_)
      obtain ⟨rfl, he9⟩ := hp
      rw [he9] at V1
      have V := V1
      by_cases hb9 : bt - 128 < vt_c O
      · have hbo : (decide (nI (bt - 128) < 0) || !decide (nI (bt - 128) < nI (vt_c O))) = false := by rw [decide_eq_false (nI_pos (by omega)), decide_eq_true (nI_lt (by omega) (by omega))]; rfl
        rw [hbo]
        refine W.eq (g2 := F0 m 51 ls [.int (gh_bi false)]) rfl ?_
        refine lv_if_ne (tgt := 67) hx hb d_Mo_item_51 (by decide) (fun c11 => absurd (by decide) c11) (fun c11 => ?_)
        refine lv_aload_n hx hb d_Mo_item_54 rfl (lv_at hl 1 rfl) ?_
        refine lv_aload_n hx hb d_Mo_item_55 rfl (lv_at hl 1 rfl) ?_
        refine lv_iload_n hx hb d_Mo_item_56 rfl (lv_at hl 2 rfl) ?_
        refine lv_iload_n hx hb d_Mo_item_57 rfl (lv_at hl 0 rfl) ?_
        refine gh_callV C V hl.1 m_Mo_itemOf l_Mo_176 (c_Mo_itemOf l E _ _ a ad _ _ _ v (bt - 128) fv X.1 hv7 hfv (by omega)) rfl X.1.1 gc_Mo ⟨by first | decide | omega | (dsimp only; omega), by first | decide | omega | (dsimp only; omega)⟩ ⟨by first | decide | omega | (dsimp only; omega), by first | decide | omega | (dsimp only; omega)⟩ (Nat.le_of_ble_eq_true rfl) rfl d_Mo_item_58 (fun r z9 H locs hp V1 => ?_)
        rw [(hB (bt - 128) (by omega)).1] at hp
        obtain ⟨rfl, he9⟩ := hp
        rw [he9] at V1
        have V := V1
        refine W.eq (g2 := F0 m 61 ls [.int (nI (B (bt - 128))), .ref a]) rfl ?_
        refine gh_callV C V hl.1 m_Mo_give l_Mo_342 (c_Mo_give l E _ _ a ad _ _ _ (nI (B (bt - 128))) wt X.1 hS45) rfl X.1.1 gc_Mo ⟨by first | decide | omega | (dsimp only; omega), by first | decide | omega | (dsimp only; omega)⟩ ⟨by first | decide | omega | (dsimp only; omega), by first | decide | omega | (dsimp only; omega)⟩ (Nat.le_of_ble_eq_true rfl) rfl d_Mo_item_61 (fun r z9 H locs hp V1 => ?_)
        obtain ⟨rfl, X2⟩ := hp
        have X := X.then X2
        have V := V1
        refine W.eq (g2 := F0 m 64 ls []) rfl ?_
        refine lv_goto (tgt := 99) hx hb d_Mo_item_64 (by decide) ?_
        refine gh_retv hAe C V hr hlocks d_Mo_item_99 (by first | decide | omega | (dsimp only; omega)) (by first | decide | omega | (dsimp only; omega)) ?_
        have hpl : sr_pl (vt_c O) bt = some (bt - 128) := by unfold sr_pl; rw [if_neg hb8, if_pos hb9]
        exact ⟨rfl, _, _, _, X, by unfold sr_itm; rw [if_pos hk, hpl]; exact mr_give h11 h12 (by omega) (mw_item hO.2 (by omega) (hB _ (by omega)).2)⟩
      · have hbo : (decide (nI (bt - 128) < 0) || !decide (nI (bt - 128) < nI (vt_c O))) = true := by rw [decide_eq_false (nI_pos (by omega)), decide_eq_false (nI_nlt (by omega) (by omega))]; rfl
        rw [hbo]
        refine W.eq (g2 := F0 m 51 ls [.int (gh_bi true)]) rfl ?_
        refine lv_if_ne (tgt := 67) hx hb d_Mo_item_51 (by decide) (fun c12 => ?_) (fun c12 => absurd c12 (by decide))
        refine lv_aload_n hx hb d_Mo_item_67 rfl (lv_at hl 1 rfl) ?_
        refine mo_getA C V X 1 (by decide) (by decide) f_Mo_7 rfl d_Mo_item_68 ?_
        refine lv_iload_n hx hb d_Mo_item_71 rfl (lv_at hl 2 rfl) ?_
        refine mo_ild (k := 1) (i := v) (n := 760) C V X (by decide) (by decide) rfl (by omega) (by decide) d_Mo_item_72 ?_
        rw [show I 1 v = nI (vt_k O) from h1v]
        refine lv_iconst (v := 5) hx hb d_Mo_item_73 (by decide) ?_
        refine lv_icmp_eq (tgt := 86) hx hb d_Mo_item_74 (by decide) (fun c13 => ?_) (fun c13 => absurd (by rw [hk]; decide) c13)
        refine lv_aload_n hx hb d_Mo_item_86 rfl (lv_at hl 1 rfl) ?_
        refine lv_iconst (v := 0) hx hb d_Mo_item_87 (by decide) ?_
        refine gh_callV C V hl.1 m_Mo_give l_Mo_342 (c_Mo_give l E _ _ a ad _ _ _ 0 wt X.1 hS45) rfl X.1.1 gc_Mo ⟨by first | decide | omega | (dsimp only; omega), by first | decide | omega | (dsimp only; omega)⟩ ⟨by first | decide | omega | (dsimp only; omega), by first | decide | omega | (dsimp only; omega)⟩ (Nat.le_of_ble_eq_true rfl) rfl d_Mo_item_88 (fun r z9 H locs hp V1 => ?_)
        obtain ⟨rfl, X2⟩ := hp
        have X := X.then X2
        have V := V1
        refine W.eq (g2 := F0 m 91 ls []) rfl ?_
        refine lv_goto (tgt := 99) hx hb d_Mo_item_91 (by decide) ?_
        refine gh_retv hAe C V hr hlocks d_Mo_item_99 (by first | decide | omega | (dsimp only; omega)) (by first | decide | omega | (dsimp only; omega)) ?_
        have hpl : sr_pl (vt_c O) bt = none := by unfold sr_pl; rw [if_neg hb8, if_neg hb9]
        exact ⟨rfl, _, _, _, X, by unfold sr_itm; rw [if_pos hk, hpl]; exact mr_give (u := 0) h11 h12 (by omega) hc.1⟩
  · have c1 : ¬ (vt_k O) = 5 := by rw [← gq_eq (a := vt_k O) (b := 5) (by omega) (by omega)]; exact c1
    refine lv_iconst (v := (-1)) hx hb d_Mo_item_10 (by decide) ?_
    refine lv_goto (tgt := 30) hx hb d_Mo_item_11 (by decide) ?_
    refine lv_istore_n hx hb d_Mo_item_30 rfl hl (by decide) rfl (fun ls hl => ?_)
    have hl : lv_has ls 4 [(3, .int ((-1))), (0, .ref a), (1, .int (nI v)), (2, .int (nI bt - 128))] := hl
    refine lv_aload_n hx hb d_Mo_item_31 rfl (lv_at hl 1 rfl) ?_
    refine mo_getA C V X 1 (by decide) (by decide) f_Mo_7 rfl d_Mo_item_32 ?_
    refine lv_iload_n hx hb d_Mo_item_35 rfl (lv_at hl 2 rfl) ?_
    refine mo_ild (k := 1) (i := v) (n := 760) C V X (by decide) (by decide) rfl (by omega) (by decide) d_Mo_item_36 ?_
    rw [show I 1 v = nI (vt_k O) from h1v]
    refine lv_iconst (v := 5) hx hb d_Mo_item_37 (by decide) ?_
    refine lv_icmp_ne (tgt := 67) hx hb d_Mo_item_38 (by decide) (fun c14 => ?_) (fun c14 => absurd c14 (fun z => absurd ((nI_eq (b := 5) (by omega) (by omega)).mp z) c1))
    refine lv_aload_n hx hb d_Mo_item_67 rfl (lv_at hl 1 rfl) ?_
    refine mo_getA C V X 1 (by decide) (by decide) f_Mo_7 rfl d_Mo_item_68 ?_
    refine lv_iload_n hx hb d_Mo_item_71 rfl (lv_at hl 2 rfl) ?_
    refine mo_ild (k := 1) (i := v) (n := 760) C V X (by decide) (by decide) rfl (by omega) (by decide) d_Mo_item_72 ?_
    rw [show I 1 v = nI (vt_k O) from h1v]
    refine lv_iconst (v := 5) hx hb d_Mo_item_73 (by decide) ?_
    refine lv_icmp_eq (tgt := 86) hx hb d_Mo_item_74 (by decide) (fun c15 => absurd c15 (fun z => absurd ((nI_eq (b := 5) (by omega) (by omega)).mp z) c1)) (fun c15 => ?_)
    refine lv_aload_n hx hb d_Mo_item_77 rfl (lv_at hl 1 rfl) ?_
    refine mo_getA C V X 1 (by decide) (by decide) f_Mo_7 rfl d_Mo_item_78 ?_
    refine lv_iload_n hx hb d_Mo_item_81 rfl (lv_at hl 2 rfl) ?_
    refine mo_ild (k := 1) (i := v) (n := 760) C V X (by decide) (by decide) rfl (by omega) (by decide) d_Mo_item_82 ?_
    rw [show I 1 v = nI (vt_k O) from h1v]
    refine lv_if_ne (tgt := 94) hx hb d_Mo_item_83 (by decide) (fun c16 => ?_) (fun c16 => ?_)
    · have c16 : ¬ (vt_k O) = 0 := by rw [← gq_eq (a := vt_k O) (b := 0) (by omega) (by omega)]; exact c16
      refine lv_aload_n hx hb d_Mo_item_94 rfl (lv_at hl 1 rfl) ?_
      refine lv_iconst (v := 3) hx hb d_Mo_item_95 (by decide) ?_
      refine gh_callV C V hl.1 m_Mo_tell l_Mo_289 (c_Mo_tell l E _ _ a ad _ _ _ 3 wt X.1 hS45) rfl X.1.1 gc_Mo ⟨by first | decide | omega | (dsimp only; omega), by first | decide | omega | (dsimp only; omega)⟩ ⟨by first | decide | omega | (dsimp only; omega), by first | decide | omega | (dsimp only; omega)⟩ (Nat.le_of_ble_eq_true rfl) rfl d_Mo_item_96 (fun r z9 H locs hp V1 => ?_)
      obtain ⟨rfl, X2⟩ := hp
      have X := X.then X2
      have V := V1
      refine W.eq (g2 := F0 m 99 ls []) rfl ?_
      refine gh_retv hAe C V hr hlocks d_Mo_item_99 (by first | decide | omega | (dsimp only; omega)) (by first | decide | omega | (dsimp only; omega)) ?_
      exact ⟨rfl, _, _, _, X, by unfold sr_itm; rw [if_neg (by omega), if_neg (by omega)]; exact mr_fail h11 h12 (by omega)⟩
    · have c16 : (vt_k O) = 0 := by rw [← gq_eq (a := vt_k O) (b := 0) (by omega) (by omega)]; exact c16
      refine lv_aload_n hx hb d_Mo_item_86 rfl (lv_at hl 1 rfl) ?_
      refine lv_iconst (v := 0) hx hb d_Mo_item_87 (by decide) ?_
      refine gh_callV C V hl.1 m_Mo_give l_Mo_342 (c_Mo_give l E _ _ a ad _ _ _ 0 wt X.1 hS45) rfl X.1.1 gc_Mo ⟨by first | decide | omega | (dsimp only; omega), by first | decide | omega | (dsimp only; omega)⟩ ⟨by first | decide | omega | (dsimp only; omega), by first | decide | omega | (dsimp only; omega)⟩ (Nat.le_of_ble_eq_true rfl) rfl d_Mo_item_88 (fun r z9 H locs hp V1 => ?_)
      obtain ⟨rfl, X2⟩ := hp
      have X := X.then X2
      have V := V1
      refine W.eq (g2 := F0 m 91 ls []) rfl ?_
      refine lv_goto (tgt := 99) hx hb d_Mo_item_91 (by decide) ?_
      refine gh_retv hAe C V hr hlocks d_Mo_item_99 (by first | decide | omega | (dsimp only; omega)) (by first | decide | omega | (dsimp only; omega)) ?_
      exact ⟨rfl, _, _, _, X, by unfold sr_itm; rw [if_neg (by omega), if_pos (by omega)]; exact mr_give (u := 0) h11 h12 (by omega) hc.1⟩
