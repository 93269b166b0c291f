/-! keysOf, addLetter, joinLetters, joinMany of the model. Printed by wip/whole/gen_mo11.py. -/
theorem or_0l {x : Int32} : (0 : Int32) ||| x = x := by apply Int32.toBitVec_inj.mp; simp
theorem or_0r {x : Int32} : x ||| (0 : Int32) = x := by apply Int32.toBitVec_inj.mp; simp
theorem getD_ap {L : List Int32} {x : Int32} {j : Nat} : (L ++ [x]).getD j 0 = if L.length = j then x else L.getD j 0 := by
  by_cases h : L.length = j
  · subst h; rw [if_pos rfl, getD_last]
  · rw [if_neg h]
    by_cases hj : j < L.length
    · exact getD_app hj
    · simp [List.getD, List.getElem?_eq_none (show (L ++ [x]).length ≤ j by simp; omega), List.getElem?_eq_none (show L.length ≤ j by omega)]
theorem ml_L.add {J J2 : mo_J} {v cc : Nat} {L : List Int32} (h : ml_L J v L) (hl : L.length < 24) (hc : cc < 127) (h6 : J2 6 v = if L.length < 8 then J 6 v ||| ((nI cc).toInt64 <<< ((8 * (nI L.length &&& 7)).toInt64 &&& 63)) else J 6 v) (h7 : J2 7 v = if L.length < 8 then J 7 v else if L.length < 16 then J 7 v ||| ((nI cc).toInt64 <<< ((8 * (nI L.length &&& 7)).toInt64 &&& 63)) else J 7 v) (h8 : J2 8 v = if L.length < 16 then J 8 v else J 8 v ||| ((nI cc).toInt64 <<< ((8 * (nI L.length &&& 7)).toInt64 &&& 63))) : ml_L J2 v (L ++ [nI cc]) := by
  refine ⟨by simp; omega, fun k hk => ?_⟩
  rw [h6, h7, h8, ml_at_add hc hl k hk, h.2 k hk, getD_ap]
  by_cases hk2 : L.length = k
  · rw [if_pos hk2, if_pos hk2]
    have : L.getD k 0 = 0 := by simp [List.getD, List.getElem?_eq_none (show L.length ≤ k by omega)]
    rw [this, or_0l]
  · rw [if_neg hk2, if_neg hk2, or_0r]
theorem d_Mo_addLetter_0 : decode b_Mo_addLetter 0 = .ok (.aload_n 0, 1) := by decide +kernel
theorem d_Mo_addLetter_1 : decode b_Mo_addLetter 1 = .ok (.getfield 17, 3) := by decide +kernel
theorem d_Mo_addLetter_4 : decode b_Mo_addLetter 4 = .ok (.iload_n 1, 1) := by decide +kernel
theorem d_Mo_addLetter_5 : decode b_Mo_addLetter 5 = .ok (.iaload, 1) := by decide +kernel
theorem d_Mo_addLetter_6 : decode b_Mo_addLetter 6 = .ok (.istore_n 3, 1) := by decide +kernel
theorem d_Mo_addLetter_7 : decode b_Mo_addLetter 7 = .ok (.iload_n 2, 1) := by decide +kernel
theorem d_Mo_addLetter_8 : decode b_Mo_addLetter 8 = .ok (.i2l, 1) := by decide +kernel
theorem d_Mo_addLetter_9 : decode b_Mo_addLetter 9 = .ok (.bipush 8, 2) := by decide +kernel
theorem d_Mo_addLetter_11 : decode b_Mo_addLetter 11 = .ok (.iload_n 3, 1) := by decide +kernel
theorem d_Mo_addLetter_12 : decode b_Mo_addLetter 12 = .ok (.bipush 7, 2) := by decide +kernel
theorem d_Mo_addLetter_14 : decode b_Mo_addLetter 14 = .ok (.iand, 1) := by decide +kernel
theorem d_Mo_addLetter_15 : decode b_Mo_addLetter 15 = .ok (.imul, 1) := by decide +kernel
theorem d_Mo_addLetter_16 : decode b_Mo_addLetter 16 = .ok (.lshl, 1) := by decide +kernel
theorem d_Mo_addLetter_17 : decode b_Mo_addLetter 17 = .ok (.lstore 4, 2) := by decide +kernel
theorem d_Mo_addLetter_19 : decode b_Mo_addLetter 19 = .ok (.iload_n 3, 1) := by decide +kernel
theorem d_Mo_addLetter_20 : decode b_Mo_addLetter 20 = .ok (.bipush 8, 2) := by decide +kernel
theorem d_Mo_addLetter_22 : decode b_Mo_addLetter 22 = .ok (.if_icmp .ge 21, 3) := by decide +kernel
theorem d_Mo_addLetter_25 : decode b_Mo_addLetter 25 = .ok (.aload_n 0, 1) := by decide +kernel
theorem d_Mo_addLetter_26 : decode b_Mo_addLetter 26 = .ok (.getfield 26, 3) := by decide +kernel
theorem d_Mo_addLetter_29 : decode b_Mo_addLetter 29 = .ok (.iload_n 1, 1) := by decide +kernel
theorem d_Mo_addLetter_30 : decode b_Mo_addLetter 30 = .ok (.aload_n 0, 1) := by decide +kernel
theorem d_Mo_addLetter_31 : decode b_Mo_addLetter 31 = .ok (.getfield 26, 3) := by decide +kernel
theorem d_Mo_addLetter_34 : decode b_Mo_addLetter 34 = .ok (.iload_n 1, 1) := by decide +kernel
theorem d_Mo_addLetter_35 : decode b_Mo_addLetter 35 = .ok (.laload, 1) := by decide +kernel
theorem d_Mo_addLetter_36 : decode b_Mo_addLetter 36 = .ok (.lload 4, 2) := by decide +kernel
theorem d_Mo_addLetter_38 : decode b_Mo_addLetter 38 = .ok (.lor, 1) := by decide +kernel
theorem d_Mo_addLetter_39 : decode b_Mo_addLetter 39 = .ok (.lastore, 1) := by decide +kernel
theorem d_Mo_addLetter_40 : decode b_Mo_addLetter 40 = .ok (.goto 42, 3) := by decide +kernel
theorem d_Mo_addLetter_43 : decode b_Mo_addLetter 43 = .ok (.iload_n 3, 1) := by decide +kernel
theorem d_Mo_addLetter_44 : decode b_Mo_addLetter 44 = .ok (.bipush 16, 2) := by decide +kernel
theorem d_Mo_addLetter_46 : decode b_Mo_addLetter 46 = .ok (.if_icmp .ge 21, 3) := by decide +kernel
theorem d_Mo_addLetter_49 : decode b_Mo_addLetter 49 = .ok (.aload_n 0, 1) := by decide +kernel
theorem d_Mo_addLetter_50 : decode b_Mo_addLetter 50 = .ok (.getfield 29, 3) := by decide +kernel
theorem d_Mo_addLetter_53 : decode b_Mo_addLetter 53 = .ok (.iload_n 1, 1) := by decide +kernel
theorem d_Mo_addLetter_54 : decode b_Mo_addLetter 54 = .ok (.aload_n 0, 1) := by decide +kernel
theorem d_Mo_addLetter_55 : decode b_Mo_addLetter 55 = .ok (.getfield 29, 3) := by decide +kernel
theorem d_Mo_addLetter_58 : decode b_Mo_addLetter 58 = .ok (.iload_n 1, 1) := by decide +kernel
theorem d_Mo_addLetter_59 : decode b_Mo_addLetter 59 = .ok (.laload, 1) := by decide +kernel
theorem d_Mo_addLetter_60 : decode b_Mo_addLetter 60 = .ok (.lload 4, 2) := by decide +kernel
theorem d_Mo_addLetter_62 : decode b_Mo_addLetter 62 = .ok (.lor, 1) := by decide +kernel
theorem d_Mo_addLetter_63 : decode b_Mo_addLetter 63 = .ok (.lastore, 1) := by decide +kernel
theorem d_Mo_addLetter_64 : decode b_Mo_addLetter 64 = .ok (.goto 18, 3) := by decide +kernel
theorem d_Mo_addLetter_67 : decode b_Mo_addLetter 67 = .ok (.aload_n 0, 1) := by decide +kernel
theorem d_Mo_addLetter_68 : decode b_Mo_addLetter 68 = .ok (.getfield 32, 3) := by decide +kernel
theorem d_Mo_addLetter_71 : decode b_Mo_addLetter 71 = .ok (.iload_n 1, 1) := by decide +kernel
theorem d_Mo_addLetter_72 : decode b_Mo_addLetter 72 = .ok (.aload_n 0, 1) := by decide +kernel
theorem d_Mo_addLetter_73 : decode b_Mo_addLetter 73 = .ok (.getfield 32, 3) := by decide +kernel
theorem d_Mo_addLetter_76 : decode b_Mo_addLetter 76 = .ok (.iload_n 1, 1) := by decide +kernel
theorem d_Mo_addLetter_77 : decode b_Mo_addLetter 77 = .ok (.laload, 1) := by decide +kernel
theorem d_Mo_addLetter_78 : decode b_Mo_addLetter 78 = .ok (.lload 4, 2) := by decide +kernel
theorem d_Mo_addLetter_80 : decode b_Mo_addLetter 80 = .ok (.lor, 1) := by decide +kernel
theorem d_Mo_addLetter_81 : decode b_Mo_addLetter 81 = .ok (.lastore, 1) := by decide +kernel
theorem d_Mo_addLetter_82 : decode b_Mo_addLetter 82 = .ok (.aload_n 0, 1) := by decide +kernel
theorem d_Mo_addLetter_83 : decode b_Mo_addLetter 83 = .ok (.getfield 17, 3) := by decide +kernel
theorem d_Mo_addLetter_86 : decode b_Mo_addLetter 86 = .ok (.iload_n 1, 1) := by decide +kernel
theorem d_Mo_addLetter_87 : decode b_Mo_addLetter 87 = .ok (.iload_n 3, 1) := by decide +kernel
theorem d_Mo_addLetter_88 : decode b_Mo_addLetter 88 = .ok (.iconst 1, 1) := by decide +kernel
theorem d_Mo_addLetter_89 : decode b_Mo_addLetter 89 = .ok (.iadd, 1) := by decide +kernel
theorem d_Mo_addLetter_90 : decode b_Mo_addLetter 90 = .ok (.iastore, 1) := by decide +kernel
theorem d_Mo_addLetter_91 : decode b_Mo_addLetter 91 = .ok (.return_, 1) := by decide +kernel
set_option maxHeartbeats 4000000 in
set_option maxRecDepth 100000 in
theorem c_Mo_addLetter (l : Launch) (E : gh_E) (sz : Nat) (f : gh_F) (a : Nat) (ad : Nat → Nat) (S : Nat → Int32) (I : Nat → Nat → Int32) (J : Nat → Nat → Int64) (v cc : Nat) (L : List Int32) (hX : mo_R E f a ad S I J) (hv7 : v < 760) (h3 : I 3 v = nI L.length) (hL : ml_L J v L) (hl24 : L.length < 24) (hcc : cc < 127) : gh_M l y_Mo_addLetter b_Mo_addLetter 6 none E sz [.ref a, .int (nI v), .int (nI cc)] f { frames := 3, cells := 0, slots := 0, locals := 60 } (fun r g => r = none ∧ ∃ J2, mo_X E f g a ad S (va_up I 3 (upd (I 3) v (nI (L.length + 1)))) J2 ∧ (∀ k j, (k ≠ 6 ∧ k ≠ 7 ∧ k ≠ 8) ∨ j ≠ v → J2 k j = J k j) ∧ ml_L J2 v (L ++ [nI cc])) := by
  refine gh_open (by decide) (Nat.le_of_ble_eq_true rfl) ?_
  intro p e s m args below meth c A ls hAe C V hr hlocks hname hl
  have hx := C.1
  have hb := C.2.1
  have hl : lv_has ls 6 [(0, .ref a), (1, .int (nI v)), (2, .int (nI cc))] := hl
  have X : mo_X E f f a ad S I J := ⟨hX, gh_fr.rf⟩
  refine lv_aload_n hx hb d_Mo_addLetter_0 rfl (lv_at hl 0 rfl) ?_
  refine mo_getA C V X 3 (by decide) (by decide) f_Mo_17 rfl d_Mo_addLetter_1 ?_
  refine lv_iload_n hx hb d_Mo_addLetter_4 rfl (lv_at hl 1 rfl) ?_
  refine mo_ild (k := 3) (i := v) (n := 760) C V X (by decide) (by decide) rfl (by omega) (by decide) d_Mo_addLetter_5 ?_
  rw [show I 3 v = nI (L.length) from h3]
  refine lv_istore_n hx hb d_Mo_addLetter_6 rfl hl (by decide) rfl (fun ls hl => ?_)
  have hl : lv_has ls 6 [(3, .int (nI (L.length))), (0, .ref a), (1, .int (nI v)), (2, .int (nI cc))] := hl
  refine lv_iload_n hx hb d_Mo_addLetter_7 rfl (lv_at hl 3 rfl) ?_
  refine lv_i2l hx hb d_Mo_addLetter_8 rfl ?_
  refine lv_bipush (v := 8) hx hb d_Mo_addLetter_9 (by decide) ?_
  refine lv_iload_n hx hb d_Mo_addLetter_11 rfl (lv_at hl 0 rfl) ?_
  refine lv_bipush (v := 7) hx hb d_Mo_addLetter_12 (by decide) ?_
  refine lv_iand hx hb d_Mo_addLetter_14 ?_
  refine lv_imul hx hb d_Mo_addLetter_15 ?_
  refine lv_lshl hx hb d_Mo_addLetter_16 rfl ?_
  refine lv_lstore hx hb d_Mo_addLetter_17 hl (by decide) rfl (fun ls hl => ?_)
  have hl : lv_has ls 6 [(4, .long (((nI cc).toInt64) <<< ((8 * ((nI (L.length)) &&& 7)).toInt64 &&& 63))), (3, .int (nI (L.length))), (0, .ref a), (1, .int (nI v)), (2, .int (nI cc))] := hl
  refine lv_iload_n hx hb d_Mo_addLetter_19 rfl (lv_at hl 1 rfl) ?_
  refine lv_bipush (v := 8) hx hb d_Mo_addLetter_20 (by decide) ?_
  refine lv_icmp_ge (tgt := 43) hx hb d_Mo_addLetter_22 (by decide) (fun c1 => ?_) (fun c1 => ?_)
  · have c1 : 8 ≤ L.length := by rw [← gq_le (a := 8) (b := L.length) (by omega) (by omega)]; exact c1
    refine lv_iload_n hx hb d_Mo_addLetter_43 rfl (lv_at hl 1 rfl) ?_
    refine lv_bipush (v := 16) hx hb d_Mo_addLetter_44 (by decide) ?_
    refine lv_icmp_ge (tgt := 67) hx hb d_Mo_addLetter_46 (by decide) (fun c2 => ?_) (fun c2 => ?_)
    · have c2 : 16 ≤ L.length := by rw [← gq_le (a := 16) (b := L.length) (by omega) (by omega)]; exact c2
      refine lv_aload_n hx hb d_Mo_addLetter_67 rfl (lv_at hl 2 rfl) ?_
      refine mo_getA C V X 8 (by decide) (by decide) f_Mo_32 rfl d_Mo_addLetter_68 ?_
      refine lv_iload_n hx hb d_Mo_addLetter_71 rfl (lv_at hl 3 rfl) ?_
      refine lv_aload_n hx hb d_Mo_addLetter_72 rfl (lv_at hl 2 rfl) ?_
      refine mo_getA C V X 8 (by decide) (by decide) f_Mo_32 rfl d_Mo_addLetter_73 ?_
      refine lv_iload_n hx hb d_Mo_addLetter_76 rfl (lv_at hl 3 rfl) ?_
      refine mo_lld (k := 8) (i := v) (n := 760) C V X (by decide) (by decide) rfl (by omega) (by decide) d_Mo_addLetter_77 ?_
      refine lv_lload hx hb d_Mo_addLetter_78 (lv_at hl 0 rfl) ?_
      refine lv_lor hx hb d_Mo_addLetter_80 ?_
      refine mo_lst (k := 8) (i := v) (n := 760) C V X (by decide) (by decide) rfl (by omega) (by decide) d_Mo_addLetter_81 (fun f1 H locs V1 X1 => ?_)
      clear V X
      have V := V1
      have X := X1
      clear V1 X1
      refine lv_aload_n hx hb d_Mo_addLetter_82 rfl (lv_at hl 2 rfl) ?_
      refine mo_getA C V X 3 (by decide) (by decide) f_Mo_17 rfl d_Mo_addLetter_83 ?_
      refine lv_iload_n hx hb d_Mo_addLetter_86 rfl (lv_at hl 3 rfl) ?_
      refine lv_iload_n hx hb d_Mo_addLetter_87 rfl (lv_at hl 1 rfl) ?_
      refine lv_iconst (v := 1) hx hb d_Mo_addLetter_88 (by decide) ?_
      refine gn_iadd (a := L.length) (b := 1) hx hb d_Mo_addLetter_89 ?_
      refine mo_ist (k := 3) (i := v) (n := 760) C V X (by decide) (by decide) rfl (by omega) (by decide) d_Mo_addLetter_90 (fun f1 H locs V1 X1 => ?_)
      clear V X
      have V := V1
      have X := X1
      clear V1 X1
      refine gh_retv hAe C V hr hlocks d_Mo_addLetter_91 (by first | decide | omega | (dsimp only; omega)) (by first | decide | omega | (dsimp only; omega)) ?_
      refine ⟨rfl, _, X, fun k j h => ?_, ml_L.add hL hl24 hcc ?_ ?_ ?_⟩
      · by_cases hk9 : k = 8
        · subst hk9; rw [va_up_s]; simp only [vp_updL]; rw [if_neg (by omega)]
        · rw [va_up_n hk9]
      · rw [va_up_n (by decide), if_neg (by omega)]
      · rw [va_up_n (by decide), if_neg (by omega), if_neg (by omega)]
      · rw [va_up_s, if_neg (by omega)]; simp [vp_updL]
    · have c2 : ¬ 16 ≤ L.length := by rw [← gq_le (a := 16) (b := L.length) (by omega) (by omega)]; exact c2
      refine lv_aload_n hx hb d_Mo_addLetter_49 rfl (lv_at hl 2 rfl) ?_
      refine mo_getA C V X 7 (by decide) (by decide) f_Mo_29 rfl d_Mo_addLetter_50 ?_
      refine lv_iload_n hx hb d_Mo_addLetter_53 rfl (lv_at hl 3 rfl) ?_
      refine lv_aload_n hx hb d_Mo_addLetter_54 rfl (lv_at hl 2 rfl) ?_
      refine mo_getA C V X 7 (by decide) (by decide) f_Mo_29 rfl d_Mo_addLetter_55 ?_
      refine lv_iload_n hx hb d_Mo_addLetter_58 rfl (lv_at hl 3 rfl) ?_
      refine mo_lld (k := 7) (i := v) (n := 760) C V X (by decide) (by decide) rfl (by omega) (by decide) d_Mo_addLetter_59 ?_
      refine lv_lload hx hb d_Mo_addLetter_60 (lv_at hl 0 rfl) ?_
      refine lv_lor hx hb d_Mo_addLetter_62 ?_
      refine mo_lst (k := 7) (i := v) (n := 760) C V X (by decide) (by decide) rfl (by omega) (by decide) d_Mo_addLetter_63 (fun f1 H locs V1 X1 => ?_)
      clear V X
      have V := V1
      have X := X1
      clear V1 X1
      refine lv_goto (tgt := 82) hx hb d_Mo_addLetter_64 (by decide) ?_
      refine lv_aload_n hx hb d_Mo_addLetter_82 rfl (lv_at hl 2 rfl) ?_
      refine mo_getA C V X 3 (by decide) (by decide) f_Mo_17 rfl d_Mo_addLetter_83 ?_
      refine lv_iload_n hx hb d_Mo_addLetter_86 rfl (lv_at hl 3 rfl) ?_
      refine lv_iload_n hx hb d_Mo_addLetter_87 rfl (lv_at hl 1 rfl) ?_
      refine lv_iconst (v := 1) hx hb d_Mo_addLetter_88 (by decide) ?_
      refine gn_iadd (a := L.length) (b := 1) hx hb d_Mo_addLetter_89 ?_
      refine mo_ist (k := 3) (i := v) (n := 760) C V X (by decide) (by decide) rfl (by omega) (by decide) d_Mo_addLetter_90 (fun f1 H locs V1 X1 => ?_)
      clear V X
      have V := V1
      have X := X1
      clear V1 X1
      refine gh_retv hAe C V hr hlocks d_Mo_addLetter_91 (by first | decide | omega | (dsimp only; omega)) (by first | decide | omega | (dsimp only; omega)) ?_
      refine ⟨rfl, _, X, fun k j h => ?_, ml_L.add hL hl24 hcc ?_ ?_ ?_⟩
      · by_cases hk9 : k = 7
        · subst hk9; rw [va_up_s]; simp only [vp_updL]; rw [if_neg (by omega)]
        · rw [va_up_n hk9]
      · rw [va_up_n (by decide), if_neg (by omega)]
      · rw [va_up_s, if_neg (by omega), if_pos (by omega)]; simp [vp_updL]
      · rw [va_up_n (by decide), if_pos (by omega)]
  · have c1 : ¬ 8 ≤ L.length := by rw [← gq_le (a := 8) (b := L.length) (by omega) (by omega)]; exact c1
    refine lv_aload_n hx hb d_Mo_addLetter_25 rfl (lv_at hl 2 rfl) ?_
    refine mo_getA C V X 6 (by decide) (by decide) f_Mo_26 rfl d_Mo_addLetter_26 ?_
    refine lv_iload_n hx hb d_Mo_addLetter_29 rfl (lv_at hl 3 rfl) ?_
    refine lv_aload_n hx hb d_Mo_addLetter_30 rfl (lv_at hl 2 rfl) ?_
    refine mo_getA C V X 6 (by decide) (by decide) f_Mo_26 rfl d_Mo_addLetter_31 ?_
    refine lv_iload_n hx hb d_Mo_addLetter_34 rfl (lv_at hl 3 rfl) ?_
    refine mo_lld (k := 6) (i := v) (n := 760) C V X (by decide) (by decide) rfl (by omega) (by decide) d_Mo_addLetter_35 ?_
    refine lv_lload hx hb d_Mo_addLetter_36 (lv_at hl 0 rfl) ?_
    refine lv_lor hx hb d_Mo_addLetter_38 ?_
    refine mo_lst (k := 6) (i := v) (n := 760) C V X (by decide) (by decide) rfl (by omega) (by decide) d_Mo_addLetter_39 (fun f1 H locs V1 X1 => ?_)
    clear V X
    have V := V1
    have X := X1
    clear V1 X1
    refine lv_goto (tgt := 82) hx hb d_Mo_addLetter_40 (by decide) ?_
    refine lv_aload_n hx hb d_Mo_addLetter_82 rfl (lv_at hl 2 rfl) ?_
    refine mo_getA C V X 3 (by decide) (by decide) f_Mo_17 rfl d_Mo_addLetter_83 ?_
    refine lv_iload_n hx hb d_Mo_addLetter_86 rfl (lv_at hl 3 rfl) ?_
    refine lv_iload_n hx hb d_Mo_addLetter_87 rfl (lv_at hl 1 rfl) ?_
    refine lv_iconst (v := 1) hx hb d_Mo_addLetter_88 (by decide) ?_
    refine gn_iadd (a := L.length) (b := 1) hx hb d_Mo_addLetter_89 ?_
    refine mo_ist (k := 3) (i := v) (n := 760) C V X (by decide) (by decide) rfl (by omega) (by decide) d_Mo_addLetter_90 (fun f1 H locs V1 X1 => ?_)
    clear V X
    have V := V1
    have X := X1
    clear V1 X1
    refine gh_retv hAe C V hr hlocks d_Mo_addLetter_91 (by first | decide | omega | (dsimp only; omega)) (by first | decide | omega | (dsimp only; omega)) ?_
    refine ⟨rfl, _, X, fun k j h => ?_, ml_L.add hL hl24 hcc ?_ ?_ ?_⟩
    · by_cases hk9 : k = 6
      · subst hk9; rw [va_up_s]; simp only [vp_updL]; rw [if_neg (by omega)]
      · rw [va_up_n hk9]
    · rw [va_up_s, if_pos (by omega)]; simp [vp_updL]
    · rw [va_up_n (by decide), if_pos (by omega)]
    · rw [va_up_n (by decide), if_pos (by omega)]
theorem d_Mo_keysOf_0 : decode b_Mo_keysOf 0 = .ok (.aload_n 0, 1) := by decide +kernel
theorem d_Mo_keysOf_1 : decode b_Mo_keysOf 1 = .ok (.getfield 7, 3) := by decide +kernel
theorem d_Mo_keysOf_4 : decode b_Mo_keysOf 4 = .ok (.iload_n 1, 1) := by decide +kernel
theorem d_Mo_keysOf_5 : decode b_Mo_keysOf 5 = .ok (.iaload, 1) := by decide +kernel
theorem d_Mo_keysOf_6 : decode b_Mo_keysOf 6 = .ok (.bipush 6, 2) := by decide +kernel
theorem d_Mo_keysOf_8 : decode b_Mo_keysOf 8 = .ok (.if_icmp .eq 9, 3) := by decide +kernel
theorem d_Mo_keysOf_11 : decode b_Mo_keysOf 11 = .ok (.aload_n 0, 1) := by decide +kernel
theorem d_Mo_keysOf_12 : decode b_Mo_keysOf 12 = .ok (.iconst 3, 1) := by decide +kernel
theorem d_Mo_keysOf_13 : decode b_Mo_keysOf 13 = .ok (.invokevirtual 289, 3) := by decide +kernel
theorem d_Mo_keysOf_16 : decode b_Mo_keysOf 16 = .ok (.return_, 1) := by decide +kernel
theorem d_Mo_keysOf_17 : decode b_Mo_keysOf 17 = .ok (.aload_n 0, 1) := by decide +kernel
theorem d_Mo_keysOf_18 : decode b_Mo_keysOf 18 = .ok (.iconst 0, 1) := by decide +kernel
theorem d_Mo_keysOf_19 : decode b_Mo_keysOf 19 = .ok (.putfield 156, 3) := by decide +kernel
theorem d_Mo_keysOf_22 : decode b_Mo_keysOf 22 = .ok (.iconst 0, 1) := by decide +kernel
theorem d_Mo_keysOf_23 : decode b_Mo_keysOf 23 = .ok (.istore_n 2, 1) := by decide +kernel
theorem d_Mo_keysOf_24 : decode b_Mo_keysOf 24 = .ok (.iload_n 2, 1) := by decide +kernel
theorem d_Mo_keysOf_25 : decode b_Mo_keysOf 25 = .ok (.aload_n 0, 1) := by decide +kernel
theorem d_Mo_keysOf_26 : decode b_Mo_keysOf 26 = .ok (.getfield 17, 3) := by decide +kernel
theorem d_Mo_keysOf_29 : decode b_Mo_keysOf 29 = .ok (.iload_n 1, 1) := by decide +kernel
theorem d_Mo_keysOf_30 : decode b_Mo_keysOf 30 = .ok (.iaload, 1) := by decide +kernel
theorem d_Mo_keysOf_31 : decode b_Mo_keysOf 31 = .ok (.if_icmp .ge 34, 3) := by decide +kernel
theorem d_Mo_keysOf_34 : decode b_Mo_keysOf 34 = .ok (.aload_n 0, 1) := by decide +kernel
theorem d_Mo_keysOf_35 : decode b_Mo_keysOf 35 = .ok (.getfield 44, 3) := by decide +kernel
theorem d_Mo_keysOf_38 : decode b_Mo_keysOf 38 = .ok (.aload_n 0, 1) := by decide +kernel
theorem d_Mo_keysOf_39 : decode b_Mo_keysOf 39 = .ok (.getfield 156, 3) := by decide +kernel
theorem d_Mo_keysOf_42 : decode b_Mo_keysOf 42 = .ok (.aload_n 0, 1) := by decide +kernel
theorem d_Mo_keysOf_43 : decode b_Mo_keysOf 43 = .ok (.iload_n 1, 1) := by decide +kernel
theorem d_Mo_keysOf_44 : decode b_Mo_keysOf 44 = .ok (.iload_n 2, 1) := by decide +kernel
theorem d_Mo_keysOf_45 : decode b_Mo_keysOf 45 = .ok (.invokevirtual 150, 3) := by decide +kernel
theorem d_Mo_keysOf_48 : decode b_Mo_keysOf 48 = .ok (.iastore, 1) := by decide +kernel
theorem d_Mo_keysOf_49 : decode b_Mo_keysOf 49 = .ok (.aload_n 0, 1) := by decide +kernel
theorem d_Mo_keysOf_50 : decode b_Mo_keysOf 50 = .ok (.dup, 1) := by decide +kernel
theorem d_Mo_keysOf_51 : decode b_Mo_keysOf 51 = .ok (.getfield 156, 3) := by decide +kernel
theorem d_Mo_keysOf_54 : decode b_Mo_keysOf 54 = .ok (.iconst 1, 1) := by decide +kernel
theorem d_Mo_keysOf_55 : decode b_Mo_keysOf 55 = .ok (.iadd, 1) := by decide +kernel
theorem d_Mo_keysOf_56 : decode b_Mo_keysOf 56 = .ok (.putfield 156, 3) := by decide +kernel
theorem d_Mo_keysOf_59 : decode b_Mo_keysOf 59 = .ok (.iinc 2 1, 3) := by decide +kernel
theorem d_Mo_keysOf_62 : decode b_Mo_keysOf 62 = .ok (.goto (-38), 3) := by decide +kernel
theorem d_Mo_keysOf_65 : decode b_Mo_keysOf 65 = .ok (.aload_n 0, 1) := by decide +kernel
theorem d_Mo_keysOf_66 : decode b_Mo_keysOf 66 = .ok (.aload_n 0, 1) := by decide +kernel
theorem d_Mo_keysOf_67 : decode b_Mo_keysOf 67 = .ok (.iconst 5, 1) := by decide +kernel
theorem d_Mo_keysOf_68 : decode b_Mo_keysOf 68 = .ok (.invokevirtual 230, 3) := by decide +kernel
theorem d_Mo_keysOf_71 : decode b_Mo_keysOf 71 = .ok (.invokevirtual 342, 3) := by decide +kernel
theorem d_Mo_keysOf_74 : decode b_Mo_keysOf 74 = .ok (.return_, 1) := by decide +kernel
set_option maxHeartbeats 4000000 in
set_option maxRecDepth 100000 in
theorem c_Mo_keysOf (l : Launch) (E : gh_E) (sz : Nat) (f : gh_F) (a : Nat) (ad : Nat → Nat) (S : Nat → Int32) (I : Nat → Nat → Int32) (J : Nat → Nat → Int64) (b0 nv pb np wt : Nat) (v : Nat) (O : vt) (hX : mo_R E f a ad S I J) (h11 : S 11 = nI nv) (h12 : S 12 = nI np) (hp8 : np + 32 ≤ 8800) (hnv : nv < 760) (h29 : 29 ≤ nv) (hb0 : b0 ≤ nv) (hpb : pb ≤ np) (hS45 : S 45 = nI (wt + 1)) (hc : mc I J b0 nv pb np) (hO : mw I J b0 nv pb np v O) : gh_M l y_Mo_keysOf b_Mo_keysOf 3 none E sz [.ref a, .int (nI v)] f { frames := 6, cells := 0, slots := 0, locals := 180 } (fun r g => r = none ∧ ∃ S2 I2 J2, mo_X E f g a ad S2 I2 J2 ∧ mr_A (if vt_k O = 6 then some (vt_ks O) else none) S I J b0 nv pb np wt S2 I2 J2) := by
  obtain ⟨hav, h1v, h2v, h3v, h4v, h5v, h6v, h7v⟩ := mv_o.mp hO.1
  have hv7 := hav.2
  have hoO := vo_o.mp hO.2
  have hk6 := hoO.1
  have hc16 := hoO.2.2.2.2.2.2.1
  have hqc := hoO.2.2.2.2.1
  have hqk := hoO.2.2.2.2.2.2.2.2.2.2.1
  refine gh_open (by decide) (Nat.le_of_ble_eq_true rfl) ?_
  intro p e s m args below meth c A ls hAe C V hr hlocks hname hl
  have hx := C.1
  have hb := C.2.1
  have hl : lv_has ls 3 [(0, .ref a), (1, .int (nI v))] := hl
  have X : mo_X E f f a ad S I J := ⟨hX, gh_fr.rf⟩
  refine lv_aload_n hx hb d_Mo_keysOf_0 rfl (lv_at hl 0 rfl) ?_
  refine mo_getA C V X 1 (by decide) (by decide) f_Mo_7 rfl d_Mo_keysOf_1 ?_
  refine lv_iload_n hx hb d_Mo_keysOf_4 rfl (lv_at hl 1 rfl) ?_
  refine mo_ild (k := 1) (i := v) (n := 760) C V X (by decide) (by decide) rfl (by omega) (by decide) d_Mo_keysOf_5 ?_
  rw [show I 1 v = nI (vt_k O) from h1v]
  refine lv_bipush (v := 6) hx hb d_Mo_keysOf_6 (by decide) ?_
  refine lv_icmp_eq (tgt := 17) hx hb d_Mo_keysOf_8 (by decide) (fun c1 => ?_) (fun c1 => ?_)
  · have c1 : (vt_k O) = 6 := by rw [← gq_eq (a := vt_k O) (b := 6) (by omega) (by omega)]; exact c1
    refine lv_aload_n hx hb d_Mo_keysOf_17 rfl (lv_at hl 0 rfl) ?_
    refine lv_iconst (v := 0) hx hb d_Mo_keysOf_18 (by decide) ?_
    refine mo_putS C V X 16 (by decide) (by decide) f_Mo_156 rfl rfl rfl d_Mo_keysOf_19 (fun f1 H locs V1 X1 => ?_)
    clear V X
    have V := V1
    have X := X1
    clear V1 X1
    refine lv_iconst (v := 0) hx hb d_Mo_keysOf_22 (by decide) ?_
    refine lv_istore_n hx hb d_Mo_keysOf_23 rfl hl (by decide) rfl (fun ls hl => ?_)
    have hl : lv_has ls 3 [(2, .int 0), (0, .ref a), (1, .int (nI v))] := hl
    have hk := c1
    obtain ⟨fv, B, K, hfv, ⟨hf1, hf2, hf3⟩, hB, hK⟩ := h7v (by omega)
    rw [hk, if_pos rfl] at hqc
    rw [show vt_ln O = vt_c O by unfold vt_ln; rw [if_neg (by omega)]] at h3v
    have hl : lv_has ls 3 [(2, .int 0), (0, .ref a), (1, .int (nI v))] := lv_sub hl [0, 1, 2] rfl
    have hl : lv_has ls 3 [(2, .int (nI 0)), (0, .ref a), (1, .int (nI v))] := hl
    have loop : ∀ (n9 i9 : Nat) (S1 : Nat → Int32) (I1 : mo_I) (f1 : gh_F) (H : Heap) (locs : List Loc) (ls : Array Slot), i9 + n9 = vt_c O → (mg S1 I1 J b0 nv pb np [] (((vt_q O).map vt_t).take i9)) → (mg_o S I S1 I1) → mo_X E f f1 a ad S1 I1 J → gh_V E A f1 s H locs → lv_has ls 3 [(2, .int (nI i9)), (0, .ref a), (1, .int (nI v))] → W p l e { frames := 6, cells := 0, slots := 0, locals := 180 } s m args below meth c H locs 0 0 (MQ below (gh_Q E f (fun r g => r = none ∧ ∃ S2 I2 J2, mo_X E f g a ad S2 I2 J2 ∧ mr_A (if vt_k O = 6 then some (vt_ks O) else none) S I J b0 nv pb np wt S2 I2 J2)) args s 0 0 A) (F0 m 24 ls []) := by
      intro n9
      induction n9 with
      | zero =>
        intro i9 S1 I1 f1 H locs ls hi hg1 hgo X V hl
        have hfv1 : I1 9 v = nI fv := by rw [hgo.1 9 (by decide) (by decide)]; exact hfv
        have h3v1 : I1 3 v = nI (vt_c O) := by rw [hgo.1 3 (by decide) (by decide)]; exact h3v
        have htl : (((vt_q O).map vt_t).take i9).length = i9 := by simp; omega
        have hS16 : S1 16 = nI i9 := by rw [hg1.choose_spec.choose_spec.1, htl]
        refine lv_iload_n hx hb d_Mo_keysOf_24 rfl (lv_at hl 0 rfl) ?_
        refine lv_aload_n hx hb d_Mo_keysOf_25 rfl (lv_at hl 1 rfl) ?_
        refine mo_getA C V X 3 (by decide) (by decide) f_Mo_17 rfl d_Mo_keysOf_26 ?_
        refine lv_iload_n hx hb d_Mo_keysOf_29 rfl (lv_at hl 2 rfl) ?_
        refine mo_ild (k := 3) (i := v) (n := 760) C V X (by decide) (by decide) rfl (by omega) (by decide) d_Mo_keysOf_30 ?_
        rw [show I1 3 v = nI (vt_c O) from h3v1]
        refine lv_icmp_ge (tgt := 65) hx hb d_Mo_keysOf_31 (by decide) (fun c2 => ?_) (fun c2 => absurd (nI_le (by omega) (by omega)) c2)
        refine lv_aload_n hx hb d_Mo_keysOf_65 rfl (lv_at hl 1 rfl) ?_
        refine lv_aload_n hx hb d_Mo_keysOf_66 rfl (lv_at hl 1 rfl) ?_
        refine lv_iconst (v := 5) hx hb d_Mo_keysOf_67 (by decide) ?_
        have hi9 : i9 = vt_c O := by omega
        rw [show ((vt_q O).map vt_t).take i9 = ((vt_q O).map vt_t) by rw [List.take_of_length_le (by simp; omega)]] at hg1
        have hlen : ((vt_q O).map vt_t).length = vt_c O := by simp; exact hqc
        have h11a : S1 11 = nI nv := by rw [hgo.2 11 (by decide)]; exact h11
        have h12a : S1 12 = nI np := by rw [hgo.2 12 (by decide)]; exact h12
        refine gh_callV C V hl.1 m_Mo_seal l_Mo_230 (c_Mo_seal l E _ _ a ad _ _ _ b0 nv pb np 5 [] ((vt_q O).map vt_t) X.1 hg1 h11a h12a hnv h29 (by omega) (by omega) (Or.inl rfl)) rfl X.1.1 gc_Mo ⟨by first | decide | omega | (dsimp only; omega), by first | decide | omega | (dsimp only; omega)⟩ ⟨by first | decide | omega | (dsimp only; omega), by first | decide | omega | (dsimp only; omega)⟩ (Nat.le_of_ble_eq_true rfl) rfl d_Mo_keysOf_68 (fun r z9 H locs hp V1 => ?_)
        obtain ⟨rfl, S2, I2, J2, X2, hsl⟩ := hp
        have hsl : sl_o S1 I1 J b0 nv pb np 5 ((vt_q O).map vt_t) S2 I2 J2 := hsl
        have X := X.then X2
        have V := V1
        have h45a : S2 45 = nI (wt + 1) := by rw [hsl.2.2.2.1 45 (by decide) (by decide), hgo.2 45 (by decide)]; exact hS45
        refine W.eq (g2 := F0 m 71 ls [.int (nI nv), .ref a]) rfl ?_
        refine gh_callV C V hl.1 m_Mo_give l_Mo_342 (c_Mo_give l E _ _ a ad _ _ _ (nI nv) wt X.1 h45a) rfl X.1.1 gc_Mo ⟨by first | decide | omega | (dsimp only; omega), by first | decide | omega | (dsimp only; omega)⟩ ⟨by first | decide | omega | (dsimp only; omega), by first | decide | omega | (dsimp only; omega)⟩ (Nat.le_of_ble_eq_true rfl) rfl d_Mo_keysOf_71 (fun r z9 H locs hp V1 => ?_)
        obtain ⟨rfl, X2⟩ := hp
        have X := X.then X2
        have V := V1
        refine W.eq (g2 := F0 m 74 ls []) rfl ?_
        refine gh_retv hAe C V hr hlocks d_Mo_keysOf_74 (by first | decide | omega | (dsimp only; omega)) (by first | decide | omega | (dsimp only; omega)) ?_
        have hwl := vt_wsum_le (xs := ((vt_q O).map vt_t)) (B := 1) (fun j hj => by rw [getD_mp (by omega)]; exact Nat.le_refl _)
        have hhl := vt_hmax_le (xs := ((vt_q O).map vt_t)) (B := 0) (fun j hj => by rw [getD_mp (by omega)]; exact Nat.le_refl _)
        exact ⟨rfl, _, _, _, X, by rw [if_pos hk]; exact mr_seal (ks2 := []) hgo.un hgo.ma hg1 hsl (Or.inl ⟨rfl, rfl⟩) hb0 hnv hpb (by omega) (by omega) (by omega) (by omega)⟩
      | succ n9 ih =>
        intro i9 S1 I1 f1 H locs ls hi hg1 hgo X V hl
        have hfv1 : I1 9 v = nI fv := by rw [hgo.1 9 (by decide) (by decide)]; exact hfv
        have h3v1 : I1 3 v = nI (vt_c O) := by rw [hgo.1 3 (by decide) (by decide)]; exact h3v
        have htl : (((vt_q O).map vt_t).take i9).length = i9 := by simp; omega
        have hS16 : S1 16 = nI i9 := by rw [hg1.choose_spec.choose_spec.1, htl]
        have hK1 : I1 10 (fv + vt_c O + i9) = nI (K i9) := by rw [hgo.1 10 (by decide) (by decide)]; exact (hK i9 (by omega)).1
        refine lv_iload_n hx hb d_Mo_keysOf_24 rfl (lv_at hl 0 rfl) ?_
        refine lv_aload_n hx hb d_Mo_keysOf_25 rfl (lv_at hl 1 rfl) ?_
        refine mo_getA C V X 3 (by decide) (by decide) f_Mo_17 rfl d_Mo_keysOf_26 ?_
        refine lv_iload_n hx hb d_Mo_keysOf_29 rfl (lv_at hl 2 rfl) ?_
        refine mo_ild (k := 3) (i := v) (n := 760) C V X (by decide) (by decide) rfl (by omega) (by decide) d_Mo_keysOf_30 ?_
        rw [show I1 3 v = nI (vt_c O) from h3v1]
        refine lv_icmp_ge (tgt := 65) hx hb d_Mo_keysOf_31 (by decide) (fun c3 => absurd c3 (nI_ge (by omega) (by omega))) (fun c3 => ?_)
        refine lv_aload_n hx hb d_Mo_keysOf_34 rfl (lv_at hl 1 rfl) ?_
        refine mo_getA C V X 14 (by decide) (by decide) f_Mo_44 rfl d_Mo_keysOf_35 ?_
        refine lv_aload_n hx hb d_Mo_keysOf_38 rfl (lv_at hl 1 rfl) ?_
        refine mo_getS (v := nI i9) C V X 16 (by decide) (by decide) (by first | rfl | exact hS16) f_Mo_156 rfl d_Mo_keysOf_39 ?_
        refine lv_aload_n hx hb d_Mo_keysOf_42 rfl (lv_at hl 1 rfl) ?_
        refine lv_iload_n hx hb d_Mo_keysOf_43 rfl (lv_at hl 2 rfl) ?_
        refine lv_iload_n hx hb d_Mo_keysOf_44 rfl (lv_at hl 0 rfl) ?_
        refine gh_callV C V hl.1 m_Mo_keyOf l_Mo_150 (c_Mo_keyOf l E _ _ a ad _ _ _ v i9 fv (vt_c O) X.1 hv7 hfv1 h3v1 (by omega)) rfl X.1.1 gc_Mo ⟨by first | decide | omega | (dsimp only; omega), by first | decide | omega | (dsimp only; omega)⟩ ⟨by first | decide | omega | (dsimp only; omega), by first | decide | omega | (dsimp only; omega)⟩ (Nat.le_of_ble_eq_true rfl) rfl d_Mo_keysOf_45 (fun r z9 H locs hp V1 => ?_)
        rw [hK1] at hp
        obtain ⟨rfl, he9⟩ := hp
        rw [he9] at V1
        have V := V1
        refine W.eq (g2 := F0 m 48 ls [.int (nI (K i9)), .int (nI i9), .ref (ad 14)]) rfl ?_
        refine mo_ist (k := 14) (i := i9) (n := 32) C V X (by decide) (by decide) rfl (by omega) (by decide) d_Mo_keysOf_48 (fun f1 H locs V1 X1 => ?_)
        clear V X
        have V := V1
        have X := X1
        clear V1 X1
        refine lv_aload_n hx hb d_Mo_keysOf_49 rfl (lv_at hl 1 rfl) ?_
        refine lv_dup hx hb d_Mo_keysOf_50 rfl ?_
        refine mo_getS (v := nI i9) C V X 16 (by decide) (by decide) (by first | rfl | exact hS16) f_Mo_156 rfl d_Mo_keysOf_51 ?_
        refine lv_iconst (v := 1) hx hb d_Mo_keysOf_54 (by decide) ?_
        refine gn_iadd (a := i9) (b := 1) hx hb d_Mo_keysOf_55 ?_
        refine mo_putS C V X 16 (by decide) (by decide) f_Mo_156 rfl rfl rfl d_Mo_keysOf_56 (fun f1 H locs V1 X1 => ?_)
        clear V X
        have V := V1
        have X := X1
        clear V1 X1
        refine lv_iinc (k := 0) (v := (nI i9) + 1) hx hb d_Mo_keysOf_59 hl rfl (by rfl) (by decide) rfl (fun ls hl => ?_)
        have hl : lv_has ls 3 [(2, .int (nI (i9 + 1))), (0, .ref a), (1, .int (nI v))] := by rw [nI_succ]; exact hl
        refine lv_goto (tgt := 24) hx hb d_Mo_keysOf_62 (by decide) ?_
        have hl : lv_has ls 3 [(2, .int (nI (i9 + 1))), (0, .ref a), (1, .int (nI v))] := lv_sub hl [0, 1, 2] rfl
        have hl : lv_has ls 3 [(2, .int (nI (i9 + 1))), (0, .ref a), (1, .int (nI v))] := hl
        have hadd := mg.add hg1 (by omega) (((hK i9 (by omega)).2.keep (hgo.ma (J := J) (b0 := b0) (nv := nv) (pb := pb) (np := np)) (Nat.le_refl _)).str (pb := pb) (np := np) (hqk i9 (by omega))) (by omega)
        rw [htl] at hadd
        refine ih (i9 + 1) _ _ _ H locs ls (by omega) ?_ (hgo.tr ⟨fun k h1 h2 => va_up_n h1, fun k h1 => va_up_n h1⟩) X V hl
        rw [vt_take (by simp; omega), getD_mp (by omega)]
        exact hadd
    exact loop (vt_c O) 0 (va_up S 16 0) I _ _ _ ls (by omega) ⟨fun _ => 0, fun _ => 0, va_up_s, Nat.zero_le _, Nat.le_refl _, fun j hj => absurd hj (Nat.not_lt_zero j), fun j hj => absurd hj (Nat.not_lt_zero j)⟩ ⟨fun _ _ _ => rfl, fun k h => va_up_n h⟩ X V hl
  · have c1 : ¬ (vt_k O) = 6 := by rw [← gq_eq (a := vt_k O) (b := 6) (by omega) (by omega)]; exact c1
    refine lv_aload_n hx hb d_Mo_keysOf_11 rfl (lv_at hl 0 rfl) ?_
    refine lv_iconst (v := 3) hx hb d_Mo_keysOf_12 (by decide) ?_
    refine gh_callV C V hl.1 m_Mo_tell l_Mo_289 (c_Mo_tell l E _ _ a ad _ _ _ 3 wt X.1 hS45) rfl X.1.1 gc_Mo ⟨by first | decide | omega | (dsimp only; omega), by first | decide | omega | (dsimp only; omega)⟩ ⟨by first | decide | omega | (dsimp only; omega), by first | decide | omega | (dsimp only; omega)⟩ (Nat.le_of_ble_eq_true rfl) rfl d_Mo_keysOf_13 (fun r z9 H locs hp V1 => ?_)
    obtain ⟨rfl, X2⟩ := hp
    have X := X.then X2
    have V := V1
    refine W.eq (g2 := F0 m 16 ls []) rfl ?_
    refine gh_retv hAe C V hr hlocks d_Mo_keysOf_16 (by first | decide | omega | (dsimp only; omega)) (by first | decide | omega | (dsimp only; omega)) ?_
    exact ⟨rfl, _, _, _, X, by rw [if_neg c1]; exact mr_fail h11 h12 (by omega)⟩
