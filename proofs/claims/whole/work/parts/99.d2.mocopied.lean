/-! copyOne and copied of the model. Printed by wip/whole/gen_mo24.py. -/
theorem d_Mo_copyOne_0 : decode b_Mo_copyOne 0 = .ok (.iload_n 2, 1) := by decide +kernel
theorem d_Mo_copyOne_1 : decode b_Mo_copyOne 1 = .ok (.bipush 29, 2) := by decide +kernel
theorem d_Mo_copyOne_3 : decode b_Mo_copyOne 3 = .ok (.if_icmp .ge 5, 3) := by decide +kernel
theorem d_Mo_copyOne_6 : decode b_Mo_copyOne 6 = .ok (.iload_n 2, 1) := by decide +kernel
theorem d_Mo_copyOne_7 : decode b_Mo_copyOne 7 = .ok (.ireturn, 1) := by decide +kernel
theorem d_Mo_copyOne_8 : decode b_Mo_copyOne 8 = .ok (.aload_n 0, 1) := by decide +kernel
theorem d_Mo_copyOne_9 : decode b_Mo_copyOne 9 = .ok (.aload_n 0, 1) := by decide +kernel
theorem d_Mo_copyOne_10 : decode b_Mo_copyOne 10 = .ok (.getfield 7, 3) := by decide +kernel
theorem d_Mo_copyOne_13 : decode b_Mo_copyOne 13 = .ok (.iload_n 2, 1) := by decide +kernel
theorem d_Mo_copyOne_14 : decode b_Mo_copyOne 14 = .ok (.iaload, 1) := by decide +kernel
theorem d_Mo_copyOne_15 : decode b_Mo_copyOne 15 = .ok (.aload_n 0, 1) := by decide +kernel
theorem d_Mo_copyOne_16 : decode b_Mo_copyOne 16 = .ok (.getfield 13, 3) := by decide +kernel
theorem d_Mo_copyOne_19 : decode b_Mo_copyOne 19 = .ok (.iload_n 2, 1) := by decide +kernel
theorem d_Mo_copyOne_20 : decode b_Mo_copyOne 20 = .ok (.laload, 1) := by decide +kernel
theorem d_Mo_copyOne_21 : decode b_Mo_copyOne 21 = .ok (.invokevirtual 159, 3) := by decide +kernel
theorem d_Mo_copyOne_24 : decode b_Mo_copyOne 24 = .ok (.istore_n 3, 1) := by decide +kernel
theorem d_Mo_copyOne_25 : decode b_Mo_copyOne 25 = .ok (.aload_n 0, 1) := by decide +kernel
theorem d_Mo_copyOne_26 : decode b_Mo_copyOne 26 = .ok (.getfield 17, 3) := by decide +kernel
theorem d_Mo_copyOne_29 : decode b_Mo_copyOne 29 = .ok (.iload_n 3, 1) := by decide +kernel
theorem d_Mo_copyOne_30 : decode b_Mo_copyOne 30 = .ok (.aload_n 0, 1) := by decide +kernel
theorem d_Mo_copyOne_31 : decode b_Mo_copyOne 31 = .ok (.getfield 17, 3) := by decide +kernel
theorem d_Mo_copyOne_34 : decode b_Mo_copyOne 34 = .ok (.iload_n 2, 1) := by decide +kernel
theorem d_Mo_copyOne_35 : decode b_Mo_copyOne 35 = .ok (.iaload, 1) := by decide +kernel
theorem d_Mo_copyOne_36 : decode b_Mo_copyOne 36 = .ok (.iastore, 1) := by decide +kernel
theorem d_Mo_copyOne_37 : decode b_Mo_copyOne 37 = .ok (.aload_n 0, 1) := by decide +kernel
theorem d_Mo_copyOne_38 : decode b_Mo_copyOne 38 = .ok (.getfield 20, 3) := by decide +kernel
theorem d_Mo_copyOne_41 : decode b_Mo_copyOne 41 = .ok (.iload_n 3, 1) := by decide +kernel
theorem d_Mo_copyOne_42 : decode b_Mo_copyOne 42 = .ok (.aload_n 0, 1) := by decide +kernel
theorem d_Mo_copyOne_43 : decode b_Mo_copyOne 43 = .ok (.getfield 20, 3) := by decide +kernel
theorem d_Mo_copyOne_46 : decode b_Mo_copyOne 46 = .ok (.iload_n 2, 1) := by decide +kernel
theorem d_Mo_copyOne_47 : decode b_Mo_copyOne 47 = .ok (.iaload, 1) := by decide +kernel
theorem d_Mo_copyOne_48 : decode b_Mo_copyOne 48 = .ok (.iastore, 1) := by decide +kernel
theorem d_Mo_copyOne_49 : decode b_Mo_copyOne 49 = .ok (.aload_n 0, 1) := by decide +kernel
theorem d_Mo_copyOne_50 : decode b_Mo_copyOne 50 = .ok (.getfield 23, 3) := by decide +kernel
theorem d_Mo_copyOne_53 : decode b_Mo_copyOne 53 = .ok (.iload_n 3, 1) := by decide +kernel
theorem d_Mo_copyOne_54 : decode b_Mo_copyOne 54 = .ok (.aload_n 0, 1) := by decide +kernel
theorem d_Mo_copyOne_55 : decode b_Mo_copyOne 55 = .ok (.getfield 23, 3) := by decide +kernel
theorem d_Mo_copyOne_58 : decode b_Mo_copyOne 58 = .ok (.iload_n 2, 1) := by decide +kernel
theorem d_Mo_copyOne_59 : decode b_Mo_copyOne 59 = .ok (.iaload, 1) := by decide +kernel
theorem d_Mo_copyOne_60 : decode b_Mo_copyOne 60 = .ok (.iastore, 1) := by decide +kernel
theorem d_Mo_copyOne_61 : decode b_Mo_copyOne 61 = .ok (.aload_n 0, 1) := by decide +kernel
theorem d_Mo_copyOne_62 : decode b_Mo_copyOne 62 = .ok (.getfield 26, 3) := by decide +kernel
theorem d_Mo_copyOne_65 : decode b_Mo_copyOne 65 = .ok (.iload_n 3, 1) := by decide +kernel
theorem d_Mo_copyOne_66 : decode b_Mo_copyOne 66 = .ok (.aload_n 0, 1) := by decide +kernel
theorem d_Mo_copyOne_67 : decode b_Mo_copyOne 67 = .ok (.getfield 26, 3) := by decide +kernel
theorem d_Mo_copyOne_70 : decode b_Mo_copyOne 70 = .ok (.iload_n 2, 1) := by decide +kernel
theorem d_Mo_copyOne_71 : decode b_Mo_copyOne 71 = .ok (.laload, 1) := by decide +kernel
theorem d_Mo_copyOne_72 : decode b_Mo_copyOne 72 = .ok (.lastore, 1) := by decide +kernel
theorem d_Mo_copyOne_73 : decode b_Mo_copyOne 73 = .ok (.aload_n 0, 1) := by decide +kernel
theorem d_Mo_copyOne_74 : decode b_Mo_copyOne 74 = .ok (.getfield 29, 3) := by decide +kernel
theorem d_Mo_copyOne_77 : decode b_Mo_copyOne 77 = .ok (.iload_n 3, 1) := by decide +kernel
theorem d_Mo_copyOne_78 : decode b_Mo_copyOne 78 = .ok (.aload_n 0, 1) := by decide +kernel
theorem d_Mo_copyOne_79 : decode b_Mo_copyOne 79 = .ok (.getfield 29, 3) := by decide +kernel
theorem d_Mo_copyOne_82 : decode b_Mo_copyOne 82 = .ok (.iload_n 2, 1) := by decide +kernel
theorem d_Mo_copyOne_83 : decode b_Mo_copyOne 83 = .ok (.laload, 1) := by decide +kernel
theorem d_Mo_copyOne_84 : decode b_Mo_copyOne 84 = .ok (.lastore, 1) := by decide +kernel
theorem d_Mo_copyOne_85 : decode b_Mo_copyOne 85 = .ok (.aload_n 0, 1) := by decide +kernel
theorem d_Mo_copyOne_86 : decode b_Mo_copyOne 86 = .ok (.getfield 32, 3) := by decide +kernel
theorem d_Mo_copyOne_89 : decode b_Mo_copyOne 89 = .ok (.iload_n 3, 1) := by decide +kernel
theorem d_Mo_copyOne_90 : decode b_Mo_copyOne 90 = .ok (.aload_n 0, 1) := by decide +kernel
theorem d_Mo_copyOne_91 : decode b_Mo_copyOne 91 = .ok (.getfield 32, 3) := by decide +kernel
theorem d_Mo_copyOne_94 : decode b_Mo_copyOne 94 = .ok (.iload_n 2, 1) := by decide +kernel
theorem d_Mo_copyOne_95 : decode b_Mo_copyOne 95 = .ok (.laload, 1) := by decide +kernel
theorem d_Mo_copyOne_96 : decode b_Mo_copyOne 96 = .ok (.lastore, 1) := by decide +kernel
theorem d_Mo_copyOne_97 : decode b_Mo_copyOne 97 = .ok (.aload_n 0, 1) := by decide +kernel
theorem d_Mo_copyOne_98 : decode b_Mo_copyOne 98 = .ok (.getfield 41, 3) := by decide +kernel
theorem d_Mo_copyOne_101 : decode b_Mo_copyOne 101 = .ok (.iload_n 3, 1) := by decide +kernel
theorem d_Mo_copyOne_102 : decode b_Mo_copyOne 102 = .ok (.iload_n 1, 1) := by decide +kernel
theorem d_Mo_copyOne_103 : decode b_Mo_copyOne 103 = .ok (.isub, 1) := by decide +kernel
theorem d_Mo_copyOne_104 : decode b_Mo_copyOne 104 = .ok (.iload_n 2, 1) := by decide +kernel
theorem d_Mo_copyOne_105 : decode b_Mo_copyOne 105 = .ok (.iastore, 1) := by decide +kernel
theorem d_Mo_copyOne_106 : decode b_Mo_copyOne 106 = .ok (.iload_n 3, 1) := by decide +kernel
theorem d_Mo_copyOne_107 : decode b_Mo_copyOne 107 = .ok (.ireturn, 1) := by decide +kernel
set_option maxHeartbeats 4000000 in
set_option maxRecDepth 100000 in
theorem c_Mo_copyOne0 (l : Launch) (E : gh_E) (sz : Nat) (f : gh_F) (a : Nat) (ad : Nat → Nat) (S : Nat → Int32) (I : Nat → Nat → Int32) (J : Nat → Nat → Int64) (b v : Nat) (hX : mo_R E f a ad S I J) (hv : v < 29) : gh_M l y_Mo_copyOne b_Mo_copyOne 4 (some .int) E sz [.ref a, .int (nI b), .int (nI v)] f { frames := 4, cells := 0, slots := 0, locals := 100 } (fun r g => r = some (.int (nI v)) ∧ g = f) := by
  refine gh_open (by decide) (Nat.le_of_ble_eq_true rfl) ?_
  intro p e s m args below meth c A ls hAe C V hr hlocks hname hl
  have hx := C.1
  have hb := C.2.1
  have hl : lv_has ls 4 [(0, .ref a), (1, .int (nI b)), (2, .int (nI v))] := hl
  have X : mo_X E f f a ad S I J := ⟨hX, gh_fr.rf⟩
  refine lv_iload_n hx hb d_Mo_copyOne_0 rfl (lv_at hl 2 rfl) ?_
  refine lv_bipush (v := 29) hx hb d_Mo_copyOne_1 (by decide) ?_
  refine lv_icmp_ge (tgt := 8) hx hb d_Mo_copyOne_3 (by decide) (fun c1 => absurd c1 (nI_ge (b := 29) (by omega) (by decide))) (fun c1 => ?_)
  refine lv_iload_n hx hb d_Mo_copyOne_6 rfl (lv_at hl 2 rfl) ?_
  refine gh_reti hAe C V hr hlocks d_Mo_copyOne_7 (by first | decide | omega | (dsimp only; omega)) (by first | decide | omega | (dsimp only; omega)) ?_
  exact ⟨rfl, rfl⟩
set_option maxHeartbeats 4000000 in
set_option maxRecDepth 100000 in
theorem c_Mo_copyOne1 (l : Launch) (E : gh_E) (sz : Nat) (f : gh_F) (a : Nat) (ad : Nat → Nat) (S : Nat → Int32) (I : Nat → Nat → Int32) (J : Nat → Nat → Int64) (b v nv : Nat) (hX : mo_R E f a ad S I J) (hv : 29 ≤ v) (hv7 : v < 760) (hS11 : S 11 = nI nv) (hnv : nv < 760) (hb : b ≤ nv) (hnb : nv - b < 240) (hvn : v ≠ nv) : gh_M l y_Mo_copyOne b_Mo_copyOne 4 (some .int) E sz [.ref a, .int (nI b), .int (nI v)] f { frames := 4, cells := 0, slots := 0, locals := 100 } (fun r g => r = some (.int (nI nv)) ∧ ∃ S2 I2 J2, mo_X E f g a ad S2 I2 J2 ∧ co_n b nv v S I J S2 I2 J2) := by
  refine gh_open (by decide) (Nat.le_of_ble_eq_true rfl) ?_
  intro p e s m args below meth c A ls hAe C V hr hlocks hname hl
  have hx := C.1
  have hb := C.2.1
  have hl : lv_has ls 4 [(0, .ref a), (1, .int (nI b)), (2, .int (nI v))] := hl
  have X : mo_X E f f a ad S I J := ⟨hX, gh_fr.rf⟩
  refine lv_iload_n hx hb d_Mo_copyOne_0 rfl (lv_at hl 2 rfl) ?_
  refine lv_bipush (v := 29) hx hb d_Mo_copyOne_1 (by decide) ?_
  refine lv_icmp_ge (tgt := 8) hx hb d_Mo_copyOne_3 (by decide) (fun c1 => ?_) (fun c1 => absurd (nI_le (a := 29) (by omega) (by omega)) c1)
  refine lv_aload_n hx hb d_Mo_copyOne_8 rfl (lv_at hl 0 rfl) ?_
  refine lv_aload_n hx hb d_Mo_copyOne_9 rfl (lv_at hl 0 rfl) ?_
  refine mo_getA C V X 1 (by decide) (by decide) f_Mo_7 rfl d_Mo_copyOne_10 ?_
  refine lv_iload_n hx hb d_Mo_copyOne_13 rfl (lv_at hl 2 rfl) ?_
  refine mo_ild (k := 1) (i := v) (n := 760) C V X (by decide) (by decide) rfl (by omega) (by decide) d_Mo_copyOne_14 ?_
  refine lv_aload_n hx hb d_Mo_copyOne_15 rfl (lv_at hl 0 rfl) ?_
  refine mo_getA C V X 2 (by decide) (by decide) f_Mo_13 rfl d_Mo_copyOne_16 ?_
  refine lv_iload_n hx hb d_Mo_copyOne_19 rfl (lv_at hl 2 rfl) ?_
  refine mo_lld (k := 2) (i := v) (n := 760) C V X (by decide) (by decide) rfl (by omega) (by decide) d_Mo_copyOne_20 ?_
  refine gh_callV C V hl.1 m_Mo_make l_Mo_159 (c_Mo_mk l E _ _ a ad _ _ _ (I 1 v) (J 2 v) nv X.1 hS11 hnv) rfl X.1.1 gc_Mo ⟨by first | decide | omega | (dsimp only; omega), by first | decide | omega | (dsimp only; omega)⟩ ⟨by first | decide | omega | (dsimp only; omega), by first | decide | omega | (dsimp only; omega)⟩ (Nat.le_of_ble_eq_true rfl) rfl d_Mo_copyOne_21 (fun r z9 H locs hp V1 => ?_)
  obtain ⟨rfl, S2, I2, J2, X2, hmk⟩ := hp
  have X := X.then X2
  have V := V1
  refine W.eq (g2 := F0 m 24 ls [.int (nI nv)]) rfl ?_
  refine lv_istore_n hx hb d_Mo_copyOne_24 rfl hl (by decide) rfl (fun ls hl => ?_)
  have hl : lv_has ls 4 [(3, .int (nI nv)), (0, .ref a), (1, .int (nI b)), (2, .int (nI v))] := hl
  refine lv_aload_n hx hb d_Mo_copyOne_25 rfl (lv_at hl 1 rfl) ?_
  refine mo_getA C V X 3 (by decide) (by decide) f_Mo_17 rfl d_Mo_copyOne_26 ?_
  refine lv_iload_n hx hb d_Mo_copyOne_29 rfl (lv_at hl 0 rfl) ?_
  refine lv_aload_n hx hb d_Mo_copyOne_30 rfl (lv_at hl 1 rfl) ?_
  refine mo_getA C V X 3 (by decide) (by decide) f_Mo_17 rfl d_Mo_copyOne_31 ?_
  refine lv_iload_n hx hb d_Mo_copyOne_34 rfl (lv_at hl 3 rfl) ?_
  refine mo_ild (k := 3) (i := v) (n := 760) C V X (by decide) (by decide) rfl (by omega) (by decide) d_Mo_copyOne_35 ?_
  refine mo_ist (k := 3) (i := nv) (n := 760) C V X (by decide) (by decide) rfl (by omega) (by decide) d_Mo_copyOne_36 (fun f1 H locs V1 X1 => ?_)
  clear V X
  have V := V1
  have X := X1
  clear V1 X1
  refine lv_aload_n hx hb d_Mo_copyOne_37 rfl (lv_at hl 1 rfl) ?_
  refine mo_getA C V X 4 (by decide) (by decide) f_Mo_20 rfl d_Mo_copyOne_38 ?_
  refine lv_iload_n hx hb d_Mo_copyOne_41 rfl (lv_at hl 0 rfl) ?_
  refine lv_aload_n hx hb d_Mo_copyOne_42 rfl (lv_at hl 1 rfl) ?_
  refine mo_getA C V X 4 (by decide) (by decide) f_Mo_20 rfl d_Mo_copyOne_43 ?_
  refine lv_iload_n hx hb d_Mo_copyOne_46 rfl (lv_at hl 3 rfl) ?_
  refine mo_ild (k := 4) (i := v) (n := 760) C V X (by decide) (by decide) rfl (by omega) (by decide) d_Mo_copyOne_47 ?_
  refine mo_ist (k := 4) (i := nv) (n := 760) C V X (by decide) (by decide) rfl (by omega) (by decide) d_Mo_copyOne_48 (fun f1 H locs V1 X1 => ?_)
  clear V X
  have V := V1
  have X := X1
  clear V1 X1
  refine lv_aload_n hx hb d_Mo_copyOne_49 rfl (lv_at hl 1 rfl) ?_
  refine mo_getA C V X 5 (by decide) (by decide) f_Mo_23 rfl d_Mo_copyOne_50 ?_
  refine lv_iload_n hx hb d_Mo_copyOne_53 rfl (lv_at hl 0 rfl) ?_
  refine lv_aload_n hx hb d_Mo_copyOne_54 rfl (lv_at hl 1 rfl) ?_
  refine mo_getA C V X 5 (by decide) (by decide) f_Mo_23 rfl d_Mo_copyOne_55 ?_
  refine lv_iload_n hx hb d_Mo_copyOne_58 rfl (lv_at hl 3 rfl) ?_
  refine mo_ild (k := 5) (i := v) (n := 760) C V X (by decide) (by decide) rfl (by omega) (by decide) d_Mo_copyOne_59 ?_
  refine mo_ist (k := 5) (i := nv) (n := 760) C V X (by decide) (by decide) rfl (by omega) (by decide) d_Mo_copyOne_60 (fun f1 H locs V1 X1 => ?_)
  clear V X
  have V := V1
  have X := X1
  clear V1 X1
  refine lv_aload_n hx hb d_Mo_copyOne_61 rfl (lv_at hl 1 rfl) ?_
  refine mo_getA C V X 6 (by decide) (by decide) f_Mo_26 rfl d_Mo_copyOne_62 ?_
  refine lv_iload_n hx hb d_Mo_copyOne_65 rfl (lv_at hl 0 rfl) ?_
  refine lv_aload_n hx hb d_Mo_copyOne_66 rfl (lv_at hl 1 rfl) ?_
  refine mo_getA C V X 6 (by decide) (by decide) f_Mo_26 rfl d_Mo_copyOne_67 ?_
  refine lv_iload_n hx hb d_Mo_copyOne_70 rfl (lv_at hl 3 rfl) ?_
  refine mo_lld (k := 6) (i := v) (n := 760) C V X (by decide) (by decide) rfl (by omega) (by decide) d_Mo_copyOne_71 ?_
  refine mo_lst (k := 6) (i := nv) (n := 760) C V X (by decide) (by decide) rfl (by omega) (by decide) d_Mo_copyOne_72 (fun f1 H locs V1 X1 => ?_)
  clear V X
  have V := V1
  have X := X1
  clear V1 X1
  refine lv_aload_n hx hb d_Mo_copyOne_73 rfl (lv_at hl 1 rfl) ?_
  refine mo_getA C V X 7 (by decide) (by decide) f_Mo_29 rfl d_Mo_copyOne_74 ?_
  refine lv_iload_n hx hb d_Mo_copyOne_77 rfl (lv_at hl 0 rfl) ?_
  refine lv_aload_n hx hb d_Mo_copyOne_78 rfl (lv_at hl 1 rfl) ?_
  refine mo_getA C V X 7 (by decide) (by decide) f_Mo_29 rfl d_Mo_copyOne_79 ?_
  refine lv_iload_n hx hb d_Mo_copyOne_82 rfl (lv_at hl 3 rfl) ?_
  refine mo_lld (k := 7) (i := v) (n := 760) C V X (by decide) (by decide) rfl (by omega) (by decide) d_Mo_copyOne_83 ?_
  refine mo_lst (k := 7) (i := nv) (n := 760) C V X (by decide) (by decide) rfl (by omega) (by decide) d_Mo_copyOne_84 (fun f1 H locs V1 X1 => ?_)
  clear V X
  have V := V1
  have X := X1
  clear V1 X1
  refine lv_aload_n hx hb d_Mo_copyOne_85 rfl (lv_at hl 1 rfl) ?_
  refine mo_getA C V X 8 (by decide) (by decide) f_Mo_32 rfl d_Mo_copyOne_86 ?_
  refine lv_iload_n hx hb d_Mo_copyOne_89 rfl (lv_at hl 0 rfl) ?_
  refine lv_aload_n hx hb d_Mo_copyOne_90 rfl (lv_at hl 1 rfl) ?_
  refine mo_getA C V X 8 (by decide) (by decide) f_Mo_32 rfl d_Mo_copyOne_91 ?_
  refine lv_iload_n hx hb d_Mo_copyOne_94 rfl (lv_at hl 3 rfl) ?_
  refine mo_lld (k := 8) (i := v) (n := 760) C V X (by decide) (by decide) rfl (by omega) (by decide) d_Mo_copyOne_95 ?_
  refine mo_lst (k := 8) (i := nv) (n := 760) C V X (by decide) (by decide) rfl (by omega) (by decide) d_Mo_copyOne_96 (fun f1 H locs V1 X1 => ?_)
  clear V X
  have V := V1
  have X := X1
  clear V1 X1
  refine lv_aload_n hx hb d_Mo_copyOne_97 rfl (lv_at hl 1 rfl) ?_
  refine mo_getA C V X 13 (by decide) (by decide) f_Mo_41 rfl d_Mo_copyOne_98 ?_
  refine lv_iload_n hx hb d_Mo_copyOne_101 rfl (lv_at hl 0 rfl) ?_
  refine lv_iload_n hx hb d_Mo_copyOne_102 rfl (lv_at hl 2 rfl) ?_
  refine gn_isub (a := nv) (b := b) hx hb (by omega) d_Mo_copyOne_103 ?_
  refine lv_iload_n hx hb d_Mo_copyOne_104 rfl (lv_at hl 3 rfl) ?_
  refine mo_ist (k := 13) (i := nv - b) (n := 240) C V X (by decide) (by decide) rfl (by omega) (by decide) d_Mo_copyOne_105 (fun f1 H locs V1 X1 => ?_)
  clear V X
  have V := V1
  have X := X1
  clear V1 X1
  refine lv_iload_n hx hb d_Mo_copyOne_106 rfl (lv_at hl 0 rfl) ?_
  refine gh_reti hAe C V hr hlocks d_Mo_copyOne_107 (by first | decide | omega | (dsimp only; omega)) (by first | decide | omega | (dsimp only; omega)) ?_
  refine ⟨rfl, _, _, _, X, hmk.1, fun k j h1 h2 => ?_, ⟨?_, ?_, ?_, ?_⟩, ?_, fun k j h1 => ?_, ?_, ?_, ?_, ?_⟩
  · by_cases k13 : k = 13
    · subst k13; rw [va_up_s, va_up_n (by decide), va_up_n (by decide), va_up_n (by decide)]; simp only [upd]; rw [if_neg (by omega)]; exact hmk.2.1 13 j (Or.inl (by decide))
    · rw [va_up_n k13]
      by_cases k5 : k = 5
      · subst k5; rw [va_up_s, va_up_n (by decide), va_up_n (by decide)]; simp only [upd]; rw [if_neg (by omega)]; exact hmk.2.1 5 j (Or.inr (by omega))
      · rw [va_up_n k5]
        by_cases k4 : k = 4
        · subst k4; rw [va_up_s, va_up_n (by decide)]; simp only [upd]; rw [if_neg (by omega)]; exact hmk.2.1 4 j (Or.inr (by omega))
        · rw [va_up_n k4]
          by_cases k3 : k = 3
          · subst k3; rw [va_up_s]; simp only [upd]; rw [if_neg (by omega)]; exact hmk.2.1 3 j (Or.inr (by omega))
          · rw [va_up_n k3]; exact hmk.2.1 k j (by omega)
  · simp [va_up, upd]; exact hmk.2.2.1.1
  · simp [va_up, upd]; exact hmk.2.1 3 v (Or.inr hvn)
  · simp [va_up, upd]; exact hmk.2.1 4 v (Or.inr hvn)
  · simp [va_up, upd]; exact hmk.2.1 5 v (Or.inr hvn)
  · simp [va_up, upd]
  · by_cases k8 : k = 8
    · subst k8; rw [va_up_s, va_up_n (by decide), va_up_n (by decide)]; simp only [vp_updL]; rw [if_neg (by omega)]; exact hmk.2.2.2.1 8 j (Or.inr (by omega))
    · rw [va_up_n k8]
      by_cases k7 : k = 7
      · subst k7; rw [va_up_s, va_up_n (by decide)]; simp only [vp_updL]; rw [if_neg (by omega)]; exact hmk.2.2.2.1 7 j (Or.inr (by omega))
      · rw [va_up_n k7]
        by_cases k6 : k = 6
        · subst k6; rw [va_up_s]; simp only [vp_updL]; rw [if_neg (by omega)]; exact hmk.2.2.2.1 6 j (Or.inr (by omega))
        · rw [va_up_n k6]; exact hmk.2.2.2.1 k j (by omega)
  · simp [va_up, vp_updL]; exact hmk.2.2.2.2.1
  · simp [va_up, vp_updL]; exact hmk.2.2.2.1 6 v (Or.inr hvn)
  · simp [va_up, vp_updL]; exact hmk.2.2.2.1 7 v (Or.inr hvn)
  · simp [va_up, vp_updL]; exact hmk.2.2.2.1 8 v (Or.inr hvn)
theorem mv_S.move {I I2 : mo_I} {J J2 : mo_J} {b1 nv1 b nv v : Nat} {L : List Int32} (h : mv_S I J b1 nv1 v L) (hv : v < 29) (hI : ∀ k, (k = 1 ∨ k = 3 ∨ k = 4 ∨ k = 5 ∨ k = 9) → I2 k v = I k v) (hJ : ∀ k, (k = 2 ∨ k = 6 ∨ k = 7 ∨ k = 8) → J2 k v = J k v) : mv_S I2 J2 b nv v L := by
  obtain ⟨h0, h1, h2, h3, h4, h5, h6⟩ := h
  refine ⟨⟨Or.inl hv, by omega⟩, (hI 1 (by omega)).trans h1, (hJ 2 (by omega)).trans h2, (hI 3 (by omega)).trans h3, ⟨h4.1, fun k hk => ?_⟩, (hI 4 (by omega)).trans h5, (hI 5 (by omega)).trans h6⟩
  rw [hJ 6 (by omega), hJ 7 (by omega), hJ 8 (by omega)]; exact h4.2 k hk
/-- how copied ends -/
def cp_R (b1 nv1 pb1 np1 b pb : Nat) (X : vt) (S : Nat → Int32) (I : mo_I) (J : mo_J) (root : Nat) (S2 : Nat → Int32) (I2 : mo_I) (J2 : mo_J) : Prop := ∃ nv np, mw I2 J2 b nv pb np root X ∧ mc I2 J2 b nv pb np ∧ (b ≤ nv ∧ nv ≤ b + 199 ∧ pb ≤ np ∧ np ≤ pb + 198) ∧ cp_F I J I2 J2 b nv pb np ∧ S2 11 = nI nv ∧ S2 12 = nI np ∧ ∀ k, k ≠ 11 → k ≠ 12 → S2 k = S k
theorem cp_O.ends {I0 : mo_I} {J0 : mo_J} {b1 nv1 pb1 np1 b pb M nv np : Nat} {I : mo_I} {J : mo_J} {og : Nat → Nat} {DX : Nat → vt} {F : Nat → Nat} {G : Nat → Nat → Nat} {X : vt} {root : Nat} {S S2 : Nat → Int32} (h : cp_O I0 J0 b1 nv1 pb1 np1 b pb M nv nv np I J og DX F G) (hM : M ≤ 199) (hc0 : mc I0 J0 b1 nv1 pb1 np1) (hb : 29 ≤ b) (hb7 : b + 199 ≤ 760) (hp8 : pb + 198 ≤ 8800) (hr : cp_l I0 J0 b1 nv1 pb1 np1 b nv DX root X) (h11 : S2 11 = nI nv) (h12 : S2 12 = nI np) (hS : ∀ k, k ≠ 11 → k ≠ 12 → S2 k = S k) : cp_R b1 nv1 pb1 np1 b pb X S I0 J0 root S2 I J := by
  obtain ⟨⟨a1, a2, a3⟩, hB, hC, hF, h1, h2⟩ := h
  have cw : ∀ {g Z}, cp_l I0 J0 b1 nv1 pb1 np1 b nv DX g Z → mw I J b nv pb np g Z := fun hg => cp_mw hc0 hb (by omega) (by omega) hB hC hF hg
  refine ⟨nv, np, cw hr, ⟨cw (Or.inl ⟨by decide, hc0.1⟩), cw (Or.inl ⟨by decide, hc0.2.1⟩), cw (Or.inl ⟨by decide, hc0.2.2.1⟩), fun j hj => (hc0.2.2.2 j hj).move (by omega) (fun k hk => hF.1 k _ hk (Or.inl (by omega))) (fun k hk => hF.2.1 k _ hk (Or.inl (by omega)))⟩, ⟨by omega, by omega, a3, by omega⟩, hF, h11, h12, hS⟩
/-- nothing was copied: a constant -/
theorem cp_R.const {I : mo_I} {J : mo_J} {b1 nv1 pb1 np1 b pb root : Nat} {X : vt} {S S2 : Nat → Int32} (hc0 : mc I J b1 nv1 pb1 np1) (hr : root < 29) (hX : mw I J b1 nv1 pb1 np1 root X) (hb : 29 ≤ b) (hb7 : b + 199 ≤ 760) (hp8 : pb + 198 ≤ 8800) (h11 : S2 11 = nI b) (h12 : S2 12 = nI pb) (hS : ∀ k, k ≠ 11 → k ≠ 12 → S2 k = S k) : cp_R b1 nv1 pb1 np1 b pb X S I J root S2 I J :=
  cp_O.ends (M := 1) (og := fun _ => 0) (DX := fun _ => vt_0 0) (F := fun _ => 0) (G := fun _ _ => 0) ⟨⟨Nat.le_refl _, Nat.le_refl _, Nat.le_refl _⟩, fun i i1 i2 => absurd i2 (by omega), fun i i1 i2 => absurd i2 (by omega), ⟨fun _ _ _ _ => rfl, fun _ _ _ _ => rfl, fun _ _ => rfl, fun _ _ _ _ _ _ _ _ => rfl⟩, by rw [Nat.sub_self]; exact Nat.le_add_right _ _, by rw [Nat.sub_self]; exact Nat.le_refl _⟩ (by decide) hc0 hb hb7 hp8 (Or.inl ⟨hr, hX⟩) h11 h12 hS
theorem d_Mo_copied_0 : decode b_Mo_copied 0 = .ok (.aload_n 0, 1) := by decide +kernel
theorem d_Mo_copied_1 : decode b_Mo_copied 1 = .ok (.iload_n 2, 1) := by decide +kernel
theorem d_Mo_copied_2 : decode b_Mo_copied 2 = .ok (.putfield 141, 3) := by decide +kernel
theorem d_Mo_copied_5 : decode b_Mo_copied 5 = .ok (.aload_n 0, 1) := by decide +kernel
theorem d_Mo_copied_6 : decode b_Mo_copied 6 = .ok (.iload_n 3, 1) := by decide +kernel
theorem d_Mo_copied_7 : decode b_Mo_copied 7 = .ok (.putfield 163, 3) := by decide +kernel
theorem d_Mo_copied_10 : decode b_Mo_copied 10 = .ok (.aload_n 0, 1) := by decide +kernel
theorem d_Mo_copied_11 : decode b_Mo_copied 11 = .ok (.iload_n 2, 1) := by decide +kernel
theorem d_Mo_copied_12 : decode b_Mo_copied 12 = .ok (.iload_n 1, 1) := by decide +kernel
theorem d_Mo_copied_13 : decode b_Mo_copied 13 = .ok (.invokevirtual 166, 3) := by decide +kernel
theorem d_Mo_copied_16 : decode b_Mo_copied 16 = .ok (.istore 4, 2) := by decide +kernel
theorem d_Mo_copied_18 : decode b_Mo_copied 18 = .ok (.iload_n 2, 1) := by decide +kernel
theorem d_Mo_copied_19 : decode b_Mo_copied 19 = .ok (.istore 5, 2) := by decide +kernel
theorem d_Mo_copied_21 : decode b_Mo_copied 21 = .ok (.iload 5, 2) := by decide +kernel
theorem d_Mo_copied_23 : decode b_Mo_copied 23 = .ok (.aload_n 0, 1) := by decide +kernel
theorem d_Mo_copied_24 : decode b_Mo_copied 24 = .ok (.getfield 141, 3) := by decide +kernel
theorem d_Mo_copied_27 : decode b_Mo_copied 27 = .ok (.if_icmp .ge 138, 3) := by decide +kernel
theorem d_Mo_copied_30 : decode b_Mo_copied 30 = .ok (.aload_n 0, 1) := by decide +kernel
theorem d_Mo_copied_31 : decode b_Mo_copied 31 = .ok (.iload 5, 2) := by decide +kernel
theorem d_Mo_copied_33 : decode b_Mo_copied 33 = .ok (.invokevirtual 169, 3) := by decide +kernel
theorem d_Mo_copied_36 : decode b_Mo_copied 36 = .ok (.ifCond .ne 6, 3) := by decide +kernel
theorem d_Mo_copied_39 : decode b_Mo_copied 39 = .ok (.goto 120, 3) := by decide +kernel
theorem d_Mo_copied_42 : decode b_Mo_copied 42 = .ok (.aload_n 0, 1) := by decide +kernel
theorem d_Mo_copied_43 : decode b_Mo_copied 43 = .ok (.getfield 41, 3) := by decide +kernel
theorem d_Mo_copied_46 : decode b_Mo_copied 46 = .ok (.iload 5, 2) := by decide +kernel
theorem d_Mo_copied_48 : decode b_Mo_copied 48 = .ok (.iload_n 2, 1) := by decide +kernel
theorem d_Mo_copied_49 : decode b_Mo_copied 49 = .ok (.isub, 1) := by decide +kernel
theorem d_Mo_copied_50 : decode b_Mo_copied 50 = .ok (.iaload, 1) := by decide +kernel
theorem d_Mo_copied_51 : decode b_Mo_copied 51 = .ok (.istore 6, 2) := by decide +kernel
theorem d_Mo_copied_53 : decode b_Mo_copied 53 = .ok (.aload_n 0, 1) := by decide +kernel
theorem d_Mo_copied_54 : decode b_Mo_copied 54 = .ok (.getfield 7, 3) := by decide +kernel
theorem d_Mo_copied_57 : decode b_Mo_copied 57 = .ok (.iload 5, 2) := by decide +kernel
theorem d_Mo_copied_59 : decode b_Mo_copied 59 = .ok (.iaload, 1) := by decide +kernel
theorem d_Mo_copied_60 : decode b_Mo_copied 60 = .ok (.bipush 6, 2) := by decide +kernel
theorem d_Mo_copied_62 : decode b_Mo_copied 62 = .ok (.if_icmp .ne 15, 3) := by decide +kernel
theorem d_Mo_copied_65 : decode b_Mo_copied 65 = .ok (.iconst 2, 1) := by decide +kernel
theorem d_Mo_copied_66 : decode b_Mo_copied 66 = .ok (.aload_n 0, 1) := by decide +kernel
theorem d_Mo_copied_67 : decode b_Mo_copied 67 = .ok (.getfield 17, 3) := by decide +kernel
theorem d_Mo_copied_70 : decode b_Mo_copied 70 = .ok (.iload 5, 2) := by decide +kernel
theorem d_Mo_copied_72 : decode b_Mo_copied 72 = .ok (.iaload, 1) := by decide +kernel
theorem d_Mo_copied_73 : decode b_Mo_copied 73 = .ok (.imul, 1) := by decide +kernel
theorem d_Mo_copied_74 : decode b_Mo_copied 74 = .ok (.goto 10, 3) := by decide +kernel
theorem d_Mo_copied_77 : decode b_Mo_copied 77 = .ok (.aload_n 0, 1) := by decide +kernel
theorem d_Mo_copied_78 : decode b_Mo_copied 78 = .ok (.getfield 17, 3) := by decide +kernel
theorem d_Mo_copied_81 : decode b_Mo_copied 81 = .ok (.iload 5, 2) := by decide +kernel
theorem d_Mo_copied_83 : decode b_Mo_copied 83 = .ok (.iaload, 1) := by decide +kernel
theorem d_Mo_copied_84 : decode b_Mo_copied 84 = .ok (.istore 7, 2) := by decide +kernel
theorem d_Mo_copied_86 : decode b_Mo_copied 86 = .ok (.aload_n 0, 1) := by decide +kernel
theorem d_Mo_copied_87 : decode b_Mo_copied 87 = .ok (.getfield 35, 3) := by decide +kernel
theorem d_Mo_copied_90 : decode b_Mo_copied 90 = .ok (.iload 5, 2) := by decide +kernel
theorem d_Mo_copied_92 : decode b_Mo_copied 92 = .ok (.aload_n 0, 1) := by decide +kernel
theorem d_Mo_copied_93 : decode b_Mo_copied 93 = .ok (.getfield 163, 3) := by decide +kernel
theorem d_Mo_copied_96 : decode b_Mo_copied 96 = .ok (.iastore, 1) := by decide +kernel
theorem d_Mo_copied_97 : decode b_Mo_copied 97 = .ok (.aload_n 0, 1) := by decide +kernel
theorem d_Mo_copied_98 : decode b_Mo_copied 98 = .ok (.aload_n 0, 1) := by decide +kernel
theorem d_Mo_copied_99 : decode b_Mo_copied 99 = .ok (.getfield 163, 3) := by decide +kernel
theorem d_Mo_copied_102 : decode b_Mo_copied 102 = .ok (.iload 7, 2) := by decide +kernel
theorem d_Mo_copied_104 : decode b_Mo_copied 104 = .ok (.iadd, 1) := by decide +kernel
theorem d_Mo_copied_105 : decode b_Mo_copied 105 = .ok (.putfield 163, 3) := by decide +kernel
theorem d_Mo_copied_108 : decode b_Mo_copied 108 = .ok (.iconst 0, 1) := by decide +kernel
theorem d_Mo_copied_109 : decode b_Mo_copied 109 = .ok (.istore 8, 2) := by decide +kernel
theorem d_Mo_copied_111 : decode b_Mo_copied 111 = .ok (.iload 8, 2) := by decide +kernel
theorem d_Mo_copied_113 : decode b_Mo_copied 113 = .ok (.iload 7, 2) := by decide +kernel
theorem d_Mo_copied_115 : decode b_Mo_copied 115 = .ok (.if_icmp .ge 44, 3) := by decide +kernel
theorem d_Mo_copied_118 : decode b_Mo_copied 118 = .ok (.aload_n 0, 1) := by decide +kernel
theorem d_Mo_copied_119 : decode b_Mo_copied 119 = .ok (.getfield 38, 3) := by decide +kernel
theorem d_Mo_copied_122 : decode b_Mo_copied 122 = .ok (.aload_n 0, 1) := by decide +kernel
theorem d_Mo_copied_123 : decode b_Mo_copied 123 = .ok (.getfield 35, 3) := by decide +kernel
theorem d_Mo_copied_126 : decode b_Mo_copied 126 = .ok (.iload 5, 2) := by decide +kernel
theorem d_Mo_copied_128 : decode b_Mo_copied 128 = .ok (.iaload, 1) := by decide +kernel
theorem d_Mo_copied_129 : decode b_Mo_copied 129 = .ok (.iload 8, 2) := by decide +kernel
theorem d_Mo_copied_131 : decode b_Mo_copied 131 = .ok (.iadd, 1) := by decide +kernel
theorem d_Mo_copied_132 : decode b_Mo_copied 132 = .ok (.aload_n 0, 1) := by decide +kernel
theorem d_Mo_copied_133 : decode b_Mo_copied 133 = .ok (.iload_n 2, 1) := by decide +kernel
theorem d_Mo_copied_134 : decode b_Mo_copied 134 = .ok (.aload_n 0, 1) := by decide +kernel
theorem d_Mo_copied_135 : decode b_Mo_copied 135 = .ok (.getfield 38, 3) := by decide +kernel
theorem d_Mo_copied_138 : decode b_Mo_copied 138 = .ok (.aload_n 0, 1) := by decide +kernel
theorem d_Mo_copied_139 : decode b_Mo_copied 139 = .ok (.getfield 35, 3) := by decide +kernel
theorem d_Mo_copied_142 : decode b_Mo_copied 142 = .ok (.iload 6, 2) := by decide +kernel
theorem d_Mo_copied_144 : decode b_Mo_copied 144 = .ok (.iaload, 1) := by decide +kernel
theorem d_Mo_copied_145 : decode b_Mo_copied 145 = .ok (.iload 8, 2) := by decide +kernel
theorem d_Mo_copied_147 : decode b_Mo_copied 147 = .ok (.iadd, 1) := by decide +kernel
theorem d_Mo_copied_148 : decode b_Mo_copied 148 = .ok (.iaload, 1) := by decide +kernel
theorem d_Mo_copied_149 : decode b_Mo_copied 149 = .ok (.invokevirtual 166, 3) := by decide +kernel
theorem d_Mo_copied_152 : decode b_Mo_copied 152 = .ok (.iastore, 1) := by decide +kernel
theorem d_Mo_copied_153 : decode b_Mo_copied 153 = .ok (.iinc 8 1, 3) := by decide +kernel
theorem d_Mo_copied_156 : decode b_Mo_copied 156 = .ok (.goto (-45), 3) := by decide +kernel
theorem d_Mo_copied_159 : decode b_Mo_copied 159 = .ok (.iinc 5 1, 3) := by decide +kernel
theorem d_Mo_copied_162 : decode b_Mo_copied 162 = .ok (.goto (-141), 3) := by decide +kernel
theorem d_Mo_copied_165 : decode b_Mo_copied 165 = .ok (.iload 4, 2) := by decide +kernel
theorem d_Mo_copied_167 : decode b_Mo_copied 167 = .ok (.ireturn, 1) := by decide +kernel
set_option maxHeartbeats 4000000 in
set_option maxRecDepth 100000 in
theorem c_Mo_copied (l : Launch) (E : gh_E) (sz : Nat) (f : gh_F) (a : Nat) (ad : Nat → Nat) (S : Nat → Int32) (I : Nat → Nat → Int32) (J : Nat → Nat → Int64) (b1 nv1 pb1 np1 b pb v : Nat) (O : vt) (hX : mo_R E f a ad S I J) (hO : mw I J b1 nv1 pb1 np1 v O) (hc0 : mc I J b1 nv1 pb1 np1) (hbb : 29 ≤ b) (hb7 : b + 199 ≤ 760) (hp8 : pb + 198 ≤ 8800) (hdv : ∀ q, ma_v b1 nv1 q → q < b ∨ b + 199 ≤ q) (hdp : ∀ q, pb1 ≤ q → q < np1 → q < pb ∨ pb + 198 ≤ q) : gh_M l y_Mo_copied b_Mo_copied 9 (some .int) E sz [.ref a, .int (nI v), .int (nI b), .int (nI pb)] f { frames := 6, cells := 0, slots := 0, locals := 200 } (fun r g => ∃ root, r = some (.int (nI root)) ∧ ∃ S2 I2 J2, mo_X E f g a ad S2 I2 J2 ∧ cp_R b1 nv1 pb1 np1 b pb O S I J root S2 I2 J2) := by
  have hv7 := hO.lt
  have hw100 := vt_w_pos hO
  refine gh_open (by decide) (Nat.le_of_ble_eq_true rfl) ?_
  intro p e s m args below meth c A ls hAe C V hr hlocks hname hl
  have hx := C.1
  have hb := C.2.1
  have hl : lv_has ls 9 [(0, .ref a), (1, .int (nI v)), (2, .int (nI b)), (3, .int (nI pb))] := hl
  have X : mo_X E f f a ad S I J := ⟨hX, gh_fr.rf⟩
  refine lv_aload_n hx hb d_Mo_copied_0 rfl (lv_at hl 0 rfl) ?_
  refine lv_iload_n hx hb d_Mo_copied_1 rfl (lv_at hl 2 rfl) ?_
  refine mo_putS C V X 11 (by decide) (by decide) f_Mo_141 rfl rfl rfl d_Mo_copied_2 (fun f1 H locs V1 X1 => ?_)
  clear V X
  have V := V1
  have X := X1
  clear V1 X1
  refine lv_aload_n hx hb d_Mo_copied_5 rfl (lv_at hl 0 rfl) ?_
  refine lv_iload_n hx hb d_Mo_copied_6 rfl (lv_at hl 3 rfl) ?_
  refine mo_putS C V X 12 (by decide) (by decide) f_Mo_163 rfl rfl rfl d_Mo_copied_7 (fun f1 H locs V1 X1 => ?_)
  clear V X
  have V := V1
  have X := X1
  clear V1 X1
  refine lv_aload_n hx hb d_Mo_copied_10 rfl (lv_at hl 0 rfl) ?_
  refine lv_iload_n hx hb d_Mo_copied_11 rfl (lv_at hl 2 rfl) ?_
  refine lv_iload_n hx hb d_Mo_copied_12 rfl (lv_at hl 1 rfl) ?_
  have hS1 : ∀ k, k ≠ 11 → k ≠ 12 → (va_up (va_up S 11 (nI b)) 12 (nI pb)) k = S k := fun k h1 h2 => by rw [va_up_n h2, va_up_n h1]
  have h11 : (va_up (va_up S 11 (nI b)) 12 (nI pb)) 11 = nI b := by rw [va_up_n (by decide), va_up_s]
  have h12 : (va_up (va_up S 11 (nI b)) 12 (nI pb)) 12 = nI pb := va_up_s
  by_cases hv29 : v < 29
  · refine gh_callV C V hl.1 m_Mo_copyOne l_Mo_166 (c_Mo_copyOne0 l E _ _ a ad _ _ _ b v X.1 hv29) rfl X.1.1 gc_Mo ⟨by first | decide | omega | (dsimp only; omega), by first | decide | omega | (dsimp only; omega)⟩ ⟨by first | decide | omega | (dsimp only; omega), by first | decide | omega | (dsimp only; omega)⟩ (Nat.le_of_ble_eq_true rfl) rfl d_Mo_copied_13 (fun r z9 H locs hp V1 => ?_)
    obtain ⟨rfl, he9⟩ := hp
    rw [he9] at V1
    have V := V1
    refine W.eq (g2 := F0 m 16 ls [.int (nI v)]) rfl ?_
    refine lv_istore hx hb d_Mo_copied_16 hl (by decide) rfl (fun ls hl => ?_)
    have hl : lv_has ls 9 [(4, .int (nI v)), (0, .ref a), (1, .int (nI v)), (2, .int (nI b)), (3, .int (nI pb))] := hl
    refine lv_iload_n hx hb d_Mo_copied_18 rfl (lv_at hl 3 rfl) ?_
    refine lv_istore hx hb d_Mo_copied_19 hl (by decide) rfl (fun ls hl => ?_)
    have hl : lv_has ls 9 [(5, .int (nI b)), (4, .int (nI v)), (0, .ref a), (1, .int (nI v)), (2, .int (nI b)), (3, .int (nI pb))] := hl
    refine lv_iload hx hb d_Mo_copied_21 (lv_at hl 0 rfl) ?_
    refine lv_aload_n hx hb d_Mo_copied_23 rfl (lv_at hl 2 rfl) ?_
    refine mo_getS (v := nI b) C V X 11 (by decide) (by decide) (by first | rfl | exact hS11) f_Mo_141 rfl d_Mo_copied_24 ?_
    refine lv_icmp_ge (tgt := 165) hx hb d_Mo_copied_27 (by decide) (fun c1 => ?_) (fun c1 => absurd (nI_le (by omega) (by omega)) c1)
    refine lv_iload hx hb d_Mo_copied_165 (lv_at hl 1 rfl) ?_
    refine gh_reti hAe C V hr hlocks d_Mo_copied_167 (by first | decide | omega | (dsimp only; omega)) (by first | decide | omega | (dsimp only; omega)) ?_
    exact ⟨v, rfl, _, _, _, X, cp_R.const hc0 hv29 hO hbb hb7 hp8 h11 h12 hS1⟩
  · have hvd := hdv v (mv_o.mp hO.1).1
    refine gh_callV C V hl.1 m_Mo_copyOne l_Mo_166 (c_Mo_copyOne1 l E _ _ a ad _ _ _ b v b X.1 (by omega) hv7 h11 (by omega) (Nat.le_refl _) (by omega) (by omega)) rfl X.1.1 gc_Mo ⟨by first | decide | omega | (dsimp only; omega), by first | decide | omega | (dsimp only; omega)⟩ ⟨by first | decide | omega | (dsimp only; omega), by first | decide | omega | (dsimp only; omega)⟩ (Nat.le_of_ble_eq_true rfl) rfl d_Mo_copied_13 (fun r z9 H locs hp V1 => ?_)
    obtain ⟨rfl, S2, I2, J2, X2, hco⟩ := hp
    have X := X.then X2
    have V := V1
    refine W.eq (g2 := F0 m 16 ls [.int (nI b)]) rfl ?_
    refine lv_istore hx hb d_Mo_copied_16 hl (by decide) rfl (fun ls hl => ?_)
    have hl : lv_has ls 9 [(4, .int (nI b)), (0, .ref a), (1, .int (nI v)), (2, .int (nI b)), (3, .int (nI pb))] := hl
    refine lv_iload_n hx hb d_Mo_copied_18 rfl (lv_at hl 3 rfl) ?_
    refine lv_istore hx hb d_Mo_copied_19 hl (by decide) rfl (fun ls hl => ?_)
    have hl : lv_has ls 9 [(5, .int (nI b)), (4, .int (nI b)), (0, .ref a), (1, .int (nI v)), (2, .int (nI b)), (3, .int (nI pb))] := hl
    have hl : lv_has ls 9 [(5, .int (nI b)), (0, .ref a), (1, .int (nI v)), (2, .int (nI b)), (3, .int (nI pb)), (4, .int (nI b))] := lv_sub hl [0, 2, 3, 4, 5, 1] rfl
    have hl : lv_has ls 9 [(5, .int (nI b)), (0, .ref a), (1, .int (nI v)), (2, .int (nI b)), (3, .int (nI pb)), (4, .int (nI b))] := hl
    have loop : ∀ (n9 ci nv np : Nat) (og : Nat → Nat) (DX : Nat → vt) (F : Nat → Nat) (G : Nat → Nat → Nat) (S1 : Nat → Int32) (I1 : mo_I) (J1 : mo_J) (f1 : gh_F) (H : Heap) (locs : List Loc) (ls : Array Slot), ci + n9 = b + 200 → cp_O I J b1 nv1 pb1 np1 b pb (2 * vt_w O - 1) ci nv np I1 J1 og DX F G → (b < nv) → (DX b = O) → (S1 11 = nI nv) → (S1 12 = nI np) → (∀ k, k ≠ 11 → k ≠ 12 → S1 k = S k) → mo_X E f f1 a ad S1 I1 J1 → gh_V E A f1 s H locs → lv_has ls 9 [(5, .int (nI ci)), (0, .ref a), (1, .int (nI v)), (2, .int (nI b)), (3, .int (nI pb)), (4, .int (nI b))] → W p l e { frames := 6, cells := 0, slots := 0, locals := 200 } s m args below meth c H locs 0 0 (MQ below (gh_Q E f (fun r g => ∃ root, r = some (.int (nI root)) ∧ ∃ S2 I2 J2, mo_X E f g a ad S2 I2 J2 ∧ cp_R b1 nv1 pb1 np1 b pb O S I J root S2 I2 J2)) args s 0 0 A) (F0 m 21 ls []) := by
      intro n9
      induction n9 with
      | zero => intro ci nv np og DX F G S1 I1 J1 f1 H locs ls hi hO9 hbn hD0 q11 q12 qS X V hl; exact absurd hO9.2.2.2.2.1 (by have := hO9.1.2.1; omega)
      | succ n9 ih =>
        intro ci nv np og DX F G S1 I1 J1 f1 H locs ls hi hO9 hbn hD0 q11 q12 qS X V hl
        have hnvb := hO9.2.2.2.2.1
        have hnpb := hO9.2.2.2.2.2
        have hbc := hO9.1
        have hS11 := q11
        have hS12 := q12
        by_cases hcn9 : nv ≤ ci
        · refine lv_iload hx hb d_Mo_copied_21 (lv_at hl 0 rfl) ?_
          refine lv_aload_n hx hb d_Mo_copied_23 rfl (lv_at hl 1 rfl) ?_
          refine mo_getS (v := nI nv) C V X 11 (by decide) (by decide) (by first | rfl | exact hS11) f_Mo_141 rfl d_Mo_copied_24 ?_
          refine lv_icmp_ge (tgt := 165) hx hb d_Mo_copied_27 (by decide) (fun c2 => ?_) (fun c2 => absurd (nI_le hcn9 (by omega)) c2)
          refine lv_iload hx hb d_Mo_copied_165 (lv_at hl 5 rfl) ?_
          refine gh_reti hAe C V hr hlocks d_Mo_copied_167 (by first | decide | omega | (dsimp only; omega)) (by first | decide | omega | (dsimp only; omega)) ?_
          have hcn : ci = nv := by have := hO9.1.2.1; omega
          subst hcn
          exact ⟨b, rfl, _, _, _, X, hO9.ends (M := 2 * vt_w O - 1) (by omega) hc0 hbb hb7 hp8 (Or.inr ⟨Nat.le_refl _, hbn, hD0⟩) q11 q12 qS⟩
        · refine lv_iload hx hb d_Mo_copied_21 (lv_at hl 0 rfl) ?_
          refine lv_aload_n hx hb d_Mo_copied_23 rfl (lv_at hl 1 rfl) ?_
          refine mo_getS (v := nI nv) C V X 11 (by decide) (by decide) (by first | rfl | exact hS11) f_Mo_141 rfl d_Mo_copied_24 ?_
          refine lv_icmp_ge (tgt := 165) hx hb d_Mo_copied_27 (by decide) (fun c3 => absurd c3 (nI_ge (by omega) (by omega))) (fun c3 => ?_)
          refine lv_aload_n hx hb d_Mo_copied_30 rfl (lv_at hl 1 rfl) ?_
          refine lv_iload hx hb d_Mo_copied_31 (lv_at hl 0 rfl) ?_
          obtain ⟨hw9, ho13, ⟨hc1, hc3, hc4, hc5⟩, hcJ⟩ := hO9.2.1 ci (by omega) (by omega)
          have hk9 : I1 1 ci = nI (vt_k (DX ci)) := hc1.trans (mv_o.mp hw9.1).2.1
          have hk6 := (vo_o.mp hw9.2).1
          refine gh_callV C V hl.1 m_Mo_isMany l_Mo_169 (c_Mo_isMany l E _ _ a ad _ _ _ ci X.1 (by omega)) rfl X.1.1 gc_Mo ⟨by first | decide | omega | (dsimp only; omega), by first | decide | omega | (dsimp only; omega)⟩ ⟨by first | decide | omega | (dsimp only; omega), by first | decide | omega | (dsimp only; omega)⟩ (Nat.le_of_ble_eq_true rfl) rfl d_Mo_copied_33 (fun r z9 H locs hp V1 => ?_)
          obtain ⟨rfl, he9⟩ := hp
          rw [he9] at V1
          have V := V1
          by_cases h5 : 5 ≤ vt_k (DX ci)
          · have hmn : (decide (I1 1 ci = 5) || decide (I1 1 ci = 6)) = true := by
              rw [hk9]; rcases (show vt_k (DX ci) = 5 ∨ vt_k (DX ci) = 6 by omega) with e | e <;> rw [e] <;> decide
            rw [hmn]
            refine W.eq (g2 := F0 m 36 ls [.int (gh_bi true)]) rfl ?_
            have hqc := (vo_o.mp hw9.2).2.2.2.2.1
            have h16 := (vo_o.mp hw9.2).2.2.2.2.2.2.1
            have hln : I1 3 ci = nI (vt_c (DX ci)) := by rw [hc3, (mv_o.mp hw9.1).2.2.2.1]; unfold vt_ln; rw [if_neg (by omega)]
            refine lv_if_ne (tgt := 42) hx hb d_Mo_copied_36 (by decide) (fun c4 => ?_) (fun c4 => absurd c4 (by decide))
            refine lv_aload_n hx hb d_Mo_copied_42 rfl (lv_at hl 1 rfl) ?_
            refine mo_getA C V X 13 (by decide) (by decide) f_Mo_41 rfl d_Mo_copied_43 ?_
            refine lv_iload hx hb d_Mo_copied_46 (lv_at hl 0 rfl) ?_
            refine lv_iload_n hx hb d_Mo_copied_48 rfl (lv_at hl 3 rfl) ?_
            refine gn_isub (a := ci) (b := b) hx hb (by omega) d_Mo_copied_49 ?_
            refine mo_ild (k := 13) (i := ci - b) (n := 240) C V X (by decide) (by decide) rfl (by omega) (by decide) d_Mo_copied_50 ?_
            rw [show I1 13 (ci - b) = nI (og ci) from ho13]
            refine lv_istore hx hb d_Mo_copied_51 hl (by decide) rfl (fun ls hl => ?_)
            have hl : lv_has ls 9 [(6, .int (nI (og ci))), (5, .int (nI ci)), (0, .ref a), (1, .int (nI v)), (2, .int (nI b)), (3, .int (nI pb)), (4, .int (nI b))] := hl
            have ht : cp_t (DX ci) = vt_c (DX ci) + (vt_q (DX ci)).length := rfl
            by_cases h6 : vt_k (DX ci) = 6
            · rw [if_pos h6] at hqc
              refine lv_aload_n hx hb d_Mo_copied_53 rfl (lv_at hl 2 rfl) ?_
              refine mo_getA C V X 1 (by decide) (by decide) f_Mo_7 rfl d_Mo_copied_54 ?_
              refine lv_iload hx hb d_Mo_copied_57 (lv_at hl 1 rfl) ?_
              refine mo_ild (k := 1) (i := ci) (n := 760) C V X (by decide) (by decide) rfl (by omega) (by decide) d_Mo_copied_59 ?_
              rw [show I1 1 ci = nI (vt_k (DX ci)) from hk9]
              refine lv_bipush (v := 6) hx hb d_Mo_copied_60 (by decide) ?_
              refine lv_icmp_ne (tgt := 77) hx hb d_Mo_copied_62 (by decide) (fun c5 => absurd (by rw [h6]; rfl) c5) (fun c5 => ?_)
              refine lv_iconst (v := 2) hx hb d_Mo_copied_65 (by decide) ?_
              refine lv_aload_n hx hb d_Mo_copied_66 rfl (lv_at hl 2 rfl) ?_
              refine mo_getA C V X 3 (by decide) (by decide) f_Mo_17 rfl d_Mo_copied_67 ?_
              refine lv_iload hx hb d_Mo_copied_70 (lv_at hl 1 rfl) ?_
              refine mo_ild (k := 3) (i := ci) (n := 760) C V X (by decide) (by decide) rfl (by omega) (by decide) d_Mo_copied_72 ?_
              rw [show I1 3 ci = nI (vt_c (DX ci)) from hln]
              refine gn_imul (a := 2) (b := vt_c (DX ci)) hx hb d_Mo_copied_73 ?_
              refine lv_goto (tgt := 84) hx hb d_Mo_copied_74 (by decide) ?_
              refine lv_istore hx hb d_Mo_copied_84 hl (by decide) rfl (fun ls hl => ?_)
              have hl : lv_has ls 9 [(7, .int (nI (2 * (vt_c (DX ci))))), (6, .int (nI (og ci))), (5, .int (nI ci)), (0, .ref a), (1, .int (nI v)), (2, .int (nI b)), (3, .int (nI pb)), (4, .int (nI b))] := hl
              refine lv_aload_n hx hb d_Mo_copied_86 rfl (lv_at hl 3 rfl) ?_
              refine mo_getA C V X 9 (by decide) (by decide) f_Mo_35 rfl d_Mo_copied_87 ?_
              refine lv_iload hx hb d_Mo_copied_90 (lv_at hl 2 rfl) ?_
              refine lv_aload_n hx hb d_Mo_copied_92 rfl (lv_at hl 3 rfl) ?_
              refine mo_getS (v := nI np) C V X 12 (by decide) (by decide) (by first | rfl | exact hS12) f_Mo_163 rfl d_Mo_copied_93 ?_
              refine mo_ist (k := 9) (i := ci) (n := 760) C V X (by decide) (by decide) rfl (by omega) (by decide) d_Mo_copied_96 (fun f1 H locs V1 X1 => ?_)
              clear V X
              have V := V1
              have X := X1
              clear V1 X1
              refine lv_aload_n hx hb d_Mo_copied_97 rfl (lv_at hl 3 rfl) ?_
              refine lv_aload_n hx hb d_Mo_copied_98 rfl (lv_at hl 3 rfl) ?_
              refine mo_getS (v := nI np) C V X 12 (by decide) (by decide) (by first | rfl | exact hS12) f_Mo_163 rfl d_Mo_copied_99 ?_
              refine lv_iload hx hb d_Mo_copied_102 (lv_at hl 0 rfl) ?_
              refine gn_iadd (a := np) (b := 2 * (vt_c (DX ci))) hx hb d_Mo_copied_104 ?_
              refine mo_putS C V X 12 (by decide) (by decide) f_Mo_163 rfl rfl rfl d_Mo_copied_105 (fun f1 H locs V1 X1 => ?_)
              clear V X
              have V := V1
              have X := X1
              clear V1 X1
              refine lv_iconst (v := 0) hx hb d_Mo_copied_108 (by decide) ?_
              refine lv_istore hx hb d_Mo_copied_109 hl (by decide) rfl (fun ls hl => ?_)
              have hl : lv_has ls 9 [(8, .int 0), (7, .int (nI (2 * (vt_c (DX ci))))), (6, .int (nI (og ci))), (5, .int (nI ci)), (0, .ref a), (1, .int (nI v)), (2, .int (nI b)), (3, .int (nI pb)), (4, .int (nI b))] := hl
              have htn : cp_t (DX ci) = 2 * vt_c (DX ci) := by omega
              have hN0 := hO9.opn (I2 := va_up I1 9 (upd (I1 9) ci (nI np))) (by omega) h5 (by rw [va_up_s]) (fun j hj => va_up_n hj)
              obtain ⟨fv, sj, hfv, ⟨hf1, hf2, hf3⟩, hsj⟩ := cp_src hw9 h5
              have hroom := hO9.room (by omega)
              have hogd := hdv (og ci) (mv_o.mp hw9.1).1
              have hog7 := hw9.lt
              have hl : lv_has ls 9 [(8, .int 0), (0, .ref a), (1, .int (nI v)), (2, .int (nI b)), (3, .int (nI pb)), (4, .int (nI b)), (5, .int (nI ci)), (6, .int (nI (og ci))), (7, .int (nI (2 * (vt_c (DX ci)))))] := lv_sub hl [0, 4, 5, 6, 7, 8, 3, 2, 1] rfl
              have hl : lv_has ls 9 [(8, .int (nI 0)), (0, .ref a), (1, .int (nI v)), (2, .int (nI b)), (3, .int (nI pb)), (4, .int (nI b)), (5, .int (nI ci)), (6, .int (nI (og ci))), (7, .int (nI (2 * (vt_c (DX ci)))))] := hl
              have loop2 : ∀ (n8 k8 nv8 : Nat) (og8 : Nat → Nat) (DX8 : Nat → vt) (G8 : Nat → Nat → Nat) (S8 : Nat → Int32) (I8 : mo_I) (J8 : mo_J) (f8 : gh_F) (H : Heap) (locs : List Loc) (ls : Array Slot), k8 + n8 = 2 * vt_c (DX ci) → cp_N I J b1 nv1 pb1 np1 b pb (2 * vt_w O - 1) ci k8 nv8 (np + cp_t (DX ci)) I8 J8 og8 DX8 (va_up F ci np) G8 → (DX8 ci = DX ci) → (b < nv8) → (DX8 b = O) → (S8 11 = nI nv8) → (S8 12 = nI (np + cp_t (DX ci))) → (∀ k, k ≠ 11 → k ≠ 12 → S8 k = S k) → mo_X E f f8 a ad S8 I8 J8 → gh_V E A f8 s H locs → lv_has ls 9 [(8, .int (nI k8)), (0, .ref a), (1, .int (nI v)), (2, .int (nI b)), (3, .int (nI pb)), (4, .int (nI b)), (5, .int (nI ci)), (6, .int (nI (og ci))), (7, .int (nI (2 * (vt_c (DX ci)))))] → W p l e { frames := 6, cells := 0, slots := 0, locals := 200 } s m args below meth c H locs 0 0 (MQ below (gh_Q E f (fun r g => ∃ root, r = some (.int (nI root)) ∧ ∃ S2 I2 J2, mo_X E f g a ad S2 I2 J2 ∧ cp_R b1 nv1 pb1 np1 b pb O S I J root S2 I2 J2)) args s 0 0 A) (F0 m 111 ls []) := by
                intro n8
                induction n8 with
                | zero =>
                  intro k8 nv8 og8 DX8 G8 S8 I8 J8 f8 H locs ls hi8 hN8 hDc hbn8 hD08 p11 p12 pS X V hl
                  have hS11 := p11
                  refine lv_iload hx hb d_Mo_copied_111 (lv_at hl 0 rfl) ?_
                  refine lv_iload hx hb d_Mo_copied_113 (lv_at hl 8 rfl) ?_
                  refine lv_icmp_ge (tgt := 159) hx hb d_Mo_copied_115 (by decide) (fun c6 => ?_) (fun c6 => absurd (nI_le (by omega) (by omega)) c6)
                  refine lv_iinc (k := 6) (v := (nI ci) + 1) hx hb d_Mo_copied_159 hl rfl (by rfl) (by decide) rfl (fun ls hl => ?_)
                  have hl : lv_has ls 9 [(5, .int (nI (ci + 1))), (8, .int (nI k8)), (0, .ref a), (1, .int (nI v)), (2, .int (nI b)), (3, .int (nI pb)), (4, .int (nI b)), (6, .int (nI (og ci))), (7, .int (nI (2 * (vt_c (DX ci)))))] := by rw [nI_succ]; exact hl
                  refine lv_goto (tgt := 21) hx hb d_Mo_copied_162 (by decide) ?_
                  have hk8 : k8 = cp_t (DX8 ci) := by rw [hDc]; omega
                  subst hk8
                  have hl : lv_has ls 9 [(5, .int (nI (ci + 1))), (0, .ref a), (1, .int (nI v)), (2, .int (nI b)), (3, .int (nI pb)), (4, .int (nI b))] := lv_sub hl [0, 2, 3, 4, 5, 6] rfl
                  exact ih (ci + 1) nv8 (np + cp_t (DX ci)) og8 DX8 (va_up F ci np) G8 S8 I8 J8 _ _ _ ls (by omega) hN8.close hbn8 hD08 p11 p12 pS X V hl
                | succ n8 ih8 =>
                  intro k8 nv8 og8 DX8 G8 S8 I8 J8 f8 H locs ls hi8 hN8 hDc hbn8 hD08 p11 p12 pS X V hl
                  have hS11 := p11
                  have hk8 : k8 < cp_t (DX8 ci) := by rw [hDc]; omega
                  have hF8 : I8 9 ci = nI np := by have := hN8.2.2.2.1.1; rw [va_up_s] at this; exact this
                  have hbnd := hN8.2.2.2.2.2.1
                  have hrle := cp_r_le (X := DX8 ci) (Nat.le_of_lt hk8)
                  have hnp8 := hN8.2.2.2.2.2.2
                  have hf8 : I8 9 (og ci) = nI fv := (hN8.2.2.2.2.1.1 9 (og ci) (by omega) (by omega)).trans hfv
                  have hs8 := hsj k8 (by omega)
                  have hfd := hdp (fv + k8) (by omega) (by omega)
                  have hp10 : I8 10 (fv + k8) = nI (sj k8) := (hN8.2.2.2.2.1.2.2.1 (fv + k8) (by omega)).trans hs8.1
                  have hsd := hdv (sj k8) (mv_o.mp hs8.2.1).1
                  have hs7 := hs8.2.lt
                  have hrl2 := cp_r_le (X := DX8 ci) (show k8 + 1 ≤ cp_t (DX8 ci) by omega)
                  have hw8 : 1 ≤ vt_w (cp_c (DX8 ci) k8) := by rw [hDc]; exact (vt_w_pos hs8.2).1
                  have hrs : cp_r (DX8 ci) (k8 + 1) = cp_r (DX8 ci) k8 + (2 * vt_w (cp_c (DX8 ci) k8) - 1) := rfl
                  refine lv_iload hx hb d_Mo_copied_111 (lv_at hl 0 rfl) ?_
                  refine lv_iload hx hb d_Mo_copied_113 (lv_at hl 8 rfl) ?_
                  refine lv_icmp_ge (tgt := 159) hx hb d_Mo_copied_115 (by decide) (fun c7 => absurd c7 (nI_ge (by omega) (by omega))) (fun c7 => ?_)
                  refine lv_aload_n hx hb d_Mo_copied_118 rfl (lv_at hl 1 rfl) ?_
                  refine mo_getA C V X 10 (by decide) (by decide) f_Mo_38 rfl d_Mo_copied_119 ?_
                  refine lv_aload_n hx hb d_Mo_copied_122 rfl (lv_at hl 1 rfl) ?_
                  refine mo_getA C V X 9 (by decide) (by decide) f_Mo_35 rfl d_Mo_copied_123 ?_
                  refine lv_iload hx hb d_Mo_copied_126 (lv_at hl 6 rfl) ?_
                  refine mo_ild (k := 9) (i := ci) (n := 760) C V X (by decide) (by decide) rfl (by omega) (by decide) d_Mo_copied_128 ?_
                  rw [show I8 9 ci = nI np from hF8]
                  refine lv_iload hx hb d_Mo_copied_129 (lv_at hl 0 rfl) ?_
                  refine gn_iadd (a := np) (b := k8) hx hb d_Mo_copied_131 ?_
                  refine lv_aload_n hx hb d_Mo_copied_132 rfl (lv_at hl 1 rfl) ?_
                  refine lv_iload_n hx hb d_Mo_copied_133 rfl (lv_at hl 3 rfl) ?_
                  refine lv_aload_n hx hb d_Mo_copied_134 rfl (lv_at hl 1 rfl) ?_
                  refine mo_getA C V X 10 (by decide) (by decide) f_Mo_38 rfl d_Mo_copied_135 ?_
                  refine lv_aload_n hx hb d_Mo_copied_138 rfl (lv_at hl 1 rfl) ?_
                  refine mo_getA C V X 9 (by decide) (by decide) f_Mo_35 rfl d_Mo_copied_139 ?_
                  refine lv_iload hx hb d_Mo_copied_142 (lv_at hl 7 rfl) ?_
                  refine mo_ild (k := 9) (i := og ci) (n := 760) C V X (by decide) (by decide) rfl (by omega) (by decide) d_Mo_copied_144 ?_
                  rw [show I8 9 (og ci) = nI fv from hf8]
                  refine lv_iload hx hb d_Mo_copied_145 (lv_at hl 0 rfl) ?_
                  refine gn_iadd (a := fv) (b := k8) hx hb d_Mo_copied_147 ?_
                  refine mo_ild (k := 10) (i := fv + k8) (n := 8800) C V X (by decide) (by decide) rfl (by omega) (by decide) d_Mo_copied_148 ?_
                  rw [show I8 10 (fv + k8) = nI (sj k8) from hp10]
                  by_cases hv29 : sj k8 < 29
                  · refine gh_callV C V hl.1 m_Mo_copyOne l_Mo_166 (c_Mo_copyOne0 l E _ _ a ad _ _ _ b (sj k8) X.1 hv29) rfl X.1.1 gc_Mo ⟨by first | decide | omega | (dsimp only; omega), by first | decide | omega | (dsimp only; omega)⟩ ⟨by first | decide | omega | (dsimp only; omega), by first | decide | omega | (dsimp only; omega)⟩ (Nat.le_of_ble_eq_true rfl) rfl d_Mo_copied_149 (fun r z9 H locs hp V1 => ?_)
                    obtain ⟨rfl, he9⟩ := hp
                    rw [he9] at V1
                    have V := V1
                    refine W.eq (g2 := F0 m 152 ls [.int (nI (sj k8)), .int (nI (np + k8)), .ref (ad 10)]) rfl ?_
                    refine mo_ist (k := 10) (i := np + k8) (n := 8800) C V X (by decide) (by decide) rfl (by omega) (by decide) d_Mo_copied_152 (fun f1 H locs V1 X1 => ?_)
                    clear V X
                    have V := V1
                    have X := X1
                    clear V1 X1
                    refine lv_iinc (k := 0) (v := (nI k8) + 1) hx hb d_Mo_copied_153 hl rfl (by rfl) (by decide) rfl (fun ls hl => ?_)
                    have hl : lv_has ls 9 [(8, .int (nI (k8 + 1))), (0, .ref a), (1, .int (nI v)), (2, .int (nI b)), (3, .int (nI pb)), (4, .int (nI b)), (5, .int (nI ci)), (6, .int (nI (og ci))), (7, .int (nI (2 * (vt_c (DX ci)))))] := by rw [nI_succ]; exact hl
                    refine lv_goto (tgt := 111) hx hb d_Mo_copied_156 (by decide) ?_
                    have hl : lv_has ls 9 [(8, .int (nI (k8 + 1))), (0, .ref a), (1, .int (nI v)), (2, .int (nI b)), (3, .int (nI pb)), (4, .int (nI b)), (5, .int (nI ci)), (6, .int (nI (og ci))), (7, .int (nI (2 * (vt_c (DX ci)))))] := lv_sub hl [0, 1, 2, 3, 4, 5, 6, 7, 8] rfl
                    have hF9 : va_up F ci np ci = np := va_up_s
                    exact ih8 (k8 + 1) nv8 og8 DX8 _ S8 _ J8 _ _ _ ls (by omega) (hN8.const hk8 hv29 (by rw [hDc]; exact hs8.2) ⟨by rw [va_up_s, va_up_s], fun j hj => va_up_n hj⟩) hDc hbn8 hD08 p11 p12 pS X V hl
                  · refine gh_callV C V hl.1 m_Mo_copyOne l_Mo_166 (c_Mo_copyOne1 l E _ _ a ad _ _ _ b (sj k8) nv8 X.1 (by omega) hs7 p11 (by omega) (by have := hN8.1; omega) (by omega) (by omega)) rfl X.1.1 gc_Mo ⟨by first | decide | omega | (dsimp only; omega), by first | decide | omega | (dsimp only; omega)⟩ ⟨by first | decide | omega | (dsimp only; omega), by first | decide | omega | (dsimp only; omega)⟩ (Nat.le_of_ble_eq_true rfl) rfl d_Mo_copied_149 (fun r z9 H locs hp V1 => ?_)
                    obtain ⟨rfl, S7, I7, J7, X2, hco⟩ := hp
                    have X := X.then X2
                    have V := V1
                    refine W.eq (g2 := F0 m 152 ls [.int (nI nv8), .int (nI (np + k8)), .ref (ad 10)]) rfl ?_
                    refine mo_ist (k := 10) (i := np + k8) (n := 8800) C V X (by decide) (by decide) rfl (by omega) (by decide) d_Mo_copied_152 (fun f1 H locs V1 X1 => ?_)
                    clear V X
                    have V := V1
                    have X := X1
                    clear V1 X1
                    refine lv_iinc (k := 0) (v := (nI k8) + 1) hx hb d_Mo_copied_153 hl rfl (by rfl) (by decide) rfl (fun ls hl => ?_)
                    have hl : lv_has ls 9 [(8, .int (nI (k8 + 1))), (0, .ref a), (1, .int (nI v)), (2, .int (nI b)), (3, .int (nI pb)), (4, .int (nI b)), (5, .int (nI ci)), (6, .int (nI (og ci))), (7, .int (nI (2 * (vt_c (DX ci)))))] := by rw [nI_succ]; exact hl
                    refine lv_goto (tgt := 111) hx hb d_Mo_copied_156 (by decide) ?_
                    have hl : lv_has ls 9 [(8, .int (nI (k8 + 1))), (0, .ref a), (1, .int (nI v)), (2, .int (nI b)), (3, .int (nI pb)), (4, .int (nI b)), (5, .int (nI ci)), (6, .int (nI (og ci))), (7, .int (nI (2 * (vt_c (DX ci)))))] := lv_sub hl [0, 1, 2, 3, 4, 5, 6, 7, 8] rfl
                    have hF9 : va_up F ci np ci = np := va_up_s
                    exact ih8 (k8 + 1) (nv8 + 1) (va_up og8 nv8 (sj k8)) (va_up DX8 nv8 (cp_c (DX8 ci) k8)) _ S7 _ J7 _ _ _ ls (by omega) (hN8.new hk8 (by rw [hDc]; exact hs8.2) (by omega) hco ⟨by rw [va_up_s, va_up_s], fun j hj => va_up_n hj⟩) (by rw [va_up_n (by have := hN8.1; omega)]; exact hDc) (by omega) (by rw [va_up_n (by omega)]; exact hD08) (by rw [hco.1, va_up_s]) (by rw [hco.1, va_up_n (by decide)]; exact p12) (fun k h1 h2 => by rw [hco.1, va_up_n h1]; exact pS k h1 h2) X V hl
              exact loop2 (2 * vt_c (DX ci)) 0 nv og DX G _ _ J1 _ _ _ ls (by omega) hN0 rfl hbn hD0 (by rw [va_up_n (by decide)]; exact q11) (by rw [va_up_s, htn]) (fun k h1 h2 => by rw [va_up_n h2]; exact qS k h1 h2) X V hl
            · rw [if_neg h6] at hqc
              refine lv_aload_n hx hb d_Mo_copied_53 rfl (lv_at hl 2 rfl) ?_
              refine mo_getA C V X 1 (by decide) (by decide) f_Mo_7 rfl d_Mo_copied_54 ?_
              refine lv_iload hx hb d_Mo_copied_57 (lv_at hl 1 rfl) ?_
              refine mo_ild (k := 1) (i := ci) (n := 760) C V X (by decide) (by decide) rfl (by omega) (by decide) d_Mo_copied_59 ?_
              rw [show I1 1 ci = nI (vt_k (DX ci)) from hk9]
              refine lv_bipush (v := 6) hx hb d_Mo_copied_60 (by decide) ?_
              refine lv_icmp_ne (tgt := 77) hx hb d_Mo_copied_62 (by decide) (fun c8 => ?_) (fun c8 => absurd c8 (fun z => absurd ((nI_eq (b := 6) (by omega) (by decide)).mp z) h6))
              refine lv_aload_n hx hb d_Mo_copied_77 rfl (lv_at hl 2 rfl) ?_
              refine mo_getA C V X 3 (by decide) (by decide) f_Mo_17 rfl d_Mo_copied_78 ?_
              refine lv_iload hx hb d_Mo_copied_81 (lv_at hl 1 rfl) ?_
              refine mo_ild (k := 3) (i := ci) (n := 760) C V X (by decide) (by decide) rfl (by omega) (by decide) d_Mo_copied_83 ?_
              rw [show I1 3 ci = nI (vt_c (DX ci)) from hln]
              refine lv_istore hx hb d_Mo_copied_84 hl (by decide) rfl (fun ls hl => ?_)
              have hl : lv_has ls 9 [(7, .int (nI (vt_c (DX ci)))), (6, .int (nI (og ci))), (5, .int (nI ci)), (0, .ref a), (1, .int (nI v)), (2, .int (nI b)), (3, .int (nI pb)), (4, .int (nI b))] := hl
              refine lv_aload_n hx hb d_Mo_copied_86 rfl (lv_at hl 3 rfl) ?_
              refine mo_getA C V X 9 (by decide) (by decide) f_Mo_35 rfl d_Mo_copied_87 ?_
              refine lv_iload hx hb d_Mo_copied_90 (lv_at hl 2 rfl) ?_
              refine lv_aload_n hx hb d_Mo_copied_92 rfl (lv_at hl 3 rfl) ?_
              refine mo_getS (v := nI np) C V X 12 (by decide) (by decide) (by first | rfl | exact hS12) f_Mo_163 rfl d_Mo_copied_93 ?_
              refine mo_ist (k := 9) (i := ci) (n := 760) C V X (by decide) (by decide) rfl (by omega) (by decide) d_Mo_copied_96 (fun f1 H locs V1 X1 => ?_)
              clear V X
              have V := V1
              have X := X1
              clear V1 X1
              refine lv_aload_n hx hb d_Mo_copied_97 rfl (lv_at hl 3 rfl) ?_
              refine lv_aload_n hx hb d_Mo_copied_98 rfl (lv_at hl 3 rfl) ?_
              refine mo_getS (v := nI np) C V X 12 (by decide) (by decide) (by first | rfl | exact hS12) f_Mo_163 rfl d_Mo_copied_99 ?_
              refine lv_iload hx hb d_Mo_copied_102 (lv_at hl 0 rfl) ?_
              refine gn_iadd (a := np) (b := vt_c (DX ci)) hx hb d_Mo_copied_104 ?_
              refine mo_putS C V X 12 (by decide) (by decide) f_Mo_163 rfl rfl rfl d_Mo_copied_105 (fun f1 H locs V1 X1 => ?_)
              clear V X
              have V := V1
              have X := X1
              clear V1 X1
              refine lv_iconst (v := 0) hx hb d_Mo_copied_108 (by decide) ?_
              refine lv_istore hx hb d_Mo_copied_109 hl (by decide) rfl (fun ls hl => ?_)
              have hl : lv_has ls 9 [(8, .int 0), (7, .int (nI (vt_c (DX ci)))), (6, .int (nI (og ci))), (5, .int (nI ci)), (0, .ref a), (1, .int (nI v)), (2, .int (nI b)), (3, .int (nI pb)), (4, .int (nI b))] := hl
              have htn : cp_t (DX ci) = vt_c (DX ci) := by omega
              have hN0 := hO9.opn (I2 := va_up I1 9 (upd (I1 9) ci (nI np))) (by omega) h5 (by rw [va_up_s]) (fun j hj => va_up_n hj)
              obtain ⟨fv, sj, hfv, ⟨hf1, hf2, hf3⟩, hsj⟩ := cp_src hw9 h5
              have hroom := hO9.room (by omega)
              have hogd := hdv (og ci) (mv_o.mp hw9.1).1
              have hog7 := hw9.lt
              have hl : lv_has ls 9 [(8, .int 0), (0, .ref a), (1, .int (nI v)), (2, .int (nI b)), (3, .int (nI pb)), (4, .int (nI b)), (5, .int (nI ci)), (6, .int (nI (og ci))), (7, .int (nI (vt_c (DX ci))))] := lv_sub hl [0, 4, 5, 6, 7, 8, 3, 2, 1] rfl
              have hl : lv_has ls 9 [(8, .int (nI 0)), (0, .ref a), (1, .int (nI v)), (2, .int (nI b)), (3, .int (nI pb)), (4, .int (nI b)), (5, .int (nI ci)), (6, .int (nI (og ci))), (7, .int (nI (vt_c (DX ci))))] := hl
              have loop2 : ∀ (n8 k8 nv8 : Nat) (og8 : Nat → Nat) (DX8 : Nat → vt) (G8 : Nat → Nat → Nat) (S8 : Nat → Int32) (I8 : mo_I) (J8 : mo_J) (f8 : gh_F) (H : Heap) (locs : List Loc) (ls : Array Slot), k8 + n8 = vt_c (DX ci) → cp_N I J b1 nv1 pb1 np1 b pb (2 * vt_w O - 1) ci k8 nv8 (np + cp_t (DX ci)) I8 J8 og8 DX8 (va_up F ci np) G8 → (DX8 ci = DX ci) → (b < nv8) → (DX8 b = O) → (S8 11 = nI nv8) → (S8 12 = nI (np + cp_t (DX ci))) → (∀ k, k ≠ 11 → k ≠ 12 → S8 k = S k) → mo_X E f f8 a ad S8 I8 J8 → gh_V E A f8 s H locs → lv_has ls 9 [(8, .int (nI k8)), (0, .ref a), (1, .int (nI v)), (2, .int (nI b)), (3, .int (nI pb)), (4, .int (nI b)), (5, .int (nI ci)), (6, .int (nI (og ci))), (7, .int (nI (vt_c (DX ci))))] → W p l e { frames := 6, cells := 0, slots := 0, locals := 200 } s m args below meth c H locs 0 0 (MQ below (gh_Q E f (fun r g => ∃ root, r = some (.int (nI root)) ∧ ∃ S2 I2 J2, mo_X E f g a ad S2 I2 J2 ∧ cp_R b1 nv1 pb1 np1 b pb O S I J root S2 I2 J2)) args s 0 0 A) (F0 m 111 ls []) := by
                intro n8
                induction n8 with
                | zero =>
                  intro k8 nv8 og8 DX8 G8 S8 I8 J8 f8 H locs ls hi8 hN8 hDc hbn8 hD08 p11 p12 pS X V hl
                  have hS11 := p11
                  refine lv_iload hx hb d_Mo_copied_111 (lv_at hl 0 rfl) ?_
                  refine lv_iload hx hb d_Mo_copied_113 (lv_at hl 8 rfl) ?_
                  refine lv_icmp_ge (tgt := 159) hx hb d_Mo_copied_115 (by decide) (fun c9 => ?_) (fun c9 => absurd (nI_le (by omega) (by omega)) c9)
                  refine lv_iinc (k := 6) (v := (nI ci) + 1) hx hb d_Mo_copied_159 hl rfl (by rfl) (by decide) rfl (fun ls hl => ?_)
                  have hl : lv_has ls 9 [(5, .int (nI (ci + 1))), (8, .int (nI k8)), (0, .ref a), (1, .int (nI v)), (2, .int (nI b)), (3, .int (nI pb)), (4, .int (nI b)), (6, .int (nI (og ci))), (7, .int (nI (vt_c (DX ci))))] := by rw [nI_succ]; exact hl
                  refine lv_goto (tgt := 21) hx hb d_Mo_copied_162 (by decide) ?_
                  have hk8 : k8 = cp_t (DX8 ci) := by rw [hDc]; omega
                  subst hk8
                  have hl : lv_has ls 9 [(5, .int (nI (ci + 1))), (0, .ref a), (1, .int (nI v)), (2, .int (nI b)), (3, .int (nI pb)), (4, .int (nI b))] := lv_sub hl [0, 2, 3, 4, 5, 6] rfl
                  exact ih (ci + 1) nv8 (np + cp_t (DX ci)) og8 DX8 (va_up F ci np) G8 S8 I8 J8 _ _ _ ls (by omega) hN8.close hbn8 hD08 p11 p12 pS X V hl
                | succ n8 ih8 =>
                  intro k8 nv8 og8 DX8 G8 S8 I8 J8 f8 H locs ls hi8 hN8 hDc hbn8 hD08 p11 p12 pS X V hl
                  have hS11 := p11
                  have hk8 : k8 < cp_t (DX8 ci) := by rw [hDc]; omega
                  have hF8 : I8 9 ci = nI np := by have := hN8.2.2.2.1.1; rw [va_up_s] at this; exact this
                  have hbnd := hN8.2.2.2.2.2.1
                  have hrle := cp_r_le (X := DX8 ci) (Nat.le_of_lt hk8)
                  have hnp8 := hN8.2.2.2.2.2.2
                  have hf8 : I8 9 (og ci) = nI fv := (hN8.2.2.2.2.1.1 9 (og ci) (by omega) (by omega)).trans hfv
                  have hs8 := hsj k8 (by omega)
                  have hfd := hdp (fv + k8) (by omega) (by omega)
                  have hp10 : I8 10 (fv + k8) = nI (sj k8) := (hN8.2.2.2.2.1.2.2.1 (fv + k8) (by omega)).trans hs8.1
                  have hsd := hdv (sj k8) (mv_o.mp hs8.2.1).1
                  have hs7 := hs8.2.lt
                  have hrl2 := cp_r_le (X := DX8 ci) (show k8 + 1 ≤ cp_t (DX8 ci) by omega)
                  have hw8 : 1 ≤ vt_w (cp_c (DX8 ci) k8) := by rw [hDc]; exact (vt_w_pos hs8.2).1
                  have hrs : cp_r (DX8 ci) (k8 + 1) = cp_r (DX8 ci) k8 + (2 * vt_w (cp_c (DX8 ci) k8) - 1) := rfl
                  refine lv_iload hx hb d_Mo_copied_111 (lv_at hl 0 rfl) ?_
                  refine lv_iload hx hb d_Mo_copied_113 (lv_at hl 8 rfl) ?_
                  refine lv_icmp_ge (tgt := 159) hx hb d_Mo_copied_115 (by decide) (fun c10 => absurd c10 (nI_ge (by omega) (by omega))) (fun c10 => ?_)
                  refine lv_aload_n hx hb d_Mo_copied_118 rfl (lv_at hl 1 rfl) ?_
                  refine mo_getA C V X 10 (by decide) (by decide) f_Mo_38 rfl d_Mo_copied_119 ?_
                  refine lv_aload_n hx hb d_Mo_copied_122 rfl (lv_at hl 1 rfl) ?_
                  refine mo_getA C V X 9 (by decide) (by decide) f_Mo_35 rfl d_Mo_copied_123 ?_
                  refine lv_iload hx hb d_Mo_copied_126 (lv_at hl 6 rfl) ?_
                  refine mo_ild (k := 9) (i := ci) (n := 760) C V X (by decide) (by decide) rfl (by omega) (by decide) d_Mo_copied_128 ?_
                  rw [show I8 9 ci = nI np from hF8]
                  refine lv_iload hx hb d_Mo_copied_129 (lv_at hl 0 rfl) ?_
                  refine gn_iadd (a := np) (b := k8) hx hb d_Mo_copied_131 ?_
                  refine lv_aload_n hx hb d_Mo_copied_132 rfl (lv_at hl 1 rfl) ?_
                  refine lv_iload_n hx hb d_Mo_copied_133 rfl (lv_at hl 3 rfl) ?_
                  refine lv_aload_n hx hb d_Mo_copied_134 rfl (lv_at hl 1 rfl) ?_
                  refine mo_getA C V X 10 (by decide) (by decide) f_Mo_38 rfl d_Mo_copied_135 ?_
                  refine lv_aload_n hx hb d_Mo_copied_138 rfl (lv_at hl 1 rfl) ?_
                  refine mo_getA C V X 9 (by decide) (by decide) f_Mo_35 rfl d_Mo_copied_139 ?_
                  refine lv_iload hx hb d_Mo_copied_142 (lv_at hl 7 rfl) ?_
                  refine mo_ild (k := 9) (i := og ci) (n := 760) C V X (by decide) (by decide) rfl (by omega) (by decide) d_Mo_copied_144 ?_
                  rw [show I8 9 (og ci) = nI fv from hf8]
                  refine lv_iload hx hb d_Mo_copied_145 (lv_at hl 0 rfl) ?_
                  refine gn_iadd (a := fv) (b := k8) hx hb d_Mo_copied_147 ?_
                  refine mo_ild (k := 10) (i := fv + k8) (n := 8800) C V X (by decide) (by decide) rfl (by omega) (by decide) d_Mo_copied_148 ?_
                  rw [show I8 10 (fv + k8) = nI (sj k8) from hp10]
                  by_cases hv29 : sj k8 < 29
                  · refine gh_callV C V hl.1 m_Mo_copyOne l_Mo_166 (c_Mo_copyOne0 l E _ _ a ad _ _ _ b (sj k8) X.1 hv29) rfl X.1.1 gc_Mo ⟨by first | decide | omega | (dsimp only; omega), by first | decide | omega | (dsimp only; omega)⟩ ⟨by first | decide | omega | (dsimp only; omega), by first | decide | omega | (dsimp only; omega)⟩ (Nat.le_of_ble_eq_true rfl) rfl d_Mo_copied_149 (fun r z9 H locs hp V1 => ?_)
                    obtain ⟨rfl, he9⟩ := hp
                    rw [he9] at V1
                    have V := V1
                    refine W.eq (g2 := F0 m 152 ls [.int (nI (sj k8)), .int (nI (np + k8)), .ref (ad 10)]) rfl ?_
                    refine mo_ist (k := 10) (i := np + k8) (n := 8800) C V X (by decide) (by decide) rfl (by omega) (by decide) d_Mo_copied_152 (fun f1 H locs V1 X1 => ?_)
                    clear V X
                    have V := V1
                    have X := X1
                    clear V1 X1
                    refine lv_iinc (k := 0) (v := (nI k8) + 1) hx hb d_Mo_copied_153 hl rfl (by rfl) (by decide) rfl (fun ls hl => ?_)
                    have hl : lv_has ls 9 [(8, .int (nI (k8 + 1))), (0, .ref a), (1, .int (nI v)), (2, .int (nI b)), (3, .int (nI pb)), (4, .int (nI b)), (5, .int (nI ci)), (6, .int (nI (og ci))), (7, .int (nI (vt_c (DX ci))))] := by rw [nI_succ]; exact hl
                    refine lv_goto (tgt := 111) hx hb d_Mo_copied_156 (by decide) ?_
                    have hl : lv_has ls 9 [(8, .int (nI (k8 + 1))), (0, .ref a), (1, .int (nI v)), (2, .int (nI b)), (3, .int (nI pb)), (4, .int (nI b)), (5, .int (nI ci)), (6, .int (nI (og ci))), (7, .int (nI (vt_c (DX ci))))] := lv_sub hl [0, 1, 2, 3, 4, 5, 6, 7, 8] rfl
                    have hF9 : va_up F ci np ci = np := va_up_s
                    exact ih8 (k8 + 1) nv8 og8 DX8 _ S8 _ J8 _ _ _ ls (by omega) (hN8.const hk8 hv29 (by rw [hDc]; exact hs8.2) ⟨by rw [va_up_s, va_up_s], fun j hj => va_up_n hj⟩) hDc hbn8 hD08 p11 p12 pS X V hl
                  · refine gh_callV C V hl.1 m_Mo_copyOne l_Mo_166 (c_Mo_copyOne1 l E _ _ a ad _ _ _ b (sj k8) nv8 X.1 (by omega) hs7 p11 (by omega) (by have := hN8.1; omega) (by omega) (by omega)) rfl X.1.1 gc_Mo ⟨by first | decide | omega | (dsimp only; omega), by first | decide | omega | (dsimp only; omega)⟩ ⟨by first | decide | omega | (dsimp only; omega), by first | decide | omega | (dsimp only; omega)⟩ (Nat.le_of_ble_eq_true rfl) rfl d_Mo_copied_149 (fun r z9 H locs hp V1 => ?_)
                    obtain ⟨rfl, S7, I7, J7, X2, hco⟩ := hp
                    have X := X.then X2
                    have V := V1
                    refine W.eq (g2 := F0 m 152 ls [.int (nI nv8), .int (nI (np + k8)), .ref (ad 10)]) rfl ?_
                    refine mo_ist (k := 10) (i := np + k8) (n := 8800) C V X (by decide) (by decide) rfl (by omega) (by decide) d_Mo_copied_152 (fun f1 H locs V1 X1 => ?_)
                    clear V X
                    have V := V1
                    have X := X1
                    clear V1 X1
                    refine lv_iinc (k := 0) (v := (nI k8) + 1) hx hb d_Mo_copied_153 hl rfl (by rfl) (by decide) rfl (fun ls hl => ?_)
                    have hl : lv_has ls 9 [(8, .int (nI (k8 + 1))), (0, .ref a), (1, .int (nI v)), (2, .int (nI b)), (3, .int (nI pb)), (4, .int (nI b)), (5, .int (nI ci)), (6, .int (nI (og ci))), (7, .int (nI (vt_c (DX ci))))] := by rw [nI_succ]; exact hl
                    refine lv_goto (tgt := 111) hx hb d_Mo_copied_156 (by decide) ?_
                    have hl : lv_has ls 9 [(8, .int (nI (k8 + 1))), (0, .ref a), (1, .int (nI v)), (2, .int (nI b)), (3, .int (nI pb)), (4, .int (nI b)), (5, .int (nI ci)), (6, .int (nI (og ci))), (7, .int (nI (vt_c (DX ci))))] := lv_sub hl [0, 1, 2, 3, 4, 5, 6, 7, 8] rfl
                    have hF9 : va_up F ci np ci = np := va_up_s
                    exact ih8 (k8 + 1) (nv8 + 1) (va_up og8 nv8 (sj k8)) (va_up DX8 nv8 (cp_c (DX8 ci) k8)) _ S7 _ J7 _ _ _ ls (by omega) (hN8.new hk8 (by rw [hDc]; exact hs8.2) (by omega) hco ⟨by rw [va_up_s, va_up_s], fun j hj => va_up_n hj⟩) (by rw [va_up_n (by have := hN8.1; omega)]; exact hDc) (by omega) (by rw [va_up_n (by omega)]; exact hD08) (by rw [hco.1, va_up_s]) (by rw [hco.1, va_up_n (by decide)]; exact p12) (fun k h1 h2 => by rw [hco.1, va_up_n h1]; exact pS k h1 h2) X V hl
              exact loop2 (vt_c (DX ci)) 0 nv og DX G _ _ J1 _ _ _ ls (by omega) hN0 rfl hbn hD0 (by rw [va_up_n (by decide)]; exact q11) (by rw [va_up_s, htn]) (fun k h1 h2 => by rw [va_up_n h2]; exact qS k h1 h2) X V hl
          · have hmn : (decide (I1 1 ci = 5) || decide (I1 1 ci = 6)) = false := by
              rw [hk9]; rcases (show vt_k (DX ci) = 0 ∨ vt_k (DX ci) = 1 ∨ vt_k (DX ci) = 2 ∨ vt_k (DX ci) = 3 ∨ vt_k (DX ci) = 4 by omega) with e | e | e | e | e <;> rw [e] <;> decide
            rw [hmn]
            refine W.eq (g2 := F0 m 36 ls [.int (gh_bi false)]) rfl ?_
            refine lv_if_ne (tgt := 42) hx hb d_Mo_copied_36 (by decide) (fun c11 => absurd (by decide) c11) (fun c11 => ?_)
            refine lv_goto (tgt := 159) hx hb d_Mo_copied_39 (by decide) ?_
            refine lv_iinc (k := 0) (v := (nI ci) + 1) hx hb d_Mo_copied_159 hl rfl (by rfl) (by decide) rfl (fun ls hl => ?_)
            have hl : lv_has ls 9 [(5, .int (nI (ci + 1))), (0, .ref a), (1, .int (nI v)), (2, .int (nI b)), (3, .int (nI pb)), (4, .int (nI b))] := by rw [nI_succ]; exact hl
            refine lv_goto (tgt := 21) hx hb d_Mo_copied_162 (by decide) ?_
            have hl : lv_has ls 9 [(5, .int (nI (ci + 1))), (0, .ref a), (1, .int (nI v)), (2, .int (nI b)), (3, .int (nI pb)), (4, .int (nI b))] := lv_sub hl [0, 1, 2, 3, 4, 5] rfl
            exact ih (ci + 1) nv np og DX F G S1 I1 J1 _ _ _ ls (by omega) (hO9.skip (by omega) h5) hbn hD0 q11 q12 qS X V hl
    exact loop 200 b (b + 1) pb _ _ _ _ S2 I2 J2 _ _ _ ls (by omega) (cp_start hco hO (by omega)) (Nat.lt_succ_self _) va_up_s (by rw [hco.1, va_up_s]) (by rw [hco.1, va_up_n (by decide)]; exact h12) (fun k h1 h2 => by rw [hco.1, va_up_n h1]; exact hS1 k h1 h2) X V hl
