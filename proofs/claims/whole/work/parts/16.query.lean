/-! Query: takesLetter, takesNumber, append, hasItsByte. Printed by wip/whole/gen_query.py. -/
theorem d_Qu_takesLetter_0 : decode b_Qu_takesLetter 0 = .ok (.iload_n 0, 1) := by decide +kernel
theorem d_Qu_takesLetter_1 : decode b_Qu_takesLetter 1 = .ok (.iconst 1, 1) := by decide +kernel
theorem d_Qu_takesLetter_2 : decode b_Qu_takesLetter 2 = .ok (.if_icmp .eq 15, 3) := by decide +kernel
theorem d_Qu_takesLetter_5 : decode b_Qu_takesLetter 5 = .ok (.iload_n 0, 1) := by decide +kernel
theorem d_Qu_takesLetter_6 : decode b_Qu_takesLetter 6 = .ok (.bipush 6, 2) := by decide +kernel
theorem d_Qu_takesLetter_8 : decode b_Qu_takesLetter 8 = .ok (.if_icmp .eq 9, 3) := by decide +kernel
theorem d_Qu_takesLetter_11 : decode b_Qu_takesLetter 11 = .ok (.iload_n 0, 1) := by decide +kernel
theorem d_Qu_takesLetter_12 : decode b_Qu_takesLetter 12 = .ok (.bipush 16, 2) := by decide +kernel
theorem d_Qu_takesLetter_14 : decode b_Qu_takesLetter 14 = .ok (.if_icmp .ne 7, 3) := by decide +kernel
theorem d_Qu_takesLetter_17 : decode b_Qu_takesLetter 17 = .ok (.iconst 1, 1) := by decide +kernel
theorem d_Qu_takesLetter_18 : decode b_Qu_takesLetter 18 = .ok (.goto 4, 3) := by decide +kernel
theorem d_Qu_takesLetter_21 : decode b_Qu_takesLetter 21 = .ok (.iconst 0, 1) := by decide +kernel
theorem d_Qu_takesLetter_22 : decode b_Qu_takesLetter 22 = .ok (.ireturn, 1) := by decide +kernel
set_option maxHeartbeats 4000000 in
set_option maxRecDepth 100000 in
theorem c_Qu_takesLetter (l : Launch) (E : gh_E) (sz : Nat) (f : gh_F) (k : Nat) (hk : k < 256) : gh_M l y_Qu_takesLetter b_Qu_takesLetter 1 (some .boolean) E sz [.int (nI k)] f { frames := 1, cells := 0, slots := 0, locals := 12 } (fun r g => r = some (.int (gh_bi (qy_let k))) ∧ g = f) := by
  refine gh_open (by decide) (Nat.le_of_ble_eq_true rfl) ?_
  intro p e s m args below meth c A ls hAe C V hr hlocks hname hl
  have hx := C.1
  have hb := C.2.1
  have hl : lv_has ls 1 [(0, .int (nI k))] := hl
  refine lv_iload_n hx hb d_Qu_takesLetter_0 rfl (lv_at hl 0 rfl) ?_
  refine lv_iconst (v := 1) hx hb d_Qu_takesLetter_1 (by decide) ?_
  refine lv_icmp_eq (tgt := 17) hx hb d_Qu_takesLetter_2 (by decide) (fun c1 => ?_) (fun c1 => ?_)
  · have c1 : k = 1 := by rw [← gq_eq (a := k) (b := 1) (by omega) (by omega)]; exact c1
    refine lv_iconst (v := 1) hx hb d_Qu_takesLetter_17 (by decide) ?_
    refine lv_goto (tgt := 22) hx hb d_Qu_takesLetter_18 (by decide) ?_
    refine gh_retz hAe C V hr (by first | rfl | decide) hlocks d_Qu_takesLetter_22 (by first | decide | omega | (dsimp only; omega)) (by first | decide | omega | (dsimp only; omega)) ?_
    exact ⟨by simp [gh_bi, qy_let, c1], rfl⟩
  · have c1 : ¬ k = 1 := by rw [← gq_eq (a := k) (b := 1) (by omega) (by omega)]; exact c1
    refine lv_iload_n hx hb d_Qu_takesLetter_5 rfl (lv_at hl 0 rfl) ?_
    refine lv_bipush (v := 6) hx hb d_Qu_takesLetter_6 (by decide) ?_
    refine lv_icmp_eq (tgt := 17) hx hb d_Qu_takesLetter_8 (by decide) (fun c2 => ?_) (fun c2 => ?_)
    · have c2 : k = 6 := by rw [← gq_eq (a := k) (b := 6) (by omega) (by omega)]; exact c2
      refine lv_iconst (v := 1) hx hb d_Qu_takesLetter_17 (by decide) ?_
      refine lv_goto (tgt := 22) hx hb d_Qu_takesLetter_18 (by decide) ?_
      refine gh_retz hAe C V hr (by first | rfl | decide) hlocks d_Qu_takesLetter_22 (by first | decide | omega | (dsimp only; omega)) (by first | decide | omega | (dsimp only; omega)) ?_
      exact ⟨by simp [gh_bi, qy_let, c1, c2], rfl⟩
    · have c2 : ¬ k = 6 := by rw [← gq_eq (a := k) (b := 6) (by omega) (by omega)]; exact c2
      refine lv_iload_n hx hb d_Qu_takesLetter_11 rfl (lv_at hl 0 rfl) ?_
      refine lv_bipush (v := 16) hx hb d_Qu_takesLetter_12 (by decide) ?_
      refine lv_icmp_ne (tgt := 21) hx hb d_Qu_takesLetter_14 (by decide) (fun c3 => ?_) (fun c3 => ?_)
      · have c3 : ¬ k = 16 := by rw [← gq_eq (a := k) (b := 16) (by omega) (by omega)]; exact c3
        refine lv_iconst (v := 0) hx hb d_Qu_takesLetter_21 (by decide) ?_
        refine gh_retz hAe C V hr (by first | rfl | decide) hlocks d_Qu_takesLetter_22 (by first | decide | omega | (dsimp only; omega)) (by first | decide | omega | (dsimp only; omega)) ?_
        exact ⟨by simp [gh_bi, qy_let, c1, c2, c3], rfl⟩
      · have c3 : k = 16 := by rw [← gq_eq (a := k) (b := 16) (by omega) (by omega)]; exact c3
        refine lv_iconst (v := 1) hx hb d_Qu_takesLetter_17 (by decide) ?_
        refine lv_goto (tgt := 22) hx hb d_Qu_takesLetter_18 (by decide) ?_
        refine gh_retz hAe C V hr (by first | rfl | decide) hlocks d_Qu_takesLetter_22 (by first | decide | omega | (dsimp only; omega)) (by first | decide | omega | (dsimp only; omega)) ?_
        exact ⟨by simp [gh_bi, qy_let, c1, c2, c3], rfl⟩
theorem d_Qu_takesNumber_0 : decode b_Qu_takesNumber 0 = .ok (.iload_n 0, 1) := by decide +kernel
theorem d_Qu_takesNumber_1 : decode b_Qu_takesNumber 1 = .ok (.iconst 2, 1) := by decide +kernel
theorem d_Qu_takesNumber_2 : decode b_Qu_takesNumber 2 = .ok (.if_icmp .eq 8, 3) := by decide +kernel
theorem d_Qu_takesNumber_5 : decode b_Qu_takesNumber 5 = .ok (.iload_n 0, 1) := by decide +kernel
theorem d_Qu_takesNumber_6 : decode b_Qu_takesNumber 6 = .ok (.iconst 5, 1) := by decide +kernel
theorem d_Qu_takesNumber_7 : decode b_Qu_takesNumber 7 = .ok (.if_icmp .ne 7, 3) := by decide +kernel
theorem d_Qu_takesNumber_10 : decode b_Qu_takesNumber 10 = .ok (.iconst 1, 1) := by decide +kernel
theorem d_Qu_takesNumber_11 : decode b_Qu_takesNumber 11 = .ok (.goto 4, 3) := by decide +kernel
theorem d_Qu_takesNumber_14 : decode b_Qu_takesNumber 14 = .ok (.iconst 0, 1) := by decide +kernel
theorem d_Qu_takesNumber_15 : decode b_Qu_takesNumber 15 = .ok (.ireturn, 1) := by decide +kernel
set_option maxHeartbeats 4000000 in
set_option maxRecDepth 100000 in
theorem c_Qu_takesNumber (l : Launch) (E : gh_E) (sz : Nat) (f : gh_F) (k : Nat) (hk : k < 256) : gh_M l y_Qu_takesNumber b_Qu_takesNumber 1 (some .boolean) E sz [.int (nI k)] f { frames := 1, cells := 0, slots := 0, locals := 12 } (fun r g => r = some (.int (gh_bi (qy_num k))) ∧ g = f) := by
  refine gh_open (by decide) (Nat.le_of_ble_eq_true rfl) ?_
  intro p e s m args below meth c A ls hAe C V hr hlocks hname hl
  have hx := C.1
  have hb := C.2.1
  have hl : lv_has ls 1 [(0, .int (nI k))] := hl
  refine lv_iload_n hx hb d_Qu_takesNumber_0 rfl (lv_at hl 0 rfl) ?_
  refine lv_iconst (v := 2) hx hb d_Qu_takesNumber_1 (by decide) ?_
  refine lv_icmp_eq (tgt := 10) hx hb d_Qu_takesNumber_2 (by decide) (fun c1 => ?_) (fun c1 => ?_)
  · have c1 : k = 2 := by rw [← gq_eq (a := k) (b := 2) (by omega) (by omega)]; exact c1
    refine lv_iconst (v := 1) hx hb d_Qu_takesNumber_10 (by decide) ?_
    refine lv_goto (tgt := 15) hx hb d_Qu_takesNumber_11 (by decide) ?_
    refine gh_retz hAe C V hr (by first | rfl | decide) hlocks d_Qu_takesNumber_15 (by first | decide | omega | (dsimp only; omega)) (by first | decide | omega | (dsimp only; omega)) ?_
    exact ⟨by simp [gh_bi, qy_num, c1], rfl⟩
  · have c1 : ¬ k = 2 := by rw [← gq_eq (a := k) (b := 2) (by omega) (by omega)]; exact c1
    refine lv_iload_n hx hb d_Qu_takesNumber_5 rfl (lv_at hl 0 rfl) ?_
    refine lv_iconst (v := 5) hx hb d_Qu_takesNumber_6 (by decide) ?_
    refine lv_icmp_ne (tgt := 14) hx hb d_Qu_takesNumber_7 (by decide) (fun c2 => ?_) (fun c2 => ?_)
    · have c2 : ¬ k = 5 := by rw [← gq_eq (a := k) (b := 5) (by omega) (by omega)]; exact c2
      refine lv_iconst (v := 0) hx hb d_Qu_takesNumber_14 (by decide) ?_
      refine gh_retz hAe C V hr (by first | rfl | decide) hlocks d_Qu_takesNumber_15 (by first | decide | omega | (dsimp only; omega)) (by first | decide | omega | (dsimp only; omega)) ?_
      exact ⟨by simp [gh_bi, qy_num, c1, c2], rfl⟩
    · have c2 : k = 5 := by rw [← gq_eq (a := k) (b := 5) (by omega) (by omega)]; exact c2
      refine lv_iconst (v := 1) hx hb d_Qu_takesNumber_10 (by decide) ?_
      refine lv_goto (tgt := 15) hx hb d_Qu_takesNumber_11 (by decide) ?_
      refine gh_retz hAe C V hr (by first | rfl | decide) hlocks d_Qu_takesNumber_15 (by first | decide | omega | (dsimp only; omega)) (by first | decide | omega | (dsimp only; omega)) ?_
      exact ⟨by simp [gh_bi, qy_num, c1, c2], rfl⟩
theorem d_Qu_append_0 : decode b_Qu_append 0 = .ok (.aload_n 0, 1) := by decide +kernel
theorem d_Qu_append_1 : decode b_Qu_append 1 = .ok (.getfield 16, 3) := by decide +kernel
theorem d_Qu_append_4 : decode b_Qu_append 4 = .ok (.bipush 60, 2) := by decide +kernel
theorem d_Qu_append_6 : decode b_Qu_append 6 = .ok (.if_icmp .ge 23, 3) := by decide +kernel
theorem d_Qu_append_9 : decode b_Qu_append 9 = .ok (.aload_n 0, 1) := by decide +kernel
theorem d_Qu_append_10 : decode b_Qu_append 10 = .ok (.getfield 9, 3) := by decide +kernel
theorem d_Qu_append_13 : decode b_Qu_append 13 = .ok (.aload_n 0, 1) := by decide +kernel
theorem d_Qu_append_14 : decode b_Qu_append 14 = .ok (.getfield 16, 3) := by decide +kernel
theorem d_Qu_append_17 : decode b_Qu_append 17 = .ok (.iload_n 1, 1) := by decide +kernel
theorem d_Qu_append_18 : decode b_Qu_append 18 = .ok (.iastore, 1) := by decide +kernel
theorem d_Qu_append_19 : decode b_Qu_append 19 = .ok (.aload_n 0, 1) := by decide +kernel
theorem d_Qu_append_20 : decode b_Qu_append 20 = .ok (.dup, 1) := by decide +kernel
theorem d_Qu_append_21 : decode b_Qu_append 21 = .ok (.getfield 16, 3) := by decide +kernel
theorem d_Qu_append_24 : decode b_Qu_append 24 = .ok (.iconst 1, 1) := by decide +kernel
theorem d_Qu_append_25 : decode b_Qu_append 25 = .ok (.iadd, 1) := by decide +kernel
theorem d_Qu_append_26 : decode b_Qu_append 26 = .ok (.putfield 16, 3) := by decide +kernel
theorem d_Qu_append_29 : decode b_Qu_append 29 = .ok (.return_, 1) := by decide +kernel
set_option maxHeartbeats 4000000 in
set_option maxRecDepth 100000 in
theorem c_Qu_append (l : Launch) (E : gh_E) (sz : Nat) (f : gh_F) (a cd bg n k : Nat) (cb : Nat → Nat) (hn : n ≤ 60) (ha : f a = some (.inr (2, [.ref cd, .ref bg, .int (nI n)]))) (hcd : f cd = some (.inl (E.2.2.1 0, 60, .inl (fun j => nI (cb j))))) : gh_M l y_Qu_append b_Qu_append 2 none E sz [.ref a, .int (nI k)] f { frames := 1, cells := 0, slots := 0, locals := 12 } (fun r g => r = none ∧ (n < 60 → g a = some (.inr (2, [.ref cd, .ref bg, .int (nI (n + 1))])) ∧ g cd = some (.inl (E.2.2.1 0, 60, .inl (fun j => nI (va_up cb n k j)))) ∧ gh_fr f g (fun b => b ∈ ([a, cd] : List Nat))) ∧ (60 ≤ n → g = f)) := by
  refine gh_open (by decide) (Nat.le_of_ble_eq_true rfl) ?_
  intro p e s m args below meth c A ls hAe C V hr hlocks hname hl
  have hx := C.1
  have hb := C.2.1
  have hl : lv_has ls 2 [(0, .ref a), (1, .int (nI k))] := hl
  have hfr : gh_fr f f (fun b => b ∈ ([a, cd] : List Nat)) := gh_fr.rf
  refine lv_aload_n hx hb d_Qu_append_0 rfl (lv_at hl 0 rfl) ?_
  refine gh_get C V ha gc_Qu gi_Qu 2 (by decide) f_Qu_16 rfl rfl d_Qu_append_1 ?_
  refine lv_bipush (v := 60) hx hb d_Qu_append_4 (by decide) ?_
  refine lv_icmp_ge (tgt := 29) hx hb d_Qu_append_6 (by decide) (fun c1 => ?_) (fun c1 => ?_)
  · have c1 : 60 ≤ n := by rw [← gq_le (a := 60) (b := n) (by omega) (by omega)]; exact c1
    refine gh_retv hAe C V hr hlocks d_Qu_append_29 (by first | decide | omega | (dsimp only; omega)) (by first | decide | omega | (dsimp only; omega)) ?_
    exact ⟨rfl, fun h => absurd h (by omega), fun _ => rfl⟩
  · have c1 : ¬ 60 ≤ n := by rw [← gq_le (a := 60) (b := n) (by omega) (by omega)]; exact c1
    refine lv_aload_n hx hb d_Qu_append_9 rfl (lv_at hl 0 rfl) ?_
    refine gh_get C V ha gc_Qu gi_Qu 0 (by decide) f_Qu_9 rfl rfl d_Qu_append_10 ?_
    refine lv_aload_n hx hb d_Qu_append_13 rfl (lv_at hl 0 rfl) ?_
    refine gh_get C V ha gc_Qu gi_Qu 2 (by decide) f_Qu_16 rfl rfl d_Qu_append_14 ?_
    refine lv_iload_n hx hb d_Qu_append_17 rfl (lv_at hl 1 rfl) ?_
    refine gn_iast C V hcd (by omega) (by decide) d_Qu_append_18 (fun H locs V => ?_)
    rw [upd_nI] at V
    obtain ⟨f2, hff2⟩ : ∃ z9 : gh_F, z9 = gh_u f cd (.inl (E.2.2.1 0, 60, .inl (fun j => nI (va_up cb n k j)))) := ⟨_, rfl⟩
    have V : gh_V E A f2 s H locs := by rw [hff2]; exact V
    have hfr : gh_fr f f2 (fun b => b ∈ ([a, cd] : List Nat)) := by rw [hff2]; exact hfr.put (Or.inl (by simp))
    have h_a_f2 : f2 a = some (.inr (2, [.ref cd, .ref bg, .int (nI n)])) := by rw [hff2, gh_un (gh_nek ha hcd (show (2 : Nat) ≠ 100 by decide))]; exact ha
    have h_cd_f2 : f2 cd = some (.inl (E.2.2.1 0, 60, .inl (fun j => nI (va_up cb n k j)))) := by rw [hff2, gh_us]
    refine lv_aload_n hx hb d_Qu_append_19 rfl (lv_at hl 0 rfl) ?_
    refine lv_dup hx hb d_Qu_append_20 rfl ?_
    refine gh_get C V h_a_f2 gc_Qu gi_Qu 2 (by decide) f_Qu_16 rfl rfl d_Qu_append_21 ?_
    refine lv_iconst (v := 1) hx hb d_Qu_append_24 (by decide) ?_
    refine gn_iadd (a := n) (b := 1) hx hb d_Qu_append_25 ?_
    refine gh_put C V h_a_f2 gc_Qu gi_Qu ty_Qu nm_Qu 2 (by decide) f_Qu_16 rfl (by first | rfl | decide) (by first | rfl | decide) (Nat.le_of_ble_eq_true rfl) d_Qu_append_26 (fun H locs V => ?_)
    obtain ⟨f3, hff3⟩ : ∃ z9 : gh_F, z9 = gh_u f2 a (.inr (2, [.ref cd, .ref bg, .int (nI (n + 1))])) := ⟨_, rfl⟩
    have V : gh_V E A f3 s H locs := by rw [hff3]; exact V
    have hfr : gh_fr f f3 (fun b => b ∈ ([a, cd] : List Nat)) := by rw [hff3]; exact hfr.put (Or.inl (by simp))
    have h_cd_f3 : f3 cd = some (.inl (E.2.2.1 0, 60, .inl (fun j => nI (va_up cb n k j)))) := by rw [hff3, gh_un (gh_nek h_cd_f2 h_a_f2 (show (100 : Nat) ≠ 2 by decide))]; exact h_cd_f2
    have h_a_f3 : f3 a = some (.inr (2, [.ref cd, .ref bg, .int (nI (n + 1))])) := by rw [hff3, gh_us]
    refine gh_retv hAe C V hr hlocks d_Qu_append_29 (by first | decide | omega | (dsimp only; omega)) (by first | decide | omega | (dsimp only; omega)) ?_
    exact ⟨rfl, fun _ => ⟨h_a_f3, h_cd_f3, hfr⟩, fun h => absurd h (by omega)⟩
theorem d_Qu_hasItsByte_0 : decode b_Qu_hasItsByte 0 = .ok (.aload_n 0, 1) := by decide +kernel
theorem d_Qu_hasItsByte_1 : decode b_Qu_hasItsByte 1 = .ok (.getfield 9, 3) := by decide +kernel
theorem d_Qu_hasItsByte_4 : decode b_Qu_hasItsByte 4 = .ok (.iload_n 1, 1) := by decide +kernel
theorem d_Qu_hasItsByte_5 : decode b_Qu_hasItsByte 5 = .ok (.iaload, 1) := by decide +kernel
theorem d_Qu_hasItsByte_6 : decode b_Qu_hasItsByte 6 = .ok (.invokestatic 31, 3) := by decide +kernel
theorem d_Qu_hasItsByte_9 : decode b_Qu_hasItsByte 9 = .ok (.ifCond .eq 45, 3) := by decide +kernel
theorem d_Qu_hasItsByte_12 : decode b_Qu_hasItsByte 12 = .ok (.iload_n 1, 1) := by decide +kernel
theorem d_Qu_hasItsByte_13 : decode b_Qu_hasItsByte 13 = .ok (.iconst 1, 1) := by decide +kernel
theorem d_Qu_hasItsByte_14 : decode b_Qu_hasItsByte 14 = .ok (.iadd, 1) := by decide +kernel
theorem d_Qu_hasItsByte_15 : decode b_Qu_hasItsByte 15 = .ok (.aload_n 0, 1) := by decide +kernel
theorem d_Qu_hasItsByte_16 : decode b_Qu_hasItsByte 16 = .ok (.getfield 16, 3) := by decide +kernel
theorem d_Qu_hasItsByte_19 : decode b_Qu_hasItsByte 19 = .ok (.if_icmp .ge 33, 3) := by decide +kernel
theorem d_Qu_hasItsByte_22 : decode b_Qu_hasItsByte 22 = .ok (.aload_n 0, 1) := by decide +kernel
theorem d_Qu_hasItsByte_23 : decode b_Qu_hasItsByte 23 = .ok (.getfield 9, 3) := by decide +kernel
theorem d_Qu_hasItsByte_26 : decode b_Qu_hasItsByte 26 = .ok (.iload_n 1, 1) := by decide +kernel
theorem d_Qu_hasItsByte_27 : decode b_Qu_hasItsByte 27 = .ok (.iconst 1, 1) := by decide +kernel
theorem d_Qu_hasItsByte_28 : decode b_Qu_hasItsByte 28 = .ok (.iadd, 1) := by decide +kernel
theorem d_Qu_hasItsByte_29 : decode b_Qu_hasItsByte 29 = .ok (.iaload, 1) := by decide +kernel
theorem d_Qu_hasItsByte_30 : decode b_Qu_hasItsByte 30 = .ok (.bipush 97, 2) := by decide +kernel
theorem d_Qu_hasItsByte_32 : decode b_Qu_hasItsByte 32 = .ok (.if_icmp .lt 20, 3) := by decide +kernel
theorem d_Qu_hasItsByte_35 : decode b_Qu_hasItsByte 35 = .ok (.aload_n 0, 1) := by decide +kernel
theorem d_Qu_hasItsByte_36 : decode b_Qu_hasItsByte 36 = .ok (.getfield 9, 3) := by decide +kernel
theorem d_Qu_hasItsByte_39 : decode b_Qu_hasItsByte 39 = .ok (.iload_n 1, 1) := by decide +kernel
theorem d_Qu_hasItsByte_40 : decode b_Qu_hasItsByte 40 = .ok (.iconst 1, 1) := by decide +kernel
theorem d_Qu_hasItsByte_41 : decode b_Qu_hasItsByte 41 = .ok (.iadd, 1) := by decide +kernel
theorem d_Qu_hasItsByte_42 : decode b_Qu_hasItsByte 42 = .ok (.iaload, 1) := by decide +kernel
theorem d_Qu_hasItsByte_43 : decode b_Qu_hasItsByte 43 = .ok (.bipush 122, 2) := by decide +kernel
theorem d_Qu_hasItsByte_45 : decode b_Qu_hasItsByte 45 = .ok (.if_icmp .gt 7, 3) := by decide +kernel
theorem d_Qu_hasItsByte_48 : decode b_Qu_hasItsByte 48 = .ok (.iconst 1, 1) := by decide +kernel
theorem d_Qu_hasItsByte_49 : decode b_Qu_hasItsByte 49 = .ok (.goto 4, 3) := by decide +kernel
theorem d_Qu_hasItsByte_52 : decode b_Qu_hasItsByte 52 = .ok (.iconst 0, 1) := by decide +kernel
theorem d_Qu_hasItsByte_53 : decode b_Qu_hasItsByte 53 = .ok (.ireturn, 1) := by decide +kernel
theorem d_Qu_hasItsByte_54 : decode b_Qu_hasItsByte 54 = .ok (.aload_n 0, 1) := by decide +kernel
theorem d_Qu_hasItsByte_55 : decode b_Qu_hasItsByte 55 = .ok (.getfield 9, 3) := by decide +kernel
theorem d_Qu_hasItsByte_58 : decode b_Qu_hasItsByte 58 = .ok (.iload_n 1, 1) := by decide +kernel
theorem d_Qu_hasItsByte_59 : decode b_Qu_hasItsByte 59 = .ok (.iaload, 1) := by decide +kernel
theorem d_Qu_hasItsByte_60 : decode b_Qu_hasItsByte 60 = .ok (.invokestatic 34, 3) := by decide +kernel
theorem d_Qu_hasItsByte_63 : decode b_Qu_hasItsByte 63 = .ok (.ifCond .eq 13, 3) := by decide +kernel
theorem d_Qu_hasItsByte_66 : decode b_Qu_hasItsByte 66 = .ok (.iload_n 1, 1) := by decide +kernel
theorem d_Qu_hasItsByte_67 : decode b_Qu_hasItsByte 67 = .ok (.iconst 1, 1) := by decide +kernel
theorem d_Qu_hasItsByte_68 : decode b_Qu_hasItsByte 68 = .ok (.iadd, 1) := by decide +kernel
theorem d_Qu_hasItsByte_69 : decode b_Qu_hasItsByte 69 = .ok (.aload_n 0, 1) := by decide +kernel
theorem d_Qu_hasItsByte_70 : decode b_Qu_hasItsByte 70 = .ok (.getfield 16, 3) := by decide +kernel
theorem d_Qu_hasItsByte_73 : decode b_Qu_hasItsByte 73 = .ok (.if_icmp .ge 7, 3) := by decide +kernel
theorem d_Qu_hasItsByte_76 : decode b_Qu_hasItsByte 76 = .ok (.iconst 1, 1) := by decide +kernel
theorem d_Qu_hasItsByte_77 : decode b_Qu_hasItsByte 77 = .ok (.goto 4, 3) := by decide +kernel
theorem d_Qu_hasItsByte_80 : decode b_Qu_hasItsByte 80 = .ok (.iconst 0, 1) := by decide +kernel
theorem d_Qu_hasItsByte_81 : decode b_Qu_hasItsByte 81 = .ok (.ireturn, 1) := by decide +kernel
set_option maxHeartbeats 4000000 in
set_option maxRecDepth 100000 in
theorem c_Qu_hasItsByte (l : Launch) (E : gh_E) (sz : Nat) (f : gh_F) (a cd bg n i : Nat) (cb : Nat → Nat) (hn : n ≤ 60) (hi : i < n) (hcb : ∀ j, cb j < 256) (ha : f a = some (.inr (2, [.ref cd, .ref bg, .int (nI n)]))) (hcd : f cd = some (.inl (E.2.2.1 0, 60, .inl (fun j => nI (cb j))))) : gh_M l y_Qu_hasItsByte b_Qu_hasItsByte 2 (some .boolean) E sz [.ref a, .int (nI i)] f { frames := 2, cells := 0, slots := 0, locals := 40 } (fun r g => r = some (.int (gh_bi (qy_has cb n i))) ∧ g = f) := by
  refine gh_open (by decide) (Nat.le_of_ble_eq_true rfl) ?_
  intro p e s m args below meth c A ls hAe C V hr hlocks hname hl
  have hx := C.1
  have hb := C.2.1
  have hl : lv_has ls 2 [(0, .ref a), (1, .int (nI i))] := hl
  refine lv_aload_n hx hb d_Qu_hasItsByte_0 rfl (lv_at hl 0 rfl) ?_
  refine gh_get C V ha gc_Qu gi_Qu 0 (by decide) f_Qu_9 rfl rfl d_Qu_hasItsByte_1 ?_
  refine lv_iload_n hx hb d_Qu_hasItsByte_4 rfl (lv_at hl 1 rfl) ?_
  refine gn_iald (i := i) C V hcd (by omega) (by decide) d_Qu_hasItsByte_5 ?_
  have hcb5 := hcb i
  refine gh_callS C V hl.1 m_Qu_takesLetter l_Qu_31 (c_Qu_takesLetter l E _ f (cb i) (hcb _)) rfl ⟨by first | decide | omega | (dsimp only; omega), by first | decide | omega | (dsimp only; omega)⟩ ⟨by first | decide | omega | (dsimp only; omega), by first | decide | omega | (dsimp only; omega)⟩ (Nat.le_of_ble_eq_true rfl) rfl d_Qu_hasItsByte_6 (fun r z9 H locs hp V => ?_)
  obtain ⟨rfl, he9⟩ := hp
  rw [he9] at V
  refine W.eq (g2 := F0 m 9 ls [.int (gh_bi (qy_let (cb i)))]) rfl ?_
  refine lv_if_eq (tgt := 54) hx hb d_Qu_hasItsByte_9 (by decide) (fun c1 => ?_) (fun c1 => ?_)
  · have c1 : (qy_let (cb i)) = false := gh_bi_0 c1
    refine lv_aload_n hx hb d_Qu_hasItsByte_54 rfl (lv_at hl 0 rfl) ?_
    refine gh_get C V ha gc_Qu gi_Qu 0 (by decide) f_Qu_9 rfl rfl d_Qu_hasItsByte_55 ?_
    refine lv_iload_n hx hb d_Qu_hasItsByte_58 rfl (lv_at hl 1 rfl) ?_
    refine gn_iald (i := i) C V hcd (by omega) (by decide) d_Qu_hasItsByte_59 ?_
    have hcb59 := hcb i
    refine gh_callS C V hl.1 m_Qu_takesNumber l_Qu_34 (c_Qu_takesNumber l E _ f (cb i) (hcb _)) rfl ⟨by first | decide | omega | (dsimp only; omega), by first | decide | omega | (dsimp only; omega)⟩ ⟨by first | decide | omega | (dsimp only; omega), by first | decide | omega | (dsimp only; omega)⟩ (Nat.le_of_ble_eq_true rfl) rfl d_Qu_hasItsByte_60 (fun r z9 H locs hp V => ?_)
    obtain ⟨rfl, he9⟩ := hp
    rw [he9] at V
    refine W.eq (g2 := F0 m 63 ls [.int (gh_bi (qy_num (cb i)))]) rfl ?_
    refine lv_if_eq (tgt := 76) hx hb d_Qu_hasItsByte_63 (by decide) (fun c2 => ?_) (fun c2 => ?_)
    · have c2 : (qy_num (cb i)) = false := gh_bi_0 c2
      refine lv_iconst (v := 1) hx hb d_Qu_hasItsByte_76 (by decide) ?_
      refine lv_goto (tgt := 81) hx hb d_Qu_hasItsByte_77 (by decide) ?_
      refine gh_retz hAe C V hr (by first | rfl | decide) hlocks d_Qu_hasItsByte_81 (by first | decide | omega | (dsimp only; omega)) (by first | decide | omega | (dsimp only; omega)) ?_
      exact ⟨by simp [gh_bi, qy_has, c1, c2] <;> omega, rfl⟩
    · have c2 : (qy_num (cb i)) = true := gh_bi_1 c2
      refine lv_iload_n hx hb d_Qu_hasItsByte_66 rfl (lv_at hl 1 rfl) ?_
      refine lv_iconst (v := 1) hx hb d_Qu_hasItsByte_67 (by decide) ?_
      refine gn_iadd (a := i) (b := 1) hx hb d_Qu_hasItsByte_68 ?_
      refine lv_aload_n hx hb d_Qu_hasItsByte_69 rfl (lv_at hl 0 rfl) ?_
      refine gh_get C V ha gc_Qu gi_Qu 2 (by decide) f_Qu_16 rfl rfl d_Qu_hasItsByte_70 ?_
      refine lv_icmp_ge (tgt := 80) hx hb d_Qu_hasItsByte_73 (by decide) (fun c3 => ?_) (fun c3 => ?_)
      · have c3 : n ≤ (i + 1) := by rw [← gq_le (a := n) (b := i + 1) (by omega) (by omega)]; exact c3
        refine lv_iconst (v := 0) hx hb d_Qu_hasItsByte_80 (by decide) ?_
        refine gh_retz hAe C V hr (by first | rfl | decide) hlocks d_Qu_hasItsByte_81 (by first | decide | omega | (dsimp only; omega)) (by first | decide | omega | (dsimp only; omega)) ?_
        exact ⟨by simp [gh_bi, qy_has, c1, c2, c3] <;> omega, rfl⟩
      · have c3 : ¬ n ≤ (i + 1) := by rw [← gq_le (a := n) (b := i + 1) (by omega) (by omega)]; exact c3
        refine lv_iconst (v := 1) hx hb d_Qu_hasItsByte_76 (by decide) ?_
        refine lv_goto (tgt := 81) hx hb d_Qu_hasItsByte_77 (by decide) ?_
        refine gh_retz hAe C V hr (by first | rfl | decide) hlocks d_Qu_hasItsByte_81 (by first | decide | omega | (dsimp only; omega)) (by first | decide | omega | (dsimp only; omega)) ?_
        exact ⟨by simp [gh_bi, qy_has, c1, c2, c3] <;> omega, rfl⟩
  · have c1 : (qy_let (cb i)) = true := gh_bi_1 c1
    refine lv_iload_n hx hb d_Qu_hasItsByte_12 rfl (lv_at hl 1 rfl) ?_
    refine lv_iconst (v := 1) hx hb d_Qu_hasItsByte_13 (by decide) ?_
    refine gn_iadd (a := i) (b := 1) hx hb d_Qu_hasItsByte_14 ?_
    refine lv_aload_n hx hb d_Qu_hasItsByte_15 rfl (lv_at hl 0 rfl) ?_
    refine gh_get C V ha gc_Qu gi_Qu 2 (by decide) f_Qu_16 rfl rfl d_Qu_hasItsByte_16 ?_
    refine lv_icmp_ge (tgt := 52) hx hb d_Qu_hasItsByte_19 (by decide) (fun c4 => ?_) (fun c4 => ?_)
    · have c4 : n ≤ (i + 1) := by rw [← gq_le (a := n) (b := i + 1) (by omega) (by omega)]; exact c4
      refine lv_iconst (v := 0) hx hb d_Qu_hasItsByte_52 (by decide) ?_
      refine gh_retz hAe C V hr (by first | rfl | decide) hlocks d_Qu_hasItsByte_53 (by first | decide | omega | (dsimp only; omega)) (by first | decide | omega | (dsimp only; omega)) ?_
      exact ⟨by simp [gh_bi, qy_has, c1, c4] <;> omega, rfl⟩
    · have c4 : ¬ n ≤ (i + 1) := by rw [← gq_le (a := n) (b := i + 1) (by omega) (by omega)]; exact c4
      refine lv_aload_n hx hb d_Qu_hasItsByte_22 rfl (lv_at hl 0 rfl) ?_
      refine gh_get C V ha gc_Qu gi_Qu 0 (by decide) f_Qu_9 rfl rfl d_Qu_hasItsByte_23 ?_
      refine lv_iload_n hx hb d_Qu_hasItsByte_26 rfl (lv_at hl 1 rfl) ?_
      refine lv_iconst (v := 1) hx hb d_Qu_hasItsByte_27 (by decide) ?_
      refine gn_iadd (a := i) (b := 1) hx hb d_Qu_hasItsByte_28 ?_
      refine gn_iald (i := i + 1) C V hcd (by omega) (by decide) d_Qu_hasItsByte_29 ?_
      have hcb29 := hcb (i + 1)
      refine lv_bipush (v := 97) hx hb d_Qu_hasItsByte_30 (by decide) ?_
      refine lv_icmp_lt (tgt := 52) hx hb d_Qu_hasItsByte_32 (by decide) (fun c5 => ?_) (fun c5 => ?_)
      · have c5 : (cb (i + 1)) < 97 := by rw [← gq_lt (a := cb (i + 1)) (b := 97) (by omega) (by omega)]; exact c5
        refine lv_iconst (v := 0) hx hb d_Qu_hasItsByte_52 (by decide) ?_
        refine gh_retz hAe C V hr (by first | rfl | decide) hlocks d_Qu_hasItsByte_53 (by first | decide | omega | (dsimp only; omega)) (by first | decide | omega | (dsimp only; omega)) ?_
        exact ⟨by simp [gh_bi, qy_has, c1, c4, c5] <;> omega, rfl⟩
      · have c5 : ¬ (cb (i + 1)) < 97 := by rw [← gq_lt (a := cb (i + 1)) (b := 97) (by omega) (by omega)]; exact c5
        refine lv_aload_n hx hb d_Qu_hasItsByte_35 rfl (lv_at hl 0 rfl) ?_
        refine gh_get C V ha gc_Qu gi_Qu 0 (by decide) f_Qu_9 rfl rfl d_Qu_hasItsByte_36 ?_
        refine lv_iload_n hx hb d_Qu_hasItsByte_39 rfl (lv_at hl 1 rfl) ?_
        refine lv_iconst (v := 1) hx hb d_Qu_hasItsByte_40 (by decide) ?_
        refine gn_iadd (a := i) (b := 1) hx hb d_Qu_hasItsByte_41 ?_
        refine gn_iald (i := i + 1) C V hcd (by omega) (by decide) d_Qu_hasItsByte_42 ?_
        have hcb42 := hcb (i + 1)
        refine lv_bipush (v := 122) hx hb d_Qu_hasItsByte_43 (by decide) ?_
        refine lv_icmp_gt (tgt := 52) hx hb d_Qu_hasItsByte_45 (by decide) (fun c6 => ?_) (fun c6 => ?_)
        · have c6 : 122 < (cb (i + 1)) := by rw [← gq_lt (a := 122) (b := cb (i + 1)) (by omega) (by omega)]; exact c6
          refine lv_iconst (v := 0) hx hb d_Qu_hasItsByte_52 (by decide) ?_
          refine gh_retz hAe C V hr (by first | rfl | decide) hlocks d_Qu_hasItsByte_53 (by first | decide | omega | (dsimp only; omega)) (by first | decide | omega | (dsimp only; omega)) ?_
          exact ⟨by simp [gh_bi, qy_has, c1, c4, c5, c6] <;> omega, rfl⟩
        · have c6 : ¬ 122 < (cb (i + 1)) := by rw [← gq_lt (a := 122) (b := cb (i + 1)) (by omega) (by omega)]; exact c6
          refine lv_iconst (v := 1) hx hb d_Qu_hasItsByte_48 (by decide) ?_
          refine lv_goto (tgt := 53) hx hb d_Qu_hasItsByte_49 (by decide) ?_
          refine gh_retz hAe C V hr (by first | rfl | decide) hlocks d_Qu_hasItsByte_53 (by first | decide | omega | (dsimp only; omega)) (by first | decide | omega | (dsimp only; omega)) ?_
          exact ⟨by simp [gh_bi, qy_has, c1, c4, c5, c6] <;> omega, rfl⟩
