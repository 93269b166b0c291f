/-! blanks, isDigit, word of the model. Printed by wip/whole/gen_mo34.py. -/
theorem d_Mo_blanks_0 : decode b_Mo_blanks 0 = .ok (.aload_n 0, 1) := by decide +kernel
theorem d_Mo_blanks_1 : decode b_Mo_blanks 1 = .ok (.invokevirtual 185, 3) := by decide +kernel
theorem d_Mo_blanks_4 : decode b_Mo_blanks 4 = .ok (.bipush 32, 2) := by decide +kernel
theorem d_Mo_blanks_6 : decode b_Mo_blanks 6 = .ok (.if_icmp .ne 16, 3) := by decide +kernel
theorem d_Mo_blanks_9 : decode b_Mo_blanks 9 = .ok (.aload_n 0, 1) := by decide +kernel
theorem d_Mo_blanks_10 : decode b_Mo_blanks 10 = .ok (.dup, 1) := by decide +kernel
theorem d_Mo_blanks_11 : decode b_Mo_blanks 11 = .ok (.getfield 179, 3) := by decide +kernel
theorem d_Mo_blanks_14 : decode b_Mo_blanks 14 = .ok (.iconst 1, 1) := by decide +kernel
theorem d_Mo_blanks_15 : decode b_Mo_blanks 15 = .ok (.iadd, 1) := by decide +kernel
theorem d_Mo_blanks_16 : decode b_Mo_blanks 16 = .ok (.putfield 179, 3) := by decide +kernel
theorem d_Mo_blanks_19 : decode b_Mo_blanks 19 = .ok (.goto (-19), 3) := by decide +kernel
theorem d_Mo_blanks_22 : decode b_Mo_blanks 22 = .ok (.return_, 1) := by decide +kernel
set_option maxHeartbeats 4000000 in
set_option maxRecDepth 100000 in
theorem c_Mo_blanks (l : Launch) (E : gh_E) (sz : Nat) (f : gh_F) (a : Nat) (ad : Nat → Nat) (S : Nat → Int32) (I : Nat → Nat → Int32) (J : Nat → Nat → Int64) (tx : Nat → Nat) (n pl : Nat) (hX : mo_R E f a ad S I J) (hT : rT tx n S I) (h21 : S 21 = nI pl) (hp : pl ≤ n) : gh_M l y_Mo_blanks b_Mo_blanks 1 none E sz [.ref a] f { frames := 5, cells := 0, slots := 0, locals := 100 } (fun r g => r = none ∧ ∃ S2, mo_X E f g a ad S2 I J ∧ S2 21 = nI (rbl tx n pl) ∧ ∀ k, k ≠ 21 → S2 k = S k) := by
  have hT0 := hT
  refine gh_open (by decide) (Nat.le_of_ble_eq_true rfl) ?_
  intro p e s m args below meth c A ls hAe C V hr hlocks hname hl
  have hx := C.1
  have hb := C.2.1
  have hl : lv_has ls 1 [(0, .ref a)] := hl
  have X : mo_X E f f a ad S I J := ⟨hX, gh_fr.rf⟩
  have loop : ∀ (m9 p9 : Nat) (S1 : Nat → Int32) (f1 : gh_F) (H : Heap) (locs : List Loc) (ls : Array Slot), m9 = n - p9 → p9 ≤ n → S1 21 = nI p9 → (∀ k, k ≠ 21 → S1 k = S k) → rb tx n m9 p9 = rbl tx n pl → mo_X E f f1 a ad S1 I J → gh_V E A f1 s H locs → lv_has ls 1 [(0, .ref a)] → W p l e { frames := 5, cells := 0, slots := 0, locals := 100 } s m args below meth c H locs 0 0 (MQ below (gh_Q E f (fun r g => r = none ∧ ∃ S2, mo_X E f g a ad S2 I J ∧ S2 21 = nI (rbl tx n pl) ∧ ∀ k, k ≠ 21 → S2 k = S k)) args s 0 0 A) (F0 m 0 ls []) := by
    intro m9
    induction m9 with
    | zero =>
      intro p9 S1 f1 H locs ls hm hp9 h21 hS hrb X V hl
      have hT : rT tx n S1 I := hT0.keep (hS 20 (by decide)) rfl
      have hS21 := h21
      have hsg := (hT.ch p9).1
      have h32 : ¬ sg tx n p9 = 32 := fun z => by have := sg_lt (by rw [z]; decide : sg tx n p9 ≠ 0); omega
      refine lv_aload_n hx hb d_Mo_blanks_0 rfl (lv_at hl 0 rfl) ?_
      refine gh_callV C V hl.1 m_Mo_peek l_Mo_185 (c_Mo_pk l E _ _ a ad _ _ _ tx n p9 X.1 hT h21 (by omega)) rfl X.1.1 gc_Mo ⟨by first | decide | omega | (dsimp only; omega), by first | decide | omega | (dsimp only; omega)⟩ ⟨by first | decide | omega | (dsimp only; omega), by first | decide | omega | (dsimp only; omega)⟩ (Nat.le_of_ble_eq_true rfl) rfl d_Mo_blanks_1 (fun r z9 H locs hp9 V1 => ?_)
      obtain ⟨rfl, he9⟩ := hp9
      rw [he9] at V1
      have V := V1
      refine W.eq (g2 := F0 m 4 ls [.int (pek (sg tx n p9))]) rfl ?_
      refine lv_bipush (v := 32) hx hb d_Mo_blanks_4 (by decide) ?_
      refine lv_icmp_ne (tgt := 22) hx hb d_Mo_blanks_6 (by decide) (fun c1 => ?_) (fun c1 => absurd c1 (fun z => h32 ((pek_eq (k := 32) (by omega) (by omega) (by omega)).mp z)))
      refine gh_retv hAe C V hr hlocks d_Mo_blanks_22 (by first | decide | omega | (dsimp only; omega)) (by first | decide | omega | (dsimp only; omega)) ?_
      exact ⟨rfl, _, X, by rw [← hrb]; exact h21, hS⟩
    | succ m9 ih =>
      intro p9 S1 f1 H locs ls hm hp9 h21 hS hrb X V hl
      have hT : rT tx n S1 I := hT0.keep (hS 20 (by decide)) rfl
      have hS21 := h21
      have hsg := (hT.ch p9).1
      by_cases h32 : sg tx n p9 = 32
      · refine lv_aload_n hx hb d_Mo_blanks_0 rfl (lv_at hl 0 rfl) ?_
        refine gh_callV C V hl.1 m_Mo_peek l_Mo_185 (c_Mo_pk l E _ _ a ad _ _ _ tx n p9 X.1 hT h21 (by omega)) rfl X.1.1 gc_Mo ⟨by first | decide | omega | (dsimp only; omega), by first | decide | omega | (dsimp only; omega)⟩ ⟨by first | decide | omega | (dsimp only; omega), by first | decide | omega | (dsimp only; omega)⟩ (Nat.le_of_ble_eq_true rfl) rfl d_Mo_blanks_1 (fun r z9 H locs hp9 V1 => ?_)
        obtain ⟨rfl, he9⟩ := hp9
        rw [he9] at V1
        have V := V1
        refine W.eq (g2 := F0 m 4 ls [.int (pek (sg tx n p9))]) rfl ?_
        refine lv_bipush (v := 32) hx hb d_Mo_blanks_4 (by decide) ?_
        refine lv_icmp_ne (tgt := 22) hx hb d_Mo_blanks_6 (by decide) (fun c2 => absurd ((pek_eq (k := 32) (by omega) (by omega) (by omega)).mpr h32) c2) (fun c2 => ?_)
        refine lv_aload_n hx hb d_Mo_blanks_9 rfl (lv_at hl 0 rfl) ?_
        refine lv_dup hx hb d_Mo_blanks_10 rfl ?_
        refine mo_getS (v := nI p9) C V X 21 (by decide) (by decide) (by first | rfl | exact hS21) f_Mo_179 rfl d_Mo_blanks_11 ?_
        refine lv_iconst (v := 1) hx hb d_Mo_blanks_14 (by decide) ?_
        refine gn_iadd (a := p9) (b := 1) hx hb d_Mo_blanks_15 ?_
        refine mo_putS C V X 21 (by decide) (by decide) f_Mo_179 rfl rfl rfl d_Mo_blanks_16 (fun f1 H locs V1 X1 => ?_)
        clear V X
        have V := V1
        have X := X1
        clear V1 X1
        have h21 : (va_up S1 21 (nI (p9 + 1))) 21 = nI (p9 + 1) := va_up_s
        have hS21 := h21
        have hT : rT tx n (va_up S1 21 (nI (p9 + 1))) I := hT.keep (va_up_n (by decide)) rfl
        refine lv_goto (tgt := 0) hx hb d_Mo_blanks_19 (by decide) ?_
        exact ih (p9 + 1) _ _ _ _ ls (by omega) (by omega) va_up_s (fun k hk => by rw [va_up_n hk]; exact hS k hk) (by rw [← hrb]; show _ = (if sg tx n p9 = 32 then _ else _); rw [if_pos h32]) X V hl
      · refine lv_aload_n hx hb d_Mo_blanks_0 rfl (lv_at hl 0 rfl) ?_
        refine gh_callV C V hl.1 m_Mo_peek l_Mo_185 (c_Mo_pk l E _ _ a ad _ _ _ tx n p9 X.1 hT h21 (by omega)) rfl X.1.1 gc_Mo ⟨by first | decide | omega | (dsimp only; omega), by first | decide | omega | (dsimp only; omega)⟩ ⟨by first | decide | omega | (dsimp only; omega), by first | decide | omega | (dsimp only; omega)⟩ (Nat.le_of_ble_eq_true rfl) rfl d_Mo_blanks_1 (fun r z9 H locs hp9 V1 => ?_)
        obtain ⟨rfl, he9⟩ := hp9
        rw [he9] at V1
        have V := V1
        refine W.eq (g2 := F0 m 4 ls [.int (pek (sg tx n p9))]) rfl ?_
        refine lv_bipush (v := 32) hx hb d_Mo_blanks_4 (by decide) ?_
        refine lv_icmp_ne (tgt := 22) hx hb d_Mo_blanks_6 (by decide) (fun c3 => ?_) (fun c3 => absurd c3 (fun z => h32 ((pek_eq (k := 32) (by omega) (by omega) (by omega)).mp z)))
        refine gh_retv hAe C V hr hlocks d_Mo_blanks_22 (by first | decide | omega | (dsimp only; omega)) (by first | decide | omega | (dsimp only; omega)) ?_
        exact ⟨rfl, _, X, by rw [← hrb]; show _ = nI (if sg tx n p9 = 32 then _ else _); rw [if_neg h32]; exact h21, hS⟩
  exact loop (n - pl) pl S _ _ _ ls rfl hp h21 (fun _ _ => rfl) rfl X V hl
theorem d_Mo_isDigit_0 : decode b_Mo_isDigit 0 = .ok (.aload_n 0, 1) := by decide +kernel
theorem d_Mo_isDigit_1 : decode b_Mo_isDigit 1 = .ok (.invokevirtual 185, 3) := by decide +kernel
theorem d_Mo_isDigit_4 : decode b_Mo_isDigit 4 = .ok (.bipush 48, 2) := by decide +kernel
theorem d_Mo_isDigit_6 : decode b_Mo_isDigit 6 = .ok (.if_icmp .lt 16, 3) := by decide +kernel
theorem d_Mo_isDigit_9 : decode b_Mo_isDigit 9 = .ok (.aload_n 0, 1) := by decide +kernel
theorem d_Mo_isDigit_10 : decode b_Mo_isDigit 10 = .ok (.invokevirtual 185, 3) := by decide +kernel
theorem d_Mo_isDigit_13 : decode b_Mo_isDigit 13 = .ok (.bipush 57, 2) := by decide +kernel
theorem d_Mo_isDigit_15 : decode b_Mo_isDigit 15 = .ok (.if_icmp .gt 7, 3) := by decide +kernel
theorem d_Mo_isDigit_18 : decode b_Mo_isDigit 18 = .ok (.iconst 1, 1) := by decide +kernel
theorem d_Mo_isDigit_19 : decode b_Mo_isDigit 19 = .ok (.goto 4, 3) := by decide +kernel
theorem d_Mo_isDigit_22 : decode b_Mo_isDigit 22 = .ok (.iconst 0, 1) := by decide +kernel
theorem d_Mo_isDigit_23 : decode b_Mo_isDigit 23 = .ok (.ireturn, 1) := by decide +kernel
set_option maxHeartbeats 4000000 in
set_option maxRecDepth 100000 in
theorem c_Mo_isDigit (l : Launch) (E : gh_E) (sz : Nat) (f : gh_F) (a : Nat) (ad : Nat → Nat) (S : Nat → Int32) (I : Nat → Nat → Int32) (J : Nat → Nat → Int64) (tx : Nat → Nat) (n pl : Nat) (hX : mo_R E f a ad S I J) (hT : rT tx n S I) (h21 : S 21 = nI pl) (hp : pl ≤ n) : gh_M l y_Mo_isDigit b_Mo_isDigit 1 (some .boolean) E sz [.ref a] f { frames := 5, cells := 0, slots := 0, locals := 100 } (fun r g => r = some (.int (gh_bi (decide (48 ≤ sg tx n pl ∧ sg tx n pl ≤ 57)))) ∧ g = f) := by
  have hsg := (hT.ch pl).1
  refine gh_open (by decide) (Nat.le_of_ble_eq_true rfl) ?_
  intro p e s m args below meth c A ls hAe C V hr hlocks hname hl
  have hx := C.1
  have hb := C.2.1
  have hl : lv_has ls 1 [(0, .ref a)] := hl
  have X : mo_X E f f a ad S I J := ⟨hX, gh_fr.rf⟩
  by_cases hlo : sg tx n pl < 48
  · refine lv_aload_n hx hb d_Mo_isDigit_0 rfl (lv_at hl 0 rfl) ?_
    refine gh_callV C V hl.1 m_Mo_peek l_Mo_185 (c_Mo_pk l E _ _ a ad _ _ _ tx n pl X.1 hT h21 (by omega)) rfl X.1.1 gc_Mo ⟨by first | decide | omega | (dsimp only; omega), by first | decide | omega | (dsimp only; omega)⟩ ⟨by first | decide | omega | (dsimp only; omega), by first | decide | omega | (dsimp only; omega)⟩ (Nat.le_of_ble_eq_true rfl) rfl d_Mo_isDigit_1 (fun r z9 H locs hp9 V1 => ?_)
    obtain ⟨rfl, he9⟩ := hp9
    rw [he9] at V1
    have V := V1
    refine W.eq (g2 := F0 m 4 ls [.int (pek (sg tx n pl))]) rfl ?_
    refine lv_bipush (v := 48) hx hb d_Mo_isDigit_4 (by decide) ?_
    refine lv_icmp_lt (tgt := 22) hx hb d_Mo_isDigit_6 (by decide) (fun c1 => ?_) (fun c1 => absurd ((pek_lt (k := 48) (by omega) (by decide) (by decide)).mpr hlo) c1)
    refine lv_iconst (v := 0) hx hb d_Mo_isDigit_22 (by decide) ?_
    refine gh_retz hAe C V hr (by first | rfl | decide) hlocks d_Mo_isDigit_23 (by first | decide | omega | (dsimp only; omega)) (by first | decide | omega | (dsimp only; omega)) ?_
    exact ⟨by rw [decide_eq_false (by omega)]; rfl, rfl⟩
  · by_cases hhi : sg tx n pl ≤ 57
    · refine lv_aload_n hx hb d_Mo_isDigit_0 rfl (lv_at hl 0 rfl) ?_
      refine gh_callV C V hl.1 m_Mo_peek l_Mo_185 (c_Mo_pk l E _ _ a ad _ _ _ tx n pl X.1 hT h21 (by omega)) rfl X.1.1 gc_Mo ⟨by first | decide | omega | (dsimp only; omega), by first | decide | omega | (dsimp only; omega)⟩ ⟨by first | decide | omega | (dsimp only; omega), by first | decide | omega | (dsimp only; omega)⟩ (Nat.le_of_ble_eq_true rfl) rfl d_Mo_isDigit_1 (fun r z9 H locs hp9 V1 => ?_)
      obtain ⟨rfl, he9⟩ := hp9
      rw [he9] at V1
      have V := V1
      refine W.eq (g2 := F0 m 4 ls [.int (pek (sg tx n pl))]) rfl ?_
      refine lv_bipush (v := 48) hx hb d_Mo_isDigit_4 (by decide) ?_
      refine lv_icmp_lt (tgt := 22) hx hb d_Mo_isDigit_6 (by decide) (fun c2 => absurd c2 (fun z => hlo ((pek_lt (k := 48) (by omega) (by decide) (by decide)).mp z))) (fun c2 => ?_)
      refine lv_aload_n hx hb d_Mo_isDigit_9 rfl (lv_at hl 0 rfl) ?_
      refine gh_callV C V hl.1 m_Mo_peek l_Mo_185 (c_Mo_pk l E _ _ a ad _ _ _ tx n pl X.1 hT h21 (by omega)) rfl X.1.1 gc_Mo ⟨by first | decide | omega | (dsimp only; omega), by first | decide | omega | (dsimp only; omega)⟩ ⟨by first | decide | omega | (dsimp only; omega), by first | decide | omega | (dsimp only; omega)⟩ (Nat.le_of_ble_eq_true rfl) rfl d_Mo_isDigit_10 (fun r z9 H locs hp9 V1 => ?_)
      obtain ⟨rfl, he9⟩ := hp9
      rw [he9] at V1
      have V := V1
      refine W.eq (g2 := F0 m 13 ls [.int (pek (sg tx n pl))]) rfl ?_
      refine lv_bipush (v := 57) hx hb d_Mo_isDigit_13 (by decide) ?_
      refine lv_icmp_gt (tgt := 22) hx hb d_Mo_isDigit_15 (by decide) (fun c3 => absurd c3 (fun z => absurd ((pek_le (k := 57) (by omega) (by decide) (by decide)).mp z) (by omega))) (fun c3 => ?_)
      refine lv_iconst (v := 1) hx hb d_Mo_isDigit_18 (by decide) ?_
      refine lv_goto (tgt := 23) hx hb d_Mo_isDigit_19 (by decide) ?_
      refine gh_retz hAe C V hr (by first | rfl | decide) hlocks d_Mo_isDigit_23 (by first | decide | omega | (dsimp only; omega)) (by first | decide | omega | (dsimp only; omega)) ?_
      exact ⟨by rw [decide_eq_true (by omega)]; rfl, rfl⟩
    · refine lv_aload_n hx hb d_Mo_isDigit_0 rfl (lv_at hl 0 rfl) ?_
      refine gh_callV C V hl.1 m_Mo_peek l_Mo_185 (c_Mo_pk l E _ _ a ad _ _ _ tx n pl X.1 hT h21 (by omega)) rfl X.1.1 gc_Mo ⟨by first | decide | omega | (dsimp only; omega), by first | decide | omega | (dsimp only; omega)⟩ ⟨by first | decide | omega | (dsimp only; omega), by first | decide | omega | (dsimp only; omega)⟩ (Nat.le_of_ble_eq_true rfl) rfl d_Mo_isDigit_1 (fun r z9 H locs hp9 V1 => ?_)
      obtain ⟨rfl, he9⟩ := hp9
      rw [he9] at V1
      have V := V1
      refine W.eq (g2 := F0 m 4 ls [.int (pek (sg tx n pl))]) rfl ?_
      refine lv_bipush (v := 48) hx hb d_Mo_isDigit_4 (by decide) ?_
      refine lv_icmp_lt (tgt := 22) hx hb d_Mo_isDigit_6 (by decide) (fun c4 => absurd c4 (fun z => hlo ((pek_lt (k := 48) (by omega) (by decide) (by decide)).mp z))) (fun c4 => ?_)
      refine lv_aload_n hx hb d_Mo_isDigit_9 rfl (lv_at hl 0 rfl) ?_
      refine gh_callV C V hl.1 m_Mo_peek l_Mo_185 (c_Mo_pk l E _ _ a ad _ _ _ tx n pl X.1 hT h21 (by omega)) rfl X.1.1 gc_Mo ⟨by first | decide | omega | (dsimp only; omega), by first | decide | omega | (dsimp only; omega)⟩ ⟨by first | decide | omega | (dsimp only; omega), by first | decide | omega | (dsimp only; omega)⟩ (Nat.le_of_ble_eq_true rfl) rfl d_Mo_isDigit_10 (fun r z9 H locs hp9 V1 => ?_)
      obtain ⟨rfl, he9⟩ := hp9
      rw [he9] at V1
      have V := V1
      refine W.eq (g2 := F0 m 13 ls [.int (pek (sg tx n pl))]) rfl ?_
      refine lv_bipush (v := 57) hx hb d_Mo_isDigit_13 (by decide) ?_
      refine lv_icmp_gt (tgt := 22) hx hb d_Mo_isDigit_15 (by decide) (fun c5 => ?_) (fun c5 => absurd ((pek_le (k := 57) (by omega) (by decide) (by decide)).mpr (by omega)) c5)
      refine lv_iconst (v := 0) hx hb d_Mo_isDigit_22 (by decide) ?_
      refine gh_retz hAe C V hr (by first | rfl | decide) hlocks d_Mo_isDigit_23 (by first | decide | omega | (dsimp only; omega)) (by first | decide | omega | (dsimp only; omega)) ?_
      exact ⟨by rw [decide_eq_false (by omega)]; rfl, rfl⟩
theorem d_Mo_word_0 : decode b_Mo_word 0 = .ok (.iconst 0, 1) := by decide +kernel
theorem d_Mo_word_1 : decode b_Mo_word 1 = .ok (.istore 6, 2) := by decide +kernel
theorem d_Mo_word_3 : decode b_Mo_word 3 = .ok (.iload 6, 2) := by decide +kernel
theorem d_Mo_word_5 : decode b_Mo_word 5 = .ok (.iconst 4, 1) := by decide +kernel
theorem d_Mo_word_6 : decode b_Mo_word 6 = .ok (.if_icmp .ge 60, 3) := by decide +kernel
theorem d_Mo_word_9 : decode b_Mo_word 9 = .ok (.aload_n 0, 1) := by decide +kernel
theorem d_Mo_word_10 : decode b_Mo_word 10 = .ok (.invokevirtual 185, 3) := by decide +kernel
theorem d_Mo_word_13 : decode b_Mo_word 13 = .ok (.iload 6, 2) := by decide +kernel
theorem d_Mo_word_15 : decode b_Mo_word 15 = .ok (.ifCond .ne 7, 3) := by decide +kernel
theorem d_Mo_word_18 : decode b_Mo_word 18 = .ok (.iload_n 2, 1) := by decide +kernel
theorem d_Mo_word_19 : decode b_Mo_word 19 = .ok (.goto 26, 3) := by decide +kernel
theorem d_Mo_word_22 : decode b_Mo_word 22 = .ok (.iload 6, 2) := by decide +kernel
theorem d_Mo_word_24 : decode b_Mo_word 24 = .ok (.iconst 1, 1) := by decide +kernel
theorem d_Mo_word_25 : decode b_Mo_word 25 = .ok (.if_icmp .ne 7, 3) := by decide +kernel
theorem d_Mo_word_28 : decode b_Mo_word 28 = .ok (.iload_n 3, 1) := by decide +kernel
theorem d_Mo_word_29 : decode b_Mo_word 29 = .ok (.goto 16, 3) := by decide +kernel
theorem d_Mo_word_32 : decode b_Mo_word 32 = .ok (.iload 6, 2) := by decide +kernel
theorem d_Mo_word_34 : decode b_Mo_word 34 = .ok (.iconst 2, 1) := by decide +kernel
theorem d_Mo_word_35 : decode b_Mo_word 35 = .ok (.if_icmp .ne 8, 3) := by decide +kernel
theorem d_Mo_word_38 : decode b_Mo_word 38 = .ok (.iload 4, 2) := by decide +kernel
theorem d_Mo_word_40 : decode b_Mo_word 40 = .ok (.goto 5, 3) := by decide +kernel
theorem d_Mo_word_43 : decode b_Mo_word 43 = .ok (.iload 5, 2) := by decide +kernel
theorem d_Mo_word_45 : decode b_Mo_word 45 = .ok (.if_icmp .eq 5, 3) := by decide +kernel
theorem d_Mo_word_48 : decode b_Mo_word 48 = .ok (.iconst 0, 1) := by decide +kernel
theorem d_Mo_word_49 : decode b_Mo_word 49 = .ok (.ireturn, 1) := by decide +kernel
theorem d_Mo_word_50 : decode b_Mo_word 50 = .ok (.aload_n 0, 1) := by decide +kernel
theorem d_Mo_word_51 : decode b_Mo_word 51 = .ok (.dup, 1) := by decide +kernel
theorem d_Mo_word_52 : decode b_Mo_word 52 = .ok (.getfield 179, 3) := by decide +kernel
theorem d_Mo_word_55 : decode b_Mo_word 55 = .ok (.iconst 1, 1) := by decide +kernel
theorem d_Mo_word_56 : decode b_Mo_word 56 = .ok (.iadd, 1) := by decide +kernel
theorem d_Mo_word_57 : decode b_Mo_word 57 = .ok (.putfield 179, 3) := by decide +kernel
theorem d_Mo_word_60 : decode b_Mo_word 60 = .ok (.iinc 6 1, 3) := by decide +kernel
theorem d_Mo_word_63 : decode b_Mo_word 63 = .ok (.goto (-60), 3) := by decide +kernel
theorem d_Mo_word_66 : decode b_Mo_word 66 = .ok (.aload_n 0, 1) := by decide +kernel
theorem d_Mo_word_67 : decode b_Mo_word 67 = .ok (.iload_n 1, 1) := by decide +kernel
theorem d_Mo_word_68 : decode b_Mo_word 68 = .ok (.putfield 189, 3) := by decide +kernel
theorem d_Mo_word_71 : decode b_Mo_word 71 = .ok (.iload_n 1, 1) := by decide +kernel
theorem d_Mo_word_72 : decode b_Mo_word 72 = .ok (.iconst 1, 1) := by decide +kernel
theorem d_Mo_word_73 : decode b_Mo_word 73 = .ok (.if_icmp .eq 5, 3) := by decide +kernel
theorem d_Mo_word_76 : decode b_Mo_word 76 = .ok (.iconst 1, 1) := by decide +kernel
theorem d_Mo_word_77 : decode b_Mo_word 77 = .ok (.ireturn, 1) := by decide +kernel
theorem d_Mo_word_78 : decode b_Mo_word 78 = .ok (.aload_n 0, 1) := by decide +kernel
theorem d_Mo_word_79 : decode b_Mo_word 79 = .ok (.invokevirtual 185, 3) := by decide +kernel
theorem d_Mo_word_82 : decode b_Mo_word 82 = .ok (.bipush 101, 2) := by decide +kernel
theorem d_Mo_word_84 : decode b_Mo_word 84 = .ok (.if_icmp .ne 7, 3) := by decide +kernel
theorem d_Mo_word_87 : decode b_Mo_word 87 = .ok (.iconst 1, 1) := by decide +kernel
theorem d_Mo_word_88 : decode b_Mo_word 88 = .ok (.goto 4, 3) := by decide +kernel
theorem d_Mo_word_91 : decode b_Mo_word 91 = .ok (.iconst 0, 1) := by decide +kernel
theorem d_Mo_word_92 : decode b_Mo_word 92 = .ok (.istore 6, 2) := by decide +kernel
theorem d_Mo_word_94 : decode b_Mo_word 94 = .ok (.aload_n 0, 1) := by decide +kernel
theorem d_Mo_word_95 : decode b_Mo_word 95 = .ok (.iload 6, 2) := by decide +kernel
theorem d_Mo_word_97 : decode b_Mo_word 97 = .ok (.ifCond .eq 12, 3) := by decide +kernel
theorem d_Mo_word_100 : decode b_Mo_word 100 = .ok (.aload_n 0, 1) := by decide +kernel
theorem d_Mo_word_101 : decode b_Mo_word 101 = .ok (.getfield 179, 3) := by decide +kernel
theorem d_Mo_word_104 : decode b_Mo_word 104 = .ok (.iconst 1, 1) := by decide +kernel
theorem d_Mo_word_105 : decode b_Mo_word 105 = .ok (.iadd, 1) := by decide +kernel
theorem d_Mo_word_106 : decode b_Mo_word 106 = .ok (.goto 7, 3) := by decide +kernel
theorem d_Mo_word_109 : decode b_Mo_word 109 = .ok (.aload_n 0, 1) := by decide +kernel
theorem d_Mo_word_110 : decode b_Mo_word 110 = .ok (.getfield 179, 3) := by decide +kernel
theorem d_Mo_word_113 : decode b_Mo_word 113 = .ok (.putfield 179, 3) := by decide +kernel
theorem d_Mo_word_116 : decode b_Mo_word 116 = .ok (.iload 6, 2) := by decide +kernel
theorem d_Mo_word_118 : decode b_Mo_word 118 = .ok (.ireturn, 1) := by decide +kernel
set_option maxHeartbeats 4000000 in
set_option maxRecDepth 100000 in
theorem c_Mo_word4 (l : Launch) (E : gh_E) (sz : Nat) (f : gh_F) (a : Nat) (ad : Nat → Nat) (S : Nat → Int32) (I : Nat → Nat → Int32) (J : Nat → Nat → Int64) (tx : Nat → Nat) (n pl : Nat) (x1 x2 x3 x4 vw : Nat) (hX : mo_R E f a ad S I J) (hT : rT tx n S I) (h21 : S 21 = nI pl) (hp : pl ≤ n) (hx4 : (0 < x1 ∧ x1 < 200) ∧ (0 < x2 ∧ x2 < 200) ∧ (0 < x3 ∧ x3 < 200) ∧ (0 < x4 ∧ x4 < 200)) (hvw : vw ≠ 1 ∧ vw < 100) : gh_M l y_Mo_word b_Mo_word 7 (some .boolean) E sz [.ref a, .int (nI vw), .int (nI x1), .int (nI x2), .int (nI x3), .int (nI x4)] f { frames := 6, cells := 0, slots := 0, locals := 120 } (fun r g => r = some (.int (gh_bi (rd_w tx n [x1, x2, x3, x4] pl).2)) ∧ ∃ S2, mo_X E f g a ad S2 I J ∧ S2 21 = nI (rd_w tx n [x1, x2, x3, x4] pl).1 ∧ ((rd_w tx n [x1, x2, x3, x4] pl).2 = true → S2 28 = nI vw) ∧ ∀ k, k ≠ 21 → k ≠ 28 → S2 k = S k) := by
  have hsg := fun q => (hT.ch q).1
  have hS21 := h21
  refine gh_open (by decide) (Nat.le_of_ble_eq_true rfl) ?_
  intro p e s m args below meth c A ls hAe C V hr hlocks hname hl
  have hx := C.1
  have hb := C.2.1
  have hl : lv_has ls 7 [(0, .ref a), (1, .int (nI vw)), (2, .int (nI x1)), (3, .int (nI x2)), (4, .int (nI x3)), (5, .int (nI x4))] := hl
  have X : mo_X E f f a ad S I J := ⟨hX, gh_fr.rf⟩
  refine lv_iconst (v := 0) hx hb d_Mo_word_0 (by decide) ?_
  refine lv_istore hx hb d_Mo_word_1 hl (by decide) rfl (fun ls hl => ?_)
  have hl : lv_has ls 7 [(6, .int 0), (0, .ref a), (1, .int (nI vw)), (2, .int (nI x1)), (3, .int (nI x2)), (4, .int (nI x3)), (5, .int (nI x4))] := hl
  refine lv_iload hx hb d_Mo_word_3 (lv_at hl 0 rfl) ?_
  refine lv_iconst (v := 4) hx hb d_Mo_word_5 (by decide) ?_
  refine lv_icmp_ge (tgt := 66) hx hb d_Mo_word_6 (by decide) (fun c1 => absurd c1 (by decide)) (fun c1 => ?_)
  refine lv_aload_n hx hb d_Mo_word_9 rfl (lv_at hl 1 rfl) ?_
  refine gh_callV C V hl.1 m_Mo_peek l_Mo_185 (c_Mo_pk l E _ _ a ad _ _ _ tx n pl X.1 hT h21 (by omega)) rfl X.1.1 gc_Mo ⟨by first | decide | omega | (dsimp only; omega), by first | decide | omega | (dsimp only; omega)⟩ ⟨by first | decide | omega | (dsimp only; omega), by first | decide | omega | (dsimp only; omega)⟩ (Nat.le_of_ble_eq_true rfl) rfl d_Mo_word_10 (fun r z9 H locs hp9 V1 => ?_)
  obtain ⟨rfl, he9⟩ := hp9
  rw [he9] at V1
  have V := V1
  refine W.eq (g2 := F0 m 13 ls [.int (pek (sg tx n pl))]) rfl ?_
  refine lv_iload hx hb d_Mo_word_13 (lv_at hl 0 rfl) ?_
  refine lv_if_ne (tgt := 22) hx hb d_Mo_word_15 (by decide) (fun c2 => absurd (by decide) c2) (fun c2 => ?_)
  refine lv_iload_n hx hb d_Mo_word_18 rfl (lv_at hl 3 rfl) ?_
  refine lv_goto (tgt := 45) hx hb d_Mo_word_19 (by decide) ?_
  have hs0 := hsg (pl)
  by_cases e0 : sg tx n (pl) = x1
  · have hl0 := sg_lt (by omega : sg tx n (pl) ≠ 0)
    refine lv_icmp_eq (tgt := 50) hx hb d_Mo_word_45 (by decide) (fun c3 => ?_) (fun c3 => absurd ((pek_eq (k := x1) (by omega) (by omega) (by omega)).mpr e0) c3)
    refine lv_aload_n hx hb d_Mo_word_50 rfl (lv_at hl 1 rfl) ?_
    refine lv_dup hx hb d_Mo_word_51 rfl ?_
    refine mo_getS (v := nI pl) C V X 21 (by decide) (by decide) (by first | rfl | exact hS21) f_Mo_179 rfl d_Mo_word_52 ?_
    refine lv_iconst (v := 1) hx hb d_Mo_word_55 (by decide) ?_
    refine gn_iadd (a := pl) (b := 1) hx hb d_Mo_word_56 ?_
    refine mo_putS C V X 21 (by decide) (by decide) f_Mo_179 rfl rfl rfl d_Mo_word_57 (fun f1 H locs V1 X1 => ?_)
    clear V X
    have V := V1
    have X := X1
    clear V1 X1
    have h21 : (va_up S 21 (nI (pl + 1))) 21 = nI (pl + 1) := va_up_s
    have hS21 := h21
    have hT : rT tx n (va_up S 21 (nI (pl + 1))) I := hT.keep (va_up_n (by decide)) rfl
    refine lv_iinc (k := 0) (v := 1) hx hb d_Mo_word_60 hl rfl (by decide) (by decide) rfl (fun ls hl => ?_)
    have hl : lv_has ls 7 [(6, .int 1), (0, .ref a), (1, .int (nI vw)), (2, .int (nI x1)), (3, .int (nI x2)), (4, .int (nI x3)), (5, .int (nI x4))] := hl
    refine lv_goto (tgt := 3) hx hb d_Mo_word_63 (by decide) ?_
    refine lv_iload hx hb d_Mo_word_3 (lv_at hl 0 rfl) ?_
    refine lv_iconst (v := 4) hx hb d_Mo_word_5 (by decide) ?_
    refine lv_icmp_ge (tgt := 66) hx hb d_Mo_word_6 (by decide) (fun c4 => absurd c4 (by decide)) (fun c4 => ?_)
    refine lv_aload_n hx hb d_Mo_word_9 rfl (lv_at hl 1 rfl) ?_
    refine gh_callV C V hl.1 m_Mo_peek l_Mo_185 (c_Mo_pk l E _ _ a ad _ _ _ tx n (pl + 1) X.1 hT h21 (by omega)) rfl X.1.1 gc_Mo ⟨by first | decide | omega | (dsimp only; omega), by first | decide | omega | (dsimp only; omega)⟩ ⟨by first | decide | omega | (dsimp only; omega), by first | decide | omega | (dsimp only; omega)⟩ (Nat.le_of_ble_eq_true rfl) rfl d_Mo_word_10 (fun r z9 H locs hp9 V1 => ?_)
    obtain ⟨rfl, he9⟩ := hp9
    rw [he9] at V1
    have V := V1
    refine W.eq (g2 := F0 m 13 ls [.int (pek (sg tx n (pl + 1)))]) rfl ?_
    refine lv_iload hx hb d_Mo_word_13 (lv_at hl 0 rfl) ?_
    refine lv_if_ne (tgt := 22) hx hb d_Mo_word_15 (by decide) (fun c5 => ?_) (fun c5 => absurd c5 (by decide))
    refine lv_iload hx hb d_Mo_word_22 (lv_at hl 0 rfl) ?_
    refine lv_iconst (v := 1) hx hb d_Mo_word_24 (by decide) ?_
    refine lv_icmp_ne (tgt := 32) hx hb d_Mo_word_25 (by decide) (fun c6 => absurd (by decide) c6) (fun c6 => ?_)
    refine lv_iload_n hx hb d_Mo_word_28 rfl (lv_at hl 4 rfl) ?_
    refine lv_goto (tgt := 45) hx hb d_Mo_word_29 (by decide) ?_
    have hs1 := hsg (pl + 1)
    by_cases e1 : sg tx n (pl + 1) = x2
    · have hl1 := sg_lt (by omega : sg tx n (pl + 1) ≠ 0)
      refine lv_icmp_eq (tgt := 50) hx hb d_Mo_word_45 (by decide) (fun c7 => ?_) (fun c7 => absurd ((pek_eq (k := x2) (by omega) (by omega) (by omega)).mpr e1) c7)
      refine lv_aload_n hx hb d_Mo_word_50 rfl (lv_at hl 1 rfl) ?_
      refine lv_dup hx hb d_Mo_word_51 rfl ?_
      refine mo_getS (v := nI (pl + 1)) C V X 21 (by decide) (by decide) (by first | rfl | exact hS21) f_Mo_179 rfl d_Mo_word_52 ?_
      refine lv_iconst (v := 1) hx hb d_Mo_word_55 (by decide) ?_
      refine gn_iadd (a := pl + 1) (b := 1) hx hb d_Mo_word_56 ?_
      refine mo_putS C V X 21 (by decide) (by decide) f_Mo_179 rfl rfl rfl d_Mo_word_57 (fun f1 H locs V1 X1 => ?_)
      clear V X
      have V := V1
      have X := X1
      clear V1 X1
      have h21 : (va_up (va_up S 21 (nI (pl + 1))) 21 (nI ((pl + 1) + 1))) 21 = nI ((pl + 1) + 1) := va_up_s
      have hS21 := h21
      have hT : rT tx n (va_up (va_up S 21 (nI (pl + 1))) 21 (nI ((pl + 1) + 1))) I := hT.keep (va_up_n (by decide)) rfl
      refine lv_iinc (k := 0) (v := 2) hx hb d_Mo_word_60 hl rfl (by decide) (by decide) rfl (fun ls hl => ?_)
      have hl : lv_has ls 7 [(6, .int 2), (0, .ref a), (1, .int (nI vw)), (2, .int (nI x1)), (3, .int (nI x2)), (4, .int (nI x3)), (5, .int (nI x4))] := hl
      refine lv_goto (tgt := 3) hx hb d_Mo_word_63 (by decide) ?_
      refine lv_iload hx hb d_Mo_word_3 (lv_at hl 0 rfl) ?_
      refine lv_iconst (v := 4) hx hb d_Mo_word_5 (by decide) ?_
      refine lv_icmp_ge (tgt := 66) hx hb d_Mo_word_6 (by decide) (fun c8 => absurd c8 (by decide)) (fun c8 => ?_)
      refine lv_aload_n hx hb d_Mo_word_9 rfl (lv_at hl 1 rfl) ?_
      refine gh_callV C V hl.1 m_Mo_peek l_Mo_185 (c_Mo_pk l E _ _ a ad _ _ _ tx n (pl + 1 + 1) X.1 hT h21 (by omega)) rfl X.1.1 gc_Mo ⟨by first | decide | omega | (dsimp only; omega), by first | decide | omega | (dsimp only; omega)⟩ ⟨by first | decide | omega | (dsimp only; omega), by first | decide | omega | (dsimp only; omega)⟩ (Nat.le_of_ble_eq_true rfl) rfl d_Mo_word_10 (fun r z9 H locs hp9 V1 => ?_)
      obtain ⟨rfl, he9⟩ := hp9
      rw [he9] at V1
      have V := V1
      refine W.eq (g2 := F0 m 13 ls [.int (pek (sg tx n (pl + 1 + 1)))]) rfl ?_
      refine lv_iload hx hb d_Mo_word_13 (lv_at hl 0 rfl) ?_
      refine lv_if_ne (tgt := 22) hx hb d_Mo_word_15 (by decide) (fun c9 => ?_) (fun c9 => absurd c9 (by decide))
      refine lv_iload hx hb d_Mo_word_22 (lv_at hl 0 rfl) ?_
      refine lv_iconst (v := 1) hx hb d_Mo_word_24 (by decide) ?_
      refine lv_icmp_ne (tgt := 32) hx hb d_Mo_word_25 (by decide) (fun c10 => ?_) (fun c10 => absurd c10 (by decide))
      refine lv_iload hx hb d_Mo_word_32 (lv_at hl 0 rfl) ?_
      refine lv_iconst (v := 2) hx hb d_Mo_word_34 (by decide) ?_
      refine lv_icmp_ne (tgt := 43) hx hb d_Mo_word_35 (by decide) (fun c11 => absurd (by decide) c11) (fun c11 => ?_)
      refine lv_iload hx hb d_Mo_word_38 (lv_at hl 5 rfl) ?_
      refine lv_goto (tgt := 45) hx hb d_Mo_word_40 (by decide) ?_
      have hs2 := hsg (pl + 1 + 1)
      by_cases e2 : sg tx n (pl + 1 + 1) = x3
      · have hl2 := sg_lt (by omega : sg tx n (pl + 1 + 1) ≠ 0)
        refine lv_icmp_eq (tgt := 50) hx hb d_Mo_word_45 (by decide) (fun c12 => ?_) (fun c12 => absurd ((pek_eq (k := x3) (by omega) (by omega) (by omega)).mpr e2) c12)
        refine lv_aload_n hx hb d_Mo_word_50 rfl (lv_at hl 1 rfl) ?_
        refine lv_dup hx hb d_Mo_word_51 rfl ?_
        refine mo_getS (v := nI ((pl + 1) + 1)) C V X 21 (by decide) (by decide) (by first | rfl | exact hS21) f_Mo_179 rfl d_Mo_word_52 ?_
        refine lv_iconst (v := 1) hx hb d_Mo_word_55 (by decide) ?_
        refine gn_iadd (a := (pl + 1) + 1) (b := 1) hx hb d_Mo_word_56 ?_
        refine mo_putS C V X 21 (by decide) (by decide) f_Mo_179 rfl rfl rfl d_Mo_word_57 (fun f1 H locs V1 X1 => ?_)
        clear V X
        have V := V1
        have X := X1
        clear V1 X1
        have h21 : (va_up (va_up (va_up S 21 (nI (pl + 1))) 21 (nI ((pl + 1) + 1))) 21 (nI ((pl + 1 + 1) + 1))) 21 = nI ((pl + 1 + 1) + 1) := va_up_s
        have hS21 := h21
        have hT : rT tx n (va_up (va_up (va_up S 21 (nI (pl + 1))) 21 (nI ((pl + 1) + 1))) 21 (nI ((pl + 1 + 1) + 1))) I := hT.keep (va_up_n (by decide)) rfl
        refine lv_iinc (k := 0) (v := 3) hx hb d_Mo_word_60 hl rfl (by decide) (by decide) rfl (fun ls hl => ?_)
        have hl : lv_has ls 7 [(6, .int 3), (0, .ref a), (1, .int (nI vw)), (2, .int (nI x1)), (3, .int (nI x2)), (4, .int (nI x3)), (5, .int (nI x4))] := hl
        refine lv_goto (tgt := 3) hx hb d_Mo_word_63 (by decide) ?_
        refine lv_iload hx hb d_Mo_word_3 (lv_at hl 0 rfl) ?_
        refine lv_iconst (v := 4) hx hb d_Mo_word_5 (by decide) ?_
        refine lv_icmp_ge (tgt := 66) hx hb d_Mo_word_6 (by decide) (fun c13 => absurd c13 (by decide)) (fun c13 => ?_)
        refine lv_aload_n hx hb d_Mo_word_9 rfl (lv_at hl 1 rfl) ?_
        refine gh_callV C V hl.1 m_Mo_peek l_Mo_185 (c_Mo_pk l E _ _ a ad _ _ _ tx n (pl + 1 + 1 + 1) X.1 hT h21 (by omega)) rfl X.1.1 gc_Mo ⟨by first | decide | omega | (dsimp only; omega), by first | decide | omega | (dsimp only; omega)⟩ ⟨by first | decide | omega | (dsimp only; omega), by first | decide | omega | (dsimp only; omega)⟩ (Nat.le_of_ble_eq_true rfl) rfl d_Mo_word_10 (fun r z9 H locs hp9 V1 => ?_)
        obtain ⟨rfl, he9⟩ := hp9
        rw [he9] at V1
        have V := V1
        refine W.eq (g2 := F0 m 13 ls [.int (pek (sg tx n (pl + 1 + 1 + 1)))]) rfl ?_
        refine lv_iload hx hb d_Mo_word_13 (lv_at hl 0 rfl) ?_
        refine lv_if_ne (tgt := 22) hx hb d_Mo_word_15 (by decide) (fun c14 => ?_) (fun c14 => absurd c14 (by decide))
        refine lv_iload hx hb d_Mo_word_22 (lv_at hl 0 rfl) ?_
        refine lv_iconst (v := 1) hx hb d_Mo_word_24 (by decide) ?_
        refine lv_icmp_ne (tgt := 32) hx hb d_Mo_word_25 (by decide) (fun c15 => ?_) (fun c15 => absurd c15 (by decide))
        refine lv_iload hx hb d_Mo_word_32 (lv_at hl 0 rfl) ?_
        refine lv_iconst (v := 2) hx hb d_Mo_word_34 (by decide) ?_
        refine lv_icmp_ne (tgt := 43) hx hb d_Mo_word_35 (by decide) (fun c16 => ?_) (fun c16 => absurd c16 (by decide))
        refine lv_iload hx hb d_Mo_word_43 (lv_at hl 6 rfl) ?_
        have hs3 := hsg (pl + 1 + 1 + 1)
        by_cases e3 : sg tx n (pl + 1 + 1 + 1) = x4
        · have hl3 := sg_lt (by omega : sg tx n (pl + 1 + 1 + 1) ≠ 0)
          refine lv_icmp_eq (tgt := 50) hx hb d_Mo_word_45 (by decide) (fun c17 => ?_) (fun c17 => absurd ((pek_eq (k := x4) (by omega) (by omega) (by omega)).mpr e3) c17)
          refine lv_aload_n hx hb d_Mo_word_50 rfl (lv_at hl 1 rfl) ?_
          refine lv_dup hx hb d_Mo_word_51 rfl ?_
          refine mo_getS (v := nI ((pl + 1 + 1) + 1)) C V X 21 (by decide) (by decide) (by first | rfl | exact hS21) f_Mo_179 rfl d_Mo_word_52 ?_
          refine lv_iconst (v := 1) hx hb d_Mo_word_55 (by decide) ?_
          refine gn_iadd (a := (pl + 1 + 1) + 1) (b := 1) hx hb d_Mo_word_56 ?_
          refine mo_putS C V X 21 (by decide) (by decide) f_Mo_179 rfl rfl rfl d_Mo_word_57 (fun f1 H locs V1 X1 => ?_)
          clear V X
          have V := V1
          have X := X1
          clear V1 X1
          have h21 : (va_up (va_up (va_up (va_up S 21 (nI (pl + 1))) 21 (nI ((pl + 1) + 1))) 21 (nI ((pl + 1 + 1) + 1))) 21 (nI ((pl + 1 + 1 + 1) + 1))) 21 = nI ((pl + 1 + 1 + 1) + 1) := va_up_s
          have hS21 := h21
          have hT : rT tx n (va_up (va_up (va_up (va_up S 21 (nI (pl + 1))) 21 (nI ((pl + 1) + 1))) 21 (nI ((pl + 1 + 1) + 1))) 21 (nI ((pl + 1 + 1 + 1) + 1))) I := hT.keep (va_up_n (by decide)) rfl
          refine lv_iinc (k := 0) (v := 4) hx hb d_Mo_word_60 hl rfl (by decide) (by decide) rfl (fun ls hl => ?_)
          have hl : lv_has ls 7 [(6, .int 4), (0, .ref a), (1, .int (nI vw)), (2, .int (nI x1)), (3, .int (nI x2)), (4, .int (nI x3)), (5, .int (nI x4))] := hl
          refine lv_goto (tgt := 3) hx hb d_Mo_word_63 (by decide) ?_
          refine lv_iload hx hb d_Mo_word_3 (lv_at hl 0 rfl) ?_
          refine lv_iconst (v := 4) hx hb d_Mo_word_5 (by decide) ?_
          refine lv_icmp_ge (tgt := 66) hx hb d_Mo_word_6 (by decide) (fun c18 => ?_) (fun c18 => absurd (by decide) c18)
          refine lv_aload_n hx hb d_Mo_word_66 rfl (lv_at hl 1 rfl) ?_
          refine lv_iload_n hx hb d_Mo_word_67 rfl (lv_at hl 2 rfl) ?_
          refine mo_putS C V X 28 (by decide) (by decide) f_Mo_189 rfl rfl rfl d_Mo_word_68 (fun f1 H locs V1 X1 => ?_)
          clear V X
          have V := V1
          have X := X1
          clear V1 X1
          refine lv_iload_n hx hb d_Mo_word_71 rfl (lv_at hl 2 rfl) ?_
          refine lv_iconst (v := 1) hx hb d_Mo_word_72 (by decide) ?_
          refine lv_icmp_eq (tgt := 78) hx hb d_Mo_word_73 (by decide) (fun c19 => absurd c19 (fun z => absurd ((nI_eq (b := 1) (by omega) (by decide)).mp z) hvw.1)) (fun c19 => ?_)
          refine lv_iconst (v := 1) hx hb d_Mo_word_76 (by decide) ?_
          refine gh_retz hAe C V hr (by first | rfl | decide) hlocks d_Mo_word_77 (by first | decide | omega | (dsimp only; omega)) (by first | decide | omega | (dsimp only; omega)) ?_
          have hrd : rd_w tx n [x1, x2, x3, x4] pl = (pl + 1 + 1 + 1 + 1, true) := by simp [rd_w, e0, e1, e2, e3]
          rw [hrd]
          refine ⟨rfl, _, X, ?_, ?_, fun k h1 h2 => ?_⟩
          · first | exact h21 | (simp [va_up]) | (simp [va_up]; exact h21)
          · intro hz; simp [va_up]
          · simp [va_up, h1, h2]
        · refine lv_icmp_eq (tgt := 50) hx hb d_Mo_word_45 (by decide) (fun c20 => absurd c20 (fun z => e3 ((pek_eq (k := x4) (by omega) (by omega) (by omega)).mp z))) (fun c20 => ?_)
          refine lv_iconst (v := 0) hx hb d_Mo_word_48 (by decide) ?_
          refine gh_retz hAe C V hr (by first | rfl | decide) hlocks d_Mo_word_49 (by first | decide | omega | (dsimp only; omega)) (by first | decide | omega | (dsimp only; omega)) ?_
          have hrd : rd_w tx n [x1, x2, x3, x4] pl = (pl + 1 + 1 + 1, false) := by simp [rd_w, e0, e1, e2, e3]
          rw [hrd]
          refine ⟨rfl, _, X, ?_, ?_, fun k h1 h2 => ?_⟩
          · first | exact h21 | (simp [va_up]) | (simp [va_up]; exact h21)
          · intro hz; cases hz
          · simp [va_up, h1, h2]
      · refine lv_icmp_eq (tgt := 50) hx hb d_Mo_word_45 (by decide) (fun c21 => absurd c21 (fun z => e2 ((pek_eq (k := x3) (by omega) (by omega) (by omega)).mp z))) (fun c21 => ?_)
        refine lv_iconst (v := 0) hx hb d_Mo_word_48 (by decide) ?_
        refine gh_retz hAe C V hr (by first | rfl | decide) hlocks d_Mo_word_49 (by first | decide | omega | (dsimp only; omega)) (by first | decide | omega | (dsimp only; omega)) ?_
        have hrd : rd_w tx n [x1, x2, x3, x4] pl = (pl + 1 + 1, false) := by simp [rd_w, e0, e1, e2]
        rw [hrd]
        refine ⟨rfl, _, X, ?_, ?_, fun k h1 h2 => ?_⟩
        · first | exact h21 | (simp [va_up]) | (simp [va_up]; exact h21)
        · intro hz; cases hz
        · simp [va_up, h1, h2]
    · refine lv_icmp_eq (tgt := 50) hx hb d_Mo_word_45 (by decide) (fun c22 => absurd c22 (fun z => e1 ((pek_eq (k := x2) (by omega) (by omega) (by omega)).mp z))) (fun c22 => ?_)
      refine lv_iconst (v := 0) hx hb d_Mo_word_48 (by decide) ?_
      refine gh_retz hAe C V hr (by first | rfl | decide) hlocks d_Mo_word_49 (by first | decide | omega | (dsimp only; omega)) (by first | decide | omega | (dsimp only; omega)) ?_
      have hrd : rd_w tx n [x1, x2, x3, x4] pl = (pl + 1, false) := by simp [rd_w, e0, e1]
      rw [hrd]
      refine ⟨rfl, _, X, ?_, ?_, fun k h1 h2 => ?_⟩
      · first | exact h21 | (simp [va_up]) | (simp [va_up]; exact h21)
      · intro hz; cases hz
      · simp [va_up, h1, h2]
  · refine lv_icmp_eq (tgt := 50) hx hb d_Mo_word_45 (by decide) (fun c23 => absurd c23 (fun z => e0 ((pek_eq (k := x1) (by omega) (by omega) (by omega)).mp z))) (fun c23 => ?_)
    refine lv_iconst (v := 0) hx hb d_Mo_word_48 (by decide) ?_
    refine gh_retz hAe C V hr (by first | rfl | decide) hlocks d_Mo_word_49 (by first | decide | omega | (dsimp only; omega)) (by first | decide | omega | (dsimp only; omega)) ?_
    have hrd : rd_w tx n [x1, x2, x3, x4] pl = (pl, false) := by simp [rd_w, e0]
    rw [hrd]
    refine ⟨rfl, _, X, ?_, ?_, fun k h1 h2 => ?_⟩
    · first | exact h21 | (simp [va_up]) | (simp [va_up]; exact h21)
    · intro hz; cases hz
    · simp [va_up, h1, h2]
set_option maxHeartbeats 4000000 in
set_option maxRecDepth 100000 in
theorem c_Mo_word5 (l : Launch) (E : gh_E) (sz : Nat) (f : gh_F) (a : Nat) (ad : Nat → Nat) (S : Nat → Int32) (I : Nat → Nat → Int32) (J : Nat → Nat → Int64) (tx : Nat → Nat) (n pl : Nat) (x1 x2 x3 x4 : Nat) (hX : mo_R E f a ad S I J) (hT : rT tx n S I) (h21 : S 21 = nI pl) (hp : pl ≤ n) (hx4 : (0 < x1 ∧ x1 < 200) ∧ (0 < x2 ∧ x2 < 200) ∧ (0 < x3 ∧ x3 < 200) ∧ (0 < x4 ∧ x4 < 200)) : gh_M l y_Mo_word b_Mo_word 7 (some .boolean) E sz [.ref a, .int 1, .int (nI x1), .int (nI x2), .int (nI x3), .int (nI x4)] f { frames := 6, cells := 0, slots := 0, locals := 120 } (fun r g => r = some (.int (gh_bi (rd_w tx n [x1, x2, x3, x4, 101] pl).2)) ∧ ∃ S2, mo_X E f g a ad S2 I J ∧ S2 21 = nI (rd_w tx n [x1, x2, x3, x4, 101] pl).1 ∧ ((rd_w tx n [x1, x2, x3, x4, 101] pl).2 = true → S2 28 = 1) ∧ ∀ k, k ≠ 21 → k ≠ 28 → S2 k = S k) := by
  have hsg := fun q => (hT.ch q).1
  have hS21 := h21
  refine gh_open (by decide) (Nat.le_of_ble_eq_true rfl) ?_
  intro p e s m args below meth c A ls hAe C V hr hlocks hname hl
  have hx := C.1
  have hb := C.2.1
  have hl : lv_has ls 7 [(0, .ref a), (1, .int 1), (2, .int (nI x1)), (3, .int (nI x2)), (4, .int (nI x3)), (5, .int (nI x4))] := hl
  have X : mo_X E f f a ad S I J := ⟨hX, gh_fr.rf⟩
  refine lv_iconst (v := 0) hx hb d_Mo_word_0 (by decide) ?_
  refine lv_istore hx hb d_Mo_word_1 hl (by decide) rfl (fun ls hl => ?_)
  have hl : lv_has ls 7 [(6, .int 0), (0, .ref a), (1, .int 1), (2, .int (nI x1)), (3, .int (nI x2)), (4, .int (nI x3)), (5, .int (nI x4))] := hl
  refine lv_iload hx hb d_Mo_word_3 (lv_at hl 0 rfl) ?_
  refine lv_iconst (v := 4) hx hb d_Mo_word_5 (by decide) ?_
  refine lv_icmp_ge (tgt := 66) hx hb d_Mo_word_6 (by decide) (fun c1 => absurd c1 (by decide)) (fun c1 => ?_)
  refine lv_aload_n hx hb d_Mo_word_9 rfl (lv_at hl 1 rfl) ?_
  refine gh_callV C V hl.1 m_Mo_peek l_Mo_185 (c_Mo_pk l E _ _ a ad _ _ _ tx n pl X.1 hT h21 (by omega)) rfl X.1.1 gc_Mo ⟨by first | decide | omega | (dsimp only; omega), by first | decide | omega | (dsimp only; omega)⟩ ⟨by first | decide | omega | (dsimp only; omega), by first | decide | omega | (dsimp only; omega)⟩ (Nat.le_of_ble_eq_true rfl) rfl d_Mo_word_10 (fun r z9 H locs hp9 V1 => ?_)
  obtain ⟨rfl, he9⟩ := hp9
  rw [he9] at V1
  have V := V1
  refine W.eq (g2 := F0 m 13 ls [.int (pek (sg tx n pl))]) rfl ?_
  refine lv_iload hx hb d_Mo_word_13 (lv_at hl 0 rfl) ?_
  refine lv_if_ne (tgt := 22) hx hb d_Mo_word_15 (by decide) (fun c2 => absurd (by decide) c2) (fun c2 => ?_)
  refine lv_iload_n hx hb d_Mo_word_18 rfl (lv_at hl 3 rfl) ?_
  refine lv_goto (tgt := 45) hx hb d_Mo_word_19 (by decide) ?_
  have hs0 := hsg (pl)
  by_cases e0 : sg tx n (pl) = x1
  · have hl0 := sg_lt (by omega : sg tx n (pl) ≠ 0)
    refine lv_icmp_eq (tgt := 50) hx hb d_Mo_word_45 (by decide) (fun c3 => ?_) (fun c3 => absurd ((pek_eq (k := x1) (by omega) (by omega) (by omega)).mpr e0) c3)
    refine lv_aload_n hx hb d_Mo_word_50 rfl (lv_at hl 1 rfl) ?_
    refine lv_dup hx hb d_Mo_word_51 rfl ?_
    refine mo_getS (v := nI pl) C V X 21 (by decide) (by decide) (by first | rfl | exact hS21) f_Mo_179 rfl d_Mo_word_52 ?_
    refine lv_iconst (v := 1) hx hb d_Mo_word_55 (by decide) ?_
    refine gn_iadd (a := pl) (b := 1) hx hb d_Mo_word_56 ?_
    refine mo_putS C V X 21 (by decide) (by decide) f_Mo_179 rfl rfl rfl d_Mo_word_57 (fun f1 H locs V1 X1 => ?_)
    clear V X
    have V := V1
    have X := X1
    clear V1 X1
    have h21 : (va_up S 21 (nI (pl + 1))) 21 = nI (pl + 1) := va_up_s
    have hS21 := h21
    have hT : rT tx n (va_up S 21 (nI (pl + 1))) I := hT.keep (va_up_n (by decide)) rfl
    refine lv_iinc (k := 0) (v := 1) hx hb d_Mo_word_60 hl rfl (by decide) (by decide) rfl (fun ls hl => ?_)
    have hl : lv_has ls 7 [(6, .int 1), (0, .ref a), (1, .int 1), (2, .int (nI x1)), (3, .int (nI x2)), (4, .int (nI x3)), (5, .int (nI x4))] := hl
    refine lv_goto (tgt := 3) hx hb d_Mo_word_63 (by decide) ?_
    refine lv_iload hx hb d_Mo_word_3 (lv_at hl 0 rfl) ?_
    refine lv_iconst (v := 4) hx hb d_Mo_word_5 (by decide) ?_
    refine lv_icmp_ge (tgt := 66) hx hb d_Mo_word_6 (by decide) (fun c4 => absurd c4 (by decide)) (fun c4 => ?_)
    refine lv_aload_n hx hb d_Mo_word_9 rfl (lv_at hl 1 rfl) ?_
    refine gh_callV C V hl.1 m_Mo_peek l_Mo_185 (c_Mo_pk l E _ _ a ad _ _ _ tx n (pl + 1) X.1 hT h21 (by omega)) rfl X.1.1 gc_Mo ⟨by first | decide | omega | (dsimp only; omega), by first | decide | omega | (dsimp only; omega)⟩ ⟨by first | decide | omega | (dsimp only; omega), by first | decide | omega | (dsimp only; omega)⟩ (Nat.le_of_ble_eq_true rfl) rfl d_Mo_word_10 (fun r z9 H locs hp9 V1 => ?_)
    obtain ⟨rfl, he9⟩ := hp9
    rw [he9] at V1
    have V := V1
    refine W.eq (g2 := F0 m 13 ls [.int (pek (sg tx n (pl + 1)))]) rfl ?_
    refine lv_iload hx hb d_Mo_word_13 (lv_at hl 0 rfl) ?_
    refine lv_if_ne (tgt := 22) hx hb d_Mo_word_15 (by decide) (fun c5 => ?_) (fun c5 => absurd c5 (by decide))
    refine lv_iload hx hb d_Mo_word_22 (lv_at hl 0 rfl) ?_
    refine lv_iconst (v := 1) hx hb d_Mo_word_24 (by decide) ?_
    refine lv_icmp_ne (tgt := 32) hx hb d_Mo_word_25 (by decide) (fun c6 => absurd (by decide) c6) (fun c6 => ?_)
    refine lv_iload_n hx hb d_Mo_word_28 rfl (lv_at hl 4 rfl) ?_
    refine lv_goto (tgt := 45) hx hb d_Mo_word_29 (by decide) ?_
    have hs1 := hsg (pl + 1)
    by_cases e1 : sg tx n (pl + 1) = x2
    · have hl1 := sg_lt (by omega : sg tx n (pl + 1) ≠ 0)
      refine lv_icmp_eq (tgt := 50) hx hb d_Mo_word_45 (by decide) (fun c7 => ?_) (fun c7 => absurd ((pek_eq (k := x2) (by omega) (by omega) (by omega)).mpr e1) c7)
      refine lv_aload_n hx hb d_Mo_word_50 rfl (lv_at hl 1 rfl) ?_
      refine lv_dup hx hb d_Mo_word_51 rfl ?_
      refine mo_getS (v := nI (pl + 1)) C V X 21 (by decide) (by decide) (by first | rfl | exact hS21) f_Mo_179 rfl d_Mo_word_52 ?_
      refine lv_iconst (v := 1) hx hb d_Mo_word_55 (by decide) ?_
      refine gn_iadd (a := pl + 1) (b := 1) hx hb d_Mo_word_56 ?_
      refine mo_putS C V X 21 (by decide) (by decide) f_Mo_179 rfl rfl rfl d_Mo_word_57 (fun f1 H locs V1 X1 => ?_)
      clear V X
      have V := V1
      have X := X1
      clear V1 X1
      have h21 : (va_up (va_up S 21 (nI (pl + 1))) 21 (nI ((pl + 1) + 1))) 21 = nI ((pl + 1) + 1) := va_up_s
      have hS21 := h21
      have hT : rT tx n (va_up (va_up S 21 (nI (pl + 1))) 21 (nI ((pl + 1) + 1))) I := hT.keep (va_up_n (by decide)) rfl
      refine lv_iinc (k := 0) (v := 2) hx hb d_Mo_word_60 hl rfl (by decide) (by decide) rfl (fun ls hl => ?_)
      have hl : lv_has ls 7 [(6, .int 2), (0, .ref a), (1, .int 1), (2, .int (nI x1)), (3, .int (nI x2)), (4, .int (nI x3)), (5, .int (nI x4))] := hl
      refine lv_goto (tgt := 3) hx hb d_Mo_word_63 (by decide) ?_
      refine lv_iload hx hb d_Mo_word_3 (lv_at hl 0 rfl) ?_
      refine lv_iconst (v := 4) hx hb d_Mo_word_5 (by decide) ?_
      refine lv_icmp_ge (tgt := 66) hx hb d_Mo_word_6 (by decide) (fun c8 => absurd c8 (by decide)) (fun c8 => ?_)
      refine lv_aload_n hx hb d_Mo_word_9 rfl (lv_at hl 1 rfl) ?_
      refine gh_callV C V hl.1 m_Mo_peek l_Mo_185 (c_Mo_pk l E _ _ a ad _ _ _ tx n (pl + 1 + 1) X.1 hT h21 (by omega)) rfl X.1.1 gc_Mo ⟨by first | decide | omega | (dsimp only; omega), by first | decide | omega | (dsimp only; omega)⟩ ⟨by first | decide | omega | (dsimp only; omega), by first | decide | omega | (dsimp only; omega)⟩ (Nat.le_of_ble_eq_true rfl) rfl d_Mo_word_10 (fun r z9 H locs hp9 V1 => ?_)
      obtain ⟨rfl, he9⟩ := hp9
      rw [he9] at V1
      have V := V1
      refine W.eq (g2 := F0 m 13 ls [.int (pek (sg tx n (pl + 1 + 1)))]) rfl ?_
      refine lv_iload hx hb d_Mo_word_13 (lv_at hl 0 rfl) ?_
      refine lv_if_ne (tgt := 22) hx hb d_Mo_word_15 (by decide) (fun c9 => ?_) (fun c9 => absurd c9 (by decide))
      refine lv_iload hx hb d_Mo_word_22 (lv_at hl 0 rfl) ?_
      refine lv_iconst (v := 1) hx hb d_Mo_word_24 (by decide) ?_
      refine lv_icmp_ne (tgt := 32) hx hb d_Mo_word_25 (by decide) (fun c10 => ?_) (fun c10 => absurd c10 (by decide))
      refine lv_iload hx hb d_Mo_word_32 (lv_at hl 0 rfl) ?_
      refine lv_iconst (v := 2) hx hb d_Mo_word_34 (by decide) ?_
      refine lv_icmp_ne (tgt := 43) hx hb d_Mo_word_35 (by decide) (fun c11 => absurd (by decide) c11) (fun c11 => ?_)
      refine lv_iload hx hb d_Mo_word_38 (lv_at hl 5 rfl) ?_
      refine lv_goto (tgt := 45) hx hb d_Mo_word_40 (by decide) ?_
      have hs2 := hsg (pl + 1 + 1)
      by_cases e2 : sg tx n (pl + 1 + 1) = x3
      · have hl2 := sg_lt (by omega : sg tx n (pl + 1 + 1) ≠ 0)
        refine lv_icmp_eq (tgt := 50) hx hb d_Mo_word_45 (by decide) (fun c12 => ?_) (fun c12 => absurd ((pek_eq (k := x3) (by omega) (by omega) (by omega)).mpr e2) c12)
        refine lv_aload_n hx hb d_Mo_word_50 rfl (lv_at hl 1 rfl) ?_
        refine lv_dup hx hb d_Mo_word_51 rfl ?_
        refine mo_getS (v := nI ((pl + 1) + 1)) C V X 21 (by decide) (by decide) (by first | rfl | exact hS21) f_Mo_179 rfl d_Mo_word_52 ?_
        refine lv_iconst (v := 1) hx hb d_Mo_word_55 (by decide) ?_
        refine gn_iadd (a := (pl + 1) + 1) (b := 1) hx hb d_Mo_word_56 ?_
        refine mo_putS C V X 21 (by decide) (by decide) f_Mo_179 rfl rfl rfl d_Mo_word_57 (fun f1 H locs V1 X1 => ?_)
        clear V X
        have V := V1
        have X := X1
        clear V1 X1
        have h21 : (va_up (va_up (va_up S 21 (nI (pl + 1))) 21 (nI ((pl + 1) + 1))) 21 (nI ((pl + 1 + 1) + 1))) 21 = nI ((pl + 1 + 1) + 1) := va_up_s
        have hS21 := h21
        have hT : rT tx n (va_up (va_up (va_up S 21 (nI (pl + 1))) 21 (nI ((pl + 1) + 1))) 21 (nI ((pl + 1 + 1) + 1))) I := hT.keep (va_up_n (by decide)) rfl
        refine lv_iinc (k := 0) (v := 3) hx hb d_Mo_word_60 hl rfl (by decide) (by decide) rfl (fun ls hl => ?_)
        have hl : lv_has ls 7 [(6, .int 3), (0, .ref a), (1, .int 1), (2, .int (nI x1)), (3, .int (nI x2)), (4, .int (nI x3)), (5, .int (nI x4))] := hl
        refine lv_goto (tgt := 3) hx hb d_Mo_word_63 (by decide) ?_
        refine lv_iload hx hb d_Mo_word_3 (lv_at hl 0 rfl) ?_
        refine lv_iconst (v := 4) hx hb d_Mo_word_5 (by decide) ?_
        refine lv_icmp_ge (tgt := 66) hx hb d_Mo_word_6 (by decide) (fun c13 => absurd c13 (by decide)) (fun c13 => ?_)
        refine lv_aload_n hx hb d_Mo_word_9 rfl (lv_at hl 1 rfl) ?_
        refine gh_callV C V hl.1 m_Mo_peek l_Mo_185 (c_Mo_pk l E _ _ a ad _ _ _ tx n (pl + 1 + 1 + 1) X.1 hT h21 (by omega)) rfl X.1.1 gc_Mo ⟨by first | decide | omega | (dsimp only; omega), by first | decide | omega | (dsimp only; omega)⟩ ⟨by first | decide | omega | (dsimp only; omega), by first | decide | omega | (dsimp only; omega)⟩ (Nat.le_of_ble_eq_true rfl) rfl d_Mo_word_10 (fun r z9 H locs hp9 V1 => ?_)
        obtain ⟨rfl, he9⟩ := hp9
        rw [he9] at V1
        have V := V1
        refine W.eq (g2 := F0 m 13 ls [.int (pek (sg tx n (pl + 1 + 1 + 1)))]) rfl ?_
        refine lv_iload hx hb d_Mo_word_13 (lv_at hl 0 rfl) ?_
        refine lv_if_ne (tgt := 22) hx hb d_Mo_word_15 (by decide) (fun c14 => ?_) (fun c14 => absurd c14 (by decide))
        refine lv_iload hx hb d_Mo_word_22 (lv_at hl 0 rfl) ?_
        refine lv_iconst (v := 1) hx hb d_Mo_word_24 (by decide) ?_
        refine lv_icmp_ne (tgt := 32) hx hb d_Mo_word_25 (by decide) (fun c15 => ?_) (fun c15 => absurd c15 (by decide))
        refine lv_iload hx hb d_Mo_word_32 (lv_at hl 0 rfl) ?_
        refine lv_iconst (v := 2) hx hb d_Mo_word_34 (by decide) ?_
        refine lv_icmp_ne (tgt := 43) hx hb d_Mo_word_35 (by decide) (fun c16 => ?_) (fun c16 => absurd c16 (by decide))
        refine lv_iload hx hb d_Mo_word_43 (lv_at hl 6 rfl) ?_
        have hs3 := hsg (pl + 1 + 1 + 1)
        by_cases e3 : sg tx n (pl + 1 + 1 + 1) = x4
        · have hl3 := sg_lt (by omega : sg tx n (pl + 1 + 1 + 1) ≠ 0)
          refine lv_icmp_eq (tgt := 50) hx hb d_Mo_word_45 (by decide) (fun c17 => ?_) (fun c17 => absurd ((pek_eq (k := x4) (by omega) (by omega) (by omega)).mpr e3) c17)
          refine lv_aload_n hx hb d_Mo_word_50 rfl (lv_at hl 1 rfl) ?_
          refine lv_dup hx hb d_Mo_word_51 rfl ?_
          refine mo_getS (v := nI ((pl + 1 + 1) + 1)) C V X 21 (by decide) (by decide) (by first | rfl | exact hS21) f_Mo_179 rfl d_Mo_word_52 ?_
          refine lv_iconst (v := 1) hx hb d_Mo_word_55 (by decide) ?_
          refine gn_iadd (a := (pl + 1 + 1) + 1) (b := 1) hx hb d_Mo_word_56 ?_
          refine mo_putS C V X 21 (by decide) (by decide) f_Mo_179 rfl rfl rfl d_Mo_word_57 (fun f1 H locs V1 X1 => ?_)
          clear V X
          have V := V1
          have X := X1
          clear V1 X1
          have h21 : (va_up (va_up (va_up (va_up S 21 (nI (pl + 1))) 21 (nI ((pl + 1) + 1))) 21 (nI ((pl + 1 + 1) + 1))) 21 (nI ((pl + 1 + 1 + 1) + 1))) 21 = nI ((pl + 1 + 1 + 1) + 1) := va_up_s
          have hS21 := h21
          have hT : rT tx n (va_up (va_up (va_up (va_up S 21 (nI (pl + 1))) 21 (nI ((pl + 1) + 1))) 21 (nI ((pl + 1 + 1) + 1))) 21 (nI ((pl + 1 + 1 + 1) + 1))) I := hT.keep (va_up_n (by decide)) rfl
          refine lv_iinc (k := 0) (v := 4) hx hb d_Mo_word_60 hl rfl (by decide) (by decide) rfl (fun ls hl => ?_)
          have hl : lv_has ls 7 [(6, .int 4), (0, .ref a), (1, .int 1), (2, .int (nI x1)), (3, .int (nI x2)), (4, .int (nI x3)), (5, .int (nI x4))] := hl
          refine lv_goto (tgt := 3) hx hb d_Mo_word_63 (by decide) ?_
          refine lv_iload hx hb d_Mo_word_3 (lv_at hl 0 rfl) ?_
          refine lv_iconst (v := 4) hx hb d_Mo_word_5 (by decide) ?_
          refine lv_icmp_ge (tgt := 66) hx hb d_Mo_word_6 (by decide) (fun c18 => ?_) (fun c18 => absurd (by decide) c18)
          refine lv_aload_n hx hb d_Mo_word_66 rfl (lv_at hl 1 rfl) ?_
          refine lv_iload_n hx hb d_Mo_word_67 rfl (lv_at hl 2 rfl) ?_
          refine mo_putS C V X 28 (by decide) (by decide) f_Mo_189 rfl rfl rfl d_Mo_word_68 (fun f1 H locs V1 X1 => ?_)
          clear V X
          have V := V1
          have X := X1
          clear V1 X1
          refine lv_iload_n hx hb d_Mo_word_71 rfl (lv_at hl 2 rfl) ?_
          refine lv_iconst (v := 1) hx hb d_Mo_word_72 (by decide) ?_
          refine lv_icmp_eq (tgt := 78) hx hb d_Mo_word_73 (by decide) (fun c19 => ?_) (fun c19 => absurd rfl c19)
          refine lv_aload_n hx hb d_Mo_word_78 rfl (lv_at hl 1 rfl) ?_
          refine gh_callV C V hl.1 m_Mo_peek l_Mo_185 (c_Mo_pk l E _ _ a ad _ _ _ tx n (pl + 1 + 1 + 1 + 1) X.1 hT h21 (by omega)) rfl X.1.1 gc_Mo ⟨by first | decide | omega | (dsimp only; omega), by first | decide | omega | (dsimp only; omega)⟩ ⟨by first | decide | omega | (dsimp only; omega), by first | decide | omega | (dsimp only; omega)⟩ (Nat.le_of_ble_eq_true rfl) rfl d_Mo_word_79 (fun r z9 H locs hp9 V1 => ?_)
          obtain ⟨rfl, he9⟩ := hp9
          rw [he9] at V1
          have V := V1
          refine W.eq (g2 := F0 m 82 ls [.int (pek (sg tx n (pl + 1 + 1 + 1 + 1)))]) rfl ?_
          refine lv_bipush (v := 101) hx hb d_Mo_word_82 (by decide) ?_
          have hs9 := hsg (pl + 1 + 1 + 1 + 1)
          by_cases e9 : sg tx n (pl + 1 + 1 + 1 + 1) = 101
          · have hl9 := sg_lt (by omega : sg tx n (pl + 1 + 1 + 1 + 1) ≠ 0)
            refine lv_icmp_ne (tgt := 91) hx hb d_Mo_word_84 (by decide) (fun c20 => absurd ((pek_eq (k := 101) (by omega) (by omega) (by omega)).mpr e9) c20) (fun c20 => ?_)
            refine lv_iconst (v := 1) hx hb d_Mo_word_87 (by decide) ?_
            refine lv_goto (tgt := 92) hx hb d_Mo_word_88 (by decide) ?_
            refine lv_istore hx hb d_Mo_word_92 hl (by decide) rfl (fun ls hl => ?_)
            have hl : lv_has ls 7 [(6, .int 1), (0, .ref a), (1, .int 1), (2, .int (nI x1)), (3, .int (nI x2)), (4, .int (nI x3)), (5, .int (nI x4))] := hl
            refine lv_aload_n hx hb d_Mo_word_94 rfl (lv_at hl 1 rfl) ?_
            refine lv_iload hx hb d_Mo_word_95 (lv_at hl 0 rfl) ?_
            refine lv_if_eq (tgt := 109) hx hb d_Mo_word_97 (by decide) (fun c21 => absurd c21 (by decide)) (fun c21 => ?_)
            refine lv_aload_n hx hb d_Mo_word_100 rfl (lv_at hl 1 rfl) ?_
            refine mo_getS (v := nI ((pl + 1 + 1 + 1) + 1)) C V X 21 (by decide) (by decide) (by first | rfl | exact hS21) f_Mo_179 rfl d_Mo_word_101 ?_
            refine lv_iconst (v := 1) hx hb d_Mo_word_104 (by decide) ?_
            refine gn_iadd (a := (pl + 1 + 1 + 1) + 1) (b := 1) hx hb d_Mo_word_105 ?_
            refine lv_goto (tgt := 113) hx hb d_Mo_word_106 (by decide) ?_
            refine mo_putS C V X 21 (by decide) (by decide) f_Mo_179 rfl rfl rfl d_Mo_word_113 (fun f1 H locs V1 X1 => ?_)
            clear V X
            have V := V1
            have X := X1
            clear V1 X1
            refine lv_iload hx hb d_Mo_word_116 (lv_at hl 0 rfl) ?_
            refine gh_retz hAe C V hr (by first | rfl | decide) hlocks d_Mo_word_118 (by first | decide | omega | (dsimp only; omega)) (by first | decide | omega | (dsimp only; omega)) ?_
            have hrd : rd_w tx n [x1, x2, x3, x4, 101] pl = (pl + 1 + 1 + 1 + 1 + 1, true) := by simp [rd_w, e0, e1, e2, e3, e9]
            rw [hrd]
            refine ⟨rfl, _, X, ?_, ?_, fun k h1 h2 => ?_⟩
            · first | exact h21 | (simp [va_up]) | (simp [va_up]; exact h21)
            · intro hz; simp [va_up]
            · simp [va_up, h1, h2]
          · refine lv_icmp_ne (tgt := 91) hx hb d_Mo_word_84 (by decide) (fun c22 => ?_) (fun c22 => absurd c22 (fun z => e9 ((pek_eq (k := 101) (by omega) (by omega) (by omega)).mp z)))
            refine lv_iconst (v := 0) hx hb d_Mo_word_91 (by decide) ?_
            refine lv_istore hx hb d_Mo_word_92 hl (by decide) rfl (fun ls hl => ?_)
            have hl : lv_has ls 7 [(6, .int 0), (0, .ref a), (1, .int 1), (2, .int (nI x1)), (3, .int (nI x2)), (4, .int (nI x3)), (5, .int (nI x4))] := hl
            refine lv_aload_n hx hb d_Mo_word_94 rfl (lv_at hl 1 rfl) ?_
            refine lv_iload hx hb d_Mo_word_95 (lv_at hl 0 rfl) ?_
            refine lv_if_eq (tgt := 109) hx hb d_Mo_word_97 (by decide) (fun c23 => ?_) (fun c23 => absurd (by decide) c23)
            refine lv_aload_n hx hb d_Mo_word_109 rfl (lv_at hl 1 rfl) ?_
            refine mo_getS (v := nI ((pl + 1 + 1 + 1) + 1)) C V X 21 (by decide) (by decide) (by first | rfl | exact hS21) f_Mo_179 rfl d_Mo_word_110 ?_
            refine mo_putS C V X 21 (by decide) (by decide) f_Mo_179 rfl rfl rfl d_Mo_word_113 (fun f1 H locs V1 X1 => ?_)
            clear V X
            have V := V1
            have X := X1
            clear V1 X1
            refine lv_iload hx hb d_Mo_word_116 (lv_at hl 0 rfl) ?_
            refine gh_retz hAe C V hr (by first | rfl | decide) hlocks d_Mo_word_118 (by first | decide | omega | (dsimp only; omega)) (by first | decide | omega | (dsimp only; omega)) ?_
            have hrd : rd_w tx n [x1, x2, x3, x4, 101] pl = (pl + 1 + 1 + 1 + 1, false) := by simp [rd_w, e0, e1, e2, e3, e9]
            rw [hrd]
            refine ⟨rfl, _, X, ?_, ?_, fun k h1 h2 => ?_⟩
            · first | exact h21 | (simp [va_up]) | (simp [va_up]; exact h21)
            · intro hz; cases hz
            · simp [va_up, h1, h2]
        · refine lv_icmp_eq (tgt := 50) hx hb d_Mo_word_45 (by decide) (fun c24 => absurd c24 (fun z => e3 ((pek_eq (k := x4) (by omega) (by omega) (by omega)).mp z))) (fun c24 => ?_)
          refine lv_iconst (v := 0) hx hb d_Mo_word_48 (by decide) ?_
          refine gh_retz hAe C V hr (by first | rfl | decide) hlocks d_Mo_word_49 (by first | decide | omega | (dsimp only; omega)) (by first | decide | omega | (dsimp only; omega)) ?_
          have hrd : rd_w tx n [x1, x2, x3, x4, 101] pl = (pl + 1 + 1 + 1, false) := by simp [rd_w, e0, e1, e2, e3]
          rw [hrd]
          refine ⟨rfl, _, X, ?_, ?_, fun k h1 h2 => ?_⟩
          · first | exact h21 | (simp [va_up]) | (simp [va_up]; exact h21)
          · intro hz; cases hz
          · simp [va_up, h1, h2]
      · refine lv_icmp_eq (tgt := 50) hx hb d_Mo_word_45 (by decide) (fun c25 => absurd c25 (fun z => e2 ((pek_eq (k := x3) (by omega) (by omega) (by omega)).mp z))) (fun c25 => ?_)
        refine lv_iconst (v := 0) hx hb d_Mo_word_48 (by decide) ?_
        refine gh_retz hAe C V hr (by first | rfl | decide) hlocks d_Mo_word_49 (by first | decide | omega | (dsimp only; omega)) (by first | decide | omega | (dsimp only; omega)) ?_
        have hrd : rd_w tx n [x1, x2, x3, x4, 101] pl = (pl + 1 + 1, false) := by simp [rd_w, e0, e1, e2]
        rw [hrd]
        refine ⟨rfl, _, X, ?_, ?_, fun k h1 h2 => ?_⟩
        · first | exact h21 | (simp [va_up]) | (simp [va_up]; exact h21)
        · intro hz; cases hz
        · simp [va_up, h1, h2]
    · refine lv_icmp_eq (tgt := 50) hx hb d_Mo_word_45 (by decide) (fun c26 => absurd c26 (fun z => e1 ((pek_eq (k := x2) (by omega) (by omega) (by omega)).mp z))) (fun c26 => ?_)
      refine lv_iconst (v := 0) hx hb d_Mo_word_48 (by decide) ?_
      refine gh_retz hAe C V hr (by first | rfl | decide) hlocks d_Mo_word_49 (by first | decide | omega | (dsimp only; omega)) (by first | decide | omega | (dsimp only; omega)) ?_
      have hrd : rd_w tx n [x1, x2, x3, x4, 101] pl = (pl + 1, false) := by simp [rd_w, e0, e1]
      rw [hrd]
      refine ⟨rfl, _, X, ?_, ?_, fun k h1 h2 => ?_⟩
      · first | exact h21 | (simp [va_up]) | (simp [va_up]; exact h21)
      · intro hz; cases hz
      · simp [va_up, h1, h2]
  · refine lv_icmp_eq (tgt := 50) hx hb d_Mo_word_45 (by decide) (fun c27 => absurd c27 (fun z => e0 ((pek_eq (k := x1) (by omega) (by omega) (by omega)).mp z))) (fun c27 => ?_)
    refine lv_iconst (v := 0) hx hb d_Mo_word_48 (by decide) ?_
    refine gh_retz hAe C V hr (by first | rfl | decide) hlocks d_Mo_word_49 (by first | decide | omega | (dsimp only; omega)) (by first | decide | omega | (dsimp only; omega)) ?_
    have hrd : rd_w tx n [x1, x2, x3, x4, 101] pl = (pl, false) := by simp [rd_w, e0]
    rw [hrd]
    refine ⟨rfl, _, X, ?_, ?_, fun k h1 h2 => ?_⟩
    · first | exact h21 | (simp [va_up]) | (simp [va_up]; exact h21)
    · intro hz; cases hz
    · simp [va_up, h1, h2]
