/-! parts, isWhole of the model. Printed by wip/whole/gen_mo26.py. -/
theorem nI_div {a b : Nat} (ha : a < 2 ^ 31) (hb : b < 2 ^ 31) : nI a / nI b = nI (a / b) := by
  apply Int32.toInt_inj.mp
  have h1 : a / b < 2 ^ 31 := Nat.lt_of_le_of_lt (Nat.div_le_self _ _) ha
  have e : (a : Int).tdiv (b : Int) = ((a / b : Nat) : Int) := by rw [Int.tdiv_eq_ediv_of_nonneg (by omega)]; rfl
  rw [Int32.toInt_div, nI_toInt ha, nI_toInt hb, nI_toInt h1, e]
  clear e
  generalize a / b = q at h1
  exact Int.bmod_eq_of_le (by omega) (by omega)
theorem nI_sub {a b : Nat} (h : b ≤ a) : nI a - nI b = nI (a - b) := by
  have h1 : nI (a - b) + nI b = nI a := by rw [nI_add]; congr 1; omega
  rw [← h1, Int32.add_sub_cancel]
theorem nI_mul (a b : Nat) : nI a * nI b = nI (a * b) := (Int32.ofNat_mul a b).symm
theorem nI_rem {a b : Nat} (ha : a < 2 ^ 31) (hb : b < 2 ^ 31) : nI a - nI a / nI b * nI b = nI (a % b) := by
  have hle : a / b * b ≤ a := Nat.div_mul_le_self a b
  have hm : a - a / b * b = a % b := by
    have := Nat.div_add_mod a b
    rw [Nat.mul_comm] at this
    omega
  rw [nI_div ha hb, nI_mul, nI_sub hle, hm]
theorem qy_has_of {cb : Nat → Nat} {n i : Nat} : qy_has cb n i = true ↔ ((cb i = 1 ∨ cb i = 6 ∨ cb i = 16) → i + 1 < n ∧ 97 ≤ cb (i + 1) ∧ cb (i + 1) ≤ 122) ∧ ((cb i = 2 ∨ cb i = 5) → i + 1 < n) := by
  by_cases hl : cb i = 1 ∨ cb i = 6 ∨ cb i = 16
  · have h1 : qy_let (cb i) = true := by rcases hl with e | e | e <;> rw [e] <;> decide
    unfold qy_has
    rw [if_pos h1]
    simp only [Bool.and_eq_true, decide_eq_true_eq]
    constructor
    · intro h; exact ⟨fun _ => h, fun z => absurd z (by omega)⟩
    · intro h; exact h.1 hl
  · have h1 : qy_let (cb i) = false := by
      unfold qy_let
      simp only [Bool.or_eq_false_iff, beq_eq_false_iff_ne]
      omega
    unfold qy_has
    rw [h1]
    by_cases hm : cb i = 2 ∨ cb i = 5
    · have h2 : qy_num (cb i) = true := by rcases hm with e | e <;> rw [e] <;> decide
      rw [h2]
      simp only [Bool.not_true, Bool.false_or]
      constructor
      · intro h; exact ⟨fun z => absurd z hl, fun _ => of_decide_eq_true h⟩
      · intro h; exact decide_eq_true (h.2 hm)
    · have h2 : qy_num (cb i) = false := by
        unfold qy_num
        simp only [Bool.or_eq_false_iff, beq_eq_false_iff_ne]
        omega
      rw [h2]
      exact ⟨fun _ => ⟨fun z => absurd z hl, fun z => absurd z hm⟩, fun _ => rfl⟩
theorem d_Mo_parts_0 : decode b_Mo_parts 0 = .ok (.iload_n 0, 1) := by decide +kernel
theorem d_Mo_parts_1 : decode b_Mo_parts 1 = .ok (.bipush 12, 2) := by decide +kernel
theorem d_Mo_parts_3 : decode b_Mo_parts 3 = .ok (.if_icmp .eq 15, 3) := by decide +kernel
theorem d_Mo_parts_6 : decode b_Mo_parts 6 = .ok (.iload_n 0, 1) := by decide +kernel
theorem d_Mo_parts_7 : decode b_Mo_parts 7 = .ok (.bipush 13, 2) := by decide +kernel
theorem d_Mo_parts_9 : decode b_Mo_parts 9 = .ok (.if_icmp .eq 9, 3) := by decide +kernel
theorem d_Mo_parts_12 : decode b_Mo_parts 12 = .ok (.iload_n 0, 1) := by decide +kernel
theorem d_Mo_parts_13 : decode b_Mo_parts 13 = .ok (.bipush 16, 2) := by decide +kernel
theorem d_Mo_parts_15 : decode b_Mo_parts 15 = .ok (.if_icmp .ne 5, 3) := by decide +kernel
theorem d_Mo_parts_18 : decode b_Mo_parts 18 = .ok (.iconst 1, 1) := by decide +kernel
theorem d_Mo_parts_19 : decode b_Mo_parts 19 = .ok (.ireturn, 1) := by decide +kernel
theorem d_Mo_parts_20 : decode b_Mo_parts 20 = .ok (.iload_n 0, 1) := by decide +kernel
theorem d_Mo_parts_21 : decode b_Mo_parts 21 = .ok (.bipush 11, 2) := by decide +kernel
theorem d_Mo_parts_23 : decode b_Mo_parts 23 = .ok (.if_icmp .eq 9, 3) := by decide +kernel
theorem d_Mo_parts_26 : decode b_Mo_parts 26 = .ok (.iload_n 0, 1) := by decide +kernel
theorem d_Mo_parts_27 : decode b_Mo_parts 27 = .ok (.bipush 14, 2) := by decide +kernel
theorem d_Mo_parts_29 : decode b_Mo_parts 29 = .ok (.if_icmp .ne 5, 3) := by decide +kernel
theorem d_Mo_parts_32 : decode b_Mo_parts 32 = .ok (.iconst 3, 1) := by decide +kernel
theorem d_Mo_parts_33 : decode b_Mo_parts 33 = .ok (.ireturn, 1) := by decide +kernel
theorem d_Mo_parts_34 : decode b_Mo_parts 34 = .ok (.iload_n 0, 1) := by decide +kernel
theorem d_Mo_parts_35 : decode b_Mo_parts 35 = .ok (.bipush 8, 2) := by decide +kernel
theorem d_Mo_parts_37 : decode b_Mo_parts 37 = .ok (.if_icmp .lt 9, 3) := by decide +kernel
theorem d_Mo_parts_40 : decode b_Mo_parts 40 = .ok (.iload_n 0, 1) := by decide +kernel
theorem d_Mo_parts_41 : decode b_Mo_parts 41 = .ok (.bipush 10, 2) := by decide +kernel
theorem d_Mo_parts_43 : decode b_Mo_parts 43 = .ok (.if_icmp .le 9, 3) := by decide +kernel
theorem d_Mo_parts_46 : decode b_Mo_parts 46 = .ok (.iload_n 0, 1) := by decide +kernel
theorem d_Mo_parts_47 : decode b_Mo_parts 47 = .ok (.bipush 22, 2) := by decide +kernel
theorem d_Mo_parts_49 : decode b_Mo_parts 49 = .ok (.if_icmp .lt 7, 3) := by decide +kernel
theorem d_Mo_parts_52 : decode b_Mo_parts 52 = .ok (.iconst 2, 1) := by decide +kernel
theorem d_Mo_parts_53 : decode b_Mo_parts 53 = .ok (.goto 4, 3) := by decide +kernel
theorem d_Mo_parts_56 : decode b_Mo_parts 56 = .ok (.iconst 0, 1) := by decide +kernel
theorem d_Mo_parts_57 : decode b_Mo_parts 57 = .ok (.ireturn, 1) := by decide +kernel
set_option maxHeartbeats 4000000 in
set_option maxRecDepth 100000 in
theorem c_Mo_parts (l : Launch) (E : gh_E) (sz : Nat) (f : gh_F) (k : Nat) (hk : k < 27) : gh_M l y_Mo_parts b_Mo_parts 1 (some .int) E sz [.int (nI k)] f { frames := 1, cells := 0, slots := 0, locals := 12 } (fun r g => r = some (.int (nI (qy_parts k))) ∧ g = f) := by
  refine gh_open (by decide) (Nat.le_of_ble_eq_true rfl) ?_
  intro p e s m args below meth c A ls hAe C V hr hlocks hname hl
  have hx := C.1
  have hb := C.2.1
  have hl : lv_has ls 1 [(0, .int (nI k))] := hl
  refine lv_iload_n hx hb d_Mo_parts_0 rfl (lv_at hl 0 rfl) ?_
  refine lv_bipush (v := 12) hx hb d_Mo_parts_1 (by decide) ?_
  refine lv_icmp_eq (tgt := 18) hx hb d_Mo_parts_3 (by decide) (fun c1 => ?_) (fun c1 => ?_)
  · have c1 : k = 12 := by rw [← gq_eq (a := k) (b := 12) (by omega) (by omega)]; exact c1
    refine lv_iconst (v := 1) hx hb d_Mo_parts_18 (by decide) ?_
    refine gh_reti hAe C V hr hlocks d_Mo_parts_19 (by first | decide | omega | (dsimp only; omega)) (by first | decide | omega | (dsimp only; omega)) ?_
    have hall : k = 0 ∨ k = 1 ∨ k = 2 ∨ k = 3 ∨ k = 4 ∨ k = 5 ∨ k = 6 ∨ k = 7 ∨ k = 8 ∨ k = 9 ∨ k = 10 ∨ k = 11 ∨ k = 12 ∨ k = 13 ∨ k = 14 ∨ k = 15 ∨ k = 16 ∨ k = 17 ∨ k = 18 ∨ k = 19 ∨ k = 20 ∨ k = 21 ∨ k = 22 ∨ k = 23 ∨ k = 24 ∨ k = 25 ∨ k = 26 := by omega
    refine ⟨?_, rfl⟩
    rcases hall with h | h | h | h | h | h | h | h | h | h | h | h | h | h | h | h | h | h | h | h | h | h | h | h | h | h | h
    all_goals first | omega | (rw [h]; rfl)
  · have c1 : ¬ k = 12 := by rw [← gq_eq (a := k) (b := 12) (by omega) (by omega)]; exact c1
    refine lv_iload_n hx hb d_Mo_parts_6 rfl (lv_at hl 0 rfl) ?_
    refine lv_bipush (v := 13) hx hb d_Mo_parts_7 (by decide) ?_
    refine lv_icmp_eq (tgt := 18) hx hb d_Mo_parts_9 (by decide) (fun c2 => ?_) (fun c2 => ?_)
    · have c2 : k = 13 := by rw [← gq_eq (a := k) (b := 13) (by omega) (by omega)]; exact c2
      refine lv_iconst (v := 1) hx hb d_Mo_parts_18 (by decide) ?_
      refine gh_reti hAe C V hr hlocks d_Mo_parts_19 (by first | decide | omega | (dsimp only; omega)) (by first | decide | omega | (dsimp only; omega)) ?_
      have hall : k = 0 ∨ k = 1 ∨ k = 2 ∨ k = 3 ∨ k = 4 ∨ k = 5 ∨ k = 6 ∨ k = 7 ∨ k = 8 ∨ k = 9 ∨ k = 10 ∨ k = 11 ∨ k = 12 ∨ k = 13 ∨ k = 14 ∨ k = 15 ∨ k = 16 ∨ k = 17 ∨ k = 18 ∨ k = 19 ∨ k = 20 ∨ k = 21 ∨ k = 22 ∨ k = 23 ∨ k = 24 ∨ k = 25 ∨ k = 26 := by omega
      refine ⟨?_, rfl⟩
      rcases hall with h | h | h | h | h | h | h | h | h | h | h | h | h | h | h | h | h | h | h | h | h | h | h | h | h | h | h
      all_goals first | omega | (rw [h]; rfl)
    · have c2 : ¬ k = 13 := by rw [← gq_eq (a := k) (b := 13) (by omega) (by omega)]; exact c2
      refine lv_iload_n hx hb d_Mo_parts_12 rfl (lv_at hl 0 rfl) ?_
      refine lv_bipush (v := 16) hx hb d_Mo_parts_13 (by decide) ?_
      refine lv_icmp_ne (tgt := 20) hx hb d_Mo_parts_15 (by decide) (fun c3 => ?_) (fun c3 => ?_)
      · have c3 : ¬ k = 16 := by rw [← gq_eq (a := k) (b := 16) (by omega) (by omega)]; exact c3
        refine lv_iload_n hx hb d_Mo_parts_20 rfl (lv_at hl 0 rfl) ?_
        refine lv_bipush (v := 11) hx hb d_Mo_parts_21 (by decide) ?_
        refine lv_icmp_eq (tgt := 32) hx hb d_Mo_parts_23 (by decide) (fun c4 => ?_) (fun c4 => ?_)
        · have c4 : k = 11 := by rw [← gq_eq (a := k) (b := 11) (by omega) (by omega)]; exact c4
          refine lv_iconst (v := 3) hx hb d_Mo_parts_32 (by decide) ?_
          refine gh_reti hAe C V hr hlocks d_Mo_parts_33 (by first | decide | omega | (dsimp only; omega)) (by first | decide | omega | (dsimp only; omega)) ?_
          have hall : k = 0 ∨ k = 1 ∨ k = 2 ∨ k = 3 ∨ k = 4 ∨ k = 5 ∨ k = 6 ∨ k = 7 ∨ k = 8 ∨ k = 9 ∨ k = 10 ∨ k = 11 ∨ k = 12 ∨ k = 13 ∨ k = 14 ∨ k = 15 ∨ k = 16 ∨ k = 17 ∨ k = 18 ∨ k = 19 ∨ k = 20 ∨ k = 21 ∨ k = 22 ∨ k = 23 ∨ k = 24 ∨ k = 25 ∨ k = 26 := by omega
          refine ⟨?_, rfl⟩
          rcases hall with h | h | h | h | h | h | h | h | h | h | h | h | h | h | h | h | h | h | h | h | h | h | h | h | h | h | h
          all_goals first | omega | (rw [h]; rfl)
        · have c4 : ¬ k = 11 := by rw [← gq_eq (a := k) (b := 11) (by omega) (by omega)]; exact c4
          refine lv_iload_n hx hb d_Mo_parts_26 rfl (lv_at hl 0 rfl) ?_
          refine lv_bipush (v := 14) hx hb d_Mo_parts_27 (by decide) ?_
          refine lv_icmp_ne (tgt := 34) hx hb d_Mo_parts_29 (by decide) (fun c5 => ?_) (fun c5 => ?_)
          · have c5 : ¬ k = 14 := by rw [← gq_eq (a := k) (b := 14) (by omega) (by omega)]; exact c5
            refine lv_iload_n hx hb d_Mo_parts_34 rfl (lv_at hl 0 rfl) ?_
            refine lv_bipush (v := 8) hx hb d_Mo_parts_35 (by decide) ?_
            refine lv_icmp_lt (tgt := 46) hx hb d_Mo_parts_37 (by decide) (fun c6 => ?_) (fun c6 => ?_)
            · have c6 : k < 8 := by rw [← gq_lt (a := k) (b := 8) (by omega) (by omega)]; exact c6
              refine lv_iload_n hx hb d_Mo_parts_46 rfl (lv_at hl 0 rfl) ?_
              refine lv_bipush (v := 22) hx hb d_Mo_parts_47 (by decide) ?_
              refine lv_icmp_lt (tgt := 56) hx hb d_Mo_parts_49 (by decide) (fun c7 => ?_) (fun c7 => ?_)
              · have c7 : k < 22 := by rw [← gq_lt (a := k) (b := 22) (by omega) (by omega)]; exact c7
                refine lv_iconst (v := 0) hx hb d_Mo_parts_56 (by decide) ?_
                refine gh_reti hAe C V hr hlocks d_Mo_parts_57 (by first | decide | omega | (dsimp only; omega)) (by first | decide | omega | (dsimp only; omega)) ?_
                have hall : k = 0 ∨ k = 1 ∨ k = 2 ∨ k = 3 ∨ k = 4 ∨ k = 5 ∨ k = 6 ∨ k = 7 ∨ k = 8 ∨ k = 9 ∨ k = 10 ∨ k = 11 ∨ k = 12 ∨ k = 13 ∨ k = 14 ∨ k = 15 ∨ k = 16 ∨ k = 17 ∨ k = 18 ∨ k = 19 ∨ k = 20 ∨ k = 21 ∨ k = 22 ∨ k = 23 ∨ k = 24 ∨ k = 25 ∨ k = 26 := by omega
                refine ⟨?_, rfl⟩
                rcases hall with h | h | h | h | h | h | h | h | h | h | h | h | h | h | h | h | h | h | h | h | h | h | h | h | h | h | h
                all_goals first | omega | (rw [h]; rfl)
              · have c7 : ¬ k < 22 := by rw [← gq_lt (a := k) (b := 22) (by omega) (by omega)]; exact c7
                refine lv_iconst (v := 2) hx hb d_Mo_parts_52 (by decide) ?_
                refine lv_goto (tgt := 57) hx hb d_Mo_parts_53 (by decide) ?_
                refine gh_reti hAe C V hr hlocks d_Mo_parts_57 (by first | decide | omega | (dsimp only; omega)) (by first | decide | omega | (dsimp only; omega)) ?_
                have hall : k = 0 ∨ k = 1 ∨ k = 2 ∨ k = 3 ∨ k = 4 ∨ k = 5 ∨ k = 6 ∨ k = 7 ∨ k = 8 ∨ k = 9 ∨ k = 10 ∨ k = 11 ∨ k = 12 ∨ k = 13 ∨ k = 14 ∨ k = 15 ∨ k = 16 ∨ k = 17 ∨ k = 18 ∨ k = 19 ∨ k = 20 ∨ k = 21 ∨ k = 22 ∨ k = 23 ∨ k = 24 ∨ k = 25 ∨ k = 26 := by omega
                refine ⟨?_, rfl⟩
                rcases hall with h | h | h | h | h | h | h | h | h | h | h | h | h | h | h | h | h | h | h | h | h | h | h | h | h | h | h
                all_goals first | omega | (rw [h]; rfl)
            · have c6 : ¬ k < 8 := by rw [← gq_lt (a := k) (b := 8) (by omega) (by omega)]; exact c6
              refine lv_iload_n hx hb d_Mo_parts_40 rfl (lv_at hl 0 rfl) ?_
              refine lv_bipush (v := 10) hx hb d_Mo_parts_41 (by decide) ?_
              refine lv_icmp_le (tgt := 52) hx hb d_Mo_parts_43 (by decide) (fun c8 => ?_) (fun c8 => ?_)
              · have c8 : k ≤ 10 := by rw [← gq_le (a := k) (b := 10) (by omega) (by omega)]; exact c8
                refine lv_iconst (v := 2) hx hb d_Mo_parts_52 (by decide) ?_
                refine lv_goto (tgt := 57) hx hb d_Mo_parts_53 (by decide) ?_
                refine gh_reti hAe C V hr hlocks d_Mo_parts_57 (by first | decide | omega | (dsimp only; omega)) (by first | decide | omega | (dsimp only; omega)) ?_
                have hall : k = 0 ∨ k = 1 ∨ k = 2 ∨ k = 3 ∨ k = 4 ∨ k = 5 ∨ k = 6 ∨ k = 7 ∨ k = 8 ∨ k = 9 ∨ k = 10 ∨ k = 11 ∨ k = 12 ∨ k = 13 ∨ k = 14 ∨ k = 15 ∨ k = 16 ∨ k = 17 ∨ k = 18 ∨ k = 19 ∨ k = 20 ∨ k = 21 ∨ k = 22 ∨ k = 23 ∨ k = 24 ∨ k = 25 ∨ k = 26 := by omega
                refine ⟨?_, rfl⟩
                rcases hall with h | h | h | h | h | h | h | h | h | h | h | h | h | h | h | h | h | h | h | h | h | h | h | h | h | h | h
                all_goals first | omega | (rw [h]; rfl)
              · have c8 : ¬ k ≤ 10 := by rw [← gq_le (a := k) (b := 10) (by omega) (by omega)]; exact c8
                refine lv_iload_n hx hb d_Mo_parts_46 rfl (lv_at hl 0 rfl) ?_
                refine lv_bipush (v := 22) hx hb d_Mo_parts_47 (by decide) ?_
                refine lv_icmp_lt (tgt := 56) hx hb d_Mo_parts_49 (by decide) (fun c9 => ?_) (fun c9 => ?_)
                · have c9 : k < 22 := by rw [← gq_lt (a := k) (b := 22) (by omega) (by omega)]; exact c9
                  refine lv_iconst (v := 0) hx hb d_Mo_parts_56 (by decide) ?_
                  refine gh_reti hAe C V hr hlocks d_Mo_parts_57 (by first | decide | omega | (dsimp only; omega)) (by first | decide | omega | (dsimp only; omega)) ?_
                  have hall : k = 0 ∨ k = 1 ∨ k = 2 ∨ k = 3 ∨ k = 4 ∨ k = 5 ∨ k = 6 ∨ k = 7 ∨ k = 8 ∨ k = 9 ∨ k = 10 ∨ k = 11 ∨ k = 12 ∨ k = 13 ∨ k = 14 ∨ k = 15 ∨ k = 16 ∨ k = 17 ∨ k = 18 ∨ k = 19 ∨ k = 20 ∨ k = 21 ∨ k = 22 ∨ k = 23 ∨ k = 24 ∨ k = 25 ∨ k = 26 := by omega
                  refine ⟨?_, rfl⟩
                  rcases hall with h | h | h | h | h | h | h | h | h | h | h | h | h | h | h | h | h | h | h | h | h | h | h | h | h | h | h
                  all_goals first | omega | (rw [h]; rfl)
                · have c9 : ¬ k < 22 := by rw [← gq_lt (a := k) (b := 22) (by omega) (by omega)]; exact c9
                  refine lv_iconst (v := 2) hx hb d_Mo_parts_52 (by decide) ?_
                  refine lv_goto (tgt := 57) hx hb d_Mo_parts_53 (by decide) ?_
                  refine gh_reti hAe C V hr hlocks d_Mo_parts_57 (by first | decide | omega | (dsimp only; omega)) (by first | decide | omega | (dsimp only; omega)) ?_
                  have hall : k = 0 ∨ k = 1 ∨ k = 2 ∨ k = 3 ∨ k = 4 ∨ k = 5 ∨ k = 6 ∨ k = 7 ∨ k = 8 ∨ k = 9 ∨ k = 10 ∨ k = 11 ∨ k = 12 ∨ k = 13 ∨ k = 14 ∨ k = 15 ∨ k = 16 ∨ k = 17 ∨ k = 18 ∨ k = 19 ∨ k = 20 ∨ k = 21 ∨ k = 22 ∨ k = 23 ∨ k = 24 ∨ k = 25 ∨ k = 26 := by omega
                  refine ⟨?_, rfl⟩
                  rcases hall with h | h | h | h | h | h | h | h | h | h | h | h | h | h | h | h | h | h | h | h | h | h | h | h | h | h | h
                  all_goals first | omega | (rw [h]; rfl)
          · have c5 : k = 14 := by rw [← gq_eq (a := k) (b := 14) (by omega) (by omega)]; exact c5
            refine lv_iconst (v := 3) hx hb d_Mo_parts_32 (by decide) ?_
            refine gh_reti hAe C V hr hlocks d_Mo_parts_33 (by first | decide | omega | (dsimp only; omega)) (by first | decide | omega | (dsimp only; omega)) ?_
            have hall : k = 0 ∨ k = 1 ∨ k = 2 ∨ k = 3 ∨ k = 4 ∨ k = 5 ∨ k = 6 ∨ k = 7 ∨ k = 8 ∨ k = 9 ∨ k = 10 ∨ k = 11 ∨ k = 12 ∨ k = 13 ∨ k = 14 ∨ k = 15 ∨ k = 16 ∨ k = 17 ∨ k = 18 ∨ k = 19 ∨ k = 20 ∨ k = 21 ∨ k = 22 ∨ k = 23 ∨ k = 24 ∨ k = 25 ∨ k = 26 := by omega
            refine ⟨?_, rfl⟩
            rcases hall with h | h | h | h | h | h | h | h | h | h | h | h | h | h | h | h | h | h | h | h | h | h | h | h | h | h | h
            all_goals first | omega | (rw [h]; rfl)
      · have c3 : k = 16 := by rw [← gq_eq (a := k) (b := 16) (by omega) (by omega)]; exact c3
        refine lv_iconst (v := 1) hx hb d_Mo_parts_18 (by decide) ?_
        refine gh_reti hAe C V hr hlocks d_Mo_parts_19 (by first | decide | omega | (dsimp only; omega)) (by first | decide | omega | (dsimp only; omega)) ?_
        have hall : k = 0 ∨ k = 1 ∨ k = 2 ∨ k = 3 ∨ k = 4 ∨ k = 5 ∨ k = 6 ∨ k = 7 ∨ k = 8 ∨ k = 9 ∨ k = 10 ∨ k = 11 ∨ k = 12 ∨ k = 13 ∨ k = 14 ∨ k = 15 ∨ k = 16 ∨ k = 17 ∨ k = 18 ∨ k = 19 ∨ k = 20 ∨ k = 21 ∨ k = 22 ∨ k = 23 ∨ k = 24 ∨ k = 25 ∨ k = 26 := by omega
        refine ⟨?_, rfl⟩
        rcases hall with h | h | h | h | h | h | h | h | h | h | h | h | h | h | h | h | h | h | h | h | h | h | h | h | h | h | h
        all_goals first | omega | (rw [h]; rfl)
theorem d_Mo_isWhole_0 : decode b_Mo_isWhole 0 = .ok (.iconst 1, 1) := by decide +kernel
theorem d_Mo_isWhole_1 : decode b_Mo_isWhole 1 = .ok (.istore_n 1, 1) := by decide +kernel
theorem d_Mo_isWhole_2 : decode b_Mo_isWhole 2 = .ok (.iconst 0, 1) := by decide +kernel
theorem d_Mo_isWhole_3 : decode b_Mo_isWhole 3 = .ok (.istore_n 2, 1) := by decide +kernel
theorem d_Mo_isWhole_4 : decode b_Mo_isWhole 4 = .ok (.aload_n 0, 1) := by decide +kernel
theorem d_Mo_isWhole_5 : decode b_Mo_isWhole 5 = .ok (.getfield 79, 3) := by decide +kernel
theorem d_Mo_isWhole_8 : decode b_Mo_isWhole 8 = .ok (.iconst 0, 1) := by decide +kernel
theorem d_Mo_isWhole_9 : decode b_Mo_isWhole 9 = .ok (.iconst 0, 1) := by decide +kernel
theorem d_Mo_isWhole_10 : decode b_Mo_isWhole 10 = .ok (.iastore, 1) := by decide +kernel
theorem d_Mo_isWhole_11 : decode b_Mo_isWhole 11 = .ok (.iload_n 1, 1) := by decide +kernel
theorem d_Mo_isWhole_12 : decode b_Mo_isWhole 12 = .ok (.ifCond .le 230, 3) := by decide +kernel
theorem d_Mo_isWhole_15 : decode b_Mo_isWhole 15 = .ok (.iinc 1 (-1), 3) := by decide +kernel
theorem d_Mo_isWhole_18 : decode b_Mo_isWhole 18 = .ok (.aload_n 0, 1) := by decide +kernel
theorem d_Mo_isWhole_19 : decode b_Mo_isWhole 19 = .ok (.getfield 79, 3) := by decide +kernel
theorem d_Mo_isWhole_22 : decode b_Mo_isWhole 22 = .ok (.iload_n 1, 1) := by decide +kernel
theorem d_Mo_isWhole_23 : decode b_Mo_isWhole 23 = .ok (.iaload, 1) := by decide +kernel
theorem d_Mo_isWhole_24 : decode b_Mo_isWhole 24 = .ok (.bipush 16, 2) := by decide +kernel
theorem d_Mo_isWhole_26 : decode b_Mo_isWhole 26 = .ok (.idiv, 1) := by decide +kernel
theorem d_Mo_isWhole_27 : decode b_Mo_isWhole 27 = .ok (.istore_n 3, 1) := by decide +kernel
theorem d_Mo_isWhole_28 : decode b_Mo_isWhole 28 = .ok (.aload_n 0, 1) := by decide +kernel
theorem d_Mo_isWhole_29 : decode b_Mo_isWhole 29 = .ok (.getfield 79, 3) := by decide +kernel
theorem d_Mo_isWhole_32 : decode b_Mo_isWhole 32 = .ok (.iload_n 1, 1) := by decide +kernel
theorem d_Mo_isWhole_33 : decode b_Mo_isWhole 33 = .ok (.iaload, 1) := by decide +kernel
theorem d_Mo_isWhole_34 : decode b_Mo_isWhole 34 = .ok (.bipush 16, 2) := by decide +kernel
theorem d_Mo_isWhole_36 : decode b_Mo_isWhole 36 = .ok (.irem, 1) := by decide +kernel
theorem d_Mo_isWhole_37 : decode b_Mo_isWhole 37 = .ok (.istore 4, 2) := by decide +kernel
theorem d_Mo_isWhole_39 : decode b_Mo_isWhole 39 = .ok (.iload 4, 2) := by decide +kernel
theorem d_Mo_isWhole_41 : decode b_Mo_isWhole 41 = .ok (.bipush 12, 2) := by decide +kernel
theorem d_Mo_isWhole_43 : decode b_Mo_isWhole 43 = .ok (.if_icmp .gt 22, 3) := by decide +kernel
theorem d_Mo_isWhole_46 : decode b_Mo_isWhole 46 = .ok (.iload_n 2, 1) := by decide +kernel
theorem d_Mo_isWhole_47 : decode b_Mo_isWhole 47 = .ok (.aload_n 0, 1) := by decide +kernel
theorem d_Mo_isWhole_48 : decode b_Mo_isWhole 48 = .ok (.getfield 262, 3) := by decide +kernel
theorem d_Mo_isWhole_51 : decode b_Mo_isWhole 51 = .ok (.if_icmp .ge 14, 3) := by decide +kernel
theorem d_Mo_isWhole_54 : decode b_Mo_isWhole 54 = .ok (.aload_n 0, 1) := by decide +kernel
theorem d_Mo_isWhole_55 : decode b_Mo_isWhole 55 = .ok (.getfield 73, 3) := by decide +kernel
theorem d_Mo_isWhole_58 : decode b_Mo_isWhole 58 = .ok (.iload_n 2, 1) := by decide +kernel
theorem d_Mo_isWhole_59 : decode b_Mo_isWhole 59 = .ok (.iaload, 1) := by decide +kernel
theorem d_Mo_isWhole_60 : decode b_Mo_isWhole 60 = .ok (.bipush 26, 2) := by decide +kernel
theorem d_Mo_isWhole_62 : decode b_Mo_isWhole 62 = .ok (.if_icmp .le 5, 3) := by decide +kernel
theorem d_Mo_isWhole_65 : decode b_Mo_isWhole 65 = .ok (.iconst 0, 1) := by decide +kernel
theorem d_Mo_isWhole_66 : decode b_Mo_isWhole 66 = .ok (.ireturn, 1) := by decide +kernel
theorem d_Mo_isWhole_67 : decode b_Mo_isWhole 67 = .ok (.aload_n 0, 1) := by decide +kernel
theorem d_Mo_isWhole_68 : decode b_Mo_isWhole 68 = .ok (.getfield 73, 3) := by decide +kernel
theorem d_Mo_isWhole_71 : decode b_Mo_isWhole 71 = .ok (.iload_n 2, 1) := by decide +kernel
theorem d_Mo_isWhole_72 : decode b_Mo_isWhole 72 = .ok (.iaload, 1) := by decide +kernel
theorem d_Mo_isWhole_73 : decode b_Mo_isWhole 73 = .ok (.istore 5, 2) := by decide +kernel
theorem d_Mo_isWhole_75 : decode b_Mo_isWhole 75 = .ok (.iload 5, 2) := by decide +kernel
theorem d_Mo_isWhole_77 : decode b_Mo_isWhole 77 = .ok (.iconst 1, 1) := by decide +kernel
theorem d_Mo_isWhole_78 : decode b_Mo_isWhole 78 = .ok (.if_icmp .eq 17, 3) := by decide +kernel
theorem d_Mo_isWhole_81 : decode b_Mo_isWhole 81 = .ok (.iload 5, 2) := by decide +kernel
theorem d_Mo_isWhole_83 : decode b_Mo_isWhole 83 = .ok (.bipush 6, 2) := by decide +kernel
theorem d_Mo_isWhole_85 : decode b_Mo_isWhole 85 = .ok (.if_icmp .eq 10, 3) := by decide +kernel
theorem d_Mo_isWhole_88 : decode b_Mo_isWhole 88 = .ok (.iload 5, 2) := by decide +kernel
theorem d_Mo_isWhole_90 : decode b_Mo_isWhole 90 = .ok (.bipush 16, 2) := by decide +kernel
theorem d_Mo_isWhole_92 : decode b_Mo_isWhole 92 = .ok (.if_icmp .ne 7, 3) := by decide +kernel
theorem d_Mo_isWhole_95 : decode b_Mo_isWhole 95 = .ok (.iconst 1, 1) := by decide +kernel
theorem d_Mo_isWhole_96 : decode b_Mo_isWhole 96 = .ok (.goto 4, 3) := by decide +kernel
theorem d_Mo_isWhole_99 : decode b_Mo_isWhole 99 = .ok (.iconst 0, 1) := by decide +kernel
theorem d_Mo_isWhole_100 : decode b_Mo_isWhole 100 = .ok (.istore 6, 2) := by decide +kernel
theorem d_Mo_isWhole_102 : decode b_Mo_isWhole 102 = .ok (.iload 6, 2) := by decide +kernel
theorem d_Mo_isWhole_104 : decode b_Mo_isWhole 104 = .ok (.ifCond .ne 15, 3) := by decide +kernel
theorem d_Mo_isWhole_107 : decode b_Mo_isWhole 107 = .ok (.iload 5, 2) := by decide +kernel
theorem d_Mo_isWhole_109 : decode b_Mo_isWhole 109 = .ok (.iconst 2, 1) := by decide +kernel
theorem d_Mo_isWhole_110 : decode b_Mo_isWhole 110 = .ok (.if_icmp .eq 9, 3) := by decide +kernel
theorem d_Mo_isWhole_113 : decode b_Mo_isWhole 113 = .ok (.iload 5, 2) := by decide +kernel
theorem d_Mo_isWhole_115 : decode b_Mo_isWhole 115 = .ok (.iconst 5, 1) := by decide +kernel
theorem d_Mo_isWhole_116 : decode b_Mo_isWhole 116 = .ok (.if_icmp .ne 7, 3) := by decide +kernel
theorem d_Mo_isWhole_119 : decode b_Mo_isWhole 119 = .ok (.iconst 1, 1) := by decide +kernel
theorem d_Mo_isWhole_120 : decode b_Mo_isWhole 120 = .ok (.goto 4, 3) := by decide +kernel
theorem d_Mo_isWhole_123 : decode b_Mo_isWhole 123 = .ok (.iconst 0, 1) := by decide +kernel
theorem d_Mo_isWhole_124 : decode b_Mo_isWhole 124 = .ok (.istore 7, 2) := by decide +kernel
theorem d_Mo_isWhole_126 : decode b_Mo_isWhole 126 = .ok (.iload 7, 2) := by decide +kernel
theorem d_Mo_isWhole_128 : decode b_Mo_isWhole 128 = .ok (.ifCond .eq 13, 3) := by decide +kernel
theorem d_Mo_isWhole_131 : decode b_Mo_isWhole 131 = .ok (.iload_n 2, 1) := by decide +kernel
theorem d_Mo_isWhole_132 : decode b_Mo_isWhole 132 = .ok (.iconst 1, 1) := by decide +kernel
theorem d_Mo_isWhole_133 : decode b_Mo_isWhole 133 = .ok (.iadd, 1) := by decide +kernel
theorem d_Mo_isWhole_134 : decode b_Mo_isWhole 134 = .ok (.aload_n 0, 1) := by decide +kernel
theorem d_Mo_isWhole_135 : decode b_Mo_isWhole 135 = .ok (.getfield 262, 3) := by decide +kernel
theorem d_Mo_isWhole_138 : decode b_Mo_isWhole 138 = .ok (.if_icmp .ge 34, 3) := by decide +kernel
theorem d_Mo_isWhole_141 : decode b_Mo_isWhole 141 = .ok (.iload 6, 2) := by decide +kernel
theorem d_Mo_isWhole_143 : decode b_Mo_isWhole 143 = .ok (.ifCond .eq 31, 3) := by decide +kernel
theorem d_Mo_isWhole_146 : decode b_Mo_isWhole 146 = .ok (.aload_n 0, 1) := by decide +kernel
theorem d_Mo_isWhole_147 : decode b_Mo_isWhole 147 = .ok (.getfield 73, 3) := by decide +kernel
theorem d_Mo_isWhole_150 : decode b_Mo_isWhole 150 = .ok (.iload_n 2, 1) := by decide +kernel
theorem d_Mo_isWhole_151 : decode b_Mo_isWhole 151 = .ok (.iconst 1, 1) := by decide +kernel
theorem d_Mo_isWhole_152 : decode b_Mo_isWhole 152 = .ok (.iadd, 1) := by decide +kernel
theorem d_Mo_isWhole_153 : decode b_Mo_isWhole 153 = .ok (.iaload, 1) := by decide +kernel
theorem d_Mo_isWhole_154 : decode b_Mo_isWhole 154 = .ok (.bipush 97, 2) := by decide +kernel
theorem d_Mo_isWhole_156 : decode b_Mo_isWhole 156 = .ok (.if_icmp .lt 16, 3) := by decide +kernel
theorem d_Mo_isWhole_159 : decode b_Mo_isWhole 159 = .ok (.aload_n 0, 1) := by decide +kernel
theorem d_Mo_isWhole_160 : decode b_Mo_isWhole 160 = .ok (.getfield 73, 3) := by decide +kernel
theorem d_Mo_isWhole_163 : decode b_Mo_isWhole 163 = .ok (.iload_n 2, 1) := by decide +kernel
theorem d_Mo_isWhole_164 : decode b_Mo_isWhole 164 = .ok (.iconst 1, 1) := by decide +kernel
theorem d_Mo_isWhole_165 : decode b_Mo_isWhole 165 = .ok (.iadd, 1) := by decide +kernel
theorem d_Mo_isWhole_166 : decode b_Mo_isWhole 166 = .ok (.iaload, 1) := by decide +kernel
theorem d_Mo_isWhole_167 : decode b_Mo_isWhole 167 = .ok (.bipush 122, 2) := by decide +kernel
theorem d_Mo_isWhole_169 : decode b_Mo_isWhole 169 = .ok (.if_icmp .le 5, 3) := by decide +kernel
theorem d_Mo_isWhole_172 : decode b_Mo_isWhole 172 = .ok (.iconst 0, 1) := by decide +kernel
theorem d_Mo_isWhole_173 : decode b_Mo_isWhole 173 = .ok (.ireturn, 1) := by decide +kernel
theorem d_Mo_isWhole_174 : decode b_Mo_isWhole 174 = .ok (.aload_n 0, 1) := by decide +kernel
theorem d_Mo_isWhole_175 : decode b_Mo_isWhole 175 = .ok (.getfield 76, 3) := by decide +kernel
theorem d_Mo_isWhole_178 : decode b_Mo_isWhole 178 = .ok (.iload_n 3, 1) := by decide +kernel
theorem d_Mo_isWhole_179 : decode b_Mo_isWhole 179 = .ok (.iload_n 2, 1) := by decide +kernel
theorem d_Mo_isWhole_180 : decode b_Mo_isWhole 180 = .ok (.iastore, 1) := by decide +kernel
theorem d_Mo_isWhole_181 : decode b_Mo_isWhole 181 = .ok (.iload 5, 2) := by decide +kernel
theorem d_Mo_isWhole_183 : decode b_Mo_isWhole 183 = .ok (.invokestatic 265, 3) := by decide +kernel
theorem d_Mo_isWhole_186 : decode b_Mo_isWhole 186 = .ok (.iconst 1, 1) := by decide +kernel
theorem d_Mo_isWhole_187 : decode b_Mo_isWhole 187 = .ok (.isub, 1) := by decide +kernel
theorem d_Mo_isWhole_188 : decode b_Mo_isWhole 188 = .ok (.istore 8, 2) := by decide +kernel
theorem d_Mo_isWhole_190 : decode b_Mo_isWhole 190 = .ok (.iload 8, 2) := by decide +kernel
theorem d_Mo_isWhole_192 : decode b_Mo_isWhole 192 = .ok (.ifCond .lt 32, 3) := by decide +kernel
theorem d_Mo_isWhole_195 : decode b_Mo_isWhole 195 = .ok (.aload_n 0, 1) := by decide +kernel
theorem d_Mo_isWhole_196 : decode b_Mo_isWhole 196 = .ok (.getfield 79, 3) := by decide +kernel
theorem d_Mo_isWhole_199 : decode b_Mo_isWhole 199 = .ok (.iload_n 1, 1) := by decide +kernel
theorem d_Mo_isWhole_200 : decode b_Mo_isWhole 200 = .ok (.bipush 16, 2) := by decide +kernel
theorem d_Mo_isWhole_202 : decode b_Mo_isWhole 202 = .ok (.iconst 3, 1) := by decide +kernel
theorem d_Mo_isWhole_203 : decode b_Mo_isWhole 203 = .ok (.iload_n 2, 1) := by decide +kernel
theorem d_Mo_isWhole_204 : decode b_Mo_isWhole 204 = .ok (.imul, 1) := by decide +kernel
theorem d_Mo_isWhole_205 : decode b_Mo_isWhole 205 = .ok (.iload 8, 2) := by decide +kernel
theorem d_Mo_isWhole_207 : decode b_Mo_isWhole 207 = .ok (.iadd, 1) := by decide +kernel
theorem d_Mo_isWhole_208 : decode b_Mo_isWhole 208 = .ok (.imul, 1) := by decide +kernel
theorem d_Mo_isWhole_209 : decode b_Mo_isWhole 209 = .ok (.iload 4, 2) := by decide +kernel
theorem d_Mo_isWhole_211 : decode b_Mo_isWhole 211 = .ok (.iadd, 1) := by decide +kernel
theorem d_Mo_isWhole_212 : decode b_Mo_isWhole 212 = .ok (.iconst 1, 1) := by decide +kernel
theorem d_Mo_isWhole_213 : decode b_Mo_isWhole 213 = .ok (.iadd, 1) := by decide +kernel
theorem d_Mo_isWhole_214 : decode b_Mo_isWhole 214 = .ok (.iastore, 1) := by decide +kernel
theorem d_Mo_isWhole_215 : decode b_Mo_isWhole 215 = .ok (.iinc 1 1, 3) := by decide +kernel
theorem d_Mo_isWhole_218 : decode b_Mo_isWhole 218 = .ok (.iinc 8 (-1), 3) := by decide +kernel
theorem d_Mo_isWhole_221 : decode b_Mo_isWhole 221 = .ok (.goto (-31), 3) := by decide +kernel
theorem d_Mo_isWhole_224 : decode b_Mo_isWhole 224 = .ok (.iload 7, 2) := by decide +kernel
theorem d_Mo_isWhole_226 : decode b_Mo_isWhole 226 = .ok (.ifCond .eq 9, 3) := by decide +kernel
theorem d_Mo_isWhole_229 : decode b_Mo_isWhole 229 = .ok (.iload_n 2, 1) := by decide +kernel
theorem d_Mo_isWhole_230 : decode b_Mo_isWhole 230 = .ok (.iconst 2, 1) := by decide +kernel
theorem d_Mo_isWhole_231 : decode b_Mo_isWhole 231 = .ok (.iadd, 1) := by decide +kernel
theorem d_Mo_isWhole_232 : decode b_Mo_isWhole 232 = .ok (.goto 6, 3) := by decide +kernel
theorem d_Mo_isWhole_235 : decode b_Mo_isWhole 235 = .ok (.iload_n 2, 1) := by decide +kernel
theorem d_Mo_isWhole_236 : decode b_Mo_isWhole 236 = .ok (.iconst 1, 1) := by decide +kernel
theorem d_Mo_isWhole_237 : decode b_Mo_isWhole 237 = .ok (.iadd, 1) := by decide +kernel
theorem d_Mo_isWhole_238 : decode b_Mo_isWhole 238 = .ok (.istore_n 2, 1) := by decide +kernel
theorem d_Mo_isWhole_239 : decode b_Mo_isWhole 239 = .ok (.goto (-228), 3) := by decide +kernel
theorem d_Mo_isWhole_242 : decode b_Mo_isWhole 242 = .ok (.iload_n 2, 1) := by decide +kernel
theorem d_Mo_isWhole_243 : decode b_Mo_isWhole 243 = .ok (.aload_n 0, 1) := by decide +kernel
theorem d_Mo_isWhole_244 : decode b_Mo_isWhole 244 = .ok (.getfield 262, 3) := by decide +kernel
theorem d_Mo_isWhole_247 : decode b_Mo_isWhole 247 = .ok (.if_icmp .ne 7, 3) := by decide +kernel
theorem d_Mo_isWhole_250 : decode b_Mo_isWhole 250 = .ok (.iconst 1, 1) := by decide +kernel
theorem d_Mo_isWhole_251 : decode b_Mo_isWhole 251 = .ok (.goto 4, 3) := by decide +kernel
theorem d_Mo_isWhole_254 : decode b_Mo_isWhole 254 = .ok (.iconst 0, 1) := by decide +kernel
theorem d_Mo_isWhole_255 : decode b_Mo_isWhole 255 = .ok (.ireturn, 1) := by decide +kernel
set_option maxHeartbeats 4000000 in
set_option maxRecDepth 100000 in
theorem c_Mo_isWhole (l : Launch) (E : gh_E) (sz : Nat) (f : gh_F) (a : Nat) (ad : Nat → Nat) (S : Nat → Int32) (I : Nat → Nat → Int32) (J : Nat → Nat → Int64) (N : Nat) (cb bg : Nat → Nat) (hX : mo_R E f a ad S I J) (hN : N ≤ 60) (hS30 : S 30 = nI N) (hcb : ∀ j, j < N → I 29 j = nI (cb j)) (hc256 : ∀ j, cb j < 256) (hbg : ∀ j, I 31 j = nI (bg j)) : gh_M l y_Mo_isWhole b_Mo_isWhole 9 (some .boolean) E sz [.ref a] f { frames := 5, cells := 0, slots := 0, locals := 140 } (fun r g => r = some (.int (gh_bi (decide ((qy_run cb N 13 0 (va_up bg 0 0)).1 = some N)))) ∧ ∃ I2, mo_X E f g a ad S I2 J ∧ (∀ k, k ≠ 31 → k ≠ 32 → I2 k = I k) ∧ ((qy_run cb N 13 0 (va_up bg 0 0)).1 = some N → ∀ j, j < 180 → I2 31 j = nI ((qy_run cb N 13 0 (va_up bg 0 0)).2 j))) := by
  refine gh_open (by decide) (Nat.le_of_ble_eq_true rfl) ?_
  intro p e s m args below meth c A ls hAe C V hr hlocks hname hl
  have hx := C.1
  have hb := C.2.1
  have hl : lv_has ls 9 [(0, .ref a)] := hl
  have X : mo_X E f f a ad S I J := ⟨hX, gh_fr.rf⟩
  refine lv_iconst (v := 1) hx hb d_Mo_isWhole_0 (by decide) ?_
  refine lv_istore_n hx hb d_Mo_isWhole_1 rfl hl (by decide) rfl (fun ls hl => ?_)
  have hl : lv_has ls 9 [(1, .int 1), (0, .ref a)] := hl
  refine lv_iconst (v := 0) hx hb d_Mo_isWhole_2 (by decide) ?_
  refine lv_istore_n hx hb d_Mo_isWhole_3 rfl hl (by decide) rfl (fun ls hl => ?_)
  have hl : lv_has ls 9 [(2, .int 0), (1, .int 1), (0, .ref a)] := hl
  refine lv_aload_n hx hb d_Mo_isWhole_4 rfl (lv_at hl 2 rfl) ?_
  refine mo_getA C V X 32 (by decide) (by decide) f_Mo_79 rfl d_Mo_isWhole_5 ?_
  refine lv_iconst (v := 0) hx hb d_Mo_isWhole_8 (by decide) ?_
  refine lv_iconst (v := 0) hx hb d_Mo_isWhole_9 (by decide) ?_
  refine mo_ist (k := 32) (i := 0) (n := 80) C V X (by decide) (by decide) rfl (by omega) (by decide) d_Mo_isWhole_10 (fun f1 H locs V1 X1 => ?_)
  clear V X
  have V := V1
  have X := X1
  clear V1 X1
  obtain ⟨RQ, hRQ⟩ : ∃ RQ : Nat → Nat → mo_I → Prop, RQ = (fun (m9 pl : Nat) (I1 : mo_I) => ∀ (f1 : gh_F) (H : Heap) (locs : List Loc) (ls : Array Slot), mo_X E f f1 a ad S I1 J → gh_V E A f1 s H locs → lv_has ls 9 [(0, .ref a), (1, .int (nI m9)), (2, .int (nI pl))] → (∀ k, k ≠ 31 → k ≠ 32 → I1 k = I k) → W p l e { frames := 5, cells := 0, slots := 0, locals := 140 } s m args below meth c H locs 0 0 (MQ below (gh_Q E f (fun r g => r = some (.int (gh_bi (decide ((qy_run cb N 13 0 (va_up bg 0 0)).1 = some N)))) ∧ ∃ I2, mo_X E f g a ad S I2 J ∧ (∀ k, k ≠ 31 → k ≠ 32 → I2 k = I k) ∧ ((qy_run cb N 13 0 (va_up bg 0 0)).1 = some N → ∀ j, j < 180 → I2 31 j = nI ((qy_run cb N 13 0 (va_up bg 0 0)).2 j)))) args s 0 0 A) (F0 m 11 ls [])) := ⟨_, rfl⟩
  have hcl : wh_cl cb N RQ (fun _ => (qy_run cb N 13 0 (va_up bg 0 0)).1 = none) := by
    rw [hRQ]
    refine ⟨?_, ?_⟩
    · intro I1 m9 pl o9 dp hm hpl ho hdp h32 hno hRF f1 H locs ls X V hl hfr
      by_cases hA : dp ≤ 12 ∧ pl < N ∧ cb pl < 27
      · have hdv : (16 * o9 + dp) / 16 = o9 := by omega
        have hrm : (16 * o9 + dp) % 16 = dp := by omega
        have hno2 : ¬ qy_has cb N pl = true := fun z => hno ⟨hA.1, hA.2.1, hA.2.2, z⟩
        rw [qy_has_of] at hno2
        have hd0 : I1 29 pl = nI (cb pl) := by rw [hfr 29 (by decide) (by decide)]; exact hcb pl (by omega)
        refine lv_iload_n hx hb d_Mo_isWhole_11 rfl (lv_at hl 1 rfl) ?_
        refine lv_if_le (tgt := 242) hx hb d_Mo_isWhole_12 (by decide) (fun c1 => absurd c1 (nI_npos (by omega))) (fun c1 => ?_)
        refine lv_iinc (k := 1) (v := (nI (m9 + 1)) + (-1)) hx hb d_Mo_isWhole_15 hl rfl (by rfl) (by decide) rfl (fun ls hl => ?_)
        have hl : lv_has ls 9 [(1, .int (nI ((m9 + 1) - 1))), (0, .ref a), (2, .int (nI pl))] := by rw [nI_dec (by omega)]; exact hl
        have hl : lv_has ls 9 [(1, .int (nI m9)), (0, .ref a), (2, .int (nI pl))] := hl
        refine lv_aload_n hx hb d_Mo_isWhole_18 rfl (lv_at hl 1 rfl) ?_
        refine mo_getA C V X 32 (by decide) (by decide) f_Mo_79 rfl d_Mo_isWhole_19 ?_
        refine lv_iload_n hx hb d_Mo_isWhole_22 rfl (lv_at hl 0 rfl) ?_
        refine mo_ild (k := 32) (i := m9) (n := 80) C V X (by decide) (by decide) rfl (by omega) (by decide) d_Mo_isWhole_23 ?_
        rw [show I1 32 m9 = nI (16 * o9 + dp) from h32]
        refine lv_bipush (v := 16) hx hb d_Mo_isWhole_24 (by decide) ?_
        refine lv_idiv hx hb d_Mo_isWhole_26 (by decide) ?_
        rw [show (16 : Int32) = nI 16 from rfl, nI_div (a := 16 * o9 + dp) (b := 16) (by omega) (by decide)]
        rw [hdv]
        refine lv_istore_n hx hb d_Mo_isWhole_27 rfl hl (by decide) rfl (fun ls hl => ?_)
        have hl : lv_has ls 9 [(3, .int (nI o9)), (1, .int (nI m9)), (0, .ref a), (2, .int (nI pl))] := hl
        refine lv_aload_n hx hb d_Mo_isWhole_28 rfl (lv_at hl 2 rfl) ?_
        refine mo_getA C V X 32 (by decide) (by decide) f_Mo_79 rfl d_Mo_isWhole_29 ?_
        refine lv_iload_n hx hb d_Mo_isWhole_32 rfl (lv_at hl 1 rfl) ?_
        refine mo_ild (k := 32) (i := m9) (n := 80) C V X (by decide) (by decide) rfl (by omega) (by decide) d_Mo_isWhole_33 ?_
        rw [show I1 32 m9 = nI (16 * o9 + dp) from h32]
        refine lv_bipush (v := 16) hx hb d_Mo_isWhole_34 (by decide) ?_
        refine lv_irem hx hb d_Mo_isWhole_36 (by decide) ?_
        rw [show (16 : Int32) = nI 16 from rfl, nI_rem (a := 16 * o9 + dp) (b := 16) (by omega) (by decide)]
        rw [hrm]
        refine lv_istore hx hb d_Mo_isWhole_37 hl (by decide) rfl (fun ls hl => ?_)
        have hl : lv_has ls 9 [(4, .int (nI dp)), (3, .int (nI o9)), (1, .int (nI m9)), (0, .ref a), (2, .int (nI pl))] := hl
        refine lv_iload hx hb d_Mo_isWhole_39 (lv_at hl 0 rfl) ?_
        refine lv_bipush (v := 12) hx hb d_Mo_isWhole_41 (by decide) ?_
        refine lv_icmp_gt (tgt := 65) hx hb d_Mo_isWhole_43 (by decide) (fun c2 => absurd c2 (Int32.not_lt.mpr (nI_le (b := 12) hA.1 (by decide)))) (fun c2 => ?_)
        refine lv_iload_n hx hb d_Mo_isWhole_46 rfl (lv_at hl 4 rfl) ?_
        refine lv_aload_n hx hb d_Mo_isWhole_47 rfl (lv_at hl 3 rfl) ?_
        refine mo_getS (v := nI N) C V X 30 (by decide) (by decide) (by first | rfl | exact hS30) f_Mo_262 rfl d_Mo_isWhole_48 ?_
        refine lv_icmp_ge (tgt := 65) hx hb d_Mo_isWhole_51 (by decide) (fun c3 => absurd c3 (nI_ge (by omega) (by omega))) (fun c3 => ?_)
        refine lv_aload_n hx hb d_Mo_isWhole_54 rfl (lv_at hl 3 rfl) ?_
        refine mo_getA C V X 29 (by decide) (by decide) f_Mo_73 rfl d_Mo_isWhole_55 ?_
        refine lv_iload_n hx hb d_Mo_isWhole_58 rfl (lv_at hl 4 rfl) ?_
        refine mo_ild (k := 29) (i := pl) (n := 60) C V X (by decide) (by decide) rfl (by omega) (by decide) d_Mo_isWhole_59 ?_
        rw [show I1 29 pl = nI (cb pl) from hd0]
        refine lv_bipush (v := 26) hx hb d_Mo_isWhole_60 (by decide) ?_
        refine lv_icmp_le (tgt := 67) hx hb d_Mo_isWhole_62 (by decide) (fun c4 => ?_) (fun c4 => absurd (nI_le (b := 26) (by omega) (by decide)) c4)
        rcases (show cb pl = 1 ∨ cb pl = 6 ∨ cb pl = 16 ∨ cb pl = 2 ∨ cb pl = 5 ∨ (cb pl ≠ 1 ∧ cb pl ≠ 6 ∧ cb pl ≠ 16 ∧ cb pl ≠ 2 ∧ cb pl ≠ 5) by omega) with hk | hk | hk | hk | hk | hk
        · refine lv_aload_n hx hb d_Mo_isWhole_67 rfl (lv_at hl 3 rfl) ?_
          refine mo_getA C V X 29 (by decide) (by decide) f_Mo_73 rfl d_Mo_isWhole_68 ?_
          refine lv_iload_n hx hb d_Mo_isWhole_71 rfl (lv_at hl 4 rfl) ?_
          refine mo_ild (k := 29) (i := pl) (n := 60) C V X (by decide) (by decide) rfl (by omega) (by decide) d_Mo_isWhole_72 ?_
          rw [show I1 29 pl = nI (cb pl) from hd0]
          refine lv_istore hx hb d_Mo_isWhole_73 hl (by decide) rfl (fun ls hl => ?_)
          have hl : lv_has ls 9 [(5, .int (nI (cb pl))), (4, .int (nI dp)), (3, .int (nI o9)), (1, .int (nI m9)), (0, .ref a), (2, .int (nI pl))] := hl
          refine lv_iload hx hb d_Mo_isWhole_75 (lv_at hl 0 rfl) ?_
          refine lv_iconst (v := 1) hx hb d_Mo_isWhole_77 (by decide) ?_
          refine lv_icmp_eq (tgt := 95) hx hb d_Mo_isWhole_78 (by decide) (fun c5 => ?_) (fun c5 => absurd (by rw [hk]; rfl) c5)
          refine lv_iconst (v := 1) hx hb d_Mo_isWhole_95 (by decide) ?_
          refine lv_goto (tgt := 100) hx hb d_Mo_isWhole_96 (by decide) ?_
          refine lv_istore hx hb d_Mo_isWhole_100 hl (by decide) rfl (fun ls hl => ?_)
          have hl : lv_has ls 9 [(6, .int 1), (5, .int (nI (cb pl))), (4, .int (nI dp)), (3, .int (nI o9)), (1, .int (nI m9)), (0, .ref a), (2, .int (nI pl))] := hl
          refine lv_iload hx hb d_Mo_isWhole_102 (lv_at hl 0 rfl) ?_
          refine lv_if_ne (tgt := 119) hx hb d_Mo_isWhole_104 (by decide) (fun c6 => ?_) (fun c6 => absurd c6 (by decide))
          refine lv_iconst (v := 1) hx hb d_Mo_isWhole_119 (by decide) ?_
          refine lv_goto (tgt := 124) hx hb d_Mo_isWhole_120 (by decide) ?_
          refine lv_istore hx hb d_Mo_isWhole_124 hl (by decide) rfl (fun ls hl => ?_)
          have hl : lv_has ls 9 [(7, .int 1), (6, .int 1), (5, .int (nI (cb pl))), (4, .int (nI dp)), (3, .int (nI o9)), (1, .int (nI m9)), (0, .ref a), (2, .int (nI pl))] := hl
          refine lv_iload hx hb d_Mo_isWhole_126 (lv_at hl 0 rfl) ?_
          refine lv_if_eq (tgt := 141) hx hb d_Mo_isWhole_128 (by decide) (fun c7 => absurd c7 (by decide)) (fun c7 => ?_)
          refine lv_iload_n hx hb d_Mo_isWhole_131 rfl (lv_at hl 7 rfl) ?_
          refine lv_iconst (v := 1) hx hb d_Mo_isWhole_132 (by decide) ?_
          refine gn_iadd (a := pl) (b := 1) hx hb d_Mo_isWhole_133 ?_
          refine lv_aload_n hx hb d_Mo_isWhole_134 rfl (lv_at hl 6 rfl) ?_
          refine mo_getS (v := nI N) C V X 30 (by decide) (by decide) (by first | rfl | exact hS30) f_Mo_262 rfl d_Mo_isWhole_135 ?_
          refine lv_icmp_ge (tgt := 172) hx hb d_Mo_isWhole_138 (by decide) (fun c8 => ?_) (fun c8 => ?_)
          · have c8 : N ≤ (pl + 1) := by rw [← gq_le (a := N) (b := pl + 1) (by omega) (by omega)]; exact c8
            refine lv_iconst (v := 0) hx hb d_Mo_isWhole_172 (by decide) ?_
            refine gh_retz hAe C V hr (by first | rfl | decide) hlocks d_Mo_isWhole_173 (by first | decide | omega | (dsimp only; omega)) (by first | decide | omega | (dsimp only; omega)) ?_
            exact ⟨by rw [decide_eq_false (by rw [hRF]; exact fun z => by cases z)]; rfl, _, X, hfr, fun z => by rw [hRF] at z; cases z⟩
          · have c8 : ¬ N ≤ (pl + 1) := by rw [← gq_le (a := N) (b := pl + 1) (by omega) (by omega)]; exact c8
            refine lv_iload hx hb d_Mo_isWhole_141 (lv_at hl 1 rfl) ?_
            refine lv_if_eq (tgt := 174) hx hb d_Mo_isWhole_143 (by decide) (fun c9 => absurd c9 (by decide)) (fun c9 => ?_)
            have hd1 : I1 29 (pl + 1) = nI (cb (pl + 1)) := by rw [hfr 29 (by decide) (by decide)]; exact hcb _ (by omega)
            have hcc := hc256 (pl + 1)
            refine lv_aload_n hx hb d_Mo_isWhole_146 rfl (lv_at hl 6 rfl) ?_
            refine mo_getA C V X 29 (by decide) (by decide) f_Mo_73 rfl d_Mo_isWhole_147 ?_
            refine lv_iload_n hx hb d_Mo_isWhole_150 rfl (lv_at hl 7 rfl) ?_
            refine lv_iconst (v := 1) hx hb d_Mo_isWhole_151 (by decide) ?_
            refine gn_iadd (a := pl) (b := 1) hx hb d_Mo_isWhole_152 ?_
            refine mo_ild (k := 29) (i := pl + 1) (n := 60) C V X (by decide) (by decide) rfl (by omega) (by decide) d_Mo_isWhole_153 ?_
            rw [show I1 29 (pl + 1) = nI (cb (pl + 1)) from hd1]
            refine lv_bipush (v := 97) hx hb d_Mo_isWhole_154 (by decide) ?_
            refine lv_icmp_lt (tgt := 172) hx hb d_Mo_isWhole_156 (by decide) (fun c10 => ?_) (fun c10 => ?_)
            · have c10 : (cb (pl + 1)) < 97 := by rw [← gq_lt (a := cb (pl + 1)) (b := 97) (by omega) (by omega)]; exact c10
              refine lv_iconst (v := 0) hx hb d_Mo_isWhole_172 (by decide) ?_
              refine gh_retz hAe C V hr (by first | rfl | decide) hlocks d_Mo_isWhole_173 (by first | decide | omega | (dsimp only; omega)) (by first | decide | omega | (dsimp only; omega)) ?_
              exact ⟨by rw [decide_eq_false (by rw [hRF]; exact fun z => by cases z)]; rfl, _, X, hfr, fun z => by rw [hRF] at z; cases z⟩
            · have c10 : ¬ (cb (pl + 1)) < 97 := by rw [← gq_lt (a := cb (pl + 1)) (b := 97) (by omega) (by omega)]; exact c10
              refine lv_aload_n hx hb d_Mo_isWhole_159 rfl (lv_at hl 6 rfl) ?_
              refine mo_getA C V X 29 (by decide) (by decide) f_Mo_73 rfl d_Mo_isWhole_160 ?_
              refine lv_iload_n hx hb d_Mo_isWhole_163 rfl (lv_at hl 7 rfl) ?_
              refine lv_iconst (v := 1) hx hb d_Mo_isWhole_164 (by decide) ?_
              refine gn_iadd (a := pl) (b := 1) hx hb d_Mo_isWhole_165 ?_
              refine mo_ild (k := 29) (i := pl + 1) (n := 60) C V X (by decide) (by decide) rfl (by omega) (by decide) d_Mo_isWhole_166 ?_
              rw [show I1 29 (pl + 1) = nI (cb (pl + 1)) from hd1]
              refine lv_bipush (v := 122) hx hb d_Mo_isWhole_167 (by decide) ?_
              refine lv_icmp_le (tgt := 174) hx hb d_Mo_isWhole_169 (by decide) (fun c11 => ?_) (fun c11 => ?_)
              · have c11 : (cb (pl + 1)) ≤ 122 := by rw [← gq_le (a := cb (pl + 1)) (b := 122) (by omega) (by omega)]; exact c11
                exact absurd (⟨fun _ => ⟨by omega, by omega, by omega⟩, fun _ => by omega⟩) hno2
              · have c11 : ¬ (cb (pl + 1)) ≤ 122 := by rw [← gq_le (a := cb (pl + 1)) (b := 122) (by omega) (by omega)]; exact c11
                refine lv_iconst (v := 0) hx hb d_Mo_isWhole_172 (by decide) ?_
                refine gh_retz hAe C V hr (by first | rfl | decide) hlocks d_Mo_isWhole_173 (by first | decide | omega | (dsimp only; omega)) (by first | decide | omega | (dsimp only; omega)) ?_
                exact ⟨by rw [decide_eq_false (by rw [hRF]; exact fun z => by cases z)]; rfl, _, X, hfr, fun z => by rw [hRF] at z; cases z⟩
        · refine lv_aload_n hx hb d_Mo_isWhole_67 rfl (lv_at hl 3 rfl) ?_
          refine mo_getA C V X 29 (by decide) (by decide) f_Mo_73 rfl d_Mo_isWhole_68 ?_
          refine lv_iload_n hx hb d_Mo_isWhole_71 rfl (lv_at hl 4 rfl) ?_
          refine mo_ild (k := 29) (i := pl) (n := 60) C V X (by decide) (by decide) rfl (by omega) (by decide) d_Mo_isWhole_72 ?_
          rw [show I1 29 pl = nI (cb pl) from hd0]
          refine lv_istore hx hb d_Mo_isWhole_73 hl (by decide) rfl (fun ls hl => ?_)
          have hl : lv_has ls 9 [(5, .int (nI (cb pl))), (4, .int (nI dp)), (3, .int (nI o9)), (1, .int (nI m9)), (0, .ref a), (2, .int (nI pl))] := hl
          refine lv_iload hx hb d_Mo_isWhole_75 (lv_at hl 0 rfl) ?_
          refine lv_iconst (v := 1) hx hb d_Mo_isWhole_77 (by decide) ?_
          refine lv_icmp_eq (tgt := 95) hx hb d_Mo_isWhole_78 (by decide) (fun c12 => absurd c12 (nI_nem (y := 1) (by omega) (by decide) (by omega))) (fun c12 => ?_)
          refine lv_iload hx hb d_Mo_isWhole_81 (lv_at hl 0 rfl) ?_
          refine lv_bipush (v := 6) hx hb d_Mo_isWhole_83 (by decide) ?_
          refine lv_icmp_eq (tgt := 95) hx hb d_Mo_isWhole_85 (by decide) (fun c13 => ?_) (fun c13 => absurd (by rw [hk]; rfl) c13)
          refine lv_iconst (v := 1) hx hb d_Mo_isWhole_95 (by decide) ?_
          refine lv_goto (tgt := 100) hx hb d_Mo_isWhole_96 (by decide) ?_
          refine lv_istore hx hb d_Mo_isWhole_100 hl (by decide) rfl (fun ls hl => ?_)
          have hl : lv_has ls 9 [(6, .int 1), (5, .int (nI (cb pl))), (4, .int (nI dp)), (3, .int (nI o9)), (1, .int (nI m9)), (0, .ref a), (2, .int (nI pl))] := hl
          refine lv_iload hx hb d_Mo_isWhole_102 (lv_at hl 0 rfl) ?_
          refine lv_if_ne (tgt := 119) hx hb d_Mo_isWhole_104 (by decide) (fun c14 => ?_) (fun c14 => absurd c14 (by decide))
          refine lv_iconst (v := 1) hx hb d_Mo_isWhole_119 (by decide) ?_
          refine lv_goto (tgt := 124) hx hb d_Mo_isWhole_120 (by decide) ?_
          refine lv_istore hx hb d_Mo_isWhole_124 hl (by decide) rfl (fun ls hl => ?_)
          have hl : lv_has ls 9 [(7, .int 1), (6, .int 1), (5, .int (nI (cb pl))), (4, .int (nI dp)), (3, .int (nI o9)), (1, .int (nI m9)), (0, .ref a), (2, .int (nI pl))] := hl
          refine lv_iload hx hb d_Mo_isWhole_126 (lv_at hl 0 rfl) ?_
          refine lv_if_eq (tgt := 141) hx hb d_Mo_isWhole_128 (by decide) (fun c15 => absurd c15 (by decide)) (fun c15 => ?_)
          refine lv_iload_n hx hb d_Mo_isWhole_131 rfl (lv_at hl 7 rfl) ?_
          refine lv_iconst (v := 1) hx hb d_Mo_isWhole_132 (by decide) ?_
          refine gn_iadd (a := pl) (b := 1) hx hb d_Mo_isWhole_133 ?_
          refine lv_aload_n hx hb d_Mo_isWhole_134 rfl (lv_at hl 6 rfl) ?_
          refine mo_getS (v := nI N) C V X 30 (by decide) (by decide) (by first | rfl | exact hS30) f_Mo_262 rfl d_Mo_isWhole_135 ?_
          refine lv_icmp_ge (tgt := 172) hx hb d_Mo_isWhole_138 (by decide) (fun c16 => ?_) (fun c16 => ?_)
          · have c16 : N ≤ (pl + 1) := by rw [← gq_le (a := N) (b := pl + 1) (by omega) (by omega)]; exact c16
            refine lv_iconst (v := 0) hx hb d_Mo_isWhole_172 (by decide) ?_
            refine gh_retz hAe C V hr (by first | rfl | decide) hlocks d_Mo_isWhole_173 (by first | decide | omega | (dsimp only; omega)) (by first | decide | omega | (dsimp only; omega)) ?_
            exact ⟨by rw [decide_eq_false (by rw [hRF]; exact fun z => by cases z)]; rfl, _, X, hfr, fun z => by rw [hRF] at z; cases z⟩
          · have c16 : ¬ N ≤ (pl + 1) := by rw [← gq_le (a := N) (b := pl + 1) (by omega) (by omega)]; exact c16
            refine lv_iload hx hb d_Mo_isWhole_141 (lv_at hl 1 rfl) ?_
            refine lv_if_eq (tgt := 174) hx hb d_Mo_isWhole_143 (by decide) (fun c17 => absurd c17 (by decide)) (fun c17 => ?_)
            have hd1 : I1 29 (pl + 1) = nI (cb (pl + 1)) := by rw [hfr 29 (by decide) (by decide)]; exact hcb _ (by omega)
            have hcc := hc256 (pl + 1)
            refine lv_aload_n hx hb d_Mo_isWhole_146 rfl (lv_at hl 6 rfl) ?_
            refine mo_getA C V X 29 (by decide) (by decide) f_Mo_73 rfl d_Mo_isWhole_147 ?_
            refine lv_iload_n hx hb d_Mo_isWhole_150 rfl (lv_at hl 7 rfl) ?_
            refine lv_iconst (v := 1) hx hb d_Mo_isWhole_151 (by decide) ?_
            refine gn_iadd (a := pl) (b := 1) hx hb d_Mo_isWhole_152 ?_
            refine mo_ild (k := 29) (i := pl + 1) (n := 60) C V X (by decide) (by decide) rfl (by omega) (by decide) d_Mo_isWhole_153 ?_
            rw [show I1 29 (pl + 1) = nI (cb (pl + 1)) from hd1]
            refine lv_bipush (v := 97) hx hb d_Mo_isWhole_154 (by decide) ?_
            refine lv_icmp_lt (tgt := 172) hx hb d_Mo_isWhole_156 (by decide) (fun c18 => ?_) (fun c18 => ?_)
            · have c18 : (cb (pl + 1)) < 97 := by rw [← gq_lt (a := cb (pl + 1)) (b := 97) (by omega) (by omega)]; exact c18
              refine lv_iconst (v := 0) hx hb d_Mo_isWhole_172 (by decide) ?_
              refine gh_retz hAe C V hr (by first | rfl | decide) hlocks d_Mo_isWhole_173 (by first | decide | omega | (dsimp only; omega)) (by first | decide | omega | (dsimp only; omega)) ?_
              exact ⟨by rw [decide_eq_false (by rw [hRF]; exact fun z => by cases z)]; rfl, _, X, hfr, fun z => by rw [hRF] at z; cases z⟩
            · have c18 : ¬ (cb (pl + 1)) < 97 := by rw [← gq_lt (a := cb (pl + 1)) (b := 97) (by omega) (by omega)]; exact c18
              refine lv_aload_n hx hb d_Mo_isWhole_159 rfl (lv_at hl 6 rfl) ?_
              refine mo_getA C V X 29 (by decide) (by decide) f_Mo_73 rfl d_Mo_isWhole_160 ?_
              refine lv_iload_n hx hb d_Mo_isWhole_163 rfl (lv_at hl 7 rfl) ?_
              refine lv_iconst (v := 1) hx hb d_Mo_isWhole_164 (by decide) ?_
              refine gn_iadd (a := pl) (b := 1) hx hb d_Mo_isWhole_165 ?_
              refine mo_ild (k := 29) (i := pl + 1) (n := 60) C V X (by decide) (by decide) rfl (by omega) (by decide) d_Mo_isWhole_166 ?_
              rw [show I1 29 (pl + 1) = nI (cb (pl + 1)) from hd1]
              refine lv_bipush (v := 122) hx hb d_Mo_isWhole_167 (by decide) ?_
              refine lv_icmp_le (tgt := 174) hx hb d_Mo_isWhole_169 (by decide) (fun c19 => ?_) (fun c19 => ?_)
              · have c19 : (cb (pl + 1)) ≤ 122 := by rw [← gq_le (a := cb (pl + 1)) (b := 122) (by omega) (by omega)]; exact c19
                exact absurd (⟨fun _ => ⟨by omega, by omega, by omega⟩, fun _ => by omega⟩) hno2
              · have c19 : ¬ (cb (pl + 1)) ≤ 122 := by rw [← gq_le (a := cb (pl + 1)) (b := 122) (by omega) (by omega)]; exact c19
                refine lv_iconst (v := 0) hx hb d_Mo_isWhole_172 (by decide) ?_
                refine gh_retz hAe C V hr (by first | rfl | decide) hlocks d_Mo_isWhole_173 (by first | decide | omega | (dsimp only; omega)) (by first | decide | omega | (dsimp only; omega)) ?_
                exact ⟨by rw [decide_eq_false (by rw [hRF]; exact fun z => by cases z)]; rfl, _, X, hfr, fun z => by rw [hRF] at z; cases z⟩
        · refine lv_aload_n hx hb d_Mo_isWhole_67 rfl (lv_at hl 3 rfl) ?_
          refine mo_getA C V X 29 (by decide) (by decide) f_Mo_73 rfl d_Mo_isWhole_68 ?_
          refine lv_iload_n hx hb d_Mo_isWhole_71 rfl (lv_at hl 4 rfl) ?_
          refine mo_ild (k := 29) (i := pl) (n := 60) C V X (by decide) (by decide) rfl (by omega) (by decide) d_Mo_isWhole_72 ?_
          rw [show I1 29 pl = nI (cb pl) from hd0]
          refine lv_istore hx hb d_Mo_isWhole_73 hl (by decide) rfl (fun ls hl => ?_)
          have hl : lv_has ls 9 [(5, .int (nI (cb pl))), (4, .int (nI dp)), (3, .int (nI o9)), (1, .int (nI m9)), (0, .ref a), (2, .int (nI pl))] := hl
          refine lv_iload hx hb d_Mo_isWhole_75 (lv_at hl 0 rfl) ?_
          refine lv_iconst (v := 1) hx hb d_Mo_isWhole_77 (by decide) ?_
          refine lv_icmp_eq (tgt := 95) hx hb d_Mo_isWhole_78 (by decide) (fun c20 => absurd c20 (nI_nem (y := 1) (by omega) (by decide) (by omega))) (fun c20 => ?_)
          refine lv_iload hx hb d_Mo_isWhole_81 (lv_at hl 0 rfl) ?_
          refine lv_bipush (v := 6) hx hb d_Mo_isWhole_83 (by decide) ?_
          refine lv_icmp_eq (tgt := 95) hx hb d_Mo_isWhole_85 (by decide) (fun c21 => absurd c21 (nI_nem (y := 6) (by omega) (by decide) (by omega))) (fun c21 => ?_)
          refine lv_iload hx hb d_Mo_isWhole_88 (lv_at hl 0 rfl) ?_
          refine lv_bipush (v := 16) hx hb d_Mo_isWhole_90 (by decide) ?_
          refine lv_icmp_ne (tgt := 99) hx hb d_Mo_isWhole_92 (by decide) (fun c22 => absurd (by rw [hk]; rfl) c22) (fun c22 => ?_)
          refine lv_iconst (v := 1) hx hb d_Mo_isWhole_95 (by decide) ?_
          refine lv_goto (tgt := 100) hx hb d_Mo_isWhole_96 (by decide) ?_
          refine lv_istore hx hb d_Mo_isWhole_100 hl (by decide) rfl (fun ls hl => ?_)
          have hl : lv_has ls 9 [(6, .int 1), (5, .int (nI (cb pl))), (4, .int (nI dp)), (3, .int (nI o9)), (1, .int (nI m9)), (0, .ref a), (2, .int (nI pl))] := hl
          refine lv_iload hx hb d_Mo_isWhole_102 (lv_at hl 0 rfl) ?_
          refine lv_if_ne (tgt := 119) hx hb d_Mo_isWhole_104 (by decide) (fun c23 => ?_) (fun c23 => absurd c23 (by decide))
          refine lv_iconst (v := 1) hx hb d_Mo_isWhole_119 (by decide) ?_
          refine lv_goto (tgt := 124) hx hb d_Mo_isWhole_120 (by decide) ?_
          refine lv_istore hx hb d_Mo_isWhole_124 hl (by decide) rfl (fun ls hl => ?_)
          have hl : lv_has ls 9 [(7, .int 1), (6, .int 1), (5, .int (nI (cb pl))), (4, .int (nI dp)), (3, .int (nI o9)), (1, .int (nI m9)), (0, .ref a), (2, .int (nI pl))] := hl
          refine lv_iload hx hb d_Mo_isWhole_126 (lv_at hl 0 rfl) ?_
          refine lv_if_eq (tgt := 141) hx hb d_Mo_isWhole_128 (by decide) (fun c24 => absurd c24 (by decide)) (fun c24 => ?_)
          refine lv_iload_n hx hb d_Mo_isWhole_131 rfl (lv_at hl 7 rfl) ?_
          refine lv_iconst (v := 1) hx hb d_Mo_isWhole_132 (by decide) ?_
          refine gn_iadd (a := pl) (b := 1) hx hb d_Mo_isWhole_133 ?_
          refine lv_aload_n hx hb d_Mo_isWhole_134 rfl (lv_at hl 6 rfl) ?_
          refine mo_getS (v := nI N) C V X 30 (by decide) (by decide) (by first | rfl | exact hS30) f_Mo_262 rfl d_Mo_isWhole_135 ?_
          refine lv_icmp_ge (tgt := 172) hx hb d_Mo_isWhole_138 (by decide) (fun c25 => ?_) (fun c25 => ?_)
          · have c25 : N ≤ (pl + 1) := by rw [← gq_le (a := N) (b := pl + 1) (by omega) (by omega)]; exact c25
            refine lv_iconst (v := 0) hx hb d_Mo_isWhole_172 (by decide) ?_
            refine gh_retz hAe C V hr (by first | rfl | decide) hlocks d_Mo_isWhole_173 (by first | decide | omega | (dsimp only; omega)) (by first | decide | omega | (dsimp only; omega)) ?_
            exact ⟨by rw [decide_eq_false (by rw [hRF]; exact fun z => by cases z)]; rfl, _, X, hfr, fun z => by rw [hRF] at z; cases z⟩
          · have c25 : ¬ N ≤ (pl + 1) := by rw [← gq_le (a := N) (b := pl + 1) (by omega) (by omega)]; exact c25
            refine lv_iload hx hb d_Mo_isWhole_141 (lv_at hl 1 rfl) ?_
            refine lv_if_eq (tgt := 174) hx hb d_Mo_isWhole_143 (by decide) (fun c26 => absurd c26 (by decide)) (fun c26 => ?_)
            have hd1 : I1 29 (pl + 1) = nI (cb (pl + 1)) := by rw [hfr 29 (by decide) (by decide)]; exact hcb _ (by omega)
            have hcc := hc256 (pl + 1)
            refine lv_aload_n hx hb d_Mo_isWhole_146 rfl (lv_at hl 6 rfl) ?_
            refine mo_getA C V X 29 (by decide) (by decide) f_Mo_73 rfl d_Mo_isWhole_147 ?_
            refine lv_iload_n hx hb d_Mo_isWhole_150 rfl (lv_at hl 7 rfl) ?_
            refine lv_iconst (v := 1) hx hb d_Mo_isWhole_151 (by decide) ?_
            refine gn_iadd (a := pl) (b := 1) hx hb d_Mo_isWhole_152 ?_
            refine mo_ild (k := 29) (i := pl + 1) (n := 60) C V X (by decide) (by decide) rfl (by omega) (by decide) d_Mo_isWhole_153 ?_
            rw [show I1 29 (pl + 1) = nI (cb (pl + 1)) from hd1]
            refine lv_bipush (v := 97) hx hb d_Mo_isWhole_154 (by decide) ?_
            refine lv_icmp_lt (tgt := 172) hx hb d_Mo_isWhole_156 (by decide) (fun c27 => ?_) (fun c27 => ?_)
            · have c27 : (cb (pl + 1)) < 97 := by rw [← gq_lt (a := cb (pl + 1)) (b := 97) (by omega) (by omega)]; exact c27
              refine lv_iconst (v := 0) hx hb d_Mo_isWhole_172 (by decide) ?_
              refine gh_retz hAe C V hr (by first | rfl | decide) hlocks d_Mo_isWhole_173 (by first | decide | omega | (dsimp only; omega)) (by first | decide | omega | (dsimp only; omega)) ?_
              exact ⟨by rw [decide_eq_false (by rw [hRF]; exact fun z => by cases z)]; rfl, _, X, hfr, fun z => by rw [hRF] at z; cases z⟩
            · have c27 : ¬ (cb (pl + 1)) < 97 := by rw [← gq_lt (a := cb (pl + 1)) (b := 97) (by omega) (by omega)]; exact c27
              refine lv_aload_n hx hb d_Mo_isWhole_159 rfl (lv_at hl 6 rfl) ?_
              refine mo_getA C V X 29 (by decide) (by decide) f_Mo_73 rfl d_Mo_isWhole_160 ?_
              refine lv_iload_n hx hb d_Mo_isWhole_163 rfl (lv_at hl 7 rfl) ?_
              refine lv_iconst (v := 1) hx hb d_Mo_isWhole_164 (by decide) ?_
              refine gn_iadd (a := pl) (b := 1) hx hb d_Mo_isWhole_165 ?_
              refine mo_ild (k := 29) (i := pl + 1) (n := 60) C V X (by decide) (by decide) rfl (by omega) (by decide) d_Mo_isWhole_166 ?_
              rw [show I1 29 (pl + 1) = nI (cb (pl + 1)) from hd1]
              refine lv_bipush (v := 122) hx hb d_Mo_isWhole_167 (by decide) ?_
              refine lv_icmp_le (tgt := 174) hx hb d_Mo_isWhole_169 (by decide) (fun c28 => ?_) (fun c28 => ?_)
              · have c28 : (cb (pl + 1)) ≤ 122 := by rw [← gq_le (a := cb (pl + 1)) (b := 122) (by omega) (by omega)]; exact c28
                exact absurd (⟨fun _ => ⟨by omega, by omega, by omega⟩, fun _ => by omega⟩) hno2
              · have c28 : ¬ (cb (pl + 1)) ≤ 122 := by rw [← gq_le (a := cb (pl + 1)) (b := 122) (by omega) (by omega)]; exact c28
                refine lv_iconst (v := 0) hx hb d_Mo_isWhole_172 (by decide) ?_
                refine gh_retz hAe C V hr (by first | rfl | decide) hlocks d_Mo_isWhole_173 (by first | decide | omega | (dsimp only; omega)) (by first | decide | omega | (dsimp only; omega)) ?_
                exact ⟨by rw [decide_eq_false (by rw [hRF]; exact fun z => by cases z)]; rfl, _, X, hfr, fun z => by rw [hRF] at z; cases z⟩
        · refine lv_aload_n hx hb d_Mo_isWhole_67 rfl (lv_at hl 3 rfl) ?_
          refine mo_getA C V X 29 (by decide) (by decide) f_Mo_73 rfl d_Mo_isWhole_68 ?_
          refine lv_iload_n hx hb d_Mo_isWhole_71 rfl (lv_at hl 4 rfl) ?_
          refine mo_ild (k := 29) (i := pl) (n := 60) C V X (by decide) (by decide) rfl (by omega) (by decide) d_Mo_isWhole_72 ?_
          rw [show I1 29 pl = nI (cb pl) from hd0]
          refine lv_istore hx hb d_Mo_isWhole_73 hl (by decide) rfl (fun ls hl => ?_)
          have hl : lv_has ls 9 [(5, .int (nI (cb pl))), (4, .int (nI dp)), (3, .int (nI o9)), (1, .int (nI m9)), (0, .ref a), (2, .int (nI pl))] := hl
          refine lv_iload hx hb d_Mo_isWhole_75 (lv_at hl 0 rfl) ?_
          refine lv_iconst (v := 1) hx hb d_Mo_isWhole_77 (by decide) ?_
          refine lv_icmp_eq (tgt := 95) hx hb d_Mo_isWhole_78 (by decide) (fun c29 => absurd c29 (nI_nem (y := 1) (by omega) (by decide) (by omega))) (fun c29 => ?_)
          refine lv_iload hx hb d_Mo_isWhole_81 (lv_at hl 0 rfl) ?_
          refine lv_bipush (v := 6) hx hb d_Mo_isWhole_83 (by decide) ?_
          refine lv_icmp_eq (tgt := 95) hx hb d_Mo_isWhole_85 (by decide) (fun c30 => absurd c30 (nI_nem (y := 6) (by omega) (by decide) (by omega))) (fun c30 => ?_)
          refine lv_iload hx hb d_Mo_isWhole_88 (lv_at hl 0 rfl) ?_
          refine lv_bipush (v := 16) hx hb d_Mo_isWhole_90 (by decide) ?_
          refine lv_icmp_ne (tgt := 99) hx hb d_Mo_isWhole_92 (by decide) (fun c31 => ?_) (fun c31 => absurd c31 (nI_nem (y := 16) (by omega) (by decide) (by omega)))
          refine lv_iconst (v := 0) hx hb d_Mo_isWhole_99 (by decide) ?_
          refine lv_istore hx hb d_Mo_isWhole_100 hl (by decide) rfl (fun ls hl => ?_)
          have hl : lv_has ls 9 [(6, .int 0), (5, .int (nI (cb pl))), (4, .int (nI dp)), (3, .int (nI o9)), (1, .int (nI m9)), (0, .ref a), (2, .int (nI pl))] := hl
          refine lv_iload hx hb d_Mo_isWhole_102 (lv_at hl 0 rfl) ?_
          refine lv_if_ne (tgt := 119) hx hb d_Mo_isWhole_104 (by decide) (fun c32 => absurd (by decide) c32) (fun c32 => ?_)
          refine lv_iload hx hb d_Mo_isWhole_107 (lv_at hl 1 rfl) ?_
          refine lv_iconst (v := 2) hx hb d_Mo_isWhole_109 (by decide) ?_
          refine lv_icmp_eq (tgt := 119) hx hb d_Mo_isWhole_110 (by decide) (fun c33 => ?_) (fun c33 => absurd (by rw [hk]; rfl) c33)
          refine lv_iconst (v := 1) hx hb d_Mo_isWhole_119 (by decide) ?_
          refine lv_goto (tgt := 124) hx hb d_Mo_isWhole_120 (by decide) ?_
          refine lv_istore hx hb d_Mo_isWhole_124 hl (by decide) rfl (fun ls hl => ?_)
          have hl : lv_has ls 9 [(7, .int 1), (6, .int 0), (5, .int (nI (cb pl))), (4, .int (nI dp)), (3, .int (nI o9)), (1, .int (nI m9)), (0, .ref a), (2, .int (nI pl))] := hl
          refine lv_iload hx hb d_Mo_isWhole_126 (lv_at hl 0 rfl) ?_
          refine lv_if_eq (tgt := 141) hx hb d_Mo_isWhole_128 (by decide) (fun c34 => absurd c34 (by decide)) (fun c34 => ?_)
          refine lv_iload_n hx hb d_Mo_isWhole_131 rfl (lv_at hl 7 rfl) ?_
          refine lv_iconst (v := 1) hx hb d_Mo_isWhole_132 (by decide) ?_
          refine gn_iadd (a := pl) (b := 1) hx hb d_Mo_isWhole_133 ?_
          refine lv_aload_n hx hb d_Mo_isWhole_134 rfl (lv_at hl 6 rfl) ?_
          refine mo_getS (v := nI N) C V X 30 (by decide) (by decide) (by first | rfl | exact hS30) f_Mo_262 rfl d_Mo_isWhole_135 ?_
          refine lv_icmp_ge (tgt := 172) hx hb d_Mo_isWhole_138 (by decide) (fun c35 => ?_) (fun c35 => ?_)
          · have c35 : N ≤ (pl + 1) := by rw [← gq_le (a := N) (b := pl + 1) (by omega) (by omega)]; exact c35
            refine lv_iconst (v := 0) hx hb d_Mo_isWhole_172 (by decide) ?_
            refine gh_retz hAe C V hr (by first | rfl | decide) hlocks d_Mo_isWhole_173 (by first | decide | omega | (dsimp only; omega)) (by first | decide | omega | (dsimp only; omega)) ?_
            exact ⟨by rw [decide_eq_false (by rw [hRF]; exact fun z => by cases z)]; rfl, _, X, hfr, fun z => by rw [hRF] at z; cases z⟩
          · have c35 : ¬ N ≤ (pl + 1) := by rw [← gq_le (a := N) (b := pl + 1) (by omega) (by omega)]; exact c35
            refine lv_iload hx hb d_Mo_isWhole_141 (lv_at hl 1 rfl) ?_
            refine lv_if_eq (tgt := 174) hx hb d_Mo_isWhole_143 (by decide) (fun c36 => ?_) (fun c36 => absurd (by decide) c36)
            exact absurd (⟨fun _ => ⟨by omega, by omega, by omega⟩, fun _ => by omega⟩) hno2
        · refine lv_aload_n hx hb d_Mo_isWhole_67 rfl (lv_at hl 3 rfl) ?_
          refine mo_getA C V X 29 (by decide) (by decide) f_Mo_73 rfl d_Mo_isWhole_68 ?_
          refine lv_iload_n hx hb d_Mo_isWhole_71 rfl (lv_at hl 4 rfl) ?_
          refine mo_ild (k := 29) (i := pl) (n := 60) C V X (by decide) (by decide) rfl (by omega) (by decide) d_Mo_isWhole_72 ?_
          rw [show I1 29 pl = nI (cb pl) from hd0]
          refine lv_istore hx hb d_Mo_isWhole_73 hl (by decide) rfl (fun ls hl => ?_)
          have hl : lv_has ls 9 [(5, .int (nI (cb pl))), (4, .int (nI dp)), (3, .int (nI o9)), (1, .int (nI m9)), (0, .ref a), (2, .int (nI pl))] := hl
          refine lv_iload hx hb d_Mo_isWhole_75 (lv_at hl 0 rfl) ?_
          refine lv_iconst (v := 1) hx hb d_Mo_isWhole_77 (by decide) ?_
          refine lv_icmp_eq (tgt := 95) hx hb d_Mo_isWhole_78 (by decide) (fun c37 => absurd c37 (nI_nem (y := 1) (by omega) (by decide) (by omega))) (fun c37 => ?_)
          refine lv_iload hx hb d_Mo_isWhole_81 (lv_at hl 0 rfl) ?_
          refine lv_bipush (v := 6) hx hb d_Mo_isWhole_83 (by decide) ?_
          refine lv_icmp_eq (tgt := 95) hx hb d_Mo_isWhole_85 (by decide) (fun c38 => absurd c38 (nI_nem (y := 6) (by omega) (by decide) (by omega))) (fun c38 => ?_)
          refine lv_iload hx hb d_Mo_isWhole_88 (lv_at hl 0 rfl) ?_
          refine lv_bipush (v := 16) hx hb d_Mo_isWhole_90 (by decide) ?_
          refine lv_icmp_ne (tgt := 99) hx hb d_Mo_isWhole_92 (by decide) (fun c39 => ?_) (fun c39 => absurd c39 (nI_nem (y := 16) (by omega) (by decide) (by omega)))
          refine lv_iconst (v := 0) hx hb d_Mo_isWhole_99 (by decide) ?_
          refine lv_istore hx hb d_Mo_isWhole_100 hl (by decide) rfl (fun ls hl => ?_)
          have hl : lv_has ls 9 [(6, .int 0), (5, .int (nI (cb pl))), (4, .int (nI dp)), (3, .int (nI o9)), (1, .int (nI m9)), (0, .ref a), (2, .int (nI pl))] := hl
          refine lv_iload hx hb d_Mo_isWhole_102 (lv_at hl 0 rfl) ?_
          refine lv_if_ne (tgt := 119) hx hb d_Mo_isWhole_104 (by decide) (fun c40 => absurd (by decide) c40) (fun c40 => ?_)
          refine lv_iload hx hb d_Mo_isWhole_107 (lv_at hl 1 rfl) ?_
          refine lv_iconst (v := 2) hx hb d_Mo_isWhole_109 (by decide) ?_
          refine lv_icmp_eq (tgt := 119) hx hb d_Mo_isWhole_110 (by decide) (fun c41 => absurd c41 (nI_nem (y := 2) (by omega) (by decide) (by omega))) (fun c41 => ?_)
          refine lv_iload hx hb d_Mo_isWhole_113 (lv_at hl 1 rfl) ?_
          refine lv_iconst (v := 5) hx hb d_Mo_isWhole_115 (by decide) ?_
          refine lv_icmp_ne (tgt := 123) hx hb d_Mo_isWhole_116 (by decide) (fun c42 => absurd (by rw [hk]; rfl) c42) (fun c42 => ?_)
          refine lv_iconst (v := 1) hx hb d_Mo_isWhole_119 (by decide) ?_
          refine lv_goto (tgt := 124) hx hb d_Mo_isWhole_120 (by decide) ?_
          refine lv_istore hx hb d_Mo_isWhole_124 hl (by decide) rfl (fun ls hl => ?_)
          have hl : lv_has ls 9 [(7, .int 1), (6, .int 0), (5, .int (nI (cb pl))), (4, .int (nI dp)), (3, .int (nI o9)), (1, .int (nI m9)), (0, .ref a), (2, .int (nI pl))] := hl
          refine lv_iload hx hb d_Mo_isWhole_126 (lv_at hl 0 rfl) ?_
          refine lv_if_eq (tgt := 141) hx hb d_Mo_isWhole_128 (by decide) (fun c43 => absurd c43 (by decide)) (fun c43 => ?_)
          refine lv_iload_n hx hb d_Mo_isWhole_131 rfl (lv_at hl 7 rfl) ?_
          refine lv_iconst (v := 1) hx hb d_Mo_isWhole_132 (by decide) ?_
          refine gn_iadd (a := pl) (b := 1) hx hb d_Mo_isWhole_133 ?_
          refine lv_aload_n hx hb d_Mo_isWhole_134 rfl (lv_at hl 6 rfl) ?_
          refine mo_getS (v := nI N) C V X 30 (by decide) (by decide) (by first | rfl | exact hS30) f_Mo_262 rfl d_Mo_isWhole_135 ?_
          refine lv_icmp_ge (tgt := 172) hx hb d_Mo_isWhole_138 (by decide) (fun c44 => ?_) (fun c44 => ?_)
          · have c44 : N ≤ (pl + 1) := by rw [← gq_le (a := N) (b := pl + 1) (by omega) (by omega)]; exact c44
            refine lv_iconst (v := 0) hx hb d_Mo_isWhole_172 (by decide) ?_
            refine gh_retz hAe C V hr (by first | rfl | decide) hlocks d_Mo_isWhole_173 (by first | decide | omega | (dsimp only; omega)) (by first | decide | omega | (dsimp only; omega)) ?_
            exact ⟨by rw [decide_eq_false (by rw [hRF]; exact fun z => by cases z)]; rfl, _, X, hfr, fun z => by rw [hRF] at z; cases z⟩
          · have c44 : ¬ N ≤ (pl + 1) := by rw [← gq_le (a := N) (b := pl + 1) (by omega) (by omega)]; exact c44
            refine lv_iload hx hb d_Mo_isWhole_141 (lv_at hl 1 rfl) ?_
            refine lv_if_eq (tgt := 174) hx hb d_Mo_isWhole_143 (by decide) (fun c45 => ?_) (fun c45 => absurd (by decide) c45)
            exact absurd (⟨fun _ => ⟨by omega, by omega, by omega⟩, fun _ => by omega⟩) hno2
        · refine lv_aload_n hx hb d_Mo_isWhole_67 rfl (lv_at hl 3 rfl) ?_
          refine mo_getA C V X 29 (by decide) (by decide) f_Mo_73 rfl d_Mo_isWhole_68 ?_
          refine lv_iload_n hx hb d_Mo_isWhole_71 rfl (lv_at hl 4 rfl) ?_
          refine mo_ild (k := 29) (i := pl) (n := 60) C V X (by decide) (by decide) rfl (by omega) (by decide) d_Mo_isWhole_72 ?_
          rw [show I1 29 pl = nI (cb pl) from hd0]
          refine lv_istore hx hb d_Mo_isWhole_73 hl (by decide) rfl (fun ls hl => ?_)
          have hl : lv_has ls 9 [(5, .int (nI (cb pl))), (4, .int (nI dp)), (3, .int (nI o9)), (1, .int (nI m9)), (0, .ref a), (2, .int (nI pl))] := hl
          refine lv_iload hx hb d_Mo_isWhole_75 (lv_at hl 0 rfl) ?_
          refine lv_iconst (v := 1) hx hb d_Mo_isWhole_77 (by decide) ?_
          refine lv_icmp_eq (tgt := 95) hx hb d_Mo_isWhole_78 (by decide) (fun c46 => absurd c46 (nI_nem (y := 1) (by omega) (by decide) (by omega))) (fun c46 => ?_)
          refine lv_iload hx hb d_Mo_isWhole_81 (lv_at hl 0 rfl) ?_
          refine lv_bipush (v := 6) hx hb d_Mo_isWhole_83 (by decide) ?_
          refine lv_icmp_eq (tgt := 95) hx hb d_Mo_isWhole_85 (by decide) (fun c47 => absurd c47 (nI_nem (y := 6) (by omega) (by decide) (by omega))) (fun c47 => ?_)
          refine lv_iload hx hb d_Mo_isWhole_88 (lv_at hl 0 rfl) ?_
          refine lv_bipush (v := 16) hx hb d_Mo_isWhole_90 (by decide) ?_
          refine lv_icmp_ne (tgt := 99) hx hb d_Mo_isWhole_92 (by decide) (fun c48 => ?_) (fun c48 => absurd c48 (nI_nem (y := 16) (by omega) (by decide) (by omega)))
          refine lv_iconst (v := 0) hx hb d_Mo_isWhole_99 (by decide) ?_
          refine lv_istore hx hb d_Mo_isWhole_100 hl (by decide) rfl (fun ls hl => ?_)
          have hl : lv_has ls 9 [(6, .int 0), (5, .int (nI (cb pl))), (4, .int (nI dp)), (3, .int (nI o9)), (1, .int (nI m9)), (0, .ref a), (2, .int (nI pl))] := hl
          refine lv_iload hx hb d_Mo_isWhole_102 (lv_at hl 0 rfl) ?_
          refine lv_if_ne (tgt := 119) hx hb d_Mo_isWhole_104 (by decide) (fun c49 => absurd (by decide) c49) (fun c49 => ?_)
          refine lv_iload hx hb d_Mo_isWhole_107 (lv_at hl 1 rfl) ?_
          refine lv_iconst (v := 2) hx hb d_Mo_isWhole_109 (by decide) ?_
          refine lv_icmp_eq (tgt := 119) hx hb d_Mo_isWhole_110 (by decide) (fun c50 => absurd c50 (nI_nem (y := 2) (by omega) (by decide) (by omega))) (fun c50 => ?_)
          refine lv_iload hx hb d_Mo_isWhole_113 (lv_at hl 1 rfl) ?_
          refine lv_iconst (v := 5) hx hb d_Mo_isWhole_115 (by decide) ?_
          refine lv_icmp_ne (tgt := 123) hx hb d_Mo_isWhole_116 (by decide) (fun c51 => ?_) (fun c51 => absurd c51 (nI_nem (y := 5) (by omega) (by decide) (by omega)))
          refine lv_iconst (v := 0) hx hb d_Mo_isWhole_123 (by decide) ?_
          refine lv_istore hx hb d_Mo_isWhole_124 hl (by decide) rfl (fun ls hl => ?_)
          have hl : lv_has ls 9 [(7, .int 0), (6, .int 0), (5, .int (nI (cb pl))), (4, .int (nI dp)), (3, .int (nI o9)), (1, .int (nI m9)), (0, .ref a), (2, .int (nI pl))] := hl
          refine lv_iload hx hb d_Mo_isWhole_126 (lv_at hl 0 rfl) ?_
          refine lv_if_eq (tgt := 141) hx hb d_Mo_isWhole_128 (by decide) (fun c52 => ?_) (fun c52 => absurd (by decide) c52)
          refine lv_iload hx hb d_Mo_isWhole_141 (lv_at hl 1 rfl) ?_
          refine lv_if_eq (tgt := 174) hx hb d_Mo_isWhole_143 (by decide) (fun c53 => ?_) (fun c53 => absurd (by decide) c53)
          exact absurd (⟨fun _ => ⟨by omega, by omega, by omega⟩, fun _ => by omega⟩) hno2
      · have hdv : (16 * o9 + dp) / 16 = o9 := by omega
        have hrm : (16 * o9 + dp) % 16 = dp := by omega
        refine lv_iload_n hx hb d_Mo_isWhole_11 rfl (lv_at hl 1 rfl) ?_
        refine lv_if_le (tgt := 242) hx hb d_Mo_isWhole_12 (by decide) (fun c54 => absurd c54 (nI_npos (by omega))) (fun c54 => ?_)
        refine lv_iinc (k := 1) (v := (nI (m9 + 1)) + (-1)) hx hb d_Mo_isWhole_15 hl rfl (by rfl) (by decide) rfl (fun ls hl => ?_)
        have hl : lv_has ls 9 [(1, .int (nI ((m9 + 1) - 1))), (0, .ref a), (2, .int (nI pl))] := by rw [nI_dec (by omega)]; exact hl
        have hl : lv_has ls 9 [(1, .int (nI m9)), (0, .ref a), (2, .int (nI pl))] := hl
        refine lv_aload_n hx hb d_Mo_isWhole_18 rfl (lv_at hl 1 rfl) ?_
        refine mo_getA C V X 32 (by decide) (by decide) f_Mo_79 rfl d_Mo_isWhole_19 ?_
        refine lv_iload_n hx hb d_Mo_isWhole_22 rfl (lv_at hl 0 rfl) ?_
        refine mo_ild (k := 32) (i := m9) (n := 80) C V X (by decide) (by decide) rfl (by omega) (by decide) d_Mo_isWhole_23 ?_
        rw [show I1 32 m9 = nI (16 * o9 + dp) from h32]
        refine lv_bipush (v := 16) hx hb d_Mo_isWhole_24 (by decide) ?_
        refine lv_idiv hx hb d_Mo_isWhole_26 (by decide) ?_
        rw [show (16 : Int32) = nI 16 from rfl, nI_div (a := 16 * o9 + dp) (b := 16) (by omega) (by decide)]
        rw [hdv]
        refine lv_istore_n hx hb d_Mo_isWhole_27 rfl hl (by decide) rfl (fun ls hl => ?_)
        have hl : lv_has ls 9 [(3, .int (nI o9)), (1, .int (nI m9)), (0, .ref a), (2, .int (nI pl))] := hl
        refine lv_aload_n hx hb d_Mo_isWhole_28 rfl (lv_at hl 2 rfl) ?_
        refine mo_getA C V X 32 (by decide) (by decide) f_Mo_79 rfl d_Mo_isWhole_29 ?_
        refine lv_iload_n hx hb d_Mo_isWhole_32 rfl (lv_at hl 1 rfl) ?_
        refine mo_ild (k := 32) (i := m9) (n := 80) C V X (by decide) (by decide) rfl (by omega) (by decide) d_Mo_isWhole_33 ?_
        rw [show I1 32 m9 = nI (16 * o9 + dp) from h32]
        refine lv_bipush (v := 16) hx hb d_Mo_isWhole_34 (by decide) ?_
        refine lv_irem hx hb d_Mo_isWhole_36 (by decide) ?_
        rw [show (16 : Int32) = nI 16 from rfl, nI_rem (a := 16 * o9 + dp) (b := 16) (by omega) (by decide)]
        rw [hrm]
        refine lv_istore hx hb d_Mo_isWhole_37 hl (by decide) rfl (fun ls hl => ?_)
        have hl : lv_has ls 9 [(4, .int (nI dp)), (3, .int (nI o9)), (1, .int (nI m9)), (0, .ref a), (2, .int (nI pl))] := hl
        refine lv_iload hx hb d_Mo_isWhole_39 (lv_at hl 0 rfl) ?_
        refine lv_bipush (v := 12) hx hb d_Mo_isWhole_41 (by decide) ?_
        refine lv_icmp_gt (tgt := 65) hx hb d_Mo_isWhole_43 (by decide) (fun c55 => ?_) (fun c55 => ?_)
        · have c55 : 12 < dp := by rw [← gq_lt (a := 12) (b := dp) (by omega) (by omega)]; exact c55
          refine lv_iconst (v := 0) hx hb d_Mo_isWhole_65 (by decide) ?_
          refine gh_retz hAe C V hr (by first | rfl | decide) hlocks d_Mo_isWhole_66 (by first | decide | omega | (dsimp only; omega)) (by first | decide | omega | (dsimp only; omega)) ?_
          exact ⟨by rw [decide_eq_false (by rw [hRF]; exact fun z => by cases z)]; rfl, _, X, hfr, fun z => by rw [hRF] at z; cases z⟩
        · have c55 : ¬ 12 < dp := by rw [← gq_lt (a := 12) (b := dp) (by omega) (by omega)]; exact c55
          refine lv_iload_n hx hb d_Mo_isWhole_46 rfl (lv_at hl 4 rfl) ?_
          refine lv_aload_n hx hb d_Mo_isWhole_47 rfl (lv_at hl 3 rfl) ?_
          refine mo_getS (v := nI N) C V X 30 (by decide) (by decide) (by first | rfl | exact hS30) f_Mo_262 rfl d_Mo_isWhole_48 ?_
          refine lv_icmp_ge (tgt := 65) hx hb d_Mo_isWhole_51 (by decide) (fun c56 => ?_) (fun c56 => ?_)
          · have c56 : N ≤ pl := by rw [← gq_le (a := N) (b := pl) (by omega) (by omega)]; exact c56
            refine lv_iconst (v := 0) hx hb d_Mo_isWhole_65 (by decide) ?_
            refine gh_retz hAe C V hr (by first | rfl | decide) hlocks d_Mo_isWhole_66 (by first | decide | omega | (dsimp only; omega)) (by first | decide | omega | (dsimp only; omega)) ?_
            exact ⟨by rw [decide_eq_false (by rw [hRF]; exact fun z => by cases z)]; rfl, _, X, hfr, fun z => by rw [hRF] at z; cases z⟩
          · have c56 : ¬ N ≤ pl := by rw [← gq_le (a := N) (b := pl) (by omega) (by omega)]; exact c56
            have hd0 : I1 29 pl = nI (cb pl) := by rw [hfr 29 (by decide) (by decide)]; exact hcb pl (by omega)
            have hcc := hc256 pl
            refine lv_aload_n hx hb d_Mo_isWhole_54 rfl (lv_at hl 3 rfl) ?_
            refine mo_getA C V X 29 (by decide) (by decide) f_Mo_73 rfl d_Mo_isWhole_55 ?_
            refine lv_iload_n hx hb d_Mo_isWhole_58 rfl (lv_at hl 4 rfl) ?_
            refine mo_ild (k := 29) (i := pl) (n := 60) C V X (by decide) (by decide) rfl (by omega) (by decide) d_Mo_isWhole_59 ?_
            rw [show I1 29 pl = nI (cb pl) from hd0]
            refine lv_bipush (v := 26) hx hb d_Mo_isWhole_60 (by decide) ?_
            refine lv_icmp_le (tgt := 67) hx hb d_Mo_isWhole_62 (by decide) (fun c57 => ?_) (fun c57 => ?_)
            · have c57 : (cb pl) ≤ 26 := by rw [← gq_le (a := cb pl) (b := 26) (by omega) (by omega)]; exact c57
              exact absurd ⟨by omega, by omega, by omega⟩ hA
            · have c57 : ¬ (cb pl) ≤ 26 := by rw [← gq_le (a := cb pl) (b := 26) (by omega) (by omega)]; exact c57
              refine lv_iconst (v := 0) hx hb d_Mo_isWhole_65 (by decide) ?_
              refine gh_retz hAe C V hr (by first | rfl | decide) hlocks d_Mo_isWhole_66 (by first | decide | omega | (dsimp only; omega)) (by first | decide | omega | (dsimp only; omega)) ?_
              exact ⟨by rw [decide_eq_false (by rw [hRF]; exact fun z => by cases z)]; rfl, _, X, hfr, fun z => by rw [hRF] at z; cases z⟩
    · intro I1 m9 pl o9 dp hm hpl ho hdp h32 hplN hk27 hhas hk f1 H locs ls X V hl hfr
      have hdv : (16 * o9 + dp) / 16 = o9 := by omega
      have hrm : (16 * o9 + dp) % 16 = dp := by omega
      have hk9 := hk
      clear hk
      have hh := qy_has_of.mp hhas
      have hd0 : I1 29 pl = nI (cb pl) := by rw [hfr 29 (by decide) (by decide)]; exact hcb pl (by omega)
      refine lv_iload_n hx hb d_Mo_isWhole_11 rfl (lv_at hl 1 rfl) ?_
      refine lv_if_le (tgt := 242) hx hb d_Mo_isWhole_12 (by decide) (fun c58 => absurd c58 (nI_npos (by omega))) (fun c58 => ?_)
      refine lv_iinc (k := 1) (v := (nI (m9 + 1)) + (-1)) hx hb d_Mo_isWhole_15 hl rfl (by rfl) (by decide) rfl (fun ls hl => ?_)
      have hl : lv_has ls 9 [(1, .int (nI ((m9 + 1) - 1))), (0, .ref a), (2, .int (nI pl))] := by rw [nI_dec (by omega)]; exact hl
      have hl : lv_has ls 9 [(1, .int (nI m9)), (0, .ref a), (2, .int (nI pl))] := hl
      refine lv_aload_n hx hb d_Mo_isWhole_18 rfl (lv_at hl 1 rfl) ?_
      refine mo_getA C V X 32 (by decide) (by decide) f_Mo_79 rfl d_Mo_isWhole_19 ?_
      refine lv_iload_n hx hb d_Mo_isWhole_22 rfl (lv_at hl 0 rfl) ?_
      refine mo_ild (k := 32) (i := m9) (n := 80) C V X (by decide) (by decide) rfl (by omega) (by decide) d_Mo_isWhole_23 ?_
      rw [show I1 32 m9 = nI (16 * o9 + dp) from h32]
      refine lv_bipush (v := 16) hx hb d_Mo_isWhole_24 (by decide) ?_
      refine lv_idiv hx hb d_Mo_isWhole_26 (by decide) ?_
      rw [show (16 : Int32) = nI 16 from rfl, nI_div (a := 16 * o9 + dp) (b := 16) (by omega) (by decide)]
      rw [hdv]
      refine lv_istore_n hx hb d_Mo_isWhole_27 rfl hl (by decide) rfl (fun ls hl => ?_)
      have hl : lv_has ls 9 [(3, .int (nI o9)), (1, .int (nI m9)), (0, .ref a), (2, .int (nI pl))] := hl
      refine lv_aload_n hx hb d_Mo_isWhole_28 rfl (lv_at hl 2 rfl) ?_
      refine mo_getA C V X 32 (by decide) (by decide) f_Mo_79 rfl d_Mo_isWhole_29 ?_
      refine lv_iload_n hx hb d_Mo_isWhole_32 rfl (lv_at hl 1 rfl) ?_
      refine mo_ild (k := 32) (i := m9) (n := 80) C V X (by decide) (by decide) rfl (by omega) (by decide) d_Mo_isWhole_33 ?_
      rw [show I1 32 m9 = nI (16 * o9 + dp) from h32]
      refine lv_bipush (v := 16) hx hb d_Mo_isWhole_34 (by decide) ?_
      refine lv_irem hx hb d_Mo_isWhole_36 (by decide) ?_
      rw [show (16 : Int32) = nI 16 from rfl, nI_rem (a := 16 * o9 + dp) (b := 16) (by omega) (by decide)]
      rw [hrm]
      refine lv_istore hx hb d_Mo_isWhole_37 hl (by decide) rfl (fun ls hl => ?_)
      have hl : lv_has ls 9 [(4, .int (nI dp)), (3, .int (nI o9)), (1, .int (nI m9)), (0, .ref a), (2, .int (nI pl))] := hl
      refine lv_iload hx hb d_Mo_isWhole_39 (lv_at hl 0 rfl) ?_
      refine lv_bipush (v := 12) hx hb d_Mo_isWhole_41 (by decide) ?_
      refine lv_icmp_gt (tgt := 65) hx hb d_Mo_isWhole_43 (by decide) (fun c59 => absurd c59 (Int32.not_lt.mpr (nI_le (b := 12) hdp (by decide)))) (fun c59 => ?_)
      refine lv_iload_n hx hb d_Mo_isWhole_46 rfl (lv_at hl 4 rfl) ?_
      refine lv_aload_n hx hb d_Mo_isWhole_47 rfl (lv_at hl 3 rfl) ?_
      refine mo_getS (v := nI N) C V X 30 (by decide) (by decide) (by first | rfl | exact hS30) f_Mo_262 rfl d_Mo_isWhole_48 ?_
      refine lv_icmp_ge (tgt := 65) hx hb d_Mo_isWhole_51 (by decide) (fun c60 => absurd c60 (nI_ge (by omega) (by omega))) (fun c60 => ?_)
      refine lv_aload_n hx hb d_Mo_isWhole_54 rfl (lv_at hl 3 rfl) ?_
      refine mo_getA C V X 29 (by decide) (by decide) f_Mo_73 rfl d_Mo_isWhole_55 ?_
      refine lv_iload_n hx hb d_Mo_isWhole_58 rfl (lv_at hl 4 rfl) ?_
      refine mo_ild (k := 29) (i := pl) (n := 60) C V X (by decide) (by decide) rfl (by omega) (by decide) d_Mo_isWhole_59 ?_
      rw [show I1 29 pl = nI (cb pl) from hd0]
      refine lv_bipush (v := 26) hx hb d_Mo_isWhole_60 (by decide) ?_
      refine lv_icmp_le (tgt := 67) hx hb d_Mo_isWhole_62 (by decide) (fun c61 => ?_) (fun c61 => absurd (nI_le (b := 26) (by omega) (by decide)) c61)
      rcases (show cb pl = 1 ∨ cb pl = 6 ∨ cb pl = 16 ∨ cb pl = 2 ∨ cb pl = 5 ∨ (cb pl ≠ 1 ∧ cb pl ≠ 6 ∧ cb pl ≠ 16 ∧ cb pl ≠ 2 ∧ cb pl ≠ 5) by omega) with hk | hk | hk | hk | hk | hk
      · have hq := hh.1 (by omega)
        have hd1 : I1 29 (pl + 1) = nI (cb (pl + 1)) := by rw [hfr 29 (by decide) (by decide)]; exact hcb _ (by omega)
        refine lv_aload_n hx hb d_Mo_isWhole_67 rfl (lv_at hl 3 rfl) ?_
        refine mo_getA C V X 29 (by decide) (by decide) f_Mo_73 rfl d_Mo_isWhole_68 ?_
        refine lv_iload_n hx hb d_Mo_isWhole_71 rfl (lv_at hl 4 rfl) ?_
        refine mo_ild (k := 29) (i := pl) (n := 60) C V X (by decide) (by decide) rfl (by omega) (by decide) d_Mo_isWhole_72 ?_
        rw [show I1 29 pl = nI (cb pl) from hd0]
        refine lv_istore hx hb d_Mo_isWhole_73 hl (by decide) rfl (fun ls hl => ?_)
        have hl : lv_has ls 9 [(5, .int (nI (cb pl))), (4, .int (nI dp)), (3, .int (nI o9)), (1, .int (nI m9)), (0, .ref a), (2, .int (nI pl))] := hl
        refine lv_iload hx hb d_Mo_isWhole_75 (lv_at hl 0 rfl) ?_
        refine lv_iconst (v := 1) hx hb d_Mo_isWhole_77 (by decide) ?_
        refine lv_icmp_eq (tgt := 95) hx hb d_Mo_isWhole_78 (by decide) (fun c62 => ?_) (fun c62 => absurd (by rw [hk]; rfl) c62)
        refine lv_iconst (v := 1) hx hb d_Mo_isWhole_95 (by decide) ?_
        refine lv_goto (tgt := 100) hx hb d_Mo_isWhole_96 (by decide) ?_
        refine lv_istore hx hb d_Mo_isWhole_100 hl (by decide) rfl (fun ls hl => ?_)
        have hl : lv_has ls 9 [(6, .int 1), (5, .int (nI (cb pl))), (4, .int (nI dp)), (3, .int (nI o9)), (1, .int (nI m9)), (0, .ref a), (2, .int (nI pl))] := hl
        refine lv_iload hx hb d_Mo_isWhole_102 (lv_at hl 0 rfl) ?_
        refine lv_if_ne (tgt := 119) hx hb d_Mo_isWhole_104 (by decide) (fun c63 => ?_) (fun c63 => absurd c63 (by decide))
        refine lv_iconst (v := 1) hx hb d_Mo_isWhole_119 (by decide) ?_
        refine lv_goto (tgt := 124) hx hb d_Mo_isWhole_120 (by decide) ?_
        refine lv_istore hx hb d_Mo_isWhole_124 hl (by decide) rfl (fun ls hl => ?_)
        have hl : lv_has ls 9 [(7, .int 1), (6, .int 1), (5, .int (nI (cb pl))), (4, .int (nI dp)), (3, .int (nI o9)), (1, .int (nI m9)), (0, .ref a), (2, .int (nI pl))] := hl
        refine lv_iload hx hb d_Mo_isWhole_126 (lv_at hl 0 rfl) ?_
        refine lv_if_eq (tgt := 141) hx hb d_Mo_isWhole_128 (by decide) (fun c64 => absurd c64 (by decide)) (fun c64 => ?_)
        refine lv_iload_n hx hb d_Mo_isWhole_131 rfl (lv_at hl 7 rfl) ?_
        refine lv_iconst (v := 1) hx hb d_Mo_isWhole_132 (by decide) ?_
        refine gn_iadd (a := pl) (b := 1) hx hb d_Mo_isWhole_133 ?_
        refine lv_aload_n hx hb d_Mo_isWhole_134 rfl (lv_at hl 6 rfl) ?_
        refine mo_getS (v := nI N) C V X 30 (by decide) (by decide) (by first | rfl | exact hS30) f_Mo_262 rfl d_Mo_isWhole_135 ?_
        refine lv_icmp_ge (tgt := 172) hx hb d_Mo_isWhole_138 (by decide) (fun c65 => absurd c65 (nI_ge (by omega) (by omega))) (fun c65 => ?_)
        refine lv_iload hx hb d_Mo_isWhole_141 (lv_at hl 1 rfl) ?_
        refine lv_if_eq (tgt := 174) hx hb d_Mo_isWhole_143 (by decide) (fun c66 => absurd c66 (by decide)) (fun c66 => ?_)
        refine lv_aload_n hx hb d_Mo_isWhole_146 rfl (lv_at hl 6 rfl) ?_
        refine mo_getA C V X 29 (by decide) (by decide) f_Mo_73 rfl d_Mo_isWhole_147 ?_
        refine lv_iload_n hx hb d_Mo_isWhole_150 rfl (lv_at hl 7 rfl) ?_
        refine lv_iconst (v := 1) hx hb d_Mo_isWhole_151 (by decide) ?_
        refine gn_iadd (a := pl) (b := 1) hx hb d_Mo_isWhole_152 ?_
        refine mo_ild (k := 29) (i := pl + 1) (n := 60) C V X (by decide) (by decide) rfl (by omega) (by decide) d_Mo_isWhole_153 ?_
        rw [show I1 29 (pl + 1) = nI (cb (pl + 1)) from hd1]
        refine lv_bipush (v := 97) hx hb d_Mo_isWhole_154 (by decide) ?_
        refine lv_icmp_lt (tgt := 172) hx hb d_Mo_isWhole_156 (by decide) (fun c67 => absurd c67 (nI_nlt (b := 97) (by omega) (by omega))) (fun c67 => ?_)
        refine lv_aload_n hx hb d_Mo_isWhole_159 rfl (lv_at hl 6 rfl) ?_
        refine mo_getA C V X 29 (by decide) (by decide) f_Mo_73 rfl d_Mo_isWhole_160 ?_
        refine lv_iload_n hx hb d_Mo_isWhole_163 rfl (lv_at hl 7 rfl) ?_
        refine lv_iconst (v := 1) hx hb d_Mo_isWhole_164 (by decide) ?_
        refine gn_iadd (a := pl) (b := 1) hx hb d_Mo_isWhole_165 ?_
        refine mo_ild (k := 29) (i := pl + 1) (n := 60) C V X (by decide) (by decide) rfl (by omega) (by decide) d_Mo_isWhole_166 ?_
        rw [show I1 29 (pl + 1) = nI (cb (pl + 1)) from hd1]
        refine lv_bipush (v := 122) hx hb d_Mo_isWhole_167 (by decide) ?_
        refine lv_icmp_le (tgt := 174) hx hb d_Mo_isWhole_169 (by decide) (fun c68 => ?_) (fun c68 => absurd (nI_le (b := 122) (by omega) (by decide)) c68)
        refine lv_aload_n hx hb d_Mo_isWhole_174 rfl (lv_at hl 6 rfl) ?_
        refine mo_getA C V X 31 (by decide) (by decide) f_Mo_76 rfl d_Mo_isWhole_175 ?_
        refine lv_iload_n hx hb d_Mo_isWhole_178 rfl (lv_at hl 4 rfl) ?_
        refine lv_iload_n hx hb d_Mo_isWhole_179 rfl (lv_at hl 7 rfl) ?_
        refine mo_ist (k := 31) (i := o9) (n := 180) C V X (by decide) (by decide) rfl (by omega) (by decide) d_Mo_isWhole_180 (fun f1 H locs V1 X1 => ?_)
        clear V X
        have V := V1
        have X := X1
        clear V1 X1
        refine lv_iload hx hb d_Mo_isWhole_181 (lv_at hl 2 rfl) ?_
        refine gh_callS C V hl.1 m_Mo_parts l_Mo_265 (c_Mo_parts l E _ _ (cb pl) hk27) rfl ⟨by first | decide | omega | (dsimp only; omega), by first | decide | omega | (dsimp only; omega)⟩ ⟨by first | decide | omega | (dsimp only; omega), by first | decide | omega | (dsimp only; omega)⟩ (Nat.le_of_ble_eq_true rfl) rfl d_Mo_isWhole_183 (fun r z9 H locs hp V1 => ?_)
        obtain ⟨rfl, he9⟩ := hp
        rw [he9] at V1
        have V := V1
        have hkp : qy_parts (cb pl) = 0 := by rw [hk]; decide
        rw [hkp]
        refine W.eq (g2 := F0 m 186 ls [.int 0]) rfl ?_
        refine lv_iconst (v := 1) hx hb d_Mo_isWhole_186 (by decide) ?_
        refine lv_isub hx hb d_Mo_isWhole_187 ?_
        refine W.eq (g2 := F0 m 188 ls [.int (-1)]) rfl ?_
        refine lv_istore hx hb d_Mo_isWhole_188 hl (by decide) rfl (fun ls hl => ?_)
        have hl : lv_has ls 9 [(8, .int ((-1))), (7, .int 1), (6, .int 1), (5, .int (nI (cb pl))), (4, .int (nI dp)), (3, .int (nI o9)), (1, .int (nI m9)), (0, .ref a), (2, .int (nI pl))] := hl
        refine lv_iload hx hb d_Mo_isWhole_190 (lv_at hl 0 rfl) ?_
        refine lv_if_lt (tgt := 224) hx hb d_Mo_isWhole_192 (by decide) (fun c69 => ?_) (fun c69 => absurd (by decide) c69)
        refine lv_iload hx hb d_Mo_isWhole_224 (lv_at hl 1 rfl) ?_
        refine lv_if_eq (tgt := 235) hx hb d_Mo_isWhole_226 (by decide) (fun c70 => absurd c70 (by decide)) (fun c70 => ?_)
        refine lv_iload_n hx hb d_Mo_isWhole_229 rfl (lv_at hl 8 rfl) ?_
        refine lv_iconst (v := 2) hx hb d_Mo_isWhole_230 (by decide) ?_
        refine gn_iadd (a := pl) (b := 2) hx hb d_Mo_isWhole_231 ?_
        refine lv_goto (tgt := 238) hx hb d_Mo_isWhole_232 (by decide) ?_
        refine lv_istore_n hx hb d_Mo_isWhole_238 rfl hl (by decide) rfl (fun ls hl => ?_)
        have hl : lv_has ls 9 [(2, .int (nI (pl + 2))), (8, .int ((-1))), (7, .int 1), (6, .int 1), (5, .int (nI (cb pl))), (4, .int (nI dp)), (3, .int (nI o9)), (1, .int (nI m9)), (0, .ref a)] := hl
        refine lv_goto (tgt := 11) hx hb d_Mo_isWhole_239 (by decide) ?_
        have hl : lv_has ls 9 [(0, .ref a), (1, .int (nI m9)), (2, .int (nI (pl + 2)))] := lv_sub hl [8, 7, 0] rfl
        have hwn : wh_n cb pl = pl + 2 := by unfold wh_n; rw [if_pos (by rw [hk]; decide)]
        rw [hkp, hwn] at hk9
        refine hk9 _ ⟨fun j hj => ?_, fun i hi => ?_, fun j hj => ?_, fun k h1 h2 => ?_⟩ _ _ _ ls X V hl (fun k h1 h2 => ?_)
        · by_cases e : j = o9
          · rw [if_pos e, e]; simp [va_up, upd]
          · rw [if_neg e]; simp [va_up, upd, e]
        · exact absurd hi (Nat.not_lt_zero i)
        · simp only [va_up, upd]; simp
        · simp [va_up, h1, h2]
        · simp [va_up, h1, h2]; exact hfr k h1 h2
      · have hq := hh.1 (by omega)
        have hd1 : I1 29 (pl + 1) = nI (cb (pl + 1)) := by rw [hfr 29 (by decide) (by decide)]; exact hcb _ (by omega)
        refine lv_aload_n hx hb d_Mo_isWhole_67 rfl (lv_at hl 3 rfl) ?_
        refine mo_getA C V X 29 (by decide) (by decide) f_Mo_73 rfl d_Mo_isWhole_68 ?_
        refine lv_iload_n hx hb d_Mo_isWhole_71 rfl (lv_at hl 4 rfl) ?_
        refine mo_ild (k := 29) (i := pl) (n := 60) C V X (by decide) (by decide) rfl (by omega) (by decide) d_Mo_isWhole_72 ?_
        rw [show I1 29 pl = nI (cb pl) from hd0]
        refine lv_istore hx hb d_Mo_isWhole_73 hl (by decide) rfl (fun ls hl => ?_)
        have hl : lv_has ls 9 [(5, .int (nI (cb pl))), (4, .int (nI dp)), (3, .int (nI o9)), (1, .int (nI m9)), (0, .ref a), (2, .int (nI pl))] := hl
        refine lv_iload hx hb d_Mo_isWhole_75 (lv_at hl 0 rfl) ?_
        refine lv_iconst (v := 1) hx hb d_Mo_isWhole_77 (by decide) ?_
        refine lv_icmp_eq (tgt := 95) hx hb d_Mo_isWhole_78 (by decide) (fun c71 => absurd c71 (nI_nem (y := 1) (by omega) (by decide) (by omega))) (fun c71 => ?_)
        refine lv_iload hx hb d_Mo_isWhole_81 (lv_at hl 0 rfl) ?_
        refine lv_bipush (v := 6) hx hb d_Mo_isWhole_83 (by decide) ?_
        refine lv_icmp_eq (tgt := 95) hx hb d_Mo_isWhole_85 (by decide) (fun c72 => ?_) (fun c72 => absurd (by rw [hk]; rfl) c72)
        refine lv_iconst (v := 1) hx hb d_Mo_isWhole_95 (by decide) ?_
        refine lv_goto (tgt := 100) hx hb d_Mo_isWhole_96 (by decide) ?_
        refine lv_istore hx hb d_Mo_isWhole_100 hl (by decide) rfl (fun ls hl => ?_)
        have hl : lv_has ls 9 [(6, .int 1), (5, .int (nI (cb pl))), (4, .int (nI dp)), (3, .int (nI o9)), (1, .int (nI m9)), (0, .ref a), (2, .int (nI pl))] := hl
        refine lv_iload hx hb d_Mo_isWhole_102 (lv_at hl 0 rfl) ?_
        refine lv_if_ne (tgt := 119) hx hb d_Mo_isWhole_104 (by decide) (fun c73 => ?_) (fun c73 => absurd c73 (by decide))
        refine lv_iconst (v := 1) hx hb d_Mo_isWhole_119 (by decide) ?_
        refine lv_goto (tgt := 124) hx hb d_Mo_isWhole_120 (by decide) ?_
        refine lv_istore hx hb d_Mo_isWhole_124 hl (by decide) rfl (fun ls hl => ?_)
        have hl : lv_has ls 9 [(7, .int 1), (6, .int 1), (5, .int (nI (cb pl))), (4, .int (nI dp)), (3, .int (nI o9)), (1, .int (nI m9)), (0, .ref a), (2, .int (nI pl))] := hl
        refine lv_iload hx hb d_Mo_isWhole_126 (lv_at hl 0 rfl) ?_
        refine lv_if_eq (tgt := 141) hx hb d_Mo_isWhole_128 (by decide) (fun c74 => absurd c74 (by decide)) (fun c74 => ?_)
        refine lv_iload_n hx hb d_Mo_isWhole_131 rfl (lv_at hl 7 rfl) ?_
        refine lv_iconst (v := 1) hx hb d_Mo_isWhole_132 (by decide) ?_
        refine gn_iadd (a := pl) (b := 1) hx hb d_Mo_isWhole_133 ?_
        refine lv_aload_n hx hb d_Mo_isWhole_134 rfl (lv_at hl 6 rfl) ?_
        refine mo_getS (v := nI N) C V X 30 (by decide) (by decide) (by first | rfl | exact hS30) f_Mo_262 rfl d_Mo_isWhole_135 ?_
        refine lv_icmp_ge (tgt := 172) hx hb d_Mo_isWhole_138 (by decide) (fun c75 => absurd c75 (nI_ge (by omega) (by omega))) (fun c75 => ?_)
        refine lv_iload hx hb d_Mo_isWhole_141 (lv_at hl 1 rfl) ?_
        refine lv_if_eq (tgt := 174) hx hb d_Mo_isWhole_143 (by decide) (fun c76 => absurd c76 (by decide)) (fun c76 => ?_)
        refine lv_aload_n hx hb d_Mo_isWhole_146 rfl (lv_at hl 6 rfl) ?_
        refine mo_getA C V X 29 (by decide) (by decide) f_Mo_73 rfl d_Mo_isWhole_147 ?_
        refine lv_iload_n hx hb d_Mo_isWhole_150 rfl (lv_at hl 7 rfl) ?_
        refine lv_iconst (v := 1) hx hb d_Mo_isWhole_151 (by decide) ?_
        refine gn_iadd (a := pl) (b := 1) hx hb d_Mo_isWhole_152 ?_
        refine mo_ild (k := 29) (i := pl + 1) (n := 60) C V X (by decide) (by decide) rfl (by omega) (by decide) d_Mo_isWhole_153 ?_
        rw [show I1 29 (pl + 1) = nI (cb (pl + 1)) from hd1]
        refine lv_bipush (v := 97) hx hb d_Mo_isWhole_154 (by decide) ?_
        refine lv_icmp_lt (tgt := 172) hx hb d_Mo_isWhole_156 (by decide) (fun c77 => absurd c77 (nI_nlt (b := 97) (by omega) (by omega))) (fun c77 => ?_)
        refine lv_aload_n hx hb d_Mo_isWhole_159 rfl (lv_at hl 6 rfl) ?_
        refine mo_getA C V X 29 (by decide) (by decide) f_Mo_73 rfl d_Mo_isWhole_160 ?_
        refine lv_iload_n hx hb d_Mo_isWhole_163 rfl (lv_at hl 7 rfl) ?_
        refine lv_iconst (v := 1) hx hb d_Mo_isWhole_164 (by decide) ?_
        refine gn_iadd (a := pl) (b := 1) hx hb d_Mo_isWhole_165 ?_
        refine mo_ild (k := 29) (i := pl + 1) (n := 60) C V X (by decide) (by decide) rfl (by omega) (by decide) d_Mo_isWhole_166 ?_
        rw [show I1 29 (pl + 1) = nI (cb (pl + 1)) from hd1]
        refine lv_bipush (v := 122) hx hb d_Mo_isWhole_167 (by decide) ?_
        refine lv_icmp_le (tgt := 174) hx hb d_Mo_isWhole_169 (by decide) (fun c78 => ?_) (fun c78 => absurd (nI_le (b := 122) (by omega) (by decide)) c78)
        refine lv_aload_n hx hb d_Mo_isWhole_174 rfl (lv_at hl 6 rfl) ?_
        refine mo_getA C V X 31 (by decide) (by decide) f_Mo_76 rfl d_Mo_isWhole_175 ?_
        refine lv_iload_n hx hb d_Mo_isWhole_178 rfl (lv_at hl 4 rfl) ?_
        refine lv_iload_n hx hb d_Mo_isWhole_179 rfl (lv_at hl 7 rfl) ?_
        refine mo_ist (k := 31) (i := o9) (n := 180) C V X (by decide) (by decide) rfl (by omega) (by decide) d_Mo_isWhole_180 (fun f1 H locs V1 X1 => ?_)
        clear V X
        have V := V1
        have X := X1
        clear V1 X1
        refine lv_iload hx hb d_Mo_isWhole_181 (lv_at hl 2 rfl) ?_
        refine gh_callS C V hl.1 m_Mo_parts l_Mo_265 (c_Mo_parts l E _ _ (cb pl) hk27) rfl ⟨by first | decide | omega | (dsimp only; omega), by first | decide | omega | (dsimp only; omega)⟩ ⟨by first | decide | omega | (dsimp only; omega), by first | decide | omega | (dsimp only; omega)⟩ (Nat.le_of_ble_eq_true rfl) rfl d_Mo_isWhole_183 (fun r z9 H locs hp V1 => ?_)
        obtain ⟨rfl, he9⟩ := hp
        rw [he9] at V1
        have V := V1
        have hkp : qy_parts (cb pl) = 0 := by rw [hk]; decide
        rw [hkp]
        refine W.eq (g2 := F0 m 186 ls [.int 0]) rfl ?_
        refine lv_iconst (v := 1) hx hb d_Mo_isWhole_186 (by decide) ?_
        refine lv_isub hx hb d_Mo_isWhole_187 ?_
        refine W.eq (g2 := F0 m 188 ls [.int (-1)]) rfl ?_
        refine lv_istore hx hb d_Mo_isWhole_188 hl (by decide) rfl (fun ls hl => ?_)
        have hl : lv_has ls 9 [(8, .int ((-1))), (7, .int 1), (6, .int 1), (5, .int (nI (cb pl))), (4, .int (nI dp)), (3, .int (nI o9)), (1, .int (nI m9)), (0, .ref a), (2, .int (nI pl))] := hl
        refine lv_iload hx hb d_Mo_isWhole_190 (lv_at hl 0 rfl) ?_
        refine lv_if_lt (tgt := 224) hx hb d_Mo_isWhole_192 (by decide) (fun c79 => ?_) (fun c79 => absurd (by decide) c79)
        refine lv_iload hx hb d_Mo_isWhole_224 (lv_at hl 1 rfl) ?_
        refine lv_if_eq (tgt := 235) hx hb d_Mo_isWhole_226 (by decide) (fun c80 => absurd c80 (by decide)) (fun c80 => ?_)
        refine lv_iload_n hx hb d_Mo_isWhole_229 rfl (lv_at hl 8 rfl) ?_
        refine lv_iconst (v := 2) hx hb d_Mo_isWhole_230 (by decide) ?_
        refine gn_iadd (a := pl) (b := 2) hx hb d_Mo_isWhole_231 ?_
        refine lv_goto (tgt := 238) hx hb d_Mo_isWhole_232 (by decide) ?_
        refine lv_istore_n hx hb d_Mo_isWhole_238 rfl hl (by decide) rfl (fun ls hl => ?_)
        have hl : lv_has ls 9 [(2, .int (nI (pl + 2))), (8, .int ((-1))), (7, .int 1), (6, .int 1), (5, .int (nI (cb pl))), (4, .int (nI dp)), (3, .int (nI o9)), (1, .int (nI m9)), (0, .ref a)] := hl
        refine lv_goto (tgt := 11) hx hb d_Mo_isWhole_239 (by decide) ?_
        have hl : lv_has ls 9 [(0, .ref a), (1, .int (nI m9)), (2, .int (nI (pl + 2)))] := lv_sub hl [8, 7, 0] rfl
        have hwn : wh_n cb pl = pl + 2 := by unfold wh_n; rw [if_pos (by rw [hk]; decide)]
        rw [hkp, hwn] at hk9
        refine hk9 _ ⟨fun j hj => ?_, fun i hi => ?_, fun j hj => ?_, fun k h1 h2 => ?_⟩ _ _ _ ls X V hl (fun k h1 h2 => ?_)
        · by_cases e : j = o9
          · rw [if_pos e, e]; simp [va_up, upd]
          · rw [if_neg e]; simp [va_up, upd, e]
        · exact absurd hi (Nat.not_lt_zero i)
        · simp only [va_up, upd]; simp
        · simp [va_up, h1, h2]
        · simp [va_up, h1, h2]; exact hfr k h1 h2
      · have hq := hh.1 (by omega)
        have hd1 : I1 29 (pl + 1) = nI (cb (pl + 1)) := by rw [hfr 29 (by decide) (by decide)]; exact hcb _ (by omega)
        refine lv_aload_n hx hb d_Mo_isWhole_67 rfl (lv_at hl 3 rfl) ?_
        refine mo_getA C V X 29 (by decide) (by decide) f_Mo_73 rfl d_Mo_isWhole_68 ?_
        refine lv_iload_n hx hb d_Mo_isWhole_71 rfl (lv_at hl 4 rfl) ?_
        refine mo_ild (k := 29) (i := pl) (n := 60) C V X (by decide) (by decide) rfl (by omega) (by decide) d_Mo_isWhole_72 ?_
        rw [show I1 29 pl = nI (cb pl) from hd0]
        refine lv_istore hx hb d_Mo_isWhole_73 hl (by decide) rfl (fun ls hl => ?_)
        have hl : lv_has ls 9 [(5, .int (nI (cb pl))), (4, .int (nI dp)), (3, .int (nI o9)), (1, .int (nI m9)), (0, .ref a), (2, .int (nI pl))] := hl
        refine lv_iload hx hb d_Mo_isWhole_75 (lv_at hl 0 rfl) ?_
        refine lv_iconst (v := 1) hx hb d_Mo_isWhole_77 (by decide) ?_
        refine lv_icmp_eq (tgt := 95) hx hb d_Mo_isWhole_78 (by decide) (fun c81 => absurd c81 (nI_nem (y := 1) (by omega) (by decide) (by omega))) (fun c81 => ?_)
        refine lv_iload hx hb d_Mo_isWhole_81 (lv_at hl 0 rfl) ?_
        refine lv_bipush (v := 6) hx hb d_Mo_isWhole_83 (by decide) ?_
        refine lv_icmp_eq (tgt := 95) hx hb d_Mo_isWhole_85 (by decide) (fun c82 => absurd c82 (nI_nem (y := 6) (by omega) (by decide) (by omega))) (fun c82 => ?_)
        refine lv_iload hx hb d_Mo_isWhole_88 (lv_at hl 0 rfl) ?_
        refine lv_bipush (v := 16) hx hb d_Mo_isWhole_90 (by decide) ?_
        refine lv_icmp_ne (tgt := 99) hx hb d_Mo_isWhole_92 (by decide) (fun c83 => absurd (by rw [hk]; rfl) c83) (fun c83 => ?_)
        refine lv_iconst (v := 1) hx hb d_Mo_isWhole_95 (by decide) ?_
        refine lv_goto (tgt := 100) hx hb d_Mo_isWhole_96 (by decide) ?_
        refine lv_istore hx hb d_Mo_isWhole_100 hl (by decide) rfl (fun ls hl => ?_)
        have hl : lv_has ls 9 [(6, .int 1), (5, .int (nI (cb pl))), (4, .int (nI dp)), (3, .int (nI o9)), (1, .int (nI m9)), (0, .ref a), (2, .int (nI pl))] := hl
        refine lv_iload hx hb d_Mo_isWhole_102 (lv_at hl 0 rfl) ?_
        refine lv_if_ne (tgt := 119) hx hb d_Mo_isWhole_104 (by decide) (fun c84 => ?_) (fun c84 => absurd c84 (by decide))
        refine lv_iconst (v := 1) hx hb d_Mo_isWhole_119 (by decide) ?_
        refine lv_goto (tgt := 124) hx hb d_Mo_isWhole_120 (by decide) ?_
        refine lv_istore hx hb d_Mo_isWhole_124 hl (by decide) rfl (fun ls hl => ?_)
        have hl : lv_has ls 9 [(7, .int 1), (6, .int 1), (5, .int (nI (cb pl))), (4, .int (nI dp)), (3, .int (nI o9)), (1, .int (nI m9)), (0, .ref a), (2, .int (nI pl))] := hl
        refine lv_iload hx hb d_Mo_isWhole_126 (lv_at hl 0 rfl) ?_
        refine lv_if_eq (tgt := 141) hx hb d_Mo_isWhole_128 (by decide) (fun c85 => absurd c85 (by decide)) (fun c85 => ?_)
        refine lv_iload_n hx hb d_Mo_isWhole_131 rfl (lv_at hl 7 rfl) ?_
        refine lv_iconst (v := 1) hx hb d_Mo_isWhole_132 (by decide) ?_
        refine gn_iadd (a := pl) (b := 1) hx hb d_Mo_isWhole_133 ?_
        refine lv_aload_n hx hb d_Mo_isWhole_134 rfl (lv_at hl 6 rfl) ?_
        refine mo_getS (v := nI N) C V X 30 (by decide) (by decide) (by first | rfl | exact hS30) f_Mo_262 rfl d_Mo_isWhole_135 ?_
        refine lv_icmp_ge (tgt := 172) hx hb d_Mo_isWhole_138 (by decide) (fun c86 => absurd c86 (nI_ge (by omega) (by omega))) (fun c86 => ?_)
        refine lv_iload hx hb d_Mo_isWhole_141 (lv_at hl 1 rfl) ?_
        refine lv_if_eq (tgt := 174) hx hb d_Mo_isWhole_143 (by decide) (fun c87 => absurd c87 (by decide)) (fun c87 => ?_)
        refine lv_aload_n hx hb d_Mo_isWhole_146 rfl (lv_at hl 6 rfl) ?_
        refine mo_getA C V X 29 (by decide) (by decide) f_Mo_73 rfl d_Mo_isWhole_147 ?_
        refine lv_iload_n hx hb d_Mo_isWhole_150 rfl (lv_at hl 7 rfl) ?_
        refine lv_iconst (v := 1) hx hb d_Mo_isWhole_151 (by decide) ?_
        refine gn_iadd (a := pl) (b := 1) hx hb d_Mo_isWhole_152 ?_
        refine mo_ild (k := 29) (i := pl + 1) (n := 60) C V X (by decide) (by decide) rfl (by omega) (by decide) d_Mo_isWhole_153 ?_
        rw [show I1 29 (pl + 1) = nI (cb (pl + 1)) from hd1]
        refine lv_bipush (v := 97) hx hb d_Mo_isWhole_154 (by decide) ?_
        refine lv_icmp_lt (tgt := 172) hx hb d_Mo_isWhole_156 (by decide) (fun c88 => absurd c88 (nI_nlt (b := 97) (by omega) (by omega))) (fun c88 => ?_)
        refine lv_aload_n hx hb d_Mo_isWhole_159 rfl (lv_at hl 6 rfl) ?_
        refine mo_getA C V X 29 (by decide) (by decide) f_Mo_73 rfl d_Mo_isWhole_160 ?_
        refine lv_iload_n hx hb d_Mo_isWhole_163 rfl (lv_at hl 7 rfl) ?_
        refine lv_iconst (v := 1) hx hb d_Mo_isWhole_164 (by decide) ?_
        refine gn_iadd (a := pl) (b := 1) hx hb d_Mo_isWhole_165 ?_
        refine mo_ild (k := 29) (i := pl + 1) (n := 60) C V X (by decide) (by decide) rfl (by omega) (by decide) d_Mo_isWhole_166 ?_
        rw [show I1 29 (pl + 1) = nI (cb (pl + 1)) from hd1]
        refine lv_bipush (v := 122) hx hb d_Mo_isWhole_167 (by decide) ?_
        refine lv_icmp_le (tgt := 174) hx hb d_Mo_isWhole_169 (by decide) (fun c89 => ?_) (fun c89 => absurd (nI_le (b := 122) (by omega) (by decide)) c89)
        refine lv_aload_n hx hb d_Mo_isWhole_174 rfl (lv_at hl 6 rfl) ?_
        refine mo_getA C V X 31 (by decide) (by decide) f_Mo_76 rfl d_Mo_isWhole_175 ?_
        refine lv_iload_n hx hb d_Mo_isWhole_178 rfl (lv_at hl 4 rfl) ?_
        refine lv_iload_n hx hb d_Mo_isWhole_179 rfl (lv_at hl 7 rfl) ?_
        refine mo_ist (k := 31) (i := o9) (n := 180) C V X (by decide) (by decide) rfl (by omega) (by decide) d_Mo_isWhole_180 (fun f1 H locs V1 X1 => ?_)
        clear V X
        have V := V1
        have X := X1
        clear V1 X1
        refine lv_iload hx hb d_Mo_isWhole_181 (lv_at hl 2 rfl) ?_
        refine gh_callS C V hl.1 m_Mo_parts l_Mo_265 (c_Mo_parts l E _ _ (cb pl) hk27) rfl ⟨by first | decide | omega | (dsimp only; omega), by first | decide | omega | (dsimp only; omega)⟩ ⟨by first | decide | omega | (dsimp only; omega), by first | decide | omega | (dsimp only; omega)⟩ (Nat.le_of_ble_eq_true rfl) rfl d_Mo_isWhole_183 (fun r z9 H locs hp V1 => ?_)
        obtain ⟨rfl, he9⟩ := hp
        rw [he9] at V1
        have V := V1
        have hkp : qy_parts (cb pl) = 1 := by rw [hk]; decide
        rw [hkp]
        refine W.eq (g2 := F0 m 186 ls [.int 1]) rfl ?_
        refine lv_iconst (v := 1) hx hb d_Mo_isWhole_186 (by decide) ?_
        refine lv_isub hx hb d_Mo_isWhole_187 ?_
        refine W.eq (g2 := F0 m 188 ls [.int 0]) rfl ?_
        refine lv_istore hx hb d_Mo_isWhole_188 hl (by decide) rfl (fun ls hl => ?_)
        have hl : lv_has ls 9 [(8, .int 0), (7, .int 1), (6, .int 1), (5, .int (nI (cb pl))), (4, .int (nI dp)), (3, .int (nI o9)), (1, .int (nI m9)), (0, .ref a), (2, .int (nI pl))] := hl
        refine lv_iload hx hb d_Mo_isWhole_190 (lv_at hl 0 rfl) ?_
        refine lv_if_lt (tgt := 224) hx hb d_Mo_isWhole_192 (by decide) (fun c90 => absurd c90 (by decide)) (fun c90 => ?_)
        refine lv_aload_n hx hb d_Mo_isWhole_195 rfl (lv_at hl 7 rfl) ?_
        refine mo_getA C V X 32 (by decide) (by decide) f_Mo_79 rfl d_Mo_isWhole_196 ?_
        refine lv_iload_n hx hb d_Mo_isWhole_199 rfl (lv_at hl 6 rfl) ?_
        refine lv_bipush (v := 16) hx hb d_Mo_isWhole_200 (by decide) ?_
        refine lv_iconst (v := 3) hx hb d_Mo_isWhole_202 (by decide) ?_
        refine lv_iload_n hx hb d_Mo_isWhole_203 rfl (lv_at hl 8 rfl) ?_
        refine gn_imul (a := 3) (b := pl) hx hb d_Mo_isWhole_204 ?_
        refine lv_iload hx hb d_Mo_isWhole_205 (lv_at hl 0 rfl) ?_
        refine gn_iadd (a := 3 * pl) (b := 0) hx hb d_Mo_isWhole_207 ?_
        refine gn_imul (a := 16) (b := (3 * pl) + 0) hx hb d_Mo_isWhole_208 ?_
        refine lv_iload hx hb d_Mo_isWhole_209 (lv_at hl 4 rfl) ?_
        refine gn_iadd (a := 16 * ((3 * pl) + 0)) (b := dp) hx hb d_Mo_isWhole_211 ?_
        refine lv_iconst (v := 1) hx hb d_Mo_isWhole_212 (by decide) ?_
        refine gn_iadd (a := (16 * ((3 * pl) + 0)) + dp) (b := 1) hx hb d_Mo_isWhole_213 ?_
        refine mo_ist (k := 32) (i := m9) (n := 80) C V X (by decide) (by decide) rfl (by omega) (by decide) d_Mo_isWhole_214 (fun f1 H locs V1 X1 => ?_)
        clear V X
        have V := V1
        have X := X1
        clear V1 X1
        refine lv_iinc (k := 6) (v := (nI m9) + 1) hx hb d_Mo_isWhole_215 hl rfl (by rfl) (by decide) rfl (fun ls hl => ?_)
        have hl : lv_has ls 9 [(1, .int (nI (m9 + 1))), (8, .int 0), (7, .int 1), (6, .int 1), (5, .int (nI (cb pl))), (4, .int (nI dp)), (3, .int (nI o9)), (0, .ref a), (2, .int (nI pl))] := by rw [nI_succ]; exact hl
        refine lv_iinc (k := 1) (v := (-1)) hx hb d_Mo_isWhole_218 hl rfl (by decide) (by decide) rfl (fun ls hl => ?_)
        have hl : lv_has ls 9 [(8, .int ((-1))), (1, .int (nI (m9 + 1))), (7, .int 1), (6, .int 1), (5, .int (nI (cb pl))), (4, .int (nI dp)), (3, .int (nI o9)), (0, .ref a), (2, .int (nI pl))] := hl
        refine lv_goto (tgt := 190) hx hb d_Mo_isWhole_221 (by decide) ?_
        refine lv_iload hx hb d_Mo_isWhole_190 (lv_at hl 0 rfl) ?_
        refine lv_if_lt (tgt := 224) hx hb d_Mo_isWhole_192 (by decide) (fun c91 => ?_) (fun c91 => absurd (by decide) c91)
        refine lv_iload hx hb d_Mo_isWhole_224 (lv_at hl 2 rfl) ?_
        refine lv_if_eq (tgt := 235) hx hb d_Mo_isWhole_226 (by decide) (fun c92 => absurd c92 (by decide)) (fun c92 => ?_)
        refine lv_iload_n hx hb d_Mo_isWhole_229 rfl (lv_at hl 8 rfl) ?_
        refine lv_iconst (v := 2) hx hb d_Mo_isWhole_230 (by decide) ?_
        refine gn_iadd (a := pl) (b := 2) hx hb d_Mo_isWhole_231 ?_
        refine lv_goto (tgt := 238) hx hb d_Mo_isWhole_232 (by decide) ?_
        refine lv_istore_n hx hb d_Mo_isWhole_238 rfl hl (by decide) rfl (fun ls hl => ?_)
        have hl : lv_has ls 9 [(2, .int (nI (pl + 2))), (8, .int ((-1))), (1, .int (nI (m9 + 1))), (7, .int 1), (6, .int 1), (5, .int (nI (cb pl))), (4, .int (nI dp)), (3, .int (nI o9)), (0, .ref a)] := hl
        refine lv_goto (tgt := 11) hx hb d_Mo_isWhole_239 (by decide) ?_
        have hl : lv_has ls 9 [(0, .ref a), (1, .int (nI (m9 + 1))), (2, .int (nI (pl + 2)))] := lv_sub hl [8, 2, 0] rfl
        have hwn : wh_n cb pl = pl + 2 := by unfold wh_n; rw [if_pos (by rw [hk]; decide)]
        rw [hkp, hwn] at hk9
        refine hk9 _ ⟨fun j hj => ?_, fun i hi => ?_, fun j hj => ?_, fun k h1 h2 => ?_⟩ _ _ _ ls X V hl (fun k h1 h2 => ?_)
        · by_cases e : j = o9
          · rw [if_pos e, e]; simp [va_up, upd]
          · rw [if_neg e]; simp [va_up, upd, e]
        · rcases (show i = 0 by omega) with rfl
          all_goals (simp [va_up, upd]; try omega)
        · have hj1 : j ≠ m9 := by omega
          have hj2 : j ≠ m9 + 1 := by omega
          have hj3 : j ≠ m9 + 1 + 1 := by omega
          simp [va_up, upd, hj1, hj2, hj3]
          try omega
        · simp [va_up, h1, h2]
        · simp [va_up, h1, h2]; exact hfr k h1 h2
      · have hq := hh.2 (by omega)
        refine lv_aload_n hx hb d_Mo_isWhole_67 rfl (lv_at hl 3 rfl) ?_
        refine mo_getA C V X 29 (by decide) (by decide) f_Mo_73 rfl d_Mo_isWhole_68 ?_
        refine lv_iload_n hx hb d_Mo_isWhole_71 rfl (lv_at hl 4 rfl) ?_
        refine mo_ild (k := 29) (i := pl) (n := 60) C V X (by decide) (by decide) rfl (by omega) (by decide) d_Mo_isWhole_72 ?_
        rw [show I1 29 pl = nI (cb pl) from hd0]
        refine lv_istore hx hb d_Mo_isWhole_73 hl (by decide) rfl (fun ls hl => ?_)
        have hl : lv_has ls 9 [(5, .int (nI (cb pl))), (4, .int (nI dp)), (3, .int (nI o9)), (1, .int (nI m9)), (0, .ref a), (2, .int (nI pl))] := hl
        refine lv_iload hx hb d_Mo_isWhole_75 (lv_at hl 0 rfl) ?_
        refine lv_iconst (v := 1) hx hb d_Mo_isWhole_77 (by decide) ?_
        refine lv_icmp_eq (tgt := 95) hx hb d_Mo_isWhole_78 (by decide) (fun c93 => absurd c93 (nI_nem (y := 1) (by omega) (by decide) (by omega))) (fun c93 => ?_)
        refine lv_iload hx hb d_Mo_isWhole_81 (lv_at hl 0 rfl) ?_
        refine lv_bipush (v := 6) hx hb d_Mo_isWhole_83 (by decide) ?_
        refine lv_icmp_eq (tgt := 95) hx hb d_Mo_isWhole_85 (by decide) (fun c94 => absurd c94 (nI_nem (y := 6) (by omega) (by decide) (by omega))) (fun c94 => ?_)
        refine lv_iload hx hb d_Mo_isWhole_88 (lv_at hl 0 rfl) ?_
        refine lv_bipush (v := 16) hx hb d_Mo_isWhole_90 (by decide) ?_
        refine lv_icmp_ne (tgt := 99) hx hb d_Mo_isWhole_92 (by decide) (fun c95 => ?_) (fun c95 => absurd c95 (nI_nem (y := 16) (by omega) (by decide) (by omega)))
        refine lv_iconst (v := 0) hx hb d_Mo_isWhole_99 (by decide) ?_
        refine lv_istore hx hb d_Mo_isWhole_100 hl (by decide) rfl (fun ls hl => ?_)
        have hl : lv_has ls 9 [(6, .int 0), (5, .int (nI (cb pl))), (4, .int (nI dp)), (3, .int (nI o9)), (1, .int (nI m9)), (0, .ref a), (2, .int (nI pl))] := hl
        refine lv_iload hx hb d_Mo_isWhole_102 (lv_at hl 0 rfl) ?_
        refine lv_if_ne (tgt := 119) hx hb d_Mo_isWhole_104 (by decide) (fun c96 => absurd (by decide) c96) (fun c96 => ?_)
        refine lv_iload hx hb d_Mo_isWhole_107 (lv_at hl 1 rfl) ?_
        refine lv_iconst (v := 2) hx hb d_Mo_isWhole_109 (by decide) ?_
        refine lv_icmp_eq (tgt := 119) hx hb d_Mo_isWhole_110 (by decide) (fun c97 => ?_) (fun c97 => absurd (by rw [hk]; rfl) c97)
        refine lv_iconst (v := 1) hx hb d_Mo_isWhole_119 (by decide) ?_
        refine lv_goto (tgt := 124) hx hb d_Mo_isWhole_120 (by decide) ?_
        refine lv_istore hx hb d_Mo_isWhole_124 hl (by decide) rfl (fun ls hl => ?_)
        have hl : lv_has ls 9 [(7, .int 1), (6, .int 0), (5, .int (nI (cb pl))), (4, .int (nI dp)), (3, .int (nI o9)), (1, .int (nI m9)), (0, .ref a), (2, .int (nI pl))] := hl
        refine lv_iload hx hb d_Mo_isWhole_126 (lv_at hl 0 rfl) ?_
        refine lv_if_eq (tgt := 141) hx hb d_Mo_isWhole_128 (by decide) (fun c98 => absurd c98 (by decide)) (fun c98 => ?_)
        refine lv_iload_n hx hb d_Mo_isWhole_131 rfl (lv_at hl 7 rfl) ?_
        refine lv_iconst (v := 1) hx hb d_Mo_isWhole_132 (by decide) ?_
        refine gn_iadd (a := pl) (b := 1) hx hb d_Mo_isWhole_133 ?_
        refine lv_aload_n hx hb d_Mo_isWhole_134 rfl (lv_at hl 6 rfl) ?_
        refine mo_getS (v := nI N) C V X 30 (by decide) (by decide) (by first | rfl | exact hS30) f_Mo_262 rfl d_Mo_isWhole_135 ?_
        refine lv_icmp_ge (tgt := 172) hx hb d_Mo_isWhole_138 (by decide) (fun c99 => absurd c99 (nI_ge (by omega) (by omega))) (fun c99 => ?_)
        refine lv_iload hx hb d_Mo_isWhole_141 (lv_at hl 1 rfl) ?_
        refine lv_if_eq (tgt := 174) hx hb d_Mo_isWhole_143 (by decide) (fun c100 => ?_) (fun c100 => absurd (by decide) c100)
        refine lv_aload_n hx hb d_Mo_isWhole_174 rfl (lv_at hl 6 rfl) ?_
        refine mo_getA C V X 31 (by decide) (by decide) f_Mo_76 rfl d_Mo_isWhole_175 ?_
        refine lv_iload_n hx hb d_Mo_isWhole_178 rfl (lv_at hl 4 rfl) ?_
        refine lv_iload_n hx hb d_Mo_isWhole_179 rfl (lv_at hl 7 rfl) ?_
        refine mo_ist (k := 31) (i := o9) (n := 180) C V X (by decide) (by decide) rfl (by omega) (by decide) d_Mo_isWhole_180 (fun f1 H locs V1 X1 => ?_)
        clear V X
        have V := V1
        have X := X1
        clear V1 X1
        refine lv_iload hx hb d_Mo_isWhole_181 (lv_at hl 2 rfl) ?_
        refine gh_callS C V hl.1 m_Mo_parts l_Mo_265 (c_Mo_parts l E _ _ (cb pl) hk27) rfl ⟨by first | decide | omega | (dsimp only; omega), by first | decide | omega | (dsimp only; omega)⟩ ⟨by first | decide | omega | (dsimp only; omega), by first | decide | omega | (dsimp only; omega)⟩ (Nat.le_of_ble_eq_true rfl) rfl d_Mo_isWhole_183 (fun r z9 H locs hp V1 => ?_)
        obtain ⟨rfl, he9⟩ := hp
        rw [he9] at V1
        have V := V1
        have hkp : qy_parts (cb pl) = 0 := by rw [hk]; decide
        rw [hkp]
        refine W.eq (g2 := F0 m 186 ls [.int 0]) rfl ?_
        refine lv_iconst (v := 1) hx hb d_Mo_isWhole_186 (by decide) ?_
        refine lv_isub hx hb d_Mo_isWhole_187 ?_
        refine W.eq (g2 := F0 m 188 ls [.int (-1)]) rfl ?_
        refine lv_istore hx hb d_Mo_isWhole_188 hl (by decide) rfl (fun ls hl => ?_)
        have hl : lv_has ls 9 [(8, .int ((-1))), (7, .int 1), (6, .int 0), (5, .int (nI (cb pl))), (4, .int (nI dp)), (3, .int (nI o9)), (1, .int (nI m9)), (0, .ref a), (2, .int (nI pl))] := hl
        refine lv_iload hx hb d_Mo_isWhole_190 (lv_at hl 0 rfl) ?_
        refine lv_if_lt (tgt := 224) hx hb d_Mo_isWhole_192 (by decide) (fun c101 => ?_) (fun c101 => absurd (by decide) c101)
        refine lv_iload hx hb d_Mo_isWhole_224 (lv_at hl 1 rfl) ?_
        refine lv_if_eq (tgt := 235) hx hb d_Mo_isWhole_226 (by decide) (fun c102 => absurd c102 (by decide)) (fun c102 => ?_)
        refine lv_iload_n hx hb d_Mo_isWhole_229 rfl (lv_at hl 8 rfl) ?_
        refine lv_iconst (v := 2) hx hb d_Mo_isWhole_230 (by decide) ?_
        refine gn_iadd (a := pl) (b := 2) hx hb d_Mo_isWhole_231 ?_
        refine lv_goto (tgt := 238) hx hb d_Mo_isWhole_232 (by decide) ?_
        refine lv_istore_n hx hb d_Mo_isWhole_238 rfl hl (by decide) rfl (fun ls hl => ?_)
        have hl : lv_has ls 9 [(2, .int (nI (pl + 2))), (8, .int ((-1))), (7, .int 1), (6, .int 0), (5, .int (nI (cb pl))), (4, .int (nI dp)), (3, .int (nI o9)), (1, .int (nI m9)), (0, .ref a)] := hl
        refine lv_goto (tgt := 11) hx hb d_Mo_isWhole_239 (by decide) ?_
        have hl : lv_has ls 9 [(0, .ref a), (1, .int (nI m9)), (2, .int (nI (pl + 2)))] := lv_sub hl [8, 7, 0] rfl
        have hwn : wh_n cb pl = pl + 2 := by unfold wh_n; rw [if_pos (by rw [hk]; decide)]
        rw [hkp, hwn] at hk9
        refine hk9 _ ⟨fun j hj => ?_, fun i hi => ?_, fun j hj => ?_, fun k h1 h2 => ?_⟩ _ _ _ ls X V hl (fun k h1 h2 => ?_)
        · by_cases e : j = o9
          · rw [if_pos e, e]; simp [va_up, upd]
          · rw [if_neg e]; simp [va_up, upd, e]
        · exact absurd hi (Nat.not_lt_zero i)
        · simp only [va_up, upd]; simp
        · simp [va_up, h1, h2]
        · simp [va_up, h1, h2]; exact hfr k h1 h2
      · have hq := hh.2 (by omega)
        refine lv_aload_n hx hb d_Mo_isWhole_67 rfl (lv_at hl 3 rfl) ?_
        refine mo_getA C V X 29 (by decide) (by decide) f_Mo_73 rfl d_Mo_isWhole_68 ?_
        refine lv_iload_n hx hb d_Mo_isWhole_71 rfl (lv_at hl 4 rfl) ?_
        refine mo_ild (k := 29) (i := pl) (n := 60) C V X (by decide) (by decide) rfl (by omega) (by decide) d_Mo_isWhole_72 ?_
        rw [show I1 29 pl = nI (cb pl) from hd0]
        refine lv_istore hx hb d_Mo_isWhole_73 hl (by decide) rfl (fun ls hl => ?_)
        have hl : lv_has ls 9 [(5, .int (nI (cb pl))), (4, .int (nI dp)), (3, .int (nI o9)), (1, .int (nI m9)), (0, .ref a), (2, .int (nI pl))] := hl
        refine lv_iload hx hb d_Mo_isWhole_75 (lv_at hl 0 rfl) ?_
        refine lv_iconst (v := 1) hx hb d_Mo_isWhole_77 (by decide) ?_
        refine lv_icmp_eq (tgt := 95) hx hb d_Mo_isWhole_78 (by decide) (fun c103 => absurd c103 (nI_nem (y := 1) (by omega) (by decide) (by omega))) (fun c103 => ?_)
        refine lv_iload hx hb d_Mo_isWhole_81 (lv_at hl 0 rfl) ?_
        refine lv_bipush (v := 6) hx hb d_Mo_isWhole_83 (by decide) ?_
        refine lv_icmp_eq (tgt := 95) hx hb d_Mo_isWhole_85 (by decide) (fun c104 => absurd c104 (nI_nem (y := 6) (by omega) (by decide) (by omega))) (fun c104 => ?_)
        refine lv_iload hx hb d_Mo_isWhole_88 (lv_at hl 0 rfl) ?_
        refine lv_bipush (v := 16) hx hb d_Mo_isWhole_90 (by decide) ?_
        refine lv_icmp_ne (tgt := 99) hx hb d_Mo_isWhole_92 (by decide) (fun c105 => ?_) (fun c105 => absurd c105 (nI_nem (y := 16) (by omega) (by decide) (by omega)))
        refine lv_iconst (v := 0) hx hb d_Mo_isWhole_99 (by decide) ?_
        refine lv_istore hx hb d_Mo_isWhole_100 hl (by decide) rfl (fun ls hl => ?_)
        have hl : lv_has ls 9 [(6, .int 0), (5, .int (nI (cb pl))), (4, .int (nI dp)), (3, .int (nI o9)), (1, .int (nI m9)), (0, .ref a), (2, .int (nI pl))] := hl
        refine lv_iload hx hb d_Mo_isWhole_102 (lv_at hl 0 rfl) ?_
        refine lv_if_ne (tgt := 119) hx hb d_Mo_isWhole_104 (by decide) (fun c106 => absurd (by decide) c106) (fun c106 => ?_)
        refine lv_iload hx hb d_Mo_isWhole_107 (lv_at hl 1 rfl) ?_
        refine lv_iconst (v := 2) hx hb d_Mo_isWhole_109 (by decide) ?_
        refine lv_icmp_eq (tgt := 119) hx hb d_Mo_isWhole_110 (by decide) (fun c107 => absurd c107 (nI_nem (y := 2) (by omega) (by decide) (by omega))) (fun c107 => ?_)
        refine lv_iload hx hb d_Mo_isWhole_113 (lv_at hl 1 rfl) ?_
        refine lv_iconst (v := 5) hx hb d_Mo_isWhole_115 (by decide) ?_
        refine lv_icmp_ne (tgt := 123) hx hb d_Mo_isWhole_116 (by decide) (fun c108 => absurd (by rw [hk]; rfl) c108) (fun c108 => ?_)
        refine lv_iconst (v := 1) hx hb d_Mo_isWhole_119 (by decide) ?_
        refine lv_goto (tgt := 124) hx hb d_Mo_isWhole_120 (by decide) ?_
        refine lv_istore hx hb d_Mo_isWhole_124 hl (by decide) rfl (fun ls hl => ?_)
        have hl : lv_has ls 9 [(7, .int 1), (6, .int 0), (5, .int (nI (cb pl))), (4, .int (nI dp)), (3, .int (nI o9)), (1, .int (nI m9)), (0, .ref a), (2, .int (nI pl))] := hl
        refine lv_iload hx hb d_Mo_isWhole_126 (lv_at hl 0 rfl) ?_
        refine lv_if_eq (tgt := 141) hx hb d_Mo_isWhole_128 (by decide) (fun c109 => absurd c109 (by decide)) (fun c109 => ?_)
        refine lv_iload_n hx hb d_Mo_isWhole_131 rfl (lv_at hl 7 rfl) ?_
        refine lv_iconst (v := 1) hx hb d_Mo_isWhole_132 (by decide) ?_
        refine gn_iadd (a := pl) (b := 1) hx hb d_Mo_isWhole_133 ?_
        refine lv_aload_n hx hb d_Mo_isWhole_134 rfl (lv_at hl 6 rfl) ?_
        refine mo_getS (v := nI N) C V X 30 (by decide) (by decide) (by first | rfl | exact hS30) f_Mo_262 rfl d_Mo_isWhole_135 ?_
        refine lv_icmp_ge (tgt := 172) hx hb d_Mo_isWhole_138 (by decide) (fun c110 => absurd c110 (nI_ge (by omega) (by omega))) (fun c110 => ?_)
        refine lv_iload hx hb d_Mo_isWhole_141 (lv_at hl 1 rfl) ?_
        refine lv_if_eq (tgt := 174) hx hb d_Mo_isWhole_143 (by decide) (fun c111 => ?_) (fun c111 => absurd (by decide) c111)
        refine lv_aload_n hx hb d_Mo_isWhole_174 rfl (lv_at hl 6 rfl) ?_
        refine mo_getA C V X 31 (by decide) (by decide) f_Mo_76 rfl d_Mo_isWhole_175 ?_
        refine lv_iload_n hx hb d_Mo_isWhole_178 rfl (lv_at hl 4 rfl) ?_
        refine lv_iload_n hx hb d_Mo_isWhole_179 rfl (lv_at hl 7 rfl) ?_
        refine mo_ist (k := 31) (i := o9) (n := 180) C V X (by decide) (by decide) rfl (by omega) (by decide) d_Mo_isWhole_180 (fun f1 H locs V1 X1 => ?_)
        clear V X
        have V := V1
        have X := X1
        clear V1 X1
        refine lv_iload hx hb d_Mo_isWhole_181 (lv_at hl 2 rfl) ?_
        refine gh_callS C V hl.1 m_Mo_parts l_Mo_265 (c_Mo_parts l E _ _ (cb pl) hk27) rfl ⟨by first | decide | omega | (dsimp only; omega), by first | decide | omega | (dsimp only; omega)⟩ ⟨by first | decide | omega | (dsimp only; omega), by first | decide | omega | (dsimp only; omega)⟩ (Nat.le_of_ble_eq_true rfl) rfl d_Mo_isWhole_183 (fun r z9 H locs hp V1 => ?_)
        obtain ⟨rfl, he9⟩ := hp
        rw [he9] at V1
        have V := V1
        have hkp : qy_parts (cb pl) = 0 := by rw [hk]; decide
        rw [hkp]
        refine W.eq (g2 := F0 m 186 ls [.int 0]) rfl ?_
        refine lv_iconst (v := 1) hx hb d_Mo_isWhole_186 (by decide) ?_
        refine lv_isub hx hb d_Mo_isWhole_187 ?_
        refine W.eq (g2 := F0 m 188 ls [.int (-1)]) rfl ?_
        refine lv_istore hx hb d_Mo_isWhole_188 hl (by decide) rfl (fun ls hl => ?_)
        have hl : lv_has ls 9 [(8, .int ((-1))), (7, .int 1), (6, .int 0), (5, .int (nI (cb pl))), (4, .int (nI dp)), (3, .int (nI o9)), (1, .int (nI m9)), (0, .ref a), (2, .int (nI pl))] := hl
        refine lv_iload hx hb d_Mo_isWhole_190 (lv_at hl 0 rfl) ?_
        refine lv_if_lt (tgt := 224) hx hb d_Mo_isWhole_192 (by decide) (fun c112 => ?_) (fun c112 => absurd (by decide) c112)
        refine lv_iload hx hb d_Mo_isWhole_224 (lv_at hl 1 rfl) ?_
        refine lv_if_eq (tgt := 235) hx hb d_Mo_isWhole_226 (by decide) (fun c113 => absurd c113 (by decide)) (fun c113 => ?_)
        refine lv_iload_n hx hb d_Mo_isWhole_229 rfl (lv_at hl 8 rfl) ?_
        refine lv_iconst (v := 2) hx hb d_Mo_isWhole_230 (by decide) ?_
        refine gn_iadd (a := pl) (b := 2) hx hb d_Mo_isWhole_231 ?_
        refine lv_goto (tgt := 238) hx hb d_Mo_isWhole_232 (by decide) ?_
        refine lv_istore_n hx hb d_Mo_isWhole_238 rfl hl (by decide) rfl (fun ls hl => ?_)
        have hl : lv_has ls 9 [(2, .int (nI (pl + 2))), (8, .int ((-1))), (7, .int 1), (6, .int 0), (5, .int (nI (cb pl))), (4, .int (nI dp)), (3, .int (nI o9)), (1, .int (nI m9)), (0, .ref a)] := hl
        refine lv_goto (tgt := 11) hx hb d_Mo_isWhole_239 (by decide) ?_
        have hl : lv_has ls 9 [(0, .ref a), (1, .int (nI m9)), (2, .int (nI (pl + 2)))] := lv_sub hl [8, 7, 0] rfl
        have hwn : wh_n cb pl = pl + 2 := by unfold wh_n; rw [if_pos (by rw [hk]; decide)]
        rw [hkp, hwn] at hk9
        refine hk9 _ ⟨fun j hj => ?_, fun i hi => ?_, fun j hj => ?_, fun k h1 h2 => ?_⟩ _ _ _ ls X V hl (fun k h1 h2 => ?_)
        · by_cases e : j = o9
          · rw [if_pos e, e]; simp [va_up, upd]
          · rw [if_neg e]; simp [va_up, upd, e]
        · exact absurd hi (Nat.not_lt_zero i)
        · simp only [va_up, upd]; simp
        · simp [va_up, h1, h2]
        · simp [va_up, h1, h2]; exact hfr k h1 h2
      · refine lv_aload_n hx hb d_Mo_isWhole_67 rfl (lv_at hl 3 rfl) ?_
        refine mo_getA C V X 29 (by decide) (by decide) f_Mo_73 rfl d_Mo_isWhole_68 ?_
        refine lv_iload_n hx hb d_Mo_isWhole_71 rfl (lv_at hl 4 rfl) ?_
        refine mo_ild (k := 29) (i := pl) (n := 60) C V X (by decide) (by decide) rfl (by omega) (by decide) d_Mo_isWhole_72 ?_
        rw [show I1 29 pl = nI (cb pl) from hd0]
        refine lv_istore hx hb d_Mo_isWhole_73 hl (by decide) rfl (fun ls hl => ?_)
        have hl : lv_has ls 9 [(5, .int (nI (cb pl))), (4, .int (nI dp)), (3, .int (nI o9)), (1, .int (nI m9)), (0, .ref a), (2, .int (nI pl))] := hl
        refine lv_iload hx hb d_Mo_isWhole_75 (lv_at hl 0 rfl) ?_
        refine lv_iconst (v := 1) hx hb d_Mo_isWhole_77 (by decide) ?_
        refine lv_icmp_eq (tgt := 95) hx hb d_Mo_isWhole_78 (by decide) (fun c114 => absurd c114 (nI_nem (y := 1) (by omega) (by decide) (by omega))) (fun c114 => ?_)
        refine lv_iload hx hb d_Mo_isWhole_81 (lv_at hl 0 rfl) ?_
        refine lv_bipush (v := 6) hx hb d_Mo_isWhole_83 (by decide) ?_
        refine lv_icmp_eq (tgt := 95) hx hb d_Mo_isWhole_85 (by decide) (fun c115 => absurd c115 (nI_nem (y := 6) (by omega) (by decide) (by omega))) (fun c115 => ?_)
        refine lv_iload hx hb d_Mo_isWhole_88 (lv_at hl 0 rfl) ?_
        refine lv_bipush (v := 16) hx hb d_Mo_isWhole_90 (by decide) ?_
        refine lv_icmp_ne (tgt := 99) hx hb d_Mo_isWhole_92 (by decide) (fun c116 => ?_) (fun c116 => absurd c116 (nI_nem (y := 16) (by omega) (by decide) (by omega)))
        refine lv_iconst (v := 0) hx hb d_Mo_isWhole_99 (by decide) ?_
        refine lv_istore hx hb d_Mo_isWhole_100 hl (by decide) rfl (fun ls hl => ?_)
        have hl : lv_has ls 9 [(6, .int 0), (5, .int (nI (cb pl))), (4, .int (nI dp)), (3, .int (nI o9)), (1, .int (nI m9)), (0, .ref a), (2, .int (nI pl))] := hl
        refine lv_iload hx hb d_Mo_isWhole_102 (lv_at hl 0 rfl) ?_
        refine lv_if_ne (tgt := 119) hx hb d_Mo_isWhole_104 (by decide) (fun c117 => absurd (by decide) c117) (fun c117 => ?_)
        refine lv_iload hx hb d_Mo_isWhole_107 (lv_at hl 1 rfl) ?_
        refine lv_iconst (v := 2) hx hb d_Mo_isWhole_109 (by decide) ?_
        refine lv_icmp_eq (tgt := 119) hx hb d_Mo_isWhole_110 (by decide) (fun c118 => absurd c118 (nI_nem (y := 2) (by omega) (by decide) (by omega))) (fun c118 => ?_)
        refine lv_iload hx hb d_Mo_isWhole_113 (lv_at hl 1 rfl) ?_
        refine lv_iconst (v := 5) hx hb d_Mo_isWhole_115 (by decide) ?_
        refine lv_icmp_ne (tgt := 123) hx hb d_Mo_isWhole_116 (by decide) (fun c119 => ?_) (fun c119 => absurd c119 (nI_nem (y := 5) (by omega) (by decide) (by omega)))
        refine lv_iconst (v := 0) hx hb d_Mo_isWhole_123 (by decide) ?_
        refine lv_istore hx hb d_Mo_isWhole_124 hl (by decide) rfl (fun ls hl => ?_)
        have hl : lv_has ls 9 [(7, .int 0), (6, .int 0), (5, .int (nI (cb pl))), (4, .int (nI dp)), (3, .int (nI o9)), (1, .int (nI m9)), (0, .ref a), (2, .int (nI pl))] := hl
        refine lv_iload hx hb d_Mo_isWhole_126 (lv_at hl 0 rfl) ?_
        refine lv_if_eq (tgt := 141) hx hb d_Mo_isWhole_128 (by decide) (fun c120 => ?_) (fun c120 => absurd (by decide) c120)
        refine lv_iload hx hb d_Mo_isWhole_141 (lv_at hl 1 rfl) ?_
        refine lv_if_eq (tgt := 174) hx hb d_Mo_isWhole_143 (by decide) (fun c121 => ?_) (fun c121 => absurd (by decide) c121)
        refine lv_aload_n hx hb d_Mo_isWhole_174 rfl (lv_at hl 6 rfl) ?_
        refine mo_getA C V X 31 (by decide) (by decide) f_Mo_76 rfl d_Mo_isWhole_175 ?_
        refine lv_iload_n hx hb d_Mo_isWhole_178 rfl (lv_at hl 4 rfl) ?_
        refine lv_iload_n hx hb d_Mo_isWhole_179 rfl (lv_at hl 7 rfl) ?_
        refine mo_ist (k := 31) (i := o9) (n := 180) C V X (by decide) (by decide) rfl (by omega) (by decide) d_Mo_isWhole_180 (fun f1 H locs V1 X1 => ?_)
        clear V X
        have V := V1
        have X := X1
        clear V1 X1
        refine lv_iload hx hb d_Mo_isWhole_181 (lv_at hl 2 rfl) ?_
        refine gh_callS C V hl.1 m_Mo_parts l_Mo_265 (c_Mo_parts l E _ _ (cb pl) hk27) rfl ⟨by first | decide | omega | (dsimp only; omega), by first | decide | omega | (dsimp only; omega)⟩ ⟨by first | decide | omega | (dsimp only; omega), by first | decide | omega | (dsimp only; omega)⟩ (Nat.le_of_ble_eq_true rfl) rfl d_Mo_isWhole_183 (fun r z9 H locs hp V1 => ?_)
        obtain ⟨rfl, he9⟩ := hp
        rw [he9] at V1
        have V := V1
        have hk3 := qy_parts_le (cb pl) hk27
        rcases (show qy_parts (cb pl) = 0 ∨ qy_parts (cb pl) = 1 ∨ qy_parts (cb pl) = 2 ∨ qy_parts (cb pl) = 3 by omega) with hkp | hkp | hkp | hkp
        · rw [hkp]
          refine W.eq (g2 := F0 m 186 ls [.int 0]) rfl ?_
          refine lv_iconst (v := 1) hx hb d_Mo_isWhole_186 (by decide) ?_
          refine lv_isub hx hb d_Mo_isWhole_187 ?_
          refine W.eq (g2 := F0 m 188 ls [.int (-1)]) rfl ?_
          refine lv_istore hx hb d_Mo_isWhole_188 hl (by decide) rfl (fun ls hl => ?_)
          have hl : lv_has ls 9 [(8, .int ((-1))), (7, .int 0), (6, .int 0), (5, .int (nI (cb pl))), (4, .int (nI dp)), (3, .int (nI o9)), (1, .int (nI m9)), (0, .ref a), (2, .int (nI pl))] := hl
          refine lv_iload hx hb d_Mo_isWhole_190 (lv_at hl 0 rfl) ?_
          refine lv_if_lt (tgt := 224) hx hb d_Mo_isWhole_192 (by decide) (fun c122 => ?_) (fun c122 => absurd (by decide) c122)
          refine lv_iload hx hb d_Mo_isWhole_224 (lv_at hl 1 rfl) ?_
          refine lv_if_eq (tgt := 235) hx hb d_Mo_isWhole_226 (by decide) (fun c123 => ?_) (fun c123 => absurd (by decide) c123)
          refine lv_iload_n hx hb d_Mo_isWhole_235 rfl (lv_at hl 8 rfl) ?_
          refine lv_iconst (v := 1) hx hb d_Mo_isWhole_236 (by decide) ?_
          refine gn_iadd (a := pl) (b := 1) hx hb d_Mo_isWhole_237 ?_
          refine lv_istore_n hx hb d_Mo_isWhole_238 rfl hl (by decide) rfl (fun ls hl => ?_)
          have hl : lv_has ls 9 [(2, .int (nI (pl + 1))), (8, .int ((-1))), (7, .int 0), (6, .int 0), (5, .int (nI (cb pl))), (4, .int (nI dp)), (3, .int (nI o9)), (1, .int (nI m9)), (0, .ref a)] := hl
          refine lv_goto (tgt := 11) hx hb d_Mo_isWhole_239 (by decide) ?_
          have hl : lv_has ls 9 [(0, .ref a), (1, .int (nI m9)), (2, .int (nI (pl + 1)))] := lv_sub hl [8, 7, 0] rfl
          have hwn : wh_n cb pl = pl + 1 := by unfold wh_n; rw [if_neg (by unfold qy_let qy_num; simp; omega)]
          rw [hkp, hwn] at hk9
          refine hk9 _ ⟨fun j hj => ?_, fun i hi => ?_, fun j hj => ?_, fun k h1 h2 => ?_⟩ _ _ _ ls X V hl (fun k h1 h2 => ?_)
          · by_cases e : j = o9
            · rw [if_pos e, e]; simp [va_up, upd]
            · rw [if_neg e]; simp [va_up, upd, e]
          · exact absurd hi (Nat.not_lt_zero i)
          · simp only [va_up, upd]; simp
          · simp [va_up, h1, h2]
          · simp [va_up, h1, h2]; exact hfr k h1 h2
        · rw [hkp]
          refine W.eq (g2 := F0 m 186 ls [.int 1]) rfl ?_
          refine lv_iconst (v := 1) hx hb d_Mo_isWhole_186 (by decide) ?_
          refine lv_isub hx hb d_Mo_isWhole_187 ?_
          refine W.eq (g2 := F0 m 188 ls [.int 0]) rfl ?_
          refine lv_istore hx hb d_Mo_isWhole_188 hl (by decide) rfl (fun ls hl => ?_)
          have hl : lv_has ls 9 [(8, .int 0), (7, .int 0), (6, .int 0), (5, .int (nI (cb pl))), (4, .int (nI dp)), (3, .int (nI o9)), (1, .int (nI m9)), (0, .ref a), (2, .int (nI pl))] := hl
          refine lv_iload hx hb d_Mo_isWhole_190 (lv_at hl 0 rfl) ?_
          refine lv_if_lt (tgt := 224) hx hb d_Mo_isWhole_192 (by decide) (fun c124 => absurd c124 (by decide)) (fun c124 => ?_)
          refine lv_aload_n hx hb d_Mo_isWhole_195 rfl (lv_at hl 7 rfl) ?_
          refine mo_getA C V X 32 (by decide) (by decide) f_Mo_79 rfl d_Mo_isWhole_196 ?_
          refine lv_iload_n hx hb d_Mo_isWhole_199 rfl (lv_at hl 6 rfl) ?_
          refine lv_bipush (v := 16) hx hb d_Mo_isWhole_200 (by decide) ?_
          refine lv_iconst (v := 3) hx hb d_Mo_isWhole_202 (by decide) ?_
          refine lv_iload_n hx hb d_Mo_isWhole_203 rfl (lv_at hl 8 rfl) ?_
          refine gn_imul (a := 3) (b := pl) hx hb d_Mo_isWhole_204 ?_
          refine lv_iload hx hb d_Mo_isWhole_205 (lv_at hl 0 rfl) ?_
          refine gn_iadd (a := 3 * pl) (b := 0) hx hb d_Mo_isWhole_207 ?_
          refine gn_imul (a := 16) (b := (3 * pl) + 0) hx hb d_Mo_isWhole_208 ?_
          refine lv_iload hx hb d_Mo_isWhole_209 (lv_at hl 4 rfl) ?_
          refine gn_iadd (a := 16 * ((3 * pl) + 0)) (b := dp) hx hb d_Mo_isWhole_211 ?_
          refine lv_iconst (v := 1) hx hb d_Mo_isWhole_212 (by decide) ?_
          refine gn_iadd (a := (16 * ((3 * pl) + 0)) + dp) (b := 1) hx hb d_Mo_isWhole_213 ?_
          refine mo_ist (k := 32) (i := m9) (n := 80) C V X (by decide) (by decide) rfl (by omega) (by decide) d_Mo_isWhole_214 (fun f1 H locs V1 X1 => ?_)
          clear V X
          have V := V1
          have X := X1
          clear V1 X1
          refine lv_iinc (k := 6) (v := (nI m9) + 1) hx hb d_Mo_isWhole_215 hl rfl (by rfl) (by decide) rfl (fun ls hl => ?_)
          have hl : lv_has ls 9 [(1, .int (nI (m9 + 1))), (8, .int 0), (7, .int 0), (6, .int 0), (5, .int (nI (cb pl))), (4, .int (nI dp)), (3, .int (nI o9)), (0, .ref a), (2, .int (nI pl))] := by rw [nI_succ]; exact hl
          refine lv_iinc (k := 1) (v := (-1)) hx hb d_Mo_isWhole_218 hl rfl (by decide) (by decide) rfl (fun ls hl => ?_)
          have hl : lv_has ls 9 [(8, .int ((-1))), (1, .int (nI (m9 + 1))), (7, .int 0), (6, .int 0), (5, .int (nI (cb pl))), (4, .int (nI dp)), (3, .int (nI o9)), (0, .ref a), (2, .int (nI pl))] := hl
          refine lv_goto (tgt := 190) hx hb d_Mo_isWhole_221 (by decide) ?_
          refine lv_iload hx hb d_Mo_isWhole_190 (lv_at hl 0 rfl) ?_
          refine lv_if_lt (tgt := 224) hx hb d_Mo_isWhole_192 (by decide) (fun c125 => ?_) (fun c125 => absurd (by decide) c125)
          refine lv_iload hx hb d_Mo_isWhole_224 (lv_at hl 2 rfl) ?_
          refine lv_if_eq (tgt := 235) hx hb d_Mo_isWhole_226 (by decide) (fun c126 => ?_) (fun c126 => absurd (by decide) c126)
          refine lv_iload_n hx hb d_Mo_isWhole_235 rfl (lv_at hl 8 rfl) ?_
          refine lv_iconst (v := 1) hx hb d_Mo_isWhole_236 (by decide) ?_
          refine gn_iadd (a := pl) (b := 1) hx hb d_Mo_isWhole_237 ?_
          refine lv_istore_n hx hb d_Mo_isWhole_238 rfl hl (by decide) rfl (fun ls hl => ?_)
          have hl : lv_has ls 9 [(2, .int (nI (pl + 1))), (8, .int ((-1))), (1, .int (nI (m9 + 1))), (7, .int 0), (6, .int 0), (5, .int (nI (cb pl))), (4, .int (nI dp)), (3, .int (nI o9)), (0, .ref a)] := hl
          refine lv_goto (tgt := 11) hx hb d_Mo_isWhole_239 (by decide) ?_
          have hl : lv_has ls 9 [(0, .ref a), (1, .int (nI (m9 + 1))), (2, .int (nI (pl + 1)))] := lv_sub hl [8, 2, 0] rfl
          have hwn : wh_n cb pl = pl + 1 := by unfold wh_n; rw [if_neg (by unfold qy_let qy_num; simp; omega)]
          rw [hkp, hwn] at hk9
          refine hk9 _ ⟨fun j hj => ?_, fun i hi => ?_, fun j hj => ?_, fun k h1 h2 => ?_⟩ _ _ _ ls X V hl (fun k h1 h2 => ?_)
          · by_cases e : j = o9
            · rw [if_pos e, e]; simp [va_up, upd]
            · rw [if_neg e]; simp [va_up, upd, e]
          · rcases (show i = 0 by omega) with rfl
            all_goals (simp [va_up, upd]; try omega)
          · have hj1 : j ≠ m9 := by omega
            have hj2 : j ≠ m9 + 1 := by omega
            have hj3 : j ≠ m9 + 1 + 1 := by omega
            simp [va_up, upd, hj1, hj2, hj3]
            try omega
          · simp [va_up, h1, h2]
          · simp [va_up, h1, h2]; exact hfr k h1 h2
        · rw [hkp]
          refine W.eq (g2 := F0 m 186 ls [.int 2]) rfl ?_
          refine lv_iconst (v := 1) hx hb d_Mo_isWhole_186 (by decide) ?_
          refine lv_isub hx hb d_Mo_isWhole_187 ?_
          refine W.eq (g2 := F0 m 188 ls [.int 1]) rfl ?_
          refine lv_istore hx hb d_Mo_isWhole_188 hl (by decide) rfl (fun ls hl => ?_)
          have hl : lv_has ls 9 [(8, .int 1), (7, .int 0), (6, .int 0), (5, .int (nI (cb pl))), (4, .int (nI dp)), (3, .int (nI o9)), (1, .int (nI m9)), (0, .ref a), (2, .int (nI pl))] := hl
          refine lv_iload hx hb d_Mo_isWhole_190 (lv_at hl 0 rfl) ?_
          refine lv_if_lt (tgt := 224) hx hb d_Mo_isWhole_192 (by decide) (fun c127 => absurd c127 (by decide)) (fun c127 => ?_)
          refine lv_aload_n hx hb d_Mo_isWhole_195 rfl (lv_at hl 7 rfl) ?_
          refine mo_getA C V X 32 (by decide) (by decide) f_Mo_79 rfl d_Mo_isWhole_196 ?_
          refine lv_iload_n hx hb d_Mo_isWhole_199 rfl (lv_at hl 6 rfl) ?_
          refine lv_bipush (v := 16) hx hb d_Mo_isWhole_200 (by decide) ?_
          refine lv_iconst (v := 3) hx hb d_Mo_isWhole_202 (by decide) ?_
          refine lv_iload_n hx hb d_Mo_isWhole_203 rfl (lv_at hl 8 rfl) ?_
          refine gn_imul (a := 3) (b := pl) hx hb d_Mo_isWhole_204 ?_
          refine lv_iload hx hb d_Mo_isWhole_205 (lv_at hl 0 rfl) ?_
          refine gn_iadd (a := 3 * pl) (b := 1) hx hb d_Mo_isWhole_207 ?_
          refine gn_imul (a := 16) (b := (3 * pl) + 1) hx hb d_Mo_isWhole_208 ?_
          refine lv_iload hx hb d_Mo_isWhole_209 (lv_at hl 4 rfl) ?_
          refine gn_iadd (a := 16 * ((3 * pl) + 1)) (b := dp) hx hb d_Mo_isWhole_211 ?_
          refine lv_iconst (v := 1) hx hb d_Mo_isWhole_212 (by decide) ?_
          refine gn_iadd (a := (16 * ((3 * pl) + 1)) + dp) (b := 1) hx hb d_Mo_isWhole_213 ?_
          refine mo_ist (k := 32) (i := m9) (n := 80) C V X (by decide) (by decide) rfl (by omega) (by decide) d_Mo_isWhole_214 (fun f1 H locs V1 X1 => ?_)
          clear V X
          have V := V1
          have X := X1
          clear V1 X1
          refine lv_iinc (k := 6) (v := (nI m9) + 1) hx hb d_Mo_isWhole_215 hl rfl (by rfl) (by decide) rfl (fun ls hl => ?_)
          have hl : lv_has ls 9 [(1, .int (nI (m9 + 1))), (8, .int 1), (7, .int 0), (6, .int 0), (5, .int (nI (cb pl))), (4, .int (nI dp)), (3, .int (nI o9)), (0, .ref a), (2, .int (nI pl))] := by rw [nI_succ]; exact hl
          refine lv_iinc (k := 1) (v := 0) hx hb d_Mo_isWhole_218 hl rfl (by decide) (by decide) rfl (fun ls hl => ?_)
          have hl : lv_has ls 9 [(8, .int 0), (1, .int (nI (m9 + 1))), (7, .int 0), (6, .int 0), (5, .int (nI (cb pl))), (4, .int (nI dp)), (3, .int (nI o9)), (0, .ref a), (2, .int (nI pl))] := hl
          refine lv_goto (tgt := 190) hx hb d_Mo_isWhole_221 (by decide) ?_
          refine lv_iload hx hb d_Mo_isWhole_190 (lv_at hl 0 rfl) ?_
          refine lv_if_lt (tgt := 224) hx hb d_Mo_isWhole_192 (by decide) (fun c128 => absurd c128 (by decide)) (fun c128 => ?_)
          refine lv_aload_n hx hb d_Mo_isWhole_195 rfl (lv_at hl 7 rfl) ?_
          refine mo_getA C V X 32 (by decide) (by decide) f_Mo_79 rfl d_Mo_isWhole_196 ?_
          refine lv_iload_n hx hb d_Mo_isWhole_199 rfl (lv_at hl 1 rfl) ?_
          refine lv_bipush (v := 16) hx hb d_Mo_isWhole_200 (by decide) ?_
          refine lv_iconst (v := 3) hx hb d_Mo_isWhole_202 (by decide) ?_
          refine lv_iload_n hx hb d_Mo_isWhole_203 rfl (lv_at hl 8 rfl) ?_
          refine gn_imul (a := 3) (b := pl) hx hb d_Mo_isWhole_204 ?_
          refine lv_iload hx hb d_Mo_isWhole_205 (lv_at hl 0 rfl) ?_
          refine gn_iadd (a := 3 * pl) (b := 0) hx hb d_Mo_isWhole_207 ?_
          refine gn_imul (a := 16) (b := (3 * pl) + 0) hx hb d_Mo_isWhole_208 ?_
          refine lv_iload hx hb d_Mo_isWhole_209 (lv_at hl 5 rfl) ?_
          refine gn_iadd (a := 16 * ((3 * pl) + 0)) (b := dp) hx hb d_Mo_isWhole_211 ?_
          refine lv_iconst (v := 1) hx hb d_Mo_isWhole_212 (by decide) ?_
          refine gn_iadd (a := (16 * ((3 * pl) + 0)) + dp) (b := 1) hx hb d_Mo_isWhole_213 ?_
          refine mo_ist (k := 32) (i := m9 + 1) (n := 80) C V X (by decide) (by decide) rfl (by omega) (by decide) d_Mo_isWhole_214 (fun f1 H locs V1 X1 => ?_)
          clear V X
          have V := V1
          have X := X1
          clear V1 X1
          refine lv_iinc (k := 1) (v := (nI (m9 + 1)) + 1) hx hb d_Mo_isWhole_215 hl rfl (by rfl) (by decide) rfl (fun ls hl => ?_)
          have hl : lv_has ls 9 [(1, .int (nI ((m9 + 1) + 1))), (8, .int 0), (7, .int 0), (6, .int 0), (5, .int (nI (cb pl))), (4, .int (nI dp)), (3, .int (nI o9)), (0, .ref a), (2, .int (nI pl))] := by rw [nI_succ]; exact hl
          refine lv_iinc (k := 1) (v := (-1)) hx hb d_Mo_isWhole_218 hl rfl (by decide) (by decide) rfl (fun ls hl => ?_)
          have hl : lv_has ls 9 [(8, .int ((-1))), (1, .int (nI ((m9 + 1) + 1))), (7, .int 0), (6, .int 0), (5, .int (nI (cb pl))), (4, .int (nI dp)), (3, .int (nI o9)), (0, .ref a), (2, .int (nI pl))] := hl
          refine lv_goto (tgt := 190) hx hb d_Mo_isWhole_221 (by decide) ?_
          refine lv_iload hx hb d_Mo_isWhole_190 (lv_at hl 0 rfl) ?_
          refine lv_if_lt (tgt := 224) hx hb d_Mo_isWhole_192 (by decide) (fun c129 => ?_) (fun c129 => absurd (by decide) c129)
          refine lv_iload hx hb d_Mo_isWhole_224 (lv_at hl 2 rfl) ?_
          refine lv_if_eq (tgt := 235) hx hb d_Mo_isWhole_226 (by decide) (fun c130 => ?_) (fun c130 => absurd (by decide) c130)
          refine lv_iload_n hx hb d_Mo_isWhole_235 rfl (lv_at hl 8 rfl) ?_
          refine lv_iconst (v := 1) hx hb d_Mo_isWhole_236 (by decide) ?_
          refine gn_iadd (a := pl) (b := 1) hx hb d_Mo_isWhole_237 ?_
          refine lv_istore_n hx hb d_Mo_isWhole_238 rfl hl (by decide) rfl (fun ls hl => ?_)
          have hl : lv_has ls 9 [(2, .int (nI (pl + 1))), (8, .int ((-1))), (1, .int (nI ((m9 + 1) + 1))), (7, .int 0), (6, .int 0), (5, .int (nI (cb pl))), (4, .int (nI dp)), (3, .int (nI o9)), (0, .ref a)] := hl
          refine lv_goto (tgt := 11) hx hb d_Mo_isWhole_239 (by decide) ?_
          have hl : lv_has ls 9 [(0, .ref a), (1, .int (nI ((m9 + 1) + 1))), (2, .int (nI (pl + 1)))] := lv_sub hl [8, 2, 0] rfl
          have hwn : wh_n cb pl = pl + 1 := by unfold wh_n; rw [if_neg (by unfold qy_let qy_num; simp; omega)]
          rw [hkp, hwn] at hk9
          refine hk9 _ ⟨fun j hj => ?_, fun i hi => ?_, fun j hj => ?_, fun k h1 h2 => ?_⟩ _ _ _ ls X V hl (fun k h1 h2 => ?_)
          · by_cases e : j = o9
            · rw [if_pos e, e]; simp [va_up, upd]
            · rw [if_neg e]; simp [va_up, upd, e]
          · rcases (show i = 0 ∨ i = 1 by omega) with rfl | rfl
            all_goals (simp [va_up, upd]; try omega)
          · have hj1 : j ≠ m9 := by omega
            have hj2 : j ≠ m9 + 1 := by omega
            have hj3 : j ≠ m9 + 1 + 1 := by omega
            simp [va_up, upd, hj1, hj2, hj3]
            try omega
          · simp [va_up, h1, h2]
          · simp [va_up, h1, h2]; exact hfr k h1 h2
        · rw [hkp]
          refine W.eq (g2 := F0 m 186 ls [.int 3]) rfl ?_
          refine lv_iconst (v := 1) hx hb d_Mo_isWhole_186 (by decide) ?_
          refine lv_isub hx hb d_Mo_isWhole_187 ?_
          refine W.eq (g2 := F0 m 188 ls [.int 2]) rfl ?_
          refine lv_istore hx hb d_Mo_isWhole_188 hl (by decide) rfl (fun ls hl => ?_)
          have hl : lv_has ls 9 [(8, .int 2), (7, .int 0), (6, .int 0), (5, .int (nI (cb pl))), (4, .int (nI dp)), (3, .int (nI o9)), (1, .int (nI m9)), (0, .ref a), (2, .int (nI pl))] := hl
          refine lv_iload hx hb d_Mo_isWhole_190 (lv_at hl 0 rfl) ?_
          refine lv_if_lt (tgt := 224) hx hb d_Mo_isWhole_192 (by decide) (fun c131 => absurd c131 (by decide)) (fun c131 => ?_)
          refine lv_aload_n hx hb d_Mo_isWhole_195 rfl (lv_at hl 7 rfl) ?_
          refine mo_getA C V X 32 (by decide) (by decide) f_Mo_79 rfl d_Mo_isWhole_196 ?_
          refine lv_iload_n hx hb d_Mo_isWhole_199 rfl (lv_at hl 6 rfl) ?_
          refine lv_bipush (v := 16) hx hb d_Mo_isWhole_200 (by decide) ?_
          refine lv_iconst (v := 3) hx hb d_Mo_isWhole_202 (by decide) ?_
          refine lv_iload_n hx hb d_Mo_isWhole_203 rfl (lv_at hl 8 rfl) ?_
          refine gn_imul (a := 3) (b := pl) hx hb d_Mo_isWhole_204 ?_
          refine lv_iload hx hb d_Mo_isWhole_205 (lv_at hl 0 rfl) ?_
          refine gn_iadd (a := 3 * pl) (b := 2) hx hb d_Mo_isWhole_207 ?_
          refine gn_imul (a := 16) (b := (3 * pl) + 2) hx hb d_Mo_isWhole_208 ?_
          refine lv_iload hx hb d_Mo_isWhole_209 (lv_at hl 4 rfl) ?_
          refine gn_iadd (a := 16 * ((3 * pl) + 2)) (b := dp) hx hb d_Mo_isWhole_211 ?_
          refine lv_iconst (v := 1) hx hb d_Mo_isWhole_212 (by decide) ?_
          refine gn_iadd (a := (16 * ((3 * pl) + 2)) + dp) (b := 1) hx hb d_Mo_isWhole_213 ?_
          refine mo_ist (k := 32) (i := m9) (n := 80) C V X (by decide) (by decide) rfl (by omega) (by decide) d_Mo_isWhole_214 (fun f1 H locs V1 X1 => ?_)
          clear V X
          have V := V1
          have X := X1
          clear V1 X1
          refine lv_iinc (k := 6) (v := (nI m9) + 1) hx hb d_Mo_isWhole_215 hl rfl (by rfl) (by decide) rfl (fun ls hl => ?_)
          have hl : lv_has ls 9 [(1, .int (nI (m9 + 1))), (8, .int 2), (7, .int 0), (6, .int 0), (5, .int (nI (cb pl))), (4, .int (nI dp)), (3, .int (nI o9)), (0, .ref a), (2, .int (nI pl))] := by rw [nI_succ]; exact hl
          refine lv_iinc (k := 1) (v := 1) hx hb d_Mo_isWhole_218 hl rfl (by decide) (by decide) rfl (fun ls hl => ?_)
          have hl : lv_has ls 9 [(8, .int 1), (1, .int (nI (m9 + 1))), (7, .int 0), (6, .int 0), (5, .int (nI (cb pl))), (4, .int (nI dp)), (3, .int (nI o9)), (0, .ref a), (2, .int (nI pl))] := hl
          refine lv_goto (tgt := 190) hx hb d_Mo_isWhole_221 (by decide) ?_
          refine lv_iload hx hb d_Mo_isWhole_190 (lv_at hl 0 rfl) ?_
          refine lv_if_lt (tgt := 224) hx hb d_Mo_isWhole_192 (by decide) (fun c132 => absurd c132 (by decide)) (fun c132 => ?_)
          refine lv_aload_n hx hb d_Mo_isWhole_195 rfl (lv_at hl 7 rfl) ?_
          refine mo_getA C V X 32 (by decide) (by decide) f_Mo_79 rfl d_Mo_isWhole_196 ?_
          refine lv_iload_n hx hb d_Mo_isWhole_199 rfl (lv_at hl 1 rfl) ?_
          refine lv_bipush (v := 16) hx hb d_Mo_isWhole_200 (by decide) ?_
          refine lv_iconst (v := 3) hx hb d_Mo_isWhole_202 (by decide) ?_
          refine lv_iload_n hx hb d_Mo_isWhole_203 rfl (lv_at hl 8 rfl) ?_
          refine gn_imul (a := 3) (b := pl) hx hb d_Mo_isWhole_204 ?_
          refine lv_iload hx hb d_Mo_isWhole_205 (lv_at hl 0 rfl) ?_
          refine gn_iadd (a := 3 * pl) (b := 1) hx hb d_Mo_isWhole_207 ?_
          refine gn_imul (a := 16) (b := (3 * pl) + 1) hx hb d_Mo_isWhole_208 ?_
          refine lv_iload hx hb d_Mo_isWhole_209 (lv_at hl 5 rfl) ?_
          refine gn_iadd (a := 16 * ((3 * pl) + 1)) (b := dp) hx hb d_Mo_isWhole_211 ?_
          refine lv_iconst (v := 1) hx hb d_Mo_isWhole_212 (by decide) ?_
          refine gn_iadd (a := (16 * ((3 * pl) + 1)) + dp) (b := 1) hx hb d_Mo_isWhole_213 ?_
          refine mo_ist (k := 32) (i := m9 + 1) (n := 80) C V X (by decide) (by decide) rfl (by omega) (by decide) d_Mo_isWhole_214 (fun f1 H locs V1 X1 => ?_)
          clear V X
          have V := V1
          have X := X1
          clear V1 X1
          refine lv_iinc (k := 1) (v := (nI (m9 + 1)) + 1) hx hb d_Mo_isWhole_215 hl rfl (by rfl) (by decide) rfl (fun ls hl => ?_)
          have hl : lv_has ls 9 [(1, .int (nI ((m9 + 1) + 1))), (8, .int 1), (7, .int 0), (6, .int 0), (5, .int (nI (cb pl))), (4, .int (nI dp)), (3, .int (nI o9)), (0, .ref a), (2, .int (nI pl))] := by rw [nI_succ]; exact hl
          refine lv_iinc (k := 1) (v := 0) hx hb d_Mo_isWhole_218 hl rfl (by decide) (by decide) rfl (fun ls hl => ?_)
          have hl : lv_has ls 9 [(8, .int 0), (1, .int (nI ((m9 + 1) + 1))), (7, .int 0), (6, .int 0), (5, .int (nI (cb pl))), (4, .int (nI dp)), (3, .int (nI o9)), (0, .ref a), (2, .int (nI pl))] := hl
          refine lv_goto (tgt := 190) hx hb d_Mo_isWhole_221 (by decide) ?_
          refine lv_iload hx hb d_Mo_isWhole_190 (lv_at hl 0 rfl) ?_
          refine lv_if_lt (tgt := 224) hx hb d_Mo_isWhole_192 (by decide) (fun c133 => absurd c133 (by decide)) (fun c133 => ?_)
          refine lv_aload_n hx hb d_Mo_isWhole_195 rfl (lv_at hl 7 rfl) ?_
          refine mo_getA C V X 32 (by decide) (by decide) f_Mo_79 rfl d_Mo_isWhole_196 ?_
          refine lv_iload_n hx hb d_Mo_isWhole_199 rfl (lv_at hl 1 rfl) ?_
          refine lv_bipush (v := 16) hx hb d_Mo_isWhole_200 (by decide) ?_
          refine lv_iconst (v := 3) hx hb d_Mo_isWhole_202 (by decide) ?_
          refine lv_iload_n hx hb d_Mo_isWhole_203 rfl (lv_at hl 8 rfl) ?_
          refine gn_imul (a := 3) (b := pl) hx hb d_Mo_isWhole_204 ?_
          refine lv_iload hx hb d_Mo_isWhole_205 (lv_at hl 0 rfl) ?_
          refine gn_iadd (a := 3 * pl) (b := 0) hx hb d_Mo_isWhole_207 ?_
          refine gn_imul (a := 16) (b := (3 * pl) + 0) hx hb d_Mo_isWhole_208 ?_
          refine lv_iload hx hb d_Mo_isWhole_209 (lv_at hl 5 rfl) ?_
          refine gn_iadd (a := 16 * ((3 * pl) + 0)) (b := dp) hx hb d_Mo_isWhole_211 ?_
          refine lv_iconst (v := 1) hx hb d_Mo_isWhole_212 (by decide) ?_
          refine gn_iadd (a := (16 * ((3 * pl) + 0)) + dp) (b := 1) hx hb d_Mo_isWhole_213 ?_
          refine mo_ist (k := 32) (i := (m9 + 1) + 1) (n := 80) C V X (by decide) (by decide) rfl (by omega) (by decide) d_Mo_isWhole_214 (fun f1 H locs V1 X1 => ?_)
          clear V X
          have V := V1
          have X := X1
          clear V1 X1
          refine lv_iinc (k := 1) (v := (nI ((m9 + 1) + 1)) + 1) hx hb d_Mo_isWhole_215 hl rfl (by rfl) (by decide) rfl (fun ls hl => ?_)
          have hl : lv_has ls 9 [(1, .int (nI (((m9 + 1) + 1) + 1))), (8, .int 0), (7, .int 0), (6, .int 0), (5, .int (nI (cb pl))), (4, .int (nI dp)), (3, .int (nI o9)), (0, .ref a), (2, .int (nI pl))] := by rw [nI_succ]; exact hl
          refine lv_iinc (k := 1) (v := (-1)) hx hb d_Mo_isWhole_218 hl rfl (by decide) (by decide) rfl (fun ls hl => ?_)
          have hl : lv_has ls 9 [(8, .int ((-1))), (1, .int (nI (((m9 + 1) + 1) + 1))), (7, .int 0), (6, .int 0), (5, .int (nI (cb pl))), (4, .int (nI dp)), (3, .int (nI o9)), (0, .ref a), (2, .int (nI pl))] := hl
          refine lv_goto (tgt := 190) hx hb d_Mo_isWhole_221 (by decide) ?_
          refine lv_iload hx hb d_Mo_isWhole_190 (lv_at hl 0 rfl) ?_
          refine lv_if_lt (tgt := 224) hx hb d_Mo_isWhole_192 (by decide) (fun c134 => ?_) (fun c134 => absurd (by decide) c134)
          refine lv_iload hx hb d_Mo_isWhole_224 (lv_at hl 2 rfl) ?_
          refine lv_if_eq (tgt := 235) hx hb d_Mo_isWhole_226 (by decide) (fun c135 => ?_) (fun c135 => absurd (by decide) c135)
          refine lv_iload_n hx hb d_Mo_isWhole_235 rfl (lv_at hl 8 rfl) ?_
          refine lv_iconst (v := 1) hx hb d_Mo_isWhole_236 (by decide) ?_
          refine gn_iadd (a := pl) (b := 1) hx hb d_Mo_isWhole_237 ?_
          refine lv_istore_n hx hb d_Mo_isWhole_238 rfl hl (by decide) rfl (fun ls hl => ?_)
          have hl : lv_has ls 9 [(2, .int (nI (pl + 1))), (8, .int ((-1))), (1, .int (nI (((m9 + 1) + 1) + 1))), (7, .int 0), (6, .int 0), (5, .int (nI (cb pl))), (4, .int (nI dp)), (3, .int (nI o9)), (0, .ref a)] := hl
          refine lv_goto (tgt := 11) hx hb d_Mo_isWhole_239 (by decide) ?_
          have hl : lv_has ls 9 [(0, .ref a), (1, .int (nI (((m9 + 1) + 1) + 1))), (2, .int (nI (pl + 1)))] := lv_sub hl [8, 2, 0] rfl
          have hwn : wh_n cb pl = pl + 1 := by unfold wh_n; rw [if_neg (by unfold qy_let qy_num; simp; omega)]
          rw [hkp, hwn] at hk9
          refine hk9 _ ⟨fun j hj => ?_, fun i hi => ?_, fun j hj => ?_, fun k h1 h2 => ?_⟩ _ _ _ ls X V hl (fun k h1 h2 => ?_)
          · by_cases e : j = o9
            · rw [if_pos e, e]; simp [va_up, upd]
            · rw [if_neg e]; simp [va_up, upd, e]
          · rcases (show i = 0 ∨ i = 1 ∨ i = 2 by omega) with rfl | rfl | rfl
            all_goals (simp [va_up, upd]; try omega)
          · have hj1 : j ≠ m9 := by omega
            have hj2 : j ≠ m9 + 1 := by omega
            have hj3 : j ≠ m9 + 1 + 1 := by omega
            simp [va_up, upd, hj1, hj2, hj3]
            try omega
          · simp [va_up, h1, h2]
          · simp [va_up, h1, h2]; exact hfr k h1 h2
  have hR : RQ (0 + 1) 0 (va_up I 32 (upd (I 32) 0 0)) := by
    refine wh_run hN hcl 13 (Nat.le_refl _) _ 0 0 0 bg (Nat.zero_le _) (by decide) (by decide) (by simp [va_up, upd]; rfl) (fun j _ => by rw [va_up_n (by decide)]; exact hbg j) (fun b2 hqr I2 _ => by show (qy_run cb N 13 0 (va_up bg 0 0)).1 = none; rw [hqr]) (fun q b2 hqr I1 g1 g2 g3 => ?_)
    rw [hRQ]
    intro f1 H locs ls X V hl hfr
    have hq60 := qy_run_le _ _ _ _ _ hqr
    by_cases hqN : q = N
    · refine lv_iload_n hx hb d_Mo_isWhole_11 rfl (lv_at hl 1 rfl) ?_
      refine lv_if_le (tgt := 242) hx hb d_Mo_isWhole_12 (by decide) (fun c136 => ?_) (fun c136 => absurd (by decide) c136)
      refine lv_iload_n hx hb d_Mo_isWhole_242 rfl (lv_at hl 2 rfl) ?_
      refine lv_aload_n hx hb d_Mo_isWhole_243 rfl (lv_at hl 0 rfl) ?_
      refine mo_getS (v := nI N) C V X 30 (by decide) (by decide) (by first | rfl | exact hS30) f_Mo_262 rfl d_Mo_isWhole_244 ?_
      refine lv_icmp_ne (tgt := 254) hx hb d_Mo_isWhole_247 (by decide) (fun c137 => absurd (by rw [hqN]) c137) (fun c137 => ?_)
      refine lv_iconst (v := 1) hx hb d_Mo_isWhole_250 (by decide) ?_
      refine lv_goto (tgt := 255) hx hb d_Mo_isWhole_251 (by decide) ?_
      refine gh_retz hAe C V hr (by first | rfl | decide) hlocks d_Mo_isWhole_255 (by first | decide | omega | (dsimp only; omega)) (by first | decide | omega | (dsimp only; omega)) ?_
      exact ⟨by rw [hqr, decide_eq_true (by rw [hqN])]; rfl, _, X, hfr, fun _ j hj => by rw [hqr]; exact g1 j hj⟩
    · refine lv_iload_n hx hb d_Mo_isWhole_11 rfl (lv_at hl 1 rfl) ?_
      refine lv_if_le (tgt := 242) hx hb d_Mo_isWhole_12 (by decide) (fun c138 => ?_) (fun c138 => absurd (by decide) c138)
      refine lv_iload_n hx hb d_Mo_isWhole_242 rfl (lv_at hl 2 rfl) ?_
      refine lv_aload_n hx hb d_Mo_isWhole_243 rfl (lv_at hl 0 rfl) ?_
      refine mo_getS (v := nI N) C V X 30 (by decide) (by decide) (by first | rfl | exact hS30) f_Mo_262 rfl d_Mo_isWhole_244 ?_
      refine lv_icmp_ne (tgt := 254) hx hb d_Mo_isWhole_247 (by decide) (fun c139 => ?_) (fun c139 => absurd c139 (fun z => absurd ((nI_eq (by omega) (by omega)).mp z) hqN))
      refine lv_iconst (v := 0) hx hb d_Mo_isWhole_254 (by decide) ?_
      refine gh_retz hAe C V hr (by first | rfl | decide) hlocks d_Mo_isWhole_255 (by first | decide | omega | (dsimp only; omega)) (by first | decide | omega | (dsimp only; omega)) ?_
      exact ⟨by rw [hqr, decide_eq_false (fun z => hqN (by cases z; rfl))]; rfl, _, X, hfr, fun z => absurd (by rw [hqr] at z; cases z; rfl) hqN⟩
  have hl : lv_has ls 9 [(0, .ref a), (1, .int 1), (2, .int 0)] := lv_sub hl [2, 1, 0] rfl
  rw [hRQ] at hR
  exact hR _ _ _ ls X V hl (fun k h1 h2 => by simp [va_up, h2])
