/-! findsParts and the other readings of a query. Printed by wip/whole/gen_find2.py. -/
theorem d_Qu_findsParts_0 : decode b_Qu_findsParts 0 = .ok (.aload_n 0, 1) := by decide +kernel
theorem d_Qu_findsParts_1 : decode b_Qu_findsParts 1 = .ok (.iconst 0, 1) := by decide +kernel
theorem d_Qu_findsParts_2 : decode b_Qu_findsParts 2 = .ok (.iconst 0, 1) := by decide +kernel
theorem d_Qu_findsParts_3 : decode b_Qu_findsParts 3 = .ok (.invokevirtual 20, 3) := by decide +kernel
theorem d_Qu_findsParts_6 : decode b_Qu_findsParts 6 = .ok (.aload_n 0, 1) := by decide +kernel
theorem d_Qu_findsParts_7 : decode b_Qu_findsParts 7 = .ok (.getfield 16, 3) := by decide +kernel
theorem d_Qu_findsParts_10 : decode b_Qu_findsParts 10 = .ok (.if_icmp .ne 7, 3) := by decide +kernel
theorem d_Qu_findsParts_13 : decode b_Qu_findsParts 13 = .ok (.iconst 1, 1) := by decide +kernel
theorem d_Qu_findsParts_14 : decode b_Qu_findsParts 14 = .ok (.goto 4, 3) := by decide +kernel
theorem d_Qu_findsParts_17 : decode b_Qu_findsParts 17 = .ok (.iconst 0, 1) := by decide +kernel
theorem d_Qu_findsParts_18 : decode b_Qu_findsParts 18 = .ok (.ireturn, 1) := by decide +kernel
set_option maxHeartbeats 4000000 in
set_option maxRecDepth 100000 in
theorem c_Qu_findsParts (l : Launch) (E : gh_E) (sz : Nat) (f : gh_F) (a cd bga n : Nat) (cb bg : Nat → Nat) (hn : n ≤ 60) (hcb : ∀ j, cb j < 256) (ha : f a = some (.inr (2, [.ref cd, .ref bga, .int (nI n)]))) (hcd : f cd = some (.inl (E.2.2.1 0, 60, .inl (fun j => nI (cb j))))) (hbg : f bga = some (.inl (E.2.2.1 0, 180, .inl (fun j => nI (bg j))))) (hne : cd ≠ bga) : gh_M l y_Qu_findsParts b_Qu_findsParts 1 (some .boolean) E sz [.ref a] f { frames := 20, cells := 0, slots := 0, locals := 480 } (fun r g => r = some (.int (gh_bi (decide ((qy_run cb n 13 0 bg).1 = some n)))) ∧ g bga = some (.inl (E.2.2.1 0, 180, .inl (fun j => nI ((qy_run cb n 13 0 bg).2 j)))) ∧ gh_fr f g (fun b => b ∈ ([bga] : List Nat))) := by
  refine gh_open (by decide) (Nat.le_of_ble_eq_true rfl) ?_
  intro p e s m args below meth c A ls hAe C V hr hlocks hname hl
  have hx := C.1
  have hb := C.2.1
  have hl : lv_has ls 1 [(0, .ref a)] := hl
  refine lv_aload_n hx hb d_Qu_findsParts_0 rfl (lv_at hl 0 rfl) ?_
  refine lv_iconst (v := 0) hx hb d_Qu_findsParts_1 (by decide) ?_
  refine lv_iconst (v := 0) hx hb d_Qu_findsParts_2 (by decide) ?_
  refine gh_callV (As := [.int (nI 0), .int (nI 0)]) C V hl.1 m_Qu_findBehind l_Qu_20 (c_Qu_findBehind l E 13 _ f a cd bga n 0 0 cb bg (by omega) hn (by omega) hcb ha hcd hbg hne) rfl ha gc_Qu ⟨by first | decide | omega | (dsimp only; omega), by first | decide | omega | (dsimp only; omega)⟩ ⟨by first | decide | omega | (dsimp only; omega), by first | decide | omega | (dsimp only; omega)⟩ (Nat.le_of_ble_eq_true rfl) rfl d_Qu_findsParts_3 (fun r f1 H locs hp V => ?_)
  obtain ⟨o9, bg3, hR⟩ : ∃ o9 bg3, qy_run cb n 13 0 bg = (o9, bg3) := ⟨_, _, rfl⟩
  rw [hR] at hp ⊢
  obtain ⟨rfl, hb9, hfr2⟩ := hp
  have h_a_c : f1 a = some (.inr (2, [.ref cd, .ref bga, .int (nI n)])) := hfr2.at1 ha (gh_nek ha hbg (show (2 : Nat) ≠ 100 by decide))
  cases o9 with
  | none =>
    refine W.eq (g2 := F0 m 6 ls [.int ((-1))]) rfl ?_
    refine lv_aload_n hx hb d_Qu_findsParts_6 rfl (lv_at hl 0 rfl) ?_
    refine gh_get C V h_a_c gc_Qu gi_Qu 2 (by decide) f_Qu_16 rfl rfl d_Qu_findsParts_7 ?_
    refine lv_icmp_ne (tgt := 17) hx hb d_Qu_findsParts_10 (by decide) (fun c2 => ?_) (fun c2 => absurd c2 (fun z => gn_nem1 (p := n) (by omega) z.symm))
    refine lv_iconst (v := 0) hx hb d_Qu_findsParts_17 (by decide) ?_
    refine gh_retz hAe C V hr (by first | rfl | decide) hlocks d_Qu_findsParts_18 (by first | decide | omega | (dsimp only; omega)) (by first | decide | omega | (dsimp only; omega)) ?_
    exact ⟨by simp [gh_bi], hb9, hfr2⟩
  | some p9 =>
    refine W.eq (g2 := F0 m 6 ls [.int (nI p9)]) rfl ?_
    have hp9 := qy_run_le _ _ _ _ _ hR
    refine lv_aload_n hx hb d_Qu_findsParts_6 rfl (lv_at hl 0 rfl) ?_
    refine gh_get C V h_a_c gc_Qu gi_Qu 2 (by decide) f_Qu_16 rfl rfl d_Qu_findsParts_7 ?_
    refine lv_icmp_ne (tgt := 17) hx hb d_Qu_findsParts_10 (by decide) (fun c3 => ?_) (fun c3 => ?_)
    · have c3 : ¬ p9 = n := by rw [← gq_eq (a := p9) (b := n) (by omega) (by omega)]; exact c3
      refine lv_iconst (v := 0) hx hb d_Qu_findsParts_17 (by decide) ?_
      refine gh_retz hAe C V hr (by first | rfl | decide) hlocks d_Qu_findsParts_18 (by first | decide | omega | (dsimp only; omega)) (by first | decide | omega | (dsimp only; omega)) ?_
      exact ⟨by simp [gh_bi, c3], hb9, hfr2⟩
    · have c3 : p9 = n := by rw [← gq_eq (a := p9) (b := n) (by omega) (by omega)]; exact c3
      refine lv_iconst (v := 1) hx hb d_Qu_findsParts_13 (by decide) ?_
      refine lv_goto (tgt := 18) hx hb d_Qu_findsParts_14 (by decide) ?_
      refine gh_retz hAe C V hr (by first | rfl | decide) hlocks d_Qu_findsParts_18 (by first | decide | omega | (dsimp only; omega)) (by first | decide | omega | (dsimp only; omega)) ?_
      exact ⟨by simp [gh_bi, c3], hb9, hfr2⟩
