/-! beginSecond. Printed by wip/whole/gen_ru11.py. -/
theorem d_Ru_beginSecond_0 : decode b_Ru_beginSecond 0 = .ok (.aload_n 0, 1) := by decide +kernel
theorem d_Ru_beginSecond_1 : decode b_Ru_beginSecond 1 = .ok (.getfield 44, 3) := by decide +kernel
theorem d_Ru_beginSecond_4 : decode b_Ru_beginSecond 4 = .ok (.aload_n 1, 1) := by decide +kernel
theorem d_Ru_beginSecond_5 : decode b_Ru_beginSecond 5 = .ok (.getfield 75, 3) := by decide +kernel
theorem d_Ru_beginSecond_8 : decode b_Ru_beginSecond 8 = .ok (.invokevirtual 100, 3) := by decide +kernel
theorem d_Ru_beginSecond_11 : decode b_Ru_beginSecond 11 = .ok (.istore_n 3, 1) := by decide +kernel
theorem d_Ru_beginSecond_12 : decode b_Ru_beginSecond 12 = .ok (.iload_n 3, 1) := by decide +kernel
theorem d_Ru_beginSecond_13 : decode b_Ru_beginSecond 13 = .ok (.bipush 11, 2) := by decide +kernel
theorem d_Ru_beginSecond_15 : decode b_Ru_beginSecond 15 = .ok (.if_icmp .ne 14, 3) := by decide +kernel
theorem d_Ru_beginSecond_18 : decode b_Ru_beginSecond 18 = .ok (.aload_n 2, 1) := by decide +kernel
theorem d_Ru_beginSecond_19 : decode b_Ru_beginSecond 19 = .ok (.invokevirtual 165, 3) := by decide +kernel
theorem d_Ru_beginSecond_22 : decode b_Ru_beginSecond 22 = .ok (.ifCond .ne 7, 3) := by decide +kernel
theorem d_Ru_beginSecond_25 : decode b_Ru_beginSecond 25 = .ok (.iconst 2, 1) := by decide +kernel
theorem d_Ru_beginSecond_26 : decode b_Ru_beginSecond 26 = .ok (.goto 4, 3) := by decide +kernel
theorem d_Ru_beginSecond_29 : decode b_Ru_beginSecond 29 = .ok (.iconst 1, 1) := by decide +kernel
theorem d_Ru_beginSecond_30 : decode b_Ru_beginSecond 30 = .ok (.istore 4, 2) := by decide +kernel
theorem d_Ru_beginSecond_32 : decode b_Ru_beginSecond 32 = .ok (.iload_n 3, 1) := by decide +kernel
theorem d_Ru_beginSecond_33 : decode b_Ru_beginSecond 33 = .ok (.bipush 8, 2) := by decide +kernel
theorem d_Ru_beginSecond_35 : decode b_Ru_beginSecond 35 = .ok (.if_icmp .ne 7, 3) := by decide +kernel
theorem d_Ru_beginSecond_38 : decode b_Ru_beginSecond 38 = .ok (.aload_n 2, 1) := by decide +kernel
theorem d_Ru_beginSecond_39 : decode b_Ru_beginSecond 39 = .ok (.goto 7, 3) := by decide +kernel
theorem d_Ru_beginSecond_42 : decode b_Ru_beginSecond 42 = .ok (.aload_n 1, 1) := by decide +kernel
theorem d_Ru_beginSecond_43 : decode b_Ru_beginSecond 43 = .ok (.getfield 81, 3) := by decide +kernel
theorem d_Ru_beginSecond_46 : decode b_Ru_beginSecond 46 = .ok (.astore 5, 2) := by decide +kernel
theorem d_Ru_beginSecond_48 : decode b_Ru_beginSecond 48 = .ok (.aload_n 0, 1) := by decide +kernel
theorem d_Ru_beginSecond_49 : decode b_Ru_beginSecond 49 = .ok (.aload_n 0, 1) := by decide +kernel
theorem d_Ru_beginSecond_50 : decode b_Ru_beginSecond 50 = .ok (.getfield 44, 3) := by decide +kernel
theorem d_Ru_beginSecond_53 : decode b_Ru_beginSecond 53 = .ok (.aload_n 1, 1) := by decide +kernel
theorem d_Ru_beginSecond_54 : decode b_Ru_beginSecond 54 = .ok (.getfield 75, 3) := by decide +kernel
theorem d_Ru_beginSecond_57 : decode b_Ru_beginSecond 57 = .ok (.iload 4, 2) := by decide +kernel
theorem d_Ru_beginSecond_59 : decode b_Ru_beginSecond 59 = .ok (.invokevirtual 137, 3) := by decide +kernel
theorem d_Ru_beginSecond_62 : decode b_Ru_beginSecond 62 = .ok (.aload_n 1, 1) := by decide +kernel
theorem d_Ru_beginSecond_63 : decode b_Ru_beginSecond 63 = .ok (.getfield 78, 3) := by decide +kernel
theorem d_Ru_beginSecond_66 : decode b_Ru_beginSecond 66 = .ok (.iconst 1, 1) := by decide +kernel
theorem d_Ru_beginSecond_67 : decode b_Ru_beginSecond 67 = .ok (.iadd, 1) := by decide +kernel
theorem d_Ru_beginSecond_68 : decode b_Ru_beginSecond 68 = .ok (.aload 5, 2) := by decide +kernel
theorem d_Ru_beginSecond_70 : decode b_Ru_beginSecond 70 = .ok (.aload_n 1, 1) := by decide +kernel
theorem d_Ru_beginSecond_71 : decode b_Ru_beginSecond 71 = .ok (.getfield 84, 3) := by decide +kernel
theorem d_Ru_beginSecond_74 : decode b_Ru_beginSecond 74 = .ok (.invokevirtual 60, 3) := by decide +kernel
theorem d_Ru_beginSecond_77 : decode b_Ru_beginSecond 77 = .ok (.areturn, 1) := by decide +kernel
set_option maxHeartbeats 4000000 in
set_option maxRecDepth 100000 in
theorem c_Ru_beginSecond (l : Launch) (E : gh_E) (sz : Nat) (f : gh_F) (ρ Z : Nat → Nat) (q0 N : Nat) (cb bg : Nat → Nat) (φ b : Nat) (s0 e0 : Int32) (n k pt w9 it el a : Nat) (X Y x : vt) (y4 y5 y6 y7 y8 : Value) (hR : rn_R E ρ Z f q0 N cb bg φ b s0 e0) (hφb : φ + b ≤ 250) (hn1 : 1 ≤ n) (hn19 : n ≤ 19) (hqw : qw cb bg N w9 pt) (hs : f (Z (1000 + k)) = some (.inr (5, [.int (nI pt), .int (nI (19 - n)), .ref it, .ref el, y4, y5, y6, y7, y8]))) (hx9 : cw E (rP ρ) f a x) (hkd : cb pt = 8 ∨ cb pt = 11 ∨ 22 ≤ cb pt) : gh_M l y_Ru_beginSecond b_Ru_beginSecond 6 (some (.object "QueryMachine$Step")) E sz [.ref (Z 1), .ref (Z (1000 + k)), .ref a] f { frames := 4, cells := 0, slots := 0, locals := 100 } (fun r g => (φ = 0 → r = some .null ∧ g = f) ∧ (0 < φ → r = some (.ref (Z (1000 + b))) ∧ rn_R E ρ Z g q0 N cb bg (φ - 1) (b + 1) s0 e0 ∧ g (Z (1000 + b)) = some (.inr (5, [.int (nI (bg (pt * 3 + (if cb pt = 11 ∧ vt_tr x = false then 2 else 1)))), .int (nI (20 - n)), .ref (if cb pt = 8 then a else it), .ref el, .null, .null, .int 0, .int 0, .ref (Z 201)])) ∧ gh_fr f g (fun a => ρ a = 1 ∨ ρ a = 1000 + b))) := by
  have hptN := (qw_lt hqw).1
  have hp26 := (qw_lt hqw).2
  refine gh_open (by decide) (Nat.le_of_ble_eq_true rfl) ?_
  intro p e s m args below meth c A ls hAe C V hr hlocks hname hl
  have hx := C.1
  have hb := C.2.1
  have hl : lv_has ls 6 [(0, .ref (Z 1)), (1, .ref (Z (1000 + k))), (2, .ref a)] := hl
  have hRc := hR
  obtain ⟨h1R, ⟨hz, ⟨p206, p207⟩, ⟨gS, hgS, hgS2⟩, ⟨gG, hgG, hgG2⟩, hVR, hqR, hcdR, hbaR, hN60, hq0⟩, ⟨hgaV, hgaR⟩, hSR, hnon⟩ := hRc
  obtain ⟨pvsR, hvsR, hnuR, hnoR, hyeR, -⟩ := id hVR
  have hpt60 : pt < 60 := by omega
  refine lv_aload_n hx hb d_Ru_beginSecond_0 rfl (lv_at hl 0 rfl) ?_
  refine gh_get C V h1R gc_Ru gi_Ru 4 (by decide) f_Ru_44 rfl rfl d_Ru_beginSecond_1 ?_
  refine lv_aload_n hx hb d_Ru_beginSecond_4 rfl (lv_at hl 1 rfl) ?_
  refine gh_get C V hs gc_St gi_St 0 (by decide) f_Ru_75 rfl rfl d_Ru_beginSecond_5 ?_
  refine gh_callV C V hl.1 m_Qu_partAt l_Ru_100 (c_Qu_partAt l E _ f (Z q0) (Z (q0 + 1)) (Z (q0 + 2)) N cb bg pt hN60 hqR hcdR hbaR hptN) rfl hqR gc_Qu ⟨by first | decide | omega | (dsimp only; omega), by first | decide | omega | (dsimp only; omega)⟩ ⟨by first | decide | omega | (dsimp only; omega), by first | decide | omega | (dsimp only; omega)⟩ (Nat.le_of_ble_eq_true rfl) rfl d_Ru_beginSecond_8 (fun r z9 H locs hp V => ?_)
  obtain ⟨rfl, he9⟩ := hp
  rw [he9] at V
  refine W.eq (g2 := F0 m 11 ls [.int (nI (cb pt))]) rfl ?_
  refine lv_istore_n hx hb d_Ru_beginSecond_11 rfl hl (by decide) rfl (fun ls hl => ?_)
  have hl : lv_has ls 6 [(3, .int (nI (cb pt))), (0, .ref (Z 1)), (1, .ref (Z (1000 + k))), (2, .ref a)] := hl
  refine lv_iload_n hx hb d_Ru_beginSecond_12 rfl (lv_at hl 0 rfl) ?_
  refine lv_bipush (v := 11) hx hb d_Ru_beginSecond_13 (by decide) ?_
  refine lv_icmp_ne (tgt := 29) hx hb d_Ru_beginSecond_15 (by decide) (fun c1 => ?_) (fun c1 => ?_)
  · have c1 : ¬ (cb pt) = 11 := by rw [← gq_eq (a := cb pt) (b := 11) (by omega) (by omega)]; exact c1
    refine lv_iconst (v := 1) hx hb d_Ru_beginSecond_29 (by decide) ?_
    refine lv_istore hx hb d_Ru_beginSecond_30 hl (by decide) rfl (fun ls hl => ?_)
    have hl : lv_has ls 6 [(4, .int 1), (3, .int (nI (cb pt))), (0, .ref (Z 1)), (1, .ref (Z (1000 + k))), (2, .ref a)] := hl
    refine lv_iload_n hx hb d_Ru_beginSecond_32 rfl (lv_at hl 1 rfl) ?_
    refine lv_bipush (v := 8) hx hb d_Ru_beginSecond_33 (by decide) ?_
    refine lv_icmp_ne (tgt := 42) hx hb d_Ru_beginSecond_35 (by decide) (fun c2 => ?_) (fun c2 => ?_)
    · have c2 : ¬ (cb pt) = 8 := by rw [← gq_eq (a := cb pt) (b := 8) (by omega) (by omega)]; exact c2
      refine lv_aload_n hx hb d_Ru_beginSecond_42 rfl (lv_at hl 3 rfl) ?_
      refine gh_get C V hs gc_St gi_St 2 (by decide) f_Ru_81 rfl rfl d_Ru_beginSecond_43 ?_
      refine lv_astore hx hb d_Ru_beginSecond_46 hl (by decide) rfl (fun ls hl => ?_)
      have hl : lv_has ls 6 [(5, .ref it), (4, .int 1), (3, .int (nI (cb pt))), (0, .ref (Z 1)), (1, .ref (Z (1000 + k))), (2, .ref a)] := hl
      refine lv_aload_n hx hb d_Ru_beginSecond_48 rfl (lv_at hl 3 rfl) ?_
      refine lv_aload_n hx hb d_Ru_beginSecond_49 rfl (lv_at hl 3 rfl) ?_
      refine gh_get C V h1R gc_Ru gi_Ru 4 (by decide) f_Ru_44 rfl rfl d_Ru_beginSecond_50 ?_
      refine lv_aload_n hx hb d_Ru_beginSecond_53 rfl (lv_at hl 4 rfl) ?_
      refine gh_get C V hs gc_St gi_St 0 (by decide) f_Ru_75 rfl rfl d_Ru_beginSecond_54 ?_
      refine lv_iload hx hb d_Ru_beginSecond_57 (lv_at hl 1 rfl) ?_
      refine gh_callV C V hl.1 m_Qu_placeIn l_Ru_137 (c_Qu_placeIn l E _ f (Z q0) (Z (q0 + 1)) (Z (q0 + 2)) N cb bg pt 1 hN60 hqR hcdR hbaR hpt60 (by decide)) rfl hqR gc_Qu ⟨by first | decide | omega | (dsimp only; omega), by first | decide | omega | (dsimp only; omega)⟩ ⟨by first | decide | omega | (dsimp only; omega), by first | decide | omega | (dsimp only; omega)⟩ (Nat.le_of_ble_eq_true rfl) rfl d_Ru_beginSecond_59 (fun r z9 H locs hp V => ?_)
      obtain ⟨rfl, he9⟩ := hp
      rw [he9] at V
      refine W.eq (g2 := F0 m 62 ls [.int (nI (bg (pt * 3 + 1))), .ref (Z 1)]) rfl ?_
      refine lv_aload_n hx hb d_Ru_beginSecond_62 rfl (lv_at hl 4 rfl) ?_
      refine gh_get C V hs gc_St gi_St 1 (by decide) f_Ru_78 rfl rfl d_Ru_beginSecond_63 ?_
      refine lv_iconst (v := 1) hx hb d_Ru_beginSecond_66 (by decide) ?_
      refine gn_iadd (a := 19 - n) (b := 1) hx hb d_Ru_beginSecond_67 ?_
      rw [show 19 - n + 1 = 20 - n by omega]
      refine lv_aload hx hb d_Ru_beginSecond_68 (lv_at hl 0 rfl) ?_
      refine lv_aload_n hx hb d_Ru_beginSecond_70 rfl (lv_at hl 4 rfl) ?_
      refine gh_get C V hs gc_St gi_St 3 (by decide) f_Ru_84 rfl rfl d_Ru_beginSecond_71 ?_
      refine gh_callV C V hl.1 m_Ru_begin l_Ru_60 (c_Ru_begin l E _ f ρ Z q0 N cb bg φ b s0 e0 (bg (pt * 3 + 1)) (20 - n) it el hR hφb (by omega)) rfl h1R gc_Ru ⟨by first | decide | omega | (dsimp only; omega), by first | decide | omega | (dsimp only; omega)⟩ ⟨by first | decide | omega | (dsimp only; omega), by first | decide | omega | (dsimp only; omega)⟩ (Nat.le_of_ble_eq_true rfl) rfl d_Ru_beginSecond_74 (fun r g9 H locs hp V => ?_)
      by_cases hφ0 : φ = 0
      · obtain ⟨rfl, he9⟩ := hp.1 hφ0
        rw [he9] at V
        refine W.eq (g2 := F0 m 77 ls [.null]) rfl ?_
        refine gh_reta hAe C V hr (by first | exact Or.inl ⟨_, rfl⟩ | exact Or.inr ⟨_, rfl⟩) (by first | exact Or.inl rfl | exact Or.inr ⟨_, rfl⟩) hlocks d_Ru_beginSecond_77 (by first | decide | omega | (dsimp only; omega)) (by first | decide | omega | (dsimp only; omega)) ?_
        exact ⟨fun _ => ⟨rfl, rfl⟩, fun h => absurd h (by omega)⟩
      · obtain ⟨rfl, hR9, hsb, hfr9⟩ := hp.2 (by omega)
        refine W.eq (g2 := F0 m 77 ls [.ref (Z (1000 + b))]) rfl ?_
        refine gh_reta hAe C V hr (by first | exact Or.inl ⟨_, rfl⟩ | exact Or.inr ⟨_, rfl⟩) (by first | exact Or.inl rfl | exact Or.inr ⟨_, rfl⟩) hlocks d_Ru_beginSecond_77 (by first | decide | omega | (dsimp only; omega)) (by first | decide | omega | (dsimp only; omega)) ?_
        refine ⟨fun h => absurd h (by omega), fun _ => ⟨rfl, hR9, ?_, hfr9⟩⟩
        rw [if_neg (fun z => c1 z.1), if_neg c2]
        exact hsb
    · have c2 : (cb pt) = 8 := by rw [← gq_eq (a := cb pt) (b := 8) (by omega) (by omega)]; exact c2
      refine lv_aload_n hx hb d_Ru_beginSecond_38 rfl (lv_at hl 4 rfl) ?_
      refine lv_goto (tgt := 46) hx hb d_Ru_beginSecond_39 (by decide) ?_
      refine lv_astore hx hb d_Ru_beginSecond_46 hl (by decide) rfl (fun ls hl => ?_)
      have hl : lv_has ls 6 [(5, .ref a), (4, .int 1), (3, .int (nI (cb pt))), (0, .ref (Z 1)), (1, .ref (Z (1000 + k))), (2, .ref a)] := hl
      refine lv_aload_n hx hb d_Ru_beginSecond_48 rfl (lv_at hl 3 rfl) ?_
      refine lv_aload_n hx hb d_Ru_beginSecond_49 rfl (lv_at hl 3 rfl) ?_
      refine gh_get C V h1R gc_Ru gi_Ru 4 (by decide) f_Ru_44 rfl rfl d_Ru_beginSecond_50 ?_
      refine lv_aload_n hx hb d_Ru_beginSecond_53 rfl (lv_at hl 4 rfl) ?_
      refine gh_get C V hs gc_St gi_St 0 (by decide) f_Ru_75 rfl rfl d_Ru_beginSecond_54 ?_
      refine lv_iload hx hb d_Ru_beginSecond_57 (lv_at hl 1 rfl) ?_
      refine gh_callV C V hl.1 m_Qu_placeIn l_Ru_137 (c_Qu_placeIn l E _ f (Z q0) (Z (q0 + 1)) (Z (q0 + 2)) N cb bg pt 1 hN60 hqR hcdR hbaR hpt60 (by decide)) rfl hqR gc_Qu ⟨by first | decide | omega | (dsimp only; omega), by first | decide | omega | (dsimp only; omega)⟩ ⟨by first | decide | omega | (dsimp only; omega), by first | decide | omega | (dsimp only; omega)⟩ (Nat.le_of_ble_eq_true rfl) rfl d_Ru_beginSecond_59 (fun r z9 H locs hp V => ?_)
      obtain ⟨rfl, he9⟩ := hp
      rw [he9] at V
      refine W.eq (g2 := F0 m 62 ls [.int (nI (bg (pt * 3 + 1))), .ref (Z 1)]) rfl ?_
      refine lv_aload_n hx hb d_Ru_beginSecond_62 rfl (lv_at hl 4 rfl) ?_
      refine gh_get C V hs gc_St gi_St 1 (by decide) f_Ru_78 rfl rfl d_Ru_beginSecond_63 ?_
      refine lv_iconst (v := 1) hx hb d_Ru_beginSecond_66 (by decide) ?_
      refine gn_iadd (a := 19 - n) (b := 1) hx hb d_Ru_beginSecond_67 ?_
      rw [show 19 - n + 1 = 20 - n by omega]
      refine lv_aload hx hb d_Ru_beginSecond_68 (lv_at hl 0 rfl) ?_
      refine lv_aload_n hx hb d_Ru_beginSecond_70 rfl (lv_at hl 4 rfl) ?_
      refine gh_get C V hs gc_St gi_St 3 (by decide) f_Ru_84 rfl rfl d_Ru_beginSecond_71 ?_
      refine gh_callV C V hl.1 m_Ru_begin l_Ru_60 (c_Ru_begin l E _ f ρ Z q0 N cb bg φ b s0 e0 (bg (pt * 3 + 1)) (20 - n) a el hR hφb (by omega)) rfl h1R gc_Ru ⟨by first | decide | omega | (dsimp only; omega), by first | decide | omega | (dsimp only; omega)⟩ ⟨by first | decide | omega | (dsimp only; omega), by first | decide | omega | (dsimp only; omega)⟩ (Nat.le_of_ble_eq_true rfl) rfl d_Ru_beginSecond_74 (fun r g9 H locs hp V => ?_)
      by_cases hφ0 : φ = 0
      · obtain ⟨rfl, he9⟩ := hp.1 hφ0
        rw [he9] at V
        refine W.eq (g2 := F0 m 77 ls [.null]) rfl ?_
        refine gh_reta hAe C V hr (by first | exact Or.inl ⟨_, rfl⟩ | exact Or.inr ⟨_, rfl⟩) (by first | exact Or.inl rfl | exact Or.inr ⟨_, rfl⟩) hlocks d_Ru_beginSecond_77 (by first | decide | omega | (dsimp only; omega)) (by first | decide | omega | (dsimp only; omega)) ?_
        exact ⟨fun _ => ⟨rfl, rfl⟩, fun h => absurd h (by omega)⟩
      · obtain ⟨rfl, hR9, hsb, hfr9⟩ := hp.2 (by omega)
        refine W.eq (g2 := F0 m 77 ls [.ref (Z (1000 + b))]) rfl ?_
        refine gh_reta hAe C V hr (by first | exact Or.inl ⟨_, rfl⟩ | exact Or.inr ⟨_, rfl⟩) (by first | exact Or.inl rfl | exact Or.inr ⟨_, rfl⟩) hlocks d_Ru_beginSecond_77 (by first | decide | omega | (dsimp only; omega)) (by first | decide | omega | (dsimp only; omega)) ?_
        refine ⟨fun h => absurd h (by omega), fun _ => ⟨rfl, hR9, ?_, hfr9⟩⟩
        rw [if_neg (fun z => c1 z.1), if_pos c2]
        exact hsb
  · have c1 : (cb pt) = 11 := by rw [← gq_eq (a := cb pt) (b := 11) (by omega) (by omega)]; exact c1
    refine lv_aload_n hx hb d_Ru_beginSecond_18 rfl (lv_at hl 3 rfl) ?_
    obtain ⟨vs9, hvs9⟩ := hx9.cell
    refine gh_callV C V hl.1 m_Va_isTruthy l_Ru_165 (c_Va_isTruthy l E _ f (rP ρ) a x hx9) rfl hvs9 gc_Va ⟨by first | decide | omega | (dsimp only; omega), by first | decide | omega | (dsimp only; omega)⟩ ⟨by first | decide | omega | (dsimp only; omega), by first | decide | omega | (dsimp only; omega)⟩ (Nat.le_of_ble_eq_true rfl) rfl d_Ru_beginSecond_19 (fun r z9 H locs hp V => ?_)
    obtain ⟨rfl, he9⟩ := hp
    rw [he9] at V
    refine W.eq (g2 := F0 m 22 ls [.int (gh_bi (vt_tr x))]) rfl ?_
    refine lv_if_ne (tgt := 29) hx hb d_Ru_beginSecond_22 (by decide) (fun c3 => ?_) (fun c3 => ?_)
    · have c3 : (vt_tr x) = true := gh_bi_1 c3
      refine lv_iconst (v := 1) hx hb d_Ru_beginSecond_29 (by decide) ?_
      refine lv_istore hx hb d_Ru_beginSecond_30 hl (by decide) rfl (fun ls hl => ?_)
      have hl : lv_has ls 6 [(4, .int 1), (3, .int (nI (cb pt))), (0, .ref (Z 1)), (1, .ref (Z (1000 + k))), (2, .ref a)] := hl
      refine lv_iload_n hx hb d_Ru_beginSecond_32 rfl (lv_at hl 1 rfl) ?_
      refine lv_bipush (v := 8) hx hb d_Ru_beginSecond_33 (by decide) ?_
      refine lv_icmp_ne (tgt := 42) hx hb d_Ru_beginSecond_35 (by decide) (fun c4 => ?_) (fun c4 => ?_)
      · have c4 : ¬ (cb pt) = 8 := by rw [← gq_eq (a := cb pt) (b := 8) (by omega) (by omega)]; exact c4
        refine lv_aload_n hx hb d_Ru_beginSecond_42 rfl (lv_at hl 3 rfl) ?_
        refine gh_get C V hs gc_St gi_St 2 (by decide) f_Ru_81 rfl rfl d_Ru_beginSecond_43 ?_
        refine lv_astore hx hb d_Ru_beginSecond_46 hl (by decide) rfl (fun ls hl => ?_)
        have hl : lv_has ls 6 [(5, .ref it), (4, .int 1), (3, .int (nI (cb pt))), (0, .ref (Z 1)), (1, .ref (Z (1000 + k))), (2, .ref a)] := hl
        refine lv_aload_n hx hb d_Ru_beginSecond_48 rfl (lv_at hl 3 rfl) ?_
        refine lv_aload_n hx hb d_Ru_beginSecond_49 rfl (lv_at hl 3 rfl) ?_
        refine gh_get C V h1R gc_Ru gi_Ru 4 (by decide) f_Ru_44 rfl rfl d_Ru_beginSecond_50 ?_
        refine lv_aload_n hx hb d_Ru_beginSecond_53 rfl (lv_at hl 4 rfl) ?_
        refine gh_get C V hs gc_St gi_St 0 (by decide) f_Ru_75 rfl rfl d_Ru_beginSecond_54 ?_
        refine lv_iload hx hb d_Ru_beginSecond_57 (lv_at hl 1 rfl) ?_
        refine gh_callV C V hl.1 m_Qu_placeIn l_Ru_137 (c_Qu_placeIn l E _ f (Z q0) (Z (q0 + 1)) (Z (q0 + 2)) N cb bg pt 1 hN60 hqR hcdR hbaR hpt60 (by decide)) rfl hqR gc_Qu ⟨by first | decide | omega | (dsimp only; omega), by first | decide | omega | (dsimp only; omega)⟩ ⟨by first | decide | omega | (dsimp only; omega), by first | decide | omega | (dsimp only; omega)⟩ (Nat.le_of_ble_eq_true rfl) rfl d_Ru_beginSecond_59 (fun r z9 H locs hp V => ?_)
        obtain ⟨rfl, he9⟩ := hp
        rw [he9] at V
        refine W.eq (g2 := F0 m 62 ls [.int (nI (bg (pt * 3 + 1))), .ref (Z 1)]) rfl ?_
        refine lv_aload_n hx hb d_Ru_beginSecond_62 rfl (lv_at hl 4 rfl) ?_
        refine gh_get C V hs gc_St gi_St 1 (by decide) f_Ru_78 rfl rfl d_Ru_beginSecond_63 ?_
        refine lv_iconst (v := 1) hx hb d_Ru_beginSecond_66 (by decide) ?_
        refine gn_iadd (a := 19 - n) (b := 1) hx hb d_Ru_beginSecond_67 ?_
        rw [show 19 - n + 1 = 20 - n by omega]
        refine lv_aload hx hb d_Ru_beginSecond_68 (lv_at hl 0 rfl) ?_
        refine lv_aload_n hx hb d_Ru_beginSecond_70 rfl (lv_at hl 4 rfl) ?_
        refine gh_get C V hs gc_St gi_St 3 (by decide) f_Ru_84 rfl rfl d_Ru_beginSecond_71 ?_
        refine gh_callV C V hl.1 m_Ru_begin l_Ru_60 (c_Ru_begin l E _ f ρ Z q0 N cb bg φ b s0 e0 (bg (pt * 3 + 1)) (20 - n) it el hR hφb (by omega)) rfl h1R gc_Ru ⟨by first | decide | omega | (dsimp only; omega), by first | decide | omega | (dsimp only; omega)⟩ ⟨by first | decide | omega | (dsimp only; omega), by first | decide | omega | (dsimp only; omega)⟩ (Nat.le_of_ble_eq_true rfl) rfl d_Ru_beginSecond_74 (fun r g9 H locs hp V => ?_)
        by_cases hφ0 : φ = 0
        · obtain ⟨rfl, he9⟩ := hp.1 hφ0
          rw [he9] at V
          refine W.eq (g2 := F0 m 77 ls [.null]) rfl ?_
          refine gh_reta hAe C V hr (by first | exact Or.inl ⟨_, rfl⟩ | exact Or.inr ⟨_, rfl⟩) (by first | exact Or.inl rfl | exact Or.inr ⟨_, rfl⟩) hlocks d_Ru_beginSecond_77 (by first | decide | omega | (dsimp only; omega)) (by first | decide | omega | (dsimp only; omega)) ?_
          exact ⟨fun _ => ⟨rfl, rfl⟩, fun h => absurd h (by omega)⟩
        · obtain ⟨rfl, hR9, hsb, hfr9⟩ := hp.2 (by omega)
          refine W.eq (g2 := F0 m 77 ls [.ref (Z (1000 + b))]) rfl ?_
          refine gh_reta hAe C V hr (by first | exact Or.inl ⟨_, rfl⟩ | exact Or.inr ⟨_, rfl⟩) (by first | exact Or.inl rfl | exact Or.inr ⟨_, rfl⟩) hlocks d_Ru_beginSecond_77 (by first | decide | omega | (dsimp only; omega)) (by first | decide | omega | (dsimp only; omega)) ?_
          refine ⟨fun h => absurd h (by omega), fun _ => ⟨rfl, hR9, ?_, hfr9⟩⟩
          rw [if_neg (fun z => by rw [c3] at z; cases z.2), if_neg c4]
          exact hsb
      · have c4 : (cb pt) = 8 := by rw [← gq_eq (a := cb pt) (b := 8) (by omega) (by omega)]; exact c4
        refine lv_aload_n hx hb d_Ru_beginSecond_38 rfl (lv_at hl 4 rfl) ?_
        refine lv_goto (tgt := 46) hx hb d_Ru_beginSecond_39 (by decide) ?_
        refine lv_astore hx hb d_Ru_beginSecond_46 hl (by decide) rfl (fun ls hl => ?_)
        have hl : lv_has ls 6 [(5, .ref a), (4, .int 1), (3, .int (nI (cb pt))), (0, .ref (Z 1)), (1, .ref (Z (1000 + k))), (2, .ref a)] := hl
        refine lv_aload_n hx hb d_Ru_beginSecond_48 rfl (lv_at hl 3 rfl) ?_
        refine lv_aload_n hx hb d_Ru_beginSecond_49 rfl (lv_at hl 3 rfl) ?_
        refine gh_get C V h1R gc_Ru gi_Ru 4 (by decide) f_Ru_44 rfl rfl d_Ru_beginSecond_50 ?_
        refine lv_aload_n hx hb d_Ru_beginSecond_53 rfl (lv_at hl 4 rfl) ?_
        refine gh_get C V hs gc_St gi_St 0 (by decide) f_Ru_75 rfl rfl d_Ru_beginSecond_54 ?_
        refine lv_iload hx hb d_Ru_beginSecond_57 (lv_at hl 1 rfl) ?_
        refine gh_callV C V hl.1 m_Qu_placeIn l_Ru_137 (c_Qu_placeIn l E _ f (Z q0) (Z (q0 + 1)) (Z (q0 + 2)) N cb bg pt 1 hN60 hqR hcdR hbaR hpt60 (by decide)) rfl hqR gc_Qu ⟨by first | decide | omega | (dsimp only; omega), by first | decide | omega | (dsimp only; omega)⟩ ⟨by first | decide | omega | (dsimp only; omega), by first | decide | omega | (dsimp only; omega)⟩ (Nat.le_of_ble_eq_true rfl) rfl d_Ru_beginSecond_59 (fun r z9 H locs hp V => ?_)
        obtain ⟨rfl, he9⟩ := hp
        rw [he9] at V
        refine W.eq (g2 := F0 m 62 ls [.int (nI (bg (pt * 3 + 1))), .ref (Z 1)]) rfl ?_
        refine lv_aload_n hx hb d_Ru_beginSecond_62 rfl (lv_at hl 4 rfl) ?_
        refine gh_get C V hs gc_St gi_St 1 (by decide) f_Ru_78 rfl rfl d_Ru_beginSecond_63 ?_
        refine lv_iconst (v := 1) hx hb d_Ru_beginSecond_66 (by decide) ?_
        refine gn_iadd (a := 19 - n) (b := 1) hx hb d_Ru_beginSecond_67 ?_
        rw [show 19 - n + 1 = 20 - n by omega]
        refine lv_aload hx hb d_Ru_beginSecond_68 (lv_at hl 0 rfl) ?_
        refine lv_aload_n hx hb d_Ru_beginSecond_70 rfl (lv_at hl 4 rfl) ?_
        refine gh_get C V hs gc_St gi_St 3 (by decide) f_Ru_84 rfl rfl d_Ru_beginSecond_71 ?_
        refine gh_callV C V hl.1 m_Ru_begin l_Ru_60 (c_Ru_begin l E _ f ρ Z q0 N cb bg φ b s0 e0 (bg (pt * 3 + 1)) (20 - n) a el hR hφb (by omega)) rfl h1R gc_Ru ⟨by first | decide | omega | (dsimp only; omega), by first | decide | omega | (dsimp only; omega)⟩ ⟨by first | decide | omega | (dsimp only; omega), by first | decide | omega | (dsimp only; omega)⟩ (Nat.le_of_ble_eq_true rfl) rfl d_Ru_beginSecond_74 (fun r g9 H locs hp V => ?_)
        by_cases hφ0 : φ = 0
        · obtain ⟨rfl, he9⟩ := hp.1 hφ0
          rw [he9] at V
          refine W.eq (g2 := F0 m 77 ls [.null]) rfl ?_
          refine gh_reta hAe C V hr (by first | exact Or.inl ⟨_, rfl⟩ | exact Or.inr ⟨_, rfl⟩) (by first | exact Or.inl rfl | exact Or.inr ⟨_, rfl⟩) hlocks d_Ru_beginSecond_77 (by first | decide | omega | (dsimp only; omega)) (by first | decide | omega | (dsimp only; omega)) ?_
          exact ⟨fun _ => ⟨rfl, rfl⟩, fun h => absurd h (by omega)⟩
        · obtain ⟨rfl, hR9, hsb, hfr9⟩ := hp.2 (by omega)
          refine W.eq (g2 := F0 m 77 ls [.ref (Z (1000 + b))]) rfl ?_
          refine gh_reta hAe C V hr (by first | exact Or.inl ⟨_, rfl⟩ | exact Or.inr ⟨_, rfl⟩) (by first | exact Or.inl rfl | exact Or.inr ⟨_, rfl⟩) hlocks d_Ru_beginSecond_77 (by first | decide | omega | (dsimp only; omega)) (by first | decide | omega | (dsimp only; omega)) ?_
          refine ⟨fun h => absurd h (by omega), fun _ => ⟨rfl, hR9, ?_, hfr9⟩⟩
          rw [if_neg (fun z => by rw [c3] at z; cases z.2), if_pos c4]
          exact hsb
    · have c3 : (vt_tr x) = false := gh_bi_0 c3
      refine lv_iconst (v := 2) hx hb d_Ru_beginSecond_25 (by decide) ?_
      refine lv_goto (tgt := 30) hx hb d_Ru_beginSecond_26 (by decide) ?_
      refine lv_istore hx hb d_Ru_beginSecond_30 hl (by decide) rfl (fun ls hl => ?_)
      have hl : lv_has ls 6 [(4, .int 2), (3, .int (nI (cb pt))), (0, .ref (Z 1)), (1, .ref (Z (1000 + k))), (2, .ref a)] := hl
      refine lv_iload_n hx hb d_Ru_beginSecond_32 rfl (lv_at hl 1 rfl) ?_
      refine lv_bipush (v := 8) hx hb d_Ru_beginSecond_33 (by decide) ?_
      refine lv_icmp_ne (tgt := 42) hx hb d_Ru_beginSecond_35 (by decide) (fun c5 => ?_) (fun c5 => ?_)
      · have c5 : ¬ (cb pt) = 8 := by rw [← gq_eq (a := cb pt) (b := 8) (by omega) (by omega)]; exact c5
        refine lv_aload_n hx hb d_Ru_beginSecond_42 rfl (lv_at hl 3 rfl) ?_
        refine gh_get C V hs gc_St gi_St 2 (by decide) f_Ru_81 rfl rfl d_Ru_beginSecond_43 ?_
        refine lv_astore hx hb d_Ru_beginSecond_46 hl (by decide) rfl (fun ls hl => ?_)
        have hl : lv_has ls 6 [(5, .ref it), (4, .int 2), (3, .int (nI (cb pt))), (0, .ref (Z 1)), (1, .ref (Z (1000 + k))), (2, .ref a)] := hl
        refine lv_aload_n hx hb d_Ru_beginSecond_48 rfl (lv_at hl 3 rfl) ?_
        refine lv_aload_n hx hb d_Ru_beginSecond_49 rfl (lv_at hl 3 rfl) ?_
        refine gh_get C V h1R gc_Ru gi_Ru 4 (by decide) f_Ru_44 rfl rfl d_Ru_beginSecond_50 ?_
        refine lv_aload_n hx hb d_Ru_beginSecond_53 rfl (lv_at hl 4 rfl) ?_
        refine gh_get C V hs gc_St gi_St 0 (by decide) f_Ru_75 rfl rfl d_Ru_beginSecond_54 ?_
        refine lv_iload hx hb d_Ru_beginSecond_57 (lv_at hl 1 rfl) ?_
        refine gh_callV C V hl.1 m_Qu_placeIn l_Ru_137 (c_Qu_placeIn l E _ f (Z q0) (Z (q0 + 1)) (Z (q0 + 2)) N cb bg pt 2 hN60 hqR hcdR hbaR hpt60 (by decide)) rfl hqR gc_Qu ⟨by first | decide | omega | (dsimp only; omega), by first | decide | omega | (dsimp only; omega)⟩ ⟨by first | decide | omega | (dsimp only; omega), by first | decide | omega | (dsimp only; omega)⟩ (Nat.le_of_ble_eq_true rfl) rfl d_Ru_beginSecond_59 (fun r z9 H locs hp V => ?_)
        obtain ⟨rfl, he9⟩ := hp
        rw [he9] at V
        refine W.eq (g2 := F0 m 62 ls [.int (nI (bg (pt * 3 + 2))), .ref (Z 1)]) rfl ?_
        refine lv_aload_n hx hb d_Ru_beginSecond_62 rfl (lv_at hl 4 rfl) ?_
        refine gh_get C V hs gc_St gi_St 1 (by decide) f_Ru_78 rfl rfl d_Ru_beginSecond_63 ?_
        refine lv_iconst (v := 1) hx hb d_Ru_beginSecond_66 (by decide) ?_
        refine gn_iadd (a := 19 - n) (b := 1) hx hb d_Ru_beginSecond_67 ?_
        rw [show 19 - n + 1 = 20 - n by omega]
        refine lv_aload hx hb d_Ru_beginSecond_68 (lv_at hl 0 rfl) ?_
        refine lv_aload_n hx hb d_Ru_beginSecond_70 rfl (lv_at hl 4 rfl) ?_
        refine gh_get C V hs gc_St gi_St 3 (by decide) f_Ru_84 rfl rfl d_Ru_beginSecond_71 ?_
        refine gh_callV C V hl.1 m_Ru_begin l_Ru_60 (c_Ru_begin l E _ f ρ Z q0 N cb bg φ b s0 e0 (bg (pt * 3 + 2)) (20 - n) it el hR hφb (by omega)) rfl h1R gc_Ru ⟨by first | decide | omega | (dsimp only; omega), by first | decide | omega | (dsimp only; omega)⟩ ⟨by first | decide | omega | (dsimp only; omega), by first | decide | omega | (dsimp only; omega)⟩ (Nat.le_of_ble_eq_true rfl) rfl d_Ru_beginSecond_74 (fun r g9 H locs hp V => ?_)
        by_cases hφ0 : φ = 0
        · obtain ⟨rfl, he9⟩ := hp.1 hφ0
          rw [he9] at V
          refine W.eq (g2 := F0 m 77 ls [.null]) rfl ?_
          refine gh_reta hAe C V hr (by first | exact Or.inl ⟨_, rfl⟩ | exact Or.inr ⟨_, rfl⟩) (by first | exact Or.inl rfl | exact Or.inr ⟨_, rfl⟩) hlocks d_Ru_beginSecond_77 (by first | decide | omega | (dsimp only; omega)) (by first | decide | omega | (dsimp only; omega)) ?_
          exact ⟨fun _ => ⟨rfl, rfl⟩, fun h => absurd h (by omega)⟩
        · obtain ⟨rfl, hR9, hsb, hfr9⟩ := hp.2 (by omega)
          refine W.eq (g2 := F0 m 77 ls [.ref (Z (1000 + b))]) rfl ?_
          refine gh_reta hAe C V hr (by first | exact Or.inl ⟨_, rfl⟩ | exact Or.inr ⟨_, rfl⟩) (by first | exact Or.inl rfl | exact Or.inr ⟨_, rfl⟩) hlocks d_Ru_beginSecond_77 (by first | decide | omega | (dsimp only; omega)) (by first | decide | omega | (dsimp only; omega)) ?_
          refine ⟨fun h => absurd h (by omega), fun _ => ⟨rfl, hR9, ?_, hfr9⟩⟩
          rw [if_pos ⟨c1, c3⟩, if_neg c5]
          exact hsb
      · have c5 : (cb pt) = 8 := by rw [← gq_eq (a := cb pt) (b := 8) (by omega) (by omega)]; exact c5
        refine lv_aload_n hx hb d_Ru_beginSecond_38 rfl (lv_at hl 4 rfl) ?_
        refine lv_goto (tgt := 46) hx hb d_Ru_beginSecond_39 (by decide) ?_
        refine lv_astore hx hb d_Ru_beginSecond_46 hl (by decide) rfl (fun ls hl => ?_)
        have hl : lv_has ls 6 [(5, .ref a), (4, .int 2), (3, .int (nI (cb pt))), (0, .ref (Z 1)), (1, .ref (Z (1000 + k))), (2, .ref a)] := hl
        refine lv_aload_n hx hb d_Ru_beginSecond_48 rfl (lv_at hl 3 rfl) ?_
        refine lv_aload_n hx hb d_Ru_beginSecond_49 rfl (lv_at hl 3 rfl) ?_
        refine gh_get C V h1R gc_Ru gi_Ru 4 (by decide) f_Ru_44 rfl rfl d_Ru_beginSecond_50 ?_
        refine lv_aload_n hx hb d_Ru_beginSecond_53 rfl (lv_at hl 4 rfl) ?_
        refine gh_get C V hs gc_St gi_St 0 (by decide) f_Ru_75 rfl rfl d_Ru_beginSecond_54 ?_
        refine lv_iload hx hb d_Ru_beginSecond_57 (lv_at hl 1 rfl) ?_
        refine gh_callV C V hl.1 m_Qu_placeIn l_Ru_137 (c_Qu_placeIn l E _ f (Z q0) (Z (q0 + 1)) (Z (q0 + 2)) N cb bg pt 2 hN60 hqR hcdR hbaR hpt60 (by decide)) rfl hqR gc_Qu ⟨by first | decide | omega | (dsimp only; omega), by first | decide | omega | (dsimp only; omega)⟩ ⟨by first | decide | omega | (dsimp only; omega), by first | decide | omega | (dsimp only; omega)⟩ (Nat.le_of_ble_eq_true rfl) rfl d_Ru_beginSecond_59 (fun r z9 H locs hp V => ?_)
        obtain ⟨rfl, he9⟩ := hp
        rw [he9] at V
        refine W.eq (g2 := F0 m 62 ls [.int (nI (bg (pt * 3 + 2))), .ref (Z 1)]) rfl ?_
        refine lv_aload_n hx hb d_Ru_beginSecond_62 rfl (lv_at hl 4 rfl) ?_
        refine gh_get C V hs gc_St gi_St 1 (by decide) f_Ru_78 rfl rfl d_Ru_beginSecond_63 ?_
        refine lv_iconst (v := 1) hx hb d_Ru_beginSecond_66 (by decide) ?_
        refine gn_iadd (a := 19 - n) (b := 1) hx hb d_Ru_beginSecond_67 ?_
        rw [show 19 - n + 1 = 20 - n by omega]
        refine lv_aload hx hb d_Ru_beginSecond_68 (lv_at hl 0 rfl) ?_
        refine lv_aload_n hx hb d_Ru_beginSecond_70 rfl (lv_at hl 4 rfl) ?_
        refine gh_get C V hs gc_St gi_St 3 (by decide) f_Ru_84 rfl rfl d_Ru_beginSecond_71 ?_
        refine gh_callV C V hl.1 m_Ru_begin l_Ru_60 (c_Ru_begin l E _ f ρ Z q0 N cb bg φ b s0 e0 (bg (pt * 3 + 2)) (20 - n) a el hR hφb (by omega)) rfl h1R gc_Ru ⟨by first | decide | omega | (dsimp only; omega), by first | decide | omega | (dsimp only; omega)⟩ ⟨by first | decide | omega | (dsimp only; omega), by first | decide | omega | (dsimp only; omega)⟩ (Nat.le_of_ble_eq_true rfl) rfl d_Ru_beginSecond_74 (fun r g9 H locs hp V => ?_)
        by_cases hφ0 : φ = 0
        · obtain ⟨rfl, he9⟩ := hp.1 hφ0
          rw [he9] at V
          refine W.eq (g2 := F0 m 77 ls [.null]) rfl ?_
          refine gh_reta hAe C V hr (by first | exact Or.inl ⟨_, rfl⟩ | exact Or.inr ⟨_, rfl⟩) (by first | exact Or.inl rfl | exact Or.inr ⟨_, rfl⟩) hlocks d_Ru_beginSecond_77 (by first | decide | omega | (dsimp only; omega)) (by first | decide | omega | (dsimp only; omega)) ?_
          exact ⟨fun _ => ⟨rfl, rfl⟩, fun h => absurd h (by omega)⟩
        · obtain ⟨rfl, hR9, hsb, hfr9⟩ := hp.2 (by omega)
          refine W.eq (g2 := F0 m 77 ls [.ref (Z (1000 + b))]) rfl ?_
          refine gh_reta hAe C V hr (by first | exact Or.inl ⟨_, rfl⟩ | exact Or.inr ⟨_, rfl⟩) (by first | exact Or.inl rfl | exact Or.inr ⟨_, rfl⟩) hlocks d_Ru_beginSecond_77 (by first | decide | omega | (dsimp only; omega)) (by first | decide | omega | (dsimp only; omega)) ?_
          refine ⟨fun h => absurd h (by omega), fun _ => ⟨rfl, hR9, ?_, hfr9⟩⟩
          rw [if_pos ⟨c1, c3⟩, if_pos c5]
          exact hsb
