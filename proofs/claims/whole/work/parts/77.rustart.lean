/-! start, valueAt. Printed by wip/whole/gen_ru19.py. -/
theorem d_Ru_start_0 : decode b_Ru_start 0 = .ok (.aload_n 0, 1) := by decide +kernel
theorem d_Ru_start_1 : decode b_Ru_start 1 = .ok (.aload_n 1, 1) := by decide +kernel
theorem d_Ru_start_2 : decode b_Ru_start 2 = .ok (.putfield 44, 3) := by decide +kernel
theorem d_Ru_start_5 : decode b_Ru_start 5 = .ok (.aload_n 0, 1) := by decide +kernel
theorem d_Ru_start_6 : decode b_Ru_start 6 = .ok (.iload_n 3, 1) := by decide +kernel
theorem d_Ru_start_7 : decode b_Ru_start 7 = .ok (.putfield 48, 3) := by decide +kernel
theorem d_Ru_start_10 : decode b_Ru_start 10 = .ok (.aload_n 0, 1) := by decide +kernel
theorem d_Ru_start_11 : decode b_Ru_start 11 = .ok (.iconst 0, 1) := by decide +kernel
theorem d_Ru_start_12 : decode b_Ru_start 12 = .ok (.putfield 51, 3) := by decide +kernel
theorem d_Ru_start_15 : decode b_Ru_start 15 = .ok (.aload_n 0, 1) := by decide +kernel
theorem d_Ru_start_16 : decode b_Ru_start 16 = .ok (.iconst 0, 1) := by decide +kernel
theorem d_Ru_start_17 : decode b_Ru_start 17 = .ok (.putfield 41, 3) := by decide +kernel
theorem d_Ru_start_20 : decode b_Ru_start 20 = .ok (.aload_n 0, 1) := by decide +kernel
theorem d_Ru_start_21 : decode b_Ru_start 21 = .ok (.iconst 3, 1) := by decide +kernel
theorem d_Ru_start_22 : decode b_Ru_start 22 = .ok (.putfield 37, 3) := by decide +kernel
theorem d_Ru_start_25 : decode b_Ru_start 25 = .ok (.aload_n 0, 1) := by decide +kernel
theorem d_Ru_start_26 : decode b_Ru_start 26 = .ok (.iconst 0, 1) := by decide +kernel
theorem d_Ru_start_27 : decode b_Ru_start 27 = .ok (.iconst 0, 1) := by decide +kernel
theorem d_Ru_start_28 : decode b_Ru_start 28 = .ok (.aload_n 2, 1) := by decide +kernel
theorem d_Ru_start_29 : decode b_Ru_start 29 = .ok (.aload_n 0, 1) := by decide +kernel
theorem d_Ru_start_30 : decode b_Ru_start 30 = .ok (.getfield 13, 3) := by decide +kernel
theorem d_Ru_start_33 : decode b_Ru_start 33 = .ok (.getfield 54, 3) := by decide +kernel
theorem d_Ru_start_36 : decode b_Ru_start 36 = .ok (.invokevirtual 60, 3) := by decide +kernel
theorem d_Ru_start_39 : decode b_Ru_start 39 = .ok (.astore 4, 2) := by decide +kernel
theorem d_Ru_start_41 : decode b_Ru_start 41 = .ok (.aload_n 0, 1) := by decide +kernel
theorem d_Ru_start_42 : decode b_Ru_start 42 = .ok (.getfield 41, 3) := by decide +kernel
theorem d_Ru_start_45 : decode b_Ru_start 45 = .ok (.bipush 16, 2) := by decide +kernel
theorem d_Ru_start_47 : decode b_Ru_start 47 = .ok (.if_icmp .ge 51, 3) := by decide +kernel
theorem d_Ru_start_50 : decode b_Ru_start 50 = .ok (.aload_n 0, 1) := by decide +kernel
theorem d_Ru_start_51 : decode b_Ru_start 51 = .ok (.aload 4, 2) := by decide +kernel
theorem d_Ru_start_53 : decode b_Ru_start 53 = .ok (.invokevirtual 64, 3) := by decide +kernel
theorem d_Ru_start_56 : decode b_Ru_start 56 = .ok (.istore 5, 2) := by decide +kernel
theorem d_Ru_start_58 : decode b_Ru_start 58 = .ok (.iload 5, 2) := by decide +kernel
theorem d_Ru_start_60 : decode b_Ru_start 60 = .ok (.iconst 3, 1) := by decide +kernel
theorem d_Ru_start_61 : decode b_Ru_start 61 = .ok (.if_icmp .eq 10, 3) := by decide +kernel
theorem d_Ru_start_64 : decode b_Ru_start 64 = .ok (.aload_n 0, 1) := by decide +kernel
theorem d_Ru_start_65 : decode b_Ru_start 65 = .ok (.iload 5, 2) := by decide +kernel
theorem d_Ru_start_67 : decode b_Ru_start 67 = .ok (.putfield 37, 3) := by decide +kernel
theorem d_Ru_start_70 : decode b_Ru_start 70 = .ok (.return_, 1) := by decide +kernel
theorem d_Ru_start_71 : decode b_Ru_start 71 = .ok (.aload_n 0, 1) := by decide +kernel
theorem d_Ru_start_72 : decode b_Ru_start 72 = .ok (.getfield 33, 3) := by decide +kernel
theorem d_Ru_start_75 : decode b_Ru_start 75 = .ok (.aload_n 0, 1) := by decide +kernel
theorem d_Ru_start_76 : decode b_Ru_start 76 = .ok (.getfield 41, 3) := by decide +kernel
theorem d_Ru_start_79 : decode b_Ru_start 79 = .ok (.aload 4, 2) := by decide +kernel
theorem d_Ru_start_81 : decode b_Ru_start 81 = .ok (.getfield 68, 3) := by decide +kernel
theorem d_Ru_start_84 : decode b_Ru_start 84 = .ok (.aastore, 1) := by decide +kernel
theorem d_Ru_start_85 : decode b_Ru_start 85 = .ok (.aload_n 0, 1) := by decide +kernel
theorem d_Ru_start_86 : decode b_Ru_start 86 = .ok (.dup, 1) := by decide +kernel
theorem d_Ru_start_87 : decode b_Ru_start 87 = .ok (.getfield 41, 3) := by decide +kernel
theorem d_Ru_start_90 : decode b_Ru_start 90 = .ok (.iconst 1, 1) := by decide +kernel
theorem d_Ru_start_91 : decode b_Ru_start 91 = .ok (.iadd, 1) := by decide +kernel
theorem d_Ru_start_92 : decode b_Ru_start 92 = .ok (.putfield 41, 3) := by decide +kernel
theorem d_Ru_start_95 : decode b_Ru_start 95 = .ok (.goto (-54), 3) := by decide +kernel
theorem d_Ru_start_98 : decode b_Ru_start 98 = .ok (.return_, 1) := by decide +kernel
set_option maxHeartbeats 4000000 in
set_option maxRecDepth 100000 in
theorem c_Ru_start (l : Launch) (E : gh_E) (sz : Nat) (f : gh_F) (ρ Z : Nat → Nat) (q0 N : Nat) (cb bg : Nat → Nat) (φ dc : Nat) (X : vt) (qv : Value) (b0 φ0 : Nat) (sx ex : Int32) (xs0 : List vt) (hcell : f (Z 1) = some (.inr (4, [.ref (Z 200), .ref (Z 206), .ref (Z 207), .ref (Z 2), qv, .int (nI b0), .int (nI φ0), .int sx, .int ex]))) (hK : rn_K E ρ Z f q0 N cb bg) (hG : rn_G E ρ Z f) (hS : rn_S Z f) (hnn : ∀ q, f q = none → ρ q = 0) (hpo : rn_P E ρ Z f xs0) (hdc : cw E (rP ρ) f dc X) (hqw : qw cb bg N 13 0) (hφ : φ ≤ 250) : gh_M l y_Ru_start b_Ru_start 6 none E sz [.ref (Z 1), .ref (Z q0), .ref dc, .int (nI φ)] f { frames := 160, cells := 3 * φ, slots := 39 * φ, locals := 6000 } (fun r g => r = none ∧ (∃ b1, b1 ≤ 250 ∧ rn_R E ρ Z g q0 N cb bg (sr_run 16 φ (sr_D cb bg 20 0 X (vt_0 0))).2.2 b1 (nI (sr_run 16 φ (sr_D cb bg 20 0 X (vt_0 0))).1.length) (nI (sr_run 16 φ (sr_D cb bg 20 0 X (vt_0 0))).2.1)) ∧ rn_P E ρ Z g (sr_run 16 φ (sr_D cb bg 20 0 X (vt_0 0))).1 ∧ gh_fr f g (rn_MR ρ)) := by
  have hz := hK.1
  have h1z : ρ (Z 1) = 1 := hz _ (by unfold rU; omega)
  refine gh_open (by decide) (Nat.le_of_ble_eq_true rfl) ?_
  intro p e s m args below meth c A ls hAe C V hr hlocks hname hl
  have hx := C.1
  have hb := C.2.1
  have hl : lv_has ls 6 [(0, .ref (Z 1)), (1, .ref (Z q0)), (2, .ref dc), (3, .int (nI φ))] := hl
  have hfr : gh_fr f f (fun a => ρ a = 1) := gh_fr.rf
  refine lv_aload_n hx hb d_Ru_start_0 rfl (lv_at hl 0 rfl) ?_
  refine lv_aload_n hx hb d_Ru_start_1 rfl (lv_at hl 1 rfl) ?_
  refine gh_put C V hcell gc_Ru gi_Ru ty_Ru nm_Ru 4 (by decide) f_Ru_44 rfl (by first | rfl | decide) (by first | rfl | decide) (Nat.le_of_ble_eq_true rfl) d_Ru_start_2 (fun H locs V => ?_)
  obtain ⟨f1, hff1⟩ : ∃ z9 : gh_F, z9 = gh_u f (Z 1) (.inr (4, [.ref (Z 200), .ref (Z 206), .ref (Z 207), .ref (Z 2), .ref (Z q0), .int (nI b0), .int (nI φ0), .int sx, .int ex])) := ⟨_, rfl⟩
  have V : gh_V E A f1 s H locs := by rw [hff1]; exact V
  have hfr : gh_fr f f1 (fun a => ρ a = 1) := by rw [hff1]; exact hfr.put (Or.inl h1z)
  have h1_f1 : f1 (Z 1) = some (.inr (4, [.ref (Z 200), .ref (Z 206), .ref (Z 207), .ref (Z 2), .ref (Z q0), .int (nI b0), .int (nI φ0), .int sx, .int ex])) := by rw [hff1, gh_us]
  refine lv_aload_n hx hb d_Ru_start_5 rfl (lv_at hl 0 rfl) ?_
  refine lv_iload_n hx hb d_Ru_start_6 rfl (lv_at hl 3 rfl) ?_
  refine gh_put C V h1_f1 gc_Ru gi_Ru ty_Ru nm_Ru 6 (by decide) f_Ru_48 rfl (by first | rfl | decide) (by first | rfl | decide) (Nat.le_of_ble_eq_true rfl) d_Ru_start_7 (fun H locs V => ?_)
  obtain ⟨f2, hff2⟩ : ∃ z9 : gh_F, z9 = gh_u f1 (Z 1) (.inr (4, [.ref (Z 200), .ref (Z 206), .ref (Z 207), .ref (Z 2), .ref (Z q0), .int (nI b0), .int (nI φ), .int sx, .int ex])) := ⟨_, rfl⟩
  have V : gh_V E A f2 s H locs := by rw [hff2]; exact V
  have hfr : gh_fr f f2 (fun a => ρ a = 1) := by rw [hff2]; exact hfr.put (Or.inl h1z)
  have h1_f2 : f2 (Z 1) = some (.inr (4, [.ref (Z 200), .ref (Z 206), .ref (Z 207), .ref (Z 2), .ref (Z q0), .int (nI b0), .int (nI φ), .int sx, .int ex])) := by rw [hff2, gh_us]
  refine lv_aload_n hx hb d_Ru_start_10 rfl (lv_at hl 0 rfl) ?_
  refine lv_iconst (v := 0) hx hb d_Ru_start_11 (by decide) ?_
  refine gh_put C V h1_f2 gc_Ru gi_Ru ty_Ru nm_Ru 5 (by decide) f_Ru_51 rfl (by first | rfl | decide) (by first | rfl | decide) (Nat.le_of_ble_eq_true rfl) d_Ru_start_12 (fun H locs V => ?_)
  obtain ⟨f3, hff3⟩ : ∃ z9 : gh_F, z9 = gh_u f2 (Z 1) (.inr (4, [.ref (Z 200), .ref (Z 206), .ref (Z 207), .ref (Z 2), .ref (Z q0), .int 0, .int (nI φ), .int sx, .int ex])) := ⟨_, rfl⟩
  have V : gh_V E A f3 s H locs := by rw [hff3]; exact V
  have hfr : gh_fr f f3 (fun a => ρ a = 1) := by rw [hff3]; exact hfr.put (Or.inl h1z)
  have h1_f3 : f3 (Z 1) = some (.inr (4, [.ref (Z 200), .ref (Z 206), .ref (Z 207), .ref (Z 2), .ref (Z q0), .int 0, .int (nI φ), .int sx, .int ex])) := by rw [hff3, gh_us]
  refine lv_aload_n hx hb d_Ru_start_15 rfl (lv_at hl 0 rfl) ?_
  refine lv_iconst (v := 0) hx hb d_Ru_start_16 (by decide) ?_
  refine gh_put C V h1_f3 gc_Ru gi_Ru ty_Ru nm_Ru 7 (by decide) f_Ru_41 rfl (by first | rfl | decide) (by first | rfl | decide) (Nat.le_of_ble_eq_true rfl) d_Ru_start_17 (fun H locs V => ?_)
  obtain ⟨f4, hff4⟩ : ∃ z9 : gh_F, z9 = gh_u f3 (Z 1) (.inr (4, [.ref (Z 200), .ref (Z 206), .ref (Z 207), .ref (Z 2), .ref (Z q0), .int 0, .int (nI φ), .int 0, .int ex])) := ⟨_, rfl⟩
  have V : gh_V E A f4 s H locs := by rw [hff4]; exact V
  have hfr : gh_fr f f4 (fun a => ρ a = 1) := by rw [hff4]; exact hfr.put (Or.inl h1z)
  have h1_f4 : f4 (Z 1) = some (.inr (4, [.ref (Z 200), .ref (Z 206), .ref (Z 207), .ref (Z 2), .ref (Z q0), .int 0, .int (nI φ), .int 0, .int ex])) := by rw [hff4, gh_us]
  refine lv_aload_n hx hb d_Ru_start_20 rfl (lv_at hl 0 rfl) ?_
  refine lv_iconst (v := 3) hx hb d_Ru_start_21 (by decide) ?_
  refine gh_put C V h1_f4 gc_Ru gi_Ru ty_Ru nm_Ru 8 (by decide) f_Ru_37 rfl (by first | rfl | decide) (by first | rfl | decide) (Nat.le_of_ble_eq_true rfl) d_Ru_start_22 (fun H locs V => ?_)
  obtain ⟨f5, hff5⟩ : ∃ z9 : gh_F, z9 = gh_u f4 (Z 1) (.inr (4, [.ref (Z 200), .ref (Z 206), .ref (Z 207), .ref (Z 2), .ref (Z q0), .int 0, .int (nI φ), .int 0, .int 3])) := ⟨_, rfl⟩
  have V : gh_V E A f5 s H locs := by rw [hff5]; exact V
  have hfr : gh_fr f f5 (fun a => ρ a = 1) := by rw [hff5]; exact hfr.put (Or.inl h1z)
  have h1_f5 : f5 (Z 1) = some (.inr (4, [.ref (Z 200), .ref (Z 206), .ref (Z 207), .ref (Z 2), .ref (Z q0), .int 0, .int (nI φ), .int 0, .int 3])) := by rw [hff5, gh_us]
  have hSS : rn_S Z f5 := fun j hj => by
    obtain ⟨y0, y1, y2, y3, y4, y5, y6, y7, y8, hy⟩ := hS j hj
    exact ⟨y0, y1, y2, y3, y4, y5, y6, y7, y8, hfr.at hy (fun z => by have e9 := hz (1000 + j) (by unfold rU; omega); have z : ρ (Z (1000 + j)) = 1 := z; omega)⟩
  have hR : rn_R E ρ Z f5 q0 N cb bg φ 0 0 3 := ⟨h1_f5, hK.keep hfr (fun a z => by have z : ρ a = 1 := z; omega), hG.keep hz hfr (fun a z => by have z : ρ a = 1 := z; omega), hSS, rn_non hnn hfr⟩
  have hM1 : ∀ a, ρ a = 1 → ¬ rP ρ a := fun a z z2 => by have z2 : ρ a = 0 := z2; omega
  have hdc := hdc.keep hfr hM1
  have hpo := hpo.keep hfr hM1 (fun z => by have e9 := hz 2 (by unfold rU; omega); have z : ρ (Z 2) = 1 := z; omega)
  have hfr : gh_fr f f5 (rn_MR ρ) := hfr.wide (fun a z => Or.inl (by have z : ρ a = 1 := z; omega))
  have hRc := hR
  obtain ⟨h1R, ⟨hz, ⟨p206, p207⟩, ⟨gS, hgS, hgS2⟩, ⟨gG, hgG, hgG2⟩, hVR, hqR, hcdR, hbaR, hN60, hq0⟩, ⟨hgaV, hgaR⟩, hSR, hnon⟩ := hRc
  obtain ⟨pvsR, hvsR, hnuR, hnoR, hyeR, -⟩ := id hVR
  refine lv_aload_n hx hb d_Ru_start_25 rfl (lv_at hl 0 rfl) ?_
  refine lv_iconst (v := 0) hx hb d_Ru_start_26 (by decide) ?_
  refine lv_iconst (v := 0) hx hb d_Ru_start_27 (by decide) ?_
  refine lv_aload_n hx hb d_Ru_start_28 rfl (lv_at hl 2 rfl) ?_
  refine lv_aload_n hx hb d_Ru_start_29 rfl (lv_at hl 0 rfl) ?_
  refine gh_get C V h1R gc_Ru gi_Ru 0 (by decide) f_Ru_13 rfl rfl d_Ru_start_30 ?_
  refine gh_get C V hvsR gc_Vs gi_Vs 0 (by decide) f_Ru_54 rfl rfl d_Ru_start_33 ?_
  refine gh_callV C V hl.1 m_Ru_begin l_Ru_60 (c_Ru_begin l E _ f5 ρ Z q0 N cb bg φ 0 0 3 0 0 dc (Z 201) hR (by omega) (by omega)) rfl h1R gc_Ru ⟨by first | decide | omega | (dsimp only; omega), by first | decide | omega | (dsimp only; omega)⟩ ⟨by first | decide | omega | (dsimp only; omega), by first | decide | omega | (dsimp only; omega)⟩ (Nat.le_of_ble_eq_true rfl) rfl d_Ru_start_36 (fun r g4 H locs hp V => ?_)
  by_cases hφ0 : φ = 0
  · obtain ⟨rfl, he9⟩ := hp.1 hφ0
    rw [he9] at V
    refine W.eq (g2 := F0 m 39 ls [.null]) rfl ?_
    have hrun : (sr_run 16 φ (sr_D cb bg 20 0 X (vt_0 0))) = ([], 2, 0) := sr_run_poor (by rw [sr_c_add]; omega)
    refine lv_astoreN hx hb d_Ru_start_39 hl (by decide) rfl (fun ls hl => ?_)
    have hl : lv_has ls 6 [(4, .null), (0, .ref (Z 1)), (1, .ref (Z q0)), (2, .ref dc), (3, .int (nI φ))] := hl
    refine lv_aload_n hx hb d_Ru_start_41 rfl (lv_at hl 1 rfl) ?_
    refine gh_get C V h1R gc_Ru gi_Ru 7 (by decide) f_Ru_41 rfl rfl d_Ru_start_42 ?_
    refine lv_bipush (v := 16) hx hb d_Ru_start_45 (by decide) ?_
    refine lv_icmp_ge (tgt := 98) hx hb d_Ru_start_47 (by decide) (fun c6 => absurd c6 (by decide)) (fun c6 => ?_)
    refine lv_aload_n hx hb d_Ru_start_50 rfl (lv_at hl 1 rfl) ?_
    refine lv_aloadN hx hb d_Ru_start_51 (lv_at hl 0 rfl) ?_
    refine gh_callV C V hl.1 m_Ru_ask l_Ru_64 (c_Ru_ask0 l E _ f5 (Z 1)) rfl h1R gc_Ru ⟨by first | decide | omega | (dsimp only; omega), by first | decide | omega | (dsimp only; omega)⟩ ⟨by first | decide | omega | (dsimp only; omega), by first | decide | omega | (dsimp only; omega)⟩ (Nat.le_of_ble_eq_true rfl) rfl d_Ru_start_53 (fun r z9 H locs hp V => ?_)
    obtain ⟨rfl, he9⟩ := hp
    rw [he9] at V
    refine W.eq (g2 := F0 m 56 ls [.int 2]) rfl ?_
    refine lv_istore hx hb d_Ru_start_56 hl (by decide) rfl (fun ls hl => ?_)
    have hl : lv_has ls 6 [(5, .int 2), (4, .null), (0, .ref (Z 1)), (1, .ref (Z q0)), (2, .ref dc), (3, .int (nI φ))] := hl
    refine lv_iload hx hb d_Ru_start_58 (lv_at hl 0 rfl) ?_
    refine lv_iconst (v := 3) hx hb d_Ru_start_60 (by decide) ?_
    refine lv_icmp_eq (tgt := 71) hx hb d_Ru_start_61 (by decide) (fun c7 => absurd c7 (by decide)) (fun c7 => ?_)
    refine lv_aload_n hx hb d_Ru_start_64 rfl (lv_at hl 2 rfl) ?_
    refine lv_iload hx hb d_Ru_start_65 (lv_at hl 0 rfl) ?_
    refine gh_put C V h1R gc_Ru gi_Ru ty_Ru nm_Ru 8 (by decide) f_Ru_37 rfl (by first | rfl | decide) (by first | rfl | decide) (Nat.le_of_ble_eq_true rfl) d_Ru_start_67 (fun H locs V => ?_)
    obtain ⟨f8, hff8⟩ : ∃ z9 : gh_F, z9 = gh_u f5 (Z 1) (.inr (4, [.ref (Z 200), .ref (Z 206), .ref (Z 207), .ref (Z 2), .ref (Z q0), .int (nI 0), .int (nI φ), .int 0, .int 2])) := ⟨_, rfl⟩
    have V : gh_V E A f8 s H locs := by rw [hff8]; exact V
    have hR : rn_R E ρ Z f8 q0 N cb bg φ 0 0 2 := by rw [hff8]; exact hR.own
    have hfw1 : gh_fr f5 f8 (fun a => ρ a = 1) := by rw [hff8]; exact gh_fr.put (M := fun a => ρ a = 1) gh_fr.rf (Or.inl (hz 1 (by unfold rU; omega)))
    have hRc := hR
    obtain ⟨h1R, ⟨hz, ⟨p206, p207⟩, ⟨gS, hgS, hgS2⟩, ⟨gG, hgG, hgG2⟩, hVR, hqR, hcdR, hbaR, hN60, hq0⟩, ⟨hgaV, hgaR⟩, hSR, hnon⟩ := hRc
    obtain ⟨pvsR, hvsR, hnuR, hnoR, hyeR, -⟩ := id hVR
    refine gh_retv hAe C V hr hlocks d_Ru_start_70 (by first | decide | omega | (dsimp only; omega)) (by first | decide | omega | (dsimp only; omega)) ?_
    rw [hrun]
    refine ⟨rfl, ⟨0, by omega, by rw [hφ0] at hR; exact hR⟩, ?_, hfr.tr hfw1 (fun a _ _ z => Or.inl (by have z : ρ a = 1 := z; omega))⟩
    obtain ⟨gp, og, h1, h2, h3⟩ := hpo
    exact ⟨gp, og, hfw1.at h1 (fun z => by have e9 := hz 2 (by unfold rU; omega); have z : ρ (Z 2) = 1 := z; omega), Nat.zero_le _, fun j hj => absurd hj (Nat.not_lt_zero j)⟩
  · obtain ⟨rfl, hR, hsb, hfr4⟩ := hp.2 (by omega)
    have hM4 : ∀ a, (ρ a = 1 ∨ ρ a = 1000 + 0) → ¬ rP ρ a := fun a z z2 => by have z2 : ρ a = 0 := z2; omega
    have hdc := hdc.keep hfr4 hM4
    have hpo := hpo.keep hfr4 hM4 (fun z => by have e9 := hz 2 (by unfold rU; omega); rcases z with z | z <;> omega)
    have hfr : gh_fr f g4 (rn_MR ρ) := hfr.tr hfr4 (fun a _ _ z => by rcases z with z | z; exact Or.inl (by omega); exact Or.inr (Or.inr (by omega)))
    refine W.eq (g2 := F0 m 39 ls [.ref (Z (1000 + 0))]) rfl ?_
    have hRc := hR
    obtain ⟨h1R, ⟨hz, ⟨p206, p207⟩, ⟨gS, hgS, hgS2⟩, ⟨gG, hgG, hgG2⟩, hVR, hqR, hcdR, hbaR, hN60, hq0⟩, ⟨hgaV, hgaR⟩, hSR, hnon⟩ := hRc
    obtain ⟨pvsR, hvsR, hnuR, hnoR, hyeR, -⟩ := id hVR
    refine lv_astore hx hb d_Ru_start_39 hl (by decide) rfl (fun ls hl => ?_)
    have hl : lv_has ls 6 [(4, .ref (Z (1000 + 0))), (0, .ref (Z 1)), (1, .ref (Z q0)), (2, .ref dc), (3, .int (nI φ))] := hl
    have hnw := rs_top (Y := vt_0 0) (φ := φ - 1) hqw (hdc.le).2 (by omega) hsb hdc hnuR hnuR
    have hpo0 : rn_P E ρ Z g4 [] := by obtain ⟨gp, og, h1, h2, h3⟩ := hpo; exact ⟨gp, og, h1, Nat.zero_le _, fun j hj => absurd hj (Nat.not_lt_zero j)⟩
    have hl : lv_has ls 6 [(0, .ref (Z 1)), (4, .ref (Z (1000 + 0)))] := lv_sub hl [1, 0] rfl
    have loop : ∀ (n9 i9 : Nat) (φc : Nat) (bc : Nat) (u : Nat) (v1 : vt) (Tc : sr) (Fc : Nat → Prop) (xs : List vt) (f1 : gh_F) (H : Heap) (locs : List Loc) (ls : Array Slot), (xs.length + n9 = 17 ∧ xs.length ≤ 16) → (rn_R E ρ Z f1 q0 N cb bg φc bc (nI xs.length) 3) → (bc + φc ≤ 250 ∧ φc + u ≤ φ) → ((sr_run 16 φ (sr_D cb bg 20 0 X (vt_0 0))) = (xs ++ (sr_run (16 - xs.length) φc Tc).1, (sr_run (16 - xs.length) φc Tc).2)) → (gh_fr f f1 (rn_MR ρ)) → (rn_P E ρ Z f1 xs) → (rs E ρ Z cb bg N f1 φc 20 u 0 v1 Tc Fc) → (∀ i, Fc i → i < bc ∧ i < 250) → (u ≤ 1) → gh_V E A f1 s H locs → lv_has ls 6 [(0, .ref (Z 1)), (4, .ref (Z (1000 + 0)))] → W p l e { frames := 160, cells := 3 * φ, slots := 39 * φ, locals := 6000 } s m args below meth c H locs (3 * (φ - φc - u)) (39 * (φ - φc - u)) (MQ below (gh_Q E f (fun r g => r = none ∧ (∃ b1, b1 ≤ 250 ∧ rn_R E ρ Z g q0 N cb bg (sr_run 16 φ (sr_D cb bg 20 0 X (vt_0 0))).2.2 b1 (nI (sr_run 16 φ (sr_D cb bg 20 0 X (vt_0 0))).1.length) (nI (sr_run 16 φ (sr_D cb bg 20 0 X (vt_0 0))).2.1)) ∧ rn_P E ρ Z g (sr_run 16 φ (sr_D cb bg 20 0 X (vt_0 0))).1 ∧ gh_fr f g (rn_MR ρ))) args s (3 * φ) (39 * φ) A) (F0 m 41 ls []) := by
      intro n9
      induction n9 with
      | zero =>
        intro i9 φc bc u v1 Tc Fc xs f1 H locs ls hm hR hbb hrun hfr hpo hrs1 hFc hu V hl
        exact absurd hm (by omega)
      | succ n9 ih =>
        intro i9 φc bc u v1 Tc Fc xs f1 H locs ls hm hR hbb hrun hfr hpo hrs1 hFc hu V hl
        obtain ⟨hbb1, hbb2⟩ := hbb
        have hRc := hR
        obtain ⟨h1R, ⟨hz, ⟨p206, p207⟩, ⟨gS, hgS, hgS2⟩, ⟨gG, hgG, hgG2⟩, hVR, hqR, hcdR, hbaR, hN60, hq0⟩, ⟨hgaV, hgaR⟩, hSR, hnon⟩ := hRc
        obtain ⟨pvsR, hvsR, hnuR, hnoR, hyeR, -⟩ := id hVR
        refine lv_aload_n hx hb d_Ru_start_41 rfl (lv_at hl 0 rfl) ?_
        refine gh_get C V h1R gc_Ru gi_Ru 7 (by decide) f_Ru_41 rfl rfl d_Ru_start_42 ?_
        refine lv_bipush (v := 16) hx hb d_Ru_start_45 (by decide) ?_
        refine lv_icmp_ge (tgt := 98) hx hb d_Ru_start_47 (by decide) (fun c9 => ?_) (fun c9 => ?_)
        · have c9 : 16 ≤ xs.length := by rw [← gq_le (a := 16) (b := xs.length) (by omega) (by omega)]; exact c9
          refine gh_retv hAe C V hr hlocks d_Ru_start_98 (by first | decide | omega | (dsimp only; omega)) (by first | decide | omega | (dsimp only; omega)) ?_
          have hx16 : xs.length = 16 := by omega
          rw [hx16] at hrun
          have hrun : (sr_run 16 φ (sr_D cb bg 20 0 X (vt_0 0))) = (xs, 3, φc) := by rw [hrun]; show (xs ++ [], _) = _; rw [List.append_nil]; rfl
          rw [hrun]
          exact ⟨rfl, ⟨bc, by omega, hR⟩, hpo, hfr⟩
        · have c9 : ¬ 16 ≤ xs.length := by rw [← gq_le (a := 16) (b := xs.length) (by omega) (by omega)]; exact c9
          refine lv_aload_n hx hb d_Ru_start_50 rfl (lv_at hl 0 rfl) ?_
          refine lv_aload hx hb d_Ru_start_51 (lv_at hl 1 rfl) ?_
          have hcL : sr_c Tc ≤ sr_c Tc := Nat.le_refl _
          refine gh_callV C V hl.1 m_Ru_ask l_Ru_64 (c_Ru_ask l E ρ Z q0 N cb bg 20 _ f1 φc bc (nI xs.length) 3 u 0 v1 Tc Fc hR (by omega) (fun i hi => (hFc i hi).1) hrs1) rfl h1R gc_Ru ⟨by first | decide | omega | (dsimp only; omega), by first | decide | omega | (dsimp only; omega)⟩ ⟨by first | decide | omega | (dsimp only; omega), by first | decide | omega | (dsimp only; omega)⟩ (Nat.le_of_ble_eq_true rfl) rfl d_Ru_start_53 (fun r g2 H locs hp V => ?_)
          obtain ⟨φ2, b2, hR, ⟨hb2, hc2⟩, hfr2, hP2, -⟩ := hp
          have hMR := rn_M.R (ρ := ρ) (d := 20 - 20) (b := bc) (fun i hi => (hFc i hi).2)
          have hfr : gh_fr f g2 (rn_MR ρ) := hfr.tr hfr2 (fun a _ _ z => hMR a z)
          have hpo := hpo.keep hfr2 rn_M.P (fun z => by have e9 := hz 2 (by unfold rU; omega); rcases z with z | z | z | z | ⟨j, _, z⟩ <;> omega)
          have hRc := hR
          obtain ⟨h1R, ⟨hz, ⟨p206, p207⟩, ⟨gS, hgS, hgS2⟩, ⟨gG, hgG, hgG2⟩, hVR, hqR, hcdR, hbaR, hN60, hq0⟩, ⟨hgaV, hgaR⟩, hSR, hnon⟩ := hRc
          obtain ⟨pvsR, hvsR, hnuR, hnoR, hyeR, -⟩ := id hVR
          rcases hP2 with ⟨h12, rfl, h32⟩ | ⟨d2, hT2, hd2, rfl, h32⟩ | ⟨d2, hT2, hd2, rfl, h32⟩ | ⟨d2, x2, R2, hT2, hd2, rfl, h32, F2, hrs2, hF2⟩
          · obtain ⟨m9, hm9⟩ : ∃ m9, 16 - xs.length = m9 + 1 := ⟨15 - xs.length, by omega⟩
            rw [hm9] at hrun
            rw [sr_run_poor h12] at hrun
            refine W.eq (g2 := F0 m 56 ls [.int 2]) rfl ?_
            refine lv_istore hx hb d_Ru_start_56 hl (by decide) rfl (fun ls hl => ?_)
            have hl : lv_has ls 6 [(5, .int 2), (0, .ref (Z 1)), (4, .ref (Z (1000 + 0)))] := hl
            refine lv_iload hx hb d_Ru_start_58 (lv_at hl 0 rfl) ?_
            refine lv_iconst (v := 3) hx hb d_Ru_start_60 (by decide) ?_
            refine lv_icmp_eq (tgt := 71) hx hb d_Ru_start_61 (by decide) (fun c10 => absurd c10 (by decide)) (fun c10 => ?_)
            refine lv_aload_n hx hb d_Ru_start_64 rfl (lv_at hl 1 rfl) ?_
            refine lv_iload hx hb d_Ru_start_65 (lv_at hl 0 rfl) ?_
            refine gh_put C V h1R gc_Ru gi_Ru ty_Ru nm_Ru 8 (by decide) f_Ru_37 rfl (by first | rfl | decide) (by first | rfl | decide) (Nat.le_of_ble_eq_true rfl) d_Ru_start_67 (fun H locs V => ?_)
            obtain ⟨f11, hff11⟩ : ∃ z9 : gh_F, z9 = gh_u g2 (Z 1) (.inr (4, [.ref (Z 200), .ref (Z 206), .ref (Z 207), .ref (Z 2), .ref (Z q0), .int (nI b2), .int (nI φ2), .int (nI xs.length), .int 2])) := ⟨_, rfl⟩
            have V : gh_V E A f11 s H locs := by rw [hff11]; exact V
            have hR : rn_R E ρ Z f11 q0 N cb bg φ2 b2 (nI xs.length) 2 := by rw [hff11]; exact hR.own
            have hfw1 : gh_fr g2 f11 (fun a => ρ a = 1) := by rw [hff11]; exact gh_fr.put (M := fun a => ρ a = 1) gh_fr.rf (Or.inl (hz 1 (by unfold rU; omega)))
            have hRc := hR
            obtain ⟨h1R, ⟨hz, ⟨p206, p207⟩, ⟨gS, hgS, hgS2⟩, ⟨gG, hgG, hgG2⟩, hVR, hqR, hcdR, hbaR, hN60, hq0⟩, ⟨hgaV, hgaR⟩, hSR, hnon⟩ := hRc
            obtain ⟨pvsR, hvsR, hnuR, hnoR, hyeR, -⟩ := id hVR
            refine gh_retv hAe C V hr hlocks d_Ru_start_70 (by first | decide | omega | (dsimp only; omega)) (by first | decide | omega | (dsimp only; omega)) ?_
            rw [List.append_nil] at hrun
            rw [hrun]
            have hM1 : ∀ a, ρ a = 1 → ¬ rP ρ a := fun a z z2 => by have z2 : ρ a = 0 := z2; omega
            refine ⟨rfl, ⟨b2, by omega, by rw [h32] at hR; exact hR⟩, hpo.keep hfw1 hM1 (fun z => by have e9 := hz 2 (by unfold rU; omega); have z : ρ (Z 2) = 1 := z; omega), hfr.tr hfw1 (fun a _ _ z => Or.inl (by have z : ρ a = 1 := z; omega))⟩
          · obtain ⟨m9, hm9⟩ : ∃ m9, 16 - xs.length = m9 + 1 := ⟨15 - xs.length, by omega⟩
            rw [hm9] at hrun
            rw [hT2, sr_run_end hd2] at hrun
            refine W.eq (g2 := F0 m 56 ls [.int 0]) rfl ?_
            refine lv_istore hx hb d_Ru_start_56 hl (by decide) rfl (fun ls hl => ?_)
            have hl : lv_has ls 6 [(5, .int 0), (0, .ref (Z 1)), (4, .ref (Z (1000 + 0)))] := hl
            refine lv_iload hx hb d_Ru_start_58 (lv_at hl 0 rfl) ?_
            refine lv_iconst (v := 3) hx hb d_Ru_start_60 (by decide) ?_
            refine lv_icmp_eq (tgt := 71) hx hb d_Ru_start_61 (by decide) (fun c12 => absurd c12 (by decide)) (fun c12 => ?_)
            refine lv_aload_n hx hb d_Ru_start_64 rfl (lv_at hl 1 rfl) ?_
            refine lv_iload hx hb d_Ru_start_65 (lv_at hl 0 rfl) ?_
            refine gh_put C V h1R gc_Ru gi_Ru ty_Ru nm_Ru 8 (by decide) f_Ru_37 rfl (by first | rfl | decide) (by first | rfl | decide) (Nat.le_of_ble_eq_true rfl) d_Ru_start_67 (fun H locs V => ?_)
            obtain ⟨f13, hff13⟩ : ∃ z9 : gh_F, z9 = gh_u g2 (Z 1) (.inr (4, [.ref (Z 200), .ref (Z 206), .ref (Z 207), .ref (Z 2), .ref (Z q0), .int (nI b2), .int (nI φ2), .int (nI xs.length), .int 0])) := ⟨_, rfl⟩
            have V : gh_V E A f13 s H locs := by rw [hff13]; exact V
            have hR : rn_R E ρ Z f13 q0 N cb bg φ2 b2 (nI xs.length) 0 := by rw [hff13]; exact hR.own
            have hfw1 : gh_fr g2 f13 (fun a => ρ a = 1) := by rw [hff13]; exact gh_fr.put (M := fun a => ρ a = 1) gh_fr.rf (Or.inl (hz 1 (by unfold rU; omega)))
            have hRc := hR
            obtain ⟨h1R, ⟨hz, ⟨p206, p207⟩, ⟨gS, hgS, hgS2⟩, ⟨gG, hgG, hgG2⟩, hVR, hqR, hcdR, hbaR, hN60, hq0⟩, ⟨hgaV, hgaR⟩, hSR, hnon⟩ := hRc
            obtain ⟨pvsR, hvsR, hnuR, hnoR, hyeR, -⟩ := id hVR
            refine gh_retv hAe C V hr hlocks d_Ru_start_70 (by first | decide | omega | (dsimp only; omega)) (by first | decide | omega | (dsimp only; omega)) ?_
            rw [List.append_nil] at hrun
            rw [hrun]
            have hM1 : ∀ a, ρ a = 1 → ¬ rP ρ a := fun a z z2 => by have z2 : ρ a = 0 := z2; omega
            refine ⟨rfl, ⟨b2, by omega, by rw [h32] at hR; exact hR⟩, hpo.keep hfw1 hM1 (fun z => by have e9 := hz 2 (by unfold rU; omega); have z : ρ (Z 2) = 1 := z; omega), hfr.tr hfw1 (fun a _ _ z => Or.inl (by have z : ρ a = 1 := z; omega))⟩
          · obtain ⟨m9, hm9⟩ : ∃ m9, 16 - xs.length = m9 + 1 := ⟨15 - xs.length, by omega⟩
            rw [hm9] at hrun
            rw [hT2, sr_run_fail hd2] at hrun
            refine W.eq (g2 := F0 m 56 ls [.int 1]) rfl ?_
            refine lv_istore hx hb d_Ru_start_56 hl (by decide) rfl (fun ls hl => ?_)
            have hl : lv_has ls 6 [(5, .int 1), (0, .ref (Z 1)), (4, .ref (Z (1000 + 0)))] := hl
            refine lv_iload hx hb d_Ru_start_58 (lv_at hl 0 rfl) ?_
            refine lv_iconst (v := 3) hx hb d_Ru_start_60 (by decide) ?_
            refine lv_icmp_eq (tgt := 71) hx hb d_Ru_start_61 (by decide) (fun c14 => absurd c14 (by decide)) (fun c14 => ?_)
            refine lv_aload_n hx hb d_Ru_start_64 rfl (lv_at hl 1 rfl) ?_
            refine lv_iload hx hb d_Ru_start_65 (lv_at hl 0 rfl) ?_
            refine gh_put C V h1R gc_Ru gi_Ru ty_Ru nm_Ru 8 (by decide) f_Ru_37 rfl (by first | rfl | decide) (by first | rfl | decide) (Nat.le_of_ble_eq_true rfl) d_Ru_start_67 (fun H locs V => ?_)
            obtain ⟨f15, hff15⟩ : ∃ z9 : gh_F, z9 = gh_u g2 (Z 1) (.inr (4, [.ref (Z 200), .ref (Z 206), .ref (Z 207), .ref (Z 2), .ref (Z q0), .int (nI b2), .int (nI φ2), .int (nI xs.length), .int 1])) := ⟨_, rfl⟩
            have V : gh_V E A f15 s H locs := by rw [hff15]; exact V
            have hR : rn_R E ρ Z f15 q0 N cb bg φ2 b2 (nI xs.length) 1 := by rw [hff15]; exact hR.own
            have hfw1 : gh_fr g2 f15 (fun a => ρ a = 1) := by rw [hff15]; exact gh_fr.put (M := fun a => ρ a = 1) gh_fr.rf (Or.inl (hz 1 (by unfold rU; omega)))
            have hRc := hR
            obtain ⟨h1R, ⟨hz, ⟨p206, p207⟩, ⟨gS, hgS, hgS2⟩, ⟨gG, hgG, hgG2⟩, hVR, hqR, hcdR, hbaR, hN60, hq0⟩, ⟨hgaV, hgaR⟩, hSR, hnon⟩ := hRc
            obtain ⟨pvsR, hvsR, hnuR, hnoR, hyeR, -⟩ := id hVR
            refine gh_retv hAe C V hr hlocks d_Ru_start_70 (by first | decide | omega | (dsimp only; omega)) (by first | decide | omega | (dsimp only; omega)) ?_
            rw [List.append_nil] at hrun
            rw [hrun]
            have hM1 : ∀ a, ρ a = 1 → ¬ rP ρ a := fun a z z2 => by have z2 : ρ a = 0 := z2; omega
            refine ⟨rfl, ⟨b2, by omega, by rw [h32] at hR; exact hR⟩, hpo.keep hfw1 hM1 (fun z => by have e9 := hz 2 (by unfold rU; omega); have z : ρ (Z 2) = 1 := z; omega), hfr.tr hfw1 (fun a _ _ z => Or.inl (by have z : ρ a = 1 := z; omega))⟩
          · obtain ⟨m9, hm9⟩ : ∃ m9, 16 - xs.length = m9 + 1 := ⟨15 - xs.length, by omega⟩
            rw [hm9] at hrun
            rw [hT2, sr_run_cons hd2] at hrun
            have hcd : sr_c Tc = d2 := by rw [hT2]; rfl
            obtain ⟨v0, v1, v2, v3, v4, v5, v6, v7, a2, hj2, hx2, hl2, hFj2⟩ := hrs2.val
            refine W.eq (g2 := F0 m 56 ls [.int 3]) rfl ?_
            refine lv_istore hx hb d_Ru_start_56 hl (by decide) rfl (fun ls hl => ?_)
            have hl : lv_has ls 6 [(5, .int 3), (0, .ref (Z 1)), (4, .ref (Z (1000 + 0)))] := hl
            refine lv_iload hx hb d_Ru_start_58 (lv_at hl 0 rfl) ?_
            refine lv_iconst (v := 3) hx hb d_Ru_start_60 (by decide) ?_
            refine lv_icmp_eq (tgt := 71) hx hb d_Ru_start_61 (by decide) (fun c16 => ?_) (fun c16 => absurd (by decide) c16)
            refine lv_aload_n hx hb d_Ru_start_71 rfl (lv_at hl 1 rfl) ?_
            refine gh_get C V h1R gc_Ru gi_Ru 3 (by decide) f_Ru_33 rfl rfl d_Ru_start_72 ?_
            refine lv_aload_n hx hb d_Ru_start_75 rfl (lv_at hl 1 rfl) ?_
            refine gh_get C V h1R gc_Ru gi_Ru 7 (by decide) f_Ru_41 rfl rfl d_Ru_start_76 ?_
            refine lv_aload hx hb d_Ru_start_79 (lv_at hl 2 rfl) ?_
            refine gh_get C V hj2 gc_St gi_St 8 (by decide) f_Ru_68 rfl rfl d_Ru_start_81 ?_
            obtain ⟨gp, og, hgp, hgl, hgo⟩ := hpo
            obtain ⟨vs9, hvs9⟩ := hx2.cell
            refine gn_aast (t0 := 4) (i := xs.length) (r := (R_Va, T_Va, 7)) C V rfl hgp hvs9 gc_Va (by omega) (by decide) d_Ru_start_84 (fun H locs V => ?_)
            obtain ⟨f17, hff17⟩ : ∃ z9 : gh_F, z9 = gh_u g2 (Z 2) (.inl (E.2.2.1 4, 16, .inr (.inr (.inr (.inr (va_up gp xs.length (some a2))))))) := ⟨_, rfl⟩
            have V : gh_V E A f17 s H locs := by rw [hff17]; exact V
            have hR : rn_R E ρ Z f17 q0 N cb bg φ2 b2 (nI xs.length) 3 := by rw [hff17]; exact hR.out
            have hfw : gh_fr g2 f17 (fun a => ρ a = 2) := by rw [hff17]; exact gh_fr.put (M := fun a => ρ a = 2) gh_fr.rf (Or.inl (hz 2 (by unfold rU; omega)))
            have ho_f17 : f17 (Z 2) = some (.inl (E.2.2.1 4, 16, .inr (.inr (.inr (.inr (va_up gp xs.length (some a2))))))) := by rw [hff17, gh_us]
            have hk_f17 : f17 (Z (1000 + 0)) = some (.inr (5, [v0, v1, v2, v3, v4, v5, v6, v7, .ref a2])) := by rw [hff17, gh_un (rz_ne hz (by unfold rU; omega) (by unfold rU; omega) (by omega))]; exact hj2
            have hRc := hR
            obtain ⟨h1R, ⟨hz, ⟨p206, p207⟩, ⟨gS, hgS, hgS2⟩, ⟨gG, hgG, hgG2⟩, hVR, hqR, hcdR, hbaR, hN60, hq0⟩, ⟨hgaV, hgaR⟩, hSR, hnon⟩ := hRc
            obtain ⟨pvsR, hvsR, hnuR, hnoR, hyeR, -⟩ := id hVR
            have hM2 : ∀ a, ρ a = 2 → ¬ rP ρ a := fun a z z2 => by have z2 : ρ a = 0 := z2; omega
            have hfr : gh_fr f f17 (rn_MR ρ) := hfr.tr hfw (fun a _ _ z => Or.inl (by have z : ρ a = 2 := z; omega))
            have hpo : rn_P E ρ Z f17 (xs ++ [x2]) := by
              refine ⟨_, va_up og xs.length a2, ho_f17, by simp; omega, fun j hj => ?_⟩
              by_cases hjl : j = xs.length
              · subst hjl
                rw [va_up_s, va_up_s, getD_last]
                exact ⟨rfl, hx2.keep hfw hM2⟩
              · have hj2 : j < xs.length := by simp at hj; omega
                rw [va_up_n hjl, va_up_n hjl, getD_app hj2]
                exact ⟨(hgo j hj2).1, (hgo j hj2).2.keep hfw hM2⟩
            have hlt2 : ∀ i, F2 i → i < b2 ∧ i < 250 := fun i hi => by rcases hF2 i hi with z | z; have := hFc i z; omega; omega
            have hrs2 := hrs2.keep hfw hM2 (Nat.le_refl _) (fun i hi z => by have := hlt2 i hi; have e9 := hz (1000 + i) (by unfold rU; omega); have z : ρ (Z (1000 + i)) = 2 := z; omega)
            refine lv_aload_n hx hb d_Ru_start_85 rfl (lv_at hl 1 rfl) ?_
            refine lv_dup hx hb d_Ru_start_86 rfl ?_
            refine gh_get C V h1R gc_Ru gi_Ru 7 (by decide) f_Ru_41 rfl rfl d_Ru_start_87 ?_
            refine lv_iconst (v := 1) hx hb d_Ru_start_90 (by decide) ?_
            refine gn_iadd (a := xs.length) (b := 1) hx hb d_Ru_start_91 ?_
            refine gh_put C V h1R gc_Ru gi_Ru ty_Ru nm_Ru 7 (by decide) f_Ru_41 rfl (by first | rfl | decide) (by first | rfl | decide) (Nat.le_of_ble_eq_true rfl) d_Ru_start_92 (fun H locs V => ?_)
            obtain ⟨f18, hff18⟩ : ∃ z9 : gh_F, z9 = gh_u f17 (Z 1) (.inr (4, [.ref (Z 200), .ref (Z 206), .ref (Z 207), .ref (Z 2), .ref (Z q0), .int (nI b2), .int (nI φ2), .int (nI (xs.length + 1)), .int 3])) := ⟨_, rfl⟩
            have V : gh_V E A f18 s H locs := by rw [hff18]; exact V
            have hR : rn_R E ρ Z f18 q0 N cb bg φ2 b2 (nI (xs.length + 1)) 3 := by rw [hff18]; exact hR.own
            have hfw1 : gh_fr f17 f18 (fun a => ρ a = 1) := by rw [hff18]; exact gh_fr.put (M := fun a => ρ a = 1) gh_fr.rf (Or.inl (hz 1 (by unfold rU; omega)))
            have hk_f18 : f18 (Z (1000 + 0)) = some (.inr (5, [v0, v1, v2, v3, v4, v5, v6, v7, .ref a2])) := by rw [hff18, gh_un (rz_ne hz (by unfold rU; omega) (by unfold rU; omega) (by omega))]; exact hk_f17
            have hRc := hR
            obtain ⟨h1R, ⟨hz, ⟨p206, p207⟩, ⟨gS, hgS, hgS2⟩, ⟨gG, hgG, hgG2⟩, hVR, hqR, hcdR, hbaR, hN60, hq0⟩, ⟨hgaV, hgaR⟩, hSR, hnon⟩ := hRc
            obtain ⟨pvsR, hvsR, hnuR, hnoR, hyeR, -⟩ := id hVR
            refine lv_goto (tgt := 41) hx hb d_Ru_start_95 (by decide) ?_
            have hl : lv_has ls 6 [(0, .ref (Z 1)), (4, .ref (Z (1000 + 0)))] := lv_sub hl [1, 2] rfl
            have hM1 : ∀ a, ρ a = 1 → ¬ rP ρ a := fun a z z2 => by have z2 : ρ a = 0 := z2; omega
            have hlen : (xs ++ [x2]).length = xs.length + 1 := by simp
            refine W.widen (by first | omega | (dsimp only; omega)) (by first | omega | (dsimp only; omega)) (ih 0 φ2 b2 0 x2 R2 F2 (xs ++ [x2]) f18 H locs ls (by omega) (by rw [hlen]; exact hR) ⟨by omega, by omega⟩ (by rw [hrun, show 16 - (xs ++ [x2]).length = m9 by omega, h32]; simp) (hfr.tr hfw1 (fun a _ _ z => Or.inl (by have z : ρ a = 1 := z; omega))) (hpo.keep hfw1 hM1 (fun z => by have e9 := hz 2 (by unfold rU; omega); have z : ρ (Z 2) = 1 := z; omega)) (hrs2.keep hfw1 hM1 (Nat.le_refl _) (fun i hi z => by have := hlt2 i hi; have e9 := hz (1000 + i) (by unfold rU; omega); have z : ρ (Z (1000 + i)) = 1 := z; omega)) (fun i hi => hlt2 i hi) (Nat.zero_le _) V hl)
    exact W.widen (by first | omega | (dsimp only; omega)) (by first | omega | (dsimp only; omega)) (loop 17 0 (φ - 1) 1 1 (vt_0 0) (sr_B cb bg 20 0 X (vt_0 0)) (fun i => i = 0) [] g4 _ _ ls ⟨rfl, Nat.zero_le _⟩ hR ⟨by omega, by omega⟩ (by rw [sr_run_paid (by omega)]; rfl) hfr hpo0 hnw (fun i hi => by have hi : i = 0 := hi; omega) (Nat.le_refl _) V hl)
