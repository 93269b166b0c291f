/-! The runner's small methods. Printed by wip/whole/gen_ru1.py. -/
theorem d_Ru_gives_0 : decode b_Ru_gives 0 = .ok (.aload_n 0, 1) := by decide +kernel
theorem d_Ru_gives_1 : decode b_Ru_gives 1 = .ok (.aload_n 1, 1) := by decide +kernel
theorem d_Ru_gives_2 : decode b_Ru_gives 2 = .ok (.putfield 68, 3) := by decide +kernel
theorem d_Ru_gives_5 : decode b_Ru_gives 5 = .ok (.aload_n 0, 1) := by decide +kernel
theorem d_Ru_gives_6 : decode b_Ru_gives 6 = .ok (.dup, 1) := by decide +kernel
theorem d_Ru_gives_7 : decode b_Ru_gives 7 = .ok (.getfield 94, 3) := by decide +kernel
theorem d_Ru_gives_10 : decode b_Ru_gives 10 = .ok (.iconst 1, 1) := by decide +kernel
theorem d_Ru_gives_11 : decode b_Ru_gives 11 = .ok (.iadd, 1) := by decide +kernel
theorem d_Ru_gives_12 : decode b_Ru_gives 12 = .ok (.putfield 94, 3) := by decide +kernel
theorem d_Ru_gives_15 : decode b_Ru_gives 15 = .ok (.iconst 3, 1) := by decide +kernel
theorem d_Ru_gives_16 : decode b_Ru_gives 16 = .ok (.ireturn, 1) := by decide +kernel
set_option maxHeartbeats 4000000 in
set_option maxRecDepth 100000 in
theorem c_Ru_gives (l : Launch) (E : gh_E) (sz : Nat) (f : gh_F) (ρ Z : Nat → Nat) (q0 N : Nat) (cb bg : Nat → Nat) (φ b : Nat) (s0 e0 : Int32) (k a gv : Nat) (x0 x1 x2 x3 x4 x5 x7 x8 : Value) (hR : rn_R E ρ Z f q0 N cb bg φ b s0 e0) (hk : k < 250) (hs : f (Z (1000 + k)) = some (.inr (5, [x0, x1, x2, x3, x4, x5, .int (nI gv), x7, x8]))) : gh_M l y_Ru_gives b_Ru_gives 2 (some .int) E sz [.ref (Z (1000 + k)), .ref a] f { frames := 1, cells := 0, slots := 0, locals := 12 } (fun r g => r = some (.int 3) ∧ rn_R E ρ Z g q0 N cb bg φ b s0 e0 ∧ g (Z (1000 + k)) = some (.inr (5, [x0, x1, x2, x3, x4, x5, .int (nI (gv + 1)), x7, .ref a])) ∧ gh_fr f g (fun a => ρ a = 1000 + k)) := by
  refine gh_open (by decide) (Nat.le_of_ble_eq_true rfl) ?_
  intro p e s m args below meth c A ls hAe C V hr hlocks hname hl
  have hx := C.1
  have hb := C.2.1
  have hl : lv_has ls 2 [(0, .ref (Z (1000 + k))), (1, .ref a)] := hl
  have hRc := hR
  obtain ⟨h1R, ⟨hz, ⟨p206, p207⟩, ⟨gS, hgS, hgS2⟩, ⟨gG, hgG, hgG2⟩, hVR, hqR, hcdR, hbaR, hN60, hq0⟩, ⟨hgaV, hgaR⟩, hSR, hnon⟩ := hRc
  obtain ⟨pvsR, hvsR, hnuR, hnoR, hyeR, -⟩ := id hVR
  have hfr : gh_fr f f (fun a => ρ a = 1000 + k) := gh_fr.rf
  refine lv_aload_n hx hb d_Ru_gives_0 rfl (lv_at hl 0 rfl) ?_
  refine lv_aload_n hx hb d_Ru_gives_1 rfl (lv_at hl 1 rfl) ?_
  refine gh_put C V hs gc_St gi_St ty_St nm_St 8 (by decide) f_Ru_68 rfl (by first | rfl | decide) (by first | rfl | decide) (Nat.le_of_ble_eq_true rfl) d_Ru_gives_2 (fun H locs V => ?_)
  obtain ⟨f1, hff1⟩ : ∃ z9 : gh_F, z9 = gh_u f (Z (1000 + k)) (.inr (5, [x0, x1, x2, x3, x4, x5, .int (nI gv), x7, .ref a])) := ⟨_, rfl⟩
  have V : gh_V E A f1 s H locs := by rw [hff1]; exact V
  have hR : rn_R E ρ Z f1 q0 N cb bg φ b s0 e0 := by rw [hff1]; exact hR.step (k := k) hk
  have hfr : gh_fr f f1 (fun a => ρ a = 1000 + k) := by rw [hff1]; exact hfr.put (Or.inl (hz _ (by unfold rU; omega)))
  have h_Z__1000___k__f1 : f1 (Z (1000 + k)) = some (.inr (5, [x0, x1, x2, x3, x4, x5, .int (nI gv), x7, .ref a])) := by rw [hff1, gh_us]
  have hRc := hR
  obtain ⟨h1R, ⟨hz, ⟨p206, p207⟩, ⟨gS, hgS, hgS2⟩, ⟨gG, hgG, hgG2⟩, hVR, hqR, hcdR, hbaR, hN60, hq0⟩, ⟨hgaV, hgaR⟩, hSR, hnon⟩ := hRc
  obtain ⟨pvsR, hvsR, hnuR, hnoR, hyeR, -⟩ := id hVR
  refine lv_aload_n hx hb d_Ru_gives_5 rfl (lv_at hl 0 rfl) ?_
  refine lv_dup hx hb d_Ru_gives_6 rfl ?_
  refine gh_get C V h_Z__1000___k__f1 gc_St gi_St 6 (by decide) f_Ru_94 rfl rfl d_Ru_gives_7 ?_
  refine lv_iconst (v := 1) hx hb d_Ru_gives_10 (by decide) ?_
  refine gn_iadd (a := gv) (b := 1) hx hb d_Ru_gives_11 ?_
  refine gh_put C V h_Z__1000___k__f1 gc_St gi_St ty_St nm_St 6 (by decide) f_Ru_94 rfl (by first | rfl | decide) (by first | rfl | decide) (Nat.le_of_ble_eq_true rfl) d_Ru_gives_12 (fun H locs V => ?_)
  obtain ⟨f2, hff2⟩ : ∃ z9 : gh_F, z9 = gh_u f1 (Z (1000 + k)) (.inr (5, [x0, x1, x2, x3, x4, x5, .int (nI (gv + 1)), x7, .ref a])) := ⟨_, rfl⟩
  have V : gh_V E A f2 s H locs := by rw [hff2]; exact V
  have hR : rn_R E ρ Z f2 q0 N cb bg φ b s0 e0 := by rw [hff2]; exact hR.step (k := k) hk
  have hfr : gh_fr f f2 (fun a => ρ a = 1000 + k) := by rw [hff2]; exact hfr.put (Or.inl (hz _ (by unfold rU; omega)))
  have h_Z__1000___k__f2 : f2 (Z (1000 + k)) = some (.inr (5, [x0, x1, x2, x3, x4, x5, .int (nI (gv + 1)), x7, .ref a])) := by rw [hff2, gh_us]
  have hRc := hR
  obtain ⟨h1R, ⟨hz, ⟨p206, p207⟩, ⟨gS, hgS, hgS2⟩, ⟨gG, hgG, hgG2⟩, hVR, hqR, hcdR, hbaR, hN60, hq0⟩, ⟨hgaV, hgaR⟩, hSR, hnon⟩ := hRc
  obtain ⟨pvsR, hvsR, hnuR, hnoR, hyeR, -⟩ := id hVR
  refine lv_iconst (v := 3) hx hb d_Ru_gives_15 (by decide) ?_
  refine gh_reti hAe C V hr hlocks d_Ru_gives_16 (by first | decide | omega | (dsimp only; omega)) (by first | decide | omega | (dsimp only; omega)) ?_
  exact ⟨rfl, hR, h_Z__1000___k__f2, hfr⟩
theorem d_Ru_givesOrFails_0 : decode b_Ru_givesOrFails 0 = .ok (.aload_n 1, 1) := by decide +kernel
theorem d_Ru_givesOrFails_1 : decode b_Ru_givesOrFails 1 = .ok (.ifnonnull 7, 3) := by decide +kernel
theorem d_Ru_givesOrFails_4 : decode b_Ru_givesOrFails 4 = .ok (.iconst 1, 1) := by decide +kernel
theorem d_Ru_givesOrFails_5 : decode b_Ru_givesOrFails 5 = .ok (.goto 8, 3) := by decide +kernel
theorem d_Ru_givesOrFails_8 : decode b_Ru_givesOrFails 8 = .ok (.aload_n 0, 1) := by decide +kernel
theorem d_Ru_givesOrFails_9 : decode b_Ru_givesOrFails 9 = .ok (.aload_n 1, 1) := by decide +kernel
theorem d_Ru_givesOrFails_10 : decode b_Ru_givesOrFails 10 = .ok (.invokestatic 141, 3) := by decide +kernel
theorem d_Ru_givesOrFails_13 : decode b_Ru_givesOrFails 13 = .ok (.ireturn, 1) := by decide +kernel
set_option maxHeartbeats 4000000 in
set_option maxRecDepth 100000 in
theorem c_Ru_givesOrFails (l : Launch) (E : gh_E) (sz : Nat) (f : gh_F) (ρ Z : Nat → Nat) (q0 N : Nat) (cb bg : Nat → Nat) (φ b : Nat) (s0 e0 : Int32) (k a gv : Nat) (x0 x1 x2 x3 x4 x5 x7 x8 : Value) (hR : rn_R E ρ Z f q0 N cb bg φ b s0 e0) (hk : k < 250) (hs : f (Z (1000 + k)) = some (.inr (5, [x0, x1, x2, x3, x4, x5, .int (nI gv), x7, x8]))) : gh_M l y_Ru_givesOrFails b_Ru_givesOrFails 2 (some .int) E sz [.ref (Z (1000 + k)), .ref a] f { frames := 2, cells := 0, slots := 0, locals := 40 } (fun r g => r = some (.int 3) ∧ rn_R E ρ Z g q0 N cb bg φ b s0 e0 ∧ g (Z (1000 + k)) = some (.inr (5, [x0, x1, x2, x3, x4, x5, .int (nI (gv + 1)), x7, .ref a])) ∧ gh_fr f g (fun a => ρ a = 1000 + k)) := by
  refine gh_open (by decide) (Nat.le_of_ble_eq_true rfl) ?_
  intro p e s m args below meth c A ls hAe C V hr hlocks hname hl
  have hx := C.1
  have hb := C.2.1
  have hl : lv_has ls 2 [(0, .ref (Z (1000 + k))), (1, .ref a)] := hl
  have hRc := hR
  obtain ⟨h1R, ⟨hz, ⟨p206, p207⟩, ⟨gS, hgS, hgS2⟩, ⟨gG, hgG, hgG2⟩, hVR, hqR, hcdR, hbaR, hN60, hq0⟩, ⟨hgaV, hgaR⟩, hSR, hnon⟩ := hRc
  obtain ⟨pvsR, hvsR, hnuR, hnoR, hyeR, -⟩ := id hVR
  refine lv_aload_n hx hb d_Ru_givesOrFails_0 rfl (lv_at hl 1 rfl) ?_
  refine lv_ifnonnull (tgt := 8) hx hb d_Ru_givesOrFails_1 (by decide) ?_
  refine lv_aload_n hx hb d_Ru_givesOrFails_8 rfl (lv_at hl 0 rfl) ?_
  refine lv_aload_n hx hb d_Ru_givesOrFails_9 rfl (lv_at hl 1 rfl) ?_
  refine gh_callS C V hl.1 m_Ru_gives l_Ru_141 (c_Ru_gives l E _ f ρ Z q0 N cb bg φ b s0 e0 k a gv _ _ _ _ _ _ _ _ hR hk hs) rfl ⟨by first | decide | omega | (dsimp only; omega), by first | decide | omega | (dsimp only; omega)⟩ ⟨by first | decide | omega | (dsimp only; omega), by first | decide | omega | (dsimp only; omega)⟩ (Nat.le_of_ble_eq_true rfl) rfl d_Ru_givesOrFails_10 (fun r f1 H locs hp V => ?_)
  obtain ⟨rfl, hR9, hs9, hfr9⟩ := hp
  refine W.eq (g2 := F0 m 13 ls [.int 3]) rfl ?_
  refine gh_reti hAe C V hr hlocks d_Ru_givesOrFails_13 (by first | decide | omega | (dsimp only; omega)) (by first | decide | omega | (dsimp only; omega)) ?_
  exact ⟨rfl, hR9, hs9, hfr9⟩
set_option maxHeartbeats 4000000 in
set_option maxRecDepth 100000 in
theorem c_Ru_givesOrFails0 (l : Launch) (E : gh_E) (sz : Nat) (f : gh_F) (a : Nat) : gh_M l y_Ru_givesOrFails b_Ru_givesOrFails 2 (some .int) E sz [.ref a, .null] f { frames := 2, cells := 0, slots := 0, locals := 40 } (fun r g => r = some (.int 1) ∧ g = f) := by
  refine gh_open (by decide) (Nat.le_of_ble_eq_true rfl) ?_
  intro p e s m args below meth c A ls hAe C V hr hlocks hname hl
  have hx := C.1
  have hb := C.2.1
  have hl : lv_has ls 2 [(0, .ref a), (1, .null)] := hl
  refine lv_aload_nN hx hb d_Ru_givesOrFails_0 rfl (lv_at hl 1 rfl) ?_
  refine lv_ifnonnullN hx hb d_Ru_givesOrFails_1 ?_
  refine lv_iconst (v := 1) hx hb d_Ru_givesOrFails_4 (by decide) ?_
  refine lv_goto (tgt := 13) hx hb d_Ru_givesOrFails_5 (by decide) ?_
  refine gh_reti hAe C V hr hlocks d_Ru_givesOrFails_13 (by first | decide | omega | (dsimp only; omega)) (by first | decide | omega | (dsimp only; omega)) ?_
  exact ⟨rfl, rfl⟩
theorem d_Ru_passesOn_0 : decode b_Ru_passesOn 0 = .ok (.iload_n 2, 1) := by decide +kernel
theorem d_Ru_passesOn_1 : decode b_Ru_passesOn 1 = .ok (.iconst 3, 1) := by decide +kernel
theorem d_Ru_passesOn_2 : decode b_Ru_passesOn 2 = .ok (.if_icmp .ne 14, 3) := by decide +kernel
theorem d_Ru_passesOn_5 : decode b_Ru_passesOn 5 = .ok (.aload_n 0, 1) := by decide +kernel
theorem d_Ru_passesOn_6 : decode b_Ru_passesOn 6 = .ok (.aload_n 1, 1) := by decide +kernel
theorem d_Ru_passesOn_7 : decode b_Ru_passesOn 7 = .ok (.getfield 68, 3) := by decide +kernel
theorem d_Ru_passesOn_10 : decode b_Ru_passesOn 10 = .ok (.invokestatic 141, 3) := by decide +kernel
theorem d_Ru_passesOn_13 : decode b_Ru_passesOn 13 = .ok (.goto 4, 3) := by decide +kernel
theorem d_Ru_passesOn_16 : decode b_Ru_passesOn 16 = .ok (.iload_n 2, 1) := by decide +kernel
theorem d_Ru_passesOn_17 : decode b_Ru_passesOn 17 = .ok (.ireturn, 1) := by decide +kernel
set_option maxHeartbeats 4000000 in
set_option maxRecDepth 100000 in
theorem c_Ru_passesOn (l : Launch) (E : gh_E) (sz : Nat) (f : gh_F) (ρ Z : Nat → Nat) (q0 N : Nat) (cb bg : Nat → Nat) (φ b : Nat) (s0 e0 : Int32) (k a gv : Nat) (x0 x1 x2 x3 x4 x5 x7 x8 : Value) (j : Nat) (y0 y1 y2 y3 y4 y5 y6 y7 : Value) (hR : rn_R E ρ Z f q0 N cb bg φ b s0 e0) (hk : k < 250) (hs : f (Z (1000 + k)) = some (.inr (5, [x0, x1, x2, x3, x4, x5, .int (nI gv), x7, x8]))) (hj : f (Z (1000 + j)) = some (.inr (5, [y0, y1, y2, y3, y4, y5, y6, y7, .ref a]))) : gh_M l y_Ru_passesOn b_Ru_passesOn 3 (some .int) E sz [.ref (Z (1000 + k)), .ref (Z (1000 + j)), .int 3] f { frames := 2, cells := 0, slots := 0, locals := 40 } (fun r g => r = some (.int 3) ∧ rn_R E ρ Z g q0 N cb bg φ b s0 e0 ∧ g (Z (1000 + k)) = some (.inr (5, [x0, x1, x2, x3, x4, x5, .int (nI (gv + 1)), x7, .ref a])) ∧ gh_fr f g (fun a => ρ a = 1000 + k)) := by
  refine gh_open (by decide) (Nat.le_of_ble_eq_true rfl) ?_
  intro p e s m args below meth c A ls hAe C V hr hlocks hname hl
  have hx := C.1
  have hb := C.2.1
  have hl : lv_has ls 3 [(0, .ref (Z (1000 + k))), (1, .ref (Z (1000 + j))), (2, .int 3)] := hl
  have hRc := hR
  obtain ⟨h1R, ⟨hz, ⟨p206, p207⟩, ⟨gS, hgS, hgS2⟩, ⟨gG, hgG, hgG2⟩, hVR, hqR, hcdR, hbaR, hN60, hq0⟩, ⟨hgaV, hgaR⟩, hSR, hnon⟩ := hRc
  obtain ⟨pvsR, hvsR, hnuR, hnoR, hyeR, -⟩ := id hVR
  refine lv_iload_n hx hb d_Ru_passesOn_0 rfl (lv_at hl 2 rfl) ?_
  refine lv_iconst (v := 3) hx hb d_Ru_passesOn_1 (by decide) ?_
  refine lv_icmp_ne (tgt := 16) hx hb d_Ru_passesOn_2 (by decide) (fun c1 => absurd (by decide) c1) (fun c1 => ?_)
  refine lv_aload_n hx hb d_Ru_passesOn_5 rfl (lv_at hl 0 rfl) ?_
  refine lv_aload_n hx hb d_Ru_passesOn_6 rfl (lv_at hl 1 rfl) ?_
  refine gh_get C V hj gc_St gi_St 8 (by decide) f_Ru_68 rfl rfl d_Ru_passesOn_7 ?_
  refine gh_callS C V hl.1 m_Ru_gives l_Ru_141 (c_Ru_gives l E _ f ρ Z q0 N cb bg φ b s0 e0 k a gv _ _ _ _ _ _ _ _ hR hk hs) rfl ⟨by first | decide | omega | (dsimp only; omega), by first | decide | omega | (dsimp only; omega)⟩ ⟨by first | decide | omega | (dsimp only; omega), by first | decide | omega | (dsimp only; omega)⟩ (Nat.le_of_ble_eq_true rfl) rfl d_Ru_passesOn_10 (fun r f2 H locs hp V => ?_)
  obtain ⟨rfl, hR9, hs9, hfr9⟩ := hp
  refine W.eq (g2 := F0 m 13 ls [.int 3]) rfl ?_
  refine lv_goto (tgt := 17) hx hb d_Ru_passesOn_13 (by decide) ?_
  refine gh_reti hAe C V hr hlocks d_Ru_passesOn_17 (by first | decide | omega | (dsimp only; omega)) (by first | decide | omega | (dsimp only; omega)) ?_
  exact ⟨rfl, hR9, hs9, hfr9⟩
set_option maxHeartbeats 4000000 in
set_option maxRecDepth 100000 in
theorem c_Ru_passesOnR (l : Launch) (E : gh_E) (sz : Nat) (f : gh_F) (a n : Nat) (j : Nat) (hn : n < 3) : gh_M l y_Ru_passesOn b_Ru_passesOn 3 (some .int) E sz [.ref a, .ref j, .int (nI n)] f { frames := 2, cells := 0, slots := 0, locals := 40 } (fun r g => r = some (.int (nI n)) ∧ g = f) := by
  refine gh_open (by decide) (Nat.le_of_ble_eq_true rfl) ?_
  intro p e s m args below meth c A ls hAe C V hr hlocks hname hl
  have hx := C.1
  have hb := C.2.1
  have hl : lv_has ls 3 [(0, .ref a), (1, .ref j), (2, .int (nI n))] := hl
  refine lv_iload_n hx hb d_Ru_passesOn_0 rfl (lv_at hl 2 rfl) ?_
  refine lv_iconst (v := 3) hx hb d_Ru_passesOn_1 (by decide) ?_
  refine lv_icmp_ne (tgt := 16) hx hb d_Ru_passesOn_2 (by decide) (fun c1 => ?_) (fun c1 => absurd c1 (fun z => absurd ((nI_eq (b := 3) (by omega) (by omega)).mp z) (by omega)))
  refine lv_iload_n hx hb d_Ru_passesOn_16 rfl (lv_at hl 2 rfl) ?_
  refine gh_reti hAe C V hr hlocks d_Ru_passesOn_17 (by first | decide | omega | (dsimp only; omega)) (by first | decide | omega | (dsimp only; omega)) ?_
  exact ⟨rfl, rfl⟩
set_option maxHeartbeats 4000000 in
set_option maxRecDepth 100000 in
theorem c_Ru_passesOnN (l : Launch) (E : gh_E) (sz : Nat) (f : gh_F) (a n : Nat) (hn : n < 3) : gh_M l y_Ru_passesOn b_Ru_passesOn 3 (some .int) E sz [.ref a, .null, .int (nI n)] f { frames := 2, cells := 0, slots := 0, locals := 40 } (fun r g => r = some (.int (nI n)) ∧ g = f) := by
  refine gh_open (by decide) (Nat.le_of_ble_eq_true rfl) ?_
  intro p e s m args below meth c A ls hAe C V hr hlocks hname hl
  have hx := C.1
  have hb := C.2.1
  have hl : lv_has ls 3 [(0, .ref a), (1, .null), (2, .int (nI n))] := hl
  refine lv_iload_n hx hb d_Ru_passesOn_0 rfl (lv_at hl 2 rfl) ?_
  refine lv_iconst (v := 3) hx hb d_Ru_passesOn_1 (by decide) ?_
  refine lv_icmp_ne (tgt := 16) hx hb d_Ru_passesOn_2 (by decide) (fun c1 => ?_) (fun c1 => absurd c1 (fun z => absurd ((nI_eq (b := 3) (by omega) (by omega)).mp z) (by omega)))
  refine lv_iload_n hx hb d_Ru_passesOn_16 rfl (lv_at hl 2 rfl) ?_
  refine gh_reti hAe C V hr hlocks d_Ru_passesOn_17 (by first | decide | omega | (dsimp only; omega)) (by first | decide | omega | (dsimp only; omega)) ?_
  exact ⟨rfl, rfl⟩
theorem c_Ru_passesOn0 (l : Launch) (E : gh_E) (sz : Nat) (f : gh_F) (a n : Nat) (Z : Nat → Nat) (o : Option Nat) (hn : n < 3) : gh_M l y_Ru_passesOn b_Ru_passesOn 3 (some .int) E sz [.ref a, ro Z o, .int (nI n)] f { frames := 2, cells := 0, slots := 0, locals := 40 } (fun r g => r = some (.int (nI n)) ∧ g = f) := by
  cases o with
  | none => exact c_Ru_passesOnN l E sz f a n hn
  | some j => exact c_Ru_passesOnR l E sz f a n (Z (1000 + j)) hn
theorem d_Ru_pays_0 : decode b_Ru_pays 0 = .ok (.aload_n 0, 1) := by decide +kernel
theorem d_Ru_pays_1 : decode b_Ru_pays 1 = .ok (.getfield 48, 3) := by decide +kernel
theorem d_Ru_pays_4 : decode b_Ru_pays 4 = .ok (.ifCond .gt 5, 3) := by decide +kernel
theorem d_Ru_pays_7 : decode b_Ru_pays 7 = .ok (.iconst 0, 1) := by decide +kernel
theorem d_Ru_pays_8 : decode b_Ru_pays 8 = .ok (.ireturn, 1) := by decide +kernel
theorem d_Ru_pays_9 : decode b_Ru_pays 9 = .ok (.aload_n 0, 1) := by decide +kernel
theorem d_Ru_pays_10 : decode b_Ru_pays 10 = .ok (.dup, 1) := by decide +kernel
theorem d_Ru_pays_11 : decode b_Ru_pays 11 = .ok (.getfield 48, 3) := by decide +kernel
theorem d_Ru_pays_14 : decode b_Ru_pays 14 = .ok (.iconst 1, 1) := by decide +kernel
theorem d_Ru_pays_15 : decode b_Ru_pays 15 = .ok (.isub, 1) := by decide +kernel
theorem d_Ru_pays_16 : decode b_Ru_pays 16 = .ok (.putfield 48, 3) := by decide +kernel
theorem d_Ru_pays_19 : decode b_Ru_pays 19 = .ok (.iconst 1, 1) := by decide +kernel
theorem d_Ru_pays_20 : decode b_Ru_pays 20 = .ok (.ireturn, 1) := by decide +kernel
set_option maxHeartbeats 4000000 in
set_option maxRecDepth 100000 in
theorem c_Ru_pays (l : Launch) (E : gh_E) (sz : Nat) (f : gh_F) (ρ Z : Nat → Nat) (q0 N : Nat) (cb bg : Nat → Nat) (φ b : Nat) (s0 e0 : Int32) (hR : rn_R E ρ Z f q0 N cb bg φ b s0 e0) (hφ : φ ≤ 250) : gh_M l y_Ru_pays b_Ru_pays 1 (some .boolean) E sz [.ref (Z 1)] f { frames := 1, cells := 0, slots := 0, locals := 12 } (fun r g => (φ = 0 → r = some (.int 0) ∧ g = f) ∧ (0 < φ → r = some (.int 1) ∧ rn_R E ρ Z g q0 N cb bg (φ - 1) b s0 e0 ∧ gh_fr f g (fun a => ρ a = 1))) := by
  refine gh_open (by decide) (Nat.le_of_ble_eq_true rfl) ?_
  intro p e s m args below meth c A ls hAe C V hr hlocks hname hl
  have hx := C.1
  have hb := C.2.1
  have hl : lv_has ls 1 [(0, .ref (Z 1))] := hl
  have hRc := hR
  obtain ⟨h1R, ⟨hz, ⟨p206, p207⟩, ⟨gS, hgS, hgS2⟩, ⟨gG, hgG, hgG2⟩, hVR, hqR, hcdR, hbaR, hN60, hq0⟩, ⟨hgaV, hgaR⟩, hSR, hnon⟩ := hRc
  obtain ⟨pvsR, hvsR, hnuR, hnoR, hyeR, -⟩ := id hVR
  have hfr : gh_fr f f (fun a => ρ a = 1) := gh_fr.rf
  refine lv_aload_n hx hb d_Ru_pays_0 rfl (lv_at hl 0 rfl) ?_
  refine gh_get C V h1R gc_Ru gi_Ru 6 (by decide) f_Ru_48 rfl rfl d_Ru_pays_1 ?_
  refine lv_if_gt (tgt := 9) hx hb d_Ru_pays_4 (by decide) (fun c1 => ?_) (fun c1 => ?_)
  · have c1 : 0 < φ := by rw [← gq_lt (a := 0) (b := φ) (by omega) (by omega)]; exact c1
    refine lv_aload_n hx hb d_Ru_pays_9 rfl (lv_at hl 0 rfl) ?_
    refine lv_dup hx hb d_Ru_pays_10 rfl ?_
    refine gh_get C V h1R gc_Ru gi_Ru 6 (by decide) f_Ru_48 rfl rfl d_Ru_pays_11 ?_
    refine lv_iconst (v := 1) hx hb d_Ru_pays_14 (by decide) ?_
    refine gn_isub (a := φ) (b := 1) hx hb (by omega) d_Ru_pays_15 ?_
    refine gh_put C V h1R gc_Ru gi_Ru ty_Ru nm_Ru 6 (by decide) f_Ru_48 rfl (by first | rfl | decide) (by first | rfl | decide) (Nat.le_of_ble_eq_true rfl) d_Ru_pays_16 (fun H locs V => ?_)
    obtain ⟨f2, hff2⟩ : ∃ z9 : gh_F, z9 = gh_u f (Z 1) (.inr (4, [.ref (Z 200), .ref (Z 206), .ref (Z 207), .ref (Z 2), .ref (Z q0), .int (nI b), .int (nI (φ - 1)), .int s0, .int e0])) := ⟨_, rfl⟩
    have V : gh_V E A f2 s H locs := by rw [hff2]; exact V
    have hR : rn_R E ρ Z f2 q0 N cb bg (φ - 1) b s0 e0 := by rw [hff2]; exact hR.own
    have hfr : gh_fr f f2 (fun a => ρ a = 1) := by rw [hff2]; exact hfr.put (Or.inl (hz _ (by unfold rU; omega)))
    have h_Z_1_f2 : f2 (Z 1) = some (.inr (4, [.ref (Z 200), .ref (Z 206), .ref (Z 207), .ref (Z 2), .ref (Z q0), .int (nI b), .int (nI (φ - 1)), .int s0, .int e0])) := by rw [hff2, gh_us]
    have hRc := hR
    obtain ⟨h1R, ⟨hz, ⟨p206, p207⟩, ⟨gS, hgS, hgS2⟩, ⟨gG, hgG, hgG2⟩, hVR, hqR, hcdR, hbaR, hN60, hq0⟩, ⟨hgaV, hgaR⟩, hSR, hnon⟩ := hRc
    obtain ⟨pvsR, hvsR, hnuR, hnoR, hyeR, -⟩ := id hVR
    refine lv_iconst (v := 1) hx hb d_Ru_pays_19 (by decide) ?_
    refine gh_retz hAe C V hr (by first | rfl | exact gh_bi_nar _ | decide) hlocks d_Ru_pays_20 (by first | decide | omega | (dsimp only; omega)) (by first | decide | omega | (dsimp only; omega)) ?_
    exact ⟨fun h => absurd h (by omega), fun _ => ⟨rfl, hR, hfr⟩⟩
  · have c1 : ¬ 0 < φ := by rw [← gq_lt (a := 0) (b := φ) (by omega) (by omega)]; exact c1
    refine lv_iconst (v := 0) hx hb d_Ru_pays_7 (by decide) ?_
    refine gh_retz hAe C V hr (by first | rfl | exact gh_bi_nar _ | decide) hlocks d_Ru_pays_8 (by first | decide | omega | (dsimp only; omega)) (by first | decide | omega | (dsimp only; omega)) ?_
    exact ⟨fun _ => ⟨rfl, rfl⟩, fun h => absurd h (by omega)⟩
theorem d_Ru_begin_0 : decode b_Ru_begin 0 = .ok (.iload_n 2, 1) := by decide +kernel
theorem d_Ru_begin_1 : decode b_Ru_begin 1 = .ok (.bipush 19, 2) := by decide +kernel
theorem d_Ru_begin_3 : decode b_Ru_begin 3 = .ok (.if_icmp .gt 22, 3) := by decide +kernel
theorem d_Ru_begin_6 : decode b_Ru_begin 6 = .ok (.aload_n 0, 1) := by decide +kernel
theorem d_Ru_begin_7 : decode b_Ru_begin 7 = .ok (.getfield 51, 3) := by decide +kernel
theorem d_Ru_begin_10 : decode b_Ru_begin 10 = .ok (.aload_n 0, 1) := by decide +kernel
theorem d_Ru_begin_11 : decode b_Ru_begin 11 = .ok (.getfield 21, 3) := by decide +kernel
theorem d_Ru_begin_14 : decode b_Ru_begin 14 = .ok (.arraylength, 1) := by decide +kernel
theorem d_Ru_begin_15 : decode b_Ru_begin 15 = .ok (.if_icmp .ge 10, 3) := by decide +kernel
theorem d_Ru_begin_18 : decode b_Ru_begin 18 = .ok (.aload_n 0, 1) := by decide +kernel
theorem d_Ru_begin_19 : decode b_Ru_begin 19 = .ok (.invokevirtual 71, 3) := by decide +kernel
theorem d_Ru_begin_22 : decode b_Ru_begin 22 = .ok (.ifCond .ne 5, 3) := by decide +kernel
theorem d_Ru_begin_25 : decode b_Ru_begin 25 = .ok (.aconst_null, 1) := by decide +kernel
theorem d_Ru_begin_26 : decode b_Ru_begin 26 = .ok (.areturn, 1) := by decide +kernel
theorem d_Ru_begin_27 : decode b_Ru_begin 27 = .ok (.aload_n 0, 1) := by decide +kernel
theorem d_Ru_begin_28 : decode b_Ru_begin 28 = .ok (.getfield 21, 3) := by decide +kernel
theorem d_Ru_begin_31 : decode b_Ru_begin 31 = .ok (.aload_n 0, 1) := by decide +kernel
theorem d_Ru_begin_32 : decode b_Ru_begin 32 = .ok (.getfield 51, 3) := by decide +kernel
theorem d_Ru_begin_35 : decode b_Ru_begin 35 = .ok (.aaload, 1) := by decide +kernel
theorem d_Ru_begin_36 : decode b_Ru_begin 36 = .ok (.astore 5, 2) := by decide +kernel
theorem d_Ru_begin_38 : decode b_Ru_begin 38 = .ok (.aload_n 0, 1) := by decide +kernel
theorem d_Ru_begin_39 : decode b_Ru_begin 39 = .ok (.dup, 1) := by decide +kernel
theorem d_Ru_begin_40 : decode b_Ru_begin 40 = .ok (.getfield 51, 3) := by decide +kernel
theorem d_Ru_begin_43 : decode b_Ru_begin 43 = .ok (.iconst 1, 1) := by decide +kernel
theorem d_Ru_begin_44 : decode b_Ru_begin 44 = .ok (.iadd, 1) := by decide +kernel
theorem d_Ru_begin_45 : decode b_Ru_begin 45 = .ok (.putfield 51, 3) := by decide +kernel
theorem d_Ru_begin_48 : decode b_Ru_begin 48 = .ok (.aload 5, 2) := by decide +kernel
theorem d_Ru_begin_50 : decode b_Ru_begin 50 = .ok (.iload_n 1, 1) := by decide +kernel
theorem d_Ru_begin_51 : decode b_Ru_begin 51 = .ok (.putfield 75, 3) := by decide +kernel
theorem d_Ru_begin_54 : decode b_Ru_begin 54 = .ok (.aload 5, 2) := by decide +kernel
theorem d_Ru_begin_56 : decode b_Ru_begin 56 = .ok (.iload_n 2, 1) := by decide +kernel
theorem d_Ru_begin_57 : decode b_Ru_begin 57 = .ok (.putfield 78, 3) := by decide +kernel
theorem d_Ru_begin_60 : decode b_Ru_begin 60 = .ok (.aload 5, 2) := by decide +kernel
theorem d_Ru_begin_62 : decode b_Ru_begin 62 = .ok (.aload_n 3, 1) := by decide +kernel
theorem d_Ru_begin_63 : decode b_Ru_begin 63 = .ok (.putfield 81, 3) := by decide +kernel
theorem d_Ru_begin_66 : decode b_Ru_begin 66 = .ok (.aload 5, 2) := by decide +kernel
theorem d_Ru_begin_68 : decode b_Ru_begin 68 = .ok (.aload 4, 2) := by decide +kernel
theorem d_Ru_begin_70 : decode b_Ru_begin 70 = .ok (.putfield 84, 3) := by decide +kernel
theorem d_Ru_begin_73 : decode b_Ru_begin 73 = .ok (.aload 5, 2) := by decide +kernel
theorem d_Ru_begin_75 : decode b_Ru_begin 75 = .ok (.aconst_null, 1) := by decide +kernel
theorem d_Ru_begin_76 : decode b_Ru_begin 76 = .ok (.putfield 87, 3) := by decide +kernel
theorem d_Ru_begin_79 : decode b_Ru_begin 79 = .ok (.aload 5, 2) := by decide +kernel
theorem d_Ru_begin_81 : decode b_Ru_begin 81 = .ok (.aconst_null, 1) := by decide +kernel
theorem d_Ru_begin_82 : decode b_Ru_begin 82 = .ok (.putfield 91, 3) := by decide +kernel
theorem d_Ru_begin_85 : decode b_Ru_begin 85 = .ok (.aload 5, 2) := by decide +kernel
theorem d_Ru_begin_87 : decode b_Ru_begin 87 = .ok (.iconst 0, 1) := by decide +kernel
theorem d_Ru_begin_88 : decode b_Ru_begin 88 = .ok (.putfield 94, 3) := by decide +kernel
theorem d_Ru_begin_91 : decode b_Ru_begin 91 = .ok (.aload 5, 2) := by decide +kernel
theorem d_Ru_begin_93 : decode b_Ru_begin 93 = .ok (.iconst 0, 1) := by decide +kernel
theorem d_Ru_begin_94 : decode b_Ru_begin 94 = .ok (.putfield 97, 3) := by decide +kernel
theorem d_Ru_begin_97 : decode b_Ru_begin 97 = .ok (.aload 5, 2) := by decide +kernel
theorem d_Ru_begin_99 : decode b_Ru_begin 99 = .ok (.aload_n 0, 1) := by decide +kernel
theorem d_Ru_begin_100 : decode b_Ru_begin 100 = .ok (.getfield 13, 3) := by decide +kernel
theorem d_Ru_begin_103 : decode b_Ru_begin 103 = .ok (.getfield 54, 3) := by decide +kernel
theorem d_Ru_begin_106 : decode b_Ru_begin 106 = .ok (.putfield 68, 3) := by decide +kernel
theorem d_Ru_begin_109 : decode b_Ru_begin 109 = .ok (.aload 5, 2) := by decide +kernel
theorem d_Ru_begin_111 : decode b_Ru_begin 111 = .ok (.areturn, 1) := by decide +kernel
set_option maxHeartbeats 4000000 in
set_option maxRecDepth 100000 in
theorem c_Ru_begin (l : Launch) (E : gh_E) (sz : Nat) (f : gh_F) (ρ Z : Nat → Nat) (q0 N : Nat) (cb bg : Nat → Nat) (φ b : Nat) (s0 e0 : Int32) (pt d it el : Nat) (hR : rn_R E ρ Z f q0 N cb bg φ b s0 e0) (hφ : φ + b ≤ 250) (hd : d ≤ 19) : gh_M l y_Ru_begin b_Ru_begin 6 (some (.object "QueryMachine$Step")) E sz [.ref (Z 1), .int (nI pt), .int (nI d), .ref it, .ref el] f { frames := 2, cells := 0, slots := 0, locals := 40 } (fun r g => (φ = 0 → r = some .null ∧ g = f) ∧ (0 < φ → r = some (.ref (Z (1000 + b))) ∧ rn_R E ρ Z g q0 N cb bg (φ - 1) (b + 1) s0 e0 ∧ g (Z (1000 + b)) = some (.inr (5, [.int (nI pt), .int (nI d), .ref it, .ref el, .null, .null, .int 0, .int 0, .ref (Z 201)])) ∧ gh_fr f g (fun a => ρ a = 1 ∨ ρ a = 1000 + b))) := by
  refine gh_open (by decide) (Nat.le_of_ble_eq_true rfl) ?_
  intro p e s m args below meth c A ls hAe C V hr hlocks hname hl
  have hx := C.1
  have hb := C.2.1
  have hl : lv_has ls 6 [(0, .ref (Z 1)), (1, .int (nI pt)), (2, .int (nI d)), (3, .ref it), (4, .ref el)] := hl
  have hRc := hR
  obtain ⟨h1R, ⟨hz, ⟨p206, p207⟩, ⟨gS, hgS, hgS2⟩, ⟨gG, hgG, hgG2⟩, hVR, hqR, hcdR, hbaR, hN60, hq0⟩, ⟨hgaV, hgaR⟩, hSR, hnon⟩ := hRc
  obtain ⟨pvsR, hvsR, hnuR, hnoR, hyeR, -⟩ := id hVR
  have hfr : gh_fr f f (fun a => ρ a = 1 ∨ ρ a = 1000 + b) := gh_fr.rf
  refine lv_iload_n hx hb d_Ru_begin_0 rfl (lv_at hl 2 rfl) ?_
  refine lv_bipush (v := 19) hx hb d_Ru_begin_1 (by decide) ?_
  refine lv_icmp_gt (tgt := 25) hx hb d_Ru_begin_3 (by decide) (fun c1 => absurd c1 (nI_nlt (a := 19) (b := d) (by omega) (by omega))) (fun c1 => ?_)
  refine lv_aload_n hx hb d_Ru_begin_6 rfl (lv_at hl 0 rfl) ?_
  refine gh_get C V h1R gc_Ru gi_Ru 5 (by decide) f_Ru_51 rfl rfl d_Ru_begin_7 ?_
  refine lv_aload_n hx hb d_Ru_begin_10 rfl (lv_at hl 0 rfl) ?_
  refine gh_get C V h1R gc_Ru gi_Ru 1 (by decide) f_Ru_21 rfl rfl d_Ru_begin_11 ?_
  refine gh_alen (t0 := 6) C V rfl hgS (v := nI 250) rfl d_Ru_begin_14 ?_
  refine lv_icmp_ge (tgt := 25) hx hb d_Ru_begin_15 (by decide) (fun c2 => ?_) (fun c2 => ?_)
  · have c2 : 250 ≤ b := by rw [← gq_le (a := 250) (b := b) (by omega) (by omega)]; exact c2
    refine lv_null hx hb d_Ru_begin_25 ?_
    refine gh_reta hAe C V hr (by first | exact Or.inl ⟨_, rfl⟩ | exact Or.inr ⟨_, rfl⟩) (by first | exact Or.inl rfl | exact Or.inr ⟨_, rfl⟩) hlocks d_Ru_begin_26 (by first | decide | omega | (dsimp only; omega)) (by first | decide | omega | (dsimp only; omega)) ?_
    exact ⟨fun _ => ⟨rfl, rfl⟩, fun h => absurd h (by omega)⟩
  · have c2 : ¬ 250 ≤ b := by rw [← gq_le (a := 250) (b := b) (by omega) (by omega)]; exact c2
    refine lv_aload_n hx hb d_Ru_begin_18 rfl (lv_at hl 0 rfl) ?_
    refine gh_callV C V hl.1 m_Ru_pays l_Ru_71 (c_Ru_pays l E _ f ρ Z q0 N cb bg φ b s0 e0 hR (by omega)) rfl h1R gc_Ru ⟨by first | decide | omega | (dsimp only; omega), by first | decide | omega | (dsimp only; omega)⟩ ⟨by first | decide | omega | (dsimp only; omega), by first | decide | omega | (dsimp only; omega)⟩ (Nat.le_of_ble_eq_true rfl) rfl d_Ru_begin_19 (fun r f3 H locs hp V => ?_)
    by_cases hφ0 : φ = 0
    · obtain ⟨rfl, he9⟩ := hp.1 hφ0
      rw [he9] at V
      refine W.eq (g2 := F0 m 22 ls [.int 0]) rfl ?_
      refine lv_if_ne (tgt := 27) hx hb d_Ru_begin_22 (by decide) (fun c4 => absurd (by decide) c4) (fun c4 => ?_)
      refine lv_null hx hb d_Ru_begin_25 ?_
      refine gh_reta hAe C V hr (by first | exact Or.inl ⟨_, rfl⟩ | exact Or.inr ⟨_, rfl⟩) (by first | exact Or.inl rfl | exact Or.inr ⟨_, rfl⟩) hlocks d_Ru_begin_26 (by first | decide | omega | (dsimp only; omega)) (by first | decide | omega | (dsimp only; omega)) ?_
      exact ⟨fun _ => ⟨rfl, rfl⟩, fun h => absurd h (by omega)⟩
    · obtain ⟨rfl, hR, hfr9⟩ := hp.2 (by omega)
      refine W.eq (g2 := F0 m 22 ls [.int 1]) rfl ?_
      have hRc := hR
      obtain ⟨h1R, ⟨hz, ⟨p206, p207⟩, ⟨gS, hgS, hgS2⟩, ⟨gG, hgG, hgG2⟩, hVR, hqR, hcdR, hbaR, hN60, hq0⟩, ⟨hgaV, hgaR⟩, hSR, hnon⟩ := hRc
      obtain ⟨pvsR, hvsR, hnuR, hnoR, hyeR, -⟩ := id hVR
      have hfr : gh_fr f f3 (fun a => ρ a = 1 ∨ ρ a = 1000 + b) := hfr.tr hfr9 (fun _ _ _ z => Or.inl z)
      refine lv_if_ne (tgt := 27) hx hb d_Ru_begin_22 (by decide) (fun c5 => ?_) (fun c5 => absurd c5 (by decide))
      refine lv_aload_n hx hb d_Ru_begin_27 rfl (lv_at hl 0 rfl) ?_
      refine gh_get C V h1R gc_Ru gi_Ru 1 (by decide) f_Ru_21 rfl rfl d_Ru_begin_28 ?_
      refine lv_aload_n hx hb d_Ru_begin_31 rfl (lv_at hl 0 rfl) ?_
      refine gh_get C V h1R gc_Ru gi_Ru 5 (by decide) f_Ru_51 rfl rfl d_Ru_begin_32 ?_
      refine gn_aald (t0 := 6) (i := b) (v := Z (1000 + b)) C V rfl hgS (by omega) (by decide) (hgS2 b (by omega)) d_Ru_begin_35 ?_
      obtain ⟨x0, x1, x2, x3, x4, x5, x6, x7, x8, hsb⟩ := hSR b (by omega)
      refine lv_astore hx hb d_Ru_begin_36 hl (by decide) rfl (fun ls hl => ?_)
      have hl : lv_has ls 6 [(5, .ref (Z (1000 + b))), (0, .ref (Z 1)), (1, .int (nI pt)), (2, .int (nI d)), (3, .ref it), (4, .ref el)] := hl
      refine lv_aload_n hx hb d_Ru_begin_38 rfl (lv_at hl 1 rfl) ?_
      refine lv_dup hx hb d_Ru_begin_39 rfl ?_
      refine gh_get C V h1R gc_Ru gi_Ru 5 (by decide) f_Ru_51 rfl rfl d_Ru_begin_40 ?_
      refine lv_iconst (v := 1) hx hb d_Ru_begin_43 (by decide) ?_
      refine gn_iadd (a := b) (b := 1) hx hb d_Ru_begin_44 ?_
      refine gh_put C V h1R gc_Ru gi_Ru ty_Ru nm_Ru 5 (by decide) f_Ru_51 rfl (by first | rfl | decide) (by first | rfl | decide) (Nat.le_of_ble_eq_true rfl) d_Ru_begin_45 (fun H locs V => ?_)
      obtain ⟨f6, hff6⟩ : ∃ z9 : gh_F, z9 = gh_u f3 (Z 1) (.inr (4, [.ref (Z 200), .ref (Z 206), .ref (Z 207), .ref (Z 2), .ref (Z q0), .int (nI (b + 1)), .int (nI (φ - 1)), .int s0, .int e0])) := ⟨_, rfl⟩
      have V : gh_V E A f6 s H locs := by rw [hff6]; exact V
      have hR : rn_R E ρ Z f6 q0 N cb bg (φ - 1) (b + 1) s0 e0 := by rw [hff6]; exact hR.own
      have hfr : gh_fr f f6 (fun a => ρ a = 1 ∨ ρ a = 1000 + b) := by rw [hff6]; exact hfr.put (Or.inl (Or.inl (hz _ (by unfold rU; omega))))
      have h_Z__1000___b__f6 : f6 (Z (1000 + b)) = some (.inr (5, [x0, x1, x2, x3, x4, x5, x6, x7, x8])) := by rw [hff6, gh_un (gh_nek hsb h1R (show (5 : Nat) ≠ 4 by decide))]; exact hsb
      have h_Z_1_f6 : f6 (Z 1) = some (.inr (4, [.ref (Z 200), .ref (Z 206), .ref (Z 207), .ref (Z 2), .ref (Z q0), .int (nI (b + 1)), .int (nI (φ - 1)), .int s0, .int e0])) := by rw [hff6, gh_us]
      have hRc := hR
      obtain ⟨h1R, ⟨hz, ⟨p206, p207⟩, ⟨gS, hgS, hgS2⟩, ⟨gG, hgG, hgG2⟩, hVR, hqR, hcdR, hbaR, hN60, hq0⟩, ⟨hgaV, hgaR⟩, hSR, hnon⟩ := hRc
      obtain ⟨pvsR, hvsR, hnuR, hnoR, hyeR, -⟩ := id hVR
      refine lv_aload hx hb d_Ru_begin_48 (lv_at hl 0 rfl) ?_
      refine lv_iload_n hx hb d_Ru_begin_50 rfl (lv_at hl 2 rfl) ?_
      refine gh_put C V h_Z__1000___b__f6 gc_St gi_St ty_St nm_St 0 (by decide) f_Ru_75 rfl (by first | rfl | decide) (by first | rfl | decide) (Nat.le_of_ble_eq_true rfl) d_Ru_begin_51 (fun H locs V => ?_)
      obtain ⟨f7, hff7⟩ : ∃ z9 : gh_F, z9 = gh_u f6 (Z (1000 + b)) (.inr (5, [.int (nI pt), x1, x2, x3, x4, x5, x6, x7, x8])) := ⟨_, rfl⟩
      have V : gh_V E A f7 s H locs := by rw [hff7]; exact V
      have hR : rn_R E ρ Z f7 q0 N cb bg (φ - 1) (b + 1) s0 e0 := by rw [hff7]; exact hR.step (k := b) (by omega)
      have hfr : gh_fr f f7 (fun a => ρ a = 1 ∨ ρ a = 1000 + b) := by rw [hff7]; exact hfr.put (Or.inl (Or.inr (hz _ (by unfold rU; omega))))
      have h_Z__1000___b__f7 : f7 (Z (1000 + b)) = some (.inr (5, [.int (nI pt), x1, x2, x3, x4, x5, x6, x7, x8])) := by rw [hff7, gh_us]
      have hRc := hR
      obtain ⟨h1R, ⟨hz, ⟨p206, p207⟩, ⟨gS, hgS, hgS2⟩, ⟨gG, hgG, hgG2⟩, hVR, hqR, hcdR, hbaR, hN60, hq0⟩, ⟨hgaV, hgaR⟩, hSR, hnon⟩ := hRc
      obtain ⟨pvsR, hvsR, hnuR, hnoR, hyeR, -⟩ := id hVR
      refine lv_aload hx hb d_Ru_begin_54 (lv_at hl 0 rfl) ?_
      refine lv_iload_n hx hb d_Ru_begin_56 rfl (lv_at hl 3 rfl) ?_
      refine gh_put C V h_Z__1000___b__f7 gc_St gi_St ty_St nm_St 1 (by decide) f_Ru_78 rfl (by first | rfl | decide) (by first | rfl | decide) (Nat.le_of_ble_eq_true rfl) d_Ru_begin_57 (fun H locs V => ?_)
      obtain ⟨f8, hff8⟩ : ∃ z9 : gh_F, z9 = gh_u f7 (Z (1000 + b)) (.inr (5, [.int (nI pt), .int (nI d), x2, x3, x4, x5, x6, x7, x8])) := ⟨_, rfl⟩
      have V : gh_V E A f8 s H locs := by rw [hff8]; exact V
      have hR : rn_R E ρ Z f8 q0 N cb bg (φ - 1) (b + 1) s0 e0 := by rw [hff8]; exact hR.step (k := b) (by omega)
      have hfr : gh_fr f f8 (fun a => ρ a = 1 ∨ ρ a = 1000 + b) := by rw [hff8]; exact hfr.put (Or.inl (Or.inr (hz _ (by unfold rU; omega))))
      have h_Z__1000___b__f8 : f8 (Z (1000 + b)) = some (.inr (5, [.int (nI pt), .int (nI d), x2, x3, x4, x5, x6, x7, x8])) := by rw [hff8, gh_us]
      have hRc := hR
      obtain ⟨h1R, ⟨hz, ⟨p206, p207⟩, ⟨gS, hgS, hgS2⟩, ⟨gG, hgG, hgG2⟩, hVR, hqR, hcdR, hbaR, hN60, hq0⟩, ⟨hgaV, hgaR⟩, hSR, hnon⟩ := hRc
      obtain ⟨pvsR, hvsR, hnuR, hnoR, hyeR, -⟩ := id hVR
      refine lv_aload hx hb d_Ru_begin_60 (lv_at hl 0 rfl) ?_
      refine lv_aload_n hx hb d_Ru_begin_62 rfl (lv_at hl 4 rfl) ?_
      refine gh_put C V h_Z__1000___b__f8 gc_St gi_St ty_St nm_St 2 (by decide) f_Ru_81 rfl (by first | rfl | decide) (by first | rfl | decide) (Nat.le_of_ble_eq_true rfl) d_Ru_begin_63 (fun H locs V => ?_)
      obtain ⟨f9, hff9⟩ : ∃ z9 : gh_F, z9 = gh_u f8 (Z (1000 + b)) (.inr (5, [.int (nI pt), .int (nI d), .ref it, x3, x4, x5, x6, x7, x8])) := ⟨_, rfl⟩
      have V : gh_V E A f9 s H locs := by rw [hff9]; exact V
      have hR : rn_R E ρ Z f9 q0 N cb bg (φ - 1) (b + 1) s0 e0 := by rw [hff9]; exact hR.step (k := b) (by omega)
      have hfr : gh_fr f f9 (fun a => ρ a = 1 ∨ ρ a = 1000 + b) := by rw [hff9]; exact hfr.put (Or.inl (Or.inr (hz _ (by unfold rU; omega))))
      have h_Z__1000___b__f9 : f9 (Z (1000 + b)) = some (.inr (5, [.int (nI pt), .int (nI d), .ref it, x3, x4, x5, x6, x7, x8])) := by rw [hff9, gh_us]
      have hRc := hR
      obtain ⟨h1R, ⟨hz, ⟨p206, p207⟩, ⟨gS, hgS, hgS2⟩, ⟨gG, hgG, hgG2⟩, hVR, hqR, hcdR, hbaR, hN60, hq0⟩, ⟨hgaV, hgaR⟩, hSR, hnon⟩ := hRc
      obtain ⟨pvsR, hvsR, hnuR, hnoR, hyeR, -⟩ := id hVR
      refine lv_aload hx hb d_Ru_begin_66 (lv_at hl 0 rfl) ?_
      refine lv_aload hx hb d_Ru_begin_68 (lv_at hl 5 rfl) ?_
      refine gh_put C V h_Z__1000___b__f9 gc_St gi_St ty_St nm_St 3 (by decide) f_Ru_84 rfl (by first | rfl | decide) (by first | rfl | decide) (Nat.le_of_ble_eq_true rfl) d_Ru_begin_70 (fun H locs V => ?_)
      obtain ⟨f10, hff10⟩ : ∃ z9 : gh_F, z9 = gh_u f9 (Z (1000 + b)) (.inr (5, [.int (nI pt), .int (nI d), .ref it, .ref el, x4, x5, x6, x7, x8])) := ⟨_, rfl⟩
      have V : gh_V E A f10 s H locs := by rw [hff10]; exact V
      have hR : rn_R E ρ Z f10 q0 N cb bg (φ - 1) (b + 1) s0 e0 := by rw [hff10]; exact hR.step (k := b) (by omega)
      have hfr : gh_fr f f10 (fun a => ρ a = 1 ∨ ρ a = 1000 + b) := by rw [hff10]; exact hfr.put (Or.inl (Or.inr (hz _ (by unfold rU; omega))))
      have h_Z__1000___b__f10 : f10 (Z (1000 + b)) = some (.inr (5, [.int (nI pt), .int (nI d), .ref it, .ref el, x4, x5, x6, x7, x8])) := by rw [hff10, gh_us]
      have hRc := hR
      obtain ⟨h1R, ⟨hz, ⟨p206, p207⟩, ⟨gS, hgS, hgS2⟩, ⟨gG, hgG, hgG2⟩, hVR, hqR, hcdR, hbaR, hN60, hq0⟩, ⟨hgaV, hgaR⟩, hSR, hnon⟩ := hRc
      obtain ⟨pvsR, hvsR, hnuR, hnoR, hyeR, -⟩ := id hVR
      refine lv_aload hx hb d_Ru_begin_73 (lv_at hl 0 rfl) ?_
      refine lv_null hx hb d_Ru_begin_75 ?_
      refine gh_put C V h_Z__1000___b__f10 gc_St gi_St ty_St nm_St 4 (by decide) f_Ru_87 rfl (by first | rfl | decide) (by first | rfl | decide) (Nat.le_of_ble_eq_true rfl) d_Ru_begin_76 (fun H locs V => ?_)
      obtain ⟨f11, hff11⟩ : ∃ z9 : gh_F, z9 = gh_u f10 (Z (1000 + b)) (.inr (5, [.int (nI pt), .int (nI d), .ref it, .ref el, .null, x5, x6, x7, x8])) := ⟨_, rfl⟩
      have V : gh_V E A f11 s H locs := by rw [hff11]; exact V
      have hR : rn_R E ρ Z f11 q0 N cb bg (φ - 1) (b + 1) s0 e0 := by rw [hff11]; exact hR.step (k := b) (by omega)
      have hfr : gh_fr f f11 (fun a => ρ a = 1 ∨ ρ a = 1000 + b) := by rw [hff11]; exact hfr.put (Or.inl (Or.inr (hz _ (by unfold rU; omega))))
      have h_Z__1000___b__f11 : f11 (Z (1000 + b)) = some (.inr (5, [.int (nI pt), .int (nI d), .ref it, .ref el, .null, x5, x6, x7, x8])) := by rw [hff11, gh_us]
      have hRc := hR
      obtain ⟨h1R, ⟨hz, ⟨p206, p207⟩, ⟨gS, hgS, hgS2⟩, ⟨gG, hgG, hgG2⟩, hVR, hqR, hcdR, hbaR, hN60, hq0⟩, ⟨hgaV, hgaR⟩, hSR, hnon⟩ := hRc
      obtain ⟨pvsR, hvsR, hnuR, hnoR, hyeR, -⟩ := id hVR
      refine lv_aload hx hb d_Ru_begin_79 (lv_at hl 0 rfl) ?_
      refine lv_null hx hb d_Ru_begin_81 ?_
      refine gh_put C V h_Z__1000___b__f11 gc_St gi_St ty_St nm_St 5 (by decide) f_Ru_91 rfl (by first | rfl | decide) (by first | rfl | decide) (Nat.le_of_ble_eq_true rfl) d_Ru_begin_82 (fun H locs V => ?_)
      obtain ⟨f12, hff12⟩ : ∃ z9 : gh_F, z9 = gh_u f11 (Z (1000 + b)) (.inr (5, [.int (nI pt), .int (nI d), .ref it, .ref el, .null, .null, x6, x7, x8])) := ⟨_, rfl⟩
      have V : gh_V E A f12 s H locs := by rw [hff12]; exact V
      have hR : rn_R E ρ Z f12 q0 N cb bg (φ - 1) (b + 1) s0 e0 := by rw [hff12]; exact hR.step (k := b) (by omega)
      have hfr : gh_fr f f12 (fun a => ρ a = 1 ∨ ρ a = 1000 + b) := by rw [hff12]; exact hfr.put (Or.inl (Or.inr (hz _ (by unfold rU; omega))))
      have h_Z__1000___b__f12 : f12 (Z (1000 + b)) = some (.inr (5, [.int (nI pt), .int (nI d), .ref it, .ref el, .null, .null, x6, x7, x8])) := by rw [hff12, gh_us]
      have hRc := hR
      obtain ⟨h1R, ⟨hz, ⟨p206, p207⟩, ⟨gS, hgS, hgS2⟩, ⟨gG, hgG, hgG2⟩, hVR, hqR, hcdR, hbaR, hN60, hq0⟩, ⟨hgaV, hgaR⟩, hSR, hnon⟩ := hRc
      obtain ⟨pvsR, hvsR, hnuR, hnoR, hyeR, -⟩ := id hVR
      refine lv_aload hx hb d_Ru_begin_85 (lv_at hl 0 rfl) ?_
      refine lv_iconst (v := 0) hx hb d_Ru_begin_87 (by decide) ?_
      refine gh_put C V h_Z__1000___b__f12 gc_St gi_St ty_St nm_St 6 (by decide) f_Ru_94 rfl (by first | rfl | decide) (by first | rfl | decide) (Nat.le_of_ble_eq_true rfl) d_Ru_begin_88 (fun H locs V => ?_)
      obtain ⟨f13, hff13⟩ : ∃ z9 : gh_F, z9 = gh_u f12 (Z (1000 + b)) (.inr (5, [.int (nI pt), .int (nI d), .ref it, .ref el, .null, .null, .int 0, x7, x8])) := ⟨_, rfl⟩
      have V : gh_V E A f13 s H locs := by rw [hff13]; exact V
      have hR : rn_R E ρ Z f13 q0 N cb bg (φ - 1) (b + 1) s0 e0 := by rw [hff13]; exact hR.step (k := b) (by omega)
      have hfr : gh_fr f f13 (fun a => ρ a = 1 ∨ ρ a = 1000 + b) := by rw [hff13]; exact hfr.put (Or.inl (Or.inr (hz _ (by unfold rU; omega))))
      have h_Z__1000___b__f13 : f13 (Z (1000 + b)) = some (.inr (5, [.int (nI pt), .int (nI d), .ref it, .ref el, .null, .null, .int 0, x7, x8])) := by rw [hff13, gh_us]
      have hRc := hR
      obtain ⟨h1R, ⟨hz, ⟨p206, p207⟩, ⟨gS, hgS, hgS2⟩, ⟨gG, hgG, hgG2⟩, hVR, hqR, hcdR, hbaR, hN60, hq0⟩, ⟨hgaV, hgaR⟩, hSR, hnon⟩ := hRc
      obtain ⟨pvsR, hvsR, hnuR, hnoR, hyeR, -⟩ := id hVR
      refine lv_aload hx hb d_Ru_begin_91 (lv_at hl 0 rfl) ?_
      refine lv_iconst (v := 0) hx hb d_Ru_begin_93 (by decide) ?_
      refine gh_put C V h_Z__1000___b__f13 gc_St gi_St ty_St nm_St 7 (by decide) f_Ru_97 rfl (by first | rfl | decide) (by first | rfl | decide) (Nat.le_of_ble_eq_true rfl) d_Ru_begin_94 (fun H locs V => ?_)
      obtain ⟨f14, hff14⟩ : ∃ z9 : gh_F, z9 = gh_u f13 (Z (1000 + b)) (.inr (5, [.int (nI pt), .int (nI d), .ref it, .ref el, .null, .null, .int 0, .int 0, x8])) := ⟨_, rfl⟩
      have V : gh_V E A f14 s H locs := by rw [hff14]; exact V
      have hR : rn_R E ρ Z f14 q0 N cb bg (φ - 1) (b + 1) s0 e0 := by rw [hff14]; exact hR.step (k := b) (by omega)
      have hfr : gh_fr f f14 (fun a => ρ a = 1 ∨ ρ a = 1000 + b) := by rw [hff14]; exact hfr.put (Or.inl (Or.inr (hz _ (by unfold rU; omega))))
      have h_Z__1000___b__f14 : f14 (Z (1000 + b)) = some (.inr (5, [.int (nI pt), .int (nI d), .ref it, .ref el, .null, .null, .int 0, .int 0, x8])) := by rw [hff14, gh_us]
      have hRc := hR
      obtain ⟨h1R, ⟨hz, ⟨p206, p207⟩, ⟨gS, hgS, hgS2⟩, ⟨gG, hgG, hgG2⟩, hVR, hqR, hcdR, hbaR, hN60, hq0⟩, ⟨hgaV, hgaR⟩, hSR, hnon⟩ := hRc
      obtain ⟨pvsR, hvsR, hnuR, hnoR, hyeR, -⟩ := id hVR
      refine lv_aload hx hb d_Ru_begin_97 (lv_at hl 0 rfl) ?_
      refine lv_aload_n hx hb d_Ru_begin_99 rfl (lv_at hl 1 rfl) ?_
      refine gh_get C V h1R gc_Ru gi_Ru 0 (by decide) f_Ru_13 rfl rfl d_Ru_begin_100 ?_
      refine gh_get C V hvsR gc_Vs gi_Vs 0 (by decide) f_Ru_54 rfl rfl d_Ru_begin_103 ?_
      refine gh_put C V h_Z__1000___b__f14 gc_St gi_St ty_St nm_St 8 (by decide) f_Ru_68 rfl (by first | rfl | decide) (by first | rfl | decide) (Nat.le_of_ble_eq_true rfl) d_Ru_begin_106 (fun H locs V => ?_)
      obtain ⟨f15, hff15⟩ : ∃ z9 : gh_F, z9 = gh_u f14 (Z (1000 + b)) (.inr (5, [.int (nI pt), .int (nI d), .ref it, .ref el, .null, .null, .int 0, .int 0, .ref (Z 201)])) := ⟨_, rfl⟩
      have V : gh_V E A f15 s H locs := by rw [hff15]; exact V
      have hR : rn_R E ρ Z f15 q0 N cb bg (φ - 1) (b + 1) s0 e0 := by rw [hff15]; exact hR.step (k := b) (by omega)
      have hfr : gh_fr f f15 (fun a => ρ a = 1 ∨ ρ a = 1000 + b) := by rw [hff15]; exact hfr.put (Or.inl (Or.inr (hz _ (by unfold rU; omega))))
      have h_Z__1000___b__f15 : f15 (Z (1000 + b)) = some (.inr (5, [.int (nI pt), .int (nI d), .ref it, .ref el, .null, .null, .int 0, .int 0, .ref (Z 201)])) := by rw [hff15, gh_us]
      have hRc := hR
      obtain ⟨h1R, ⟨hz, ⟨p206, p207⟩, ⟨gS, hgS, hgS2⟩, ⟨gG, hgG, hgG2⟩, hVR, hqR, hcdR, hbaR, hN60, hq0⟩, ⟨hgaV, hgaR⟩, hSR, hnon⟩ := hRc
      obtain ⟨pvsR, hvsR, hnuR, hnoR, hyeR, -⟩ := id hVR
      refine lv_aload hx hb d_Ru_begin_109 (lv_at hl 0 rfl) ?_
      refine gh_reta hAe C V hr (by first | exact Or.inl ⟨_, rfl⟩ | exact Or.inr ⟨_, rfl⟩) (by first | exact Or.inl rfl | exact Or.inr ⟨_, rfl⟩) hlocks d_Ru_begin_111 (by first | decide | omega | (dsimp only; omega)) (by first | decide | omega | (dsimp only; omega)) ?_
      exact ⟨fun h => absurd h (by omega), fun _ => ⟨rfl, hR, h_Z__1000___b__f15, hfr⟩⟩
