/-! askEach. Printed by wip/whole/gen_ru7.py. -/
theorem d_Ru_askEach_0 : decode b_Ru_askEach 0 = .ok (.aload_n 1, 1) := by decide +kernel
theorem d_Ru_askEach_1 : decode b_Ru_askEach 1 = .ok (.getfield 81, 3) := by decide +kernel
theorem d_Ru_askEach_4 : decode b_Ru_askEach 4 = .ok (.invokevirtual 145, 3) := by decide +kernel
theorem d_Ru_askEach_7 : decode b_Ru_askEach 7 = .ok (.ifCond .ne 5, 3) := by decide +kernel
theorem d_Ru_askEach_10 : decode b_Ru_askEach 10 = .ok (.iconst 1, 1) := by decide +kernel
theorem d_Ru_askEach_11 : decode b_Ru_askEach 11 = .ok (.ireturn, 1) := by decide +kernel
theorem d_Ru_askEach_12 : decode b_Ru_askEach 12 = .ok (.aload_n 1, 1) := by decide +kernel
theorem d_Ru_askEach_13 : decode b_Ru_askEach 13 = .ok (.getfield 94, 3) := by decide +kernel
theorem d_Ru_askEach_16 : decode b_Ru_askEach 16 = .ok (.aload_n 1, 1) := by decide +kernel
theorem d_Ru_askEach_17 : decode b_Ru_askEach 17 = .ok (.getfield 81, 3) := by decide +kernel
theorem d_Ru_askEach_20 : decode b_Ru_askEach 20 = .ok (.getfield 148, 3) := by decide +kernel
theorem d_Ru_askEach_23 : decode b_Ru_askEach 23 = .ok (.arraylength, 1) := by decide +kernel
theorem d_Ru_askEach_24 : decode b_Ru_askEach 24 = .ok (.if_icmp .ge 22, 3) := by decide +kernel
theorem d_Ru_askEach_27 : decode b_Ru_askEach 27 = .ok (.aload_n 1, 1) := by decide +kernel
theorem d_Ru_askEach_28 : decode b_Ru_askEach 28 = .ok (.aload_n 1, 1) := by decide +kernel
theorem d_Ru_askEach_29 : decode b_Ru_askEach 29 = .ok (.getfield 81, 3) := by decide +kernel
theorem d_Ru_askEach_32 : decode b_Ru_askEach 32 = .ok (.getfield 148, 3) := by decide +kernel
theorem d_Ru_askEach_35 : decode b_Ru_askEach 35 = .ok (.aload_n 1, 1) := by decide +kernel
theorem d_Ru_askEach_36 : decode b_Ru_askEach 36 = .ok (.getfield 94, 3) := by decide +kernel
theorem d_Ru_askEach_39 : decode b_Ru_askEach 39 = .ok (.aaload, 1) := by decide +kernel
theorem d_Ru_askEach_40 : decode b_Ru_askEach 40 = .ok (.invokestatic 141, 3) := by decide +kernel
theorem d_Ru_askEach_43 : decode b_Ru_askEach 43 = .ok (.goto 4, 3) := by decide +kernel
theorem d_Ru_askEach_46 : decode b_Ru_askEach 46 = .ok (.iconst 0, 1) := by decide +kernel
theorem d_Ru_askEach_47 : decode b_Ru_askEach 47 = .ok (.ireturn, 1) := by decide +kernel
set_option maxHeartbeats 4000000 in
set_option maxRecDepth 100000 in
theorem c_Ru_askEach (l : Launch) (E : gh_E) (sz : Nat) (f : gh_F) (ρ Z : Nat → Nat) (q0 N : Nat) (cb bg : Nat → Nat) (φ b : Nat) (s0 e0 : Int32) (n u k : Nat) (v : vt) (T : sr) (F : Nat → Prop) (pt w9 it el gv pl va : Nat) (X Y : vt) (fi se : Option Nat) (hR : rn_R E ρ Z f q0 N cb bg φ b s0 e0) (hφb : φ + b ≤ 250) (hFb : ∀ j, F j → j < b) (hx9 : rs_x E ρ Z cb bg N f φ n u k v T F pt w9 it el gv pl va X Y fi se) (IH : rk_A l E ρ Z q0 N cb bg n) (hkd : cb pt = 3) : gh_M l y_Ru_askEach b_Ru_askEach 2 (some .int) E sz [.ref (Z 1), .ref (Z (1000 + k))] f { frames := 25 + 6 * n, cells := 3 * (min (sr_c T) φ + u), slots := 39 * (min (sr_c T) φ + u), locals := 870 + 200 * n } (rk_Q E ρ Z q0 N cb bg (n + 1) f φ b s0 e0 k v T F) := by
  obtain ⟨hs, ⟨hk250, hn19, hFk⟩, ⟨hqw, hq4, hq6⟩, ⟨hit, hel, hva⟩, ⟨q9, hq16, hzr, hgv⟩, hst⟩ := hx9
  have hkb := hFb k hFk
  have hptN := (qw_lt hqw).1
  have hX7 := (hit.le).2
  refine gh_open (by decide) (Nat.le_of_ble_eq_true rfl) ?_
  intro p e s m args below meth c A ls hAe C V hr hlocks hname hl
  have hx := C.1
  have hb := C.2.1
  have hl : lv_has ls 2 [(0, .ref (Z 1)), (1, .ref (Z (1000 + k)))] := hl
  have hRc := hR
  obtain ⟨h1R, ⟨hz, ⟨p206, p207⟩, ⟨gS, hgS, hgS2⟩, ⟨gG, hgG, hgG2⟩, hVR, hqR, hcdR, hbaR, hN60, hq0⟩, ⟨hgaV, hgaR⟩, hSR, hnon⟩ := hRc
  obtain ⟨pvsR, hvsR, hnuR, hnoR, hyeR, -⟩ := id hVR
  have hfr : gh_fr f f (rn_M ρ (20 - (n + 1)) b F) := gh_fr.rf
  have hpt60 : pt < 60 := by omega
  have hoX := vo_o.mp hit.2
  have hc16 := hoX.2.2.2.2.2.2.1
  have hT : (vt_hi X = true → gv ≤ vt_c X ∧ T = sr_eac X (vt_c X - gv) gv) ∧ (vt_hi X = false → T = sr_fail 0) := by
    rcases hst with ⟨hu, hg0, hp0, hf0, hs0, hv0, hT⟩ | ⟨hu, hg1, hrun⟩
    · refine ⟨fun h => ⟨by omega, ?_⟩, fun h => ?_⟩
      · rw [hT, sr_B_o, sr_part_3 hkd, if_pos h, hg0, Nat.min_eq_left hc16]; rfl
      · rw [hT, sr_B_o, sr_part_3 hkd, if_neg (by rw [h]; decide)]
    · obtain ⟨h1, h2, h3⟩ := hrun.1 hkd
      exact ⟨fun _ => ⟨h2, h3⟩, fun h => by rw [h1] at h; cases h⟩
  refine lv_aload_n hx hb d_Ru_askEach_0 rfl (lv_at hl 1 rfl) ?_
  refine gh_get C V hs gc_St gi_St 2 (by decide) f_Ru_81 rfl rfl d_Ru_askEach_1 ?_
  obtain ⟨vs9, hvs9⟩ := hit.cell
  refine gh_callV C V hl.1 m_Va_hasItems l_Ru_145 (c_Va_hasItems l E _ f (rP ρ) it X hit) rfl hvs9 gc_Va ⟨by first | decide | omega | (dsimp only; omega), by first | decide | omega | (dsimp only; omega)⟩ ⟨by first | decide | omega | (dsimp only; omega), by first | decide | omega | (dsimp only; omega)⟩ (Nat.le_of_ble_eq_true rfl) rfl d_Ru_askEach_4 (fun r z9 H locs hp V => ?_)
  obtain ⟨rfl, he9⟩ := hp
  rw [he9] at V
  refine W.eq (g2 := F0 m 7 ls [.int (gh_bi (vt_hi X))]) rfl ?_
  refine lv_if_ne (tgt := 12) hx hb d_Ru_askEach_7 (by decide) (fun c1 => ?_) (fun c1 => ?_)
  · have c1 : (vt_hi X) = true := gh_bi_1 c1
    refine lv_aload_n hx hb d_Ru_askEach_12 rfl (lv_at hl 1 rfl) ?_
    refine gh_get C V hs gc_St gi_St 6 (by decide) f_Ru_94 rfl rfl d_Ru_askEach_13 ?_
    refine lv_aload_n hx hb d_Ru_askEach_16 rfl (lv_at hl 1 rfl) ?_
    refine gh_get C V hs gc_St gi_St 2 (by decide) f_Ru_81 rfl rfl d_Ru_askEach_17 ?_
    obtain ⟨la_2, ka_2, ia_2, gk_2, gi_2, K_2, B_2, hp_2, h0_2, h1_2, h2_2, h3_2, h4_2, h5_2⟩ := cv_o.mp hit.1
    refine gh_get C V h0_2 gc_Va gi_Va 4 (by decide) f_Ru_148 rfl rfl d_Ru_askEach_20 ?_
    refine gh_alen (t0 := 4) C V rfl h3_2 (v := nI (vt_c X)) rfl d_Ru_askEach_23 ?_
    refine lv_icmp_ge (tgt := 46) hx hb d_Ru_askEach_24 (by decide) (fun c3 => ?_) (fun c3 => ?_)
    · have c3 : (vt_c X) ≤ gv := by rw [← gq_le (a := vt_c X) (b := gv) (by omega) (by omega)]; exact c3
      refine lv_iconst (v := 0) hx hb d_Ru_askEach_46 (by decide) ?_
      refine gh_reti hAe C V hr hlocks d_Ru_askEach_47 (by first | decide | omega | (dsimp only; omega)) (by first | decide | omega | (dsimp only; omega)) ?_
      obtain ⟨hgc, hTe⟩ := hT.1 c1
      exact ⟨φ, b, hR, ⟨by omega, by omega⟩, hfr, Or.inr (Or.inl ⟨0, by rw [hTe, show vt_c X - gv = 0 by omega]; rfl, by omega, rfl, by omega⟩), fun _ => ⟨_, _, _, _, _, _, _, _, va, hs, hva⟩⟩
    · have c3 : ¬ (vt_c X) ≤ gv := by rw [← gq_le (a := vt_c X) (b := gv) (by omega) (by omega)]; exact c3
      refine lv_aload_n hx hb d_Ru_askEach_27 rfl (lv_at hl 1 rfl) ?_
      refine lv_aload_n hx hb d_Ru_askEach_28 rfl (lv_at hl 1 rfl) ?_
      refine gh_get C V hs gc_St gi_St 2 (by decide) f_Ru_81 rfl rfl d_Ru_askEach_29 ?_
      refine gh_get C V h0_2 gc_Va gi_Va 4 (by decide) f_Ru_148 rfl rfl d_Ru_askEach_32 ?_
      refine lv_aload_n hx hb d_Ru_askEach_35 rfl (lv_at hl 1 rfl) ?_
      refine gh_get C V hs gc_St gi_St 6 (by decide) f_Ru_94 rfl rfl d_Ru_askEach_36 ?_
      refine gn_aald (t0 := 4) (i := gv) (v := (B_2 gv)) C V rfl h3_2 (by omega) (by omega) (h5_2 gv (by omega)).1 d_Ru_askEach_39 ?_
      have hgx := cw_item hit.2 (by omega) (h5_2 gv (by omega)).2
      refine gh_callS C V hl.1 m_Ru_gives l_Ru_141 (c_Ru_gives l E _ f ρ Z q0 N cb bg φ b s0 e0 k (B_2 gv) gv _ _ _ _ _ _ _ _ hR hk250 hs) rfl ⟨by first | decide | omega | (dsimp only; omega), by first | decide | omega | (dsimp only; omega)⟩ ⟨by first | decide | omega | (dsimp only; omega), by first | decide | omega | (dsimp only; omega)⟩ (Nat.le_of_ble_eq_true rfl) rfl d_Ru_askEach_40 (fun r g4 H locs hp V => ?_)
      obtain ⟨rfl, hR, hs, hfrg⟩ := hp
      refine W.eq (g2 := F0 m 43 ls [.int 3]) rfl ?_
      have hMg : ∀ a, ρ a = 1000 + k → ¬ rP ρ a := fun a z z2 => by have z2 : ρ a = 0 := z2; omega
      have hfr : gh_fr f g4 (rn_M ρ (20 - (n + 1)) b F) := hfr.tr hfrg (fun a _ _ z => Or.inr (Or.inr (Or.inr (Or.inr ⟨k, hFk, z⟩))))
      have hit := hit.keep hfrg hMg
      have hel := hel.keep hfrg hMg
      refine lv_goto (tgt := 47) hx hb d_Ru_askEach_43 (by decide) ?_
      refine gh_reti hAe C V hr hlocks d_Ru_askEach_47 (by first | decide | omega | (dsimp only; omega)) (by first | decide | omega | (dsimp only; omega)) ?_
      obtain ⟨hgc, hT1⟩ := hT.1 c1
      have hTe : T = sr_cons 0 ((vt_s X gv)) (sr_eac X (vt_c X - (gv + 1)) (gv + 1)) := by rw [hT1, show vt_c X - gv = vt_c X - (gv + 1) + 1 by omega]; rfl
      have hzr1 := hzr
      rw [hTe] at hzr1
      exact ⟨φ, b, hR, ⟨by omega, by omega⟩, hfr, Or.inr (Or.inr (Or.inr ⟨0, (vt_s X gv), sr_eac X (vt_c X - (gv + 1)) (gv + 1), hTe, by omega, rfl, by omega, fun i => F i ∨ (b ≤ i ∧ i < b), rs_mk hs ⟨hk250, hn19, Or.inl hFk⟩ ⟨hqw, hq4, hq6⟩ hit hel (hgx.keep hfrg hMg) hq16 hzr1 hgv (by omega) (by omega) (rs_run_3 hkd ⟨c1, by omega, rfl⟩), fun _ z => z⟩)), fun z => absurd z (rv_ne (by decide))⟩
  · have c1 : (vt_hi X) = false := gh_bi_0 c1
    refine lv_iconst (v := 1) hx hb d_Ru_askEach_10 (by decide) ?_
    refine gh_reti hAe C V hr hlocks d_Ru_askEach_11 (by first | decide | omega | (dsimp only; omega)) (by first | decide | omega | (dsimp only; omega)) ?_
    exact ⟨φ, b, hR, ⟨by omega, by omega⟩, hfr, Or.inr (Or.inr (Or.inl ⟨0, hT.2 c1, by omega, rfl, by omega⟩)), fun z => absurd z (rv_ne (by decide))⟩
