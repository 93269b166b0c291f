/-! askTry, askBoth. Printed by wip/whole/gen_ru4.py. -/
theorem d_Ru_askTry_0 : decode b_Ru_askTry 0 = .ok (.aload_n 0, 1) := by decide +kernel
theorem d_Ru_askTry_1 : decode b_Ru_askTry 1 = .ok (.aload_n 1, 1) := by decide +kernel
theorem d_Ru_askTry_2 : decode b_Ru_askTry 2 = .ok (.invokevirtual 155, 3) := by decide +kernel
theorem d_Ru_askTry_5 : decode b_Ru_askTry 5 = .ok (.istore_n 2, 1) := by decide +kernel
theorem d_Ru_askTry_6 : decode b_Ru_askTry 6 = .ok (.iload_n 2, 1) := by decide +kernel
theorem d_Ru_askTry_7 : decode b_Ru_askTry 7 = .ok (.iconst 1, 1) := by decide +kernel
theorem d_Ru_askTry_8 : decode b_Ru_askTry 8 = .ok (.if_icmp .ne 7, 3) := by decide +kernel
theorem d_Ru_askTry_11 : decode b_Ru_askTry 11 = .ok (.iconst 0, 1) := by decide +kernel
theorem d_Ru_askTry_12 : decode b_Ru_askTry 12 = .ok (.goto 12, 3) := by decide +kernel
theorem d_Ru_askTry_15 : decode b_Ru_askTry 15 = .ok (.aload_n 1, 1) := by decide +kernel
theorem d_Ru_askTry_16 : decode b_Ru_askTry 16 = .ok (.aload_n 1, 1) := by decide +kernel
theorem d_Ru_askTry_17 : decode b_Ru_askTry 17 = .ok (.getfield 87, 3) := by decide +kernel
theorem d_Ru_askTry_20 : decode b_Ru_askTry 20 = .ok (.iload_n 2, 1) := by decide +kernel
theorem d_Ru_askTry_21 : decode b_Ru_askTry 21 = .ok (.invokestatic 151, 3) := by decide +kernel
theorem d_Ru_askTry_24 : decode b_Ru_askTry 24 = .ok (.ireturn, 1) := by decide +kernel
set_option maxHeartbeats 4000000 in
set_option maxRecDepth 100000 in
theorem c_Ru_askTry (l : Launch) (E : gh_E) (sz : Nat) (f : gh_F) (ρ Z : Nat → Nat) (q0 N : Nat) (cb bg : Nat → Nat) (φ b : Nat) (s0 e0 : Int32) (n u k : Nat) (v : vt) (T : sr) (F : Nat → Prop) (pt w9 it el gv pl va : Nat) (X Y : vt) (fi se : Option Nat) (hR : rn_R E ρ Z f q0 N cb bg φ b s0 e0) (hφb : φ + b ≤ 250) (hFb : ∀ j, F j → j < b) (hx9 : rs_x E ρ Z cb bg N f φ n u k v T F pt w9 it el gv pl va X Y fi se) (IH : rk_A l E ρ Z q0 N cb bg n) (hkd : cb pt = 13) : gh_M l y_Ru_askTry b_Ru_askTry 3 (some .int) E sz [.ref (Z 1), .ref (Z (1000 + k))] f { frames := 25 + 6 * n, cells := 3 * (min (sr_c T) φ + u), slots := 39 * (min (sr_c T) φ + u), locals := 870 + 200 * n } (rk_Q E ρ Z q0 N cb bg (n + 1) f φ b s0 e0 k v T F) := by
  obtain ⟨hs, ⟨hk250, hn19, hFk⟩, ⟨hqw, hq4, hq6⟩, ⟨hit, hel, hva⟩, ⟨q9, hq16, hzr, hgv⟩, hst⟩ := hx9
  have hkb := hFb k hFk
  have hptN := (qw_lt hqw).1
  have hX7 := (hit.le).2
  refine gh_open (by decide) (Nat.le_of_ble_eq_true rfl) ?_
  intro p e s m args below meth c A ls hAe C V hr hlocks hname hl
  have hx := C.1
  have hb := C.2.1
  have hl : lv_has ls 3 [(0, .ref (Z 1)), (1, .ref (Z (1000 + k)))] := hl
  have hRc := hR
  obtain ⟨h1R, ⟨hz, ⟨p206, p207⟩, ⟨gS, hgS, hgS2⟩, ⟨gG, hgG, hgG2⟩, hVR, hqR, hcdR, hbaR, hN60, hq0⟩, ⟨hgaV, hgaR⟩, hSR, hnon⟩ := hRc
  obtain ⟨pvsR, hvsR, hnuR, hnoR, hyeR, -⟩ := id hVR
  have hfr : gh_fr f f (rn_M ρ (20 - (n + 1)) b F) := gh_fr.rf
  have hpt60 : pt < 60 := by omega
  obtain ⟨T1, F1, hS1, hF1, hT⟩ : ∃ T1 F1, rk_S E ρ Z cb bg N f φ b n k fi (bg (pt * 3 + 0)) X Y T1 F1 ∧ (∀ i, F1 i → F i) ∧ T = sr_try T1 := by
    rcases hst with ⟨hu, hg0, hp0, hf0, hs0, hv0, hT⟩ | ⟨hu, hg1, hrun⟩
    · exact ⟨_, fun _ => False, Or.inl ⟨hf0, rfl, rs_child hqw (by omega) hq6 hn19 (by rw [hkd]; decide) hX7, fun _ z => z⟩, fun _ z => z.elim, by rw [hT, sr_B_o, sr_part_13 hkd]⟩
    · obtain ⟨j, v1, T1, F1, h1, h2, h3, h4, h5⟩ := hrun.2.2.2.2.2.1 hkd
      exact ⟨T1, F1, Or.inr ⟨j, v1, h1, h2, fun i hi => hFb i (h3 i hi), h4⟩, h3, h5⟩
  have hk1 : ¬ F1 k := by rcases hS1 with ⟨_, _, _, h⟩ | ⟨_, _, _, _, _, h⟩; exact h k; exact h
  have hlb1 : ∀ i, F1 i → i < b := fun i hi => hFb i (hF1 i hi)
  have hcT : sr_c T = sr_c T1 := by rw [hT]; rfl
  refine lv_aload_n hx hb d_Ru_askTry_0 rfl (lv_at hl 0 rfl) ?_
  refine lv_aload_n hx hb d_Ru_askTry_1 rfl (lv_at hl 1 rfl) ?_
  refine gh_callV C V hl.1 m_Ru_askFirst l_Ru_155 (c_Ru_askFirst l E _ f ρ Z q0 N cb bg φ b s0 e0 n k pt it el fi (ro Z se) (.int (nI gv)) (.int (nI pl)) (.ref va) X Y T1 F1 hR (by omega) hn19 (by omega) hpt60 hs hit hel hS1 IH) rfl h1R gc_Ru ⟨by first | decide | omega | (dsimp only; omega), by first | decide | omega | (dsimp only; omega)⟩ ⟨by first | decide | omega | (dsimp only; omega), by first | decide | omega | (dsimp only; omega)⟩ (Nat.le_of_ble_eq_true rfl) rfl d_Ru_askTry_2 (fun r gz1 H locs hp V => ?_)
  obtain ⟨φz1, bz1, foz1, hR, ⟨hbz1, hcz1⟩, hfrz1, hsz1, hPz1⟩ := hp
  have hfr : gh_fr f gz1 (rn_M ρ (20 - (n + 1)) b F) := hfr.tr hfrz1 (fun a _ _ z => rn_M.le (by omega) (fun i hi => Or.inl (by rcases hi with hi | hi; exact hF1 i hi; rw [hi]; exact hFk)) (by omega) a z)
  have hit := hit.keep hfrz1 rn_M.P
  have hel := hel.keep hfrz1 rn_M.P
  have hva := hva.keep hfrz1 rn_M.P
  have hRc := hR
  obtain ⟨h1R, ⟨hz, ⟨p206, p207⟩, ⟨gS, hgS, hgS2⟩, ⟨gG, hgG, hgG2⟩, hVR, hqR, hcdR, hbaR, hN60, hq0⟩, ⟨hgaV, hgaR⟩, hSR, hnon⟩ := hRc
  obtain ⟨pvsR, hvsR, hnuR, hnoR, hyeR, -⟩ := id hVR
  rcases hPz1 with ⟨h1z1, rfl, h3z1⟩ | ⟨dz1, hTz1, hdz1, rfl, h3z1⟩ | ⟨dz1, hTz1, hdz1, rfl, h3z1⟩ | ⟨dz1, xz1, Rz1, hTz1, hdz1, rfl, h3z1, jz1, Fz1, hoz1, hrsz1, hFz1⟩
  · refine W.eq (g2 := F0 m 5 ls [.int 2]) rfl ?_
    refine lv_istore_n hx hb d_Ru_askTry_5 rfl hl (by decide) rfl (fun ls hl => ?_)
    have hl : lv_has ls 3 [(2, .int 2), (0, .ref (Z 1)), (1, .ref (Z (1000 + k)))] := hl
    refine lv_iload_n hx hb d_Ru_askTry_6 rfl (lv_at hl 0 rfl) ?_
    refine lv_iconst (v := 1) hx hb d_Ru_askTry_7 (by decide) ?_
    refine lv_icmp_ne (tgt := 15) hx hb d_Ru_askTry_8 (by decide) (fun c2 => ?_) (fun c2 => absurd c2 (by decide))
    refine lv_aload_n hx hb d_Ru_askTry_15 rfl (lv_at hl 2 rfl) ?_
    refine lv_aload_n hx hb d_Ru_askTry_16 rfl (lv_at hl 2 rfl) ?_
    refine gh_get C V hsz1 gc_St gi_St 4 (by decide) f_Ru_87 rfl rfl d_Ru_askTry_17 ?_
    refine lv_iload_n hx hb d_Ru_askTry_20 rfl (lv_at hl 0 rfl) ?_
    refine gh_callS C V hl.1 m_Ru_passesOn l_Ru_151 (c_Ru_passesOn0 l E _ gz1 (Z (1000 + k)) 2 Z foz1 (by decide)) rfl ⟨by first | decide | omega | (dsimp only; omega), by first | decide | omega | (dsimp only; omega)⟩ ⟨by first | decide | omega | (dsimp only; omega), by first | decide | omega | (dsimp only; omega)⟩ (Nat.le_of_ble_eq_true rfl) rfl d_Ru_askTry_21 (fun r z9 H locs hp V => ?_)
    obtain ⟨rfl, he9⟩ := hp
    rw [he9] at V
    refine W.eq (g2 := F0 m 24 ls [.int 2]) rfl ?_
    refine gh_reti hAe C V hr hlocks d_Ru_askTry_24 (by first | decide | omega | (dsimp only; omega)) (by first | decide | omega | (dsimp only; omega)) ?_
    exact ⟨φz1, bz1, hR, ⟨by omega, by omega⟩, hfr, Or.inl ⟨by omega, rfl, by assumption⟩, fun z => absurd z (rv_ne (by decide))⟩
  · refine W.eq (g2 := F0 m 5 ls [.int 0]) rfl ?_
    refine lv_istore_n hx hb d_Ru_askTry_5 rfl hl (by decide) rfl (fun ls hl => ?_)
    have hl : lv_has ls 3 [(2, .int 0), (0, .ref (Z 1)), (1, .ref (Z (1000 + k)))] := hl
    refine lv_iload_n hx hb d_Ru_askTry_6 rfl (lv_at hl 0 rfl) ?_
    refine lv_iconst (v := 1) hx hb d_Ru_askTry_7 (by decide) ?_
    refine lv_icmp_ne (tgt := 15) hx hb d_Ru_askTry_8 (by decide) (fun c3 => ?_) (fun c3 => absurd c3 (by decide))
    refine lv_aload_n hx hb d_Ru_askTry_15 rfl (lv_at hl 2 rfl) ?_
    refine lv_aload_n hx hb d_Ru_askTry_16 rfl (lv_at hl 2 rfl) ?_
    refine gh_get C V hsz1 gc_St gi_St 4 (by decide) f_Ru_87 rfl rfl d_Ru_askTry_17 ?_
    refine lv_iload_n hx hb d_Ru_askTry_20 rfl (lv_at hl 0 rfl) ?_
    refine gh_callS C V hl.1 m_Ru_passesOn l_Ru_151 (c_Ru_passesOn0 l E _ gz1 (Z (1000 + k)) 0 Z foz1 (by decide)) rfl ⟨by first | decide | omega | (dsimp only; omega), by first | decide | omega | (dsimp only; omega)⟩ ⟨by first | decide | omega | (dsimp only; omega), by first | decide | omega | (dsimp only; omega)⟩ (Nat.le_of_ble_eq_true rfl) rfl d_Ru_askTry_21 (fun r z9 H locs hp V => ?_)
    obtain ⟨rfl, he9⟩ := hp
    rw [he9] at V
    refine W.eq (g2 := F0 m 24 ls [.int 0]) rfl ?_
    refine gh_reti hAe C V hr hlocks d_Ru_askTry_24 (by first | decide | omega | (dsimp only; omega)) (by first | decide | omega | (dsimp only; omega)) ?_
    exact ⟨φz1, bz1, hR, ⟨by omega, by omega⟩, hfr, Or.inr (Or.inl ⟨dz1, by rw [hT, hTz1]; rfl, by omega, rfl, by omega⟩), fun _ => ⟨_, _, _, _, _, _, _, _, va, hsz1, hva⟩⟩
  · refine W.eq (g2 := F0 m 5 ls [.int 1]) rfl ?_
    refine lv_istore_n hx hb d_Ru_askTry_5 rfl hl (by decide) rfl (fun ls hl => ?_)
    have hl : lv_has ls 3 [(2, .int 1), (0, .ref (Z 1)), (1, .ref (Z (1000 + k)))] := hl
    refine lv_iload_n hx hb d_Ru_askTry_6 rfl (lv_at hl 0 rfl) ?_
    refine lv_iconst (v := 1) hx hb d_Ru_askTry_7 (by decide) ?_
    refine lv_icmp_ne (tgt := 15) hx hb d_Ru_askTry_8 (by decide) (fun c4 => absurd (by decide) c4) (fun c4 => ?_)
    refine lv_iconst (v := 0) hx hb d_Ru_askTry_11 (by decide) ?_
    refine lv_goto (tgt := 24) hx hb d_Ru_askTry_12 (by decide) ?_
    refine gh_reti hAe C V hr hlocks d_Ru_askTry_24 (by first | decide | omega | (dsimp only; omega)) (by first | decide | omega | (dsimp only; omega)) ?_
    exact ⟨φz1, bz1, hR, ⟨by omega, by omega⟩, hfr, Or.inr (Or.inl ⟨dz1, by rw [hT, hTz1]; rfl, by omega, rfl, by omega⟩), fun _ => ⟨_, _, _, _, _, _, _, _, va, hsz1, hva⟩⟩
  · subst hoz1
    obtain ⟨yz1_0, yz1_1, yz1_2, yz1_3, yz1_4, yz1_5, yz1_6, yz1_7, az1, hjz1, hxz1, hlz1, hFjz1⟩ := hrsz1.val
    have hltz1 : ∀ i, Fz1 i → i < 250 := fun i hi => by rcases hFz1 i hi with z | z; have := hlb1 i z; omega; omega
    have hnkz1 : ¬ Fz1 k := fun z => by rcases hFz1 k z with z | z; exact hk1 z; omega
    refine W.eq (g2 := F0 m 5 ls [.int 3]) rfl ?_
    refine lv_istore_n hx hb d_Ru_askTry_5 rfl hl (by decide) rfl (fun ls hl => ?_)
    have hl : lv_has ls 3 [(2, .int 3), (0, .ref (Z 1)), (1, .ref (Z (1000 + k)))] := hl
    refine lv_iload_n hx hb d_Ru_askTry_6 rfl (lv_at hl 0 rfl) ?_
    refine lv_iconst (v := 1) hx hb d_Ru_askTry_7 (by decide) ?_
    refine lv_icmp_ne (tgt := 15) hx hb d_Ru_askTry_8 (by decide) (fun c5 => ?_) (fun c5 => absurd c5 (by decide))
    refine lv_aload_n hx hb d_Ru_askTry_15 rfl (lv_at hl 2 rfl) ?_
    refine lv_aload_n hx hb d_Ru_askTry_16 rfl (lv_at hl 2 rfl) ?_
    refine gh_get C V hsz1 gc_St gi_St 4 (by decide) f_Ru_87 rfl rfl d_Ru_askTry_17 ?_
    refine lv_iload_n hx hb d_Ru_askTry_20 rfl (lv_at hl 0 rfl) ?_
    refine gh_callS C V hl.1 m_Ru_passesOn l_Ru_151 (c_Ru_passesOn l E _ gz1 ρ Z q0 N cb bg φz1 bz1 s0 e0 k az1 gv _ _ _ _ _ _ _ _ jz1 _ _ _ _ _ _ _ _ hR hk250 hsz1 hjz1) rfl ⟨by first | decide | omega | (dsimp only; omega), by first | decide | omega | (dsimp only; omega)⟩ ⟨by first | decide | omega | (dsimp only; omega), by first | decide | omega | (dsimp only; omega)⟩ (Nat.le_of_ble_eq_true rfl) rfl d_Ru_askTry_21 (fun r g6 H locs hp V => ?_)
    obtain ⟨rfl, hR, hs, hfrg⟩ := hp
    refine W.eq (g2 := F0 m 24 ls [.int 3]) rfl ?_
    have hMg : ∀ a, ρ a = 1000 + k → ¬ rP ρ a := fun a z z2 => by have z2 : ρ a = 0 := z2; omega
    have hfr : gh_fr f g6 (rn_M ρ (20 - (n + 1)) b F) := hfr.tr hfrg (fun a _ _ z => Or.inr (Or.inr (Or.inr (Or.inr ⟨k, hFk, z⟩))))
    have hit := hit.keep hfrg hMg
    have hel := hel.keep hfrg hMg
    refine gh_reti hAe C V hr hlocks d_Ru_askTry_24 (by first | decide | omega | (dsimp only; omega)) (by first | decide | omega | (dsimp only; omega)) ?_
    have hTe : T = sr_cons dz1 xz1 (sr_try Rz1) := by rw [hT, hTz1]; rfl
    have hzr1 := hzr
    rw [hTe] at hzr1
    exact ⟨φz1, bz1, hR, ⟨by omega, by omega⟩, hfr, Or.inr (Or.inr (Or.inr ⟨dz1, xz1, sr_try Rz1, hTe, by omega, rfl, by omega, fun i => F i ∨ (b ≤ i ∧ i < bz1), rs_mk hs ⟨hk250, hn19, Or.inl hFk⟩ ⟨hqw, hq4, hq6⟩ hit hel (hxz1.keep hfrg hMg) hq16 hzr1 hgv (by omega) (by omega) (rs_run_13 hkd ⟨jz1, xz1, Rz1, Fz1, rfl, (hrsz1.keep hfrg hMg (Nat.le_refl _) (fun i hi z => by have e9 := hz (1000 + i) (by unfold rU; have := hltz1 i hi; omega); have z : ρ (Z (1000 + i)) = 1000 + k := z; exact hnkz1 ((show i = k by omega) ▸ hi))), fun i hi => by rcases hFz1 i hi with z | z; exact Or.inl (hF1 i z); exact Or.inr (by omega), hnkz1, rfl⟩), fun _ z => z⟩)), fun z => absurd z (rv_ne (by decide))⟩
theorem d_Ru_askBoth_0 : decode b_Ru_askBoth 0 = .ok (.aload_n 1, 1) := by decide +kernel
theorem d_Ru_askBoth_1 : decode b_Ru_askBoth 1 = .ok (.getfield 91, 3) := by decide +kernel
theorem d_Ru_askBoth_4 : decode b_Ru_askBoth 4 = .ok (.ifnonnull 23, 3) := by decide +kernel
theorem d_Ru_askBoth_7 : decode b_Ru_askBoth 7 = .ok (.aload_n 0, 1) := by decide +kernel
theorem d_Ru_askBoth_8 : decode b_Ru_askBoth 8 = .ok (.aload_n 1, 1) := by decide +kernel
theorem d_Ru_askBoth_9 : decode b_Ru_askBoth 9 = .ok (.invokevirtual 155, 3) := by decide +kernel
theorem d_Ru_askBoth_12 : decode b_Ru_askBoth 12 = .ok (.istore_n 2, 1) := by decide +kernel
theorem d_Ru_askBoth_13 : decode b_Ru_askBoth 13 = .ok (.iload_n 2, 1) := by decide +kernel
theorem d_Ru_askBoth_14 : decode b_Ru_askBoth 14 = .ok (.ifCond .eq 13, 3) := by decide +kernel
theorem d_Ru_askBoth_17 : decode b_Ru_askBoth 17 = .ok (.aload_n 1, 1) := by decide +kernel
theorem d_Ru_askBoth_18 : decode b_Ru_askBoth 18 = .ok (.aload_n 1, 1) := by decide +kernel
theorem d_Ru_askBoth_19 : decode b_Ru_askBoth 19 = .ok (.getfield 87, 3) := by decide +kernel
theorem d_Ru_askBoth_22 : decode b_Ru_askBoth 22 = .ok (.iload_n 2, 1) := by decide +kernel
theorem d_Ru_askBoth_23 : decode b_Ru_askBoth 23 = .ok (.invokestatic 151, 3) := by decide +kernel
theorem d_Ru_askBoth_26 : decode b_Ru_askBoth 26 = .ok (.ireturn, 1) := by decide +kernel
theorem d_Ru_askBoth_27 : decode b_Ru_askBoth 27 = .ok (.aload_n 0, 1) := by decide +kernel
theorem d_Ru_askBoth_28 : decode b_Ru_askBoth 28 = .ok (.aload_n 1, 1) := by decide +kernel
theorem d_Ru_askBoth_29 : decode b_Ru_askBoth 29 = .ok (.invokevirtual 158, 3) := by decide +kernel
theorem d_Ru_askBoth_32 : decode b_Ru_askBoth 32 = .ok (.istore_n 2, 1) := by decide +kernel
theorem d_Ru_askBoth_33 : decode b_Ru_askBoth 33 = .ok (.aload_n 1, 1) := by decide +kernel
theorem d_Ru_askBoth_34 : decode b_Ru_askBoth 34 = .ok (.aload_n 1, 1) := by decide +kernel
theorem d_Ru_askBoth_35 : decode b_Ru_askBoth 35 = .ok (.getfield 91, 3) := by decide +kernel
theorem d_Ru_askBoth_38 : decode b_Ru_askBoth 38 = .ok (.iload_n 2, 1) := by decide +kernel
theorem d_Ru_askBoth_39 : decode b_Ru_askBoth 39 = .ok (.invokestatic 151, 3) := by decide +kernel
theorem d_Ru_askBoth_42 : decode b_Ru_askBoth 42 = .ok (.ireturn, 1) := by decide +kernel
set_option maxHeartbeats 4000000 in
set_option maxRecDepth 100000 in
theorem c_Ru_askBoth (l : Launch) (E : gh_E) (sz : Nat) (f : gh_F) (ρ Z : Nat → Nat) (q0 N : Nat) (cb bg : Nat → Nat) (φ b : Nat) (s0 e0 : Int32) (n u k : Nat) (v : vt) (T : sr) (F : Nat → Prop) (pt w9 it el gv pl va : Nat) (X Y : vt) (fi se : Option Nat) (hR : rn_R E ρ Z f q0 N cb bg φ b s0 e0) (hφb : φ + b ≤ 250) (hFb : ∀ j, F j → j < b) (hx9 : rs_x E ρ Z cb bg N f φ n u k v T F pt w9 it el gv pl va X Y fi se) (IH : rk_A l E ρ Z q0 N cb bg n) (hkd : cb pt = 9) : gh_M l y_Ru_askBoth b_Ru_askBoth 3 (some .int) E sz [.ref (Z 1), .ref (Z (1000 + k))] f { frames := 25 + 6 * n, cells := 3 * (min (sr_c T) φ + u), slots := 39 * (min (sr_c T) φ + u), locals := 870 + 200 * n } (rk_Q E ρ Z q0 N cb bg (n + 1) f φ b s0 e0 k v T F) := by
  obtain ⟨hs, ⟨hk250, hn19, hFk⟩, ⟨hqw, hq4, hq6⟩, ⟨hit, hel, hva⟩, ⟨q9, hq16, hzr, hgv⟩, hst⟩ := hx9
  have hkb := hFb k hFk
  have hptN := (qw_lt hqw).1
  have hX7 := (hit.le).2
  refine gh_open (by decide) (Nat.le_of_ble_eq_true rfl) ?_
  intro p e s m args below meth c A ls hAe C V hr hlocks hname hl
  have hx := C.1
  have hb := C.2.1
  have hl : lv_has ls 3 [(0, .ref (Z 1)), (1, .ref (Z (1000 + k)))] := hl
  have hRc := hR
  obtain ⟨h1R, ⟨hz, ⟨p206, p207⟩, ⟨gS, hgS, hgS2⟩, ⟨gG, hgG, hgG2⟩, hVR, hqR, hcdR, hbaR, hN60, hq0⟩, ⟨hgaV, hgaR⟩, hSR, hnon⟩ := hRc
  obtain ⟨pvsR, hvsR, hnuR, hnoR, hyeR, -⟩ := id hVR
  have hfr : gh_fr f f (rn_M ρ (20 - (n + 1)) b F) := gh_fr.rf
  have hpt60 : pt < 60 := by omega
  have hsl : (se = none ∧ ∃ T1 F1, rk_S E ρ Z cb bg N f φ b n k fi (bg (pt * 3 + 0)) X Y T1 F1 ∧ (∀ i, F1 i → F i) ∧ ¬ F1 k ∧ T = sr_seq T1 (sr_D cb bg n (bg (pt * 3 + 1)) X Y)) ∨ ∃ j2 v2 F2, se = some j2 ∧ rs E ρ Z cb bg N f φ n 0 j2 v2 T F2 ∧ (∀ i, F2 i → F i) ∧ ¬ F2 k := by
    rcases hst with ⟨hu, hg0, hp0, hf0, hs0, hv0, hT⟩ | ⟨hu, hg1, hrun⟩
    · exact Or.inl ⟨hs0, _, fun _ => False, Or.inl ⟨hf0, rfl, rs_child hqw (by omega) hq6 hn19 (by rw [hkd]; decide) hX7, fun _ z => z⟩, fun _ z => z.elim, fun z => z, by rw [hT, sr_B_o, sr_part_9 hkd]⟩
    · rcases hrun.2.2.2.1 hkd with ⟨hs0, j, v1, T1, F1, h1, h2, h3, h4, h5⟩ | ⟨j, v1, T1, F1, h1, h2, h3, h4, h5⟩
      · exact Or.inl ⟨hs0, T1, F1, Or.inr ⟨j, v1, h1, h2, fun i hi => hFb i (h3 i hi), h4⟩, h3, h4, h5⟩
      · exact Or.inr ⟨j, v1, F1, h1, by rw [h5]; exact h2, h3, h4⟩
  rcases hsl with ⟨hse, T1, F1, hS1, hF1, hk1, hT⟩ | ⟨j2, v2, F2, hse, hrs2, hF2, hk2⟩
  · subst hse
    have hs : f (Z (1000 + k)) = some (.inr (5, [.int (nI pt), .int (nI (19 - n)), .ref it, .ref el, ro Z fi, .null, .int (nI gv), .int (nI pl), .ref va])) := hs
    have hcT0 : sr_c T1 ≤ sr_c T := by rw [hT]; exact sr_seq_c
    refine lv_aload_n hx hb d_Ru_askBoth_0 rfl (lv_at hl 1 rfl) ?_
    refine gh_get C V hs gc_St gi_St 5 (by decide) f_Ru_91 rfl rfl d_Ru_askBoth_1 ?_
    refine lv_ifnonnullN hx hb d_Ru_askBoth_4 ?_
    refine lv_aload_n hx hb d_Ru_askBoth_7 rfl (lv_at hl 0 rfl) ?_
    refine lv_aload_n hx hb d_Ru_askBoth_8 rfl (lv_at hl 1 rfl) ?_
    refine gh_callV C V hl.1 m_Ru_askFirst l_Ru_155 (c_Ru_askFirst l E _ f ρ Z q0 N cb bg φ b s0 e0 n k pt it el fi .null (.int (nI gv)) (.int (nI pl)) (.ref va) X Y T1 F1 hR (by omega) hn19 (by omega) hpt60 hs hit hel hS1 IH) rfl h1R gc_Ru ⟨by first | decide | omega | (dsimp only; omega), by first | decide | omega | (dsimp only; omega)⟩ ⟨by first | decide | omega | (dsimp only; omega), by first | decide | omega | (dsimp only; omega)⟩ (Nat.le_of_ble_eq_true rfl) rfl d_Ru_askBoth_9 (fun r gz1 H locs hp V => ?_)
    obtain ⟨φz1, bz1, foz1, hR, ⟨hbz1, hcz1⟩, hfrz1, hsz1, hPz1⟩ := hp
    have hfr : gh_fr f gz1 (rn_M ρ (20 - (n + 1)) b F) := hfr.tr hfrz1 (fun a _ _ z => rn_M.le (by omega) (fun i hi => Or.inl (by rcases hi with hi | hi; exact hF1 i hi; rw [hi]; exact hFk)) (by omega) a z)
    have hit := hit.keep hfrz1 rn_M.P
    have hel := hel.keep hfrz1 rn_M.P
    have hva := hva.keep hfrz1 rn_M.P
    have hRc := hR
    obtain ⟨h1R, ⟨hz, ⟨p206, p207⟩, ⟨gS, hgS, hgS2⟩, ⟨gG, hgG, hgG2⟩, hVR, hqR, hcdR, hbaR, hN60, hq0⟩, ⟨hgaV, hgaR⟩, hSR, hnon⟩ := hRc
    obtain ⟨pvsR, hvsR, hnuR, hnoR, hyeR, -⟩ := id hVR
    rcases hPz1 with ⟨h1z1, rfl, h3z1⟩ | ⟨dz1, hTz1, hdz1, rfl, h3z1⟩ | ⟨dz1, hTz1, hdz1, rfl, h3z1⟩ | ⟨dz1, xz1, Rz1, hTz1, hdz1, rfl, h3z1, jz1, Fz1, hoz1, hrsz1, hFz1⟩
    · have hcT : sr_c T1 ≤ sr_c T := by rw [hT]; exact sr_seq_c
      refine W.eq (g2 := F0 m 12 ls [.int 2]) rfl ?_
      refine lv_istore_n hx hb d_Ru_askBoth_12 rfl hl (by decide) rfl (fun ls hl => ?_)
      have hl : lv_has ls 3 [(2, .int 2), (0, .ref (Z 1)), (1, .ref (Z (1000 + k)))] := hl
      refine lv_iload_n hx hb d_Ru_askBoth_13 rfl (lv_at hl 0 rfl) ?_
      refine lv_if_eq (tgt := 27) hx hb d_Ru_askBoth_14 (by decide) (fun c2 => absurd c2 (by decide)) (fun c2 => ?_)
      refine lv_aload_n hx hb d_Ru_askBoth_17 rfl (lv_at hl 2 rfl) ?_
      refine lv_aload_n hx hb d_Ru_askBoth_18 rfl (lv_at hl 2 rfl) ?_
      refine gh_get C V hsz1 gc_St gi_St 4 (by decide) f_Ru_87 rfl rfl d_Ru_askBoth_19 ?_
      refine lv_iload_n hx hb d_Ru_askBoth_22 rfl (lv_at hl 0 rfl) ?_
      refine gh_callS C V hl.1 m_Ru_passesOn l_Ru_151 (c_Ru_passesOn0 l E _ gz1 (Z (1000 + k)) 2 Z foz1 (by decide)) rfl ⟨by first | decide | omega | (dsimp only; omega), by first | decide | omega | (dsimp only; omega)⟩ ⟨by first | decide | omega | (dsimp only; omega), by first | decide | omega | (dsimp only; omega)⟩ (Nat.le_of_ble_eq_true rfl) rfl d_Ru_askBoth_23 (fun r z9 H locs hp V => ?_)
      obtain ⟨rfl, he9⟩ := hp
      rw [he9] at V
      refine W.eq (g2 := F0 m 26 ls [.int 2]) rfl ?_
      refine gh_reti hAe C V hr hlocks d_Ru_askBoth_26 (by first | decide | omega | (dsimp only; omega)) (by first | decide | omega | (dsimp only; omega)) ?_
      exact ⟨φz1, bz1, hR, ⟨by omega, by omega⟩, hfr, Or.inl ⟨by omega, rfl, by assumption⟩, fun z => absurd z (rv_ne (by decide))⟩
    · have hcT1 : sr_c T1 = dz1 := by rw [hTz1]; rfl
      have hcT : sr_c T = dz1 + sr_c (sr_D cb bg n (bg (pt * 3 + 1)) X Y) := by rw [hT, hTz1, sr_seq_end, sr_c_add]
      have hS2 : rk_S E ρ Z cb bg N gz1 φz1 bz1 n k none (bg (pt * 3 + 1)) X Y (sr_D cb bg n (bg (pt * 3 + 1)) X Y) (fun _ => False) := Or.inl ⟨rfl, rfl, rs_child hqw (by omega) hq6 hn19 (by rw [hkd]; decide) hX7, fun _ z => z⟩
      have hF2 : ∀ i, (fun _ => False) i → F i := fun _ z => False.elim z
      have hk2 : ¬ (fun _ : Nat => False) k := fun z => z
      refine W.eq (g2 := F0 m 12 ls [.int 0]) rfl ?_
      refine lv_istore_n hx hb d_Ru_askBoth_12 rfl hl (by decide) rfl (fun ls hl => ?_)
      have hl : lv_has ls 3 [(2, .int 0), (0, .ref (Z 1)), (1, .ref (Z (1000 + k)))] := hl
      refine lv_iload_n hx hb d_Ru_askBoth_13 rfl (lv_at hl 0 rfl) ?_
      refine lv_if_eq (tgt := 27) hx hb d_Ru_askBoth_14 (by decide) (fun c3 => ?_) (fun c3 => absurd (by decide) c3)
      refine lv_aload_n hx hb d_Ru_askBoth_27 rfl (lv_at hl 1 rfl) ?_
      refine lv_aload_n hx hb d_Ru_askBoth_28 rfl (lv_at hl 2 rfl) ?_
      refine gh_callV C V hl.1 m_Ru_askSecond l_Ru_158 (c_Ru_askSecond l E _ gz1 ρ Z q0 N cb bg φz1 bz1 s0 e0 n k pt it el none (ro Z foz1) (.int (nI gv)) (.int (nI pl)) (.ref va) X Y (sr_D cb bg n (bg (pt * 3 + 1)) X Y) (fun _ => False) hR (by omega) hn19 (by omega) hpt60 hsz1 hit hel hS2 IH) rfl h1R gc_Ru ⟨by first | decide | omega | (dsimp only; omega), by first | decide | omega | (dsimp only; omega)⟩ ⟨by first | decide | omega | (dsimp only; omega), by first | decide | omega | (dsimp only; omega)⟩ (Nat.le_of_ble_eq_true rfl) rfl d_Ru_askBoth_29 (fun r gz4 H locs hp V => ?_)
      obtain ⟨φz4, bz4, foz4, hR, ⟨hbz4, hcz4⟩, hfrz4, hsz4, hPz4⟩ := hp
      have hfr : gh_fr f gz4 (rn_M ρ (20 - (n + 1)) b F) := hfr.tr hfrz4 (fun a _ _ z => rn_M.le (by omega) (fun i hi => Or.inl (by rcases hi with hi | hi; exact hF2 i hi; rw [hi]; exact hFk)) (by omega) a z)
      have hit := hit.keep hfrz4 rn_M.P
      have hel := hel.keep hfrz4 rn_M.P
      have hva := hva.keep hfrz4 rn_M.P
      have hRc := hR
      obtain ⟨h1R, ⟨hz, ⟨p206, p207⟩, ⟨gS, hgS, hgS2⟩, ⟨gG, hgG, hgG2⟩, hVR, hqR, hcdR, hbaR, hN60, hq0⟩, ⟨hgaV, hgaR⟩, hSR, hnon⟩ := hRc
      obtain ⟨pvsR, hvsR, hnuR, hnoR, hyeR, -⟩ := id hVR
      rcases hPz4 with ⟨h1z4, rfl, h3z4⟩ | ⟨dz4, hTz4, hdz4, rfl, h3z4⟩ | ⟨dz4, hTz4, hdz4, rfl, h3z4⟩ | ⟨dz4, xz4, Rz4, hTz4, hdz4, rfl, h3z4, jz4, Fz4, hoz4, hrsz4, hFz4⟩
      · refine W.eq (g2 := F0 m 32 ls [.int 2]) rfl ?_
        refine lv_istore_n hx hb d_Ru_askBoth_32 rfl hl (by decide) rfl (fun ls hl => ?_)
        have hl : lv_has ls 3 [(2, .int 2), (0, .ref (Z 1)), (1, .ref (Z (1000 + k)))] := hl
        refine lv_aload_n hx hb d_Ru_askBoth_33 rfl (lv_at hl 2 rfl) ?_
        refine lv_aload_n hx hb d_Ru_askBoth_34 rfl (lv_at hl 2 rfl) ?_
        refine gh_get C V hsz4 gc_St gi_St 5 (by decide) f_Ru_91 rfl rfl d_Ru_askBoth_35 ?_
        refine lv_iload_n hx hb d_Ru_askBoth_38 rfl (lv_at hl 0 rfl) ?_
        refine gh_callS C V hl.1 m_Ru_passesOn l_Ru_151 (c_Ru_passesOn0 l E _ gz4 (Z (1000 + k)) 2 Z foz4 (by decide)) rfl ⟨by first | decide | omega | (dsimp only; omega), by first | decide | omega | (dsimp only; omega)⟩ ⟨by first | decide | omega | (dsimp only; omega), by first | decide | omega | (dsimp only; omega)⟩ (Nat.le_of_ble_eq_true rfl) rfl d_Ru_askBoth_39 (fun r z9 H locs hp V => ?_)
        obtain ⟨rfl, he9⟩ := hp
        rw [he9] at V
        refine W.eq (g2 := F0 m 42 ls [.int 2]) rfl ?_
        refine gh_reti hAe C V hr hlocks d_Ru_askBoth_42 (by first | decide | omega | (dsimp only; omega)) (by first | decide | omega | (dsimp only; omega)) ?_
        exact ⟨φz4, bz4, hR, ⟨by omega, by omega⟩, hfr, Or.inl ⟨by omega, rfl, by assumption⟩, fun z => absurd z (rv_ne (by decide))⟩
      · refine W.eq (g2 := F0 m 32 ls [.int 0]) rfl ?_
        refine lv_istore_n hx hb d_Ru_askBoth_32 rfl hl (by decide) rfl (fun ls hl => ?_)
        have hl : lv_has ls 3 [(2, .int 0), (0, .ref (Z 1)), (1, .ref (Z (1000 + k)))] := hl
        refine lv_aload_n hx hb d_Ru_askBoth_33 rfl (lv_at hl 2 rfl) ?_
        refine lv_aload_n hx hb d_Ru_askBoth_34 rfl (lv_at hl 2 rfl) ?_
        refine gh_get C V hsz4 gc_St gi_St 5 (by decide) f_Ru_91 rfl rfl d_Ru_askBoth_35 ?_
        refine lv_iload_n hx hb d_Ru_askBoth_38 rfl (lv_at hl 0 rfl) ?_
        refine gh_callS C V hl.1 m_Ru_passesOn l_Ru_151 (c_Ru_passesOn0 l E _ gz4 (Z (1000 + k)) 0 Z foz4 (by decide)) rfl ⟨by first | decide | omega | (dsimp only; omega), by first | decide | omega | (dsimp only; omega)⟩ ⟨by first | decide | omega | (dsimp only; omega), by first | decide | omega | (dsimp only; omega)⟩ (Nat.le_of_ble_eq_true rfl) rfl d_Ru_askBoth_39 (fun r z9 H locs hp V => ?_)
        obtain ⟨rfl, he9⟩ := hp
        rw [he9] at V
        refine W.eq (g2 := F0 m 42 ls [.int 0]) rfl ?_
        refine gh_reti hAe C V hr hlocks d_Ru_askBoth_42 (by first | decide | omega | (dsimp only; omega)) (by first | decide | omega | (dsimp only; omega)) ?_
        exact ⟨φz4, bz4, hR, ⟨by omega, by omega⟩, hfr, Or.inr (Or.inl ⟨dz1 + dz4, by rw [hT, hTz1, sr_seq_end, hTz4]; rfl, by omega, rfl, by omega⟩), fun _ => ⟨_, _, _, _, _, _, _, _, va, hsz4, hva⟩⟩
      · refine W.eq (g2 := F0 m 32 ls [.int 1]) rfl ?_
        refine lv_istore_n hx hb d_Ru_askBoth_32 rfl hl (by decide) rfl (fun ls hl => ?_)
        have hl : lv_has ls 3 [(2, .int 1), (0, .ref (Z 1)), (1, .ref (Z (1000 + k)))] := hl
        refine lv_aload_n hx hb d_Ru_askBoth_33 rfl (lv_at hl 2 rfl) ?_
        refine lv_aload_n hx hb d_Ru_askBoth_34 rfl (lv_at hl 2 rfl) ?_
        refine gh_get C V hsz4 gc_St gi_St 5 (by decide) f_Ru_91 rfl rfl d_Ru_askBoth_35 ?_
        refine lv_iload_n hx hb d_Ru_askBoth_38 rfl (lv_at hl 0 rfl) ?_
        refine gh_callS C V hl.1 m_Ru_passesOn l_Ru_151 (c_Ru_passesOn0 l E _ gz4 (Z (1000 + k)) 1 Z foz4 (by decide)) rfl ⟨by first | decide | omega | (dsimp only; omega), by first | decide | omega | (dsimp only; omega)⟩ ⟨by first | decide | omega | (dsimp only; omega), by first | decide | omega | (dsimp only; omega)⟩ (Nat.le_of_ble_eq_true rfl) rfl d_Ru_askBoth_39 (fun r z9 H locs hp V => ?_)
        obtain ⟨rfl, he9⟩ := hp
        rw [he9] at V
        refine W.eq (g2 := F0 m 42 ls [.int 1]) rfl ?_
        refine gh_reti hAe C V hr hlocks d_Ru_askBoth_42 (by first | decide | omega | (dsimp only; omega)) (by first | decide | omega | (dsimp only; omega)) ?_
        exact ⟨φz4, bz4, hR, ⟨by omega, by omega⟩, hfr, Or.inr (Or.inr (Or.inl ⟨dz1 + dz4, by rw [hT, hTz1, sr_seq_end, hTz4]; rfl, by omega, rfl, by omega⟩)), fun z => absurd z (rv_ne (by decide))⟩
      · subst hoz4
        obtain ⟨yz4_0, yz4_1, yz4_2, yz4_3, yz4_4, yz4_5, yz4_6, yz4_7, az4, hjz4, hxz4, hlz4, hFjz4⟩ := hrsz4.val
        have hltz4 : ∀ i, Fz4 i → i < 250 := fun i hi => by rcases hFz4 i hi with z | z; have := hFb i (hF2 i z); omega; omega
        have hnkz4 : ¬ Fz4 k := fun z => by rcases hFz4 k z with z | z; exact hk2 z; omega
        refine W.eq (g2 := F0 m 32 ls [.int 3]) rfl ?_
        refine lv_istore_n hx hb d_Ru_askBoth_32 rfl hl (by decide) rfl (fun ls hl => ?_)
        have hl : lv_has ls 3 [(2, .int 3), (0, .ref (Z 1)), (1, .ref (Z (1000 + k)))] := hl
        refine lv_aload_n hx hb d_Ru_askBoth_33 rfl (lv_at hl 2 rfl) ?_
        refine lv_aload_n hx hb d_Ru_askBoth_34 rfl (lv_at hl 2 rfl) ?_
        refine gh_get C V hsz4 gc_St gi_St 5 (by decide) f_Ru_91 rfl rfl d_Ru_askBoth_35 ?_
        refine lv_iload_n hx hb d_Ru_askBoth_38 rfl (lv_at hl 0 rfl) ?_
        refine gh_callS C V hl.1 m_Ru_passesOn l_Ru_151 (c_Ru_passesOn l E _ gz4 ρ Z q0 N cb bg φz4 bz4 s0 e0 k az4 gv _ _ _ _ _ _ _ _ jz4 _ _ _ _ _ _ _ _ hR hk250 hsz4 hjz4) rfl ⟨by first | decide | omega | (dsimp only; omega), by first | decide | omega | (dsimp only; omega)⟩ ⟨by first | decide | omega | (dsimp only; omega), by first | decide | omega | (dsimp only; omega)⟩ (Nat.le_of_ble_eq_true rfl) rfl d_Ru_askBoth_39 (fun r g5 H locs hp V => ?_)
        obtain ⟨rfl, hR, hs, hfrg⟩ := hp
        refine W.eq (g2 := F0 m 42 ls [.int 3]) rfl ?_
        have hMg : ∀ a, ρ a = 1000 + k → ¬ rP ρ a := fun a z z2 => by have z2 : ρ a = 0 := z2; omega
        have hfr : gh_fr f g5 (rn_M ρ (20 - (n + 1)) b F) := hfr.tr hfrg (fun a _ _ z => Or.inr (Or.inr (Or.inr (Or.inr ⟨k, hFk, z⟩))))
        have hit := hit.keep hfrg hMg
        have hel := hel.keep hfrg hMg
        refine gh_reti hAe C V hr hlocks d_Ru_askBoth_42 (by first | decide | omega | (dsimp only; omega)) (by first | decide | omega | (dsimp only; omega)) ?_
        have hTe : T = sr_cons (dz1 + dz4) xz4 (Rz4) := by rw [hT, hTz1, sr_seq_end, hTz4]; rfl
        have hzr1 := hzr
        rw [hTe] at hzr1
        exact ⟨φz4, bz4, hR, ⟨by omega, by omega⟩, hfr, Or.inr (Or.inr (Or.inr ⟨dz1 + dz4, xz4, Rz4, hTe, by omega, rfl, by omega, fun i => F i ∨ (b ≤ i ∧ i < bz4), rs_mk hs ⟨hk250, hn19, Or.inl hFk⟩ ⟨hqw, hq4, hq6⟩ hit hel (hxz4.keep hfrg hMg) hq16 hzr1 hgv (by omega) (by omega) (rs_run_9 hkd (Or.inr ⟨jz4, xz4, Rz4, Fz4, rfl, (hrsz4.keep hfrg hMg (Nat.le_refl _) (fun i hi z => by have e9 := hz (1000 + i) (by unfold rU; have := hltz4 i hi; omega); have z : ρ (Z (1000 + i)) = 1000 + k := z; exact hnkz4 ((show i = k by omega) ▸ hi))), fun i hi => by rcases hFz4 i hi with z | z; exact Or.inl (hF2 i z); exact Or.inr (by omega), hnkz4, rfl⟩)), fun _ z => z⟩)), fun z => absurd z (rv_ne (by decide))⟩
    · refine W.eq (g2 := F0 m 12 ls [.int 1]) rfl ?_
      refine lv_istore_n hx hb d_Ru_askBoth_12 rfl hl (by decide) rfl (fun ls hl => ?_)
      have hl : lv_has ls 3 [(2, .int 1), (0, .ref (Z 1)), (1, .ref (Z (1000 + k)))] := hl
      refine lv_iload_n hx hb d_Ru_askBoth_13 rfl (lv_at hl 0 rfl) ?_
      refine lv_if_eq (tgt := 27) hx hb d_Ru_askBoth_14 (by decide) (fun c6 => absurd c6 (by decide)) (fun c6 => ?_)
      refine lv_aload_n hx hb d_Ru_askBoth_17 rfl (lv_at hl 2 rfl) ?_
      refine lv_aload_n hx hb d_Ru_askBoth_18 rfl (lv_at hl 2 rfl) ?_
      refine gh_get C V hsz1 gc_St gi_St 4 (by decide) f_Ru_87 rfl rfl d_Ru_askBoth_19 ?_
      refine lv_iload_n hx hb d_Ru_askBoth_22 rfl (lv_at hl 0 rfl) ?_
      refine gh_callS C V hl.1 m_Ru_passesOn l_Ru_151 (c_Ru_passesOn0 l E _ gz1 (Z (1000 + k)) 1 Z foz1 (by decide)) rfl ⟨by first | decide | omega | (dsimp only; omega), by first | decide | omega | (dsimp only; omega)⟩ ⟨by first | decide | omega | (dsimp only; omega), by first | decide | omega | (dsimp only; omega)⟩ (Nat.le_of_ble_eq_true rfl) rfl d_Ru_askBoth_23 (fun r z9 H locs hp V => ?_)
      obtain ⟨rfl, he9⟩ := hp
      rw [he9] at V
      refine W.eq (g2 := F0 m 26 ls [.int 1]) rfl ?_
      refine gh_reti hAe C V hr hlocks d_Ru_askBoth_26 (by first | decide | omega | (dsimp only; omega)) (by first | decide | omega | (dsimp only; omega)) ?_
      exact ⟨φz1, bz1, hR, ⟨by omega, by omega⟩, hfr, Or.inr (Or.inr (Or.inl ⟨dz1, by rw [hT, hTz1]; rfl, by omega, rfl, by omega⟩)), fun z => absurd z (rv_ne (by decide))⟩
    · subst hoz1
      obtain ⟨yz1_0, yz1_1, yz1_2, yz1_3, yz1_4, yz1_5, yz1_6, yz1_7, az1, hjz1, hxz1, hlz1, hFjz1⟩ := hrsz1.val
      have hltz1 : ∀ i, Fz1 i → i < 250 := fun i hi => by rcases hFz1 i hi with z | z; have := hFb i (hF1 i z); omega; omega
      have hnkz1 : ¬ Fz1 k := fun z => by rcases hFz1 k z with z | z; exact hk1 z; omega
      refine W.eq (g2 := F0 m 12 ls [.int 3]) rfl ?_
      refine lv_istore_n hx hb d_Ru_askBoth_12 rfl hl (by decide) rfl (fun ls hl => ?_)
      have hl : lv_has ls 3 [(2, .int 3), (0, .ref (Z 1)), (1, .ref (Z (1000 + k)))] := hl
      refine lv_iload_n hx hb d_Ru_askBoth_13 rfl (lv_at hl 0 rfl) ?_
      refine lv_if_eq (tgt := 27) hx hb d_Ru_askBoth_14 (by decide) (fun c7 => absurd c7 (by decide)) (fun c7 => ?_)
      refine lv_aload_n hx hb d_Ru_askBoth_17 rfl (lv_at hl 2 rfl) ?_
      refine lv_aload_n hx hb d_Ru_askBoth_18 rfl (lv_at hl 2 rfl) ?_
      refine gh_get C V hsz1 gc_St gi_St 4 (by decide) f_Ru_87 rfl rfl d_Ru_askBoth_19 ?_
      refine lv_iload_n hx hb d_Ru_askBoth_22 rfl (lv_at hl 0 rfl) ?_
      refine gh_callS C V hl.1 m_Ru_passesOn l_Ru_151 (c_Ru_passesOn l E _ gz1 ρ Z q0 N cb bg φz1 bz1 s0 e0 k az1 gv _ _ _ _ _ _ _ _ jz1 _ _ _ _ _ _ _ _ hR hk250 hsz1 hjz1) rfl ⟨by first | decide | omega | (dsimp only; omega), by first | decide | omega | (dsimp only; omega)⟩ ⟨by first | decide | omega | (dsimp only; omega), by first | decide | omega | (dsimp only; omega)⟩ (Nat.le_of_ble_eq_true rfl) rfl d_Ru_askBoth_23 (fun r g8 H locs hp V => ?_)
      obtain ⟨rfl, hR, hs, hfrg⟩ := hp
      refine W.eq (g2 := F0 m 26 ls [.int 3]) rfl ?_
      have hMg : ∀ a, ρ a = 1000 + k → ¬ rP ρ a := fun a z z2 => by have z2 : ρ a = 0 := z2; omega
      have hfr : gh_fr f g8 (rn_M ρ (20 - (n + 1)) b F) := hfr.tr hfrg (fun a _ _ z => Or.inr (Or.inr (Or.inr (Or.inr ⟨k, hFk, z⟩))))
      have hit := hit.keep hfrg hMg
      have hel := hel.keep hfrg hMg
      refine gh_reti hAe C V hr hlocks d_Ru_askBoth_26 (by first | decide | omega | (dsimp only; omega)) (by first | decide | omega | (dsimp only; omega)) ?_
      have hTe : T = sr_cons dz1 xz1 (sr_seq Rz1 (sr_D cb bg n (bg (pt * 3 + 1)) X Y)) := by rw [hT, hTz1]; rfl
      have hzr1 := hzr
      rw [hTe] at hzr1
      exact ⟨φz1, bz1, hR, ⟨by omega, by omega⟩, hfr, Or.inr (Or.inr (Or.inr ⟨dz1, xz1, sr_seq Rz1 (sr_D cb bg n (bg (pt * 3 + 1)) X Y), hTe, by omega, rfl, by omega, fun i => F i ∨ (b ≤ i ∧ i < bz1), rs_mk hs ⟨hk250, hn19, Or.inl hFk⟩ ⟨hqw, hq4, hq6⟩ hit hel (hxz1.keep hfrg hMg) hq16 hzr1 hgv (by omega) (by omega) (rs_run_9 hkd (Or.inl ⟨rfl, ⟨jz1, xz1, Rz1, Fz1, rfl, (hrsz1.keep hfrg hMg (Nat.le_refl _) (fun i hi z => by have e9 := hz (1000 + i) (by unfold rU; have := hltz1 i hi; omega); have z : ρ (Z (1000 + i)) = 1000 + k := z; exact hnkz1 ((show i = k by omega) ▸ hi))), fun i hi => by rcases hFz1 i hi with z | z; exact Or.inl (hF1 i z); exact Or.inr (by omega), hnkz1, rfl⟩⟩)), fun _ z => z⟩)), fun z => absurd z (rv_ne (by decide))⟩
  · subst hse
    have hS2 : rk_S E ρ Z cb bg N f φ b n k (some j2) (bg (pt * 3 + 1)) X Y T F2 := Or.inr ⟨j2, v2, rfl, hrs2, fun i hi => hFb i (hF2 i hi), hk2⟩
    have hs : f (Z (1000 + k)) = some (.inr (5, [.int (nI pt), .int (nI (19 - n)), .ref it, .ref el, ro Z fi, .ref (Z (1000 + j2)), .int (nI gv), .int (nI pl), .ref va])) := hs
    refine lv_aload_n hx hb d_Ru_askBoth_0 rfl (lv_at hl 1 rfl) ?_
    refine gh_get C V hs gc_St gi_St 5 (by decide) f_Ru_91 rfl rfl d_Ru_askBoth_1 ?_
    refine lv_ifnonnull (tgt := 27) hx hb d_Ru_askBoth_4 (by decide) ?_
    refine lv_aload_n hx hb d_Ru_askBoth_27 rfl (lv_at hl 0 rfl) ?_
    refine lv_aload_n hx hb d_Ru_askBoth_28 rfl (lv_at hl 1 rfl) ?_
    refine gh_callV C V hl.1 m_Ru_askSecond l_Ru_158 (c_Ru_askSecond l E _ f ρ Z q0 N cb bg φ b s0 e0 n k pt it el ((some j2)) (ro Z fi) (.int (nI gv)) (.int (nI pl)) (.ref va) X Y T F2 hR (by omega) hn19 (by omega) hpt60 hs hit hel hS2 IH) rfl h1R gc_Ru ⟨by first | decide | omega | (dsimp only; omega), by first | decide | omega | (dsimp only; omega)⟩ ⟨by first | decide | omega | (dsimp only; omega), by first | decide | omega | (dsimp only; omega)⟩ (Nat.le_of_ble_eq_true rfl) rfl d_Ru_askBoth_29 (fun r gz9 H locs hp V => ?_)
    obtain ⟨φz9, bz9, foz9, hR, ⟨hbz9, hcz9⟩, hfrz9, hsz9, hPz9⟩ := hp
    have hfr : gh_fr f gz9 (rn_M ρ (20 - (n + 1)) b F) := hfr.tr hfrz9 (fun a _ _ z => rn_M.le (by omega) (fun i hi => Or.inl (by rcases hi with hi | hi; exact hF2 i hi; rw [hi]; exact hFk)) (by omega) a z)
    have hit := hit.keep hfrz9 rn_M.P
    have hel := hel.keep hfrz9 rn_M.P
    have hva := hva.keep hfrz9 rn_M.P
    have hRc := hR
    obtain ⟨h1R, ⟨hz, ⟨p206, p207⟩, ⟨gS, hgS, hgS2⟩, ⟨gG, hgG, hgG2⟩, hVR, hqR, hcdR, hbaR, hN60, hq0⟩, ⟨hgaV, hgaR⟩, hSR, hnon⟩ := hRc
    obtain ⟨pvsR, hvsR, hnuR, hnoR, hyeR, -⟩ := id hVR
    rcases hPz9 with ⟨h1z9, rfl, h3z9⟩ | ⟨dz9, hTz9, hdz9, rfl, h3z9⟩ | ⟨dz9, hTz9, hdz9, rfl, h3z9⟩ | ⟨dz9, xz9, Rz9, hTz9, hdz9, rfl, h3z9, jz9, Fz9, hoz9, hrsz9, hFz9⟩
    · refine W.eq (g2 := F0 m 32 ls [.int 2]) rfl ?_
      refine lv_istore_n hx hb d_Ru_askBoth_32 rfl hl (by decide) rfl (fun ls hl => ?_)
      have hl : lv_has ls 3 [(2, .int 2), (0, .ref (Z 1)), (1, .ref (Z (1000 + k)))] := hl
      refine lv_aload_n hx hb d_Ru_askBoth_33 rfl (lv_at hl 2 rfl) ?_
      refine lv_aload_n hx hb d_Ru_askBoth_34 rfl (lv_at hl 2 rfl) ?_
      refine gh_get C V hsz9 gc_St gi_St 5 (by decide) f_Ru_91 rfl rfl d_Ru_askBoth_35 ?_
      refine lv_iload_n hx hb d_Ru_askBoth_38 rfl (lv_at hl 0 rfl) ?_
      refine gh_callS C V hl.1 m_Ru_passesOn l_Ru_151 (c_Ru_passesOn0 l E _ gz9 (Z (1000 + k)) 2 Z foz9 (by decide)) rfl ⟨by first | decide | omega | (dsimp only; omega), by first | decide | omega | (dsimp only; omega)⟩ ⟨by first | decide | omega | (dsimp only; omega), by first | decide | omega | (dsimp only; omega)⟩ (Nat.le_of_ble_eq_true rfl) rfl d_Ru_askBoth_39 (fun r z9 H locs hp V => ?_)
      obtain ⟨rfl, he9⟩ := hp
      rw [he9] at V
      refine W.eq (g2 := F0 m 42 ls [.int 2]) rfl ?_
      refine gh_reti hAe C V hr hlocks d_Ru_askBoth_42 (by first | decide | omega | (dsimp only; omega)) (by first | decide | omega | (dsimp only; omega)) ?_
      exact ⟨φz9, bz9, hR, ⟨by omega, by omega⟩, hfr, Or.inl ⟨by omega, rfl, by assumption⟩, fun z => absurd z (rv_ne (by decide))⟩
    · refine W.eq (g2 := F0 m 32 ls [.int 0]) rfl ?_
      refine lv_istore_n hx hb d_Ru_askBoth_32 rfl hl (by decide) rfl (fun ls hl => ?_)
      have hl : lv_has ls 3 [(2, .int 0), (0, .ref (Z 1)), (1, .ref (Z (1000 + k)))] := hl
      refine lv_aload_n hx hb d_Ru_askBoth_33 rfl (lv_at hl 2 rfl) ?_
      refine lv_aload_n hx hb d_Ru_askBoth_34 rfl (lv_at hl 2 rfl) ?_
      refine gh_get C V hsz9 gc_St gi_St 5 (by decide) f_Ru_91 rfl rfl d_Ru_askBoth_35 ?_
      refine lv_iload_n hx hb d_Ru_askBoth_38 rfl (lv_at hl 0 rfl) ?_
      refine gh_callS C V hl.1 m_Ru_passesOn l_Ru_151 (c_Ru_passesOn0 l E _ gz9 (Z (1000 + k)) 0 Z foz9 (by decide)) rfl ⟨by first | decide | omega | (dsimp only; omega), by first | decide | omega | (dsimp only; omega)⟩ ⟨by first | decide | omega | (dsimp only; omega), by first | decide | omega | (dsimp only; omega)⟩ (Nat.le_of_ble_eq_true rfl) rfl d_Ru_askBoth_39 (fun r z9 H locs hp V => ?_)
      obtain ⟨rfl, he9⟩ := hp
      rw [he9] at V
      refine W.eq (g2 := F0 m 42 ls [.int 0]) rfl ?_
      refine gh_reti hAe C V hr hlocks d_Ru_askBoth_42 (by first | decide | omega | (dsimp only; omega)) (by first | decide | omega | (dsimp only; omega)) ?_
      exact ⟨φz9, bz9, hR, ⟨by omega, by omega⟩, hfr, Or.inr (Or.inl ⟨dz9, hTz9, by omega, rfl, by omega⟩), fun _ => ⟨_, _, _, _, _, _, _, _, va, hsz9, hva⟩⟩
    · refine W.eq (g2 := F0 m 32 ls [.int 1]) rfl ?_
      refine lv_istore_n hx hb d_Ru_askBoth_32 rfl hl (by decide) rfl (fun ls hl => ?_)
      have hl : lv_has ls 3 [(2, .int 1), (0, .ref (Z 1)), (1, .ref (Z (1000 + k)))] := hl
      refine lv_aload_n hx hb d_Ru_askBoth_33 rfl (lv_at hl 2 rfl) ?_
      refine lv_aload_n hx hb d_Ru_askBoth_34 rfl (lv_at hl 2 rfl) ?_
      refine gh_get C V hsz9 gc_St gi_St 5 (by decide) f_Ru_91 rfl rfl d_Ru_askBoth_35 ?_
      refine lv_iload_n hx hb d_Ru_askBoth_38 rfl (lv_at hl 0 rfl) ?_
      refine gh_callS C V hl.1 m_Ru_passesOn l_Ru_151 (c_Ru_passesOn0 l E _ gz9 (Z (1000 + k)) 1 Z foz9 (by decide)) rfl ⟨by first | decide | omega | (dsimp only; omega), by first | decide | omega | (dsimp only; omega)⟩ ⟨by first | decide | omega | (dsimp only; omega), by first | decide | omega | (dsimp only; omega)⟩ (Nat.le_of_ble_eq_true rfl) rfl d_Ru_askBoth_39 (fun r z9 H locs hp V => ?_)
      obtain ⟨rfl, he9⟩ := hp
      rw [he9] at V
      refine W.eq (g2 := F0 m 42 ls [.int 1]) rfl ?_
      refine gh_reti hAe C V hr hlocks d_Ru_askBoth_42 (by first | decide | omega | (dsimp only; omega)) (by first | decide | omega | (dsimp only; omega)) ?_
      exact ⟨φz9, bz9, hR, ⟨by omega, by omega⟩, hfr, Or.inr (Or.inr (Or.inl ⟨dz9, hTz9, by omega, rfl, by omega⟩)), fun z => absurd z (rv_ne (by decide))⟩
    · subst hoz9
      obtain ⟨yz9_0, yz9_1, yz9_2, yz9_3, yz9_4, yz9_5, yz9_6, yz9_7, az9, hjz9, hxz9, hlz9, hFjz9⟩ := hrsz9.val
      have hltz9 : ∀ i, Fz9 i → i < 250 := fun i hi => by rcases hFz9 i hi with z | z; have := hFb i (hF2 i z); omega; omega
      have hnkz9 : ¬ Fz9 k := fun z => by rcases hFz9 k z with z | z; exact hk2 z; omega
      refine W.eq (g2 := F0 m 32 ls [.int 3]) rfl ?_
      refine lv_istore_n hx hb d_Ru_askBoth_32 rfl hl (by decide) rfl (fun ls hl => ?_)
      have hl : lv_has ls 3 [(2, .int 3), (0, .ref (Z 1)), (1, .ref (Z (1000 + k)))] := hl
      refine lv_aload_n hx hb d_Ru_askBoth_33 rfl (lv_at hl 2 rfl) ?_
      refine lv_aload_n hx hb d_Ru_askBoth_34 rfl (lv_at hl 2 rfl) ?_
      refine gh_get C V hsz9 gc_St gi_St 5 (by decide) f_Ru_91 rfl rfl d_Ru_askBoth_35 ?_
      refine lv_iload_n hx hb d_Ru_askBoth_38 rfl (lv_at hl 0 rfl) ?_
      refine gh_callS C V hl.1 m_Ru_passesOn l_Ru_151 (c_Ru_passesOn l E _ gz9 ρ Z q0 N cb bg φz9 bz9 s0 e0 k az9 gv _ _ _ _ _ _ _ _ jz9 _ _ _ _ _ _ _ _ hR hk250 hsz9 hjz9) rfl ⟨by first | decide | omega | (dsimp only; omega), by first | decide | omega | (dsimp only; omega)⟩ ⟨by first | decide | omega | (dsimp only; omega), by first | decide | omega | (dsimp only; omega)⟩ (Nat.le_of_ble_eq_true rfl) rfl d_Ru_askBoth_39 (fun r g10 H locs hp V => ?_)
      obtain ⟨rfl, hR, hs, hfrg⟩ := hp
      refine W.eq (g2 := F0 m 42 ls [.int 3]) rfl ?_
      have hMg : ∀ a, ρ a = 1000 + k → ¬ rP ρ a := fun a z z2 => by have z2 : ρ a = 0 := z2; omega
      have hfr : gh_fr f g10 (rn_M ρ (20 - (n + 1)) b F) := hfr.tr hfrg (fun a _ _ z => Or.inr (Or.inr (Or.inr (Or.inr ⟨k, hFk, z⟩))))
      have hit := hit.keep hfrg hMg
      have hel := hel.keep hfrg hMg
      refine gh_reti hAe C V hr hlocks d_Ru_askBoth_42 (by first | decide | omega | (dsimp only; omega)) (by first | decide | omega | (dsimp only; omega)) ?_
      have hTe : T = sr_cons dz9 xz9 (Rz9) := hTz9
      have hzr1 := hzr
      rw [hTe] at hzr1
      exact ⟨φz9, bz9, hR, ⟨by omega, by omega⟩, hfr, Or.inr (Or.inr (Or.inr ⟨dz9, xz9, Rz9, hTe, by omega, rfl, by omega, fun i => F i ∨ (b ≤ i ∧ i < bz9), rs_mk hs ⟨hk250, hn19, Or.inl hFk⟩ ⟨hqw, hq4, hq6⟩ hit hel (hxz9.keep hfrg hMg) hq16 hzr1 hgv (by omega) (by omega) (rs_run_9 hkd (Or.inr ⟨jz9, xz9, Rz9, Fz9, rfl, (hrsz9.keep hfrg hMg (Nat.le_refl _) (fun i hi z => by have e9 := hz (1000 + i) (by unfold rU; have := hltz9 i hi; omega); have z : ρ (Z (1000 + i)) = 1000 + k := z; exact hnkz9 ((show i = k by omega) ▸ hi))), fun i hi => by rcases hFz9 i hi with z | z; exact Or.inl (hF2 i z); exact Or.inr (by omega), hnkz9, rfl⟩)), fun _ z => z⟩)), fun z => absurd z (rv_ne (by decide))⟩
