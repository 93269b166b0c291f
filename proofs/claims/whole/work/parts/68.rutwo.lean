/-! askPipeOrIf, askTwo. Printed by wip/whole/gen_ru13.py. -/
theorem d_Ru_askPipeOrIf_0 : decode b_Ru_askPipeOrIf 0 = .ok (.aload_n 0, 1) := by decide +kernel
theorem d_Ru_askPipeOrIf_1 : decode b_Ru_askPipeOrIf 1 = .ok (.aload_n 1, 1) := by decide +kernel
theorem d_Ru_askPipeOrIf_2 : decode b_Ru_askPipeOrIf 2 = .ok (.invokevirtual 199, 3) := by decide +kernel
theorem d_Ru_askPipeOrIf_5 : decode b_Ru_askPipeOrIf 5 = .ok (.istore_n 2, 1) := by decide +kernel
theorem d_Ru_askPipeOrIf_6 : decode b_Ru_askPipeOrIf 6 = .ok (.aload_n 1, 1) := by decide +kernel
theorem d_Ru_askPipeOrIf_7 : decode b_Ru_askPipeOrIf 7 = .ok (.aload_n 1, 1) := by decide +kernel
theorem d_Ru_askPipeOrIf_8 : decode b_Ru_askPipeOrIf 8 = .ok (.getfield 91, 3) := by decide +kernel
theorem d_Ru_askPipeOrIf_11 : decode b_Ru_askPipeOrIf 11 = .ok (.iload_n 2, 1) := by decide +kernel
theorem d_Ru_askPipeOrIf_12 : decode b_Ru_askPipeOrIf 12 = .ok (.invokestatic 151, 3) := by decide +kernel
theorem d_Ru_askPipeOrIf_15 : decode b_Ru_askPipeOrIf 15 = .ok (.ireturn, 1) := by decide +kernel
set_option maxHeartbeats 4000000 in
set_option maxRecDepth 100000 in
theorem c_Ru_askPipeOrIf (l : Launch) (E : gh_E) (sz : Nat) (f : gh_F) (ρ Z : Nat → Nat) (q0 N : Nat) (cb bg : Nat → Nat) (φ b : Nat) (s0 e0 : Int32) (n u k : Nat) (v : vt) (T : sr) (F : Nat → Prop) (pt w9 it el gv pl va : Nat) (X Y : vt) (fi se : Option Nat) (hR : rn_R E ρ Z f q0 N cb bg φ b s0 e0) (hφb : φ + b ≤ 250) (hFb : ∀ j, F j → j < b) (hx9 : rs_x E ρ Z cb bg N f φ n u k v T F pt w9 it el gv pl va X Y fi se) (IH : rk_A l E ρ Z q0 N cb bg n) (hkd : cb pt = 8 ∨ cb pt = 11) : gh_M l y_Ru_askPipeOrIf b_Ru_askPipeOrIf 3 (some .int) E sz [.ref (Z 1), .ref (Z (1000 + k))] f { frames := 25 + 6 * n, cells := 3 * (min (sr_c T) φ + u), slots := 39 * (min (sr_c T) φ + u), locals := 870 + 200 * n } (rk_Q E ρ Z q0 N cb bg (n + 1) f φ b s0 e0 k v T F) := by
  obtain ⟨hs, ⟨hk250, hn19, hFk⟩, ⟨hqw, hq4, hq6⟩, ⟨hit, hel, hva⟩, ⟨q9, hq16, hzr, hgv⟩, hst⟩ := hx9
  have hkb := hFb k hFk
  have hptN := (qw_lt hqw).1
  have hX7 := (hit.le).2
  refine gh_open (by decide) (Nat.le_of_ble_eq_true rfl) ?_
  intro p e s m args below meth c A ls hAe C V hr hlocks hname hl
  have hx := C.1
  have hb := C.2.1
  have hl : lv_has ls 3 [(0, .ref (Z 1)), (1, .ref (Z (1000 + k)))] := hl
  have hRc := hR
  obtain ⟨h1R, ⟨hz, ⟨p206, p207⟩, ⟨gS, hgS, hgS2⟩, ⟨gG, hgG, hgG2⟩, hVR, hqR, hcdR, hbaR, hN60, hq0⟩, ⟨hgaV, hgaR⟩, hSR, hnon⟩ := hRc
  obtain ⟨pvsR, hvsR, hnuR, hnoR, hyeR, -⟩ := id hVR
  have hfr : gh_fr f f (rn_M ρ (20 - (n + 1)) b F) := gh_fr.rf
  have hpt60 : pt < 60 := by omega
  have hkd8 : cb pt = 8 ∨ cb pt = 11 ∨ 22 ≤ cb pt := by omega
  have hp26 := (qw_lt hqw).2
  have hprt : 0 < qy_parts (cb pt) := Nat.lt_of_lt_of_le (Nat.zero_lt_of_lt (nx_lt _ (by omega) hkd8 true)) (Nat.le_refl _)
  obtain ⟨Bs, hF9, hT, hcC⟩ : ∃ Bs, rk_F E ρ Z cb bg N f φ b n k fi se (bg (pt * 3 + 0)) X Y (sr_G (cb pt) (fun i Z W => sr_D cb bg n (bg (pt * 3 + i)) Z W) X Y) 0 0 Bs F ∧ T = Bs (sr_e (cb pt)) (sr_h (cb pt)) ∧ sr_c (Bs 0 (fun _ y => some y)) ≤ sr_c T := by
    rcases hst with ⟨hu, hg0, hp0, hf0, hs0, hv0, hT⟩ | ⟨hu, hg1, hrun⟩
    · refine ⟨fun e h => sr_fb e h (sr_G (cb pt) (fun i Z W => sr_D cb bg n (bg (pt * 3 + i)) Z W) X Y) (sr_D cb bg n (bg (pt * 3 + 0)) X Y), Or.inl ⟨hs0, rfl, _, fun _ => False, Or.inl ⟨hf0, rfl, rs_child hqw (by omega) hq6 hn19 hprt hX7, fun _ z => z⟩, fun _ z => z.elim, fun e h => sr_add_0.symm⟩, ?_, ?_⟩
      · rw [hT, sr_B_o, sr_part_8 hkd8]; rfl
      · rw [hT, sr_B_o, sr_part_8 hkd8]; exact sr_fb_le
    · obtain ⟨j1, v1, T1, F1, h1, h2, h3, h4, j2, v2, T2, F2, h5, h6, h7, h8, h9, h10⟩ := hrun.2.2.1 hkd8
      refine ⟨fun e h => sr_fe e h (sr_G (cb pt) (fun i Z W => sr_D cb bg n (bg (pt * 3 + i)) Z W) X Y) v1 T2 T1, Or.inr ⟨j1, j2, v1, v2, T1, T2, F1, F2, h1, h5, h2, h6, ⟨h3, h7, h4, h8, h9⟩, fun e h => sr_add_0.symm⟩, h10, ?_⟩
      rw [h10]; exact sr_fe_le
  refine lv_aload_n hx hb d_Ru_askPipeOrIf_0 rfl (lv_at hl 0 rfl) ?_
  refine lv_aload_n hx hb d_Ru_askPipeOrIf_1 rfl (lv_at hl 1 rfl) ?_
  refine gh_callV C V hl.1 m_Ru_askForEachFirst l_Ru_199 (c_Ru_askForEachFirst l E _ f ρ Z q0 N cb bg φ b s0 e0 n k pt w9 it el fi se (.int (nI gv)) (.int (nI pl)) (.ref va) X Y Bs F hR hφb hFb hFk hn19 hqw hq6 hs hit hel hF9 IH hkd8) rfl h1R gc_Ru ⟨by first | decide | omega | (dsimp only; omega), by first | decide | omega | (dsimp only; omega)⟩ ⟨by first | decide | omega | (dsimp only; omega), by first | decide | omega | (dsimp only; omega)⟩ (Nat.le_of_ble_eq_true rfl) rfl d_Ru_askPipeOrIf_2 (fun r gz1 H locs hp V => ?_)
  obtain ⟨φz1, bz1, foz1, soz1, hR, ⟨hbz1, hcz1⟩, hfrz1, hsz1, hPz1⟩ := hp
  have hfr : gh_fr f gz1 (rn_M ρ (20 - (n + 1)) b F) := hfr.tr hfrz1 (fun a _ _ z => rn_M.le (by omega) (fun i hi => Or.inl hi) (Nat.le_refl _) a z)
  have hit := hit.keep hfrz1 rn_M.P
  have hel := hel.keep hfrz1 rn_M.P
  have hva := hva.keep hfrz1 rn_M.P
  have hRc := hR
  obtain ⟨h1R, ⟨hz, ⟨p206, p207⟩, ⟨gS, hgS, hgS2⟩, ⟨gG, hgG, hgG2⟩, hVR, hqR, hcdR, hbaR, hN60, hq0⟩, ⟨hgaV, hgaR⟩, hSR, hnon⟩ := hRc
  obtain ⟨pvsR, hvsR, hnuR, hnoR, hyeR, -⟩ := id hVR
  rcases hPz1 with ⟨h1z1, rfl, h3z1⟩ | ⟨dz1, hTz1, hdz1, rfl, h3z1⟩ | ⟨dz1, hTz1, hdz1, rfl, h3z1⟩ | ⟨dz1, vz1, xz1, Tz2, Tz1, hTz1, hdz1, rfl, h3z1, j1, j2, F1, F2, hof, hos, hrs1, hrs2, hF1, hF2, hnk1, hnk2, hdis⟩
  · have h1T := h1z1 (sr_e (cb pt)) (sr_h (cb pt))
    rw [← hT] at h1T
    refine W.eq (g2 := F0 m 5 ls [.int 2]) rfl ?_
    refine lv_istore_n hx hb d_Ru_askPipeOrIf_5 rfl hl (by decide) rfl (fun ls hl => ?_)
    have hl : lv_has ls 3 [(2, .int 2), (0, .ref (Z 1)), (1, .ref (Z (1000 + k)))] := hl
    refine lv_aload_n hx hb d_Ru_askPipeOrIf_6 rfl (lv_at hl 2 rfl) ?_
    refine lv_aload_n hx hb d_Ru_askPipeOrIf_7 rfl (lv_at hl 2 rfl) ?_
    refine gh_get C V hsz1 gc_St gi_St 5 (by decide) f_Ru_91 rfl rfl d_Ru_askPipeOrIf_8 ?_
    refine lv_iload_n hx hb d_Ru_askPipeOrIf_11 rfl (lv_at hl 0 rfl) ?_
    refine gh_callS C V hl.1 m_Ru_passesOn l_Ru_151 (c_Ru_passesOn0 l E _ gz1 (Z (1000 + k)) 2 Z soz1 (by decide)) rfl ⟨by first | decide | omega | (dsimp only; omega), by first | decide | omega | (dsimp only; omega)⟩ ⟨by first | decide | omega | (dsimp only; omega), by first | decide | omega | (dsimp only; omega)⟩ (Nat.le_of_ble_eq_true rfl) rfl d_Ru_askPipeOrIf_12 (fun r z9 H locs hp V => ?_)
    obtain ⟨rfl, he9⟩ := hp
    rw [he9] at V
    refine W.eq (g2 := F0 m 15 ls [.int 2]) rfl ?_
    refine gh_reti hAe C V hr hlocks d_Ru_askPipeOrIf_15 (by first | decide | omega | (dsimp only; omega)) (by first | decide | omega | (dsimp only; omega)) ?_
    exact ⟨φz1, bz1, hR, ⟨by omega, by omega⟩, hfr, Or.inl ⟨by omega, rfl, by assumption⟩, fun z => absurd z (rv_ne (by decide))⟩
  · have hTe := hT.trans (hTz1 _ _)
    refine W.eq (g2 := F0 m 5 ls [.int 0]) rfl ?_
    refine lv_istore_n hx hb d_Ru_askPipeOrIf_5 rfl hl (by decide) rfl (fun ls hl => ?_)
    have hl : lv_has ls 3 [(2, .int 0), (0, .ref (Z 1)), (1, .ref (Z (1000 + k)))] := hl
    refine lv_aload_n hx hb d_Ru_askPipeOrIf_6 rfl (lv_at hl 2 rfl) ?_
    refine lv_aload_n hx hb d_Ru_askPipeOrIf_7 rfl (lv_at hl 2 rfl) ?_
    refine gh_get C V hsz1 gc_St gi_St 5 (by decide) f_Ru_91 rfl rfl d_Ru_askPipeOrIf_8 ?_
    refine lv_iload_n hx hb d_Ru_askPipeOrIf_11 rfl (lv_at hl 0 rfl) ?_
    refine gh_callS C V hl.1 m_Ru_passesOn l_Ru_151 (c_Ru_passesOn0 l E _ gz1 (Z (1000 + k)) 0 Z soz1 (by decide)) rfl ⟨by first | decide | omega | (dsimp only; omega), by first | decide | omega | (dsimp only; omega)⟩ ⟨by first | decide | omega | (dsimp only; omega), by first | decide | omega | (dsimp only; omega)⟩ (Nat.le_of_ble_eq_true rfl) rfl d_Ru_askPipeOrIf_12 (fun r z9 H locs hp V => ?_)
    obtain ⟨rfl, he9⟩ := hp
    rw [he9] at V
    refine W.eq (g2 := F0 m 15 ls [.int 0]) rfl ?_
    refine gh_reti hAe C V hr hlocks d_Ru_askPipeOrIf_15 (by first | decide | omega | (dsimp only; omega)) (by first | decide | omega | (dsimp only; omega)) ?_
    exact ⟨φz1, bz1, hR, ⟨by omega, by omega⟩, hfr, Or.inr (Or.inl ⟨dz1, hTe, by omega, rfl, by omega⟩), fun _ => ⟨_, _, _, _, _, _, _, _, va, hsz1, hva⟩⟩
  · have hTe := hT.trans (hTz1 _ _)
    refine W.eq (g2 := F0 m 5 ls [.int 1]) rfl ?_
    refine lv_istore_n hx hb d_Ru_askPipeOrIf_5 rfl hl (by decide) rfl (fun ls hl => ?_)
    have hl : lv_has ls 3 [(2, .int 1), (0, .ref (Z 1)), (1, .ref (Z (1000 + k)))] := hl
    refine lv_aload_n hx hb d_Ru_askPipeOrIf_6 rfl (lv_at hl 2 rfl) ?_
    refine lv_aload_n hx hb d_Ru_askPipeOrIf_7 rfl (lv_at hl 2 rfl) ?_
    refine gh_get C V hsz1 gc_St gi_St 5 (by decide) f_Ru_91 rfl rfl d_Ru_askPipeOrIf_8 ?_
    refine lv_iload_n hx hb d_Ru_askPipeOrIf_11 rfl (lv_at hl 0 rfl) ?_
    refine gh_callS C V hl.1 m_Ru_passesOn l_Ru_151 (c_Ru_passesOn0 l E _ gz1 (Z (1000 + k)) 1 Z soz1 (by decide)) rfl ⟨by first | decide | omega | (dsimp only; omega), by first | decide | omega | (dsimp only; omega)⟩ ⟨by first | decide | omega | (dsimp only; omega), by first | decide | omega | (dsimp only; omega)⟩ (Nat.le_of_ble_eq_true rfl) rfl d_Ru_askPipeOrIf_12 (fun r z9 H locs hp V => ?_)
    obtain ⟨rfl, he9⟩ := hp
    rw [he9] at V
    refine W.eq (g2 := F0 m 15 ls [.int 1]) rfl ?_
    refine gh_reti hAe C V hr hlocks d_Ru_askPipeOrIf_15 (by first | decide | omega | (dsimp only; omega)) (by first | decide | omega | (dsimp only; omega)) ?_
    exact ⟨φz1, bz1, hR, ⟨by omega, by omega⟩, hfr, Or.inr (Or.inr (Or.inl ⟨dz1, hTe, by omega, rfl, by omega⟩)), fun z => absurd z (rv_ne (by decide))⟩
  · subst hof
    subst hos
    obtain ⟨y1_0, y1_1, y1_2, y1_3, y1_4, y1_5, y1_6, y1_7, a1, hj1, hx1, hl1, hFj1⟩ := hrs1.val
    have hlt1 : ∀ i, F1 i → i < 250 := fun i hi => by rcases hF1 i hi with z | z; have := hFb i z; omega; omega
    obtain ⟨y2_0, y2_1, y2_2, y2_3, y2_4, y2_5, y2_6, y2_7, a2, hj2, hx2, hl2, hFj2⟩ := hrs2.val
    have hlt2 : ∀ i, F2 i → i < 250 := fun i hi => by rcases hF2 i hi with z | z; have := hFb i z; omega; omega
    have hTe := hT.trans (hTz1 (sr_e (cb pt)) (sr_h (cb pt)))
    have hcC1 : sr_c (Bs 0 (fun _ y => some y)) = dz1 := by rw [hTz1, sr_c_add, sr_fe_cc, Nat.add_zero]
    have hfk : gh_fr gz1 gz1 (rn_N ρ k) := gh_fr.rf
    refine W.eq (g2 := F0 m 5 ls [.int 3]) rfl ?_
    refine lv_istore_n hx hb d_Ru_askPipeOrIf_5 rfl hl (by decide) rfl (fun ls hl => ?_)
    have hl : lv_has ls 3 [(2, .int 3), (0, .ref (Z 1)), (1, .ref (Z (1000 + k)))] := hl
    refine lv_aload_n hx hb d_Ru_askPipeOrIf_6 rfl (lv_at hl 2 rfl) ?_
    refine lv_aload_n hx hb d_Ru_askPipeOrIf_7 rfl (lv_at hl 2 rfl) ?_
    refine gh_get C V hsz1 gc_St gi_St 5 (by decide) f_Ru_91 rfl rfl d_Ru_askPipeOrIf_8 ?_
    refine lv_iload_n hx hb d_Ru_askPipeOrIf_11 rfl (lv_at hl 0 rfl) ?_
    refine gh_callS C V hl.1 m_Ru_passesOn l_Ru_151 (c_Ru_passesOn l E _ gz1 ρ Z q0 N cb bg φz1 bz1 s0 e0 k a2 gv _ _ _ _ _ _ _ _ j2 _ _ _ _ _ _ _ _ hR hk250 hsz1 hj2) rfl ⟨by first | decide | omega | (dsimp only; omega), by first | decide | omega | (dsimp only; omega)⟩ ⟨by first | decide | omega | (dsimp only; omega), by first | decide | omega | (dsimp only; omega)⟩ (Nat.le_of_ble_eq_true rfl) rfl d_Ru_askPipeOrIf_12 (fun r g1 H locs hp V => ?_)
    obtain ⟨rfl, hR, hs, hfrg⟩ := hp
    refine W.eq (g2 := F0 m 15 ls [.int 3]) rfl ?_
    have hMg : ∀ a, ρ a = 1000 + k → ¬ rP ρ a := fun a z z2 => by have z2 : ρ a = 0 := z2; omega
    have hfr : gh_fr f g1 (rn_M ρ (20 - (n + 1)) b F) := hfr.tr hfrg (fun a _ _ z => Or.inr (Or.inr (Or.inr (Or.inr ⟨k, hFk, z⟩))))
    have hit := hit.keep hfrg hMg
    have hel := hel.keep hfrg hMg
    refine gh_reti hAe C V hr hlocks d_Ru_askPipeOrIf_15 (by first | decide | omega | (dsimp only; omega)) (by first | decide | omega | (dsimp only; omega)) ?_
    have hfk := hfk.tr hfrg (fun a _ _ z => Or.inr (Or.inr z))
    have hTe0 := hTe
    have he0 : sr_e (cb pt) = 0 := by unfold sr_e; rw [if_pos (by omega)]
    have hTe : T = sr_cons dz1 xz1 (sr_fe (sr_e (cb pt)) (sr_h (cb pt)) (sr_G (cb pt) (fun i Z W => sr_D cb bg n (bg (pt * 3 + i)) Z W) X Y) vz1 Tz2 Tz1) := by rw [hTe0, sr_fe_some (z := xz1) (by unfold sr_h; rw [if_pos (by omega)]), sr_add_cons, he0, Nat.add_zero]
    have hzr1 := hzr
    rw [hTe] at hzr1
    exact ⟨φz1, bz1, hR, ⟨by omega, by omega⟩, hfr, Or.inr (Or.inr (Or.inr ⟨dz1, xz1, sr_fe (sr_e (cb pt)) (sr_h (cb pt)) (sr_G (cb pt) (fun i Z W => sr_D cb bg n (bg (pt * 3 + i)) Z W) X Y) vz1 Tz2 Tz1, hTe, by omega, rfl, by omega, fun i => F i ∨ (b ≤ i ∧ i < bz1), rs_mk hs ⟨hk250, hn19, Or.inl hFk⟩ ⟨hqw, hq4, hq6⟩ hit hel (hx2.keep hfrg hMg) hq16 hzr1 hgv (by omega) (by omega) (rs_run_8 hkd8 ⟨j1, vz1, Tz1, F1, rfl, (hrs1.keep hfk rn_N.P (by omega) (fun i hi => rn_N.st hz (hlt1 i hi) (fun z => hnk1 (z ▸ hi)))), fun i hi => hF1 i hi, hnk1, j2, xz1, Tz2, F2, rfl, (hrs2.keep hfk rn_N.P (by omega) (fun i hi => rn_N.st hz (hlt2 i hi) (fun z => hnk2 (z ▸ hi)))), fun i hi => hF2 i hi, hnk2, hdis, rfl⟩), fun _ z => z⟩)), fun z => absurd z (rv_ne (by decide))⟩
theorem d_Ru_askTwo_0 : decode b_Ru_askTwo 0 = .ok (.aload_n 0, 1) := by decide +kernel
theorem d_Ru_askTwo_1 : decode b_Ru_askTwo 1 = .ok (.aload_n 1, 1) := by decide +kernel
theorem d_Ru_askTwo_2 : decode b_Ru_askTwo 2 = .ok (.invokevirtual 199, 3) := by decide +kernel
theorem d_Ru_askTwo_5 : decode b_Ru_askTwo 5 = .ok (.istore_n 2, 1) := by decide +kernel
theorem d_Ru_askTwo_6 : decode b_Ru_askTwo 6 = .ok (.iload_n 2, 1) := by decide +kernel
theorem d_Ru_askTwo_7 : decode b_Ru_askTwo 7 = .ok (.iconst 3, 1) := by decide +kernel
theorem d_Ru_askTwo_8 : decode b_Ru_askTwo 8 = .ok (.if_icmp .eq 5, 3) := by decide +kernel
theorem d_Ru_askTwo_11 : decode b_Ru_askTwo 11 = .ok (.iload_n 2, 1) := by decide +kernel
theorem d_Ru_askTwo_12 : decode b_Ru_askTwo 12 = .ok (.ireturn, 1) := by decide +kernel
theorem d_Ru_askTwo_13 : decode b_Ru_askTwo 13 = .ok (.aload_n 0, 1) := by decide +kernel
theorem d_Ru_askTwo_14 : decode b_Ru_askTwo 14 = .ok (.invokevirtual 71, 3) := by decide +kernel
theorem d_Ru_askTwo_17 : decode b_Ru_askTwo 17 = .ok (.ifCond .ne 5, 3) := by decide +kernel
theorem d_Ru_askTwo_20 : decode b_Ru_askTwo 20 = .ok (.iconst 2, 1) := by decide +kernel
theorem d_Ru_askTwo_21 : decode b_Ru_askTwo 21 = .ok (.ireturn, 1) := by decide +kernel
theorem d_Ru_askTwo_22 : decode b_Ru_askTwo 22 = .ok (.aload_n 1, 1) := by decide +kernel
theorem d_Ru_askTwo_23 : decode b_Ru_askTwo 23 = .ok (.getfield 87, 3) := by decide +kernel
theorem d_Ru_askTwo_26 : decode b_Ru_askTwo 26 = .ok (.getfield 68, 3) := by decide +kernel
theorem d_Ru_askTwo_29 : decode b_Ru_askTwo 29 = .ok (.astore_n 3, 1) := by decide +kernel
theorem d_Ru_askTwo_30 : decode b_Ru_askTwo 30 = .ok (.aload_n 1, 1) := by decide +kernel
theorem d_Ru_askTwo_31 : decode b_Ru_askTwo 31 = .ok (.getfield 91, 3) := by decide +kernel
theorem d_Ru_askTwo_34 : decode b_Ru_askTwo 34 = .ok (.getfield 68, 3) := by decide +kernel
theorem d_Ru_askTwo_37 : decode b_Ru_askTwo 37 = .ok (.astore 4, 2) := by decide +kernel
theorem d_Ru_askTwo_39 : decode b_Ru_askTwo 39 = .ok (.aload_n 0, 1) := by decide +kernel
theorem d_Ru_askTwo_40 : decode b_Ru_askTwo 40 = .ok (.getfield 44, 3) := by decide +kernel
theorem d_Ru_askTwo_43 : decode b_Ru_askTwo 43 = .ok (.aload_n 1, 1) := by decide +kernel
theorem d_Ru_askTwo_44 : decode b_Ru_askTwo 44 = .ok (.getfield 75, 3) := by decide +kernel
theorem d_Ru_askTwo_47 : decode b_Ru_askTwo 47 = .ok (.invokevirtual 100, 3) := by decide +kernel
theorem d_Ru_askTwo_50 : decode b_Ru_askTwo 50 = .ok (.tableswitch 115 22 26 #[34, 49, 64, 79, 97], 34) := by decide +kernel
theorem d_Ru_askTwo_84 : decode b_Ru_askTwo 84 = .ok (.aload_n 1, 1) := by decide +kernel
theorem d_Ru_askTwo_85 : decode b_Ru_askTwo 85 = .ok (.aload_n 0, 1) := by decide +kernel
theorem d_Ru_askTwo_86 : decode b_Ru_askTwo 86 = .ok (.getfield 13, 3) := by decide +kernel
theorem d_Ru_askTwo_89 : decode b_Ru_askTwo 89 = .ok (.aload_n 3, 1) := by decide +kernel
theorem d_Ru_askTwo_90 : decode b_Ru_askTwo 90 = .ok (.aload 4, 2) := by decide +kernel
theorem d_Ru_askTwo_92 : decode b_Ru_askTwo 92 = .ok (.invokevirtual 202, 3) := by decide +kernel
theorem d_Ru_askTwo_95 : decode b_Ru_askTwo 95 = .ok (.invokestatic 175, 3) := by decide +kernel
theorem d_Ru_askTwo_98 : decode b_Ru_askTwo 98 = .ok (.ireturn, 1) := by decide +kernel
theorem d_Ru_askTwo_99 : decode b_Ru_askTwo 99 = .ok (.aload_n 1, 1) := by decide +kernel
theorem d_Ru_askTwo_100 : decode b_Ru_askTwo 100 = .ok (.aload_n 0, 1) := by decide +kernel
theorem d_Ru_askTwo_101 : decode b_Ru_askTwo 101 = .ok (.getfield 13, 3) := by decide +kernel
theorem d_Ru_askTwo_104 : decode b_Ru_askTwo 104 = .ok (.aload_n 3, 1) := by decide +kernel
theorem d_Ru_askTwo_105 : decode b_Ru_askTwo 105 = .ok (.aload 4, 2) := by decide +kernel
theorem d_Ru_askTwo_107 : decode b_Ru_askTwo 107 = .ok (.invokevirtual 206, 3) := by decide +kernel
theorem d_Ru_askTwo_110 : decode b_Ru_askTwo 110 = .ok (.invokestatic 175, 3) := by decide +kernel
theorem d_Ru_askTwo_113 : decode b_Ru_askTwo 113 = .ok (.ireturn, 1) := by decide +kernel
theorem d_Ru_askTwo_114 : decode b_Ru_askTwo 114 = .ok (.aload_n 1, 1) := by decide +kernel
theorem d_Ru_askTwo_115 : decode b_Ru_askTwo 115 = .ok (.aload_n 0, 1) := by decide +kernel
theorem d_Ru_askTwo_116 : decode b_Ru_askTwo 116 = .ok (.getfield 13, 3) := by decide +kernel
theorem d_Ru_askTwo_119 : decode b_Ru_askTwo 119 = .ok (.aload_n 3, 1) := by decide +kernel
theorem d_Ru_askTwo_120 : decode b_Ru_askTwo 120 = .ok (.aload 4, 2) := by decide +kernel
theorem d_Ru_askTwo_122 : decode b_Ru_askTwo 122 = .ok (.invokevirtual 209, 3) := by decide +kernel
theorem d_Ru_askTwo_125 : decode b_Ru_askTwo 125 = .ok (.invokestatic 175, 3) := by decide +kernel
theorem d_Ru_askTwo_128 : decode b_Ru_askTwo 128 = .ok (.ireturn, 1) := by decide +kernel
theorem d_Ru_askTwo_129 : decode b_Ru_askTwo 129 = .ok (.aload_n 1, 1) := by decide +kernel
theorem d_Ru_askTwo_130 : decode b_Ru_askTwo 130 = .ok (.aload_n 0, 1) := by decide +kernel
theorem d_Ru_askTwo_131 : decode b_Ru_askTwo 131 = .ok (.getfield 13, 3) := by decide +kernel
theorem d_Ru_askTwo_134 : decode b_Ru_askTwo 134 = .ok (.aload_n 3, 1) := by decide +kernel
theorem d_Ru_askTwo_135 : decode b_Ru_askTwo 135 = .ok (.aload 4, 2) := by decide +kernel
theorem d_Ru_askTwo_137 : decode b_Ru_askTwo 137 = .ok (.invokevirtual 212, 3) := by decide +kernel
theorem d_Ru_askTwo_140 : decode b_Ru_askTwo 140 = .ok (.invokevirtual 215, 3) := by decide +kernel
theorem d_Ru_askTwo_143 : decode b_Ru_askTwo 143 = .ok (.invokestatic 141, 3) := by decide +kernel
theorem d_Ru_askTwo_146 : decode b_Ru_askTwo 146 = .ok (.ireturn, 1) := by decide +kernel
theorem d_Ru_askTwo_147 : decode b_Ru_askTwo 147 = .ok (.aload_n 1, 1) := by decide +kernel
theorem d_Ru_askTwo_148 : decode b_Ru_askTwo 148 = .ok (.aload_n 0, 1) := by decide +kernel
theorem d_Ru_askTwo_149 : decode b_Ru_askTwo 149 = .ok (.getfield 13, 3) := by decide +kernel
theorem d_Ru_askTwo_152 : decode b_Ru_askTwo 152 = .ok (.aload_n 3, 1) := by decide +kernel
theorem d_Ru_askTwo_153 : decode b_Ru_askTwo 153 = .ok (.aload 4, 2) := by decide +kernel
theorem d_Ru_askTwo_155 : decode b_Ru_askTwo 155 = .ok (.invokevirtual 219, 3) := by decide +kernel
theorem d_Ru_askTwo_158 : decode b_Ru_askTwo 158 = .ok (.invokevirtual 215, 3) := by decide +kernel
theorem d_Ru_askTwo_161 : decode b_Ru_askTwo 161 = .ok (.invokestatic 141, 3) := by decide +kernel
theorem d_Ru_askTwo_164 : decode b_Ru_askTwo 164 = .ok (.ireturn, 1) := by decide +kernel
theorem d_Ru_askTwo_165 : decode b_Ru_askTwo 165 = .ok (.iconst 1, 1) := by decide +kernel
theorem d_Ru_askTwo_166 : decode b_Ru_askTwo 166 = .ok (.ireturn, 1) := by decide +kernel
set_option maxHeartbeats 4000000 in
set_option maxRecDepth 100000 in
theorem c_Ru_askTwo (l : Launch) (E : gh_E) (sz : Nat) (f : gh_F) (ρ Z : Nat → Nat) (q0 N : Nat) (cb bg : Nat → Nat) (φ b : Nat) (s0 e0 : Int32) (n u k : Nat) (v : vt) (T : sr) (F : Nat → Prop) (pt w9 it el gv pl va : Nat) (X Y : vt) (fi se : Option Nat) (hR : rn_R E ρ Z f q0 N cb bg φ b s0 e0) (hφb : φ + b ≤ 250) (hFb : ∀ j, F j → j < b) (hx9 : rs_x E ρ Z cb bg N f φ n u k v T F pt w9 it el gv pl va X Y fi se) (IH : rk_A l E ρ Z q0 N cb bg n) (hkd : 22 ≤ cb pt) : gh_M l y_Ru_askTwo b_Ru_askTwo 5 (some .int) E sz [.ref (Z 1), .ref (Z (1000 + k))] f { frames := 25 + 6 * n, cells := 3 * (min (sr_c T) φ + u), slots := 39 * (min (sr_c T) φ + u), locals := 870 + 200 * n } (rk_Q E ρ Z q0 N cb bg (n + 1) f φ b s0 e0 k v T F) := by
  obtain ⟨hs, ⟨hk250, hn19, hFk⟩, ⟨hqw, hq4, hq6⟩, ⟨hit, hel, hva⟩, ⟨q9, hq16, hzr, hgv⟩, hst⟩ := hx9
  have hkb := hFb k hFk
  have hptN := (qw_lt hqw).1
  have hX7 := (hit.le).2
  refine gh_open (by decide) (Nat.le_of_ble_eq_true rfl) ?_
  intro p e s m args below meth c A ls hAe C V hr hlocks hname hl
  have hx := C.1
  have hb := C.2.1
  have hl : lv_has ls 5 [(0, .ref (Z 1)), (1, .ref (Z (1000 + k)))] := hl
  have hRc := hR
  obtain ⟨h1R, ⟨hz, ⟨p206, p207⟩, ⟨gS, hgS, hgS2⟩, ⟨gG, hgG, hgG2⟩, hVR, hqR, hcdR, hbaR, hN60, hq0⟩, ⟨hgaV, hgaR⟩, hSR, hnon⟩ := hRc
  obtain ⟨pvsR, hvsR, hnuR, hnoR, hyeR, -⟩ := id hVR
  have hfr : gh_fr f f (rn_M ρ (20 - (n + 1)) b F) := gh_fr.rf
  have hpt60 : pt < 60 := by omega
  have hkd8 : cb pt = 8 ∨ cb pt = 11 ∨ 22 ≤ cb pt := by omega
  have hp26 := (qw_lt hqw).2
  have hprt : 0 < qy_parts (cb pt) := Nat.lt_of_lt_of_le (Nat.zero_lt_of_lt (nx_lt _ (by omega) hkd8 true)) (Nat.le_refl _)
  obtain ⟨Bs, hF9, hT, hcC⟩ : ∃ Bs, rk_F E ρ Z cb bg N f φ b n k fi se (bg (pt * 3 + 0)) X Y (sr_G (cb pt) (fun i Z W => sr_D cb bg n (bg (pt * 3 + i)) Z W) X Y) 0 0 Bs F ∧ T = Bs (sr_e (cb pt)) (sr_h (cb pt)) ∧ sr_c (Bs 0 (fun _ y => some y)) ≤ sr_c T := by
    rcases hst with ⟨hu, hg0, hp0, hf0, hs0, hv0, hT⟩ | ⟨hu, hg1, hrun⟩
    · refine ⟨fun e h => sr_fb e h (sr_G (cb pt) (fun i Z W => sr_D cb bg n (bg (pt * 3 + i)) Z W) X Y) (sr_D cb bg n (bg (pt * 3 + 0)) X Y), Or.inl ⟨hs0, rfl, _, fun _ => False, Or.inl ⟨hf0, rfl, rs_child hqw (by omega) hq6 hn19 hprt hX7, fun _ z => z⟩, fun _ z => z.elim, fun e h => sr_add_0.symm⟩, ?_, ?_⟩
      · rw [hT, sr_B_o, sr_part_8 hkd8]; rfl
      · rw [hT, sr_B_o, sr_part_8 hkd8]; exact sr_fb_le
    · obtain ⟨j1, v1, T1, F1, h1, h2, h3, h4, j2, v2, T2, F2, h5, h6, h7, h8, h9, h10⟩ := hrun.2.2.1 hkd8
      refine ⟨fun e h => sr_fe e h (sr_G (cb pt) (fun i Z W => sr_D cb bg n (bg (pt * 3 + i)) Z W) X Y) v1 T2 T1, Or.inr ⟨j1, j2, v1, v2, T1, T2, F1, F2, h1, h5, h2, h6, ⟨h3, h7, h4, h8, h9⟩, fun e h => sr_add_0.symm⟩, h10, ?_⟩
      rw [h10]; exact sr_fe_le
  have he1 : sr_e (cb pt) = 1 := by unfold sr_e; rw [if_neg (by omega)]
  have hh1 : ∀ x y, sr_h (cb pt) x y = sr_two (cb pt) x y := fun x y => by unfold sr_h; rw [if_neg (by omega)]
  refine lv_aload_n hx hb d_Ru_askTwo_0 rfl (lv_at hl 0 rfl) ?_
  refine lv_aload_n hx hb d_Ru_askTwo_1 rfl (lv_at hl 1 rfl) ?_
  refine gh_callV C V hl.1 m_Ru_askForEachFirst l_Ru_199 (c_Ru_askForEachFirst l E _ f ρ Z q0 N cb bg φ b s0 e0 n k pt w9 it el fi se (.int (nI gv)) (.int (nI pl)) (.ref va) X Y Bs F hR hφb hFb hFk hn19 hqw hq6 hs hit hel hF9 IH hkd8) rfl h1R gc_Ru ⟨by first | decide | omega | (dsimp only; omega), by first | decide | omega | (dsimp only; omega)⟩ ⟨by first | decide | omega | (dsimp only; omega), by first | decide | omega | (dsimp only; omega)⟩ (Nat.le_of_ble_eq_true rfl) rfl d_Ru_askTwo_2 (fun r gz1 H locs hp V => ?_)
  obtain ⟨φz1, bz1, foz1, soz1, hR, ⟨hbz1, hcz1⟩, hfrz1, hsz1, hPz1⟩ := hp
  have hfr : gh_fr f gz1 (rn_M ρ (20 - (n + 1)) b F) := hfr.tr hfrz1 (fun a _ _ z => rn_M.le (by omega) (fun i hi => Or.inl hi) (Nat.le_refl _) a z)
  have hit := hit.keep hfrz1 rn_M.P
  have hel := hel.keep hfrz1 rn_M.P
  have hva := hva.keep hfrz1 rn_M.P
  have hRc := hR
  obtain ⟨h1R, ⟨hz, ⟨p206, p207⟩, ⟨gS, hgS, hgS2⟩, ⟨gG, hgG, hgG2⟩, hVR, hqR, hcdR, hbaR, hN60, hq0⟩, ⟨hgaV, hgaR⟩, hSR, hnon⟩ := hRc
  obtain ⟨pvsR, hvsR, hnuR, hnoR, hyeR, -⟩ := id hVR
  rcases hPz1 with ⟨h1z1, rfl, h3z1⟩ | ⟨dz1, hTz1, hdz1, rfl, h3z1⟩ | ⟨dz1, hTz1, hdz1, rfl, h3z1⟩ | ⟨dz1, vz1, xz1, Tz2, Tz1, hTz1, hdz1, rfl, h3z1, j1, j2, F1, F2, hof, hos, hrs1, hrs2, hF1, hF2, hnk1, hnk2, hdis⟩
  · have h1T := h1z1 (sr_e (cb pt)) (sr_h (cb pt))
    rw [← hT] at h1T
    refine W.eq (g2 := F0 m 5 ls [.int 2]) rfl ?_
    refine lv_istore_n hx hb d_Ru_askTwo_5 rfl hl (by decide) rfl (fun ls hl => ?_)
    have hl : lv_has ls 5 [(2, .int 2), (0, .ref (Z 1)), (1, .ref (Z (1000 + k)))] := hl
    refine lv_iload_n hx hb d_Ru_askTwo_6 rfl (lv_at hl 0 rfl) ?_
    refine lv_iconst (v := 3) hx hb d_Ru_askTwo_7 (by decide) ?_
    refine lv_icmp_eq (tgt := 13) hx hb d_Ru_askTwo_8 (by decide) (fun c1 => absurd c1 (by decide)) (fun c1 => ?_)
    refine lv_iload_n hx hb d_Ru_askTwo_11 rfl (lv_at hl 0 rfl) ?_
    refine gh_reti hAe C V hr hlocks d_Ru_askTwo_12 (by first | decide | omega | (dsimp only; omega)) (by first | decide | omega | (dsimp only; omega)) ?_
    exact ⟨φz1, bz1, hR, ⟨by omega, by omega⟩, hfr, Or.inl ⟨by omega, rfl, by assumption⟩, fun z => absurd z (rv_ne (by decide))⟩
  · have hTe := hT.trans (hTz1 _ _)
    refine W.eq (g2 := F0 m 5 ls [.int 0]) rfl ?_
    refine lv_istore_n hx hb d_Ru_askTwo_5 rfl hl (by decide) rfl (fun ls hl => ?_)
    have hl : lv_has ls 5 [(2, .int 0), (0, .ref (Z 1)), (1, .ref (Z (1000 + k)))] := hl
    refine lv_iload_n hx hb d_Ru_askTwo_6 rfl (lv_at hl 0 rfl) ?_
    refine lv_iconst (v := 3) hx hb d_Ru_askTwo_7 (by decide) ?_
    refine lv_icmp_eq (tgt := 13) hx hb d_Ru_askTwo_8 (by decide) (fun c2 => absurd c2 (by decide)) (fun c2 => ?_)
    refine lv_iload_n hx hb d_Ru_askTwo_11 rfl (lv_at hl 0 rfl) ?_
    refine gh_reti hAe C V hr hlocks d_Ru_askTwo_12 (by first | decide | omega | (dsimp only; omega)) (by first | decide | omega | (dsimp only; omega)) ?_
    exact ⟨φz1, bz1, hR, ⟨by omega, by omega⟩, hfr, Or.inr (Or.inl ⟨dz1, hTe, by omega, rfl, by omega⟩), fun _ => ⟨_, _, _, _, _, _, _, _, va, hsz1, hva⟩⟩
  · have hTe := hT.trans (hTz1 _ _)
    refine W.eq (g2 := F0 m 5 ls [.int 1]) rfl ?_
    refine lv_istore_n hx hb d_Ru_askTwo_5 rfl hl (by decide) rfl (fun ls hl => ?_)
    have hl : lv_has ls 5 [(2, .int 1), (0, .ref (Z 1)), (1, .ref (Z (1000 + k)))] := hl
    refine lv_iload_n hx hb d_Ru_askTwo_6 rfl (lv_at hl 0 rfl) ?_
    refine lv_iconst (v := 3) hx hb d_Ru_askTwo_7 (by decide) ?_
    refine lv_icmp_eq (tgt := 13) hx hb d_Ru_askTwo_8 (by decide) (fun c3 => absurd c3 (by decide)) (fun c3 => ?_)
    refine lv_iload_n hx hb d_Ru_askTwo_11 rfl (lv_at hl 0 rfl) ?_
    refine gh_reti hAe C V hr hlocks d_Ru_askTwo_12 (by first | decide | omega | (dsimp only; omega)) (by first | decide | omega | (dsimp only; omega)) ?_
    exact ⟨φz1, bz1, hR, ⟨by omega, by omega⟩, hfr, Or.inr (Or.inr (Or.inl ⟨dz1, hTe, by omega, rfl, by omega⟩)), fun z => absurd z (rv_ne (by decide))⟩
  · subst hof
    subst hos
    obtain ⟨y1_0, y1_1, y1_2, y1_3, y1_4, y1_5, y1_6, y1_7, a1, hj1, hx1, hl1, hFj1⟩ := hrs1.val
    have hlt1 : ∀ i, F1 i → i < 250 := fun i hi => by rcases hF1 i hi with z | z; have := hFb i z; omega; omega
    obtain ⟨y2_0, y2_1, y2_2, y2_3, y2_4, y2_5, y2_6, y2_7, a2, hj2, hx2, hl2, hFj2⟩ := hrs2.val
    have hlt2 : ∀ i, F2 i → i < 250 := fun i hi => by rcases hF2 i hi with z | z; have := hFb i z; omega; omega
    have hTe := hT.trans (hTz1 (sr_e (cb pt)) (sr_h (cb pt)))
    have hcC1 : sr_c (Bs 0 (fun _ y => some y)) = dz1 := by rw [hTz1, sr_c_add, sr_fe_cc, Nat.add_zero]
    have hfk : gh_fr gz1 gz1 (rn_N ρ k) := gh_fr.rf
    refine W.eq (g2 := F0 m 5 ls [.int 3]) rfl ?_
    refine lv_istore_n hx hb d_Ru_askTwo_5 rfl hl (by decide) rfl (fun ls hl => ?_)
    have hl : lv_has ls 5 [(2, .int 3), (0, .ref (Z 1)), (1, .ref (Z (1000 + k)))] := hl
    refine lv_iload_n hx hb d_Ru_askTwo_6 rfl (lv_at hl 0 rfl) ?_
    refine lv_iconst (v := 3) hx hb d_Ru_askTwo_7 (by decide) ?_
    refine lv_icmp_eq (tgt := 13) hx hb d_Ru_askTwo_8 (by decide) (fun c4 => ?_) (fun c4 => absurd (by decide) c4)
    refine lv_aload_n hx hb d_Ru_askTwo_13 rfl (lv_at hl 1 rfl) ?_
    have hcT : sr_c T = dz1 + 1 := by rw [hTe, sr_c_add, sr_fe_cc, he1]
    refine gh_callV C V hl.1 m_Ru_pays l_Ru_71 (c_Ru_pays l E _ gz1 ρ Z q0 N cb bg φz1 bz1 s0 e0 hR (by omega)) rfl h1R gc_Ru ⟨by first | decide | omega | (dsimp only; omega), by first | decide | omega | (dsimp only; omega)⟩ ⟨by first | decide | omega | (dsimp only; omega), by first | decide | omega | (dsimp only; omega)⟩ (Nat.le_of_ble_eq_true rfl) rfl d_Ru_askTwo_14 (fun r g5 H locs hp V => ?_)
    by_cases hφ0 : φz1 = 0
    · obtain ⟨rfl, he9⟩ := hp.1 hφ0
      rw [he9] at V
      refine W.eq (g2 := F0 m 17 ls [.int 0]) rfl ?_
      refine lv_if_ne (tgt := 22) hx hb d_Ru_askTwo_17 (by decide) (fun c6 => absurd (by decide) c6) (fun c6 => ?_)
      refine lv_iconst (v := 2) hx hb d_Ru_askTwo_20 (by decide) ?_
      refine gh_reti hAe C V hr hlocks d_Ru_askTwo_21 (by first | decide | omega | (dsimp only; omega)) (by first | decide | omega | (dsimp only; omega)) ?_
      exact ⟨φz1, bz1, hR, ⟨by omega, by omega⟩, hfr, Or.inl ⟨by omega, rfl, by assumption⟩, fun z => absurd z (rv_ne (by decide))⟩
    · obtain ⟨rfl, hR, hfr9⟩ := hp.2 (by omega)
      refine W.eq (g2 := F0 m 17 ls [.int 1]) rfl ?_
      have hfN := hfr9.wide (N := rn_N ρ k) (fun a z => Or.inl z)
      have hfk : gh_fr gz1 g5 (rn_N ρ k) := hfk.tr hfN (fun _ _ _ z => z)
      have hfr : gh_fr f g5 (rn_M ρ (20 - (n + 1)) b F) := hfr.tr hfN (fun a _ _ z => rn_N.M hFk a z)
      have hit := hit.keep hfN rn_N.P
      have hel := hel.keep hfN rn_N.P
      have h_Z__1000___k__g5 := hfr9.at hsz1 (fun z => by have e9 := hz (1000 + k) (by unfold rU; omega); have z : ρ (Z (1000 + k)) = 1 := z; omega)
      have h_Z__1000___j1__g5 := hfr9.at hj1 (fun z => by have e9 := hz (1000 + j1) (by unfold rU; omega); have z : ρ (Z (1000 + j1)) = 1 := z; omega)
      have h_Z__1000___j2__g5 := hfr9.at hj2 (fun z => by have e9 := hz (1000 + j2) (by unfold rU; omega); have z : ρ (Z (1000 + j2)) = 1 := z; omega)
      have hRc := hR
      obtain ⟨h1R, ⟨hz, ⟨p206, p207⟩, ⟨gS, hgS, hgS2⟩, ⟨gG, hgG, hgG2⟩, hVR, hqR, hcdR, hbaR, hN60, hq0⟩, ⟨hgaV, hgaR⟩, hSR, hnon⟩ := hRc
      obtain ⟨pvsR, hvsR, hnuR, hnoR, hyeR, -⟩ := id hVR
      refine lv_if_ne (tgt := 22) hx hb d_Ru_askTwo_17 (by decide) (fun c7 => ?_) (fun c7 => absurd c7 (by decide))
      refine lv_aload_n hx hb d_Ru_askTwo_22 rfl (lv_at hl 2 rfl) ?_
      refine gh_get C V h_Z__1000___k__g5 gc_St gi_St 4 (by decide) f_Ru_87 rfl rfl d_Ru_askTwo_23 ?_
      refine gh_get C V h_Z__1000___j1__g5 gc_St gi_St 8 (by decide) f_Ru_68 rfl rfl d_Ru_askTwo_26 ?_
      refine lv_astore_n hx hb d_Ru_askTwo_29 rfl hl (by decide) rfl (fun ls hl => ?_)
      have hl : lv_has ls 5 [(3, .ref a1), (2, .int 3), (0, .ref (Z 1)), (1, .ref (Z (1000 + k)))] := hl
      refine lv_aload_n hx hb d_Ru_askTwo_30 rfl (lv_at hl 3 rfl) ?_
      refine gh_get C V h_Z__1000___k__g5 gc_St gi_St 5 (by decide) f_Ru_91 rfl rfl d_Ru_askTwo_31 ?_
      refine gh_get C V h_Z__1000___j2__g5 gc_St gi_St 8 (by decide) f_Ru_68 rfl rfl d_Ru_askTwo_34 ?_
      refine lv_astore hx hb d_Ru_askTwo_37 hl (by decide) rfl (fun ls hl => ?_)
      have hl : lv_has ls 5 [(4, .ref a2), (3, .ref a1), (2, .int 3), (0, .ref (Z 1)), (1, .ref (Z (1000 + k)))] := hl
      refine lv_aload_n hx hb d_Ru_askTwo_39 rfl (lv_at hl 3 rfl) ?_
      refine gh_get C V h1R gc_Ru gi_Ru 4 (by decide) f_Ru_44 rfl rfl d_Ru_askTwo_40 ?_
      refine lv_aload_n hx hb d_Ru_askTwo_43 rfl (lv_at hl 4 rfl) ?_
      refine gh_get C V h_Z__1000___k__g5 gc_St gi_St 0 (by decide) f_Ru_75 rfl rfl d_Ru_askTwo_44 ?_
      refine gh_callV C V hl.1 m_Qu_partAt l_Ru_100 (c_Qu_partAt l E _ g5 (Z q0) (Z (q0 + 1)) (Z (q0 + 2)) N cb bg pt hN60 hqR hcdR hbaR hptN) rfl hqR gc_Qu ⟨by first | decide | omega | (dsimp only; omega), by first | decide | omega | (dsimp only; omega)⟩ ⟨by first | decide | omega | (dsimp only; omega), by first | decide | omega | (dsimp only; omega)⟩ (Nat.le_of_ble_eq_true rfl) rfl d_Ru_askTwo_47 (fun r z9 H locs hp V => ?_)
      obtain ⟨rfl, he9⟩ := hp
      rw [he9] at V
      refine W.eq (g2 := F0 m 50 ls [.int (nI (cb pt))]) rfl ?_
      have hx1k := hx1.keep hfk rn_N.P
      have hx2k := hx2.keep hfk rn_N.P
      rcases (show cb pt = 22 ∨ cb pt = 23 ∨ cb pt = 24 ∨ cb pt = 25 ∨ cb pt = 26 by omega) with hk | hk | hk | hk | hk
      · rw [hk]
        refine lv_tableIn (off := 34) (tgt := 84) hx hb d_Ru_askTwo_50 (by decide) (by decide) (by decide) (by decide) ?_
        have h2e : sr_h (cb pt) vz1 xz1 = vt_sum vz1 xz1 := by rw [hh1]; unfold sr_two; rw [if_pos hk]
        refine lv_aload_n hx hb d_Ru_askTwo_84 rfl (lv_at hl 4 rfl) ?_
        refine lv_aload_n hx hb d_Ru_askTwo_85 rfl (lv_at hl 3 rfl) ?_
        refine gh_get C V h1R gc_Ru gi_Ru 0 (by decide) f_Ru_13 rfl rfl d_Ru_askTwo_86 ?_
        refine lv_aload_n hx hb d_Ru_askTwo_89 rfl (lv_at hl 1 rfl) ?_
        refine lv_aload hx hb d_Ru_askTwo_90 (lv_at hl 0 rfl) ?_
        refine gh_callV C V hl.1 m_Vs_sum l_Ru_202 (c_Vs_sum l E _ g5 (rP ρ) (Z 200) (Z 201) (Z 202) (Z 203) (Z 204) (Z 205) (Z 3) (Z 4) (Z 5) a1 a2 vz1 xz1 hVR hnon hgaV hx1k hx2k) rfl hvsR gc_Vs ⟨by first | decide | omega | (dsimp only; omega), by first | decide | omega | (dsimp only; omega)⟩ ⟨by first | decide | omega | (dsimp only; omega), by first | decide | omega | (dsimp only; omega)⟩ (Nat.le_of_ble_eq_true rfl) rfl d_Ru_askTwo_92 (fun r g9 H locs hp V => ?_)
        obtain ⟨hva, hga9, hfr9⟩ := hp
        have hR := hR.keepV hfr9 hga9
        have hfN := hfr9.wide (N := rn_N ρ k) (fun a z => ga_MZ hz a z)
        have hfk : gh_fr gz1 g9 (rn_N ρ k) := hfk.tr hfN (fun _ _ _ z => z)
        have hfr : gh_fr f g9 (rn_M ρ (20 - (n + 1)) b F) := hfr.tr hfN (fun a _ _ z => rn_N.M hFk a z)
        have hit := hit.keep hfN rn_N.P
        have hel := hel.keep hfN rn_N.P
        have hs := hfr9.at h_Z__1000___k__g5 (fun z => rn_N.st (k := k + 1) hz hk250 (by omega) (ga_MZ hz _ z))
        have hRc := hR
        obtain ⟨h1R, ⟨hz, ⟨p206, p207⟩, ⟨gS, hgS, hgS2⟩, ⟨gG, hgG, hgG2⟩, hVR, hqR, hcdR, hbaR, hN60, hq0⟩, ⟨hgaV, hgaR⟩, hSR, hnon⟩ := hRc
        obtain ⟨pvsR, hvsR, hnuR, hnoR, hyeR, -⟩ := id hVR
        cases ho : vt_sum vz1 xz1 with
        | none =>
          rw [ho] at hva
          have hva : r = some .null := hva
          subst hva
          refine W.eq (g2 := F0 m 95 ls [.null, .ref (Z (1000 + k))]) rfl ?_
          refine gh_callS C V hl.1 m_Ru_givesOrFails l_Ru_175 (c_Ru_givesOrFails0 l E _ g9 (Z (1000 + k))) rfl ⟨by first | decide | omega | (dsimp only; omega), by first | decide | omega | (dsimp only; omega)⟩ ⟨by first | decide | omega | (dsimp only; omega), by first | decide | omega | (dsimp only; omega)⟩ (Nat.le_of_ble_eq_true rfl) rfl d_Ru_askTwo_95 (fun r z9 H locs hp V => ?_)
          obtain ⟨rfl, he9⟩ := hp
          rw [he9] at V
          refine W.eq (g2 := F0 m 98 ls [.int 1]) rfl ?_
          refine gh_reti hAe C V hr hlocks d_Ru_askTwo_98 (by first | decide | omega | (dsimp only; omega)) (by first | decide | omega | (dsimp only; omega)) ?_
          exact ⟨φz1 - 1, bz1, hR, ⟨by omega, by omega⟩, hfr, Or.inr (Or.inr (Or.inl ⟨dz1 + 1, by rw [hTe, sr_fe_none (h2e.trans ho), sr_add_fail, he1], by omega, rfl, by omega⟩)), fun z => absurd z (rv_ne (by decide))⟩
        | some M9 =>
          rw [ho] at hva
          obtain ⟨b9, rfl, hb9⟩ := hva
          refine W.eq (g2 := F0 m 95 ls [.ref b9, .ref (Z (1000 + k))]) rfl ?_
          refine gh_callS C V hl.1 m_Ru_givesOrFails l_Ru_175 (c_Ru_givesOrFails l E _ g9 ρ Z q0 N cb bg (φz1 - 1) bz1 s0 e0 k b9 gv _ _ _ _ _ _ _ _ hR hk250 hs) rfl ⟨by first | decide | omega | (dsimp only; omega), by first | decide | omega | (dsimp only; omega)⟩ ⟨by first | decide | omega | (dsimp only; omega), by first | decide | omega | (dsimp only; omega)⟩ (Nat.le_of_ble_eq_true rfl) rfl d_Ru_askTwo_95 (fun r g8 H locs hp V => ?_)
          obtain ⟨rfl, hR, hs, hfrg⟩ := hp
          refine W.eq (g2 := F0 m 98 ls [.int 3]) rfl ?_
          have hMg : ∀ a, ρ a = 1000 + k → ¬ rP ρ a := fun a z z2 => by have z2 : ρ a = 0 := z2; omega
          have hfr : gh_fr f g8 (rn_M ρ (20 - (n + 1)) b F) := hfr.tr hfrg (fun a _ _ z => Or.inr (Or.inr (Or.inr (Or.inr ⟨k, hFk, z⟩))))
          have hit := hit.keep hfrg hMg
          have hel := hel.keep hfrg hMg
          refine gh_reti hAe C V hr hlocks d_Ru_askTwo_98 (by first | decide | omega | (dsimp only; omega)) (by first | decide | omega | (dsimp only; omega)) ?_
          have hfk := hfk.tr hfrg (fun a _ _ z => Or.inr (Or.inr z))
          have hTe0 := hTe
          have hTe : T = sr_cons (dz1 + 1) M9 (sr_fe (sr_e (cb pt)) (sr_h (cb pt)) (sr_G (cb pt) (fun i Z W => sr_D cb bg n (bg (pt * 3 + i)) Z W) X Y) vz1 Tz2 Tz1) := by rw [hTe0, sr_fe_some (h2e.trans ho), sr_add_cons, he1]
          have hzr1 := hzr
          rw [hTe] at hzr1
          exact ⟨φz1 - 1, bz1, hR, ⟨by omega, by omega⟩, hfr, Or.inr (Or.inr (Or.inr ⟨dz1 + 1, M9, sr_fe (sr_e (cb pt)) (sr_h (cb pt)) (sr_G (cb pt) (fun i Z W => sr_D cb bg n (bg (pt * 3 + i)) Z W) X Y) vz1 Tz2 Tz1, hTe, by omega, rfl, by omega, fun i => F i ∨ (b ≤ i ∧ i < bz1), rs_mk hs ⟨hk250, hn19, Or.inl hFk⟩ ⟨hqw, hq4, hq6⟩ hit hel (hb9.keep hfrg hMg) hq16 hzr1 hgv (by omega) (by omega) (rs_run_8 hkd8 ⟨j1, vz1, Tz1, F1, rfl, (hrs1.keep hfk rn_N.P (by omega) (fun i hi => rn_N.st hz (hlt1 i hi) (fun z => hnk1 (z ▸ hi)))), fun i hi => hF1 i hi, hnk1, j2, xz1, Tz2, F2, rfl, (hrs2.keep hfk rn_N.P (by omega) (fun i hi => rn_N.st hz (hlt2 i hi) (fun z => hnk2 (z ▸ hi)))), fun i hi => hF2 i hi, hnk2, hdis, rfl⟩), fun _ z => z⟩)), fun z => absurd z (rv_ne (by decide))⟩
      · rw [hk]
        refine lv_tableIn (off := 49) (tgt := 99) hx hb d_Ru_askTwo_50 (by decide) (by decide) (by decide) (by decide) ?_
        have h2e : sr_h (cb pt) vz1 xz1 = vt_dif vz1 xz1 := by rw [hh1]; unfold sr_two; rw [if_neg (by omega), if_pos hk]
        refine lv_aload_n hx hb d_Ru_askTwo_99 rfl (lv_at hl 4 rfl) ?_
        refine lv_aload_n hx hb d_Ru_askTwo_100 rfl (lv_at hl 3 rfl) ?_
        refine gh_get C V h1R gc_Ru gi_Ru 0 (by decide) f_Ru_13 rfl rfl d_Ru_askTwo_101 ?_
        refine lv_aload_n hx hb d_Ru_askTwo_104 rfl (lv_at hl 1 rfl) ?_
        refine lv_aload hx hb d_Ru_askTwo_105 (lv_at hl 0 rfl) ?_
        refine gh_callV C V hl.1 m_Vs_difference l_Ru_206 (c_Vs_difference l E _ g5 (rP ρ) (Z 200) (Z 201) (Z 202) (Z 203) (Z 204) (Z 205) (Z 3) a1 a2 vz1 xz1 hVR hnon hx1k hx2k) rfl hvsR gc_Vs ⟨by first | decide | omega | (dsimp only; omega), by first | decide | omega | (dsimp only; omega)⟩ ⟨by first | decide | omega | (dsimp only; omega), by first | decide | omega | (dsimp only; omega)⟩ (Nat.le_of_ble_eq_true rfl) rfl d_Ru_askTwo_107 (fun r g9 H locs hp V => ?_)
        obtain ⟨hva, hfr9⟩ := hp
        have hR := hR.keep0 hfr9
        have hfN := hfr9.wide (N := rn_N ρ k) (fun a z => absurd z (by simp))
        have hfk : gh_fr gz1 g9 (rn_N ρ k) := hfk.tr hfN (fun _ _ _ z => z)
        have hfr : gh_fr f g9 (rn_M ρ (20 - (n + 1)) b F) := hfr.tr hfN (fun a _ _ z => rn_N.M hFk a z)
        have hit := hit.keep hfN rn_N.P
        have hel := hel.keep hfN rn_N.P
        have hs := hfr9.at h_Z__1000___k__g5 (by simp)
        have hRc := hR
        obtain ⟨h1R, ⟨hz, ⟨p206, p207⟩, ⟨gS, hgS, hgS2⟩, ⟨gG, hgG, hgG2⟩, hVR, hqR, hcdR, hbaR, hN60, hq0⟩, ⟨hgaV, hgaR⟩, hSR, hnon⟩ := hRc
        obtain ⟨pvsR, hvsR, hnuR, hnoR, hyeR, -⟩ := id hVR
        cases ho : vt_dif vz1 xz1 with
        | none =>
          rw [ho] at hva
          have hva : r = some .null := hva
          subst hva
          refine W.eq (g2 := F0 m 110 ls [.null, .ref (Z (1000 + k))]) rfl ?_
          refine gh_callS C V hl.1 m_Ru_givesOrFails l_Ru_175 (c_Ru_givesOrFails0 l E _ g9 (Z (1000 + k))) rfl ⟨by first | decide | omega | (dsimp only; omega), by first | decide | omega | (dsimp only; omega)⟩ ⟨by first | decide | omega | (dsimp only; omega), by first | decide | omega | (dsimp only; omega)⟩ (Nat.le_of_ble_eq_true rfl) rfl d_Ru_askTwo_110 (fun r z9 H locs hp V => ?_)
          obtain ⟨rfl, he9⟩ := hp
          rw [he9] at V
          refine W.eq (g2 := F0 m 113 ls [.int 1]) rfl ?_
          refine gh_reti hAe C V hr hlocks d_Ru_askTwo_113 (by first | decide | omega | (dsimp only; omega)) (by first | decide | omega | (dsimp only; omega)) ?_
          exact ⟨φz1 - 1, bz1, hR, ⟨by omega, by omega⟩, hfr, Or.inr (Or.inr (Or.inl ⟨dz1 + 1, by rw [hTe, sr_fe_none (h2e.trans ho), sr_add_fail, he1], by omega, rfl, by omega⟩)), fun z => absurd z (rv_ne (by decide))⟩
        | some M9 =>
          rw [ho] at hva
          obtain ⟨b9, rfl, hb9⟩ := hva
          refine W.eq (g2 := F0 m 110 ls [.ref b9, .ref (Z (1000 + k))]) rfl ?_
          refine gh_callS C V hl.1 m_Ru_givesOrFails l_Ru_175 (c_Ru_givesOrFails l E _ g9 ρ Z q0 N cb bg (φz1 - 1) bz1 s0 e0 k b9 gv _ _ _ _ _ _ _ _ hR hk250 hs) rfl ⟨by first | decide | omega | (dsimp only; omega), by first | decide | omega | (dsimp only; omega)⟩ ⟨by first | decide | omega | (dsimp only; omega), by first | decide | omega | (dsimp only; omega)⟩ (Nat.le_of_ble_eq_true rfl) rfl d_Ru_askTwo_110 (fun r g9 H locs hp V => ?_)
          obtain ⟨rfl, hR, hs, hfrg⟩ := hp
          refine W.eq (g2 := F0 m 113 ls [.int 3]) rfl ?_
          have hMg : ∀ a, ρ a = 1000 + k → ¬ rP ρ a := fun a z z2 => by have z2 : ρ a = 0 := z2; omega
          have hfr : gh_fr f g9 (rn_M ρ (20 - (n + 1)) b F) := hfr.tr hfrg (fun a _ _ z => Or.inr (Or.inr (Or.inr (Or.inr ⟨k, hFk, z⟩))))
          have hit := hit.keep hfrg hMg
          have hel := hel.keep hfrg hMg
          refine gh_reti hAe C V hr hlocks d_Ru_askTwo_113 (by first | decide | omega | (dsimp only; omega)) (by first | decide | omega | (dsimp only; omega)) ?_
          have hfk := hfk.tr hfrg (fun a _ _ z => Or.inr (Or.inr z))
          have hTe0 := hTe
          have hTe : T = sr_cons (dz1 + 1) M9 (sr_fe (sr_e (cb pt)) (sr_h (cb pt)) (sr_G (cb pt) (fun i Z W => sr_D cb bg n (bg (pt * 3 + i)) Z W) X Y) vz1 Tz2 Tz1) := by rw [hTe0, sr_fe_some (h2e.trans ho), sr_add_cons, he1]
          have hzr1 := hzr
          rw [hTe] at hzr1
          exact ⟨φz1 - 1, bz1, hR, ⟨by omega, by omega⟩, hfr, Or.inr (Or.inr (Or.inr ⟨dz1 + 1, M9, sr_fe (sr_e (cb pt)) (sr_h (cb pt)) (sr_G (cb pt) (fun i Z W => sr_D cb bg n (bg (pt * 3 + i)) Z W) X Y) vz1 Tz2 Tz1, hTe, by omega, rfl, by omega, fun i => F i ∨ (b ≤ i ∧ i < bz1), rs_mk hs ⟨hk250, hn19, Or.inl hFk⟩ ⟨hqw, hq4, hq6⟩ hit hel (hb9.keep hfrg hMg) hq16 hzr1 hgv (by omega) (by omega) (rs_run_8 hkd8 ⟨j1, vz1, Tz1, F1, rfl, (hrs1.keep hfk rn_N.P (by omega) (fun i hi => rn_N.st hz (hlt1 i hi) (fun z => hnk1 (z ▸ hi)))), fun i hi => hF1 i hi, hnk1, j2, xz1, Tz2, F2, rfl, (hrs2.keep hfk rn_N.P (by omega) (fun i hi => rn_N.st hz (hlt2 i hi) (fun z => hnk2 (z ▸ hi)))), fun i hi => hF2 i hi, hnk2, hdis, rfl⟩), fun _ z => z⟩)), fun z => absurd z (rv_ne (by decide))⟩
      · rw [hk]
        refine lv_tableIn (off := 64) (tgt := 114) hx hb d_Ru_askTwo_50 (by decide) (by decide) (by decide) (by decide) ?_
        have h2e : sr_h (cb pt) vz1 xz1 = vt_mul vz1 xz1 := by rw [hh1]; unfold sr_two; rw [if_neg (by omega), if_neg (by omega), if_pos hk]
        refine lv_aload_n hx hb d_Ru_askTwo_114 rfl (lv_at hl 4 rfl) ?_
        refine lv_aload_n hx hb d_Ru_askTwo_115 rfl (lv_at hl 3 rfl) ?_
        refine gh_get C V h1R gc_Ru gi_Ru 0 (by decide) f_Ru_13 rfl rfl d_Ru_askTwo_116 ?_
        refine lv_aload_n hx hb d_Ru_askTwo_119 rfl (lv_at hl 1 rfl) ?_
        refine lv_aload hx hb d_Ru_askTwo_120 (lv_at hl 0 rfl) ?_
        refine gh_callV C V hl.1 m_Vs_product l_Ru_209 (c_Vs_product l E _ g5 (rP ρ) (Z 200) (Z 201) (Z 202) (Z 203) (Z 204) (Z 205) (Z 3) a1 a2 vz1 xz1 hVR hnon hx1k hx2k) rfl hvsR gc_Vs ⟨by first | decide | omega | (dsimp only; omega), by first | decide | omega | (dsimp only; omega)⟩ ⟨by first | decide | omega | (dsimp only; omega), by first | decide | omega | (dsimp only; omega)⟩ (Nat.le_of_ble_eq_true rfl) rfl d_Ru_askTwo_122 (fun r g9 H locs hp V => ?_)
        obtain ⟨hva, hfr9⟩ := hp
        have hR := hR.keep0 hfr9
        have hfN := hfr9.wide (N := rn_N ρ k) (fun a z => absurd z (by simp))
        have hfk : gh_fr gz1 g9 (rn_N ρ k) := hfk.tr hfN (fun _ _ _ z => z)
        have hfr : gh_fr f g9 (rn_M ρ (20 - (n + 1)) b F) := hfr.tr hfN (fun a _ _ z => rn_N.M hFk a z)
        have hit := hit.keep hfN rn_N.P
        have hel := hel.keep hfN rn_N.P
        have hs := hfr9.at h_Z__1000___k__g5 (by simp)
        have hRc := hR
        obtain ⟨h1R, ⟨hz, ⟨p206, p207⟩, ⟨gS, hgS, hgS2⟩, ⟨gG, hgG, hgG2⟩, hVR, hqR, hcdR, hbaR, hN60, hq0⟩, ⟨hgaV, hgaR⟩, hSR, hnon⟩ := hRc
        obtain ⟨pvsR, hvsR, hnuR, hnoR, hyeR, -⟩ := id hVR
        cases ho : vt_mul vz1 xz1 with
        | none =>
          rw [ho] at hva
          have hva : r = some .null := hva
          subst hva
          refine W.eq (g2 := F0 m 125 ls [.null, .ref (Z (1000 + k))]) rfl ?_
          refine gh_callS C V hl.1 m_Ru_givesOrFails l_Ru_175 (c_Ru_givesOrFails0 l E _ g9 (Z (1000 + k))) rfl ⟨by first | decide | omega | (dsimp only; omega), by first | decide | omega | (dsimp only; omega)⟩ ⟨by first | decide | omega | (dsimp only; omega), by first | decide | omega | (dsimp only; omega)⟩ (Nat.le_of_ble_eq_true rfl) rfl d_Ru_askTwo_125 (fun r z9 H locs hp V => ?_)
          obtain ⟨rfl, he9⟩ := hp
          rw [he9] at V
          refine W.eq (g2 := F0 m 128 ls [.int 1]) rfl ?_
          refine gh_reti hAe C V hr hlocks d_Ru_askTwo_128 (by first | decide | omega | (dsimp only; omega)) (by first | decide | omega | (dsimp only; omega)) ?_
          exact ⟨φz1 - 1, bz1, hR, ⟨by omega, by omega⟩, hfr, Or.inr (Or.inr (Or.inl ⟨dz1 + 1, by rw [hTe, sr_fe_none (h2e.trans ho), sr_add_fail, he1], by omega, rfl, by omega⟩)), fun z => absurd z (rv_ne (by decide))⟩
        | some M9 =>
          rw [ho] at hva
          obtain ⟨b9, rfl, hb9⟩ := hva
          refine W.eq (g2 := F0 m 125 ls [.ref b9, .ref (Z (1000 + k))]) rfl ?_
          refine gh_callS C V hl.1 m_Ru_givesOrFails l_Ru_175 (c_Ru_givesOrFails l E _ g9 ρ Z q0 N cb bg (φz1 - 1) bz1 s0 e0 k b9 gv _ _ _ _ _ _ _ _ hR hk250 hs) rfl ⟨by first | decide | omega | (dsimp only; omega), by first | decide | omega | (dsimp only; omega)⟩ ⟨by first | decide | omega | (dsimp only; omega), by first | decide | omega | (dsimp only; omega)⟩ (Nat.le_of_ble_eq_true rfl) rfl d_Ru_askTwo_125 (fun r g10 H locs hp V => ?_)
          obtain ⟨rfl, hR, hs, hfrg⟩ := hp
          refine W.eq (g2 := F0 m 128 ls [.int 3]) rfl ?_
          have hMg : ∀ a, ρ a = 1000 + k → ¬ rP ρ a := fun a z z2 => by have z2 : ρ a = 0 := z2; omega
          have hfr : gh_fr f g10 (rn_M ρ (20 - (n + 1)) b F) := hfr.tr hfrg (fun a _ _ z => Or.inr (Or.inr (Or.inr (Or.inr ⟨k, hFk, z⟩))))
          have hit := hit.keep hfrg hMg
          have hel := hel.keep hfrg hMg
          refine gh_reti hAe C V hr hlocks d_Ru_askTwo_128 (by first | decide | omega | (dsimp only; omega)) (by first | decide | omega | (dsimp only; omega)) ?_
          have hfk := hfk.tr hfrg (fun a _ _ z => Or.inr (Or.inr z))
          have hTe0 := hTe
          have hTe : T = sr_cons (dz1 + 1) M9 (sr_fe (sr_e (cb pt)) (sr_h (cb pt)) (sr_G (cb pt) (fun i Z W => sr_D cb bg n (bg (pt * 3 + i)) Z W) X Y) vz1 Tz2 Tz1) := by rw [hTe0, sr_fe_some (h2e.trans ho), sr_add_cons, he1]
          have hzr1 := hzr
          rw [hTe] at hzr1
          exact ⟨φz1 - 1, bz1, hR, ⟨by omega, by omega⟩, hfr, Or.inr (Or.inr (Or.inr ⟨dz1 + 1, M9, sr_fe (sr_e (cb pt)) (sr_h (cb pt)) (sr_G (cb pt) (fun i Z W => sr_D cb bg n (bg (pt * 3 + i)) Z W) X Y) vz1 Tz2 Tz1, hTe, by omega, rfl, by omega, fun i => F i ∨ (b ≤ i ∧ i < bz1), rs_mk hs ⟨hk250, hn19, Or.inl hFk⟩ ⟨hqw, hq4, hq6⟩ hit hel (hb9.keep hfrg hMg) hq16 hzr1 hgv (by omega) (by omega) (rs_run_8 hkd8 ⟨j1, vz1, Tz1, F1, rfl, (hrs1.keep hfk rn_N.P (by omega) (fun i hi => rn_N.st hz (hlt1 i hi) (fun z => hnk1 (z ▸ hi)))), fun i hi => hF1 i hi, hnk1, j2, xz1, Tz2, F2, rfl, (hrs2.keep hfk rn_N.P (by omega) (fun i hi => rn_N.st hz (hlt2 i hi) (fun z => hnk2 (z ▸ hi)))), fun i hi => hF2 i hi, hnk2, hdis, rfl⟩), fun _ z => z⟩)), fun z => absurd z (rv_ne (by decide))⟩
      · rw [hk]
        refine lv_tableIn (off := 79) (tgt := 129) hx hb d_Ru_askTwo_50 (by decide) (by decide) (by decide) (by decide) ?_
        have h2e : sr_h (cb pt) vz1 xz1 = some (vt_0 (if vt_sm 8 vz1 xz1 then 2 else 1)) := by rw [hh1]; unfold sr_two; rw [if_neg (by omega), if_neg (by omega), if_neg (by omega), if_pos hk]
        refine lv_aload_n hx hb d_Ru_askTwo_129 rfl (lv_at hl 4 rfl) ?_
        refine lv_aload_n hx hb d_Ru_askTwo_130 rfl (lv_at hl 3 rfl) ?_
        refine gh_get C V h1R gc_Ru gi_Ru 0 (by decide) f_Ru_13 rfl rfl d_Ru_askTwo_131 ?_
        refine lv_aload_n hx hb d_Ru_askTwo_134 rfl (lv_at hl 1 rfl) ?_
        refine lv_aload hx hb d_Ru_askTwo_135 (lv_at hl 0 rfl) ?_
        obtain ⟨vs9, hvs9⟩ := hx1k.cell
        refine gh_callV C V hl.1 m_Va_isSameAs l_Ru_212 (c_Va_isSameAs l E _ g5 (rP ρ) a1 vz1 a2 xz1 hx1k hx2k) rfl hvs9 gc_Va ⟨by first | decide | omega | (dsimp only; omega), by first | decide | omega | (dsimp only; omega)⟩ ⟨by first | decide | omega | (dsimp only; omega), by first | decide | omega | (dsimp only; omega)⟩ (Nat.le_of_ble_eq_true rfl) rfl d_Ru_askTwo_137 (fun r z9 H locs hp V => ?_)
        obtain ⟨rfl, he9⟩ := hp
        rw [he9] at V
        refine W.eq (g2 := F0 m 140 ls [.int (gh_bi (vt_sm 8 vz1 xz1)), .ref (Z 200), .ref (Z (1000 + k))]) rfl ?_
        refine gh_callV C V hl.1 m_Vs_truth l_Ru_215 (c_Vs_truth l E _ g5 (rP ρ) (Z 200) (Z 201) (Z 202) (Z 203) (Z 204) (Z 205) (Z 3) (vt_sm 8 vz1 xz1) hVR hnon) rfl hvsR gc_Vs ⟨by first | decide | omega | (dsimp only; omega), by first | decide | omega | (dsimp only; omega)⟩ ⟨by first | decide | omega | (dsimp only; omega), by first | decide | omega | (dsimp only; omega)⟩ (Nat.le_of_ble_eq_true rfl) rfl d_Ru_askTwo_140 (fun r z9 H locs hp V => ?_)
        obtain ⟨⟨b9, rfl, hb9⟩, he9⟩ := hp
        rw [he9] at V hb9
        refine W.eq (g2 := F0 m 143 ls [.ref b9, .ref (Z (1000 + k))]) rfl ?_
        refine gh_callS C V hl.1 m_Ru_gives l_Ru_141 (c_Ru_gives l E _ g5 ρ Z q0 N cb bg (φz1 - 1) bz1 s0 e0 k b9 gv _ _ _ _ _ _ _ _ hR hk250 h_Z__1000___k__g5) rfl ⟨by first | decide | omega | (dsimp only; omega), by first | decide | omega | (dsimp only; omega)⟩ ⟨by first | decide | omega | (dsimp only; omega), by first | decide | omega | (dsimp only; omega)⟩ (Nat.le_of_ble_eq_true rfl) rfl d_Ru_askTwo_143 (fun r g11 H locs hp V => ?_)
        obtain ⟨rfl, hR, hs, hfrg⟩ := hp
        refine W.eq (g2 := F0 m 146 ls [.int 3]) rfl ?_
        have hMg : ∀ a, ρ a = 1000 + k → ¬ rP ρ a := fun a z z2 => by have z2 : ρ a = 0 := z2; omega
        have hfr : gh_fr f g11 (rn_M ρ (20 - (n + 1)) b F) := hfr.tr hfrg (fun a _ _ z => Or.inr (Or.inr (Or.inr (Or.inr ⟨k, hFk, z⟩))))
        have hit := hit.keep hfrg hMg
        have hel := hel.keep hfrg hMg
        refine gh_reti hAe C V hr hlocks d_Ru_askTwo_146 (by first | decide | omega | (dsimp only; omega)) (by first | decide | omega | (dsimp only; omega)) ?_
        have hfk := hfk.tr hfrg (fun a _ _ z => Or.inr (Or.inr z))
        have hTe0 := hTe
        have hTe : T = sr_cons (dz1 + 1) ((vt_0 (if vt_sm 8 vz1 xz1 then 2 else 1))) (sr_fe (sr_e (cb pt)) (sr_h (cb pt)) (sr_G (cb pt) (fun i Z W => sr_D cb bg n (bg (pt * 3 + i)) Z W) X Y) vz1 Tz2 Tz1) := by rw [hTe0, sr_fe_some (h2e), sr_add_cons, he1]
        have hzr1 := hzr
        rw [hTe] at hzr1
        exact ⟨φz1 - 1, bz1, hR, ⟨by omega, by omega⟩, hfr, Or.inr (Or.inr (Or.inr ⟨dz1 + 1, (vt_0 (if vt_sm 8 vz1 xz1 then 2 else 1)), sr_fe (sr_e (cb pt)) (sr_h (cb pt)) (sr_G (cb pt) (fun i Z W => sr_D cb bg n (bg (pt * 3 + i)) Z W) X Y) vz1 Tz2 Tz1, hTe, by omega, rfl, by omega, fun i => F i ∨ (b ≤ i ∧ i < bz1), rs_mk hs ⟨hk250, hn19, Or.inl hFk⟩ ⟨hqw, hq4, hq6⟩ hit hel (hb9.keep hfrg hMg) hq16 hzr1 hgv (by omega) (by omega) (rs_run_8 hkd8 ⟨j1, vz1, Tz1, F1, rfl, (hrs1.keep hfk rn_N.P (by omega) (fun i hi => rn_N.st hz (hlt1 i hi) (fun z => hnk1 (z ▸ hi)))), fun i hi => hF1 i hi, hnk1, j2, xz1, Tz2, F2, rfl, (hrs2.keep hfk rn_N.P (by omega) (fun i hi => rn_N.st hz (hlt2 i hi) (fun z => hnk2 (z ▸ hi)))), fun i hi => hF2 i hi, hnk2, hdis, rfl⟩), fun _ z => z⟩)), fun z => absurd z (rv_ne (by decide))⟩
      · rw [hk]
        refine lv_tableIn (off := 97) (tgt := 147) hx hb d_Ru_askTwo_50 (by decide) (by decide) (by decide) (by decide) ?_
        have h2e : sr_h (cb pt) vz1 xz1 = some (vt_0 (if vt_lt vz1 xz1 then 2 else 1)) := by rw [hh1]; unfold sr_two; rw [if_neg (by omega), if_neg (by omega), if_neg (by omega), if_neg (by omega)]
        refine lv_aload_n hx hb d_Ru_askTwo_147 rfl (lv_at hl 4 rfl) ?_
        refine lv_aload_n hx hb d_Ru_askTwo_148 rfl (lv_at hl 3 rfl) ?_
        refine gh_get C V h1R gc_Ru gi_Ru 0 (by decide) f_Ru_13 rfl rfl d_Ru_askTwo_149 ?_
        refine lv_aload_n hx hb d_Ru_askTwo_152 rfl (lv_at hl 1 rfl) ?_
        refine lv_aload hx hb d_Ru_askTwo_153 (lv_at hl 0 rfl) ?_
        obtain ⟨vs9, hvs9⟩ := hx1k.cell
        refine gh_callV C V hl.1 m_Va_isLessThan l_Ru_219 (c_Va_isLessThan l E _ g5 (rP ρ) a1 vz1 a2 xz1 hx1k hx2k) rfl hvs9 gc_Va ⟨by first | decide | omega | (dsimp only; omega), by first | decide | omega | (dsimp only; omega)⟩ ⟨by first | decide | omega | (dsimp only; omega), by first | decide | omega | (dsimp only; omega)⟩ (Nat.le_of_ble_eq_true rfl) rfl d_Ru_askTwo_155 (fun r z9 H locs hp V => ?_)
        obtain ⟨rfl, he9⟩ := hp
        rw [he9] at V
        refine W.eq (g2 := F0 m 158 ls [.int (gh_bi (vt_lt vz1 xz1)), .ref (Z 200), .ref (Z (1000 + k))]) rfl ?_
        refine gh_callV C V hl.1 m_Vs_truth l_Ru_215 (c_Vs_truth l E _ g5 (rP ρ) (Z 200) (Z 201) (Z 202) (Z 203) (Z 204) (Z 205) (Z 3) (vt_lt vz1 xz1) hVR hnon) rfl hvsR gc_Vs ⟨by first | decide | omega | (dsimp only; omega), by first | decide | omega | (dsimp only; omega)⟩ ⟨by first | decide | omega | (dsimp only; omega), by first | decide | omega | (dsimp only; omega)⟩ (Nat.le_of_ble_eq_true rfl) rfl d_Ru_askTwo_158 (fun r z9 H locs hp V => ?_)
        obtain ⟨⟨b9, rfl, hb9⟩, he9⟩ := hp
        rw [he9] at V hb9
        refine W.eq (g2 := F0 m 161 ls [.ref b9, .ref (Z (1000 + k))]) rfl ?_
        refine gh_callS C V hl.1 m_Ru_gives l_Ru_141 (c_Ru_gives l E _ g5 ρ Z q0 N cb bg (φz1 - 1) bz1 s0 e0 k b9 gv _ _ _ _ _ _ _ _ hR hk250 h_Z__1000___k__g5) rfl ⟨by first | decide | omega | (dsimp only; omega), by first | decide | omega | (dsimp only; omega)⟩ ⟨by first | decide | omega | (dsimp only; omega), by first | decide | omega | (dsimp only; omega)⟩ (Nat.le_of_ble_eq_true rfl) rfl d_Ru_askTwo_161 (fun r g12 H locs hp V => ?_)
        obtain ⟨rfl, hR, hs, hfrg⟩ := hp
        refine W.eq (g2 := F0 m 164 ls [.int 3]) rfl ?_
        have hMg : ∀ a, ρ a = 1000 + k → ¬ rP ρ a := fun a z z2 => by have z2 : ρ a = 0 := z2; omega
        have hfr : gh_fr f g12 (rn_M ρ (20 - (n + 1)) b F) := hfr.tr hfrg (fun a _ _ z => Or.inr (Or.inr (Or.inr (Or.inr ⟨k, hFk, z⟩))))
        have hit := hit.keep hfrg hMg
        have hel := hel.keep hfrg hMg
        refine gh_reti hAe C V hr hlocks d_Ru_askTwo_164 (by first | decide | omega | (dsimp only; omega)) (by first | decide | omega | (dsimp only; omega)) ?_
        have hfk := hfk.tr hfrg (fun a _ _ z => Or.inr (Or.inr z))
        have hTe0 := hTe
        have hTe : T = sr_cons (dz1 + 1) ((vt_0 (if vt_lt vz1 xz1 then 2 else 1))) (sr_fe (sr_e (cb pt)) (sr_h (cb pt)) (sr_G (cb pt) (fun i Z W => sr_D cb bg n (bg (pt * 3 + i)) Z W) X Y) vz1 Tz2 Tz1) := by rw [hTe0, sr_fe_some (h2e), sr_add_cons, he1]
        have hzr1 := hzr
        rw [hTe] at hzr1
        exact ⟨φz1 - 1, bz1, hR, ⟨by omega, by omega⟩, hfr, Or.inr (Or.inr (Or.inr ⟨dz1 + 1, (vt_0 (if vt_lt vz1 xz1 then 2 else 1)), sr_fe (sr_e (cb pt)) (sr_h (cb pt)) (sr_G (cb pt) (fun i Z W => sr_D cb bg n (bg (pt * 3 + i)) Z W) X Y) vz1 Tz2 Tz1, hTe, by omega, rfl, by omega, fun i => F i ∨ (b ≤ i ∧ i < bz1), rs_mk hs ⟨hk250, hn19, Or.inl hFk⟩ ⟨hqw, hq4, hq6⟩ hit hel (hb9.keep hfrg hMg) hq16 hzr1 hgv (by omega) (by omega) (rs_run_8 hkd8 ⟨j1, vz1, Tz1, F1, rfl, (hrs1.keep hfk rn_N.P (by omega) (fun i hi => rn_N.st hz (hlt1 i hi) (fun z => hnk1 (z ▸ hi)))), fun i hi => hF1 i hi, hnk1, j2, xz1, Tz2, F2, rfl, (hrs2.keep hfk rn_N.P (by omega) (fun i hi => rn_N.st hz (hlt2 i hi) (fun z => hnk2 (z ▸ hi)))), fun i hi => hF2 i hi, hnk2, hdis, rfl⟩), fun _ z => z⟩)), fun z => absurd z (rv_ne (by decide))⟩
