/-! askElse. Printed by wip/whole/gen_ru6.py. -/
theorem d_Ru_askElse_0 : decode b_Ru_askElse 0 = .ok (.aload_n 1, 1) := by decide +kernel
theorem d_Ru_askElse_1 : decode b_Ru_askElse 1 = .ok (.getfield 91, 3) := by decide +kernel
theorem d_Ru_askElse_4 : decode b_Ru_askElse 4 = .ok (.ifnonnull 38, 3) := by decide +kernel
theorem d_Ru_askElse_7 : decode b_Ru_askElse 7 = .ok (.aload_n 0, 1) := by decide +kernel
theorem d_Ru_askElse_8 : decode b_Ru_askElse 8 = .ok (.aload_n 1, 1) := by decide +kernel
theorem d_Ru_askElse_9 : decode b_Ru_askElse 9 = .ok (.invokevirtual 161, 3) := by decide +kernel
theorem d_Ru_askElse_12 : decode b_Ru_askElse 12 = .ok (.istore_n 2, 1) := by decide +kernel
theorem d_Ru_askElse_13 : decode b_Ru_askElse 13 = .ok (.iload_n 2, 1) := by decide +kernel
theorem d_Ru_askElse_14 : decode b_Ru_askElse 14 = .ok (.iconst 3, 1) := by decide +kernel
theorem d_Ru_askElse_15 : decode b_Ru_askElse 15 = .ok (.if_icmp .eq 8, 3) := by decide +kernel
theorem d_Ru_askElse_18 : decode b_Ru_askElse 18 = .ok (.iload_n 2, 1) := by decide +kernel
theorem d_Ru_askElse_19 : decode b_Ru_askElse 19 = .ok (.iconst 2, 1) := by decide +kernel
theorem d_Ru_askElse_20 : decode b_Ru_askElse 20 = .ok (.if_icmp .ne 13, 3) := by decide +kernel
theorem d_Ru_askElse_23 : decode b_Ru_askElse 23 = .ok (.aload_n 1, 1) := by decide +kernel
theorem d_Ru_askElse_24 : decode b_Ru_askElse 24 = .ok (.aload_n 1, 1) := by decide +kernel
theorem d_Ru_askElse_25 : decode b_Ru_askElse 25 = .ok (.getfield 87, 3) := by decide +kernel
theorem d_Ru_askElse_28 : decode b_Ru_askElse 28 = .ok (.iload_n 2, 1) := by decide +kernel
theorem d_Ru_askElse_29 : decode b_Ru_askElse 29 = .ok (.invokestatic 151, 3) := by decide +kernel
theorem d_Ru_askElse_32 : decode b_Ru_askElse 32 = .ok (.ireturn, 1) := by decide +kernel
theorem d_Ru_askElse_33 : decode b_Ru_askElse 33 = .ok (.aload_n 1, 1) := by decide +kernel
theorem d_Ru_askElse_34 : decode b_Ru_askElse 34 = .ok (.getfield 94, 3) := by decide +kernel
theorem d_Ru_askElse_37 : decode b_Ru_askElse 37 = .ok (.ifCond .le 5, 3) := by decide +kernel
theorem d_Ru_askElse_40 : decode b_Ru_askElse 40 = .ok (.iconst 0, 1) := by decide +kernel
theorem d_Ru_askElse_41 : decode b_Ru_askElse 41 = .ok (.ireturn, 1) := by decide +kernel
theorem d_Ru_askElse_42 : decode b_Ru_askElse 42 = .ok (.aload_n 0, 1) := by decide +kernel
theorem d_Ru_askElse_43 : decode b_Ru_askElse 43 = .ok (.aload_n 1, 1) := by decide +kernel
theorem d_Ru_askElse_44 : decode b_Ru_askElse 44 = .ok (.invokevirtual 158, 3) := by decide +kernel
theorem d_Ru_askElse_47 : decode b_Ru_askElse 47 = .ok (.istore_n 2, 1) := by decide +kernel
theorem d_Ru_askElse_48 : decode b_Ru_askElse 48 = .ok (.aload_n 1, 1) := by decide +kernel
theorem d_Ru_askElse_49 : decode b_Ru_askElse 49 = .ok (.aload_n 1, 1) := by decide +kernel
theorem d_Ru_askElse_50 : decode b_Ru_askElse 50 = .ok (.getfield 91, 3) := by decide +kernel
theorem d_Ru_askElse_53 : decode b_Ru_askElse 53 = .ok (.iload_n 2, 1) := by decide +kernel
theorem d_Ru_askElse_54 : decode b_Ru_askElse 54 = .ok (.invokestatic 151, 3) := by decide +kernel
theorem d_Ru_askElse_57 : decode b_Ru_askElse 57 = .ok (.ireturn, 1) := by decide +kernel
set_option maxHeartbeats 4000000 in
set_option maxRecDepth 100000 in
theorem c_Ru_askElse (l : Launch) (E : gh_E) (sz : Nat) (f : gh_F) (ρ Z : Nat → Nat) (q0 N : Nat) (cb bg : Nat → Nat) (φ b : Nat) (s0 e0 : Int32) (n u k : Nat) (v : vt) (T : sr) (F : Nat → Prop) (pt w9 it el gv pl va : Nat) (X Y : vt) (fi se : Option Nat) (hR : rn_R E ρ Z f q0 N cb bg φ b s0 e0) (hφb : φ + b ≤ 250) (hFb : ∀ j, F j → j < b) (hx9 : rs_x E ρ Z cb bg N f φ n u k v T F pt w9 it el gv pl va X Y fi se) (IH : rk_A l E ρ Z q0 N cb bg n) (hkd : cb pt = 10) : gh_M l y_Ru_askElse b_Ru_askElse 3 (some .int) E sz [.ref (Z 1), .ref (Z (1000 + k))] f { frames := 25 + 6 * n, cells := 3 * (min (sr_c T) φ + u), slots := 39 * (min (sr_c T) φ + u), locals := 870 + 200 * n } (rk_Q E ρ Z q0 N cb bg (n + 1) f φ b s0 e0 k v T F) := by
  obtain ⟨hs, ⟨hk250, hn19, hFk⟩, ⟨hqw, hq4, hq6⟩, ⟨hit, hel, hva⟩, ⟨q9, hq16, hzr, hgv⟩, hst⟩ := hx9
  have hkb := hFb k hFk
  have hptN := (qw_lt hqw).1
  have hX7 := (hit.le).2
  refine gh_open (by decide) (Nat.le_of_ble_eq_true rfl) ?_
  intro p e s m args below meth c A ls hAe C V hr hlocks hname hl
  have hx := C.1
  have hb := C.2.1
  have hl : lv_has ls 3 [(0, .ref (Z 1)), (1, .ref (Z (1000 + k)))] := hl
  have hRc := hR
  obtain ⟨h1R, ⟨hz, ⟨p206, p207⟩, ⟨gS, hgS, hgS2⟩, ⟨gG, hgG, hgG2⟩, hVR, hqR, hcdR, hbaR, hN60, hq0⟩, ⟨hgaV, hgaR⟩, hSR, hnon⟩ := hRc
  obtain ⟨pvsR, hvsR, hnuR, hnoR, hyeR, -⟩ := id hVR
  have hfr : gh_fr f f (rn_M ρ (20 - (n + 1)) b F) := gh_fr.rf
  have hpt60 : pt < 60 := by omega
  have hsl : (se = none ∧ ∃ T1 F1, rk_S E ρ Z cb bg N f φ b n k fi (bg (pt * 3 + 0)) X Y T1 F1 ∧ (∀ i, F1 i → F i) ∧ ¬ F1 k ∧ T = sr_els (sr_D cb bg n (bg (pt * 3 + 1)) X Y) (decide (1 ≤ gv)) T1) ∨ ∃ j2 v2 F2, se = some j2 ∧ rs E ρ Z cb bg N f φ n 0 j2 v2 T F2 ∧ (∀ i, F2 i → F i) ∧ ¬ F2 k := by
    rcases hst with ⟨hu, hg0, hp0, hf0, hs0, hv0, hT⟩ | ⟨hu, hg1, hrun⟩
    · exact Or.inl ⟨hs0, _, fun _ => False, Or.inl ⟨hf0, rfl, rs_child hqw (by omega) hq6 hn19 (by rw [hkd]; decide) hX7, fun _ z => z⟩, fun _ z => z.elim, fun z => z, by rw [hT, sr_B_o, sr_part_10 hkd, hg0]; rfl⟩
    · rcases hrun.2.2.2.2.1 hkd with ⟨hs0, j, v1, T1, F1, h1, h2, h3, h4, h5⟩ | ⟨j, v1, T1, F1, h1, h2, h3, h4, h5⟩
      · exact Or.inl ⟨hs0, T1, F1, Or.inr ⟨j, v1, h1, h2, fun i hi => hFb i (h3 i hi), h4⟩, h3, h4, by rw [h5, decide_eq_true hg1]⟩
      · exact Or.inr ⟨j, v1, F1, h1, by rw [h5]; exact h2, h3, h4⟩
  rcases hsl with ⟨hse, T1, F1, hS1, hF1, hk1, hT⟩ | ⟨j2, v2, F2, hse, hrs2, hF2, hk2⟩
  · subst hse
    have hs : f (Z (1000 + k)) = some (.inr (5, [.int (nI pt), .int (nI (19 - n)), .ref it, .ref el, ro Z fi, .null, .int (nI gv), .int (nI pl), .ref va])) := hs
    have hcT0 : sr_c (sr_sk T1) ≤ sr_c T := by rw [hT]; exact sr_c_els
    by_cases hgv1 : 1 ≤ gv
    · refine lv_aload_n hx hb d_Ru_askElse_0 rfl (lv_at hl 1 rfl) ?_
      refine gh_get C V hs gc_St gi_St 5 (by decide) f_Ru_91 rfl rfl d_Ru_askElse_1 ?_
      refine lv_ifnonnullN hx hb d_Ru_askElse_4 ?_
      refine lv_aload_n hx hb d_Ru_askElse_7 rfl (lv_at hl 0 rfl) ?_
      refine lv_aload_n hx hb d_Ru_askElse_8 rfl (lv_at hl 1 rfl) ?_
      refine gh_callV C V hl.1 m_Ru_askFirstTruthy l_Ru_161 (c_Ru_askFirstTruthy l E _ f ρ Z q0 N cb bg φ b s0 e0 n k pt it el fi .null (.int (nI gv)) (.int (nI pl)) (.ref va) X Y T1 F1 hR (by omega) hn19 (by omega) hpt60 hs hit hel hS1 IH) rfl h1R gc_Ru ⟨by first | decide | omega | (dsimp only; omega), by first | decide | omega | (dsimp only; omega)⟩ ⟨by first | decide | omega | (dsimp only; omega), by first | decide | omega | (dsimp only; omega)⟩ (Nat.le_of_ble_eq_true rfl) rfl d_Ru_askElse_9 (fun r gz1 H locs hp V => ?_)
      obtain ⟨φz1, bz1, foz1, hR, ⟨hbz1, hcz1⟩, hfrz1, hsz1, hPz1⟩ := hp
      have hfr : gh_fr f gz1 (rn_M ρ (20 - (n + 1)) b F) := hfr.tr hfrz1 (fun a _ _ z => rn_M.le (by omega) (fun i hi => Or.inl (by rcases hi with hi | hi; exact hF1 i hi; rw [hi]; exact hFk)) (by omega) a z)
      have hit := hit.keep hfrz1 rn_M.P
      have hel := hel.keep hfrz1 rn_M.P
      have hva := hva.keep hfrz1 rn_M.P
      have hRc := hR
      obtain ⟨h1R, ⟨hz, ⟨p206, p207⟩, ⟨gS, hgS, hgS2⟩, ⟨gG, hgG, hgG2⟩, hVR, hqR, hcdR, hbaR, hN60, hq0⟩, ⟨hgaV, hgaR⟩, hSR, hnon⟩ := hRc
      obtain ⟨pvsR, hvsR, hnuR, hnoR, hyeR, -⟩ := id hVR
      rcases hPz1 with ⟨h1z1, rfl, h3z1⟩ | ⟨dz1, hTz1, hdz1, rfl, h3z1⟩ | ⟨dz1, hTz1, hdz1, rfl, h3z1⟩ | ⟨dz1, xz1, Rz1, hTz1, hdz1, rfl, h3z1, htrz1, jz1, Fz1, hoz1, hrsz1, hFz1⟩
      · refine W.eq (g2 := F0 m 12 ls [.int 2]) rfl ?_
        refine lv_istore_n hx hb d_Ru_askElse_12 rfl hl (by decide) rfl (fun ls hl => ?_)
        have hl : lv_has ls 3 [(2, .int 2), (0, .ref (Z 1)), (1, .ref (Z (1000 + k)))] := hl
        refine lv_iload_n hx hb d_Ru_askElse_13 rfl (lv_at hl 0 rfl) ?_
        refine lv_iconst (v := 3) hx hb d_Ru_askElse_14 (by decide) ?_
        refine lv_icmp_eq (tgt := 23) hx hb d_Ru_askElse_15 (by decide) (fun c2 => absurd c2 (by decide)) (fun c2 => ?_)
        refine lv_iload_n hx hb d_Ru_askElse_18 rfl (lv_at hl 0 rfl) ?_
        refine lv_iconst (v := 2) hx hb d_Ru_askElse_19 (by decide) ?_
        refine lv_icmp_ne (tgt := 33) hx hb d_Ru_askElse_20 (by decide) (fun c3 => absurd (by decide) c3) (fun c3 => ?_)
        refine lv_aload_n hx hb d_Ru_askElse_23 rfl (lv_at hl 2 rfl) ?_
        refine lv_aload_n hx hb d_Ru_askElse_24 rfl (lv_at hl 2 rfl) ?_
        refine gh_get C V hsz1 gc_St gi_St 4 (by decide) f_Ru_87 rfl rfl d_Ru_askElse_25 ?_
        refine lv_iload_n hx hb d_Ru_askElse_28 rfl (lv_at hl 0 rfl) ?_
        refine gh_callS C V hl.1 m_Ru_passesOn l_Ru_151 (c_Ru_passesOn0 l E _ gz1 (Z (1000 + k)) 2 Z foz1 (by decide)) rfl ⟨by first | decide | omega | (dsimp only; omega), by first | decide | omega | (dsimp only; omega)⟩ ⟨by first | decide | omega | (dsimp only; omega), by first | decide | omega | (dsimp only; omega)⟩ (Nat.le_of_ble_eq_true rfl) rfl d_Ru_askElse_29 (fun r z9 H locs hp V => ?_)
        obtain ⟨rfl, he9⟩ := hp
        rw [he9] at V
        refine W.eq (g2 := F0 m 32 ls [.int 2]) rfl ?_
        refine gh_reti hAe C V hr hlocks d_Ru_askElse_32 (by first | decide | omega | (dsimp only; omega)) (by first | decide | omega | (dsimp only; omega)) ?_
        exact ⟨φz1, bz1, hR, ⟨by omega, by omega⟩, hfr, Or.inl ⟨by omega, rfl, by assumption⟩, fun z => absurd z (rv_ne (by decide))⟩
      · have hcT1 : sr_c (sr_sk T1) = dz1 := by rw [hTz1]; rfl
        have hTa : T = sr_end dz1 := by rw [hT, ← sr_els_sk, hTz1, decide_eq_true hgv1]; rfl
        refine W.eq (g2 := F0 m 12 ls [.int 0]) rfl ?_
        refine lv_istore_n hx hb d_Ru_askElse_12 rfl hl (by decide) rfl (fun ls hl => ?_)
        have hl : lv_has ls 3 [(2, .int 0), (0, .ref (Z 1)), (1, .ref (Z (1000 + k)))] := hl
        refine lv_iload_n hx hb d_Ru_askElse_13 rfl (lv_at hl 0 rfl) ?_
        refine lv_iconst (v := 3) hx hb d_Ru_askElse_14 (by decide) ?_
        refine lv_icmp_eq (tgt := 23) hx hb d_Ru_askElse_15 (by decide) (fun c4 => absurd c4 (by decide)) (fun c4 => ?_)
        refine lv_iload_n hx hb d_Ru_askElse_18 rfl (lv_at hl 0 rfl) ?_
        refine lv_iconst (v := 2) hx hb d_Ru_askElse_19 (by decide) ?_
        refine lv_icmp_ne (tgt := 33) hx hb d_Ru_askElse_20 (by decide) (fun c5 => ?_) (fun c5 => absurd c5 (by decide))
        refine lv_aload_n hx hb d_Ru_askElse_33 rfl (lv_at hl 2 rfl) ?_
        refine gh_get C V hsz1 gc_St gi_St 6 (by decide) f_Ru_94 rfl rfl d_Ru_askElse_34 ?_
        refine lv_if_le (tgt := 42) hx hb d_Ru_askElse_37 (by decide) (fun c6 => absurd c6 (nI_nle (by omega) (by omega))) (fun c6 => ?_)
        refine lv_iconst (v := 0) hx hb d_Ru_askElse_40 (by decide) ?_
        refine gh_reti hAe C V hr hlocks d_Ru_askElse_41 (by first | decide | omega | (dsimp only; omega)) (by first | decide | omega | (dsimp only; omega)) ?_
        exact ⟨φz1, bz1, hR, ⟨by omega, by omega⟩, hfr, Or.inr (Or.inl ⟨dz1, hTa, by omega, rfl, by omega⟩), fun _ => ⟨_, _, _, _, _, _, _, _, va, hsz1, hva⟩⟩
      · have hcT1 : sr_c (sr_sk T1) = dz1 := by rw [hTz1]; rfl
        have hTa : T = sr_end dz1 := by rw [hT, ← sr_els_sk, hTz1, decide_eq_true hgv1]; rfl
        refine W.eq (g2 := F0 m 12 ls [.int 1]) rfl ?_
        refine lv_istore_n hx hb d_Ru_askElse_12 rfl hl (by decide) rfl (fun ls hl => ?_)
        have hl : lv_has ls 3 [(2, .int 1), (0, .ref (Z 1)), (1, .ref (Z (1000 + k)))] := hl
        refine lv_iload_n hx hb d_Ru_askElse_13 rfl (lv_at hl 0 rfl) ?_
        refine lv_iconst (v := 3) hx hb d_Ru_askElse_14 (by decide) ?_
        refine lv_icmp_eq (tgt := 23) hx hb d_Ru_askElse_15 (by decide) (fun c7 => absurd c7 (by decide)) (fun c7 => ?_)
        refine lv_iload_n hx hb d_Ru_askElse_18 rfl (lv_at hl 0 rfl) ?_
        refine lv_iconst (v := 2) hx hb d_Ru_askElse_19 (by decide) ?_
        refine lv_icmp_ne (tgt := 33) hx hb d_Ru_askElse_20 (by decide) (fun c8 => ?_) (fun c8 => absurd c8 (by decide))
        refine lv_aload_n hx hb d_Ru_askElse_33 rfl (lv_at hl 2 rfl) ?_
        refine gh_get C V hsz1 gc_St gi_St 6 (by decide) f_Ru_94 rfl rfl d_Ru_askElse_34 ?_
        refine lv_if_le (tgt := 42) hx hb d_Ru_askElse_37 (by decide) (fun c9 => absurd c9 (nI_nle (by omega) (by omega))) (fun c9 => ?_)
        refine lv_iconst (v := 0) hx hb d_Ru_askElse_40 (by decide) ?_
        refine gh_reti hAe C V hr hlocks d_Ru_askElse_41 (by first | decide | omega | (dsimp only; omega)) (by first | decide | omega | (dsimp only; omega)) ?_
        exact ⟨φz1, bz1, hR, ⟨by omega, by omega⟩, hfr, Or.inr (Or.inl ⟨dz1, hTa, by omega, rfl, by omega⟩), fun _ => ⟨_, _, _, _, _, _, _, _, va, hsz1, hva⟩⟩
      · subst hoz1
        obtain ⟨yz1_0, yz1_1, yz1_2, yz1_3, yz1_4, yz1_5, yz1_6, yz1_7, az1, hjz1, hxz1, hlz1, hFjz1⟩ := hrsz1.val
        have hltz1 : ∀ i, Fz1 i → i < 250 := fun i hi => by rcases hFz1 i hi with z | z; have := hFb i (hF1 i z); omega; omega
        have hnkz1 : ¬ Fz1 k := fun z => by rcases hFz1 k z with z | z; exact hk1 z; omega
        refine W.eq (g2 := F0 m 12 ls [.int 3]) rfl ?_
        refine lv_istore_n hx hb d_Ru_askElse_12 rfl hl (by decide) rfl (fun ls hl => ?_)
        have hl : lv_has ls 3 [(2, .int 3), (0, .ref (Z 1)), (1, .ref (Z (1000 + k)))] := hl
        refine lv_iload_n hx hb d_Ru_askElse_13 rfl (lv_at hl 0 rfl) ?_
        refine lv_iconst (v := 3) hx hb d_Ru_askElse_14 (by decide) ?_
        refine lv_icmp_eq (tgt := 23) hx hb d_Ru_askElse_15 (by decide) (fun c10 => ?_) (fun c10 => absurd (by decide) c10)
        refine lv_aload_n hx hb d_Ru_askElse_23 rfl (lv_at hl 2 rfl) ?_
        refine lv_aload_n hx hb d_Ru_askElse_24 rfl (lv_at hl 2 rfl) ?_
        refine gh_get C V hsz1 gc_St gi_St 4 (by decide) f_Ru_87 rfl rfl d_Ru_askElse_25 ?_
        refine lv_iload_n hx hb d_Ru_askElse_28 rfl (lv_at hl 0 rfl) ?_
        refine gh_callS C V hl.1 m_Ru_passesOn l_Ru_151 (c_Ru_passesOn l E _ gz1 ρ Z q0 N cb bg φz1 bz1 s0 e0 k az1 gv _ _ _ _ _ _ _ _ jz1 _ _ _ _ _ _ _ _ hR hk250 hsz1 hjz1) rfl ⟨by first | decide | omega | (dsimp only; omega), by first | decide | omega | (dsimp only; omega)⟩ ⟨by first | decide | omega | (dsimp only; omega), by first | decide | omega | (dsimp only; omega)⟩ (Nat.le_of_ble_eq_true rfl) rfl d_Ru_askElse_29 (fun r g11 H locs hp V => ?_)
        obtain ⟨rfl, hR, hs, hfrg⟩ := hp
        refine W.eq (g2 := F0 m 32 ls [.int 3]) rfl ?_
        have hMg : ∀ a, ρ a = 1000 + k → ¬ rP ρ a := fun a z z2 => by have z2 : ρ a = 0 := z2; omega
        have hfr : gh_fr f g11 (rn_M ρ (20 - (n + 1)) b F) := hfr.tr hfrg (fun a _ _ z => Or.inr (Or.inr (Or.inr (Or.inr ⟨k, hFk, z⟩))))
        have hit := hit.keep hfrg hMg
        have hel := hel.keep hfrg hMg
        refine gh_reti hAe C V hr hlocks d_Ru_askElse_32 (by first | decide | omega | (dsimp only; omega)) (by first | decide | omega | (dsimp only; omega)) ?_
        have hTe : T = sr_cons dz1 xz1 (sr_els (sr_D cb bg n (bg (pt * 3 + 1)) X Y) true Rz1) := by rw [hT, ← sr_els_sk, hTz1, sr_els_t htrz1]
        have hzr1 := hzr
        rw [hTe] at hzr1
        exact ⟨φz1, bz1, hR, ⟨by omega, by omega⟩, hfr, Or.inr (Or.inr (Or.inr ⟨dz1, xz1, sr_els (sr_D cb bg n (bg (pt * 3 + 1)) X Y) true Rz1, hTe, by omega, rfl, by omega, fun i => F i ∨ (b ≤ i ∧ i < bz1), rs_mk hs ⟨hk250, hn19, Or.inl hFk⟩ ⟨hqw, hq4, hq6⟩ hit hel (hxz1.keep hfrg hMg) hq16 hzr1 hgv (by omega) (by omega) (rs_run_10 hkd (Or.inl ⟨rfl, ⟨jz1, xz1, Rz1, Fz1, rfl, (hrsz1.keep hfrg hMg (Nat.le_refl _) (fun i hi z => by have e9 := hz (1000 + i) (by unfold rU; have := hltz1 i hi; omega); have z : ρ (Z (1000 + i)) = 1000 + k := z; exact hnkz1 ((show i = k by omega) ▸ hi))), fun i hi => by rcases hFz1 i hi with z | z; exact Or.inl (hF1 i z); exact Or.inr (by omega), hnkz1, rfl⟩⟩)), fun _ z => z⟩)), fun z => absurd z (rv_ne (by decide))⟩
    · have hgv0 : decide (1 ≤ gv) = false := decide_eq_false hgv1
      refine lv_aload_n hx hb d_Ru_askElse_0 rfl (lv_at hl 1 rfl) ?_
      refine gh_get C V hs gc_St gi_St 5 (by decide) f_Ru_91 rfl rfl d_Ru_askElse_1 ?_
      refine lv_ifnonnullN hx hb d_Ru_askElse_4 ?_
      refine lv_aload_n hx hb d_Ru_askElse_7 rfl (lv_at hl 0 rfl) ?_
      refine lv_aload_n hx hb d_Ru_askElse_8 rfl (lv_at hl 1 rfl) ?_
      refine gh_callV C V hl.1 m_Ru_askFirstTruthy l_Ru_161 (c_Ru_askFirstTruthy l E _ f ρ Z q0 N cb bg φ b s0 e0 n k pt it el fi .null (.int (nI gv)) (.int (nI pl)) (.ref va) X Y T1 F1 hR (by omega) hn19 (by omega) hpt60 hs hit hel hS1 IH) rfl h1R gc_Ru ⟨by first | decide | omega | (dsimp only; omega), by first | decide | omega | (dsimp only; omega)⟩ ⟨by first | decide | omega | (dsimp only; omega), by first | decide | omega | (dsimp only; omega)⟩ (Nat.le_of_ble_eq_true rfl) rfl d_Ru_askElse_9 (fun r gz12 H locs hp V => ?_)
      obtain ⟨φz12, bz12, foz12, hR, ⟨hbz12, hcz12⟩, hfrz12, hsz12, hPz12⟩ := hp
      have hfr : gh_fr f gz12 (rn_M ρ (20 - (n + 1)) b F) := hfr.tr hfrz12 (fun a _ _ z => rn_M.le (by omega) (fun i hi => Or.inl (by rcases hi with hi | hi; exact hF1 i hi; rw [hi]; exact hFk)) (by omega) a z)
      have hit := hit.keep hfrz12 rn_M.P
      have hel := hel.keep hfrz12 rn_M.P
      have hva := hva.keep hfrz12 rn_M.P
      have hRc := hR
      obtain ⟨h1R, ⟨hz, ⟨p206, p207⟩, ⟨gS, hgS, hgS2⟩, ⟨gG, hgG, hgG2⟩, hVR, hqR, hcdR, hbaR, hN60, hq0⟩, ⟨hgaV, hgaR⟩, hSR, hnon⟩ := hRc
      obtain ⟨pvsR, hvsR, hnuR, hnoR, hyeR, -⟩ := id hVR
      rcases hPz12 with ⟨h1z12, rfl, h3z12⟩ | ⟨dz12, hTz12, hdz12, rfl, h3z12⟩ | ⟨dz12, hTz12, hdz12, rfl, h3z12⟩ | ⟨dz12, xz12, Rz12, hTz12, hdz12, rfl, h3z12, htrz12, jz12, Fz12, hoz12, hrsz12, hFz12⟩
      · refine W.eq (g2 := F0 m 12 ls [.int 2]) rfl ?_
        refine lv_istore_n hx hb d_Ru_askElse_12 rfl hl (by decide) rfl (fun ls hl => ?_)
        have hl : lv_has ls 3 [(2, .int 2), (0, .ref (Z 1)), (1, .ref (Z (1000 + k)))] := hl
        refine lv_iload_n hx hb d_Ru_askElse_13 rfl (lv_at hl 0 rfl) ?_
        refine lv_iconst (v := 3) hx hb d_Ru_askElse_14 (by decide) ?_
        refine lv_icmp_eq (tgt := 23) hx hb d_Ru_askElse_15 (by decide) (fun c13 => absurd c13 (by decide)) (fun c13 => ?_)
        refine lv_iload_n hx hb d_Ru_askElse_18 rfl (lv_at hl 0 rfl) ?_
        refine lv_iconst (v := 2) hx hb d_Ru_askElse_19 (by decide) ?_
        refine lv_icmp_ne (tgt := 33) hx hb d_Ru_askElse_20 (by decide) (fun c14 => absurd (by decide) c14) (fun c14 => ?_)
        refine lv_aload_n hx hb d_Ru_askElse_23 rfl (lv_at hl 2 rfl) ?_
        refine lv_aload_n hx hb d_Ru_askElse_24 rfl (lv_at hl 2 rfl) ?_
        refine gh_get C V hsz12 gc_St gi_St 4 (by decide) f_Ru_87 rfl rfl d_Ru_askElse_25 ?_
        refine lv_iload_n hx hb d_Ru_askElse_28 rfl (lv_at hl 0 rfl) ?_
        refine gh_callS C V hl.1 m_Ru_passesOn l_Ru_151 (c_Ru_passesOn0 l E _ gz12 (Z (1000 + k)) 2 Z foz12 (by decide)) rfl ⟨by first | decide | omega | (dsimp only; omega), by first | decide | omega | (dsimp only; omega)⟩ ⟨by first | decide | omega | (dsimp only; omega), by first | decide | omega | (dsimp only; omega)⟩ (Nat.le_of_ble_eq_true rfl) rfl d_Ru_askElse_29 (fun r z9 H locs hp V => ?_)
        obtain ⟨rfl, he9⟩ := hp
        rw [he9] at V
        refine W.eq (g2 := F0 m 32 ls [.int 2]) rfl ?_
        refine gh_reti hAe C V hr hlocks d_Ru_askElse_32 (by first | decide | omega | (dsimp only; omega)) (by first | decide | omega | (dsimp only; omega)) ?_
        exact ⟨φz12, bz12, hR, ⟨by omega, by omega⟩, hfr, Or.inl ⟨by omega, rfl, by assumption⟩, fun z => absurd z (rv_ne (by decide))⟩
      · have hcT1 : sr_c (sr_sk T1) = dz12 := by rw [hTz12]; rfl
        have hTa : T = sr_add dz12 (sr_D cb bg n (bg (pt * 3 + 1)) X Y) := by rw [hT, ← sr_els_sk, hTz12, hgv0]; rfl
        have hcT : sr_c T = dz12 + sr_c (sr_D cb bg n (bg (pt * 3 + 1)) X Y) := by rw [hTa, sr_c_add]
        have hS2 : rk_S E ρ Z cb bg N gz12 φz12 bz12 n k none (bg (pt * 3 + 1)) X Y (sr_D cb bg n (bg (pt * 3 + 1)) X Y) (fun _ => False) := Or.inl ⟨rfl, rfl, rs_child hqw (by omega) hq6 hn19 (by rw [hkd]; decide) hX7, fun _ z => z⟩
        have hF2 : ∀ i, (fun _ => False) i → F i := fun _ z => False.elim z
        have hk2 : ¬ (fun _ : Nat => False) k := fun z => z
        refine W.eq (g2 := F0 m 12 ls [.int 0]) rfl ?_
        refine lv_istore_n hx hb d_Ru_askElse_12 rfl hl (by decide) rfl (fun ls hl => ?_)
        have hl : lv_has ls 3 [(2, .int 0), (0, .ref (Z 1)), (1, .ref (Z (1000 + k)))] := hl
        refine lv_iload_n hx hb d_Ru_askElse_13 rfl (lv_at hl 0 rfl) ?_
        refine lv_iconst (v := 3) hx hb d_Ru_askElse_14 (by decide) ?_
        refine lv_icmp_eq (tgt := 23) hx hb d_Ru_askElse_15 (by decide) (fun c15 => absurd c15 (by decide)) (fun c15 => ?_)
        refine lv_iload_n hx hb d_Ru_askElse_18 rfl (lv_at hl 0 rfl) ?_
        refine lv_iconst (v := 2) hx hb d_Ru_askElse_19 (by decide) ?_
        refine lv_icmp_ne (tgt := 33) hx hb d_Ru_askElse_20 (by decide) (fun c16 => ?_) (fun c16 => absurd c16 (by decide))
        refine lv_aload_n hx hb d_Ru_askElse_33 rfl (lv_at hl 2 rfl) ?_
        refine gh_get C V hsz12 gc_St gi_St 6 (by decide) f_Ru_94 rfl rfl d_Ru_askElse_34 ?_
        refine lv_if_le (tgt := 42) hx hb d_Ru_askElse_37 (by decide) (fun c17 => ?_) (fun c17 => absurd (by rw [show gv = 0 by omega]; decide) c17)
        refine lv_aload_n hx hb d_Ru_askElse_42 rfl (lv_at hl 1 rfl) ?_
        refine lv_aload_n hx hb d_Ru_askElse_43 rfl (lv_at hl 2 rfl) ?_
        refine gh_callV C V hl.1 m_Ru_askSecond l_Ru_158 (c_Ru_askSecond l E _ gz12 ρ Z q0 N cb bg φz12 bz12 s0 e0 n k pt it el none (ro Z foz12) (.int (nI gv)) (.int (nI pl)) (.ref va) X Y (sr_D cb bg n (bg (pt * 3 + 1)) X Y) (fun _ => False) hR (by omega) hn19 (by omega) hpt60 hsz12 hit hel hS2 IH) rfl h1R gc_Ru ⟨by first | decide | omega | (dsimp only; omega), by first | decide | omega | (dsimp only; omega)⟩ ⟨by first | decide | omega | (dsimp only; omega), by first | decide | omega | (dsimp only; omega)⟩ (Nat.le_of_ble_eq_true rfl) rfl d_Ru_askElse_44 (fun r gz18 H locs hp V => ?_)
        obtain ⟨φz18, bz18, foz18, hR, ⟨hbz18, hcz18⟩, hfrz18, hsz18, hPz18⟩ := hp
        have hfr : gh_fr f gz18 (rn_M ρ (20 - (n + 1)) b F) := hfr.tr hfrz18 (fun a _ _ z => rn_M.le (by omega) (fun i hi => Or.inl (by rcases hi with hi | hi; exact hF2 i hi; rw [hi]; exact hFk)) (by omega) a z)
        have hit := hit.keep hfrz18 rn_M.P
        have hel := hel.keep hfrz18 rn_M.P
        have hva := hva.keep hfrz18 rn_M.P
        have hRc := hR
        obtain ⟨h1R, ⟨hz, ⟨p206, p207⟩, ⟨gS, hgS, hgS2⟩, ⟨gG, hgG, hgG2⟩, hVR, hqR, hcdR, hbaR, hN60, hq0⟩, ⟨hgaV, hgaR⟩, hSR, hnon⟩ := hRc
        obtain ⟨pvsR, hvsR, hnuR, hnoR, hyeR, -⟩ := id hVR
        rcases hPz18 with ⟨h1z18, rfl, h3z18⟩ | ⟨dz18, hTz18, hdz18, rfl, h3z18⟩ | ⟨dz18, hTz18, hdz18, rfl, h3z18⟩ | ⟨dz18, xz18, Rz18, hTz18, hdz18, rfl, h3z18, jz18, Fz18, hoz18, hrsz18, hFz18⟩
        · refine W.eq (g2 := F0 m 47 ls [.int 2]) rfl ?_
          refine lv_istore_n hx hb d_Ru_askElse_47 rfl hl (by decide) rfl (fun ls hl => ?_)
          have hl : lv_has ls 3 [(2, .int 2), (0, .ref (Z 1)), (1, .ref (Z (1000 + k)))] := hl
          refine lv_aload_n hx hb d_Ru_askElse_48 rfl (lv_at hl 2 rfl) ?_
          refine lv_aload_n hx hb d_Ru_askElse_49 rfl (lv_at hl 2 rfl) ?_
          refine gh_get C V hsz18 gc_St gi_St 5 (by decide) f_Ru_91 rfl rfl d_Ru_askElse_50 ?_
          refine lv_iload_n hx hb d_Ru_askElse_53 rfl (lv_at hl 0 rfl) ?_
          refine gh_callS C V hl.1 m_Ru_passesOn l_Ru_151 (c_Ru_passesOn0 l E _ gz18 (Z (1000 + k)) 2 Z foz18 (by decide)) rfl ⟨by first | decide | omega | (dsimp only; omega), by first | decide | omega | (dsimp only; omega)⟩ ⟨by first | decide | omega | (dsimp only; omega), by first | decide | omega | (dsimp only; omega)⟩ (Nat.le_of_ble_eq_true rfl) rfl d_Ru_askElse_54 (fun r z9 H locs hp V => ?_)
          obtain ⟨rfl, he9⟩ := hp
          rw [he9] at V
          refine W.eq (g2 := F0 m 57 ls [.int 2]) rfl ?_
          refine gh_reti hAe C V hr hlocks d_Ru_askElse_57 (by first | decide | omega | (dsimp only; omega)) (by first | decide | omega | (dsimp only; omega)) ?_
          exact ⟨φz18, bz18, hR, ⟨by omega, by omega⟩, hfr, Or.inl ⟨by omega, rfl, by assumption⟩, fun z => absurd z (rv_ne (by decide))⟩
        · refine W.eq (g2 := F0 m 47 ls [.int 0]) rfl ?_
          refine lv_istore_n hx hb d_Ru_askElse_47 rfl hl (by decide) rfl (fun ls hl => ?_)
          have hl : lv_has ls 3 [(2, .int 0), (0, .ref (Z 1)), (1, .ref (Z (1000 + k)))] := hl
          refine lv_aload_n hx hb d_Ru_askElse_48 rfl (lv_at hl 2 rfl) ?_
          refine lv_aload_n hx hb d_Ru_askElse_49 rfl (lv_at hl 2 rfl) ?_
          refine gh_get C V hsz18 gc_St gi_St 5 (by decide) f_Ru_91 rfl rfl d_Ru_askElse_50 ?_
          refine lv_iload_n hx hb d_Ru_askElse_53 rfl (lv_at hl 0 rfl) ?_
          refine gh_callS C V hl.1 m_Ru_passesOn l_Ru_151 (c_Ru_passesOn0 l E _ gz18 (Z (1000 + k)) 0 Z foz18 (by decide)) rfl ⟨by first | decide | omega | (dsimp only; omega), by first | decide | omega | (dsimp only; omega)⟩ ⟨by first | decide | omega | (dsimp only; omega), by first | decide | omega | (dsimp only; omega)⟩ (Nat.le_of_ble_eq_true rfl) rfl d_Ru_askElse_54 (fun r z9 H locs hp V => ?_)
          obtain ⟨rfl, he9⟩ := hp
          rw [he9] at V
          refine W.eq (g2 := F0 m 57 ls [.int 0]) rfl ?_
          refine gh_reti hAe C V hr hlocks d_Ru_askElse_57 (by first | decide | omega | (dsimp only; omega)) (by first | decide | omega | (dsimp only; omega)) ?_
          exact ⟨φz18, bz18, hR, ⟨by omega, by omega⟩, hfr, Or.inr (Or.inl ⟨dz12 + dz18, by rw [hTa, hTz18]; rfl, by omega, rfl, by omega⟩), fun _ => ⟨_, _, _, _, _, _, _, _, va, hsz18, hva⟩⟩
        · refine W.eq (g2 := F0 m 47 ls [.int 1]) rfl ?_
          refine lv_istore_n hx hb d_Ru_askElse_47 rfl hl (by decide) rfl (fun ls hl => ?_)
          have hl : lv_has ls 3 [(2, .int 1), (0, .ref (Z 1)), (1, .ref (Z (1000 + k)))] := hl
          refine lv_aload_n hx hb d_Ru_askElse_48 rfl (lv_at hl 2 rfl) ?_
          refine lv_aload_n hx hb d_Ru_askElse_49 rfl (lv_at hl 2 rfl) ?_
          refine gh_get C V hsz18 gc_St gi_St 5 (by decide) f_Ru_91 rfl rfl d_Ru_askElse_50 ?_
          refine lv_iload_n hx hb d_Ru_askElse_53 rfl (lv_at hl 0 rfl) ?_
          refine gh_callS C V hl.1 m_Ru_passesOn l_Ru_151 (c_Ru_passesOn0 l E _ gz18 (Z (1000 + k)) 1 Z foz18 (by decide)) rfl ⟨by first | decide | omega | (dsimp only; omega), by first | decide | omega | (dsimp only; omega)⟩ ⟨by first | decide | omega | (dsimp only; omega), by first | decide | omega | (dsimp only; omega)⟩ (Nat.le_of_ble_eq_true rfl) rfl d_Ru_askElse_54 (fun r z9 H locs hp V => ?_)
          obtain ⟨rfl, he9⟩ := hp
          rw [he9] at V
          refine W.eq (g2 := F0 m 57 ls [.int 1]) rfl ?_
          refine gh_reti hAe C V hr hlocks d_Ru_askElse_57 (by first | decide | omega | (dsimp only; omega)) (by first | decide | omega | (dsimp only; omega)) ?_
          exact ⟨φz18, bz18, hR, ⟨by omega, by omega⟩, hfr, Or.inr (Or.inr (Or.inl ⟨dz12 + dz18, by rw [hTa, hTz18]; rfl, by omega, rfl, by omega⟩)), fun z => absurd z (rv_ne (by decide))⟩
        · subst hoz18
          obtain ⟨yz18_0, yz18_1, yz18_2, yz18_3, yz18_4, yz18_5, yz18_6, yz18_7, az18, hjz18, hxz18, hlz18, hFjz18⟩ := hrsz18.val
          have hltz18 : ∀ i, Fz18 i → i < 250 := fun i hi => by rcases hFz18 i hi with z | z; have := hFb i (hF2 i z); omega; omega
          have hnkz18 : ¬ Fz18 k := fun z => by rcases hFz18 k z with z | z; exact hk2 z; omega
          refine W.eq (g2 := F0 m 47 ls [.int 3]) rfl ?_
          refine lv_istore_n hx hb d_Ru_askElse_47 rfl hl (by decide) rfl (fun ls hl => ?_)
          have hl : lv_has ls 3 [(2, .int 3), (0, .ref (Z 1)), (1, .ref (Z (1000 + k)))] := hl
          refine lv_aload_n hx hb d_Ru_askElse_48 rfl (lv_at hl 2 rfl) ?_
          refine lv_aload_n hx hb d_Ru_askElse_49 rfl (lv_at hl 2 rfl) ?_
          refine gh_get C V hsz18 gc_St gi_St 5 (by decide) f_Ru_91 rfl rfl d_Ru_askElse_50 ?_
          refine lv_iload_n hx hb d_Ru_askElse_53 rfl (lv_at hl 0 rfl) ?_
          refine gh_callS C V hl.1 m_Ru_passesOn l_Ru_151 (c_Ru_passesOn l E _ gz18 ρ Z q0 N cb bg φz18 bz18 s0 e0 k az18 gv _ _ _ _ _ _ _ _ jz18 _ _ _ _ _ _ _ _ hR hk250 hsz18 hjz18) rfl ⟨by first | decide | omega | (dsimp only; omega), by first | decide | omega | (dsimp only; omega)⟩ ⟨by first | decide | omega | (dsimp only; omega), by first | decide | omega | (dsimp only; omega)⟩ (Nat.le_of_ble_eq_true rfl) rfl d_Ru_askElse_54 (fun r g19 H locs hp V => ?_)
          obtain ⟨rfl, hR, hs, hfrg⟩ := hp
          refine W.eq (g2 := F0 m 57 ls [.int 3]) rfl ?_
          have hMg : ∀ a, ρ a = 1000 + k → ¬ rP ρ a := fun a z z2 => by have z2 : ρ a = 0 := z2; omega
          have hfr : gh_fr f g19 (rn_M ρ (20 - (n + 1)) b F) := hfr.tr hfrg (fun a _ _ z => Or.inr (Or.inr (Or.inr (Or.inr ⟨k, hFk, z⟩))))
          have hit := hit.keep hfrg hMg
          have hel := hel.keep hfrg hMg
          refine gh_reti hAe C V hr hlocks d_Ru_askElse_57 (by first | decide | omega | (dsimp only; omega)) (by first | decide | omega | (dsimp only; omega)) ?_
          have hTe : T = sr_cons (dz12 + dz18) xz18 (Rz18) := by rw [hTa, hTz18]; rfl
          have hzr1 := hzr
          rw [hTe] at hzr1
          exact ⟨φz18, bz18, hR, ⟨by omega, by omega⟩, hfr, Or.inr (Or.inr (Or.inr ⟨dz12 + dz18, xz18, Rz18, hTe, by omega, rfl, by omega, fun i => F i ∨ (b ≤ i ∧ i < bz18), rs_mk hs ⟨hk250, hn19, Or.inl hFk⟩ ⟨hqw, hq4, hq6⟩ hit hel (hxz18.keep hfrg hMg) hq16 hzr1 hgv (by omega) (by omega) (rs_run_10 hkd (Or.inr ⟨jz18, xz18, Rz18, Fz18, rfl, (hrsz18.keep hfrg hMg (Nat.le_refl _) (fun i hi z => by have e9 := hz (1000 + i) (by unfold rU; have := hltz18 i hi; omega); have z : ρ (Z (1000 + i)) = 1000 + k := z; exact hnkz18 ((show i = k by omega) ▸ hi))), fun i hi => by rcases hFz18 i hi with z | z; exact Or.inl (hF2 i z); exact Or.inr (by omega), hnkz18, rfl⟩)), fun _ z => z⟩)), fun z => absurd z (rv_ne (by decide))⟩
      · have hcT1 : sr_c (sr_sk T1) = dz12 := by rw [hTz12]; rfl
        have hTa : T = sr_add dz12 (sr_D cb bg n (bg (pt * 3 + 1)) X Y) := by rw [hT, ← sr_els_sk, hTz12, hgv0]; rfl
        have hcT : sr_c T = dz12 + sr_c (sr_D cb bg n (bg (pt * 3 + 1)) X Y) := by rw [hTa, sr_c_add]
        have hS2 : rk_S E ρ Z cb bg N gz12 φz12 bz12 n k none (bg (pt * 3 + 1)) X Y (sr_D cb bg n (bg (pt * 3 + 1)) X Y) (fun _ => False) := Or.inl ⟨rfl, rfl, rs_child hqw (by omega) hq6 hn19 (by rw [hkd]; decide) hX7, fun _ z => z⟩
        have hF2 : ∀ i, (fun _ => False) i → F i := fun _ z => False.elim z
        have hk2 : ¬ (fun _ : Nat => False) k := fun z => z
        refine W.eq (g2 := F0 m 12 ls [.int 1]) rfl ?_
        refine lv_istore_n hx hb d_Ru_askElse_12 rfl hl (by decide) rfl (fun ls hl => ?_)
        have hl : lv_has ls 3 [(2, .int 1), (0, .ref (Z 1)), (1, .ref (Z (1000 + k)))] := hl
        refine lv_iload_n hx hb d_Ru_askElse_13 rfl (lv_at hl 0 rfl) ?_
        refine lv_iconst (v := 3) hx hb d_Ru_askElse_14 (by decide) ?_
        refine lv_icmp_eq (tgt := 23) hx hb d_Ru_askElse_15 (by decide) (fun c20 => absurd c20 (by decide)) (fun c20 => ?_)
        refine lv_iload_n hx hb d_Ru_askElse_18 rfl (lv_at hl 0 rfl) ?_
        refine lv_iconst (v := 2) hx hb d_Ru_askElse_19 (by decide) ?_
        refine lv_icmp_ne (tgt := 33) hx hb d_Ru_askElse_20 (by decide) (fun c21 => ?_) (fun c21 => absurd c21 (by decide))
        refine lv_aload_n hx hb d_Ru_askElse_33 rfl (lv_at hl 2 rfl) ?_
        refine gh_get C V hsz12 gc_St gi_St 6 (by decide) f_Ru_94 rfl rfl d_Ru_askElse_34 ?_
        refine lv_if_le (tgt := 42) hx hb d_Ru_askElse_37 (by decide) (fun c22 => ?_) (fun c22 => absurd (by rw [show gv = 0 by omega]; decide) c22)
        refine lv_aload_n hx hb d_Ru_askElse_42 rfl (lv_at hl 1 rfl) ?_
        refine lv_aload_n hx hb d_Ru_askElse_43 rfl (lv_at hl 2 rfl) ?_
        refine gh_callV C V hl.1 m_Ru_askSecond l_Ru_158 (c_Ru_askSecond l E _ gz12 ρ Z q0 N cb bg φz12 bz12 s0 e0 n k pt it el none (ro Z foz12) (.int (nI gv)) (.int (nI pl)) (.ref va) X Y (sr_D cb bg n (bg (pt * 3 + 1)) X Y) (fun _ => False) hR (by omega) hn19 (by omega) hpt60 hsz12 hit hel hS2 IH) rfl h1R gc_Ru ⟨by first | decide | omega | (dsimp only; omega), by first | decide | omega | (dsimp only; omega)⟩ ⟨by first | decide | omega | (dsimp only; omega), by first | decide | omega | (dsimp only; omega)⟩ (Nat.le_of_ble_eq_true rfl) rfl d_Ru_askElse_44 (fun r gz23 H locs hp V => ?_)
        obtain ⟨φz23, bz23, foz23, hR, ⟨hbz23, hcz23⟩, hfrz23, hsz23, hPz23⟩ := hp
        have hfr : gh_fr f gz23 (rn_M ρ (20 - (n + 1)) b F) := hfr.tr hfrz23 (fun a _ _ z => rn_M.le (by omega) (fun i hi => Or.inl (by rcases hi with hi | hi; exact hF2 i hi; rw [hi]; exact hFk)) (by omega) a z)
        have hit := hit.keep hfrz23 rn_M.P
        have hel := hel.keep hfrz23 rn_M.P
        have hva := hva.keep hfrz23 rn_M.P
        have hRc := hR
        obtain ⟨h1R, ⟨hz, ⟨p206, p207⟩, ⟨gS, hgS, hgS2⟩, ⟨gG, hgG, hgG2⟩, hVR, hqR, hcdR, hbaR, hN60, hq0⟩, ⟨hgaV, hgaR⟩, hSR, hnon⟩ := hRc
        obtain ⟨pvsR, hvsR, hnuR, hnoR, hyeR, -⟩ := id hVR
        rcases hPz23 with ⟨h1z23, rfl, h3z23⟩ | ⟨dz23, hTz23, hdz23, rfl, h3z23⟩ | ⟨dz23, hTz23, hdz23, rfl, h3z23⟩ | ⟨dz23, xz23, Rz23, hTz23, hdz23, rfl, h3z23, jz23, Fz23, hoz23, hrsz23, hFz23⟩
        · refine W.eq (g2 := F0 m 47 ls [.int 2]) rfl ?_
          refine lv_istore_n hx hb d_Ru_askElse_47 rfl hl (by decide) rfl (fun ls hl => ?_)
          have hl : lv_has ls 3 [(2, .int 2), (0, .ref (Z 1)), (1, .ref (Z (1000 + k)))] := hl
          refine lv_aload_n hx hb d_Ru_askElse_48 rfl (lv_at hl 2 rfl) ?_
          refine lv_aload_n hx hb d_Ru_askElse_49 rfl (lv_at hl 2 rfl) ?_
          refine gh_get C V hsz23 gc_St gi_St 5 (by decide) f_Ru_91 rfl rfl d_Ru_askElse_50 ?_
          refine lv_iload_n hx hb d_Ru_askElse_53 rfl (lv_at hl 0 rfl) ?_
          refine gh_callS C V hl.1 m_Ru_passesOn l_Ru_151 (c_Ru_passesOn0 l E _ gz23 (Z (1000 + k)) 2 Z foz23 (by decide)) rfl ⟨by first | decide | omega | (dsimp only; omega), by first | decide | omega | (dsimp only; omega)⟩ ⟨by first | decide | omega | (dsimp only; omega), by first | decide | omega | (dsimp only; omega)⟩ (Nat.le_of_ble_eq_true rfl) rfl d_Ru_askElse_54 (fun r z9 H locs hp V => ?_)
          obtain ⟨rfl, he9⟩ := hp
          rw [he9] at V
          refine W.eq (g2 := F0 m 57 ls [.int 2]) rfl ?_
          refine gh_reti hAe C V hr hlocks d_Ru_askElse_57 (by first | decide | omega | (dsimp only; omega)) (by first | decide | omega | (dsimp only; omega)) ?_
          exact ⟨φz23, bz23, hR, ⟨by omega, by omega⟩, hfr, Or.inl ⟨by omega, rfl, by assumption⟩, fun z => absurd z (rv_ne (by decide))⟩
        · refine W.eq (g2 := F0 m 47 ls [.int 0]) rfl ?_
          refine lv_istore_n hx hb d_Ru_askElse_47 rfl hl (by decide) rfl (fun ls hl => ?_)
          have hl : lv_has ls 3 [(2, .int 0), (0, .ref (Z 1)), (1, .ref (Z (1000 + k)))] := hl
          refine lv_aload_n hx hb d_Ru_askElse_48 rfl (lv_at hl 2 rfl) ?_
          refine lv_aload_n hx hb d_Ru_askElse_49 rfl (lv_at hl 2 rfl) ?_
          refine gh_get C V hsz23 gc_St gi_St 5 (by decide) f_Ru_91 rfl rfl d_Ru_askElse_50 ?_
          refine lv_iload_n hx hb d_Ru_askElse_53 rfl (lv_at hl 0 rfl) ?_
          refine gh_callS C V hl.1 m_Ru_passesOn l_Ru_151 (c_Ru_passesOn0 l E _ gz23 (Z (1000 + k)) 0 Z foz23 (by decide)) rfl ⟨by first | decide | omega | (dsimp only; omega), by first | decide | omega | (dsimp only; omega)⟩ ⟨by first | decide | omega | (dsimp only; omega), by first | decide | omega | (dsimp only; omega)⟩ (Nat.le_of_ble_eq_true rfl) rfl d_Ru_askElse_54 (fun r z9 H locs hp V => ?_)
          obtain ⟨rfl, he9⟩ := hp
          rw [he9] at V
          refine W.eq (g2 := F0 m 57 ls [.int 0]) rfl ?_
          refine gh_reti hAe C V hr hlocks d_Ru_askElse_57 (by first | decide | omega | (dsimp only; omega)) (by first | decide | omega | (dsimp only; omega)) ?_
          exact ⟨φz23, bz23, hR, ⟨by omega, by omega⟩, hfr, Or.inr (Or.inl ⟨dz12 + dz23, by rw [hTa, hTz23]; rfl, by omega, rfl, by omega⟩), fun _ => ⟨_, _, _, _, _, _, _, _, va, hsz23, hva⟩⟩
        · refine W.eq (g2 := F0 m 47 ls [.int 1]) rfl ?_
          refine lv_istore_n hx hb d_Ru_askElse_47 rfl hl (by decide) rfl (fun ls hl => ?_)
          have hl : lv_has ls 3 [(2, .int 1), (0, .ref (Z 1)), (1, .ref (Z (1000 + k)))] := hl
          refine lv_aload_n hx hb d_Ru_askElse_48 rfl (lv_at hl 2 rfl) ?_
          refine lv_aload_n hx hb d_Ru_askElse_49 rfl (lv_at hl 2 rfl) ?_
          refine gh_get C V hsz23 gc_St gi_St 5 (by decide) f_Ru_91 rfl rfl d_Ru_askElse_50 ?_
          refine lv_iload_n hx hb d_Ru_askElse_53 rfl (lv_at hl 0 rfl) ?_
          refine gh_callS C V hl.1 m_Ru_passesOn l_Ru_151 (c_Ru_passesOn0 l E _ gz23 (Z (1000 + k)) 1 Z foz23 (by decide)) rfl ⟨by first | decide | omega | (dsimp only; omega), by first | decide | omega | (dsimp only; omega)⟩ ⟨by first | decide | omega | (dsimp only; omega), by first | decide | omega | (dsimp only; omega)⟩ (Nat.le_of_ble_eq_true rfl) rfl d_Ru_askElse_54 (fun r z9 H locs hp V => ?_)
          obtain ⟨rfl, he9⟩ := hp
          rw [he9] at V
          refine W.eq (g2 := F0 m 57 ls [.int 1]) rfl ?_
          refine gh_reti hAe C V hr hlocks d_Ru_askElse_57 (by first | decide | omega | (dsimp only; omega)) (by first | decide | omega | (dsimp only; omega)) ?_
          exact ⟨φz23, bz23, hR, ⟨by omega, by omega⟩, hfr, Or.inr (Or.inr (Or.inl ⟨dz12 + dz23, by rw [hTa, hTz23]; rfl, by omega, rfl, by omega⟩)), fun z => absurd z (rv_ne (by decide))⟩
        · subst hoz23
          obtain ⟨yz23_0, yz23_1, yz23_2, yz23_3, yz23_4, yz23_5, yz23_6, yz23_7, az23, hjz23, hxz23, hlz23, hFjz23⟩ := hrsz23.val
          have hltz23 : ∀ i, Fz23 i → i < 250 := fun i hi => by rcases hFz23 i hi with z | z; have := hFb i (hF2 i z); omega; omega
          have hnkz23 : ¬ Fz23 k := fun z => by rcases hFz23 k z with z | z; exact hk2 z; omega
          refine W.eq (g2 := F0 m 47 ls [.int 3]) rfl ?_
          refine lv_istore_n hx hb d_Ru_askElse_47 rfl hl (by decide) rfl (fun ls hl => ?_)
          have hl : lv_has ls 3 [(2, .int 3), (0, .ref (Z 1)), (1, .ref (Z (1000 + k)))] := hl
          refine lv_aload_n hx hb d_Ru_askElse_48 rfl (lv_at hl 2 rfl) ?_
          refine lv_aload_n hx hb d_Ru_askElse_49 rfl (lv_at hl 2 rfl) ?_
          refine gh_get C V hsz23 gc_St gi_St 5 (by decide) f_Ru_91 rfl rfl d_Ru_askElse_50 ?_
          refine lv_iload_n hx hb d_Ru_askElse_53 rfl (lv_at hl 0 rfl) ?_
          refine gh_callS C V hl.1 m_Ru_passesOn l_Ru_151 (c_Ru_passesOn l E _ gz23 ρ Z q0 N cb bg φz23 bz23 s0 e0 k az23 gv _ _ _ _ _ _ _ _ jz23 _ _ _ _ _ _ _ _ hR hk250 hsz23 hjz23) rfl ⟨by first | decide | omega | (dsimp only; omega), by first | decide | omega | (dsimp only; omega)⟩ ⟨by first | decide | omega | (dsimp only; omega), by first | decide | omega | (dsimp only; omega)⟩ (Nat.le_of_ble_eq_true rfl) rfl d_Ru_askElse_54 (fun r g24 H locs hp V => ?_)
          obtain ⟨rfl, hR, hs, hfrg⟩ := hp
          refine W.eq (g2 := F0 m 57 ls [.int 3]) rfl ?_
          have hMg : ∀ a, ρ a = 1000 + k → ¬ rP ρ a := fun a z z2 => by have z2 : ρ a = 0 := z2; omega
          have hfr : gh_fr f g24 (rn_M ρ (20 - (n + 1)) b F) := hfr.tr hfrg (fun a _ _ z => Or.inr (Or.inr (Or.inr (Or.inr ⟨k, hFk, z⟩))))
          have hit := hit.keep hfrg hMg
          have hel := hel.keep hfrg hMg
          refine gh_reti hAe C V hr hlocks d_Ru_askElse_57 (by first | decide | omega | (dsimp only; omega)) (by first | decide | omega | (dsimp only; omega)) ?_
          have hTe : T = sr_cons (dz12 + dz23) xz23 (Rz23) := by rw [hTa, hTz23]; rfl
          have hzr1 := hzr
          rw [hTe] at hzr1
          exact ⟨φz23, bz23, hR, ⟨by omega, by omega⟩, hfr, Or.inr (Or.inr (Or.inr ⟨dz12 + dz23, xz23, Rz23, hTe, by omega, rfl, by omega, fun i => F i ∨ (b ≤ i ∧ i < bz23), rs_mk hs ⟨hk250, hn19, Or.inl hFk⟩ ⟨hqw, hq4, hq6⟩ hit hel (hxz23.keep hfrg hMg) hq16 hzr1 hgv (by omega) (by omega) (rs_run_10 hkd (Or.inr ⟨jz23, xz23, Rz23, Fz23, rfl, (hrsz23.keep hfrg hMg (Nat.le_refl _) (fun i hi z => by have e9 := hz (1000 + i) (by unfold rU; have := hltz23 i hi; omega); have z : ρ (Z (1000 + i)) = 1000 + k := z; exact hnkz23 ((show i = k by omega) ▸ hi))), fun i hi => by rcases hFz23 i hi with z | z; exact Or.inl (hF2 i z); exact Or.inr (by omega), hnkz23, rfl⟩)), fun _ z => z⟩)), fun z => absurd z (rv_ne (by decide))⟩
      · subst hoz12
        obtain ⟨yz12_0, yz12_1, yz12_2, yz12_3, yz12_4, yz12_5, yz12_6, yz12_7, az12, hjz12, hxz12, hlz12, hFjz12⟩ := hrsz12.val
        have hltz12 : ∀ i, Fz12 i → i < 250 := fun i hi => by rcases hFz12 i hi with z | z; have := hFb i (hF1 i z); omega; omega
        have hnkz12 : ¬ Fz12 k := fun z => by rcases hFz12 k z with z | z; exact hk1 z; omega
        refine W.eq (g2 := F0 m 12 ls [.int 3]) rfl ?_
        refine lv_istore_n hx hb d_Ru_askElse_12 rfl hl (by decide) rfl (fun ls hl => ?_)
        have hl : lv_has ls 3 [(2, .int 3), (0, .ref (Z 1)), (1, .ref (Z (1000 + k)))] := hl
        refine lv_iload_n hx hb d_Ru_askElse_13 rfl (lv_at hl 0 rfl) ?_
        refine lv_iconst (v := 3) hx hb d_Ru_askElse_14 (by decide) ?_
        refine lv_icmp_eq (tgt := 23) hx hb d_Ru_askElse_15 (by decide) (fun c25 => ?_) (fun c25 => absurd (by decide) c25)
        refine lv_aload_n hx hb d_Ru_askElse_23 rfl (lv_at hl 2 rfl) ?_
        refine lv_aload_n hx hb d_Ru_askElse_24 rfl (lv_at hl 2 rfl) ?_
        refine gh_get C V hsz12 gc_St gi_St 4 (by decide) f_Ru_87 rfl rfl d_Ru_askElse_25 ?_
        refine lv_iload_n hx hb d_Ru_askElse_28 rfl (lv_at hl 0 rfl) ?_
        refine gh_callS C V hl.1 m_Ru_passesOn l_Ru_151 (c_Ru_passesOn l E _ gz12 ρ Z q0 N cb bg φz12 bz12 s0 e0 k az12 gv _ _ _ _ _ _ _ _ jz12 _ _ _ _ _ _ _ _ hR hk250 hsz12 hjz12) rfl ⟨by first | decide | omega | (dsimp only; omega), by first | decide | omega | (dsimp only; omega)⟩ ⟨by first | decide | omega | (dsimp only; omega), by first | decide | omega | (dsimp only; omega)⟩ (Nat.le_of_ble_eq_true rfl) rfl d_Ru_askElse_29 (fun r g26 H locs hp V => ?_)
        obtain ⟨rfl, hR, hs, hfrg⟩ := hp
        refine W.eq (g2 := F0 m 32 ls [.int 3]) rfl ?_
        have hMg : ∀ a, ρ a = 1000 + k → ¬ rP ρ a := fun a z z2 => by have z2 : ρ a = 0 := z2; omega
        have hfr : gh_fr f g26 (rn_M ρ (20 - (n + 1)) b F) := hfr.tr hfrg (fun a _ _ z => Or.inr (Or.inr (Or.inr (Or.inr ⟨k, hFk, z⟩))))
        have hit := hit.keep hfrg hMg
        have hel := hel.keep hfrg hMg
        refine gh_reti hAe C V hr hlocks d_Ru_askElse_32 (by first | decide | omega | (dsimp only; omega)) (by first | decide | omega | (dsimp only; omega)) ?_
        have hTe : T = sr_cons dz12 xz12 (sr_els (sr_D cb bg n (bg (pt * 3 + 1)) X Y) true Rz12) := by rw [hT, ← sr_els_sk, hTz12, sr_els_t htrz12]
        have hzr1 := hzr
        rw [hTe] at hzr1
        exact ⟨φz12, bz12, hR, ⟨by omega, by omega⟩, hfr, Or.inr (Or.inr (Or.inr ⟨dz12, xz12, sr_els (sr_D cb bg n (bg (pt * 3 + 1)) X Y) true Rz12, hTe, by omega, rfl, by omega, fun i => F i ∨ (b ≤ i ∧ i < bz12), rs_mk hs ⟨hk250, hn19, Or.inl hFk⟩ ⟨hqw, hq4, hq6⟩ hit hel (hxz12.keep hfrg hMg) hq16 hzr1 hgv (by omega) (by omega) (rs_run_10 hkd (Or.inl ⟨rfl, ⟨jz12, xz12, Rz12, Fz12, rfl, (hrsz12.keep hfrg hMg (Nat.le_refl _) (fun i hi z => by have e9 := hz (1000 + i) (by unfold rU; have := hltz12 i hi; omega); have z : ρ (Z (1000 + i)) = 1000 + k := z; exact hnkz12 ((show i = k by omega) ▸ hi))), fun i hi => by rcases hFz12 i hi with z | z; exact Or.inl (hF1 i z); exact Or.inr (by omega), hnkz12, rfl⟩⟩)), fun _ z => z⟩)), fun z => absurd z (rv_ne (by decide))⟩
  · subst hse
    have hS2 : rk_S E ρ Z cb bg N f φ b n k (some j2) (bg (pt * 3 + 1)) X Y T F2 := Or.inr ⟨j2, v2, rfl, hrs2, fun i hi => hFb i (hF2 i hi), hk2⟩
    have hs : f (Z (1000 + k)) = some (.inr (5, [.int (nI pt), .int (nI (19 - n)), .ref it, .ref el, ro Z fi, .ref (Z (1000 + j2)), .int (nI gv), .int (nI pl), .ref va])) := hs
    refine lv_aload_n hx hb d_Ru_askElse_0 rfl (lv_at hl 1 rfl) ?_
    refine gh_get C V hs gc_St gi_St 5 (by decide) f_Ru_91 rfl rfl d_Ru_askElse_1 ?_
    refine lv_ifnonnull (tgt := 42) hx hb d_Ru_askElse_4 (by decide) ?_
    refine lv_aload_n hx hb d_Ru_askElse_42 rfl (lv_at hl 0 rfl) ?_
    refine lv_aload_n hx hb d_Ru_askElse_43 rfl (lv_at hl 1 rfl) ?_
    refine gh_callV C V hl.1 m_Ru_askSecond l_Ru_158 (c_Ru_askSecond l E _ f ρ Z q0 N cb bg φ b s0 e0 n k pt it el ((some j2)) (ro Z fi) (.int (nI gv)) (.int (nI pl)) (.ref va) X Y T F2 hR (by omega) hn19 (by omega) hpt60 hs hit hel hS2 IH) rfl h1R gc_Ru ⟨by first | decide | omega | (dsimp only; omega), by first | decide | omega | (dsimp only; omega)⟩ ⟨by first | decide | omega | (dsimp only; omega), by first | decide | omega | (dsimp only; omega)⟩ (Nat.le_of_ble_eq_true rfl) rfl d_Ru_askElse_44 (fun r gz27 H locs hp V => ?_)
    obtain ⟨φz27, bz27, foz27, hR, ⟨hbz27, hcz27⟩, hfrz27, hsz27, hPz27⟩ := hp
    have hfr : gh_fr f gz27 (rn_M ρ (20 - (n + 1)) b F) := hfr.tr hfrz27 (fun a _ _ z => rn_M.le (by omega) (fun i hi => Or.inl (by rcases hi with hi | hi; exact hF2 i hi; rw [hi]; exact hFk)) (by omega) a z)
    have hit := hit.keep hfrz27 rn_M.P
    have hel := hel.keep hfrz27 rn_M.P
    have hva := hva.keep hfrz27 rn_M.P
    have hRc := hR
    obtain ⟨h1R, ⟨hz, ⟨p206, p207⟩, ⟨gS, hgS, hgS2⟩, ⟨gG, hgG, hgG2⟩, hVR, hqR, hcdR, hbaR, hN60, hq0⟩, ⟨hgaV, hgaR⟩, hSR, hnon⟩ := hRc
    obtain ⟨pvsR, hvsR, hnuR, hnoR, hyeR, -⟩ := id hVR
    rcases hPz27 with ⟨h1z27, rfl, h3z27⟩ | ⟨dz27, hTz27, hdz27, rfl, h3z27⟩ | ⟨dz27, hTz27, hdz27, rfl, h3z27⟩ | ⟨dz27, xz27, Rz27, hTz27, hdz27, rfl, h3z27, jz27, Fz27, hoz27, hrsz27, hFz27⟩
    · refine W.eq (g2 := F0 m 47 ls [.int 2]) rfl ?_
      refine lv_istore_n hx hb d_Ru_askElse_47 rfl hl (by decide) rfl (fun ls hl => ?_)
      have hl : lv_has ls 3 [(2, .int 2), (0, .ref (Z 1)), (1, .ref (Z (1000 + k)))] := hl
      refine lv_aload_n hx hb d_Ru_askElse_48 rfl (lv_at hl 2 rfl) ?_
      refine lv_aload_n hx hb d_Ru_askElse_49 rfl (lv_at hl 2 rfl) ?_
      refine gh_get C V hsz27 gc_St gi_St 5 (by decide) f_Ru_91 rfl rfl d_Ru_askElse_50 ?_
      refine lv_iload_n hx hb d_Ru_askElse_53 rfl (lv_at hl 0 rfl) ?_
      refine gh_callS C V hl.1 m_Ru_passesOn l_Ru_151 (c_Ru_passesOn0 l E _ gz27 (Z (1000 + k)) 2 Z foz27 (by decide)) rfl ⟨by first | decide | omega | (dsimp only; omega), by first | decide | omega | (dsimp only; omega)⟩ ⟨by first | decide | omega | (dsimp only; omega), by first | decide | omega | (dsimp only; omega)⟩ (Nat.le_of_ble_eq_true rfl) rfl d_Ru_askElse_54 (fun r z9 H locs hp V => ?_)
      obtain ⟨rfl, he9⟩ := hp
      rw [he9] at V
      refine W.eq (g2 := F0 m 57 ls [.int 2]) rfl ?_
      refine gh_reti hAe C V hr hlocks d_Ru_askElse_57 (by first | decide | omega | (dsimp only; omega)) (by first | decide | omega | (dsimp only; omega)) ?_
      exact ⟨φz27, bz27, hR, ⟨by omega, by omega⟩, hfr, Or.inl ⟨by omega, rfl, by assumption⟩, fun z => absurd z (rv_ne (by decide))⟩
    · refine W.eq (g2 := F0 m 47 ls [.int 0]) rfl ?_
      refine lv_istore_n hx hb d_Ru_askElse_47 rfl hl (by decide) rfl (fun ls hl => ?_)
      have hl : lv_has ls 3 [(2, .int 0), (0, .ref (Z 1)), (1, .ref (Z (1000 + k)))] := hl
      refine lv_aload_n hx hb d_Ru_askElse_48 rfl (lv_at hl 2 rfl) ?_
      refine lv_aload_n hx hb d_Ru_askElse_49 rfl (lv_at hl 2 rfl) ?_
      refine gh_get C V hsz27 gc_St gi_St 5 (by decide) f_Ru_91 rfl rfl d_Ru_askElse_50 ?_
      refine lv_iload_n hx hb d_Ru_askElse_53 rfl (lv_at hl 0 rfl) ?_
      refine gh_callS C V hl.1 m_Ru_passesOn l_Ru_151 (c_Ru_passesOn0 l E _ gz27 (Z (1000 + k)) 0 Z foz27 (by decide)) rfl ⟨by first | decide | omega | (dsimp only; omega), by first | decide | omega | (dsimp only; omega)⟩ ⟨by first | decide | omega | (dsimp only; omega), by first | decide | omega | (dsimp only; omega)⟩ (Nat.le_of_ble_eq_true rfl) rfl d_Ru_askElse_54 (fun r z9 H locs hp V => ?_)
      obtain ⟨rfl, he9⟩ := hp
      rw [he9] at V
      refine W.eq (g2 := F0 m 57 ls [.int 0]) rfl ?_
      refine gh_reti hAe C V hr hlocks d_Ru_askElse_57 (by first | decide | omega | (dsimp only; omega)) (by first | decide | omega | (dsimp only; omega)) ?_
      exact ⟨φz27, bz27, hR, ⟨by omega, by omega⟩, hfr, Or.inr (Or.inl ⟨dz27, hTz27, by omega, rfl, by omega⟩), fun _ => ⟨_, _, _, _, _, _, _, _, va, hsz27, hva⟩⟩
    · refine W.eq (g2 := F0 m 47 ls [.int 1]) rfl ?_
      refine lv_istore_n hx hb d_Ru_askElse_47 rfl hl (by decide) rfl (fun ls hl => ?_)
      have hl : lv_has ls 3 [(2, .int 1), (0, .ref (Z 1)), (1, .ref (Z (1000 + k)))] := hl
      refine lv_aload_n hx hb d_Ru_askElse_48 rfl (lv_at hl 2 rfl) ?_
      refine lv_aload_n hx hb d_Ru_askElse_49 rfl (lv_at hl 2 rfl) ?_
      refine gh_get C V hsz27 gc_St gi_St 5 (by decide) f_Ru_91 rfl rfl d_Ru_askElse_50 ?_
      refine lv_iload_n hx hb d_Ru_askElse_53 rfl (lv_at hl 0 rfl) ?_
      refine gh_callS C V hl.1 m_Ru_passesOn l_Ru_151 (c_Ru_passesOn0 l E _ gz27 (Z (1000 + k)) 1 Z foz27 (by decide)) rfl ⟨by first | decide | omega | (dsimp only; omega), by first | decide | omega | (dsimp only; omega)⟩ ⟨by first | decide | omega | (dsimp only; omega), by first | decide | omega | (dsimp only; omega)⟩ (Nat.le_of_ble_eq_true rfl) rfl d_Ru_askElse_54 (fun r z9 H locs hp V => ?_)
      obtain ⟨rfl, he9⟩ := hp
      rw [he9] at V
      refine W.eq (g2 := F0 m 57 ls [.int 1]) rfl ?_
      refine gh_reti hAe C V hr hlocks d_Ru_askElse_57 (by first | decide | omega | (dsimp only; omega)) (by first | decide | omega | (dsimp only; omega)) ?_
      exact ⟨φz27, bz27, hR, ⟨by omega, by omega⟩, hfr, Or.inr (Or.inr (Or.inl ⟨dz27, hTz27, by omega, rfl, by omega⟩)), fun z => absurd z (rv_ne (by decide))⟩
    · subst hoz27
      obtain ⟨yz27_0, yz27_1, yz27_2, yz27_3, yz27_4, yz27_5, yz27_6, yz27_7, az27, hjz27, hxz27, hlz27, hFjz27⟩ := hrsz27.val
      have hltz27 : ∀ i, Fz27 i → i < 250 := fun i hi => by rcases hFz27 i hi with z | z; have := hFb i (hF2 i z); omega; omega
      have hnkz27 : ¬ Fz27 k := fun z => by rcases hFz27 k z with z | z; exact hk2 z; omega
      refine W.eq (g2 := F0 m 47 ls [.int 3]) rfl ?_
      refine lv_istore_n hx hb d_Ru_askElse_47 rfl hl (by decide) rfl (fun ls hl => ?_)
      have hl : lv_has ls 3 [(2, .int 3), (0, .ref (Z 1)), (1, .ref (Z (1000 + k)))] := hl
      refine lv_aload_n hx hb d_Ru_askElse_48 rfl (lv_at hl 2 rfl) ?_
      refine lv_aload_n hx hb d_Ru_askElse_49 rfl (lv_at hl 2 rfl) ?_
      refine gh_get C V hsz27 gc_St gi_St 5 (by decide) f_Ru_91 rfl rfl d_Ru_askElse_50 ?_
      refine lv_iload_n hx hb d_Ru_askElse_53 rfl (lv_at hl 0 rfl) ?_
      refine gh_callS C V hl.1 m_Ru_passesOn l_Ru_151 (c_Ru_passesOn l E _ gz27 ρ Z q0 N cb bg φz27 bz27 s0 e0 k az27 gv _ _ _ _ _ _ _ _ jz27 _ _ _ _ _ _ _ _ hR hk250 hsz27 hjz27) rfl ⟨by first | decide | omega | (dsimp only; omega), by first | decide | omega | (dsimp only; omega)⟩ ⟨by first | decide | omega | (dsimp only; omega), by first | decide | omega | (dsimp only; omega)⟩ (Nat.le_of_ble_eq_true rfl) rfl d_Ru_askElse_54 (fun r g28 H locs hp V => ?_)
      obtain ⟨rfl, hR, hs, hfrg⟩ := hp
      refine W.eq (g2 := F0 m 57 ls [.int 3]) rfl ?_
      have hMg : ∀ a, ρ a = 1000 + k → ¬ rP ρ a := fun a z z2 => by have z2 : ρ a = 0 := z2; omega
      have hfr : gh_fr f g28 (rn_M ρ (20 - (n + 1)) b F) := hfr.tr hfrg (fun a _ _ z => Or.inr (Or.inr (Or.inr (Or.inr ⟨k, hFk, z⟩))))
      have hit := hit.keep hfrg hMg
      have hel := hel.keep hfrg hMg
      refine gh_reti hAe C V hr hlocks d_Ru_askElse_57 (by first | decide | omega | (dsimp only; omega)) (by first | decide | omega | (dsimp only; omega)) ?_
      have hTe : T = sr_cons dz27 xz27 (Rz27) := hTz27
      have hzr1 := hzr
      rw [hTe] at hzr1
      exact ⟨φz27, bz27, hR, ⟨by omega, by omega⟩, hfr, Or.inr (Or.inr (Or.inr ⟨dz27, xz27, Rz27, hTe, by omega, rfl, by omega, fun i => F i ∨ (b ≤ i ∧ i < bz27), rs_mk hs ⟨hk250, hn19, Or.inl hFk⟩ ⟨hqw, hq4, hq6⟩ hit hel (hxz27.keep hfrg hMg) hq16 hzr1 hgv (by omega) (by omega) (rs_run_10 hkd (Or.inr ⟨jz27, xz27, Rz27, Fz27, rfl, (hrsz27.keep hfrg hMg (Nat.le_refl _) (fun i hi z => by have e9 := hz (1000 + i) (by unfold rU; have := hltz27 i hi; omega); have z : ρ (Z (1000 + i)) = 1000 + k := z; exact hnkz27 ((show i = k by omega) ▸ hi))), fun i hi => by rcases hFz27 i hi with z | z; exact Or.inl (hF2 i z); exact Or.inr (by omega), hnkz27, rfl⟩)), fun _ z => z⟩)), fun z => absurd z (rv_ne (by decide))⟩
