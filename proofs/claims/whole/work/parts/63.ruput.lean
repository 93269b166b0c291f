/-! askPut. Printed by wip/whole/gen_ru10.py. -/
theorem d_Ru_askPut_0 : decode b_Ru_askPut 0 = .ok (.aload_n 1, 1) := by decide +kernel
theorem d_Ru_askPut_1 : decode b_Ru_askPut 1 = .ok (.getfield 81, 3) := by decide +kernel
theorem d_Ru_askPut_4 : decode b_Ru_askPut 4 = .ok (.getfield 185, 3) := by decide +kernel
theorem d_Ru_askPut_7 : decode b_Ru_askPut 7 = .ok (.bipush 6, 2) := by decide +kernel
theorem d_Ru_askPut_9 : decode b_Ru_askPut 9 = .ok (.if_icmp .eq 15, 3) := by decide +kernel
theorem d_Ru_askPut_12 : decode b_Ru_askPut 12 = .ok (.aload_n 1, 1) := by decide +kernel
theorem d_Ru_askPut_13 : decode b_Ru_askPut 13 = .ok (.getfield 81, 3) := by decide +kernel
theorem d_Ru_askPut_16 : decode b_Ru_askPut 16 = .ok (.getfield 185, 3) := by decide +kernel
theorem d_Ru_askPut_19 : decode b_Ru_askPut 19 = .ok (.ifCond .eq 5, 3) := by decide +kernel
theorem d_Ru_askPut_22 : decode b_Ru_askPut 22 = .ok (.iconst 1, 1) := by decide +kernel
theorem d_Ru_askPut_23 : decode b_Ru_askPut 23 = .ok (.ireturn, 1) := by decide +kernel
theorem d_Ru_askPut_24 : decode b_Ru_askPut 24 = .ok (.aload_n 0, 1) := by decide +kernel
theorem d_Ru_askPut_25 : decode b_Ru_askPut 25 = .ok (.aload_n 1, 1) := by decide +kernel
theorem d_Ru_askPut_26 : decode b_Ru_askPut 26 = .ok (.invokevirtual 155, 3) := by decide +kernel
theorem d_Ru_askPut_29 : decode b_Ru_askPut 29 = .ok (.istore_n 2, 1) := by decide +kernel
theorem d_Ru_askPut_30 : decode b_Ru_askPut 30 = .ok (.iload_n 2, 1) := by decide +kernel
theorem d_Ru_askPut_31 : decode b_Ru_askPut 31 = .ok (.iconst 3, 1) := by decide +kernel
theorem d_Ru_askPut_32 : decode b_Ru_askPut 32 = .ok (.if_icmp .eq 5, 3) := by decide +kernel
theorem d_Ru_askPut_35 : decode b_Ru_askPut 35 = .ok (.iload_n 2, 1) := by decide +kernel
theorem d_Ru_askPut_36 : decode b_Ru_askPut 36 = .ok (.ireturn, 1) := by decide +kernel
theorem d_Ru_askPut_37 : decode b_Ru_askPut 37 = .ok (.aload_n 0, 1) := by decide +kernel
theorem d_Ru_askPut_38 : decode b_Ru_askPut 38 = .ok (.invokevirtual 71, 3) := by decide +kernel
theorem d_Ru_askPut_41 : decode b_Ru_askPut 41 = .ok (.ifCond .ne 5, 3) := by decide +kernel
theorem d_Ru_askPut_44 : decode b_Ru_askPut 44 = .ok (.iconst 2, 1) := by decide +kernel
theorem d_Ru_askPut_45 : decode b_Ru_askPut 45 = .ok (.ireturn, 1) := by decide +kernel
theorem d_Ru_askPut_46 : decode b_Ru_askPut 46 = .ok (.aload_n 0, 1) := by decide +kernel
theorem d_Ru_askPut_47 : decode b_Ru_askPut 47 = .ok (.getfield 13, 3) := by decide +kernel
theorem d_Ru_askPut_50 : decode b_Ru_askPut 50 = .ok (.aload_n 0, 1) := by decide +kernel
theorem d_Ru_askPut_51 : decode b_Ru_askPut 51 = .ok (.getfield 44, 3) := by decide +kernel
theorem d_Ru_askPut_54 : decode b_Ru_askPut 54 = .ok (.aload_n 1, 1) := by decide +kernel
theorem d_Ru_askPut_55 : decode b_Ru_askPut 55 = .ok (.getfield 75, 3) := by decide +kernel
theorem d_Ru_askPut_58 : decode b_Ru_askPut 58 = .ok (.invokevirtual 188, 3) := by decide +kernel
theorem d_Ru_askPut_61 : decode b_Ru_askPut 61 = .ok (.invokevirtual 191, 3) := by decide +kernel
theorem d_Ru_askPut_64 : decode b_Ru_askPut 64 = .ok (.astore_n 3, 1) := by decide +kernel
theorem d_Ru_askPut_65 : decode b_Ru_askPut 65 = .ok (.aload_n 1, 1) := by decide +kernel
theorem d_Ru_askPut_66 : decode b_Ru_askPut 66 = .ok (.aload_n 0, 1) := by decide +kernel
theorem d_Ru_askPut_67 : decode b_Ru_askPut 67 = .ok (.getfield 13, 3) := by decide +kernel
theorem d_Ru_askPut_70 : decode b_Ru_askPut 70 = .ok (.aload_n 1, 1) := by decide +kernel
theorem d_Ru_askPut_71 : decode b_Ru_askPut 71 = .ok (.getfield 81, 3) := by decide +kernel
theorem d_Ru_askPut_74 : decode b_Ru_askPut 74 = .ok (.aload_n 3, 1) := by decide +kernel
theorem d_Ru_askPut_75 : decode b_Ru_askPut 75 = .ok (.aload_n 1, 1) := by decide +kernel
theorem d_Ru_askPut_76 : decode b_Ru_askPut 76 = .ok (.getfield 87, 3) := by decide +kernel
theorem d_Ru_askPut_79 : decode b_Ru_askPut 79 = .ok (.getfield 68, 3) := by decide +kernel
theorem d_Ru_askPut_82 : decode b_Ru_askPut 82 = .ok (.invokevirtual 195, 3) := by decide +kernel
theorem d_Ru_askPut_85 : decode b_Ru_askPut 85 = .ok (.invokestatic 175, 3) := by decide +kernel
theorem d_Ru_askPut_88 : decode b_Ru_askPut 88 = .ok (.ireturn, 1) := by decide +kernel
set_option maxHeartbeats 4000000 in
set_option maxRecDepth 100000 in
theorem c_Ru_askPut (l : Launch) (E : gh_E) (sz : Nat) (f : gh_F) (ρ Z : Nat → Nat) (q0 N : Nat) (cb bg : Nat → Nat) (φ b : Nat) (s0 e0 : Int32) (n u k : Nat) (v : vt) (T : sr) (F : Nat → Prop) (pt w9 it el gv pl va : Nat) (X Y : vt) (fi se : Option Nat) (hR : rn_R E ρ Z f q0 N cb bg φ b s0 e0) (hφb : φ + b ≤ 250) (hFb : ∀ j, F j → j < b) (hx9 : rs_x E ρ Z cb bg N f φ n u k v T F pt w9 it el gv pl va X Y fi se) (IH : rk_A l E ρ Z q0 N cb bg n) (hkd : cb pt = 16) : gh_M l y_Ru_askPut b_Ru_askPut 4 (some .int) E sz [.ref (Z 1), .ref (Z (1000 + k))] f { frames := 25 + 6 * n, cells := 3 * (min (sr_c T) φ + u), slots := 39 * (min (sr_c T) φ + u), locals := 870 + 200 * n } (rk_Q E ρ Z q0 N cb bg (n + 1) f φ b s0 e0 k v T F) := by
  obtain ⟨hs, ⟨hk250, hn19, hFk⟩, ⟨hqw, hq4, hq6⟩, ⟨hit, hel, hva⟩, ⟨q9, hq16, hzr, hgv⟩, hst⟩ := hx9
  have hkb := hFb k hFk
  have hptN := (qw_lt hqw).1
  have hX7 := (hit.le).2
  refine gh_open (by decide) (Nat.le_of_ble_eq_true rfl) ?_
  intro p e s m args below meth c A ls hAe C V hr hlocks hname hl
  have hx := C.1
  have hb := C.2.1
  have hl : lv_has ls 4 [(0, .ref (Z 1)), (1, .ref (Z (1000 + k)))] := hl
  have hRc := hR
  obtain ⟨h1R, ⟨hz, ⟨p206, p207⟩, ⟨gS, hgS, hgS2⟩, ⟨gG, hgG, hgG2⟩, hVR, hqR, hcdR, hbaR, hN60, hq0⟩, ⟨hgaV, hgaR⟩, hSR, hnon⟩ := hRc
  obtain ⟨pvsR, hvsR, hnuR, hnoR, hyeR, -⟩ := id hVR
  have hfr : gh_fr f f (rn_M ρ (20 - (n + 1)) b F) := gh_fr.rf
  have hpt60 : pt < 60 := by omega
  have hle := qw_let hqw (by omega)
  have hoX := vo_o.mp hit.2
  have hk6 := hoX.1
  by_cases hkx : vt_k X = 0 ∨ vt_k X = 6
  · have hqX : (vt_q X).length = vt_c X := by rw [hoX.2.2.2.2.1]; split; rfl; exact (hoX.2.2.2.2.2.1 (by omega)).symm
    obtain ⟨T1, F1, hS1, hF1, hT⟩ : ∃ T1 F1, rk_S E ρ Z cb bg N f φ b n k fi (bg (pt * 3 + 0)) X Y T1 F1 ∧ (∀ i, F1 i → F i) ∧ T = sr_op 1 (vt_wm X [nI (cb (pt + 1))]) T1 := by
      rcases hst with ⟨hu, hg0, hp0, hf0, hs0, hv0, hT⟩ | ⟨hu, hg1, hrun⟩
      · exact ⟨_, fun _ => False, Or.inl ⟨hf0, rfl, rs_child hqw (by omega) hq6 hn19 (by rw [hkd]; decide) hX7, fun _ z => z⟩, fun _ z => z.elim, by rw [hT, sr_B_o, sr_part_16 hkd, if_pos hkx]⟩
      · obtain ⟨_, j, v1, T1, F1, h1, h2, h3, h4, h5⟩ := hrun.2.2.2.2.2.2.2.1 hkd
        exact ⟨T1, F1, Or.inr ⟨j, v1, h1, h2, fun i hi => hFb i (h3 i hi), h4⟩, h3, h5⟩
    have hk1 := hS1.k.1
    have hcT0 : sr_c T1 ≤ sr_c T := by rw [hT]; exact sr_op_c
    refine lv_aload_n hx hb d_Ru_askPut_0 rfl (lv_at hl 1 rfl) ?_
    refine gh_get C V hs gc_St gi_St 2 (by decide) f_Ru_81 rfl rfl d_Ru_askPut_1 ?_
    obtain ⟨la_1, ka_1, ia_1, gk_1, gi_1, K_1, B_1, hp_1, h0_1, h1_1, h2_1, h3_1, h4_1, h5_1⟩ := cv_o.mp hit.1
    refine gh_get C V h0_1 gc_Va gi_Va 0 (by decide) f_Ru_185 rfl rfl d_Ru_askPut_4 ?_
    refine lv_bipush (v := 6) hx hb d_Ru_askPut_7 (by decide) ?_
    refine lv_icmp_eq (tgt := 24) hx hb d_Ru_askPut_9 (by decide) (fun c2 => ?_) (fun c2 => ?_)
    · have c2 : (vt_k X) = 6 := by rw [← gq_eq (a := vt_k X) (b := 6) (by omega) (by omega)]; exact c2
      refine lv_aload_n hx hb d_Ru_askPut_24 rfl (lv_at hl 0 rfl) ?_
      refine lv_aload_n hx hb d_Ru_askPut_25 rfl (lv_at hl 1 rfl) ?_
      refine gh_callV C V hl.1 m_Ru_askFirst l_Ru_155 (c_Ru_askFirst l E _ f ρ Z q0 N cb bg φ b s0 e0 n k pt it el fi (ro Z se) (.int (nI gv)) (.int (nI pl)) (.ref va) X Y T1 F1 hR (by omega) hn19 (by omega) hpt60 hs hit hel hS1 IH) rfl h1R gc_Ru ⟨by first | decide | omega | (dsimp only; omega), by first | decide | omega | (dsimp only; omega)⟩ ⟨by first | decide | omega | (dsimp only; omega), by first | decide | omega | (dsimp only; omega)⟩ (Nat.le_of_ble_eq_true rfl) rfl d_Ru_askPut_26 (fun r gz3 H locs hp V => ?_)
      obtain ⟨φz3, bz3, foz3, hR, ⟨hbz3, hcz3⟩, hfrz3, hsz3, hPz3⟩ := hp
      have hfr : gh_fr f gz3 (rn_M ρ (20 - (n + 1)) b F) := hfr.tr hfrz3 (fun a _ _ z => rn_M.le (by omega) (fun i hi => Or.inl (by rcases hi with hi | hi; exact hF1 i hi; rw [hi]; exact hFk)) (by omega) a z)
      have hit := hit.keep hfrz3 rn_M.P
      have hel := hel.keep hfrz3 rn_M.P
      have hva := hva.keep hfrz3 rn_M.P
      have hRc := hR
      obtain ⟨h1R, ⟨hz, ⟨p206, p207⟩, ⟨gS, hgS, hgS2⟩, ⟨gG, hgG, hgG2⟩, hVR, hqR, hcdR, hbaR, hN60, hq0⟩, ⟨hgaV, hgaR⟩, hSR, hnon⟩ := hRc
      obtain ⟨pvsR, hvsR, hnuR, hnoR, hyeR, -⟩ := id hVR
      rcases hPz3 with ⟨h1z3, rfl, h3z3⟩ | ⟨dz3, hTz3, hdz3, rfl, h3z3⟩ | ⟨dz3, hTz3, hdz3, rfl, h3z3⟩ | ⟨dz3, xz3, Rz3, hTz3, hdz3, rfl, h3z3, jz3, Fz3, hoz3, hrsz3, hFz3⟩
      · refine W.eq (g2 := F0 m 29 ls [.int 2]) rfl ?_
        refine lv_istore_n hx hb d_Ru_askPut_29 rfl hl (by decide) rfl (fun ls hl => ?_)
        have hl : lv_has ls 4 [(2, .int 2), (0, .ref (Z 1)), (1, .ref (Z (1000 + k)))] := hl
        refine lv_iload_n hx hb d_Ru_askPut_30 rfl (lv_at hl 0 rfl) ?_
        refine lv_iconst (v := 3) hx hb d_Ru_askPut_31 (by decide) ?_
        refine lv_icmp_eq (tgt := 37) hx hb d_Ru_askPut_32 (by decide) (fun c4 => absurd c4 (by decide)) (fun c4 => ?_)
        refine lv_iload_n hx hb d_Ru_askPut_35 rfl (lv_at hl 0 rfl) ?_
        refine gh_reti hAe C V hr hlocks d_Ru_askPut_36 (by first | decide | omega | (dsimp only; omega)) (by first | decide | omega | (dsimp only; omega)) ?_
        exact ⟨φz3, bz3, hR, ⟨by omega, by omega⟩, hfr, Or.inl ⟨by omega, rfl, by assumption⟩, fun z => absurd z (rv_ne (by decide))⟩
      · refine W.eq (g2 := F0 m 29 ls [.int 0]) rfl ?_
        refine lv_istore_n hx hb d_Ru_askPut_29 rfl hl (by decide) rfl (fun ls hl => ?_)
        have hl : lv_has ls 4 [(2, .int 0), (0, .ref (Z 1)), (1, .ref (Z (1000 + k)))] := hl
        refine lv_iload_n hx hb d_Ru_askPut_30 rfl (lv_at hl 0 rfl) ?_
        refine lv_iconst (v := 3) hx hb d_Ru_askPut_31 (by decide) ?_
        refine lv_icmp_eq (tgt := 37) hx hb d_Ru_askPut_32 (by decide) (fun c5 => absurd c5 (by decide)) (fun c5 => ?_)
        refine lv_iload_n hx hb d_Ru_askPut_35 rfl (lv_at hl 0 rfl) ?_
        refine gh_reti hAe C V hr hlocks d_Ru_askPut_36 (by first | decide | omega | (dsimp only; omega)) (by first | decide | omega | (dsimp only; omega)) ?_
        exact ⟨φz3, bz3, hR, ⟨by omega, by omega⟩, hfr, Or.inr (Or.inl ⟨dz3, by rw [hT, hTz3]; rfl, by omega, rfl, by omega⟩), fun _ => ⟨_, _, _, _, _, _, _, _, va, hsz3, hva⟩⟩
      · refine W.eq (g2 := F0 m 29 ls [.int 1]) rfl ?_
        refine lv_istore_n hx hb d_Ru_askPut_29 rfl hl (by decide) rfl (fun ls hl => ?_)
        have hl : lv_has ls 4 [(2, .int 1), (0, .ref (Z 1)), (1, .ref (Z (1000 + k)))] := hl
        refine lv_iload_n hx hb d_Ru_askPut_30 rfl (lv_at hl 0 rfl) ?_
        refine lv_iconst (v := 3) hx hb d_Ru_askPut_31 (by decide) ?_
        refine lv_icmp_eq (tgt := 37) hx hb d_Ru_askPut_32 (by decide) (fun c6 => absurd c6 (by decide)) (fun c6 => ?_)
        refine lv_iload_n hx hb d_Ru_askPut_35 rfl (lv_at hl 0 rfl) ?_
        refine gh_reti hAe C V hr hlocks d_Ru_askPut_36 (by first | decide | omega | (dsimp only; omega)) (by first | decide | omega | (dsimp only; omega)) ?_
        exact ⟨φz3, bz3, hR, ⟨by omega, by omega⟩, hfr, Or.inr (Or.inr (Or.inl ⟨dz3, by rw [hT, hTz3]; rfl, by omega, rfl, by omega⟩)), fun z => absurd z (rv_ne (by decide))⟩
      · subst hoz3
        obtain ⟨yz3_0, yz3_1, yz3_2, yz3_3, yz3_4, yz3_5, yz3_6, yz3_7, az3, hjz3, hxz3, hlz3, hFjz3⟩ := hrsz3.val
        have hltz3 : ∀ i, Fz3 i → i < 250 := fun i hi => by rcases hFz3 i hi with z | z; have := hFb i (hF1 i z); omega; omega
        have hnkz3 : ¬ Fz3 k := fun z => by rcases hFz3 k z with z | z; exact hk1 z; omega
        have hfk : gh_fr gz3 gz3 (rn_N ρ k) := gh_fr.rf
        have hcT : sr_c T = dz3 + 1 := by rw [hT, hTz3, sr_op_cc]
        have hcT1 : sr_c T1 = dz3 := by rw [hTz3]; rfl
        refine W.eq (g2 := F0 m 29 ls [.int 3]) rfl ?_
        refine lv_istore_n hx hb d_Ru_askPut_29 rfl hl (by decide) rfl (fun ls hl => ?_)
        have hl : lv_has ls 4 [(2, .int 3), (0, .ref (Z 1)), (1, .ref (Z (1000 + k)))] := hl
        refine lv_iload_n hx hb d_Ru_askPut_30 rfl (lv_at hl 0 rfl) ?_
        refine lv_iconst (v := 3) hx hb d_Ru_askPut_31 (by decide) ?_
        refine lv_icmp_eq (tgt := 37) hx hb d_Ru_askPut_32 (by decide) (fun c7 => ?_) (fun c7 => absurd (by decide) c7)
        refine lv_aload_n hx hb d_Ru_askPut_37 rfl (lv_at hl 1 rfl) ?_
        refine gh_callV C V hl.1 m_Ru_pays l_Ru_71 (c_Ru_pays l E _ gz3 ρ Z q0 N cb bg φz3 bz3 s0 e0 hR (by omega)) rfl h1R gc_Ru ⟨by first | decide | omega | (dsimp only; omega), by first | decide | omega | (dsimp only; omega)⟩ ⟨by first | decide | omega | (dsimp only; omega), by first | decide | omega | (dsimp only; omega)⟩ (Nat.le_of_ble_eq_true rfl) rfl d_Ru_askPut_38 (fun r g8 H locs hp V => ?_)
        by_cases hφ0 : φz3 = 0
        · obtain ⟨rfl, he9⟩ := hp.1 hφ0
          rw [he9] at V
          refine W.eq (g2 := F0 m 41 ls [.int 0]) rfl ?_
          refine lv_if_ne (tgt := 46) hx hb d_Ru_askPut_41 (by decide) (fun c9 => absurd (by decide) c9) (fun c9 => ?_)
          refine lv_iconst (v := 2) hx hb d_Ru_askPut_44 (by decide) ?_
          refine gh_reti hAe C V hr hlocks d_Ru_askPut_45 (by first | decide | omega | (dsimp only; omega)) (by first | decide | omega | (dsimp only; omega)) ?_
          exact ⟨φz3, bz3, hR, ⟨by omega, by omega⟩, hfr, Or.inl ⟨by omega, rfl, by assumption⟩, fun z => absurd z (rv_ne (by decide))⟩
        · obtain ⟨rfl, hR, hfr9⟩ := hp.2 (by omega)
          refine W.eq (g2 := F0 m 41 ls [.int 1]) rfl ?_
          have hfN := hfr9.wide (N := rn_N ρ k) (fun a z => Or.inl z)
          have hfk : gh_fr gz3 g8 (rn_N ρ k) := hfk.tr hfN (fun _ _ _ z => z)
          have hfr : gh_fr f g8 (rn_M ρ (20 - (n + 1)) b F) := hfr.tr hfN (fun a _ _ z => rn_N.M hFk a z)
          have hit := hit.keep hfN rn_N.P
          have hel := hel.keep hfN rn_N.P
          have h_Z__1000___k__g8 := hfr9.at hsz3 (fun z => by have e9 := hz (1000 + k) (by unfold rU; omega); have z : ρ (Z (1000 + k)) = 1 := z; omega)
          have h_Z__1000___jz3__g8 := hfr9.at hjz3 (fun z => by have e9 := hz (1000 + jz3) (by unfold rU; omega); have z : ρ (Z (1000 + jz3)) = 1 := z; omega)
          have hRc := hR
          obtain ⟨h1R, ⟨hz, ⟨p206, p207⟩, ⟨gS, hgS, hgS2⟩, ⟨gG, hgG, hgG2⟩, hVR, hqR, hcdR, hbaR, hN60, hq0⟩, ⟨hgaV, hgaR⟩, hSR, hnon⟩ := hRc
          obtain ⟨pvsR, hvsR, hnuR, hnoR, hyeR, -⟩ := id hVR
          refine lv_if_ne (tgt := 46) hx hb d_Ru_askPut_41 (by decide) (fun c10 => ?_) (fun c10 => absurd c10 (by decide))
          refine lv_aload_n hx hb d_Ru_askPut_46 rfl (lv_at hl 1 rfl) ?_
          refine gh_get C V h1R gc_Ru gi_Ru 0 (by decide) f_Ru_13 rfl rfl d_Ru_askPut_47 ?_
          refine lv_aload_n hx hb d_Ru_askPut_50 rfl (lv_at hl 1 rfl) ?_
          refine gh_get C V h1R gc_Ru gi_Ru 4 (by decide) f_Ru_44 rfl rfl d_Ru_askPut_51 ?_
          refine lv_aload_n hx hb d_Ru_askPut_54 rfl (lv_at hl 2 rfl) ?_
          refine gh_get C V h_Z__1000___k__g8 gc_St gi_St 0 (by decide) f_Ru_75 rfl rfl d_Ru_askPut_55 ?_
          refine gh_callV C V hl.1 m_Qu_letterOf l_Ru_188 (c_Qu_letterOf l E _ g8 (Z q0) (Z (q0 + 1)) (Z (q0 + 2)) N cb bg pt hN60 hqR hcdR hbaR hle.1) rfl hqR gc_Qu ⟨by first | decide | omega | (dsimp only; omega), by first | decide | omega | (dsimp only; omega)⟩ ⟨by first | decide | omega | (dsimp only; omega), by first | decide | omega | (dsimp only; omega)⟩ (Nat.le_of_ble_eq_true rfl) rfl d_Ru_askPut_58 (fun r z9 H locs hp V => ?_)
          obtain ⟨rfl, he9⟩ := hp
          rw [he9] at V
          refine W.eq (g2 := F0 m 61 ls [.int (nI (cb (pt + 1))), .ref (Z 200)]) rfl ?_
          refine gh_callV C V hl.1 m_Vs_letter l_Ru_191 (c_Vs_letter l E _ g8 (rP ρ) (Z 200) (Z 201) (Z 202) (Z 203) (Z 204) (Z 205) (Z 3) (cb (pt + 1)) hVR hnon ⟨hle.2.1, hle.2.2⟩) rfl hvsR gc_Vs ⟨by first | decide | omega | (dsimp only; omega), by first | decide | omega | (dsimp only; omega)⟩ ⟨by first | decide | omega | (dsimp only; omega), by first | decide | omega | (dsimp only; omega)⟩ (Nat.le_of_ble_eq_true rfl) rfl d_Ru_askPut_61 (fun r z9 H locs hp V => ?_)
          obtain ⟨⟨ac, rfl, hac⟩, he9⟩ := hp
          rw [he9] at V hac
          refine W.eq (g2 := F0 m 64 ls [.ref ac]) rfl ?_
          refine lv_astore_n hx hb d_Ru_askPut_64 rfl hl (by decide) rfl (fun ls hl => ?_)
          have hl : lv_has ls 4 [(3, .ref ac), (2, .int 3), (0, .ref (Z 1)), (1, .ref (Z (1000 + k)))] := hl
          refine lv_aload_n hx hb d_Ru_askPut_65 rfl (lv_at hl 3 rfl) ?_
          refine lv_aload_n hx hb d_Ru_askPut_66 rfl (lv_at hl 2 rfl) ?_
          refine gh_get C V h1R gc_Ru gi_Ru 0 (by decide) f_Ru_13 rfl rfl d_Ru_askPut_67 ?_
          refine lv_aload_n hx hb d_Ru_askPut_70 rfl (lv_at hl 3 rfl) ?_
          refine gh_get C V h_Z__1000___k__g8 gc_St gi_St 2 (by decide) f_Ru_81 rfl rfl d_Ru_askPut_71 ?_
          refine lv_aload_n hx hb d_Ru_askPut_74 rfl (lv_at hl 0 rfl) ?_
          refine lv_aload_n hx hb d_Ru_askPut_75 rfl (lv_at hl 3 rfl) ?_
          refine gh_get C V h_Z__1000___k__g8 gc_St gi_St 4 (by decide) f_Ru_87 rfl rfl d_Ru_askPut_76 ?_
          refine gh_get C V h_Z__1000___jz3__g8 gc_St gi_St 8 (by decide) f_Ru_68 rfl rfl d_Ru_askPut_79 ?_
          have hxk := hxz3.keep hfk rn_N.P
          refine gh_callV C V hl.1 m_Vs_withMember l_Ru_195 (c_Vs_withMember l E _ g8 (rP ρ) (Z 200) (Z 201) (Z 202) (Z 203) (Z 204) (Z 205) (Z 3) (Z 4) (Z 5) it ac az3 X xz3 [nI (cb (pt + 1))] hVR hnon hgaV hit hqX hac (lt_ch (by omega)) hxk) rfl hvsR gc_Vs ⟨by first | decide | omega | (dsimp only; omega), by first | decide | omega | (dsimp only; omega)⟩ ⟨by first | decide | omega | (dsimp only; omega), by first | decide | omega | (dsimp only; omega)⟩ (Nat.le_of_ble_eq_true rfl) rfl d_Ru_askPut_82 (fun r g9 H locs hp V => ?_)
          obtain ⟨hva, hga9, hfr9⟩ := hp
          have hR := hR.keepV hfr9 hga9
          have hfN := hfr9.wide (N := rn_N ρ k) (fun a z => ga_MZ hz a z)
          have hfk : gh_fr gz3 g9 (rn_N ρ k) := hfk.tr hfN (fun _ _ _ z => z)
          have hfr : gh_fr f g9 (rn_M ρ (20 - (n + 1)) b F) := hfr.tr hfN (fun a _ _ z => rn_N.M hFk a z)
          have hit := hit.keep hfN rn_N.P
          have hel := hel.keep hfN rn_N.P
          have hs := hfr9.at h_Z__1000___k__g8 (fun z => rn_N.st (k := k + 1) hz hk250 (by omega) (ga_MZ hz _ z))
          have hRc := hR
          obtain ⟨h1R, ⟨hz, ⟨p206, p207⟩, ⟨gS, hgS, hgS2⟩, ⟨gG, hgG, hgG2⟩, hVR, hqR, hcdR, hbaR, hN60, hq0⟩, ⟨hgaV, hgaR⟩, hSR, hnon⟩ := hRc
          obtain ⟨pvsR, hvsR, hnuR, hnoR, hyeR, -⟩ := id hVR
          cases ho : vt_wm X [nI (cb (pt + 1))] xz3 with
          | none =>
            rw [ho] at hva
            have hva : r = some .null := hva
            subst hva
            refine W.eq (g2 := F0 m 85 ls [.null, .ref (Z (1000 + k))]) rfl ?_
            refine gh_callS C V hl.1 m_Ru_givesOrFails l_Ru_175 (c_Ru_givesOrFails0 l E _ g9 (Z (1000 + k))) rfl ⟨by first | decide | omega | (dsimp only; omega), by first | decide | omega | (dsimp only; omega)⟩ ⟨by first | decide | omega | (dsimp only; omega), by first | decide | omega | (dsimp only; omega)⟩ (Nat.le_of_ble_eq_true rfl) rfl d_Ru_askPut_85 (fun r z9 H locs hp V => ?_)
            obtain ⟨rfl, he9⟩ := hp
            rw [he9] at V
            refine W.eq (g2 := F0 m 88 ls [.int 1]) rfl ?_
            refine gh_reti hAe C V hr hlocks d_Ru_askPut_88 (by first | decide | omega | (dsimp only; omega)) (by first | decide | omega | (dsimp only; omega)) ?_
            exact ⟨φz3 - 1, bz3, hR, ⟨by omega, by omega⟩, hfr, Or.inr (Or.inr (Or.inl ⟨dz3 + 1, by rw [hT, hTz3, sr_op_none ho], by omega, rfl, by omega⟩)), fun z => absurd z (rv_ne (by decide))⟩
          | some M9 =>
            rw [ho] at hva
            obtain ⟨b9, rfl, hb9⟩ := hva
            refine W.eq (g2 := F0 m 85 ls [.ref b9, .ref (Z (1000 + k))]) rfl ?_
            refine gh_callS C V hl.1 m_Ru_givesOrFails l_Ru_175 (c_Ru_givesOrFails l E _ g9 ρ Z q0 N cb bg (φz3 - 1) bz3 s0 e0 k b9 gv _ _ _ _ _ _ _ _ hR hk250 hs) rfl ⟨by first | decide | omega | (dsimp only; omega), by first | decide | omega | (dsimp only; omega)⟩ ⟨by first | decide | omega | (dsimp only; omega), by first | decide | omega | (dsimp only; omega)⟩ (Nat.le_of_ble_eq_true rfl) rfl d_Ru_askPut_85 (fun r g11 H locs hp V => ?_)
            obtain ⟨rfl, hR, hs, hfrg⟩ := hp
            refine W.eq (g2 := F0 m 88 ls [.int 3]) rfl ?_
            have hMg : ∀ a, ρ a = 1000 + k → ¬ rP ρ a := fun a z z2 => by have z2 : ρ a = 0 := z2; omega
            have hfr : gh_fr f g11 (rn_M ρ (20 - (n + 1)) b F) := hfr.tr hfrg (fun a _ _ z => Or.inr (Or.inr (Or.inr (Or.inr ⟨k, hFk, z⟩))))
            have hit := hit.keep hfrg hMg
            have hel := hel.keep hfrg hMg
            refine gh_reti hAe C V hr hlocks d_Ru_askPut_88 (by first | decide | omega | (dsimp only; omega)) (by first | decide | omega | (dsimp only; omega)) ?_
            have hfk := hfk.tr hfrg (fun a _ _ z => Or.inr (Or.inr z))
            have hTe : T = sr_cons (dz3 + 1) M9 (sr_op 1 (vt_wm X [nI (cb (pt + 1))]) Rz3) := by rw [hT, hTz3, sr_op_some ho]
            have hzr1 := hzr
            rw [hTe] at hzr1
            exact ⟨φz3 - 1, bz3, hR, ⟨by omega, by omega⟩, hfr, Or.inr (Or.inr (Or.inr ⟨dz3 + 1, M9, sr_op 1 (vt_wm X [nI (cb (pt + 1))]) Rz3, hTe, by omega, rfl, by omega, fun i => F i ∨ (b ≤ i ∧ i < bz3), rs_mk hs ⟨hk250, hn19, Or.inl hFk⟩ ⟨hqw, hq4, hq6⟩ hit hel (hb9.keep hfrg hMg) hq16 hzr1 hgv (by omega) (by omega) (rs_run_16 hkd ⟨hkx, ⟨jz3, xz3, Rz3, Fz3, rfl, (hrsz3.keep hfk rn_N.P (by omega) (fun i hi => rn_N.st hz (hltz3 i hi) (fun z => hnkz3 (z ▸ hi)))), fun i hi => by rcases hFz3 i hi with z | z; exact Or.inl (hF1 i z); exact Or.inr (by omega), hnkz3, rfl⟩⟩), fun _ z => z⟩)), fun z => absurd z (rv_ne (by decide))⟩
    · have c2 : ¬ (vt_k X) = 6 := by rw [← gq_eq (a := vt_k X) (b := 6) (by omega) (by omega)]; exact c2
      refine lv_aload_n hx hb d_Ru_askPut_12 rfl (lv_at hl 1 rfl) ?_
      refine gh_get C V hs gc_St gi_St 2 (by decide) f_Ru_81 rfl rfl d_Ru_askPut_13 ?_
      refine gh_get C V h0_1 gc_Va gi_Va 0 (by decide) f_Ru_185 rfl rfl d_Ru_askPut_16 ?_
      refine lv_if_eq (tgt := 24) hx hb d_Ru_askPut_19 (by decide) (fun c12 => ?_) (fun c12 => ?_)
      · have c12 : (vt_k X) = 0 := by rw [← gq_eq (a := vt_k X) (b := 0) (by omega) (by omega)]; exact c12
        refine lv_aload_n hx hb d_Ru_askPut_24 rfl (lv_at hl 0 rfl) ?_
        refine lv_aload_n hx hb d_Ru_askPut_25 rfl (lv_at hl 1 rfl) ?_
        refine gh_callV C V hl.1 m_Ru_askFirst l_Ru_155 (c_Ru_askFirst l E _ f ρ Z q0 N cb bg φ b s0 e0 n k pt it el fi (ro Z se) (.int (nI gv)) (.int (nI pl)) (.ref va) X Y T1 F1 hR (by omega) hn19 (by omega) hpt60 hs hit hel hS1 IH) rfl h1R gc_Ru ⟨by first | decide | omega | (dsimp only; omega), by first | decide | omega | (dsimp only; omega)⟩ ⟨by first | decide | omega | (dsimp only; omega), by first | decide | omega | (dsimp only; omega)⟩ (Nat.le_of_ble_eq_true rfl) rfl d_Ru_askPut_26 (fun r gz13 H locs hp V => ?_)
        obtain ⟨φz13, bz13, foz13, hR, ⟨hbz13, hcz13⟩, hfrz13, hsz13, hPz13⟩ := hp
        have hfr : gh_fr f gz13 (rn_M ρ (20 - (n + 1)) b F) := hfr.tr hfrz13 (fun a _ _ z => rn_M.le (by omega) (fun i hi => Or.inl (by rcases hi with hi | hi; exact hF1 i hi; rw [hi]; exact hFk)) (by omega) a z)
        have hit := hit.keep hfrz13 rn_M.P
        have hel := hel.keep hfrz13 rn_M.P
        have hva := hva.keep hfrz13 rn_M.P
        have hRc := hR
        obtain ⟨h1R, ⟨hz, ⟨p206, p207⟩, ⟨gS, hgS, hgS2⟩, ⟨gG, hgG, hgG2⟩, hVR, hqR, hcdR, hbaR, hN60, hq0⟩, ⟨hgaV, hgaR⟩, hSR, hnon⟩ := hRc
        obtain ⟨pvsR, hvsR, hnuR, hnoR, hyeR, -⟩ := id hVR
        rcases hPz13 with ⟨h1z13, rfl, h3z13⟩ | ⟨dz13, hTz13, hdz13, rfl, h3z13⟩ | ⟨dz13, hTz13, hdz13, rfl, h3z13⟩ | ⟨dz13, xz13, Rz13, hTz13, hdz13, rfl, h3z13, jz13, Fz13, hoz13, hrsz13, hFz13⟩
        · refine W.eq (g2 := F0 m 29 ls [.int 2]) rfl ?_
          refine lv_istore_n hx hb d_Ru_askPut_29 rfl hl (by decide) rfl (fun ls hl => ?_)
          have hl : lv_has ls 4 [(2, .int 2), (0, .ref (Z 1)), (1, .ref (Z (1000 + k)))] := hl
          refine lv_iload_n hx hb d_Ru_askPut_30 rfl (lv_at hl 0 rfl) ?_
          refine lv_iconst (v := 3) hx hb d_Ru_askPut_31 (by decide) ?_
          refine lv_icmp_eq (tgt := 37) hx hb d_Ru_askPut_32 (by decide) (fun c14 => absurd c14 (by decide)) (fun c14 => ?_)
          refine lv_iload_n hx hb d_Ru_askPut_35 rfl (lv_at hl 0 rfl) ?_
          refine gh_reti hAe C V hr hlocks d_Ru_askPut_36 (by first | decide | omega | (dsimp only; omega)) (by first | decide | omega | (dsimp only; omega)) ?_
          exact ⟨φz13, bz13, hR, ⟨by omega, by omega⟩, hfr, Or.inl ⟨by omega, rfl, by assumption⟩, fun z => absurd z (rv_ne (by decide))⟩
        · refine W.eq (g2 := F0 m 29 ls [.int 0]) rfl ?_
          refine lv_istore_n hx hb d_Ru_askPut_29 rfl hl (by decide) rfl (fun ls hl => ?_)
          have hl : lv_has ls 4 [(2, .int 0), (0, .ref (Z 1)), (1, .ref (Z (1000 + k)))] := hl
          refine lv_iload_n hx hb d_Ru_askPut_30 rfl (lv_at hl 0 rfl) ?_
          refine lv_iconst (v := 3) hx hb d_Ru_askPut_31 (by decide) ?_
          refine lv_icmp_eq (tgt := 37) hx hb d_Ru_askPut_32 (by decide) (fun c15 => absurd c15 (by decide)) (fun c15 => ?_)
          refine lv_iload_n hx hb d_Ru_askPut_35 rfl (lv_at hl 0 rfl) ?_
          refine gh_reti hAe C V hr hlocks d_Ru_askPut_36 (by first | decide | omega | (dsimp only; omega)) (by first | decide | omega | (dsimp only; omega)) ?_
          exact ⟨φz13, bz13, hR, ⟨by omega, by omega⟩, hfr, Or.inr (Or.inl ⟨dz13, by rw [hT, hTz13]; rfl, by omega, rfl, by omega⟩), fun _ => ⟨_, _, _, _, _, _, _, _, va, hsz13, hva⟩⟩
        · refine W.eq (g2 := F0 m 29 ls [.int 1]) rfl ?_
          refine lv_istore_n hx hb d_Ru_askPut_29 rfl hl (by decide) rfl (fun ls hl => ?_)
          have hl : lv_has ls 4 [(2, .int 1), (0, .ref (Z 1)), (1, .ref (Z (1000 + k)))] := hl
          refine lv_iload_n hx hb d_Ru_askPut_30 rfl (lv_at hl 0 rfl) ?_
          refine lv_iconst (v := 3) hx hb d_Ru_askPut_31 (by decide) ?_
          refine lv_icmp_eq (tgt := 37) hx hb d_Ru_askPut_32 (by decide) (fun c16 => absurd c16 (by decide)) (fun c16 => ?_)
          refine lv_iload_n hx hb d_Ru_askPut_35 rfl (lv_at hl 0 rfl) ?_
          refine gh_reti hAe C V hr hlocks d_Ru_askPut_36 (by first | decide | omega | (dsimp only; omega)) (by first | decide | omega | (dsimp only; omega)) ?_
          exact ⟨φz13, bz13, hR, ⟨by omega, by omega⟩, hfr, Or.inr (Or.inr (Or.inl ⟨dz13, by rw [hT, hTz13]; rfl, by omega, rfl, by omega⟩)), fun z => absurd z (rv_ne (by decide))⟩
        · subst hoz13
          obtain ⟨yz13_0, yz13_1, yz13_2, yz13_3, yz13_4, yz13_5, yz13_6, yz13_7, az13, hjz13, hxz13, hlz13, hFjz13⟩ := hrsz13.val
          have hltz13 : ∀ i, Fz13 i → i < 250 := fun i hi => by rcases hFz13 i hi with z | z; have := hFb i (hF1 i z); omega; omega
          have hnkz13 : ¬ Fz13 k := fun z => by rcases hFz13 k z with z | z; exact hk1 z; omega
          have hfk : gh_fr gz13 gz13 (rn_N ρ k) := gh_fr.rf
          have hcT : sr_c T = dz13 + 1 := by rw [hT, hTz13, sr_op_cc]
          have hcT1 : sr_c T1 = dz13 := by rw [hTz13]; rfl
          refine W.eq (g2 := F0 m 29 ls [.int 3]) rfl ?_
          refine lv_istore_n hx hb d_Ru_askPut_29 rfl hl (by decide) rfl (fun ls hl => ?_)
          have hl : lv_has ls 4 [(2, .int 3), (0, .ref (Z 1)), (1, .ref (Z (1000 + k)))] := hl
          refine lv_iload_n hx hb d_Ru_askPut_30 rfl (lv_at hl 0 rfl) ?_
          refine lv_iconst (v := 3) hx hb d_Ru_askPut_31 (by decide) ?_
          refine lv_icmp_eq (tgt := 37) hx hb d_Ru_askPut_32 (by decide) (fun c17 => ?_) (fun c17 => absurd (by decide) c17)
          refine lv_aload_n hx hb d_Ru_askPut_37 rfl (lv_at hl 1 rfl) ?_
          refine gh_callV C V hl.1 m_Ru_pays l_Ru_71 (c_Ru_pays l E _ gz13 ρ Z q0 N cb bg φz13 bz13 s0 e0 hR (by omega)) rfl h1R gc_Ru ⟨by first | decide | omega | (dsimp only; omega), by first | decide | omega | (dsimp only; omega)⟩ ⟨by first | decide | omega | (dsimp only; omega), by first | decide | omega | (dsimp only; omega)⟩ (Nat.le_of_ble_eq_true rfl) rfl d_Ru_askPut_38 (fun r g18 H locs hp V => ?_)
          by_cases hφ0 : φz13 = 0
          · obtain ⟨rfl, he9⟩ := hp.1 hφ0
            rw [he9] at V
            refine W.eq (g2 := F0 m 41 ls [.int 0]) rfl ?_
            refine lv_if_ne (tgt := 46) hx hb d_Ru_askPut_41 (by decide) (fun c19 => absurd (by decide) c19) (fun c19 => ?_)
            refine lv_iconst (v := 2) hx hb d_Ru_askPut_44 (by decide) ?_
            refine gh_reti hAe C V hr hlocks d_Ru_askPut_45 (by first | decide | omega | (dsimp only; omega)) (by first | decide | omega | (dsimp only; omega)) ?_
            exact ⟨φz13, bz13, hR, ⟨by omega, by omega⟩, hfr, Or.inl ⟨by omega, rfl, by assumption⟩, fun z => absurd z (rv_ne (by decide))⟩
          · obtain ⟨rfl, hR, hfr9⟩ := hp.2 (by omega)
            refine W.eq (g2 := F0 m 41 ls [.int 1]) rfl ?_
            have hfN := hfr9.wide (N := rn_N ρ k) (fun a z => Or.inl z)
            have hfk : gh_fr gz13 g18 (rn_N ρ k) := hfk.tr hfN (fun _ _ _ z => z)
            have hfr : gh_fr f g18 (rn_M ρ (20 - (n + 1)) b F) := hfr.tr hfN (fun a _ _ z => rn_N.M hFk a z)
            have hit := hit.keep hfN rn_N.P
            have hel := hel.keep hfN rn_N.P
            have h_Z__1000___k__g18 := hfr9.at hsz13 (fun z => by have e9 := hz (1000 + k) (by unfold rU; omega); have z : ρ (Z (1000 + k)) = 1 := z; omega)
            have h_Z__1000___jz13__g18 := hfr9.at hjz13 (fun z => by have e9 := hz (1000 + jz13) (by unfold rU; omega); have z : ρ (Z (1000 + jz13)) = 1 := z; omega)
            have hRc := hR
            obtain ⟨h1R, ⟨hz, ⟨p206, p207⟩, ⟨gS, hgS, hgS2⟩, ⟨gG, hgG, hgG2⟩, hVR, hqR, hcdR, hbaR, hN60, hq0⟩, ⟨hgaV, hgaR⟩, hSR, hnon⟩ := hRc
            obtain ⟨pvsR, hvsR, hnuR, hnoR, hyeR, -⟩ := id hVR
            refine lv_if_ne (tgt := 46) hx hb d_Ru_askPut_41 (by decide) (fun c20 => ?_) (fun c20 => absurd c20 (by decide))
            refine lv_aload_n hx hb d_Ru_askPut_46 rfl (lv_at hl 1 rfl) ?_
            refine gh_get C V h1R gc_Ru gi_Ru 0 (by decide) f_Ru_13 rfl rfl d_Ru_askPut_47 ?_
            refine lv_aload_n hx hb d_Ru_askPut_50 rfl (lv_at hl 1 rfl) ?_
            refine gh_get C V h1R gc_Ru gi_Ru 4 (by decide) f_Ru_44 rfl rfl d_Ru_askPut_51 ?_
            refine lv_aload_n hx hb d_Ru_askPut_54 rfl (lv_at hl 2 rfl) ?_
            refine gh_get C V h_Z__1000___k__g18 gc_St gi_St 0 (by decide) f_Ru_75 rfl rfl d_Ru_askPut_55 ?_
            refine gh_callV C V hl.1 m_Qu_letterOf l_Ru_188 (c_Qu_letterOf l E _ g18 (Z q0) (Z (q0 + 1)) (Z (q0 + 2)) N cb bg pt hN60 hqR hcdR hbaR hle.1) rfl hqR gc_Qu ⟨by first | decide | omega | (dsimp only; omega), by first | decide | omega | (dsimp only; omega)⟩ ⟨by first | decide | omega | (dsimp only; omega), by first | decide | omega | (dsimp only; omega)⟩ (Nat.le_of_ble_eq_true rfl) rfl d_Ru_askPut_58 (fun r z9 H locs hp V => ?_)
            obtain ⟨rfl, he9⟩ := hp
            rw [he9] at V
            refine W.eq (g2 := F0 m 61 ls [.int (nI (cb (pt + 1))), .ref (Z 200)]) rfl ?_
            refine gh_callV C V hl.1 m_Vs_letter l_Ru_191 (c_Vs_letter l E _ g18 (rP ρ) (Z 200) (Z 201) (Z 202) (Z 203) (Z 204) (Z 205) (Z 3) (cb (pt + 1)) hVR hnon ⟨hle.2.1, hle.2.2⟩) rfl hvsR gc_Vs ⟨by first | decide | omega | (dsimp only; omega), by first | decide | omega | (dsimp only; omega)⟩ ⟨by first | decide | omega | (dsimp only; omega), by first | decide | omega | (dsimp only; omega)⟩ (Nat.le_of_ble_eq_true rfl) rfl d_Ru_askPut_61 (fun r z9 H locs hp V => ?_)
            obtain ⟨⟨ac, rfl, hac⟩, he9⟩ := hp
            rw [he9] at V hac
            refine W.eq (g2 := F0 m 64 ls [.ref ac]) rfl ?_
            refine lv_astore_n hx hb d_Ru_askPut_64 rfl hl (by decide) rfl (fun ls hl => ?_)
            have hl : lv_has ls 4 [(3, .ref ac), (2, .int 3), (0, .ref (Z 1)), (1, .ref (Z (1000 + k)))] := hl
            refine lv_aload_n hx hb d_Ru_askPut_65 rfl (lv_at hl 3 rfl) ?_
            refine lv_aload_n hx hb d_Ru_askPut_66 rfl (lv_at hl 2 rfl) ?_
            refine gh_get C V h1R gc_Ru gi_Ru 0 (by decide) f_Ru_13 rfl rfl d_Ru_askPut_67 ?_
            refine lv_aload_n hx hb d_Ru_askPut_70 rfl (lv_at hl 3 rfl) ?_
            refine gh_get C V h_Z__1000___k__g18 gc_St gi_St 2 (by decide) f_Ru_81 rfl rfl d_Ru_askPut_71 ?_
            refine lv_aload_n hx hb d_Ru_askPut_74 rfl (lv_at hl 0 rfl) ?_
            refine lv_aload_n hx hb d_Ru_askPut_75 rfl (lv_at hl 3 rfl) ?_
            refine gh_get C V h_Z__1000___k__g18 gc_St gi_St 4 (by decide) f_Ru_87 rfl rfl d_Ru_askPut_76 ?_
            refine gh_get C V h_Z__1000___jz13__g18 gc_St gi_St 8 (by decide) f_Ru_68 rfl rfl d_Ru_askPut_79 ?_
            have hxk := hxz13.keep hfk rn_N.P
            refine gh_callV C V hl.1 m_Vs_withMember l_Ru_195 (c_Vs_withMember l E _ g18 (rP ρ) (Z 200) (Z 201) (Z 202) (Z 203) (Z 204) (Z 205) (Z 3) (Z 4) (Z 5) it ac az13 X xz13 [nI (cb (pt + 1))] hVR hnon hgaV hit hqX hac (lt_ch (by omega)) hxk) rfl hvsR gc_Vs ⟨by first | decide | omega | (dsimp only; omega), by first | decide | omega | (dsimp only; omega)⟩ ⟨by first | decide | omega | (dsimp only; omega), by first | decide | omega | (dsimp only; omega)⟩ (Nat.le_of_ble_eq_true rfl) rfl d_Ru_askPut_82 (fun r g9 H locs hp V => ?_)
            obtain ⟨hva, hga9, hfr9⟩ := hp
            have hR := hR.keepV hfr9 hga9
            have hfN := hfr9.wide (N := rn_N ρ k) (fun a z => ga_MZ hz a z)
            have hfk : gh_fr gz13 g9 (rn_N ρ k) := hfk.tr hfN (fun _ _ _ z => z)
            have hfr : gh_fr f g9 (rn_M ρ (20 - (n + 1)) b F) := hfr.tr hfN (fun a _ _ z => rn_N.M hFk a z)
            have hit := hit.keep hfN rn_N.P
            have hel := hel.keep hfN rn_N.P
            have hs := hfr9.at h_Z__1000___k__g18 (fun z => rn_N.st (k := k + 1) hz hk250 (by omega) (ga_MZ hz _ z))
            have hRc := hR
            obtain ⟨h1R, ⟨hz, ⟨p206, p207⟩, ⟨gS, hgS, hgS2⟩, ⟨gG, hgG, hgG2⟩, hVR, hqR, hcdR, hbaR, hN60, hq0⟩, ⟨hgaV, hgaR⟩, hSR, hnon⟩ := hRc
            obtain ⟨pvsR, hvsR, hnuR, hnoR, hyeR, -⟩ := id hVR
            cases ho : vt_wm X [nI (cb (pt + 1))] xz13 with
            | none =>
              rw [ho] at hva
              have hva : r = some .null := hva
              subst hva
              refine W.eq (g2 := F0 m 85 ls [.null, .ref (Z (1000 + k))]) rfl ?_
              refine gh_callS C V hl.1 m_Ru_givesOrFails l_Ru_175 (c_Ru_givesOrFails0 l E _ g9 (Z (1000 + k))) rfl ⟨by first | decide | omega | (dsimp only; omega), by first | decide | omega | (dsimp only; omega)⟩ ⟨by first | decide | omega | (dsimp only; omega), by first | decide | omega | (dsimp only; omega)⟩ (Nat.le_of_ble_eq_true rfl) rfl d_Ru_askPut_85 (fun r z9 H locs hp V => ?_)
              obtain ⟨rfl, he9⟩ := hp
              rw [he9] at V
              refine W.eq (g2 := F0 m 88 ls [.int 1]) rfl ?_
              refine gh_reti hAe C V hr hlocks d_Ru_askPut_88 (by first | decide | omega | (dsimp only; omega)) (by first | decide | omega | (dsimp only; omega)) ?_
              exact ⟨φz13 - 1, bz13, hR, ⟨by omega, by omega⟩, hfr, Or.inr (Or.inr (Or.inl ⟨dz13 + 1, by rw [hT, hTz13, sr_op_none ho], by omega, rfl, by omega⟩)), fun z => absurd z (rv_ne (by decide))⟩
            | some M9 =>
              rw [ho] at hva
              obtain ⟨b9, rfl, hb9⟩ := hva
              refine W.eq (g2 := F0 m 85 ls [.ref b9, .ref (Z (1000 + k))]) rfl ?_
              refine gh_callS C V hl.1 m_Ru_givesOrFails l_Ru_175 (c_Ru_givesOrFails l E _ g9 ρ Z q0 N cb bg (φz13 - 1) bz13 s0 e0 k b9 gv _ _ _ _ _ _ _ _ hR hk250 hs) rfl ⟨by first | decide | omega | (dsimp only; omega), by first | decide | omega | (dsimp only; omega)⟩ ⟨by first | decide | omega | (dsimp only; omega), by first | decide | omega | (dsimp only; omega)⟩ (Nat.le_of_ble_eq_true rfl) rfl d_Ru_askPut_85 (fun r g21 H locs hp V => ?_)
              obtain ⟨rfl, hR, hs, hfrg⟩ := hp
              refine W.eq (g2 := F0 m 88 ls [.int 3]) rfl ?_
              have hMg : ∀ a, ρ a = 1000 + k → ¬ rP ρ a := fun a z z2 => by have z2 : ρ a = 0 := z2; omega
              have hfr : gh_fr f g21 (rn_M ρ (20 - (n + 1)) b F) := hfr.tr hfrg (fun a _ _ z => Or.inr (Or.inr (Or.inr (Or.inr ⟨k, hFk, z⟩))))
              have hit := hit.keep hfrg hMg
              have hel := hel.keep hfrg hMg
              refine gh_reti hAe C V hr hlocks d_Ru_askPut_88 (by first | decide | omega | (dsimp only; omega)) (by first | decide | omega | (dsimp only; omega)) ?_
              have hfk := hfk.tr hfrg (fun a _ _ z => Or.inr (Or.inr z))
              have hTe : T = sr_cons (dz13 + 1) M9 (sr_op 1 (vt_wm X [nI (cb (pt + 1))]) Rz13) := by rw [hT, hTz13, sr_op_some ho]
              have hzr1 := hzr
              rw [hTe] at hzr1
              exact ⟨φz13 - 1, bz13, hR, ⟨by omega, by omega⟩, hfr, Or.inr (Or.inr (Or.inr ⟨dz13 + 1, M9, sr_op 1 (vt_wm X [nI (cb (pt + 1))]) Rz13, hTe, by omega, rfl, by omega, fun i => F i ∨ (b ≤ i ∧ i < bz13), rs_mk hs ⟨hk250, hn19, Or.inl hFk⟩ ⟨hqw, hq4, hq6⟩ hit hel (hb9.keep hfrg hMg) hq16 hzr1 hgv (by omega) (by omega) (rs_run_16 hkd ⟨hkx, ⟨jz13, xz13, Rz13, Fz13, rfl, (hrsz13.keep hfk rn_N.P (by omega) (fun i hi => rn_N.st hz (hltz13 i hi) (fun z => hnkz13 (z ▸ hi)))), fun i hi => by rcases hFz13 i hi with z | z; exact Or.inl (hF1 i z); exact Or.inr (by omega), hnkz13, rfl⟩⟩), fun _ z => z⟩)), fun z => absurd z (rv_ne (by decide))⟩
      · have c12 : ¬ (vt_k X) = 0 := by rw [← gq_eq (a := vt_k X) (b := 0) (by omega) (by omega)]; exact c12
        refine lv_iconst (v := 1) hx hb d_Ru_askPut_22 (by decide) ?_
        refine gh_reti hAe C V hr hlocks d_Ru_askPut_23 (by first | decide | omega | (dsimp only; omega)) (by first | decide | omega | (dsimp only; omega)) ?_
        exact absurd hkx (by omega)
  · have hTn : T = sr_fail 0 := by
      rcases hst with ⟨hu, hg0, hp0, hf0, hs0, hv0, hT⟩ | ⟨hu, hg1, hrun⟩
      · rw [hT, sr_B_o, sr_part_16 hkd, if_neg hkx]
      · exact absurd (hrun.2.2.2.2.2.2.2.1 hkd).1 hkx
    refine lv_aload_n hx hb d_Ru_askPut_0 rfl (lv_at hl 1 rfl) ?_
    refine gh_get C V hs gc_St gi_St 2 (by decide) f_Ru_81 rfl rfl d_Ru_askPut_1 ?_
    obtain ⟨la_22, ka_22, ia_22, gk_22, gi_22, K_22, B_22, hp_22, h0_22, h1_22, h2_22, h3_22, h4_22, h5_22⟩ := cv_o.mp hit.1
    refine gh_get C V h0_22 gc_Va gi_Va 0 (by decide) f_Ru_185 rfl rfl d_Ru_askPut_4 ?_
    refine lv_bipush (v := 6) hx hb d_Ru_askPut_7 (by decide) ?_
    refine lv_icmp_eq (tgt := 24) hx hb d_Ru_askPut_9 (by decide) (fun c23 => absurd c23 (fun z => absurd ((nI_eq (b := 6) (by omega) (by omega)).mp z) (by omega))) (fun c23 => ?_)
    refine lv_aload_n hx hb d_Ru_askPut_12 rfl (lv_at hl 1 rfl) ?_
    refine gh_get C V hs gc_St gi_St 2 (by decide) f_Ru_81 rfl rfl d_Ru_askPut_13 ?_
    refine gh_get C V h0_22 gc_Va gi_Va 0 (by decide) f_Ru_185 rfl rfl d_Ru_askPut_16 ?_
    refine lv_if_eq (tgt := 24) hx hb d_Ru_askPut_19 (by decide) (fun c24 => absurd c24 (nI_ne0 (by omega) (by omega))) (fun c24 => ?_)
    refine lv_iconst (v := 1) hx hb d_Ru_askPut_22 (by decide) ?_
    refine gh_reti hAe C V hr hlocks d_Ru_askPut_23 (by first | decide | omega | (dsimp only; omega)) (by first | decide | omega | (dsimp only; omega)) ?_
    exact ⟨φ, b, hR, ⟨by omega, by omega⟩, hfr, Or.inr (Or.inr (Or.inl ⟨0, hTn, by omega, rfl, by omega⟩)), fun z => absurd z (rv_ne (by decide))⟩
