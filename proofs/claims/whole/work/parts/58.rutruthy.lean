/-! askFirstTruthy. Printed by wip/whole/gen_ru5.py. -/
theorem d_Ru_askFirstTruthy_0 : decode b_Ru_askFirstTruthy 0 = .ok (.iconst 0, 1) := by decide +kernel
theorem d_Ru_askFirstTruthy_1 : decode b_Ru_askFirstTruthy 1 = .ok (.istore_n 2, 1) := by decide +kernel
theorem d_Ru_askFirstTruthy_2 : decode b_Ru_askFirstTruthy 2 = .ok (.iload_n 2, 1) := by decide +kernel
theorem d_Ru_askFirstTruthy_3 : decode b_Ru_askFirstTruthy 3 = .ok (.ldc 164, 2) := by decide +kernel
theorem d_Ru_askFirstTruthy_5 : decode b_Ru_askFirstTruthy 5 = .ok (.if_icmp .ge 35, 3) := by decide +kernel
theorem d_Ru_askFirstTruthy_8 : decode b_Ru_askFirstTruthy 8 = .ok (.aload_n 0, 1) := by decide +kernel
theorem d_Ru_askFirstTruthy_9 : decode b_Ru_askFirstTruthy 9 = .ok (.aload_n 1, 1) := by decide +kernel
theorem d_Ru_askFirstTruthy_10 : decode b_Ru_askFirstTruthy 10 = .ok (.invokevirtual 155, 3) := by decide +kernel
theorem d_Ru_askFirstTruthy_13 : decode b_Ru_askFirstTruthy 13 = .ok (.istore_n 3, 1) := by decide +kernel
theorem d_Ru_askFirstTruthy_14 : decode b_Ru_askFirstTruthy 14 = .ok (.iload_n 3, 1) := by decide +kernel
theorem d_Ru_askFirstTruthy_15 : decode b_Ru_askFirstTruthy 15 = .ok (.iconst 3, 1) := by decide +kernel
theorem d_Ru_askFirstTruthy_16 : decode b_Ru_askFirstTruthy 16 = .ok (.if_icmp .ne 16, 3) := by decide +kernel
theorem d_Ru_askFirstTruthy_19 : decode b_Ru_askFirstTruthy 19 = .ok (.aload_n 1, 1) := by decide +kernel
theorem d_Ru_askFirstTruthy_20 : decode b_Ru_askFirstTruthy 20 = .ok (.getfield 87, 3) := by decide +kernel
theorem d_Ru_askFirstTruthy_23 : decode b_Ru_askFirstTruthy 23 = .ok (.getfield 68, 3) := by decide +kernel
theorem d_Ru_askFirstTruthy_26 : decode b_Ru_askFirstTruthy 26 = .ok (.invokevirtual 165, 3) := by decide +kernel
theorem d_Ru_askFirstTruthy_29 : decode b_Ru_askFirstTruthy 29 = .ok (.ifCond .eq 5, 3) := by decide +kernel
theorem d_Ru_askFirstTruthy_32 : decode b_Ru_askFirstTruthy 32 = .ok (.iload_n 3, 1) := by decide +kernel
theorem d_Ru_askFirstTruthy_33 : decode b_Ru_askFirstTruthy 33 = .ok (.ireturn, 1) := by decide +kernel
theorem d_Ru_askFirstTruthy_34 : decode b_Ru_askFirstTruthy 34 = .ok (.iinc 2 1, 3) := by decide +kernel
theorem d_Ru_askFirstTruthy_37 : decode b_Ru_askFirstTruthy 37 = .ok (.goto (-35), 3) := by decide +kernel
theorem d_Ru_askFirstTruthy_40 : decode b_Ru_askFirstTruthy 40 = .ok (.iconst 2, 1) := by decide +kernel
theorem d_Ru_askFirstTruthy_41 : decode b_Ru_askFirstTruthy 41 = .ok (.ireturn, 1) := by decide +kernel
set_option maxHeartbeats 4000000 in
set_option maxRecDepth 100000 in
theorem c_Ru_askFirstTruthy (l : Launch) (E : gh_E) (sz : Nat) (f : gh_F) (ρ Z : Nat → Nat) (q0 N : Nat) (cb bg : Nat → Nat) (φ b : Nat) (s0 e0 : Int32) (n k pt it el : Nat) (fi : Option Nat) (y5 y6 y7 y8 : Value) (X Y : vt) (T : sr) (F : Nat → Prop) (hR : rn_R E ρ Z f q0 N cb bg φ b s0 e0) (hφb : φ + b ≤ 250) (hn19 : n ≤ 19) (hkb : k < b) (hpt60 : pt < 60) (hs : f (Z (1000 + k)) = some (.inr (5, [.int (nI pt), .int (nI (19 - n)), .ref it, .ref el, ro Z fi, y5, y6, y7, y8]))) (hit : cw E (rP ρ) f it X) (hel : cw E (rP ρ) f el Y) (hS : rk_S E ρ Z cb bg N f φ b n k fi (bg (pt * 3 + 0)) X Y T F) (IH : rk_A l E ρ Z q0 N cb bg n) : gh_M l y_Ru_askFirstTruthy b_Ru_askFirstTruthy 4 (some .int) E sz [.ref (Z 1), .ref (Z (1000 + k))] f { frames := 24 + 6 * n, cells := 3 * min (sr_c (sr_sk T)) φ, slots := 39 * min (sr_c (sr_sk T)) φ, locals := 840 + 200 * n } (fun r g => ∃ φ1 b1 fo, rn_R E ρ Z g q0 N cb bg φ1 b1 s0 e0 ∧ (b ≤ b1 ∧ b1 + φ1 ≤ b + φ) ∧ gh_fr f g (rn_M ρ (20 - n) b (fun i => F i ∨ i = k)) ∧ g (Z (1000 + k)) = some (.inr (5, [.int (nI pt), .int (nI (19 - n)), .ref it, .ref el, ro Z fo, y5, y6, y7, y8])) ∧ rk_P φ (sr_sk T) r φ1 (fun x R => vt_tr x = true ∧ ∃ j F1, fo = some j ∧ rs E ρ Z cb bg N g φ1 n 0 j x R F1 ∧ ∀ i, F1 i → F i ∨ (b ≤ i ∧ i < b1))) := by
  refine gh_open (by decide) (Nat.le_of_ble_eq_true rfl) ?_
  intro p e s m args below meth c A ls hAe C V hr hlocks hname hl
  have hx := C.1
  have hb := C.2.1
  have hl : lv_has ls 4 [(0, .ref (Z 1)), (1, .ref (Z (1000 + k)))] := hl
  refine lv_iconst (v := 0) hx hb d_Ru_askFirstTruthy_0 (by decide) ?_
  refine lv_istore_n hx hb d_Ru_askFirstTruthy_1 rfl hl (by decide) rfl (fun ls hl => ?_)
  have hl : lv_has ls 4 [(2, .int 0), (0, .ref (Z 1)), (1, .ref (Z (1000 + k)))] := hl
  obtain ⟨q0_, hq0_, hzr0⟩ := hS.zr
  have hl : lv_has ls 4 [(2, .int 0), (0, .ref (Z 1)), (1, .ref (Z (1000 + k)))] := lv_sub hl [0, 1, 2] rfl
  have hl : lv_has ls 4 [(2, .int (nI 0)), (0, .ref (Z 1)), (1, .ref (Z (1000 + k)))] := hl
  have loop : ∀ (n9 i9 : Nat) (φc : Nat) (bc : Nat) (cc : Nat) (q : Nat) (fo : Option Nat) (Tc : sr) (Fc : Nat → Prop) (f1 : gh_F) (H : Heap) (locs : List Loc) (ls : Array Slot), (16 * φc + q < n9) → (i9 + n9 ≤ 5000) → (q ≤ 16 ∧ zr q Tc.1) → (rn_R E ρ Z f1 q0 N cb bg φc bc s0 e0) → (b ≤ bc ∧ bc + φc ≤ b + φ) → (cc ≤ φ ∧ φc = φ - cc) → (sr_sk T = sr_add cc (sr_sk Tc)) → (gh_fr f f1 (rn_M ρ (20 - n) b (fun i => F i ∨ i = k))) → (f1 (Z (1000 + k)) = some (.inr (5, [.int (nI pt), .int (nI (19 - n)), .ref it, .ref el, ro Z fo, y5, y6, y7, y8]))) → (rk_S E ρ Z cb bg N f1 φc bc n k fo (bg (pt * 3 + 0)) X Y Tc Fc) → (∀ i, Fc i → F i ∨ (b ≤ i ∧ i < bc)) → gh_V E A f1 s H locs → lv_has ls 4 [(2, .int (nI i9)), (0, .ref (Z 1)), (1, .ref (Z (1000 + k)))] → W p l e { frames := 24 + 6 * n, cells := 3 * min (sr_c (sr_sk T)) φ, slots := 39 * min (sr_c (sr_sk T)) φ, locals := 840 + 200 * n } s m args below meth c H locs (3 * cc) (39 * cc) (MQ below (gh_Q E f (fun r g => ∃ φ1 b1 fo, rn_R E ρ Z g q0 N cb bg φ1 b1 s0 e0 ∧ (b ≤ b1 ∧ b1 + φ1 ≤ b + φ) ∧ gh_fr f g (rn_M ρ (20 - n) b (fun i => F i ∨ i = k)) ∧ g (Z (1000 + k)) = some (.inr (5, [.int (nI pt), .int (nI (19 - n)), .ref it, .ref el, ro Z fo, y5, y6, y7, y8])) ∧ rk_P φ (sr_sk T) r φ1 (fun x R => vt_tr x = true ∧ ∃ j F1, fo = some j ∧ rs E ρ Z cb bg N g φ1 n 0 j x R F1 ∧ ∀ i, F1 i → F i ∨ (b ≤ i ∧ i < b1)))) args s (3 * min (sr_c (sr_sk T)) φ) (39 * min (sr_c (sr_sk T)) φ) A) (F0 m 2 ls []) := by
    intro n9
    induction n9 with
    | zero =>
      intro i9 φc bc cc q fo Tc Fc f1 H locs ls hm hin hq hR hbb hcc hTc hfr hs1 hS1 hFc V hl
      exact absurd hm (by omega)
    | succ n9 ih =>
      intro i9 φc bc cc q fo Tc Fc f1 H locs ls hm hin hq hR hbb hcc hTc hfr hs1 hS1 hFc V hl
      obtain ⟨hbb1, hbb2⟩ := hbb
      obtain ⟨hcc1, hcc2⟩ := hcc
      obtain ⟨hq1, hq2⟩ := hq
      have hRc := hR
      obtain ⟨h1R, ⟨hz, ⟨p206, p207⟩, ⟨gS, hgS, hgS2⟩, ⟨gG, hgG, hgG2⟩, hVR, hqR, hcdR, hbaR, hN60, hq0⟩, ⟨hgaV, hgaR⟩, hSR, hnon⟩ := hRc
      obtain ⟨pvsR, hvsR, hnuR, hnoR, hyeR, -⟩ := id hVR
      have hit1 := hit.keep hfr rn_M.P
      have hel1 := hel.keep hfr rn_M.P
      have hcT : sr_c (sr_sk T) = cc + sr_c (sr_sk Tc) := by rw [hTc, sr_c_add]
      have hcS := sr_c_sk (T := Tc)
      refine lv_iload_n hx hb d_Ru_askFirstTruthy_2 rfl (lv_at hl 0 rfl) ?_
      refine lv_ldc (v := nI 100000) hx hb C.2.2.2.1 (C.2.2.2.2.1 _ kc_Ru_164) d_Ru_askFirstTruthy_3 ?_
      refine lv_icmp_ge (tgt := 40) hx hb d_Ru_askFirstTruthy_5 (by decide) (fun c1 => absurd c1 (nI_ge (by omega) (by omega))) (fun c1 => ?_)
      refine lv_aload_n hx hb d_Ru_askFirstTruthy_8 rfl (lv_at hl 1 rfl) ?_
      refine lv_aload_n hx hb d_Ru_askFirstTruthy_9 rfl (lv_at hl 2 rfl) ?_
      refine gh_callV C V hl.1 m_Ru_askFirst l_Ru_155 (c_Ru_askFirst l E _ f1 ρ Z q0 N cb bg φc bc s0 e0 n k pt it el fo y5 y6 y7 y8 X Y Tc Fc hR (by omega) hn19 (by omega) hpt60 hs1 hit1 hel1 hS1 IH) rfl h1R gc_Ru ⟨by first | decide | omega | (dsimp only; omega), by first | decide | omega | (dsimp only; omega)⟩ ⟨by first | decide | omega | (dsimp only; omega), by first | decide | omega | (dsimp only; omega)⟩ (Nat.le_of_ble_eq_true rfl) rfl d_Ru_askFirstTruthy_10 (fun r g2 H locs hp V => ?_)
      obtain ⟨φ2, b2, fo2, hR, ⟨hb2, hc2⟩, hfr2, hs2, hP2⟩ := hp
      have hfr : gh_fr f g2 (rn_M ρ (20 - n) b (fun i => F i ∨ i = k)) := hfr.tr hfr2 (fun a _ _ z => rn_M.le (Nat.le_refl _) (fun i hi => by rcases hi with hi | hi; rcases hFc i hi with h9 | h9; exact Or.inl (Or.inl h9); exact Or.inr ⟨h9.1, by omega⟩; exact Or.inl (Or.inr hi)) hbb1 a z)
      have hRc := hR
      obtain ⟨h1R, ⟨hz, ⟨p206, p207⟩, ⟨gS, hgS, hgS2⟩, ⟨gG, hgG, hgG2⟩, hVR, hqR, hcdR, hbaR, hN60, hq0⟩, ⟨hgaV, hgaR⟩, hSR, hnon⟩ := hRc
      obtain ⟨pvsR, hvsR, hnuR, hnoR, hyeR, -⟩ := id hVR
      rcases hP2 with ⟨h12, rfl, h32⟩ | ⟨d2, hT2, hd2, rfl, h32⟩ | ⟨d2, hT2, hd2, rfl, h32⟩ | ⟨d2, x2, R2, hT2, hd2, rfl, h32, j2, F2, ho2, hrs2, hF2⟩
      · refine W.eq (g2 := F0 m 13 ls [.int 2]) rfl ?_
        refine lv_istore_n hx hb d_Ru_askFirstTruthy_13 rfl hl (by decide) rfl (fun ls hl => ?_)
        have hl : lv_has ls 4 [(3, .int 2), (2, .int (nI i9)), (0, .ref (Z 1)), (1, .ref (Z (1000 + k)))] := hl
        refine lv_iload_n hx hb d_Ru_askFirstTruthy_14 rfl (lv_at hl 0 rfl) ?_
        refine lv_iconst (v := 3) hx hb d_Ru_askFirstTruthy_15 (by decide) ?_
        refine lv_icmp_ne (tgt := 32) hx hb d_Ru_askFirstTruthy_16 (by decide) (fun c2 => ?_) (fun c2 => absurd c2 (by decide))
        refine lv_iload_n hx hb d_Ru_askFirstTruthy_32 rfl (lv_at hl 0 rfl) ?_
        refine gh_reti hAe C V hr hlocks d_Ru_askFirstTruthy_33 (by first | decide | omega | (dsimp only; omega)) (by first | decide | omega | (dsimp only; omega)) ?_
        exact ⟨φ2, b2, fo2, hR, ⟨by omega, by omega⟩, hfr, hs2, Or.inl ⟨by omega, rfl, h32⟩⟩
      · refine W.eq (g2 := F0 m 13 ls [.int 0]) rfl ?_
        refine lv_istore_n hx hb d_Ru_askFirstTruthy_13 rfl hl (by decide) rfl (fun ls hl => ?_)
        have hl : lv_has ls 4 [(3, .int 0), (2, .int (nI i9)), (0, .ref (Z 1)), (1, .ref (Z (1000 + k)))] := hl
        refine lv_iload_n hx hb d_Ru_askFirstTruthy_14 rfl (lv_at hl 0 rfl) ?_
        refine lv_iconst (v := 3) hx hb d_Ru_askFirstTruthy_15 (by decide) ?_
        refine lv_icmp_ne (tgt := 32) hx hb d_Ru_askFirstTruthy_16 (by decide) (fun c3 => ?_) (fun c3 => absurd c3 (by decide))
        refine lv_iload_n hx hb d_Ru_askFirstTruthy_32 rfl (lv_at hl 0 rfl) ?_
        refine gh_reti hAe C V hr hlocks d_Ru_askFirstTruthy_33 (by first | decide | omega | (dsimp only; omega)) (by first | decide | omega | (dsimp only; omega)) ?_
        exact ⟨φ2, b2, fo2, hR, ⟨by omega, by omega⟩, hfr, hs2, Or.inr (Or.inl ⟨cc + d2, by rw [hTc, hT2]; rfl, by omega, rfl, by omega⟩)⟩
      · refine W.eq (g2 := F0 m 13 ls [.int 1]) rfl ?_
        refine lv_istore_n hx hb d_Ru_askFirstTruthy_13 rfl hl (by decide) rfl (fun ls hl => ?_)
        have hl : lv_has ls 4 [(3, .int 1), (2, .int (nI i9)), (0, .ref (Z 1)), (1, .ref (Z (1000 + k)))] := hl
        refine lv_iload_n hx hb d_Ru_askFirstTruthy_14 rfl (lv_at hl 0 rfl) ?_
        refine lv_iconst (v := 3) hx hb d_Ru_askFirstTruthy_15 (by decide) ?_
        refine lv_icmp_ne (tgt := 32) hx hb d_Ru_askFirstTruthy_16 (by decide) (fun c4 => ?_) (fun c4 => absurd c4 (by decide))
        refine lv_iload_n hx hb d_Ru_askFirstTruthy_32 rfl (lv_at hl 0 rfl) ?_
        refine gh_reti hAe C V hr hlocks d_Ru_askFirstTruthy_33 (by first | decide | omega | (dsimp only; omega)) (by first | decide | omega | (dsimp only; omega)) ?_
        exact ⟨φ2, b2, fo2, hR, ⟨by omega, by omega⟩, hfr, hs2, Or.inr (Or.inr (Or.inl ⟨cc + d2, by rw [hTc, hT2]; rfl, by omega, rfl, by omega⟩))⟩
      · subst ho2
        obtain ⟨v0, v1, v2, v3, v4, v5, v6, v7, a2, hj2, hx2, hl2, hFj2⟩ := hrs2.val
        refine W.eq (g2 := F0 m 13 ls [.int 3]) rfl ?_
        refine lv_istore_n hx hb d_Ru_askFirstTruthy_13 rfl hl (by decide) rfl (fun ls hl => ?_)
        have hl : lv_has ls 4 [(3, .int 3), (2, .int (nI i9)), (0, .ref (Z 1)), (1, .ref (Z (1000 + k)))] := hl
        refine lv_iload_n hx hb d_Ru_askFirstTruthy_14 rfl (lv_at hl 0 rfl) ?_
        refine lv_iconst (v := 3) hx hb d_Ru_askFirstTruthy_15 (by decide) ?_
        refine lv_icmp_ne (tgt := 32) hx hb d_Ru_askFirstTruthy_16 (by decide) (fun c5 => absurd (by decide) c5) (fun c5 => ?_)
        refine lv_aload_n hx hb d_Ru_askFirstTruthy_19 rfl (lv_at hl 3 rfl) ?_
        refine gh_get C V hs2 gc_St gi_St 4 (by decide) f_Ru_87 rfl rfl d_Ru_askFirstTruthy_20 ?_
        refine gh_get C V hj2 gc_St gi_St 8 (by decide) f_Ru_68 rfl rfl d_Ru_askFirstTruthy_23 ?_
        obtain ⟨vs9, hvs9⟩ := hx2.cell
        refine gh_callV C V hl.1 m_Va_isTruthy l_Ru_165 (c_Va_isTruthy l E _ g2 (rP ρ) a2 x2 hx2) rfl hvs9 gc_Va ⟨by first | decide | omega | (dsimp only; omega), by first | decide | omega | (dsimp only; omega)⟩ ⟨by first | decide | omega | (dsimp only; omega), by first | decide | omega | (dsimp only; omega)⟩ (Nat.le_of_ble_eq_true rfl) rfl d_Ru_askFirstTruthy_26 (fun r z9 H locs hp V => ?_)
        obtain ⟨rfl, he9⟩ := hp
        rw [he9] at V
        refine W.eq (g2 := F0 m 29 ls [.int (gh_bi (vt_tr x2))]) rfl ?_
        refine lv_if_eq (tgt := 34) hx hb d_Ru_askFirstTruthy_29 (by decide) (fun c6 => ?_) (fun c6 => ?_)
        · have c6 : (vt_tr x2) = false := gh_bi_0 c6
          refine lv_iinc (k := 1) (v := (nI i9) + 1) hx hb d_Ru_askFirstTruthy_34 hl rfl (by rfl) (by decide) rfl (fun ls hl => ?_)
          have hl : lv_has ls 4 [(2, .int (nI (i9 + 1))), (3, .int 3), (0, .ref (Z 1)), (1, .ref (Z (1000 + k)))] := by rw [nI_succ]; exact hl
          refine lv_goto (tgt := 2) hx hb d_Ru_askFirstTruthy_37 (by decide) ?_
          have hl : lv_has ls 4 [(2, .int (nI (i9 + 1))), (0, .ref (Z 1)), (1, .ref (Z (1000 + k)))] := lv_sub hl [0, 2, 3] rfl
          have hl : lv_has ls 4 [(2, .int (nI (i9 + 1))), (0, .ref (Z 1)), (1, .ref (Z (1000 + k)))] := hl
          have hq2 := hq2
          rw [hT2] at hq2
          obtain ⟨q3, hq31, hq32, hq33⟩ := zr_next hq2 hq1 hd2
          have hTn : sr_sk Tc = sr_add d2 (sr_sk R2) := by rw [hT2, sr_sk_f c6]
          have hcn : sr_c (sr_sk Tc) = d2 + sr_c (sr_sk R2) := by rw [hTn, sr_c_add]
          have hcd : sr_c Tc = d2 := by rw [hT2]; rfl
          refine W.widen (by first | omega | (dsimp only; omega)) (by first | omega | (dsimp only; omega)) (ih (i9 + 1) φ2 b2 (cc + d2) q3 (some j2) R2 F2 g2 H locs ls (by omega) (by omega) ⟨hq31, hq32⟩ hR ⟨by omega, by omega⟩ ⟨by omega, by omega⟩ (by rw [hTc, hTn, sr_add_add]) hfr hs2 (Or.inr ⟨j2, x2, rfl, hrs2, fun i hi => ?_, fun z => ?_⟩) (fun i hi => ?_) V hl)
          · rcases hF2 i hi with z | z; have := hS1.k.2 i z; omega; omega
          · rcases hF2 k z with z | z; exact hS1.k.1 z; omega
          · rcases hF2 i hi with z | z; rcases hFc i z with z | z; exact Or.inl z; exact Or.inr ⟨by omega, by omega⟩; exact Or.inr ⟨by omega, by omega⟩
        · have c6 : (vt_tr x2) = true := gh_bi_1 c6
          refine lv_iload_n hx hb d_Ru_askFirstTruthy_32 rfl (lv_at hl 0 rfl) ?_
          refine gh_reti hAe C V hr hlocks d_Ru_askFirstTruthy_33 (by first | decide | omega | (dsimp only; omega)) (by first | decide | omega | (dsimp only; omega)) ?_
          refine ⟨φ2, b2, some j2, hR, ⟨by omega, by omega⟩, hfr, hs2, Or.inr (Or.inr (Or.inr ⟨cc + d2, x2, R2, by rw [hTc, hT2, sr_sk_t c6]; rfl, by omega, rfl, by omega, c6, j2, F2, rfl, hrs2, fun i hi => ?_⟩))⟩
          rcases hF2 i hi with z | z; rcases hFc i z with z | z; exact Or.inl z; exact Or.inr ⟨by omega, by omega⟩; exact Or.inr ⟨by omega, by omega⟩
  exact W.widen (by omega) (by omega) (loop 5000 0 φ b 0 q0_ fi T F f _ _ ls (by omega) (by omega) ⟨hq0_, hzr0⟩ hR ⟨Nat.le_refl _, Nat.le_refl _⟩ ⟨Nat.zero_le _, rfl⟩ sr_add_0.symm gh_fr.rf hs hS (fun i hi => Or.inl hi) V hl)
