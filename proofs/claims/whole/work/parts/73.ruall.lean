/-! askForAll. Printed by wip/whole/gen_ru16.py. -/
theorem d_Ru_askForAll_0 : decode b_Ru_askForAll 0 = .ok (.iconst 0, 1) := by decide +kernel
theorem d_Ru_askForAll_1 : decode b_Ru_askForAll 1 = .ok (.istore_n 2, 1) := by decide +kernel
theorem d_Ru_askForAll_2 : decode b_Ru_askForAll 2 = .ok (.iload_n 2, 1) := by decide +kernel
theorem d_Ru_askForAll_3 : decode b_Ru_askForAll 3 = .ok (.ldc 164, 2) := by decide +kernel
theorem d_Ru_askForAll_5 : decode b_Ru_askForAll 5 = .ok (.if_icmp .ge 22, 3) := by decide +kernel
theorem d_Ru_askForAll_8 : decode b_Ru_askForAll 8 = .ok (.aload_n 0, 1) := by decide +kernel
theorem d_Ru_askForAll_9 : decode b_Ru_askForAll 9 = .ok (.aload_n 1, 1) := by decide +kernel
theorem d_Ru_askForAll_10 : decode b_Ru_askForAll 10 = .ok (.invokevirtual 64, 3) := by decide +kernel
theorem d_Ru_askForAll_13 : decode b_Ru_askForAll 13 = .ok (.istore_n 3, 1) := by decide +kernel
theorem d_Ru_askForAll_14 : decode b_Ru_askForAll 14 = .ok (.iload_n 3, 1) := by decide +kernel
theorem d_Ru_askForAll_15 : decode b_Ru_askForAll 15 = .ok (.iconst 3, 1) := by decide +kernel
theorem d_Ru_askForAll_16 : decode b_Ru_askForAll 16 = .ok (.if_icmp .eq 5, 3) := by decide +kernel
theorem d_Ru_askForAll_19 : decode b_Ru_askForAll 19 = .ok (.iload_n 3, 1) := by decide +kernel
theorem d_Ru_askForAll_20 : decode b_Ru_askForAll 20 = .ok (.ireturn, 1) := by decide +kernel
theorem d_Ru_askForAll_21 : decode b_Ru_askForAll 21 = .ok (.iinc 2 1, 3) := by decide +kernel
theorem d_Ru_askForAll_24 : decode b_Ru_askForAll 24 = .ok (.goto (-22), 3) := by decide +kernel
theorem d_Ru_askForAll_27 : decode b_Ru_askForAll 27 = .ok (.iconst 2, 1) := by decide +kernel
theorem d_Ru_askForAll_28 : decode b_Ru_askForAll 28 = .ok (.ireturn, 1) := by decide +kernel
set_option maxHeartbeats 4000000 in
set_option maxRecDepth 100000 in
theorem c_Ru_askForAll (l : Launch) (E : gh_E) (sz : Nat) (f : gh_F) (ρ Z : Nat → Nat) (q0 N : Nat) (cb bg : Nat → Nat) (φ b : Nat) (s0 e0 : Int32) (n u0 k : Nat) (v : vt) (T : sr) (F : Nat → Prop) (hR : rn_R E ρ Z f q0 N cb bg φ b s0 e0) (hφb : φ + b ≤ 250) (hFb : ∀ j, F j → j < b) (hrs : rs E ρ Z cb bg N f φ n u0 k v T F) (hu0 : u0 ≤ 1) (IH : rk_A l E ρ Z q0 N cb bg n) : gh_M l y_Ru_askForAll b_Ru_askForAll 4 (some .int) E sz [.ref (Z 1), .ref (Z (1000 + k))] f { frames := 22 + 6 * n, cells := 3 * (min (sr_all v T).1 φ + u0), slots := 39 * (min (sr_all v T).1 φ + u0), locals := 800 + 200 * n } (fun r g => ∃ φ1 b1, rn_R E ρ Z g q0 N cb bg φ1 b1 s0 e0 ∧ (b ≤ b1 ∧ b1 + φ1 ≤ b + φ) ∧ gh_fr f g (rn_M ρ (20 - n) b F) ∧ rk_L φ (sr_all v T) r φ1 (fun w => rk_V E ρ Z g k w)) := by
  refine gh_open (by decide) (Nat.le_of_ble_eq_true rfl) ?_
  intro p e s m args below meth c A ls hAe C V hr hlocks hname hl
  have hx := C.1
  have hb := C.2.1
  have hl : lv_has ls 4 [(0, .ref (Z 1)), (1, .ref (Z (1000 + k)))] := hl
  refine lv_iconst (v := 0) hx hb d_Ru_askForAll_0 (by decide) ?_
  refine lv_istore_n hx hb d_Ru_askForAll_1 rfl hl (by decide) rfl (fun ls hl => ?_)
  have hl : lv_has ls 4 [(2, .int 0), (0, .ref (Z 1)), (1, .ref (Z (1000 + k)))] := hl
  obtain ⟨q0_, hq0_, hzr0⟩ := hrs.zr
  have hl : lv_has ls 4 [(2, .int 0), (0, .ref (Z 1)), (1, .ref (Z (1000 + k)))] := lv_sub hl [0, 1, 2] rfl
  have hl : lv_has ls 4 [(2, .int (nI 0)), (0, .ref (Z 1)), (1, .ref (Z (1000 + k)))] := hl
  have loop : ∀ (n9 i9 : Nat) (φc : Nat) (bc : Nat) (cc : Nat) (q : Nat) (u : Nat) (v1 : vt) (Tc : sr) (Fc : Nat → Prop) (f1 : gh_F) (H : Heap) (locs : List Loc) (ls : Array Slot), (16 * φc + q < n9) → (i9 + n9 ≤ 5000) → (q ≤ 16 ∧ zr q Tc.1) → (rn_R E ρ Z f1 q0 N cb bg φc bc s0 e0) → (b ≤ bc ∧ bc + φc ≤ b + φ) → (cc ≤ φ ∧ φc = φ - cc ∧ u ≤ u0) → (sr_all v T = (cc + (sr_all v1 Tc).1, (sr_all v1 Tc).2)) → (gh_fr f f1 (rn_M ρ (20 - n) b F)) → (rs E ρ Z cb bg N f1 φc n u k v1 Tc Fc) → (∀ i, Fc i → F i ∨ (b ≤ i ∧ i < bc)) → gh_V E A f1 s H locs → lv_has ls 4 [(2, .int (nI i9)), (0, .ref (Z 1)), (1, .ref (Z (1000 + k)))] → W p l e { frames := 22 + 6 * n, cells := 3 * (min (sr_all v T).1 φ + u0), slots := 39 * (min (sr_all v T).1 φ + u0), locals := 800 + 200 * n } s m args below meth c H locs (3 * (cc + (u0 - u))) (39 * (cc + (u0 - u))) (MQ below (gh_Q E f (fun r g => ∃ φ1 b1, rn_R E ρ Z g q0 N cb bg φ1 b1 s0 e0 ∧ (b ≤ b1 ∧ b1 + φ1 ≤ b + φ) ∧ gh_fr f g (rn_M ρ (20 - n) b F) ∧ rk_L φ (sr_all v T) r φ1 (fun w => rk_V E ρ Z g k w))) args s (3 * (min (sr_all v T).1 φ + u0)) (39 * (min (sr_all v T).1 φ + u0)) A) (F0 m 2 ls []) := by
    intro n9
    induction n9 with
    | zero =>
      intro i9 φc bc cc q u v1 Tc Fc f1 H locs ls hm hin hq hR hbb hcc hTc hfr hrs1 hFc V hl
      exact absurd hm (by omega)
    | succ n9 ih =>
      intro i9 φc bc cc q u v1 Tc Fc f1 H locs ls hm hin hq hR hbb hcc hTc hfr hrs1 hFc V hl
      obtain ⟨hbb1, hbb2⟩ := hbb
      obtain ⟨hcc1, hcc2, hcc3⟩ := hcc
      obtain ⟨hq1, hq2⟩ := hq
      have hRc := hR
      obtain ⟨h1R, ⟨hz, ⟨p206, p207⟩, ⟨gS, hgS, hgS2⟩, ⟨gG, hgG, hgG2⟩, hVR, hqR, hcdR, hbaR, hN60, hq0⟩, ⟨hgaV, hgaR⟩, hSR, hnon⟩ := hRc
      obtain ⟨pvsR, hvsR, hnuR, hnoR, hyeR, -⟩ := id hVR
      have hcS := sr_all_c (v := v1) (T := Tc)
      have hcT : (sr_all v T).1 = cc + (sr_all v1 Tc).1 := by rw [hTc]
      refine lv_iload_n hx hb d_Ru_askForAll_2 rfl (lv_at hl 0 rfl) ?_
      refine lv_ldc (v := nI 100000) hx hb C.2.2.2.1 (C.2.2.2.2.1 _ kc_Ru_164) d_Ru_askForAll_3 ?_
      refine lv_icmp_ge (tgt := 27) hx hb d_Ru_askForAll_5 (by decide) (fun c1 => absurd c1 (nI_ge (by omega) (by omega))) (fun c1 => ?_)
      refine lv_aload_n hx hb d_Ru_askForAll_8 rfl (lv_at hl 1 rfl) ?_
      refine lv_aload_n hx hb d_Ru_askForAll_9 rfl (lv_at hl 2 rfl) ?_
      refine gh_callV C V hl.1 m_Ru_ask l_Ru_64 (IH _ f1 φc bc s0 e0 u k v1 Tc Fc hR (by omega) (fun i hi => by rcases hFc i hi with z | z; have := hFb i z; omega; omega) hrs1) rfl h1R gc_Ru ⟨by first | decide | omega | (dsimp only; omega), by first | decide | omega | (dsimp only; omega)⟩ ⟨by first | decide | omega | (dsimp only; omega), by first | decide | omega | (dsimp only; omega)⟩ (Nat.le_of_ble_eq_true rfl) rfl d_Ru_askForAll_10 (fun r g2 H locs hp V => ?_)
      obtain ⟨φ2, b2, hR, ⟨hb2, hc2⟩, hfr2, hP2, hV2⟩ := hp
      have hfr : gh_fr f g2 (rn_M ρ (20 - n) b F) := hfr.tr hfr2 (fun a _ _ z => rn_M.le (Nat.le_refl _) (fun i hi => by rcases hFc i hi with h9 | h9; exact Or.inl h9; exact Or.inr ⟨h9.1, by omega⟩) hbb1 a z)
      have hRc := hR
      obtain ⟨h1R, ⟨hz, ⟨p206, p207⟩, ⟨gS, hgS, hgS2⟩, ⟨gG, hgG, hgG2⟩, hVR, hqR, hcdR, hbaR, hN60, hq0⟩, ⟨hgaV, hgaR⟩, hSR, hnon⟩ := hRc
      obtain ⟨pvsR, hvsR, hnuR, hnoR, hyeR, -⟩ := id hVR
      rcases hP2 with ⟨h12, rfl, h32⟩ | ⟨d2, hT2, hd2, rfl, h32⟩ | ⟨d2, hT2, hd2, rfl, h32⟩ | ⟨d2, x2, R2, hT2, hd2, rfl, h32, F2, hrs2, hF2⟩
      · have hq3 := hb2
        refine W.eq (g2 := F0 m 13 ls [.int 2]) rfl ?_
        refine lv_istore_n hx hb d_Ru_askForAll_13 rfl hl (by decide) rfl (fun ls hl => ?_)
        have hl : lv_has ls 4 [(3, .int 2), (2, .int (nI i9)), (0, .ref (Z 1)), (1, .ref (Z (1000 + k)))] := hl
        refine lv_iload_n hx hb d_Ru_askForAll_14 rfl (lv_at hl 0 rfl) ?_
        refine lv_iconst (v := 3) hx hb d_Ru_askForAll_15 (by decide) ?_
        refine lv_icmp_eq (tgt := 21) hx hb d_Ru_askForAll_16 (by decide) (fun c2 => absurd c2 (by decide)) (fun c2 => ?_)
        refine lv_iload_n hx hb d_Ru_askForAll_19 rfl (lv_at hl 0 rfl) ?_
        refine gh_reti hAe C V hr hlocks d_Ru_askForAll_20 (by first | decide | omega | (dsimp only; omega)) (by first | decide | omega | (dsimp only; omega)) ?_
        exact ⟨φ2, b2, hR, ⟨by omega, by omega⟩, hfr, Or.inl ⟨by omega, rfl, h32⟩⟩
      · have hTn : sr_all v1 Tc = (d2, some v1) := by rw [hT2]; rfl
        have hcn : (sr_all v1 Tc).1 = d2 := by rw [hTn]
        refine W.eq (g2 := F0 m 13 ls [.int 0]) rfl ?_
        refine lv_istore_n hx hb d_Ru_askForAll_13 rfl hl (by decide) rfl (fun ls hl => ?_)
        have hl : lv_has ls 4 [(3, .int 0), (2, .int (nI i9)), (0, .ref (Z 1)), (1, .ref (Z (1000 + k)))] := hl
        refine lv_iload_n hx hb d_Ru_askForAll_14 rfl (lv_at hl 0 rfl) ?_
        refine lv_iconst (v := 3) hx hb d_Ru_askForAll_15 (by decide) ?_
        refine lv_icmp_eq (tgt := 21) hx hb d_Ru_askForAll_16 (by decide) (fun c3 => absurd c3 (by decide)) (fun c3 => ?_)
        refine lv_iload_n hx hb d_Ru_askForAll_19 rfl (lv_at hl 0 rfl) ?_
        refine gh_reti hAe C V hr hlocks d_Ru_askForAll_20 (by first | decide | omega | (dsimp only; omega)) (by first | decide | omega | (dsimp only; omega)) ?_
        exact ⟨φ2, b2, hR, ⟨by omega, by omega⟩, hfr, Or.inr (Or.inl ⟨v1, by rw [hTc, hTn], by omega, rfl, by omega, hV2 rfl⟩)⟩
      · have hTn : sr_all v1 Tc = (d2, none) := by rw [hT2]; rfl
        have hcn : (sr_all v1 Tc).1 = d2 := by rw [hTn]
        refine W.eq (g2 := F0 m 13 ls [.int 1]) rfl ?_
        refine lv_istore_n hx hb d_Ru_askForAll_13 rfl hl (by decide) rfl (fun ls hl => ?_)
        have hl : lv_has ls 4 [(3, .int 1), (2, .int (nI i9)), (0, .ref (Z 1)), (1, .ref (Z (1000 + k)))] := hl
        refine lv_iload_n hx hb d_Ru_askForAll_14 rfl (lv_at hl 0 rfl) ?_
        refine lv_iconst (v := 3) hx hb d_Ru_askForAll_15 (by decide) ?_
        refine lv_icmp_eq (tgt := 21) hx hb d_Ru_askForAll_16 (by decide) (fun c4 => absurd c4 (by decide)) (fun c4 => ?_)
        refine lv_iload_n hx hb d_Ru_askForAll_19 rfl (lv_at hl 0 rfl) ?_
        refine gh_reti hAe C V hr hlocks d_Ru_askForAll_20 (by first | decide | omega | (dsimp only; omega)) (by first | decide | omega | (dsimp only; omega)) ?_
        exact ⟨φ2, b2, hR, ⟨by omega, by omega⟩, hfr, Or.inr (Or.inr ⟨by rw [hTc, hTn], by omega, rfl, by omega⟩)⟩
      · have hTn : sr_all v1 Tc = (d2 + (sr_all x2 R2).1, (sr_all x2 R2).2) := by rw [hT2, sr_all_cons]
        have hcn : (sr_all v1 Tc).1 = d2 + (sr_all x2 R2).1 := by rw [hTn]
        refine W.eq (g2 := F0 m 13 ls [.int 3]) rfl ?_
        refine lv_istore_n hx hb d_Ru_askForAll_13 rfl hl (by decide) rfl (fun ls hl => ?_)
        have hl : lv_has ls 4 [(3, .int 3), (2, .int (nI i9)), (0, .ref (Z 1)), (1, .ref (Z (1000 + k)))] := hl
        refine lv_iload_n hx hb d_Ru_askForAll_14 rfl (lv_at hl 0 rfl) ?_
        refine lv_iconst (v := 3) hx hb d_Ru_askForAll_15 (by decide) ?_
        refine lv_icmp_eq (tgt := 21) hx hb d_Ru_askForAll_16 (by decide) (fun c5 => ?_) (fun c5 => absurd (by decide) c5)
        refine lv_iinc (k := 1) (v := (nI i9) + 1) hx hb d_Ru_askForAll_21 hl rfl (by rfl) (by decide) rfl (fun ls hl => ?_)
        have hl : lv_has ls 4 [(2, .int (nI (i9 + 1))), (3, .int 3), (0, .ref (Z 1)), (1, .ref (Z (1000 + k)))] := by rw [nI_succ]; exact hl
        refine lv_goto (tgt := 2) hx hb d_Ru_askForAll_24 (by decide) ?_
        have hl : lv_has ls 4 [(2, .int (nI (i9 + 1))), (0, .ref (Z 1)), (1, .ref (Z (1000 + k)))] := lv_sub hl [0, 2, 3] rfl
        have hl : lv_has ls 4 [(2, .int (nI (i9 + 1))), (0, .ref (Z 1)), (1, .ref (Z (1000 + k)))] := hl
        have hq2 := hq2
        rw [hT2] at hq2
        obtain ⟨q3, hq31, hq32, hq33⟩ := zr_next hq2 hq1 hd2
        have hcd : sr_c Tc = d2 := by rw [hT2]; rfl
        refine W.widen (by first | omega | (dsimp only; omega)) (by first | omega | (dsimp only; omega)) (ih (i9 + 1) φ2 b2 (cc + d2) q3 0 x2 R2 F2 g2 H locs ls (by omega) (by omega) ⟨hq31, hq32⟩ hR ⟨by omega, by omega⟩ ⟨by omega, by omega, by omega⟩ (by rw [hTc, hTn, Nat.add_assoc]) hfr hrs2 (fun i hi => ?_) V hl)
        rcases hF2 i hi with z | z; rcases hFc i z with z | z; exact Or.inl z; exact Or.inr ⟨by omega, by omega⟩; exact Or.inr ⟨by omega, by omega⟩
  exact W.widen (by omega) (by omega) (loop 5000 0 φ b 0 q0_ u0 v T F f _ _ ls (by omega) (by omega) ⟨hq0_, hzr0⟩ hR ⟨Nat.le_refl _, Nat.le_refl _⟩ ⟨Nat.zero_le _, rfl, Nat.le_refl _⟩ (by rw [Nat.zero_add]) gh_fr.rf hrs (fun i hi => Or.inl hi) V hl)
set_option maxHeartbeats 4000000 in
set_option maxRecDepth 100000 in
theorem c_Ru_askForAll0 (l : Launch) (E : gh_E) (sz : Nat) (f : gh_F) (ρ Z : Nat → Nat) (q0 N : Nat) (cb bg : Nat → Nat) (φ b : Nat) (s0 e0 : Int32) (hR : rn_R E ρ Z f q0 N cb bg φ b s0 e0) : gh_M l y_Ru_askForAll b_Ru_askForAll 4 (some .int) E sz [.ref (Z 1), .null] f { frames := 3, cells := 0, slots := 0, locals := 60 } (fun r g => r = some (.int 2) ∧ g = f) := by
  refine gh_open (by decide) (Nat.le_of_ble_eq_true rfl) ?_
  intro p e s m args below meth c A ls hAe C V hr hlocks hname hl
  have hx := C.1
  have hb := C.2.1
  have hl : lv_has ls 4 [(0, .ref (Z 1)), (1, .null)] := hl
  have hRc := hR
  obtain ⟨h1R, ⟨hz, ⟨p206, p207⟩, ⟨gS, hgS, hgS2⟩, ⟨gG, hgG, hgG2⟩, hVR, hqR, hcdR, hbaR, hN60, hq0⟩, ⟨hgaV, hgaR⟩, hSR, hnon⟩ := hRc
  obtain ⟨pvsR, hvsR, hnuR, hnoR, hyeR, -⟩ := id hVR
  refine lv_iconst (v := 0) hx hb d_Ru_askForAll_0 (by decide) ?_
  refine lv_istore_n hx hb d_Ru_askForAll_1 rfl hl (by decide) rfl (fun ls hl => ?_)
  have hl : lv_has ls 4 [(2, .int 0), (0, .ref (Z 1)), (1, .null)] := hl
  refine lv_iload_n hx hb d_Ru_askForAll_2 rfl (lv_at hl 0 rfl) ?_
  refine lv_ldc (v := nI 100000) hx hb C.2.2.2.1 (C.2.2.2.2.1 _ kc_Ru_164) d_Ru_askForAll_3 ?_
  refine lv_icmp_ge (tgt := 27) hx hb d_Ru_askForAll_5 (by decide) (fun c1 => absurd c1 (nI_ge (a := 0) (b := 100000) (by omega) (by omega))) (fun c1 => ?_)
  refine lv_aload_n hx hb d_Ru_askForAll_8 rfl (lv_at hl 1 rfl) ?_
  refine lv_aload_nN hx hb d_Ru_askForAll_9 rfl (lv_at hl 2 rfl) ?_
  refine gh_callV C V hl.1 m_Ru_ask l_Ru_64 (c_Ru_ask0 l E _ f (Z 1)) rfl h1R gc_Ru ⟨by first | decide | omega | (dsimp only; omega), by first | decide | omega | (dsimp only; omega)⟩ ⟨by first | decide | omega | (dsimp only; omega), by first | decide | omega | (dsimp only; omega)⟩ (Nat.le_of_ble_eq_true rfl) rfl d_Ru_askForAll_10 (fun r z9 H locs hp V => ?_)
  obtain ⟨rfl, he9⟩ := hp
  rw [he9] at V
  refine W.eq (g2 := F0 m 13 ls [.int 2]) rfl ?_
  refine lv_istore_n hx hb d_Ru_askForAll_13 rfl hl (by decide) rfl (fun ls hl => ?_)
  have hl : lv_has ls 4 [(3, .int 2), (2, .int 0), (0, .ref (Z 1)), (1, .null)] := hl
  refine lv_iload_n hx hb d_Ru_askForAll_14 rfl (lv_at hl 0 rfl) ?_
  refine lv_iconst (v := 3) hx hb d_Ru_askForAll_15 (by decide) ?_
  refine lv_icmp_eq (tgt := 21) hx hb d_Ru_askForAll_16 (by decide) (fun c2 => absurd c2 (by decide)) (fun c2 => ?_)
  refine lv_iload_n hx hb d_Ru_askForAll_19 rfl (lv_at hl 0 rfl) ?_
  refine gh_reti hAe C V hr hlocks d_Ru_askForAll_20 (by first | decide | omega | (dsimp only; omega)) (by first | decide | omega | (dsimp only; omega)) ?_
  exact ⟨rfl, rfl⟩
