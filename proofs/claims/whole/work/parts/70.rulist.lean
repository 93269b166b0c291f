/-! askList. Printed by wip/whole/gen_ru14.py. -/
theorem d_Ru_askList_0 : decode b_Ru_askList 0 = .ok (.aload_n 1, 1) := by decide +kernel
theorem d_Ru_askList_1 : decode b_Ru_askList 1 = .ok (.getfield 94, 3) := by decide +kernel
theorem d_Ru_askList_4 : decode b_Ru_askList 4 = .ok (.ifCond .le 5, 3) := by decide +kernel
theorem d_Ru_askList_7 : decode b_Ru_askList 7 = .ok (.iconst 0, 1) := by decide +kernel
theorem d_Ru_askList_8 : decode b_Ru_askList 8 = .ok (.ireturn, 1) := by decide +kernel
theorem d_Ru_askList_9 : decode b_Ru_askList 9 = .ok (.aload_n 1, 1) := by decide +kernel
theorem d_Ru_askList_10 : decode b_Ru_askList 10 = .ok (.getfield 78, 3) := by decide +kernel
theorem d_Ru_askList_13 : decode b_Ru_askList 13 = .ok (.aload_n 0, 1) := by decide +kernel
theorem d_Ru_askList_14 : decode b_Ru_askList 14 = .ok (.getfield 28, 3) := by decide +kernel
theorem d_Ru_askList_17 : decode b_Ru_askList 17 = .ok (.arraylength, 1) := by decide +kernel
theorem d_Ru_askList_18 : decode b_Ru_askList 18 = .ok (.if_icmp .lt 5, 3) := by decide +kernel
theorem d_Ru_askList_21 : decode b_Ru_askList 21 = .ok (.iconst 1, 1) := by decide +kernel
theorem d_Ru_askList_22 : decode b_Ru_askList 22 = .ok (.ireturn, 1) := by decide +kernel
theorem d_Ru_askList_23 : decode b_Ru_askList 23 = .ok (.aload_n 0, 1) := by decide +kernel
theorem d_Ru_askList_24 : decode b_Ru_askList 24 = .ok (.getfield 28, 3) := by decide +kernel
theorem d_Ru_askList_27 : decode b_Ru_askList 27 = .ok (.aload_n 1, 1) := by decide +kernel
theorem d_Ru_askList_28 : decode b_Ru_askList 28 = .ok (.getfield 78, 3) := by decide +kernel
theorem d_Ru_askList_31 : decode b_Ru_askList 31 = .ok (.aaload, 1) := by decide +kernel
theorem d_Ru_askList_32 : decode b_Ru_askList 32 = .ok (.astore_n 2, 1) := by decide +kernel
theorem d_Ru_askList_33 : decode b_Ru_askList 33 = .ok (.aload_n 2, 1) := by decide +kernel
theorem d_Ru_askList_34 : decode b_Ru_askList 34 = .ok (.invokevirtual 168, 3) := by decide +kernel
theorem d_Ru_askList_37 : decode b_Ru_askList 37 = .ok (.iconst 0, 1) := by decide +kernel
theorem d_Ru_askList_38 : decode b_Ru_askList 38 = .ok (.istore_n 3, 1) := by decide +kernel
theorem d_Ru_askList_39 : decode b_Ru_askList 39 = .ok (.iload_n 3, 1) := by decide +kernel
theorem d_Ru_askList_40 : decode b_Ru_askList 40 = .ok (.bipush 16, 2) := by decide +kernel
theorem d_Ru_askList_42 : decode b_Ru_askList 42 = .ok (.if_icmp .gt 59, 3) := by decide +kernel
theorem d_Ru_askList_45 : decode b_Ru_askList 45 = .ok (.aload_n 0, 1) := by decide +kernel
theorem d_Ru_askList_46 : decode b_Ru_askList 46 = .ok (.aload_n 1, 1) := by decide +kernel
theorem d_Ru_askList_47 : decode b_Ru_askList 47 = .ok (.invokevirtual 155, 3) := by decide +kernel
theorem d_Ru_askList_50 : decode b_Ru_askList 50 = .ok (.istore 4, 2) := by decide +kernel
theorem d_Ru_askList_52 : decode b_Ru_askList 52 = .ok (.iload 4, 2) := by decide +kernel
theorem d_Ru_askList_54 : decode b_Ru_askList 54 = .ok (.ifCond .ne 16, 3) := by decide +kernel
theorem d_Ru_askList_57 : decode b_Ru_askList 57 = .ok (.aload_n 1, 1) := by decide +kernel
theorem d_Ru_askList_58 : decode b_Ru_askList 58 = .ok (.aload_n 0, 1) := by decide +kernel
theorem d_Ru_askList_59 : decode b_Ru_askList 59 = .ok (.getfield 13, 3) := by decide +kernel
theorem d_Ru_askList_62 : decode b_Ru_askList 62 = .ok (.aload_n 2, 1) := by decide +kernel
theorem d_Ru_askList_63 : decode b_Ru_askList 63 = .ok (.invokevirtual 171, 3) := by decide +kernel
theorem d_Ru_askList_66 : decode b_Ru_askList 66 = .ok (.invokestatic 175, 3) := by decide +kernel
theorem d_Ru_askList_69 : decode b_Ru_askList 69 = .ok (.ireturn, 1) := by decide +kernel
theorem d_Ru_askList_70 : decode b_Ru_askList 70 = .ok (.iload 4, 2) := by decide +kernel
theorem d_Ru_askList_72 : decode b_Ru_askList 72 = .ok (.iconst 3, 1) := by decide +kernel
theorem d_Ru_askList_73 : decode b_Ru_askList 73 = .ok (.if_icmp .eq 6, 3) := by decide +kernel
theorem d_Ru_askList_76 : decode b_Ru_askList 76 = .ok (.iload 4, 2) := by decide +kernel
theorem d_Ru_askList_78 : decode b_Ru_askList 78 = .ok (.ireturn, 1) := by decide +kernel
theorem d_Ru_askList_79 : decode b_Ru_askList 79 = .ok (.aload_n 2, 1) := by decide +kernel
theorem d_Ru_askList_80 : decode b_Ru_askList 80 = .ok (.aload_n 1, 1) := by decide +kernel
theorem d_Ru_askList_81 : decode b_Ru_askList 81 = .ok (.getfield 87, 3) := by decide +kernel
theorem d_Ru_askList_84 : decode b_Ru_askList 84 = .ok (.getfield 68, 3) := by decide +kernel
theorem d_Ru_askList_87 : decode b_Ru_askList 87 = .ok (.invokevirtual 178, 3) := by decide +kernel
theorem d_Ru_askList_90 : decode b_Ru_askList 90 = .ok (.ifCond .ne 5, 3) := by decide +kernel
theorem d_Ru_askList_93 : decode b_Ru_askList 93 = .ok (.iconst 1, 1) := by decide +kernel
theorem d_Ru_askList_94 : decode b_Ru_askList 94 = .ok (.ireturn, 1) := by decide +kernel
theorem d_Ru_askList_95 : decode b_Ru_askList 95 = .ok (.iinc 3 1, 3) := by decide +kernel
theorem d_Ru_askList_98 : decode b_Ru_askList 98 = .ok (.goto (-59), 3) := by decide +kernel
theorem d_Ru_askList_101 : decode b_Ru_askList 101 = .ok (.iconst 1, 1) := by decide +kernel
theorem d_Ru_askList_102 : decode b_Ru_askList 102 = .ok (.ireturn, 1) := by decide +kernel
set_option maxHeartbeats 4000000 in
set_option maxRecDepth 100000 in
theorem c_Ru_askList (l : Launch) (E : gh_E) (sz : Nat) (f : gh_F) (ρ Z : Nat → Nat) (q0 N : Nat) (cb bg : Nat → Nat) (φ b : Nat) (s0 e0 : Int32) (n u k : Nat) (v : vt) (T : sr) (F : Nat → Prop) (pt w9 it el gv pl va : Nat) (X Y : vt) (fi se : Option Nat) (hR : rn_R E ρ Z f q0 N cb bg φ b s0 e0) (hφb : φ + b ≤ 250) (hFb : ∀ j, F j → j < b) (hx9 : rs_x E ρ Z cb bg N f φ n u k v T F pt w9 it el gv pl va X Y fi se) (IH : rk_A l E ρ Z q0 N cb bg n) (hkd : cb pt = 12) : gh_M l y_Ru_askList b_Ru_askList 5 (some .int) E sz [.ref (Z 1), .ref (Z (1000 + k))] f { frames := 25 + 6 * n, cells := 3 * (min (sr_c T) φ + u), slots := 39 * (min (sr_c T) φ + u), locals := 870 + 200 * n } (rk_Q E ρ Z q0 N cb bg (n + 1) f φ b s0 e0 k v T F) := by
  obtain ⟨hs, ⟨hk250, hn19, hFk⟩, ⟨hqw, hq4, hq6⟩, ⟨hit, hel, hva⟩, ⟨q9, hq16, hzr, hgv⟩, hst⟩ := hx9
  have hkb := hFb k hFk
  have hptN := (qw_lt hqw).1
  have hX7 := (hit.le).2
  refine gh_open (by decide) (Nat.le_of_ble_eq_true rfl) ?_
  intro p e s m args below meth c A ls hAe C V hr hlocks hname hl
  have hx := C.1
  have hb := C.2.1
  have hl : lv_has ls 5 [(0, .ref (Z 1)), (1, .ref (Z (1000 + k)))] := hl
  have hRc := hR
  obtain ⟨h1R, ⟨hz, ⟨p206, p207⟩, ⟨gS, hgS, hgS2⟩, ⟨gG, hgG, hgG2⟩, hVR, hqR, hcdR, hbaR, hN60, hq0⟩, ⟨hgaV, hgaR⟩, hSR, hnon⟩ := hRc
  obtain ⟨pvsR, hvsR, hnuR, hnoR, hyeR, -⟩ := id hVR
  have hfr : gh_fr f f (rn_M ρ (20 - (n + 1)) b F) := gh_fr.rf
  have hpt60 : pt < 60 := by omega
  have hw2 := qw_two hqw (by rw [hkd]; decide)
  have hn8 := hq6 (by omega)
  have hd12 : 19 - n < 12 := by omega
  rcases hst with ⟨hu, hg0, hp0, hf0, hs0, hv0, hT⟩ | ⟨hu, hg1, hrun⟩
  · refine lv_aload_n hx hb d_Ru_askList_0 rfl (lv_at hl 1 rfl) ?_
    refine gh_get C V hs gc_St gi_St 6 (by decide) f_Ru_94 rfl rfl d_Ru_askList_1 ?_
    refine lv_if_le (tgt := 9) hx hb d_Ru_askList_4 (by decide) (fun c1 => ?_) (fun c1 => absurd (by rw [hg0]; decide) c1)
    refine lv_aload_n hx hb d_Ru_askList_9 rfl (lv_at hl 1 rfl) ?_
    refine gh_get C V hs gc_St gi_St 1 (by decide) f_Ru_78 rfl rfl d_Ru_askList_10 ?_
    refine lv_aload_n hx hb d_Ru_askList_13 rfl (lv_at hl 0 rfl) ?_
    refine gh_get C V h1R gc_Ru gi_Ru 2 (by decide) f_Ru_28 rfl rfl d_Ru_askList_14 ?_
    refine gh_alen (t0 := 5) C V rfl hgG (v := nI 12) rfl d_Ru_askList_17 ?_
    refine lv_icmp_lt (tgt := 23) hx hb d_Ru_askList_18 (by decide) (fun c2 => ?_) (fun c2 => absurd (nI_lt hd12 (by decide)) c2)
    refine lv_aload_n hx hb d_Ru_askList_23 rfl (lv_at hl 0 rfl) ?_
    refine gh_get C V h1R gc_Ru gi_Ru 2 (by decide) f_Ru_28 rfl rfl d_Ru_askList_24 ?_
    refine lv_aload_n hx hb d_Ru_askList_27 rfl (lv_at hl 1 rfl) ?_
    refine gh_get C V hs gc_St gi_St 1 (by decide) f_Ru_78 rfl rfl d_Ru_askList_28 ?_
    refine gn_aald (t0 := 5) (i := 19 - n) (v := Z (130 + 3 * (19 - n))) C V rfl hgG (by omega) (by decide) (hgG2 _ hd12) d_Ru_askList_31 ?_
    refine lv_astore_n hx hb d_Ru_askList_32 rfl hl (by decide) rfl (fun ls hl => ?_)
    have hl : lv_has ls 5 [(2, .ref (Z (130 + 3 * (19 - n)))), (0, .ref (Z 1)), (1, .ref (Z (1000 + k)))] := hl
    refine lv_aload_n hx hb d_Ru_askList_33 rfl (lv_at hl 0 rfl) ?_
    have hg1 := hgaR _ hd12
    obtain ⟨hpa, _, n0_, gk0_, gi0_, hga_, -⟩ := hg1
    refine gh_callV C V hl.1 m_Ga_clear l_Ru_168 (c_Ga_clear l E _ f (rP ρ) (Z (130 + 3 * (19 - n))) (Z (131 + 3 * (19 - n))) (Z (132 + 3 * (19 - n))) (hgaR _ hd12)) rfl hga_ gc_Ga ⟨by first | decide | omega | (dsimp only; omega), by first | decide | omega | (dsimp only; omega)⟩ ⟨by first | decide | omega | (dsimp only; omega), by first | decide | omega | (dsimp only; omega)⟩ (Nat.le_of_ble_eq_true rfl) rfl d_Ru_askList_34 (fun r g1 H locs hp V => ?_)
    obtain ⟨rfl, hgR, hfr9⟩ := hp
    refine W.eq (g2 := F0 m 37 ls []) rfl ?_
    have hR := hR.keepG hd12 hfr9 hgR.raw
    have hfr : gh_fr f g1 (rn_M ρ (20 - (n + 1)) b F) := hfr.tr hfr9 (fun a _ _ z => rn_g.M hz hd12 (by omega) a z)
    have hs := hfr9.at hs (rn_g.st hz hd12 hk250)
    have hit := hit.keep hfr9 (rn_g.P hz hd12)
    have hel := hel.keep hfr9 (rn_g.P hz hd12)
    have hva := hva.keep hfr9 (rn_g.P hz hd12)
    have hfi : fi = none := hf0
    refine lv_iconst (v := 0) hx hb d_Ru_askList_37 (by decide) ?_
    refine lv_istore_n hx hb d_Ru_askList_38 rfl hl (by decide) rfl (fun ls hl => ?_)
    have hl : lv_has ls 5 [(3, .int 0), (2, .ref (Z (130 + 3 * (19 - n)))), (0, .ref (Z 1)), (1, .ref (Z (1000 + k)))] := hl
    have hl : lv_has ls 5 [(3, .int 0), (0, .ref (Z 1)), (1, .ref (Z (1000 + k))), (2, .ref (Z (130 + 3 * (19 - n))))] := lv_sub hl [0, 2, 3, 1] rfl
    have hl : lv_has ls 5 [(3, .int (nI 0)), (0, .ref (Z 1)), (1, .ref (Z (1000 + k))), (2, .ref (Z (130 + 3 * (19 - n))))] := hl
    have loop : ∀ (n9 i9 : Nat) (φc : Nat) (bc : Nat) (cc : Nat) (fo : Option Nat) (Tc : sr) (Fc : Nat → Prop) (xs : List vt) (f1 : gh_F) (H : Heap) (locs : List Loc) (ls : Array Slot), (i9 + n9 = 17 ∧ i9 ≤ 16) → (xs.length = i9) → (rn_R E ρ Z f1 q0 N cb bg φc bc s0 e0) → (b ≤ bc ∧ bc + φc ≤ b + φ) → (cc ≤ φ ∧ φc = φ - cc) → (T = sr_add cc (sr_lst xs Tc)) → (gh_fr f f1 (rn_M ρ (20 - (n + 1)) b F)) → (f1 (Z (1000 + k)) = some (.inr (5, [.int (nI pt), .int (nI (19 - n)), .ref it, .ref el, ro Z fo, ro Z se, .int (nI gv), .int (nI pl), .ref va]))) → (rk_S E ρ Z cb bg N f1 φc bc n k fo (bg (pt * 3 + 0)) X Y Tc Fc) → (∀ i, Fc i → F i ∨ (b ≤ i ∧ i < bc)) → (ga_R E (rP ρ) f1 (Z (130 + 3 * (19 - n))) (Z (131 + 3 * (19 - n))) (Z (132 + 3 * (19 - n))) [] xs) → (cw E (rP ρ) f1 it X) → (cw E (rP ρ) f1 el Y) → (cw E (rP ρ) f1 va v) → gh_V E A f1 s H locs → lv_has ls 5 [(3, .int (nI i9)), (0, .ref (Z 1)), (1, .ref (Z (1000 + k))), (2, .ref (Z (130 + 3 * (19 - n))))] → W p l e { frames := 25 + 6 * n, cells := 3 * (min (sr_c T) φ + u), slots := 39 * (min (sr_c T) φ + u), locals := 870 + 200 * n } s m args below meth c H locs (3 * cc) (39 * cc) (MQ below (gh_Q E f (rk_Q E ρ Z q0 N cb bg (n + 1) f φ b s0 e0 k v T F)) args s (3 * (min (sr_c T) φ + u)) (39 * (min (sr_c T) φ + u)) A) (F0 m 39 ls []) := by
      intro n9
      induction n9 with
      | zero =>
        intro i9 φc bc cc fo Tc Fc xs f1 H locs ls hm hxs hR hbb hcc hTc hfr hs1 hS1 hFc hgR hit hel hva V hl
        exact absurd hm (by omega)
      | succ n9 ih =>
        intro i9 φc bc cc fo Tc Fc xs f1 H locs ls hm hxs hR hbb hcc hTc hfr hs1 hS1 hFc hgR hit hel hva V hl
        obtain ⟨hbb1, hbb2⟩ := hbb
        obtain ⟨hcc1, hcc2⟩ := hcc
        have hRc := hR
        obtain ⟨h1R, ⟨hz, ⟨p206, p207⟩, ⟨gS, hgS, hgS2⟩, ⟨gG, hgG, hgG2⟩, hVR, hqR, hcdR, hbaR, hN60, hq0⟩, ⟨hgaV, hgaR⟩, hSR, hnon⟩ := hRc
        obtain ⟨pvsR, hvsR, hnuR, hnoR, hyeR, -⟩ := id hVR
        have hcT : sr_c T = cc + sr_c (sr_lst xs Tc) := by rw [hTc, sr_c_add]
        refine lv_iload_n hx hb d_Ru_askList_39 rfl (lv_at hl 0 rfl) ?_
        refine lv_bipush (v := 16) hx hb d_Ru_askList_40 (by decide) ?_
        refine lv_icmp_gt (tgt := 101) hx hb d_Ru_askList_42 (by decide) (fun c3 => absurd c3 (nI_nlt (a := 16) (b := i9) (by omega) (by omega))) (fun c3 => ?_)
        refine lv_aload_n hx hb d_Ru_askList_45 rfl (lv_at hl 1 rfl) ?_
        refine lv_aload_n hx hb d_Ru_askList_46 rfl (lv_at hl 2 rfl) ?_
        have hcS : sr_c Tc ≤ sr_c (sr_lst xs Tc) := sr_lst_c
        refine gh_callV C V hl.1 m_Ru_askFirst l_Ru_155 (c_Ru_askFirst l E _ f1 ρ Z q0 N cb bg φc bc s0 e0 n k pt it el fo (ro Z se) (.int (nI gv)) (.int (nI pl)) (.ref va) X Y Tc Fc hR (by omega) hn19 (by omega) hpt60 hs1 hit hel hS1 IH) rfl h1R gc_Ru ⟨by first | decide | omega | (dsimp only; omega), by first | decide | omega | (dsimp only; omega)⟩ ⟨by first | decide | omega | (dsimp only; omega), by first | decide | omega | (dsimp only; omega)⟩ (Nat.le_of_ble_eq_true rfl) rfl d_Ru_askList_47 (fun r g2 H locs hp V => ?_)
        obtain ⟨φ2, b2, fo2, hR, ⟨hb2, hc2⟩, hfr2, hs2, hP2⟩ := hp
        have hfr : gh_fr f g2 (rn_M ρ (20 - (n + 1)) b F) := hfr.tr hfr2 (fun a _ _ z => rn_M.le (by omega) (fun i hi => by rcases hi with hi | hi; rcases hFc i hi with h9 | h9; exact Or.inl h9; exact Or.inr ⟨h9.1, by omega⟩; rw [hi]; exact Or.inl hFk) hbb1 a z)
        have hgR := hgR.keep hfr2 rn_M.P (rn_M.ga hz (by omega) (by omega) (by omega)) (rn_M.ga hz (by omega) (by omega) (by omega)) (rn_M.ga hz (by omega) (by omega) (by omega))
        have hit := hit.keep hfr2 rn_M.P
        have hel := hel.keep hfr2 rn_M.P
        have hva := hva.keep hfr2 rn_M.P
        have hRc := hR
        obtain ⟨h1R, ⟨hz, ⟨p206, p207⟩, ⟨gS, hgS, hgS2⟩, ⟨gG, hgG, hgG2⟩, hVR, hqR, hcdR, hbaR, hN60, hq0⟩, ⟨hgaV, hgaR⟩, hSR, hnon⟩ := hRc
        obtain ⟨pvsR, hvsR, hnuR, hnoR, hyeR, -⟩ := id hVR
        rcases hP2 with ⟨h12, rfl, h32⟩ | ⟨d2, hT2, hd2, rfl, h32⟩ | ⟨d2, hT2, hd2, rfl, h32⟩ | ⟨d2, x2, R2, hT2, hd2, rfl, h32, j2, F2, ho2, hrs2, hF2⟩
        · have hq2 := hs2
          refine W.eq (g2 := F0 m 50 ls [.int 2]) rfl ?_
          refine lv_istore hx hb d_Ru_askList_50 hl (by decide) rfl (fun ls hl => ?_)
          have hl : lv_has ls 5 [(4, .int 2), (3, .int (nI i9)), (0, .ref (Z 1)), (1, .ref (Z (1000 + k))), (2, .ref (Z (130 + 3 * (19 - n))))] := hl
          refine lv_iload hx hb d_Ru_askList_52 (lv_at hl 0 rfl) ?_
          refine lv_if_ne (tgt := 70) hx hb d_Ru_askList_54 (by decide) (fun c4 => ?_) (fun c4 => absurd c4 (by decide))
          refine lv_iload hx hb d_Ru_askList_70 (lv_at hl 0 rfl) ?_
          refine lv_iconst (v := 3) hx hb d_Ru_askList_72 (by decide) ?_
          refine lv_icmp_eq (tgt := 79) hx hb d_Ru_askList_73 (by decide) (fun c5 => absurd c5 (by decide)) (fun c5 => ?_)
          refine lv_iload hx hb d_Ru_askList_76 (lv_at hl 0 rfl) ?_
          refine gh_reti hAe C V hr hlocks d_Ru_askList_78 (by first | decide | omega | (dsimp only; omega)) (by first | decide | omega | (dsimp only; omega)) ?_
          exact ⟨φ2, b2, hR, ⟨by omega, by omega⟩, hfr, Or.inl ⟨by omega, rfl, h32⟩, fun z => absurd z (rv_ne (by decide))⟩
        · have hcd : sr_c Tc = d2 := by rw [hT2]; rfl
          have hTe : T = sr_add (cc + d2) (sr_1 (vt_mk 5 [] xs)) := by rw [hTc, hT2, sr_lst_end, sr_add_add]
          refine W.eq (g2 := F0 m 50 ls [.int 0]) rfl ?_
          refine lv_istore hx hb d_Ru_askList_50 hl (by decide) rfl (fun ls hl => ?_)
          have hl : lv_has ls 5 [(4, .int 0), (3, .int (nI i9)), (0, .ref (Z 1)), (1, .ref (Z (1000 + k))), (2, .ref (Z (130 + 3 * (19 - n))))] := hl
          refine lv_iload hx hb d_Ru_askList_52 (lv_at hl 0 rfl) ?_
          refine lv_if_ne (tgt := 70) hx hb d_Ru_askList_54 (by decide) (fun c6 => absurd (by decide) c6) (fun c6 => ?_)
          refine lv_aload_n hx hb d_Ru_askList_57 rfl (lv_at hl 3 rfl) ?_
          refine lv_aload_n hx hb d_Ru_askList_58 rfl (lv_at hl 2 rfl) ?_
          refine gh_get C V h1R gc_Ru gi_Ru 0 (by decide) f_Ru_13 rfl rfl d_Ru_askList_59 ?_
          refine lv_aload_n hx hb d_Ru_askList_62 rfl (lv_at hl 4 rfl) ?_
          have hcT9 : sr_c T = cc + d2 := by rw [hTe, sr_c_add, sr_1_c, Nat.add_zero]
          refine gh_callV C V hl.1 m_Vs_list l_Ru_171 (c_Vs_list l E _ g2 (rP ρ) (Z 200) (Z 201) (Z 202) (Z 203) (Z 204) (Z 205) (Z 3) (Z (130 + 3 * (19 - n))) (Z (131 + 3 * (19 - n))) (Z (132 + 3 * (19 - n))) [] xs hVR hnon hgR) rfl hvsR gc_Vs ⟨by first | decide | omega | (dsimp only; omega), by first | decide | omega | (dsimp only; omega)⟩ ⟨by first | decide | omega | (dsimp only; omega), by first | decide | omega | (dsimp only; omega)⟩ (Nat.le_of_ble_eq_true rfl) rfl d_Ru_askList_63 (fun r g3 H locs hp V => ?_)
          obtain ⟨hva_, hfr3⟩ := hp
          have hva9 := hva
          have hva := hva_
          have hR := hR.keep0 hfr3
          have hfr : gh_fr f g3 (rn_M ρ (20 - (n + 1)) b F) := hfr.tr hfr3 (fun _ _ _ z => absurd z (by simp))
          have hs := hfr3.at hs2 (by simp)
          have hit := hit.keep hfr3 (fun _ z => absurd z (by simp))
          have hel := hel.keep hfr3 (fun _ z => absurd z (by simp))
          have hRc := hR
          obtain ⟨h1R, ⟨hz, ⟨p206, p207⟩, ⟨gS, hgS, hgS2⟩, ⟨gG, hgG, hgG2⟩, hVR, hqR, hcdR, hbaR, hN60, hq0⟩, ⟨hgaV, hgaR⟩, hSR, hnon⟩ := hRc
          obtain ⟨pvsR, hvsR, hnuR, hnoR, hyeR, -⟩ := id hVR
          cases ho : vt_mk 5 [] xs with
          | none =>
            rw [ho] at hva
            have hva : r = some .null := hva
            subst hva
            refine W.eq (g2 := F0 m 66 ls [.null, .ref (Z (1000 + k))]) rfl ?_
            refine gh_callS C V hl.1 m_Ru_givesOrFails l_Ru_175 (c_Ru_givesOrFails0 l E _ g3 (Z (1000 + k))) rfl ⟨by first | decide | omega | (dsimp only; omega), by first | decide | omega | (dsimp only; omega)⟩ ⟨by first | decide | omega | (dsimp only; omega), by first | decide | omega | (dsimp only; omega)⟩ (Nat.le_of_ble_eq_true rfl) rfl d_Ru_askList_66 (fun r z9 H locs hp V => ?_)
            obtain ⟨rfl, he9⟩ := hp
            rw [he9] at V
            refine W.eq (g2 := F0 m 69 ls [.int 1]) rfl ?_
            refine gh_reti hAe C V hr hlocks d_Ru_askList_69 (by first | decide | omega | (dsimp only; omega)) (by first | decide | omega | (dsimp only; omega)) ?_
            exact ⟨φ2, b2, hR, ⟨by omega, by omega⟩, hfr, Or.inr (Or.inr (Or.inl ⟨cc + d2, by rw [hTe, ho]; rfl, by omega, rfl, by omega⟩)), fun z => absurd z (rv_ne (by decide))⟩
          | some M9 =>
            rw [ho] at hva
            obtain ⟨b9, rfl, hb9⟩ := hva
            refine W.eq (g2 := F0 m 66 ls [.ref b9, .ref (Z (1000 + k))]) rfl ?_
            have hTe0 := hTe
            refine gh_callS C V hl.1 m_Ru_givesOrFails l_Ru_175 (c_Ru_givesOrFails l E _ g3 ρ Z q0 N cb bg φ2 b2 s0 e0 k b9 gv _ _ _ _ _ _ _ _ hR hk250 hs) rfl ⟨by first | decide | omega | (dsimp only; omega), by first | decide | omega | (dsimp only; omega)⟩ ⟨by first | decide | omega | (dsimp only; omega), by first | decide | omega | (dsimp only; omega)⟩ (Nat.le_of_ble_eq_true rfl) rfl d_Ru_askList_66 (fun r g7 H locs hp V => ?_)
            obtain ⟨rfl, hR, hs, hfrg⟩ := hp
            refine W.eq (g2 := F0 m 69 ls [.int 3]) rfl ?_
            have hMg : ∀ a, ρ a = 1000 + k → ¬ rP ρ a := fun a z z2 => by have z2 : ρ a = 0 := z2; omega
            have hfr : gh_fr f g7 (rn_M ρ (20 - (n + 1)) b F) := hfr.tr hfrg (fun a _ _ z => Or.inr (Or.inr (Or.inr (Or.inr ⟨k, hFk, z⟩))))
            have hit := hit.keep hfrg hMg
            have hel := hel.keep hfrg hMg
            refine gh_reti hAe C V hr hlocks d_Ru_askList_69 (by first | decide | omega | (dsimp only; omega)) (by first | decide | omega | (dsimp only; omega)) ?_
            have hTe : T = sr_cons (cc + d2) M9 (sr_end 0) := by rw [hTe0, ho]; rfl
            have hzr1 := hzr
            rw [hTe] at hzr1
            exact ⟨φ2, b2, hR, ⟨by omega, by omega⟩, hfr, Or.inr (Or.inr (Or.inr ⟨cc + d2, M9, sr_end 0, hTe, by omega, rfl, by omega, fun i => F i ∨ (b ≤ i ∧ i < b2), rs_mk hs ⟨hk250, hn19, Or.inl hFk⟩ ⟨hqw, hq4, hq6⟩ hit hel (hb9.keep hfrg hMg) hq16 hzr1 hgv (by omega) (by omega) (rs_run_0 (by omega) rfl), fun _ z => z⟩)), fun z => absurd z (rv_ne (by decide))⟩
        · have hcd : sr_c Tc = d2 := by rw [hT2]; rfl
          refine W.eq (g2 := F0 m 50 ls [.int 1]) rfl ?_
          refine lv_istore hx hb d_Ru_askList_50 hl (by decide) rfl (fun ls hl => ?_)
          have hl : lv_has ls 5 [(4, .int 1), (3, .int (nI i9)), (0, .ref (Z 1)), (1, .ref (Z (1000 + k))), (2, .ref (Z (130 + 3 * (19 - n))))] := hl
          refine lv_iload hx hb d_Ru_askList_52 (lv_at hl 0 rfl) ?_
          refine lv_if_ne (tgt := 70) hx hb d_Ru_askList_54 (by decide) (fun c8 => ?_) (fun c8 => absurd c8 (by decide))
          refine lv_iload hx hb d_Ru_askList_70 (lv_at hl 0 rfl) ?_
          refine lv_iconst (v := 3) hx hb d_Ru_askList_72 (by decide) ?_
          refine lv_icmp_eq (tgt := 79) hx hb d_Ru_askList_73 (by decide) (fun c9 => absurd c9 (by decide)) (fun c9 => ?_)
          refine lv_iload hx hb d_Ru_askList_76 (lv_at hl 0 rfl) ?_
          refine gh_reti hAe C V hr hlocks d_Ru_askList_78 (by first | decide | omega | (dsimp only; omega)) (by first | decide | omega | (dsimp only; omega)) ?_
          exact ⟨φ2, b2, hR, ⟨by omega, by omega⟩, hfr, Or.inr (Or.inr (Or.inl ⟨cc + d2, by rw [hTc, hT2, sr_lst_fail, sr_add_fail], by omega, rfl, by omega⟩)), fun z => absurd z (rv_ne (by decide))⟩
        · have hcd : sr_c Tc = d2 := by rw [hT2]; rfl
          subst ho2
          obtain ⟨v0, v1, v2, v3, v4, v5, v6, v7, a2, hj2, hx2, hl2, hFj2⟩ := hrs2.val
          refine W.eq (g2 := F0 m 50 ls [.int 3]) rfl ?_
          refine lv_istore hx hb d_Ru_askList_50 hl (by decide) rfl (fun ls hl => ?_)
          have hl : lv_has ls 5 [(4, .int 3), (3, .int (nI i9)), (0, .ref (Z 1)), (1, .ref (Z (1000 + k))), (2, .ref (Z (130 + 3 * (19 - n))))] := hl
          refine lv_iload hx hb d_Ru_askList_52 (lv_at hl 0 rfl) ?_
          refine lv_if_ne (tgt := 70) hx hb d_Ru_askList_54 (by decide) (fun c10 => ?_) (fun c10 => absurd c10 (by decide))
          refine lv_iload hx hb d_Ru_askList_70 (lv_at hl 0 rfl) ?_
          refine lv_iconst (v := 3) hx hb d_Ru_askList_72 (by decide) ?_
          refine lv_icmp_eq (tgt := 79) hx hb d_Ru_askList_73 (by decide) (fun c11 => ?_) (fun c11 => absurd (by decide) c11)
          refine lv_aload_n hx hb d_Ru_askList_79 rfl (lv_at hl 4 rfl) ?_
          refine lv_aload_n hx hb d_Ru_askList_80 rfl (lv_at hl 3 rfl) ?_
          refine gh_get C V hs2 gc_St gi_St 4 (by decide) f_Ru_87 rfl rfl d_Ru_askList_81 ?_
          refine gh_get C V hj2 gc_St gi_St 8 (by decide) f_Ru_68 rfl rfl d_Ru_askList_84 ?_
          have hgu := hgR
          obtain ⟨hpa, _, gku, giu, Ku, Bu, hau, -⟩ := hgu
          refine gh_callV C V hl.1 m_Ga_add l_Ru_178 (c_Ga_add l E _ g2 (rP ρ) (Z (130 + 3 * (19 - n))) (Z (131 + 3 * (19 - n))) (Z (132 + 3 * (19 - n))) [] xs a2 x2 hgR hx2) rfl hau gc_Ga ⟨by first | decide | omega | (dsimp only; omega), by first | decide | omega | (dsimp only; omega)⟩ ⟨by first | decide | omega | (dsimp only; omega), by first | decide | omega | (dsimp only; omega)⟩ (Nat.le_of_ble_eq_true rfl) rfl d_Ru_askList_87 (fun r g3 H locs hp V => ?_)
          by_cases hx16 : xs.length < 16
          · obtain ⟨rfl, hgR, hfr3⟩ := hp.1 hx16
            refine W.eq (g2 := F0 m 90 ls [.int 1]) rfl ?_
            have hR := hR.keepG hd12 hfr3 hgR.raw
            have hfr : gh_fr f g3 (rn_M ρ (20 - (n + 1)) b F) := hfr.tr hfr3 (fun a _ _ z => rn_g.M hz hd12 (by omega) a z)
            refine lv_if_ne (tgt := 95) hx hb d_Ru_askList_90 (by decide) (fun c12 => ?_) (fun c12 => absurd c12 (by decide))
            refine lv_iinc (k := 1) (v := (nI i9) + 1) hx hb d_Ru_askList_95 hl rfl (by rfl) (by decide) rfl (fun ls hl => ?_)
            have hl : lv_has ls 5 [(3, .int (nI (i9 + 1))), (4, .int 3), (0, .ref (Z 1)), (1, .ref (Z (1000 + k))), (2, .ref (Z (130 + 3 * (19 - n))))] := by rw [nI_succ]; exact hl
            refine lv_goto (tgt := 39) hx hb d_Ru_askList_98 (by decide) ?_
            have hl : lv_has ls 5 [(3, .int (nI (i9 + 1))), (0, .ref (Z 1)), (1, .ref (Z (1000 + k))), (2, .ref (Z (130 + 3 * (19 - n))))] := lv_sub hl [0, 2, 3, 4] rfl
            have hl : lv_has ls 5 [(3, .int (nI (i9 + 1))), (0, .ref (Z 1)), (1, .ref (Z (1000 + k))), (2, .ref (Z (130 + 3 * (19 - n))))] := hl
            have hTn : sr_lst xs Tc = sr_add d2 (sr_lst (xs ++ [x2]) R2) := by rw [hT2, sr_lst_cons hx16]
            have hlt2 : ∀ i, F2 i → i < 250 := fun i hi => by rcases hF2 i hi with z | z; have := hS1.k.2 i z; omega; omega
            have hcn : sr_c (sr_lst xs Tc) = d2 + sr_c (sr_lst (xs ++ [x2]) R2) := by rw [hTn, sr_c_add]
            refine W.widen (by first | omega | (dsimp only; omega)) (by first | omega | (dsimp only; omega)) (ih (i9 + 1) φ2 b2 (cc + d2) (some j2) R2 F2 (xs ++ [x2]) g3 H locs ls (by omega) (by rw [List.length_append]; simp; omega) hR ⟨by omega, by omega⟩ ⟨by omega, by omega⟩ (by rw [hTc, hTn, sr_add_add]) hfr (hfr3.at hs2 (rn_g.st hz hd12 hk250)) (Or.inr ⟨j2, x2, rfl, hrs2.keep hfr3 (rn_g.P hz hd12) (Nat.le_refl _) (fun i hi => rn_g.st hz hd12 (hlt2 i hi)), fun i hi => ?_, fun z => ?_⟩) (fun i hi => ?_) hgR (hit.keep hfr3 (rn_g.P hz hd12)) (hel.keep hfr3 (rn_g.P hz hd12)) (hva.keep hfr3 (rn_g.P hz hd12)) V hl)
            · rcases hF2 i hi with z | z; have := hS1.k.2 i z; omega; omega
            · rcases hF2 k z with z | z; exact hS1.k.1 z; omega
            · rcases hF2 i hi with z | z; rcases hFc i z with z | z; exact Or.inl z; exact Or.inr ⟨by omega, by omega⟩; exact Or.inr ⟨by omega, by omega⟩
          · obtain ⟨rfl, he9⟩ := hp.2 (by omega)
            rw [he9] at V
            refine W.eq (g2 := F0 m 90 ls [.int 0]) rfl ?_
            refine lv_if_ne (tgt := 95) hx hb d_Ru_askList_90 (by decide) (fun c13 => absurd (by decide) c13) (fun c13 => ?_)
            refine lv_iconst (v := 1) hx hb d_Ru_askList_93 (by decide) ?_
            refine gh_reti hAe C V hr hlocks d_Ru_askList_94 (by first | decide | omega | (dsimp only; omega)) (by first | decide | omega | (dsimp only; omega)) ?_
            exact ⟨φ2, b2, hR, ⟨by omega, by omega⟩, hfr, Or.inr (Or.inr (Or.inl ⟨cc + d2, by rw [hTc, hT2, sr_lst_full hx16, sr_add_fail], by omega, rfl, by omega⟩)), fun z => absurd z (rv_ne (by decide))⟩
    exact W.widen (by first | omega | (dsimp only; omega)) (by first | omega | (dsimp only; omega)) (loop 17 0 φ b 0 none (sr_D cb bg n (bg (pt * 3 + 0)) X Y) (fun _ => False) [] g1 _ _ ls (by omega) rfl hR ⟨Nat.le_refl _, Nat.le_refl _⟩ ⟨Nat.zero_le _, rfl⟩ (by rw [hT, sr_B_o, sr_part_12 hkd, sr_add_0]) hfr (by rw [hfi] at hs; exact hs) (Or.inl ⟨rfl, rfl, rs_child hqw (by omega) hq6 hn19 (by rw [hkd]; decide) hX7, fun _ z => z⟩) (fun i hi => False.elim hi) hgR hit hel hva V hl)
  · have hTr : T = sr_end 0 := hrun.2.2.2.2.2.2.2.2 (by omega)
    refine lv_aload_n hx hb d_Ru_askList_0 rfl (lv_at hl 1 rfl) ?_
    refine gh_get C V hs gc_St gi_St 6 (by decide) f_Ru_94 rfl rfl d_Ru_askList_1 ?_
    refine lv_if_le (tgt := 9) hx hb d_Ru_askList_4 (by decide) (fun c14 => absurd c14 (nI_nle (by omega) (by omega))) (fun c14 => ?_)
    refine lv_iconst (v := 0) hx hb d_Ru_askList_7 (by decide) ?_
    refine gh_reti hAe C V hr hlocks d_Ru_askList_8 (by first | decide | omega | (dsimp only; omega)) (by first | decide | omega | (dsimp only; omega)) ?_
    exact ⟨φ, b, hR, ⟨by omega, by omega⟩, hfr, Or.inr (Or.inl ⟨0, hTr, by omega, rfl, by omega⟩), fun _ => ⟨_, _, _, _, _, _, _, _, va, hs, hva⟩⟩
