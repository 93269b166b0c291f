/-! askFold. Printed by wip/whole/gen_ru17.py. -/
theorem d_Ru_askFold_0 : decode b_Ru_askFold 0 = .ok (.aload_n 0, 1) := by decide +kernel
theorem d_Ru_askFold_1 : decode b_Ru_askFold 1 = .ok (.aload_n 1, 1) := by decide +kernel
theorem d_Ru_askFold_2 : decode b_Ru_askFold 2 = .ok (.invokevirtual 158, 3) := by decide +kernel
theorem d_Ru_askFold_5 : decode b_Ru_askFold 5 = .ok (.istore_n 2, 1) := by decide +kernel
theorem d_Ru_askFold_6 : decode b_Ru_askFold 6 = .ok (.iload_n 2, 1) := by decide +kernel
theorem d_Ru_askFold_7 : decode b_Ru_askFold 7 = .ok (.iconst 3, 1) := by decide +kernel
theorem d_Ru_askFold_8 : decode b_Ru_askFold 8 = .ok (.if_icmp .eq 5, 3) := by decide +kernel
theorem d_Ru_askFold_11 : decode b_Ru_askFold 11 = .ok (.iload_n 2, 1) := by decide +kernel
theorem d_Ru_askFold_12 : decode b_Ru_askFold 12 = .ok (.ireturn, 1) := by decide +kernel
theorem d_Ru_askFold_13 : decode b_Ru_askFold 13 = .ok (.aload_n 1, 1) := by decide +kernel
theorem d_Ru_askFold_14 : decode b_Ru_askFold 14 = .ok (.getfield 91, 3) := by decide +kernel
theorem d_Ru_askFold_17 : decode b_Ru_askFold 17 = .ok (.getfield 68, 3) := by decide +kernel
theorem d_Ru_askFold_20 : decode b_Ru_askFold 20 = .ok (.astore_n 3, 1) := by decide +kernel
theorem d_Ru_askFold_21 : decode b_Ru_askFold 21 = .ok (.aload_n 1, 1) := by decide +kernel
theorem d_Ru_askFold_22 : decode b_Ru_askFold 22 = .ok (.aconst_null, 1) := by decide +kernel
theorem d_Ru_askFold_23 : decode b_Ru_askFold 23 = .ok (.putfield 87, 3) := by decide +kernel
theorem d_Ru_askFold_26 : decode b_Ru_askFold 26 = .ok (.iconst 0, 1) := by decide +kernel
theorem d_Ru_askFold_27 : decode b_Ru_askFold 27 = .ok (.istore 4, 2) := by decide +kernel
theorem d_Ru_askFold_29 : decode b_Ru_askFold 29 = .ok (.iload 4, 2) := by decide +kernel
theorem d_Ru_askFold_31 : decode b_Ru_askFold 31 = .ok (.ldc 164, 2) := by decide +kernel
theorem d_Ru_askFold_33 : decode b_Ru_askFold 33 = .ok (.if_icmp .ge 88, 3) := by decide +kernel
theorem d_Ru_askFold_36 : decode b_Ru_askFold 36 = .ok (.aload_n 0, 1) := by decide +kernel
theorem d_Ru_askFold_37 : decode b_Ru_askFold 37 = .ok (.aload_n 1, 1) := by decide +kernel
theorem d_Ru_askFold_38 : decode b_Ru_askFold 38 = .ok (.invokevirtual 155, 3) := by decide +kernel
theorem d_Ru_askFold_41 : decode b_Ru_askFold 41 = .ok (.istore_n 2, 1) := by decide +kernel
theorem d_Ru_askFold_42 : decode b_Ru_askFold 42 = .ok (.iload_n 2, 1) := by decide +kernel
theorem d_Ru_askFold_43 : decode b_Ru_askFold 43 = .ok (.ifCond .ne 9, 3) := by decide +kernel
theorem d_Ru_askFold_46 : decode b_Ru_askFold 46 = .ok (.aload_n 1, 1) := by decide +kernel
theorem d_Ru_askFold_47 : decode b_Ru_askFold 47 = .ok (.aload_n 3, 1) := by decide +kernel
theorem d_Ru_askFold_48 : decode b_Ru_askFold 48 = .ok (.invokestatic 141, 3) := by decide +kernel
theorem d_Ru_askFold_51 : decode b_Ru_askFold 51 = .ok (.ireturn, 1) := by decide +kernel
theorem d_Ru_askFold_52 : decode b_Ru_askFold 52 = .ok (.iload_n 2, 1) := by decide +kernel
theorem d_Ru_askFold_53 : decode b_Ru_askFold 53 = .ok (.iconst 3, 1) := by decide +kernel
theorem d_Ru_askFold_54 : decode b_Ru_askFold 54 = .ok (.if_icmp .eq 5, 3) := by decide +kernel
theorem d_Ru_askFold_57 : decode b_Ru_askFold 57 = .ok (.iload_n 2, 1) := by decide +kernel
theorem d_Ru_askFold_58 : decode b_Ru_askFold 58 = .ok (.ireturn, 1) := by decide +kernel
theorem d_Ru_askFold_59 : decode b_Ru_askFold 59 = .ok (.aload_n 0, 1) := by decide +kernel
theorem d_Ru_askFold_60 : decode b_Ru_askFold 60 = .ok (.aload_n 0, 1) := by decide +kernel
theorem d_Ru_askFold_61 : decode b_Ru_askFold 61 = .ok (.getfield 44, 3) := by decide +kernel
theorem d_Ru_askFold_64 : decode b_Ru_askFold 64 = .ok (.aload_n 1, 1) := by decide +kernel
theorem d_Ru_askFold_65 : decode b_Ru_askFold 65 = .ok (.getfield 75, 3) := by decide +kernel
theorem d_Ru_askFold_68 : decode b_Ru_askFold 68 = .ok (.iconst 2, 1) := by decide +kernel
theorem d_Ru_askFold_69 : decode b_Ru_askFold 69 = .ok (.invokevirtual 137, 3) := by decide +kernel
theorem d_Ru_askFold_72 : decode b_Ru_askFold 72 = .ok (.aload_n 1, 1) := by decide +kernel
theorem d_Ru_askFold_73 : decode b_Ru_askFold 73 = .ok (.getfield 78, 3) := by decide +kernel
theorem d_Ru_askFold_76 : decode b_Ru_askFold 76 = .ok (.iconst 1, 1) := by decide +kernel
theorem d_Ru_askFold_77 : decode b_Ru_askFold 77 = .ok (.iadd, 1) := by decide +kernel
theorem d_Ru_askFold_78 : decode b_Ru_askFold 78 = .ok (.aload_n 3, 1) := by decide +kernel
theorem d_Ru_askFold_79 : decode b_Ru_askFold 79 = .ok (.aload_n 1, 1) := by decide +kernel
theorem d_Ru_askFold_80 : decode b_Ru_askFold 80 = .ok (.getfield 87, 3) := by decide +kernel
theorem d_Ru_askFold_83 : decode b_Ru_askFold 83 = .ok (.getfield 68, 3) := by decide +kernel
theorem d_Ru_askFold_86 : decode b_Ru_askFold 86 = .ok (.invokevirtual 60, 3) := by decide +kernel
theorem d_Ru_askFold_89 : decode b_Ru_askFold 89 = .ok (.astore 5, 2) := by decide +kernel
theorem d_Ru_askFold_91 : decode b_Ru_askFold 91 = .ok (.aload_n 0, 1) := by decide +kernel
theorem d_Ru_askFold_92 : decode b_Ru_askFold 92 = .ok (.aload 5, 2) := by decide +kernel
theorem d_Ru_askFold_94 : decode b_Ru_askFold 94 = .ok (.invokevirtual 182, 3) := by decide +kernel
theorem d_Ru_askFold_97 : decode b_Ru_askFold 97 = .ok (.istore_n 2, 1) := by decide +kernel
theorem d_Ru_askFold_98 : decode b_Ru_askFold 98 = .ok (.aload 5, 2) := by decide +kernel
theorem d_Ru_askFold_100 : decode b_Ru_askFold 100 = .ok (.ifnull 7, 3) := by decide +kernel
theorem d_Ru_askFold_103 : decode b_Ru_askFold 103 = .ok (.iload_n 2, 1) := by decide +kernel
theorem d_Ru_askFold_104 : decode b_Ru_askFold 104 = .ok (.ifCond .eq 5, 3) := by decide +kernel
theorem d_Ru_askFold_107 : decode b_Ru_askFold 107 = .ok (.iload_n 2, 1) := by decide +kernel
theorem d_Ru_askFold_108 : decode b_Ru_askFold 108 = .ok (.ireturn, 1) := by decide +kernel
theorem d_Ru_askFold_109 : decode b_Ru_askFold 109 = .ok (.aload 5, 2) := by decide +kernel
theorem d_Ru_askFold_111 : decode b_Ru_askFold 111 = .ok (.getfield 68, 3) := by decide +kernel
theorem d_Ru_askFold_114 : decode b_Ru_askFold 114 = .ok (.astore_n 3, 1) := by decide +kernel
theorem d_Ru_askFold_115 : decode b_Ru_askFold 115 = .ok (.iinc 4 1, 3) := by decide +kernel
theorem d_Ru_askFold_118 : decode b_Ru_askFold 118 = .ok (.goto (-89), 3) := by decide +kernel
theorem d_Ru_askFold_121 : decode b_Ru_askFold 121 = .ok (.iconst 2, 1) := by decide +kernel
theorem d_Ru_askFold_122 : decode b_Ru_askFold 122 = .ok (.ireturn, 1) := by decide +kernel
set_option maxHeartbeats 4000000 in
set_option maxRecDepth 100000 in
theorem c_Ru_askFold (l : Launch) (E : gh_E) (sz : Nat) (f : gh_F) (ρ Z : Nat → Nat) (q0 N : Nat) (cb bg : Nat → Nat) (φ b : Nat) (s0 e0 : Int32) (n u k : Nat) (v : vt) (T : sr) (F : Nat → Prop) (pt w9 it el gv pl va : Nat) (X Y : vt) (fi se : Option Nat) (hR : rn_R E ρ Z f q0 N cb bg φ b s0 e0) (hφb : φ + b ≤ 250) (hFb : ∀ j, F j → j < b) (hx9 : rs_x E ρ Z cb bg N f φ n u k v T F pt w9 it el gv pl va X Y fi se) (IH : rk_A l E ρ Z q0 N cb bg n) (hkd : cb pt = 14) : gh_M l y_Ru_askFold b_Ru_askFold 6 (some .int) E sz [.ref (Z 1), .ref (Z (1000 + k))] f { frames := 25 + 6 * n, cells := 3 * (min (sr_c T) φ + u), slots := 39 * (min (sr_c T) φ + u), locals := 870 + 200 * n } (rk_Q E ρ Z q0 N cb bg (n + 1) f φ b s0 e0 k v T F) := by
  obtain ⟨hs, ⟨hk250, hn19, hFk⟩, ⟨hqw, hq4, hq6⟩, ⟨hit, hel, hva⟩, ⟨q9, hq16, hzr, hgv⟩, hst⟩ := hx9
  have hkb := hFb k hFk
  have hptN := (qw_lt hqw).1
  have hX7 := (hit.le).2
  refine gh_open (by decide) (Nat.le_of_ble_eq_true rfl) ?_
  intro p e s m args below meth c A ls hAe C V hr hlocks hname hl
  have hx := C.1
  have hb := C.2.1
  have hl : lv_has ls 6 [(0, .ref (Z 1)), (1, .ref (Z (1000 + k)))] := hl
  have hRc := hR
  obtain ⟨h1R, ⟨hz, ⟨p206, p207⟩, ⟨gS, hgS, hgS2⟩, ⟨gG, hgG, hgG2⟩, hVR, hqR, hcdR, hbaR, hN60, hq0⟩, ⟨hgaV, hgaR⟩, hSR, hnon⟩ := hRc
  obtain ⟨pvsR, hvsR, hnuR, hnoR, hyeR, -⟩ := id hVR
  have hfr : gh_fr f f (rn_M ρ (20 - (n + 1)) b F) := gh_fr.rf
  have hpt60 : pt < 60 := by omega
  obtain ⟨T1, F1, hS1, hF1, hT⟩ : ∃ T1 F1, rk_S E ρ Z cb bg N f φ b n k se (bg (pt * 3 + 1)) X Y T1 F1 ∧ (∀ i, F1 i → F i) ∧ T = sr_fol (sr_D cb bg n (bg (pt * 3 + 0)) X Y) (fun v x => sr_D cb bg n (bg (pt * 3 + 2)) v x) T1 := by
    rcases hst with ⟨hu, hg0, hp0, hf0, hs0, hv0, hT⟩ | ⟨hu, hg1, hrun⟩
    · exact ⟨_, fun _ => False, Or.inl ⟨hs0, rfl, rs_child hqw (by omega) hq6 hn19 (by rw [hkd]; decide) hX7, fun _ z => z⟩, fun _ z => z.elim, by rw [hT, sr_B_o, sr_part_14 hkd]⟩
    · obtain ⟨j, v1, T1, F1, h1, h2, h3, h4, h5⟩ := hrun.2.2.2.2.2.2.1 hkd
      exact ⟨T1, F1, Or.inr ⟨j, v1, h1, h2, fun i hi => hFb i (h3 i hi), h4⟩, h3, h5⟩
  have hk1 := hS1.k.1
  have hcT0 : sr_c T1 ≤ sr_c T := by rw [hT]; exact sr_fol_c
  have hn8 := hq6 (by omega)
  have hw2 := qw_two hqw (by rw [hkd]; decide)
  refine lv_aload_n hx hb d_Ru_askFold_0 rfl (lv_at hl 0 rfl) ?_
  refine lv_aload_n hx hb d_Ru_askFold_1 rfl (lv_at hl 1 rfl) ?_
  refine gh_callV C V hl.1 m_Ru_askSecond l_Ru_158 (c_Ru_askSecond l E _ f ρ Z q0 N cb bg φ b s0 e0 n k pt it el se (ro Z fi) (.int (nI gv)) (.int (nI pl)) (.ref va) X Y T1 F1 hR (by omega) hn19 (by omega) hpt60 hs hit hel hS1 IH) rfl h1R gc_Ru ⟨by first | decide | omega | (dsimp only; omega), by first | decide | omega | (dsimp only; omega)⟩ ⟨by first | decide | omega | (dsimp only; omega), by first | decide | omega | (dsimp only; omega)⟩ (Nat.le_of_ble_eq_true rfl) rfl d_Ru_askFold_2 (fun r gz1 H locs hp V => ?_)
  obtain ⟨φz1, bz1, foz1, hR, ⟨hbz1, hcz1⟩, hfrz1, hsz1, hPz1⟩ := hp
  have hfr : gh_fr f gz1 (rn_M ρ (20 - (n + 1)) b F) := hfr.tr hfrz1 (fun a _ _ z => rn_M.le (by omega) (fun i hi => Or.inl (by rcases hi with hi | hi; exact hF1 i hi; rw [hi]; exact hFk)) (by omega) a z)
  have hit := hit.keep hfrz1 rn_M.P
  have hel := hel.keep hfrz1 rn_M.P
  have hva := hva.keep hfrz1 rn_M.P
  have hRc := hR
  obtain ⟨h1R, ⟨hz, ⟨p206, p207⟩, ⟨gS, hgS, hgS2⟩, ⟨gG, hgG, hgG2⟩, hVR, hqR, hcdR, hbaR, hN60, hq0⟩, ⟨hgaV, hgaR⟩, hSR, hnon⟩ := hRc
  obtain ⟨pvsR, hvsR, hnuR, hnoR, hyeR, -⟩ := id hVR
  rcases hPz1 with ⟨h1z1, rfl, h3z1⟩ | ⟨dz1, hTz1, hdz1, rfl, h3z1⟩ | ⟨dz1, hTz1, hdz1, rfl, h3z1⟩ | ⟨dz1, xz1, Rz1, hTz1, hdz1, rfl, h3z1, jz1, Fz1, hoz1, hrsz1, hFz1⟩
  · refine W.eq (g2 := F0 m 5 ls [.int 2]) rfl ?_
    refine lv_istore_n hx hb d_Ru_askFold_5 rfl hl (by decide) rfl (fun ls hl => ?_)
    have hl : lv_has ls 6 [(2, .int 2), (0, .ref (Z 1)), (1, .ref (Z (1000 + k)))] := hl
    refine lv_iload_n hx hb d_Ru_askFold_6 rfl (lv_at hl 0 rfl) ?_
    refine lv_iconst (v := 3) hx hb d_Ru_askFold_7 (by decide) ?_
    refine lv_icmp_eq (tgt := 13) hx hb d_Ru_askFold_8 (by decide) (fun c2 => absurd c2 (by decide)) (fun c2 => ?_)
    refine lv_iload_n hx hb d_Ru_askFold_11 rfl (lv_at hl 0 rfl) ?_
    refine gh_reti hAe C V hr hlocks d_Ru_askFold_12 (by first | decide | omega | (dsimp only; omega)) (by first | decide | omega | (dsimp only; omega)) ?_
    exact ⟨φz1, bz1, hR, ⟨by omega, by omega⟩, hfr, Or.inl ⟨by omega, rfl, by assumption⟩, fun z => absurd z (rv_ne (by decide))⟩
  · refine W.eq (g2 := F0 m 5 ls [.int 0]) rfl ?_
    refine lv_istore_n hx hb d_Ru_askFold_5 rfl hl (by decide) rfl (fun ls hl => ?_)
    have hl : lv_has ls 6 [(2, .int 0), (0, .ref (Z 1)), (1, .ref (Z (1000 + k)))] := hl
    refine lv_iload_n hx hb d_Ru_askFold_6 rfl (lv_at hl 0 rfl) ?_
    refine lv_iconst (v := 3) hx hb d_Ru_askFold_7 (by decide) ?_
    refine lv_icmp_eq (tgt := 13) hx hb d_Ru_askFold_8 (by decide) (fun c3 => absurd c3 (by decide)) (fun c3 => ?_)
    refine lv_iload_n hx hb d_Ru_askFold_11 rfl (lv_at hl 0 rfl) ?_
    refine gh_reti hAe C V hr hlocks d_Ru_askFold_12 (by first | decide | omega | (dsimp only; omega)) (by first | decide | omega | (dsimp only; omega)) ?_
    exact ⟨φz1, bz1, hR, ⟨by omega, by omega⟩, hfr, Or.inr (Or.inl ⟨dz1, by rw [hT, hTz1]; rfl, by omega, rfl, by omega⟩), fun _ => ⟨_, _, _, _, _, _, _, _, va, hsz1, hva⟩⟩
  · refine W.eq (g2 := F0 m 5 ls [.int 1]) rfl ?_
    refine lv_istore_n hx hb d_Ru_askFold_5 rfl hl (by decide) rfl (fun ls hl => ?_)
    have hl : lv_has ls 6 [(2, .int 1), (0, .ref (Z 1)), (1, .ref (Z (1000 + k)))] := hl
    refine lv_iload_n hx hb d_Ru_askFold_6 rfl (lv_at hl 0 rfl) ?_
    refine lv_iconst (v := 3) hx hb d_Ru_askFold_7 (by decide) ?_
    refine lv_icmp_eq (tgt := 13) hx hb d_Ru_askFold_8 (by decide) (fun c4 => absurd c4 (by decide)) (fun c4 => ?_)
    refine lv_iload_n hx hb d_Ru_askFold_11 rfl (lv_at hl 0 rfl) ?_
    refine gh_reti hAe C V hr hlocks d_Ru_askFold_12 (by first | decide | omega | (dsimp only; omega)) (by first | decide | omega | (dsimp only; omega)) ?_
    exact ⟨φz1, bz1, hR, ⟨by omega, by omega⟩, hfr, Or.inr (Or.inr (Or.inl ⟨dz1, by rw [hT, hTz1]; rfl, by omega, rfl, by omega⟩)), fun z => absurd z (rv_ne (by decide))⟩
  · subst hoz1
    obtain ⟨yz1_0, yz1_1, yz1_2, yz1_3, yz1_4, yz1_5, yz1_6, yz1_7, az1, hjz1, hxz1, hlz1, hFjz1⟩ := hrsz1.val
    have hltz1 : ∀ i, Fz1 i → i < bz1 := fun i hi => by rcases hFz1 i hi with z | z; have := hFb i (hF1 i z); omega; omega
    have hnkz1 : ¬ Fz1 k := fun z => by rcases hFz1 k z with z | z; exact hk1 z; omega
    have hcT1 : sr_c T1 = dz1 := by rw [hTz1]; rfl
    have hcT : sr_c T = dz1 + (sr_fin (fun v x => sr_D cb bg n (bg (pt * 3 + 2)) v x) xz1 (sr_D cb bg n (bg (pt * 3 + 0)) X Y)).1 := by rw [hT, hTz1, sr_fol_cc]
    have hfr0 := hfr
    refine W.eq (g2 := F0 m 5 ls [.int 3]) rfl ?_
    refine lv_istore_n hx hb d_Ru_askFold_5 rfl hl (by decide) rfl (fun ls hl => ?_)
    have hl : lv_has ls 6 [(2, .int 3), (0, .ref (Z 1)), (1, .ref (Z (1000 + k)))] := hl
    refine lv_iload_n hx hb d_Ru_askFold_6 rfl (lv_at hl 0 rfl) ?_
    refine lv_iconst (v := 3) hx hb d_Ru_askFold_7 (by decide) ?_
    refine lv_icmp_eq (tgt := 13) hx hb d_Ru_askFold_8 (by decide) (fun c5 => ?_) (fun c5 => absurd (by decide) c5)
    refine lv_aload_n hx hb d_Ru_askFold_13 rfl (lv_at hl 2 rfl) ?_
    refine gh_get C V hsz1 gc_St gi_St 5 (by decide) f_Ru_91 rfl rfl d_Ru_askFold_14 ?_
    refine gh_get C V hjz1 gc_St gi_St 8 (by decide) f_Ru_68 rfl rfl d_Ru_askFold_17 ?_
    refine lv_astore_n hx hb d_Ru_askFold_20 rfl hl (by decide) rfl (fun ls hl => ?_)
    have hl : lv_has ls 6 [(3, .ref az1), (2, .int 3), (0, .ref (Z 1)), (1, .ref (Z (1000 + k)))] := hl
    refine lv_aload_n hx hb d_Ru_askFold_21 rfl (lv_at hl 3 rfl) ?_
    refine lv_null hx hb d_Ru_askFold_22 ?_
    refine gh_put C V hsz1 gc_St gi_St ty_St nm_St 4 (by decide) f_Ru_87 rfl (by first | rfl | decide) (by first | rfl | decide) (Nat.le_of_ble_eq_true rfl) d_Ru_askFold_23 (fun H locs V => ?_)
    obtain ⟨f6, hff6⟩ : ∃ z9 : gh_F, z9 = gh_u gz1 (Z (1000 + k)) (.inr (5, [.int (nI pt), .int (nI (19 - n)), .ref it, .ref el, .null, .ref (Z (1000 + jz1)), .int (nI gv), .int (nI pl), .ref va])) := ⟨_, rfl⟩
    have V : gh_V E A f6 s H locs := by rw [hff6]; exact V
    have hR : rn_R E ρ Z f6 q0 N cb bg φz1 bz1 s0 e0 := by rw [hff6]; exact hR.step (k := k) hk250
    have hfr : gh_fr f f6 (rn_M ρ (20 - (n + 1)) b F) := by rw [hff6]; exact hfr.put (Or.inl (Or.inr (Or.inr (Or.inr (Or.inr ⟨k, hFk, hz _ (by unfold rU; omega)⟩)))))
    have h_Z__1000___k__f6 : f6 (Z (1000 + k)) = some (.inr (5, [.int (nI pt), .int (nI (19 - n)), .ref it, .ref el, .null, .ref (Z (1000 + jz1)), .int (nI gv), .int (nI pl), .ref va])) := by rw [hff6, gh_us]
    have hRc := hR
    obtain ⟨h1R, ⟨hz, ⟨p206, p207⟩, ⟨gS, hgS, hgS2⟩, ⟨gG, hgG, hgG2⟩, hVR, hqR, hcdR, hbaR, hN60, hq0⟩, ⟨hgaV, hgaR⟩, hSR, hnon⟩ := hRc
    obtain ⟨pvsR, hvsR, hnuR, hnoR, hyeR, -⟩ := id hVR
    refine lv_iconst (v := 0) hx hb d_Ru_askFold_26 (by decide) ?_
    refine lv_istore hx hb d_Ru_askFold_27 hl (by decide) rfl (fun ls hl => ?_)
    have hl : lv_has ls 6 [(4, .int 0), (3, .ref az1), (2, .int 3), (0, .ref (Z 1)), (1, .ref (Z (1000 + k)))] := hl
    have hek : ρ (Z (1000 + k)) = 1000 + k := hz _ (by unfold rU; omega)
    have hfk : gh_fr gz1 f6 (fun a => ρ a = 1000 + k) := by rw [hff6]; exact gh_fr.put (M := fun a => ρ a = 1000 + k) gh_fr.rf (Or.inl hek)
    have hMk : ∀ a, ρ a = 1000 + k → ¬ rP ρ a := fun a z z2 => by have z2 : ρ a = 0 := z2; omega
    have hfl : gh_fr gz1 f6 (rn_M ρ (20 - n) bz1 (fun i => i = k)) := hfk.wide (fun a z => Or.inr (Or.inr (Or.inr (Or.inr ⟨k, rfl, z⟩))))
    have hit0 := hit.keep hfk hMk
    have hel0 := hel.keep hfk hMk
    have hra0 := hxz1.keep hfk hMk
    have hl : lv_has ls 6 [(4, .int 0), (0, .ref (Z 1)), (1, .ref (Z (1000 + k))), (3, .ref az1)] := lv_sub hl [0, 3, 4, 1] rfl
    have hl : lv_has ls 6 [(4, .int (nI 0)), (0, .ref (Z 1)), (1, .ref (Z (1000 + k))), (3, .ref az1)] := hl
    have loop : ∀ (n9 i9 : Nat) (φc : Nat) (bc : Nat) (cc : Nat) (ra : Nat) (vr : vt) (fo : Option Nat) (Tp : sr) (Fp : Nat → Prop) (f1 : gh_F) (H : Heap) (locs : List Loc) (ls : Array Slot), (φc < n9) → (i9 + n9 ≤ 300) → (rn_R E ρ Z f1 q0 N cb bg φc bc s0 e0) → (bz1 ≤ bc ∧ bc + φc ≤ bz1 + φz1) → (cc ≤ φz1 ∧ φc = φz1 - cc) → (sr_fin (fun v x => sr_D cb bg n (bg (pt * 3 + 2)) v x) xz1 (sr_D cb bg n (bg (pt * 3 + 0)) X Y) = (cc + (sr_fin (fun v x => sr_D cb bg n (bg (pt * 3 + 2)) v x) vr Tp).1, (sr_fin (fun v x => sr_D cb bg n (bg (pt * 3 + 2)) v x) vr Tp).2)) → (gh_fr gz1 f1 (rn_M ρ (20 - n) bz1 (fun i => i = k))) → (f1 (Z (1000 + k)) = some (.inr (5, [.int (nI pt), .int (nI (19 - n)), .ref it, .ref el, ro Z fo, .ref (Z (1000 + jz1)), .int (nI gv), .int (nI pl), .ref va]))) → (rk_S E ρ Z cb bg N f1 φc bc n k fo (bg (pt * 3 + 0)) X Y Tp Fp) → (∀ i, Fp i → bz1 ≤ i ∧ i < bc) → (cw E (rP ρ) f1 it X) → (cw E (rP ρ) f1 el Y) → (cw E (rP ρ) f1 ra vr) → gh_V E A f1 s H locs → lv_has ls 6 [(4, .int (nI i9)), (0, .ref (Z 1)), (1, .ref (Z (1000 + k))), (3, .ref ra)] → W p l e { frames := 25 + 6 * n, cells := 3 * (min (sr_c T) φ + u), slots := 39 * (min (sr_c T) φ + u), locals := 870 + 200 * n } s m args below meth c H locs (3 * (dz1 + cc)) (39 * (dz1 + cc)) (MQ below (gh_Q E f (rk_Q E ρ Z q0 N cb bg (n + 1) f φ b s0 e0 k v T F)) args s (3 * (min (sr_c T) φ + u)) (39 * (min (sr_c T) φ + u)) A) (F0 m 29 ls []) := by
      intro n9
      induction n9 with
      | zero =>
        intro i9 φc bc cc ra vr fo Tp Fp f1 H locs ls hm hin hR hbb hcc hTc hfl hs1 hSp hFp hit hel hra V hl
        exact absurd hm (by omega)
      | succ n9 ih =>
        intro i9 φc bc cc ra vr fo Tp Fp f1 H locs ls hm hin hR hbb hcc hTc hfl hs1 hSp hFp hit hel hra V hl
        obtain ⟨hbb1, hbb2⟩ := hbb
        obtain ⟨hcc1, hcc2⟩ := hcc
        have hRc := hR
        obtain ⟨h1R, ⟨hz, ⟨p206, p207⟩, ⟨gS, hgS, hgS2⟩, ⟨gG, hgG, hgG2⟩, hVR, hqR, hcdR, hbaR, hN60, hq0⟩, ⟨hgaV, hgaR⟩, hSR, hnon⟩ := hRc
        obtain ⟨pvsR, hvsR, hnuR, hnoR, hyeR, -⟩ := id hVR
        have hcL : sr_c T = dz1 + cc + (sr_fin (fun v x => sr_D cb bg n (bg (pt * 3 + 2)) v x) vr Tp).1 := by rw [hcT, hTc, Nat.add_assoc]
        have hcS := sr_fin_pos (g := (fun v x => sr_D cb bg n (bg (pt * 3 + 2)) v x)) (v := vr) (P := Tp)
        refine lv_iload hx hb d_Ru_askFold_29 (lv_at hl 0 rfl) ?_
        refine lv_ldc (v := nI 100000) hx hb C.2.2.2.1 (C.2.2.2.2.1 _ kc_Ru_164) d_Ru_askFold_31 ?_
        refine lv_icmp_ge (tgt := 121) hx hb d_Ru_askFold_33 (by decide) (fun c7 => absurd c7 (nI_ge (by omega) (by omega))) (fun c7 => ?_)
        refine lv_aload_n hx hb d_Ru_askFold_36 rfl (lv_at hl 1 rfl) ?_
        refine lv_aload_n hx hb d_Ru_askFold_37 rfl (lv_at hl 2 rfl) ?_
        refine gh_callV C V hl.1 m_Ru_askFirst l_Ru_155 (c_Ru_askFirst l E _ f1 ρ Z q0 N cb bg φc bc s0 e0 n k pt it el fo (.ref (Z (1000 + jz1))) (.int (nI gv)) (.int (nI pl)) (.ref va) X Y Tp Fp hR (by omega) hn19 (by omega) hpt60 hs1 hit hel hSp IH) rfl h1R gc_Ru ⟨by first | decide | omega | (dsimp only; omega), by first | decide | omega | (dsimp only; omega)⟩ ⟨by first | decide | omega | (dsimp only; omega), by first | decide | omega | (dsimp only; omega)⟩ (Nat.le_of_ble_eq_true rfl) rfl d_Ru_askFold_38 (fun r g3 H locs hp V => ?_)
        obtain ⟨φ3, b3, fo3, hR, ⟨hb3, hc3⟩, hfr3, hs3, hP3⟩ := hp
        have hfl : gh_fr gz1 g3 (rn_M ρ (20 - n) bz1 (fun i => i = k)) := hfl.tr hfr3 (fun a _ _ z => rn_M.le (Nat.le_refl _) (fun i hi => by rcases hi with hi | hi; have := hFp i hi; exact Or.inr ⟨this.1, by omega⟩; exact Or.inl hi) hbb1 a z)
        have hit := hit.keep hfr3 rn_M.P
        have hel := hel.keep hfr3 rn_M.P
        have hra := hra.keep hfr3 rn_M.P
        have hRc := hR
        obtain ⟨h1R, ⟨hz, ⟨p206, p207⟩, ⟨gS, hgS, hgS2⟩, ⟨gG, hgG, hgG2⟩, hVR, hqR, hcdR, hbaR, hN60, hq0⟩, ⟨hgaV, hgaR⟩, hSR, hnon⟩ := hRc
        obtain ⟨pvsR, hvsR, hnuR, hnoR, hyeR, -⟩ := id hVR
        rcases hP3 with ⟨h13, rfl, h33⟩ | ⟨d3, hT3, hd3, rfl, h33⟩ | ⟨d3, hT3, hd3, rfl, h33⟩ | ⟨d3, x3, R3, hT3, hd3, rfl, h33, j3, F3, ho3, hrs3, hF3⟩
        · have hq3 := hs3
          refine W.eq (g2 := F0 m 41 ls [.int 2]) rfl ?_
          refine lv_istore_n hx hb d_Ru_askFold_41 rfl hl (by decide) rfl (fun ls hl => ?_)
          have hl : lv_has ls 6 [(2, .int 2), (4, .int (nI i9)), (0, .ref (Z 1)), (1, .ref (Z (1000 + k))), (3, .ref ra)] := hl
          refine lv_iload_n hx hb d_Ru_askFold_42 rfl (lv_at hl 0 rfl) ?_
          refine lv_if_ne (tgt := 52) hx hb d_Ru_askFold_43 (by decide) (fun c8 => ?_) (fun c8 => absurd c8 (by decide))
          refine lv_iload_n hx hb d_Ru_askFold_52 rfl (lv_at hl 0 rfl) ?_
          refine lv_iconst (v := 3) hx hb d_Ru_askFold_53 (by decide) ?_
          refine lv_icmp_eq (tgt := 59) hx hb d_Ru_askFold_54 (by decide) (fun c9 => absurd c9 (by decide)) (fun c9 => ?_)
          refine lv_iload_n hx hb d_Ru_askFold_57 rfl (lv_at hl 0 rfl) ?_
          refine gh_reti hAe C V hr hlocks d_Ru_askFold_58 (by first | decide | omega | (dsimp only; omega)) (by first | decide | omega | (dsimp only; omega)) ?_
          have hfr : gh_fr f g3 (rn_M ρ (20 - (n + 1)) b F) := hfr0.tr hfl (fun a _ _ z => rn_M.le (by omega) (fun i hi => by rw [hi]; exact Or.inl hFk) (by omega) a z)
          exact ⟨φ3, b3, hR, ⟨by omega, by omega⟩, hfr, Or.inl ⟨by omega, rfl, by assumption⟩, fun z => absurd z (rv_ne (by decide))⟩
        · have hcd : sr_c Tp = d3 := by rw [hT3]; rfl
          have hfe : sr_fin (fun v x => sr_D cb bg n (bg (pt * 3 + 2)) v x) vr Tp = (d3, some vr) := by rw [hT3]; rfl
          have hcf : (sr_fin (fun v x => sr_D cb bg n (bg (pt * 3 + 2)) v x) vr Tp).1 = d3 := by rw [hfe]
          refine W.eq (g2 := F0 m 41 ls [.int 0]) rfl ?_
          refine lv_istore_n hx hb d_Ru_askFold_41 rfl hl (by decide) rfl (fun ls hl => ?_)
          have hl : lv_has ls 6 [(2, .int 0), (4, .int (nI i9)), (0, .ref (Z 1)), (1, .ref (Z (1000 + k))), (3, .ref ra)] := hl
          refine lv_iload_n hx hb d_Ru_askFold_42 rfl (lv_at hl 0 rfl) ?_
          refine lv_if_ne (tgt := 52) hx hb d_Ru_askFold_43 (by decide) (fun c10 => absurd (by decide) c10) (fun c10 => ?_)
          refine lv_aload_n hx hb d_Ru_askFold_46 rfl (lv_at hl 3 rfl) ?_
          refine lv_aload_n hx hb d_Ru_askFold_47 rfl (lv_at hl 4 rfl) ?_
          have hfr : gh_fr f g3 (rn_M ρ (20 - (n + 1)) b F) := hfr0.tr hfl (fun a _ _ z => rn_M.le (by omega) (fun i hi => by rw [hi]; exact Or.inl hFk) (by omega) a z)
          refine gh_callS C V hl.1 m_Ru_gives l_Ru_141 (c_Ru_gives l E _ g3 ρ Z q0 N cb bg φ3 b3 s0 e0 k ra gv _ _ _ _ _ _ _ _ hR hk250 hs3) rfl ⟨by first | decide | omega | (dsimp only; omega), by first | decide | omega | (dsimp only; omega)⟩ ⟨by first | decide | omega | (dsimp only; omega), by first | decide | omega | (dsimp only; omega)⟩ (Nat.le_of_ble_eq_true rfl) rfl d_Ru_askFold_48 (fun r g11 H locs hp V => ?_)
          obtain ⟨rfl, hR, hs, hfrg⟩ := hp
          refine W.eq (g2 := F0 m 51 ls [.int 3]) rfl ?_
          have hMg : ∀ a, ρ a = 1000 + k → ¬ rP ρ a := fun a z z2 => by have z2 : ρ a = 0 := z2; omega
          have hfr : gh_fr f g11 (rn_M ρ (20 - (n + 1)) b F) := hfr.tr hfrg (fun a _ _ z => Or.inr (Or.inr (Or.inr (Or.inr ⟨k, hFk, z⟩))))
          have hit := hit.keep hfrg hMg
          have hel := hel.keep hfrg hMg
          refine gh_reti hAe C V hr hlocks d_Ru_askFold_51 (by first | decide | omega | (dsimp only; omega)) (by first | decide | omega | (dsimp only; omega)) ?_
          have hfin : sr_fin (fun v x => sr_D cb bg n (bg (pt * 3 + 2)) v x) xz1 (sr_D cb bg n (bg (pt * 3 + 0)) X Y) = (cc + d3, some vr) := by rw [hTc, hfe]
          have hfL : gh_fr gz1 g11 (rn_M ρ (20 - n) bz1 (fun i => i = k)) := hfl.tr hfrg (fun a _ _ z => Or.inr (Or.inr (Or.inr (Or.inr ⟨k, rfl, z⟩))))
          have hTe : T = sr_cons (dz1 + (cc + d3)) vr (sr_fol (sr_D cb bg n (bg (pt * 3 + 0)) X Y) (fun v x => sr_D cb bg n (bg (pt * 3 + 2)) v x) Rz1) := by rw [hT, hTz1, sr_fol_some hfin]
          have hzr1 := hzr
          rw [hTe] at hzr1
          exact ⟨φ3, b3, hR, ⟨by omega, by omega⟩, hfr, Or.inr (Or.inr (Or.inr ⟨dz1 + (cc + d3), vr, sr_fol (sr_D cb bg n (bg (pt * 3 + 0)) X Y) (fun v x => sr_D cb bg n (bg (pt * 3 + 2)) v x) Rz1, hTe, by omega, rfl, by omega, fun i => F i ∨ (b ≤ i ∧ i < b3), rs_mk hs ⟨hk250, hn19, Or.inl hFk⟩ ⟨hqw, hq4, hq6⟩ hit hel (hra.keep hfrg hMg) hq16 hzr1 hgv (by omega) (by omega) (rs_run_14 hkd ⟨jz1, xz1, Rz1, Fz1, rfl, (hrsz1.keep (φ1 := φ3) hfL rn_M.P (by omega) (fun i hi => rn_M.st hz (by have := hltz1 i hi; omega) (hltz1 i hi) (fun z => hnkz1 (z ▸ hi)))), fun i hi => by rcases hFz1 i hi with z | z; exact Or.inl (hF1 i z); exact Or.inr (by omega), hnkz1, rfl⟩), fun _ z => z⟩)), fun z => absurd z (rv_ne (by decide))⟩
        · have hcd : sr_c Tp = d3 := by rw [hT3]; rfl
          have hfe : sr_fin (fun v x => sr_D cb bg n (bg (pt * 3 + 2)) v x) vr Tp = (d3, none) := by rw [hT3]; rfl
          have hcf : (sr_fin (fun v x => sr_D cb bg n (bg (pt * 3 + 2)) v x) vr Tp).1 = d3 := by rw [hfe]
          refine W.eq (g2 := F0 m 41 ls [.int 1]) rfl ?_
          refine lv_istore_n hx hb d_Ru_askFold_41 rfl hl (by decide) rfl (fun ls hl => ?_)
          have hl : lv_has ls 6 [(2, .int 1), (4, .int (nI i9)), (0, .ref (Z 1)), (1, .ref (Z (1000 + k))), (3, .ref ra)] := hl
          refine lv_iload_n hx hb d_Ru_askFold_42 rfl (lv_at hl 0 rfl) ?_
          refine lv_if_ne (tgt := 52) hx hb d_Ru_askFold_43 (by decide) (fun c12 => ?_) (fun c12 => absurd c12 (by decide))
          refine lv_iload_n hx hb d_Ru_askFold_52 rfl (lv_at hl 0 rfl) ?_
          refine lv_iconst (v := 3) hx hb d_Ru_askFold_53 (by decide) ?_
          refine lv_icmp_eq (tgt := 59) hx hb d_Ru_askFold_54 (by decide) (fun c13 => absurd c13 (by decide)) (fun c13 => ?_)
          refine lv_iload_n hx hb d_Ru_askFold_57 rfl (lv_at hl 0 rfl) ?_
          refine gh_reti hAe C V hr hlocks d_Ru_askFold_58 (by first | decide | omega | (dsimp only; omega)) (by first | decide | omega | (dsimp only; omega)) ?_
          have hfr : gh_fr f g3 (rn_M ρ (20 - (n + 1)) b F) := hfr0.tr hfl (fun a _ _ z => rn_M.le (by omega) (fun i hi => by rw [hi]; exact Or.inl hFk) (by omega) a z)
          have hfin : sr_fin (fun v x => sr_D cb bg n (bg (pt * 3 + 2)) v x) xz1 (sr_D cb bg n (bg (pt * 3 + 0)) X Y) = (cc + d3, none) := by rw [hTc, hfe]
          exact ⟨φ3, b3, hR, ⟨by omega, by omega⟩, hfr, Or.inr (Or.inr (Or.inl ⟨_, by rw [hT, hTz1, sr_fol_none hfin], by omega, rfl, by omega⟩)), fun z => absurd z (rv_ne (by decide))⟩
        · have hcd : sr_c Tp = d3 := by rw [hT3]; rfl
          subst ho3
          obtain ⟨u0, u1, u2, u3, u4, u5, u6, u7, a3, hj3, hx3, hl3, hFj3⟩ := hrs3.val
          have hlt3 : ∀ i, F3 i → bz1 ≤ i ∧ i < b3 := fun i hi => by rcases hF3 i hi with z | z; have := hFp i z; omega; omega
          have hnk3 : ¬ F3 k := fun z => by have := hlt3 k z; omega
          refine W.eq (g2 := F0 m 41 ls [.int 3]) rfl ?_
          refine lv_istore_n hx hb d_Ru_askFold_41 rfl hl (by decide) rfl (fun ls hl => ?_)
          have hl : lv_has ls 6 [(2, .int 3), (4, .int (nI i9)), (0, .ref (Z 1)), (1, .ref (Z (1000 + k))), (3, .ref ra)] := hl
          refine lv_iload_n hx hb d_Ru_askFold_42 rfl (lv_at hl 0 rfl) ?_
          refine lv_if_ne (tgt := 52) hx hb d_Ru_askFold_43 (by decide) (fun c14 => ?_) (fun c14 => absurd c14 (by decide))
          refine lv_iload_n hx hb d_Ru_askFold_52 rfl (lv_at hl 0 rfl) ?_
          refine lv_iconst (v := 3) hx hb d_Ru_askFold_53 (by decide) ?_
          refine lv_icmp_eq (tgt := 59) hx hb d_Ru_askFold_54 (by decide) (fun c15 => ?_) (fun c15 => absurd (by decide) c15)
          refine lv_aload_n hx hb d_Ru_askFold_59 rfl (lv_at hl 2 rfl) ?_
          refine lv_aload_n hx hb d_Ru_askFold_60 rfl (lv_at hl 2 rfl) ?_
          refine gh_get C V h1R gc_Ru gi_Ru 4 (by decide) f_Ru_44 rfl rfl d_Ru_askFold_61 ?_
          refine lv_aload_n hx hb d_Ru_askFold_64 rfl (lv_at hl 3 rfl) ?_
          refine gh_get C V hs3 gc_St gi_St 0 (by decide) f_Ru_75 rfl rfl d_Ru_askFold_65 ?_
          refine lv_iconst (v := 2) hx hb d_Ru_askFold_68 (by decide) ?_
          refine gh_callV C V hl.1 m_Qu_placeIn l_Ru_137 (c_Qu_placeIn l E _ g3 (Z q0) (Z (q0 + 1)) (Z (q0 + 2)) N cb bg pt 2 hN60 hqR hcdR hbaR hpt60 (by decide)) rfl hqR gc_Qu ⟨by first | decide | omega | (dsimp only; omega), by first | decide | omega | (dsimp only; omega)⟩ ⟨by first | decide | omega | (dsimp only; omega), by first | decide | omega | (dsimp only; omega)⟩ (Nat.le_of_ble_eq_true rfl) rfl d_Ru_askFold_69 (fun r z9 H locs hp V => ?_)
          obtain ⟨rfl, he9⟩ := hp
          rw [he9] at V
          refine W.eq (g2 := F0 m 72 ls [.int (nI (bg (pt * 3 + 2))), .ref (Z 1)]) rfl ?_
          refine lv_aload_n hx hb d_Ru_askFold_72 rfl (lv_at hl 3 rfl) ?_
          refine gh_get C V hs3 gc_St gi_St 1 (by decide) f_Ru_78 rfl rfl d_Ru_askFold_73 ?_
          refine lv_iconst (v := 1) hx hb d_Ru_askFold_76 (by decide) ?_
          refine gn_iadd (a := 19 - n) (b := 1) hx hb d_Ru_askFold_77 ?_
          rw [show 19 - n + 1 = 20 - n by omega]
          refine lv_aload_n hx hb d_Ru_askFold_78 rfl (lv_at hl 4 rfl) ?_
          refine lv_aload_n hx hb d_Ru_askFold_79 rfl (lv_at hl 3 rfl) ?_
          refine gh_get C V hs3 gc_St gi_St 4 (by decide) f_Ru_87 rfl rfl d_Ru_askFold_80 ?_
          refine gh_get C V hj3 gc_St gi_St 8 (by decide) f_Ru_68 rfl rfl d_Ru_askFold_83 ?_
          have hal : sr_all (vt_0 0) ((fun v x => sr_D cb bg n (bg (pt * 3 + 2)) v x) vr x3) = (1 + (sr_all (vt_0 0) (sr_B cb bg n (bg (pt * 3 + 2)) vr x3)).1, (sr_all (vt_0 0) (sr_B cb bg n (bg (pt * 3 + 2)) vr x3)).2) := sr_all_add
          have hfc : d3 + 1 + (sr_all (vt_0 0) (sr_B cb bg n (bg (pt * 3 + 2)) vr x3)).1 ≤ (sr_fin (fun v x => sr_D cb bg n (bg (pt * 3 + 2)) v x) vr Tp).1 := by
            rw [hT3]
            cases ho : (sr_all (vt_0 0) (sr_B cb bg n (bg (pt * 3 + 2)) vr x3)).2 with
            | none => rw [ho] at hal; rw [sr_fin_none hal]; show _ ≤ d3 + (1 + _); omega
            | some w8 => rw [ho] at hal; rw [sr_fin_some hal]; show _ ≤ d3 + (1 + _) + _; omega
          refine gh_callV C V hl.1 m_Ru_begin l_Ru_60 (c_Ru_begin l E _ g3 ρ Z q0 N cb bg φ3 b3 s0 e0 (bg (pt * 3 + 2)) (20 - n) ra a3 hR (by omega) (by omega)) rfl h1R gc_Ru ⟨by first | decide | omega | (dsimp only; omega), by first | decide | omega | (dsimp only; omega)⟩ ⟨by first | decide | omega | (dsimp only; omega), by first | decide | omega | (dsimp only; omega)⟩ (Nat.le_of_ble_eq_true rfl) rfl d_Ru_askFold_86 (fun r g4 H locs hp V => ?_)
          by_cases hφ0 : φ3 = 0
          · obtain ⟨rfl, he9⟩ := hp.1 hφ0
            rw [he9] at V
            refine W.eq (g2 := F0 m 89 ls [.null]) rfl ?_
            refine lv_astoreN hx hb d_Ru_askFold_89 hl (by decide) rfl (fun ls hl => ?_)
            have hl : lv_has ls 6 [(5, .null), (2, .int 3), (4, .int (nI i9)), (0, .ref (Z 1)), (1, .ref (Z (1000 + k))), (3, .ref ra)] := hl
            refine lv_aload_n hx hb d_Ru_askFold_91 rfl (lv_at hl 3 rfl) ?_
            refine lv_aloadN hx hb d_Ru_askFold_92 (lv_at hl 0 rfl) ?_
            refine gh_callV C V hl.1 m_Ru_askForAll l_Ru_182 (c_Ru_askForAll0 l E _ g3 ρ Z q0 N cb bg φ3 b3 s0 e0 hR) rfl h1R gc_Ru ⟨by first | decide | omega | (dsimp only; omega), by first | decide | omega | (dsimp only; omega)⟩ ⟨by first | decide | omega | (dsimp only; omega), by first | decide | omega | (dsimp only; omega)⟩ (Nat.le_of_ble_eq_true rfl) rfl d_Ru_askFold_94 (fun r z9 H locs hp V => ?_)
            obtain ⟨rfl, he9⟩ := hp
            rw [he9] at V
            refine W.eq (g2 := F0 m 97 ls [.int 2]) rfl ?_
            refine lv_istore_n hx hb d_Ru_askFold_97 rfl hl (by decide) rfl (fun ls hl => ?_)
            have hl : lv_has ls 6 [(2, .int 2), (5, .null), (4, .int (nI i9)), (0, .ref (Z 1)), (1, .ref (Z (1000 + k))), (3, .ref ra)] := hl
            refine lv_aloadN hx hb d_Ru_askFold_98 (lv_at hl 1 rfl) ?_
            refine lv_ifnullN (tgt := 107) hx hb d_Ru_askFold_100 (by decide) ?_
            refine lv_iload_n hx hb d_Ru_askFold_107 rfl (lv_at hl 0 rfl) ?_
            refine gh_reti hAe C V hr hlocks d_Ru_askFold_108 (by first | decide | omega | (dsimp only; omega)) (by first | decide | omega | (dsimp only; omega)) ?_
            have hfr : gh_fr f g3 (rn_M ρ (20 - (n + 1)) b F) := hfr0.tr hfl (fun a _ _ z => rn_M.le (by omega) (fun i hi => by rw [hi]; exact Or.inl hFk) (by omega) a z)
            exact ⟨φ3, b3, hR, ⟨by omega, by omega⟩, hfr, Or.inl ⟨by omega, rfl, by assumption⟩, fun z => absurd z (rv_ne (by decide))⟩
          · obtain ⟨rfl, hR, hsb, hfr4⟩ := hp.2 (by omega)
            have hs3 := hfr4.at hs3 (fun z => by have e9 := hz (1000 + k) (by unfold rU; omega); rcases z with z | z <;> omega)
            have hfl : gh_fr gz1 g4 (rn_M ρ (20 - n) bz1 (fun i => i = k)) := hfl.tr hfr4 (fun a _ _ z => by rcases z with z | z; exact Or.inl z; exact Or.inr (Or.inr (Or.inr (Or.inl (by omega)))))
            have hM4 : ∀ a, (ρ a = 1 ∨ ρ a = 1000 + b3) → ¬ rP ρ a := fun a z z2 => by have z2 : ρ a = 0 := z2; omega
            have hit := hit.keep hfr4 hM4
            have hel := hel.keep hfr4 hM4
            have hra := hra.keep hfr4 hM4
            have hx3 := hx3.keep hfr4 hM4
            have hrs3 := hrs3.keep (φ1 := φ3 - 1) hfr4 hM4 (by omega) (fun i hi z => by have := hlt3 i hi; have e9 := hz (1000 + i) (by unfold rU; omega); rcases z with z | z <;> omega)
            refine W.eq (g2 := F0 m 89 ls [.ref (Z (1000 + b3))]) rfl ?_
            have hRc := hR
            obtain ⟨h1R, ⟨hz, ⟨p206, p207⟩, ⟨gS, hgS, hgS2⟩, ⟨gG, hgG, hgG2⟩, hVR, hqR, hcdR, hbaR, hN60, hq0⟩, ⟨hgaV, hgaR⟩, hSR, hnon⟩ := hRc
            obtain ⟨pvsR, hvsR, hnuR, hnoR, hyeR, -⟩ := id hVR
            have hnw := rs_new (Y := x3) (φ := φ3 - 1) (rs_child (i := 2) hqw (by omega) hq6 hn19 (by rw [hkd]; decide) (hra.le).2) (by omega) (by omega) hsb hra hx3 hnuR
            refine lv_astore hx hb d_Ru_askFold_89 hl (by decide) rfl (fun ls hl => ?_)
            have hl : lv_has ls 6 [(5, .ref (Z (1000 + b3))), (2, .int 3), (4, .int (nI i9)), (0, .ref (Z 1)), (1, .ref (Z (1000 + k))), (3, .ref ra)] := hl
            refine lv_aload_n hx hb d_Ru_askFold_91 rfl (lv_at hl 3 rfl) ?_
            refine lv_aload hx hb d_Ru_askFold_92 (lv_at hl 0 rfl) ?_
            refine gh_callV C V hl.1 m_Ru_askForAll l_Ru_182 (c_Ru_askForAll l E _ g4 ρ Z q0 N cb bg (φ3 - 1) (b3 + 1) s0 e0 n 1 b3 (vt_0 0) (sr_B cb bg n (bg (pt * 3 + 2)) vr x3) (fun i => i = b3) hR (by omega) (fun j hj => by omega) hnw (Nat.le_refl _) IH) rfl h1R gc_Ru ⟨by first | decide | omega | (dsimp only; omega), by first | decide | omega | (dsimp only; omega)⟩ ⟨by first | decide | omega | (dsimp only; omega), by first | decide | omega | (dsimp only; omega)⟩ (Nat.le_of_ble_eq_true rfl) rfl d_Ru_askFold_94 (fun r g5 H locs hp V => ?_)
            obtain ⟨φ5, b5, hR, ⟨hb5, hc5⟩, hfr5, hP5⟩ := hp
            have hs3 := hfr5.at hs3 (rn_M.st hz hk250 (by omega) (by omega))
            have hfl : gh_fr gz1 g5 (rn_M ρ (20 - n) bz1 (fun i => i = k)) := hfl.tr hfr5 (fun a _ _ z => rn_M.le (Nat.le_refl _) (fun i hi => Or.inr ⟨by omega, by omega⟩) (by omega) a z)
            have hit := hit.keep hfr5 rn_M.P
            have hel := hel.keep hfr5 rn_M.P
            have hrs3 := hrs3.keep (φ1 := φ5) hfr5 rn_M.P (by rcases hP5 with z | ⟨_, z⟩ | z <;> omega) (fun i hi => by have := hlt3 i hi; exact rn_M.st hz (by omega) (by omega) (by omega))
            have hRc := hR
            obtain ⟨h1R, ⟨hz, ⟨p206, p207⟩, ⟨gS, hgS, hgS2⟩, ⟨gG, hgG, hgG2⟩, hVR, hqR, hcdR, hbaR, hN60, hq0⟩, ⟨hgaV, hgaR⟩, hSR, hnon⟩ := hRc
            obtain ⟨pvsR, hvsR, hnuR, hnoR, hyeR, -⟩ := id hVR
            rcases hP5 with ⟨h15, rfl, h35⟩ | ⟨w5, hw5, hd5, rfl, h35, y0, y1, y2, y3, y4, y5, y6, y7, a5, hc5_, hx5⟩ | ⟨hw5, hd5, rfl, h35⟩
            · have hq3 := hs3
              refine W.eq (g2 := F0 m 97 ls [.int 2]) rfl ?_
              refine lv_istore_n hx hb d_Ru_askFold_97 rfl hl (by decide) rfl (fun ls hl => ?_)
              have hl : lv_has ls 6 [(2, .int 2), (5, .ref (Z (1000 + b3))), (4, .int (nI i9)), (0, .ref (Z 1)), (1, .ref (Z (1000 + k))), (3, .ref ra)] := hl
              refine lv_aload hx hb d_Ru_askFold_98 (lv_at hl 1 rfl) ?_
              refine lv_ifnull hx hb d_Ru_askFold_100 ?_
              refine lv_iload_n hx hb d_Ru_askFold_103 rfl (lv_at hl 0 rfl) ?_
              refine lv_if_eq (tgt := 109) hx hb d_Ru_askFold_104 (by decide) (fun c16 => absurd c16 (by decide)) (fun c16 => ?_)
              refine lv_iload_n hx hb d_Ru_askFold_107 rfl (lv_at hl 0 rfl) ?_
              refine gh_reti hAe C V hr hlocks d_Ru_askFold_108 (by first | decide | omega | (dsimp only; omega)) (by first | decide | omega | (dsimp only; omega)) ?_
              have hfr : gh_fr f g5 (rn_M ρ (20 - (n + 1)) b F) := hfr0.tr hfl (fun a _ _ z => rn_M.le (by omega) (fun i hi => by rw [hi]; exact Or.inl hFk) (by omega) a z)
              exact ⟨φ5, b5, hR, ⟨by omega, by omega⟩, hfr, Or.inl ⟨by omega, rfl, by assumption⟩, fun z => absurd z (rv_ne (by decide))⟩
            · have hfe : sr_fin (fun v x => sr_D cb bg n (bg (pt * 3 + 2)) v x) vr Tp = (d3 + (1 + (sr_all (vt_0 0) (sr_B cb bg n (bg (pt * 3 + 2)) vr x3)).1) + (sr_fin (fun v x => sr_D cb bg n (bg (pt * 3 + 2)) v x) w5 R3).1, (sr_fin (fun v x => sr_D cb bg n (bg (pt * 3 + 2)) v x) w5 R3).2) := by rw [hw5] at hal; rw [hT3, sr_fin_some hal]
              have hcf : (sr_fin (fun v x => sr_D cb bg n (bg (pt * 3 + 2)) v x) vr Tp).1 = d3 + (1 + (sr_all (vt_0 0) (sr_B cb bg n (bg (pt * 3 + 2)) vr x3)).1) + (sr_fin (fun v x => sr_D cb bg n (bg (pt * 3 + 2)) v x) w5 R3).1 := by rw [hfe]
              refine W.eq (g2 := F0 m 97 ls [.int 0]) rfl ?_
              refine lv_istore_n hx hb d_Ru_askFold_97 rfl hl (by decide) rfl (fun ls hl => ?_)
              have hl : lv_has ls 6 [(2, .int 0), (5, .ref (Z (1000 + b3))), (4, .int (nI i9)), (0, .ref (Z 1)), (1, .ref (Z (1000 + k))), (3, .ref ra)] := hl
              refine lv_aload hx hb d_Ru_askFold_98 (lv_at hl 1 rfl) ?_
              refine lv_ifnull hx hb d_Ru_askFold_100 ?_
              refine lv_iload_n hx hb d_Ru_askFold_103 rfl (lv_at hl 0 rfl) ?_
              refine lv_if_eq (tgt := 109) hx hb d_Ru_askFold_104 (by decide) (fun c17 => ?_) (fun c17 => absurd (by decide) c17)
              refine lv_aload hx hb d_Ru_askFold_109 (lv_at hl 1 rfl) ?_
              refine gh_get C V hc5_ gc_St gi_St 8 (by decide) f_Ru_68 rfl rfl d_Ru_askFold_111 ?_
              refine lv_astore_n hx hb d_Ru_askFold_114 rfl hl (by decide) rfl (fun ls hl => ?_)
              have hl : lv_has ls 6 [(3, .ref a5), (2, .int 0), (5, .ref (Z (1000 + b3))), (4, .int (nI i9)), (0, .ref (Z 1)), (1, .ref (Z (1000 + k)))] := hl
              refine lv_iinc (k := 3) (v := (nI i9) + 1) hx hb d_Ru_askFold_115 hl rfl (by rfl) (by decide) rfl (fun ls hl => ?_)
              have hl : lv_has ls 6 [(4, .int (nI (i9 + 1))), (3, .ref a5), (2, .int 0), (5, .ref (Z (1000 + b3))), (0, .ref (Z 1)), (1, .ref (Z (1000 + k)))] := by rw [nI_succ]; exact hl
              refine lv_goto (tgt := 29) hx hb d_Ru_askFold_118 (by decide) ?_
              have hl : lv_has ls 6 [(4, .int (nI (i9 + 1))), (0, .ref (Z 1)), (1, .ref (Z (1000 + k))), (3, .ref a5)] := lv_sub hl [0, 4, 5, 1] rfl
              have hl : lv_has ls 6 [(4, .int (nI (i9 + 1))), (0, .ref (Z 1)), (1, .ref (Z (1000 + k))), (3, .ref a5)] := hl
              refine W.widen (by first | omega | (dsimp only; omega)) (by first | omega | (dsimp only; omega)) (ih (i9 + 1) φ5 b5 (cc + (d3 + (1 + (sr_all (vt_0 0) (sr_B cb bg n (bg (pt * 3 + 2)) vr x3)).1))) a5 w5 (some j3) R3 F3 g5 H locs ls (by omega) (by omega) hR ⟨by omega, by omega⟩ ⟨by omega, by omega⟩ (by rw [hTc, hfe]; refine Prod.ext ?_ rfl; dsimp only; omega) hfl hs3 (Or.inr ⟨j3, x3, rfl, hrs3, fun i hi => by have := hlt3 i hi; omega, hnk3⟩) (fun i hi => by have := hlt3 i hi; omega) hit hel hx5 V hl)
            · have hfe : sr_fin (fun v x => sr_D cb bg n (bg (pt * 3 + 2)) v x) vr Tp = (d3 + (1 + (sr_all (vt_0 0) (sr_B cb bg n (bg (pt * 3 + 2)) vr x3)).1), none) := by rw [hw5] at hal; rw [hT3, sr_fin_none hal]
              have hcf : (sr_fin (fun v x => sr_D cb bg n (bg (pt * 3 + 2)) v x) vr Tp).1 = d3 + (1 + (sr_all (vt_0 0) (sr_B cb bg n (bg (pt * 3 + 2)) vr x3)).1) := by rw [hfe]
              refine W.eq (g2 := F0 m 97 ls [.int 1]) rfl ?_
              refine lv_istore_n hx hb d_Ru_askFold_97 rfl hl (by decide) rfl (fun ls hl => ?_)
              have hl : lv_has ls 6 [(2, .int 1), (5, .ref (Z (1000 + b3))), (4, .int (nI i9)), (0, .ref (Z 1)), (1, .ref (Z (1000 + k))), (3, .ref ra)] := hl
              refine lv_aload hx hb d_Ru_askFold_98 (lv_at hl 1 rfl) ?_
              refine lv_ifnull hx hb d_Ru_askFold_100 ?_
              refine lv_iload_n hx hb d_Ru_askFold_103 rfl (lv_at hl 0 rfl) ?_
              refine lv_if_eq (tgt := 109) hx hb d_Ru_askFold_104 (by decide) (fun c18 => absurd c18 (by decide)) (fun c18 => ?_)
              refine lv_iload_n hx hb d_Ru_askFold_107 rfl (lv_at hl 0 rfl) ?_
              refine gh_reti hAe C V hr hlocks d_Ru_askFold_108 (by first | decide | omega | (dsimp only; omega)) (by first | decide | omega | (dsimp only; omega)) ?_
              have hfr : gh_fr f g5 (rn_M ρ (20 - (n + 1)) b F) := hfr0.tr hfl (fun a _ _ z => rn_M.le (by omega) (fun i hi => by rw [hi]; exact Or.inl hFk) (by omega) a z)
              have hfin : sr_fin (fun v x => sr_D cb bg n (bg (pt * 3 + 2)) v x) xz1 (sr_D cb bg n (bg (pt * 3 + 0)) X Y) = (cc + (d3 + (1 + (sr_all (vt_0 0) (sr_B cb bg n (bg (pt * 3 + 2)) vr x3)).1)), none) := by rw [hTc, hfe]
              exact ⟨φ5, b5, hR, ⟨by omega, by omega⟩, hfr, Or.inr (Or.inr (Or.inl ⟨_, by rw [hT, hTz1, sr_fol_none hfin], by omega, rfl, by omega⟩)), fun z => absurd z (rv_ne (by decide))⟩
    exact W.widen (by first | omega | (dsimp only; omega)) (by first | omega | (dsimp only; omega)) (loop 300 0 φz1 bz1 0 az1 xz1 none (sr_D cb bg n (bg (pt * 3 + 0)) X Y) (fun _ => False) f6 _ _ ls (by omega) (by omega) hR ⟨Nat.le_refl _, Nat.le_refl _⟩ ⟨Nat.zero_le _, rfl⟩ (by rw [Nat.zero_add]) hfl h_Z__1000___k__f6 (Or.inl ⟨rfl, rfl, rs_child hqw (by omega) hq6 hn19 (by rw [hkd]; decide) hX7, fun _ z => z⟩) (fun i hi => False.elim hi) hit0 hel0 hra0 V hl)
