/-! askDeep. Printed by wip/whole/gen_ru15.py. -/
theorem sr_its_c {g : vt → sr} {X : vt} {m i : Nat} : sr_its g X (m + 1) i = sr_seq (g (vt_s X i)) (sr_its g X m (i + 1)) := rfl
theorem rs_deep {cb bg : Nat → Nat} {N n w pt j : Nat} {X : vt} (hq : qw cb bg N w pt) (h4 : cb pt = 4) (hn : n ≤ 19) (hX : vt_h X ≤ n) (hj : vt_h (vt_s X j) < vt_h X) : rs_ok cb bg N n pt (vt_s X j) := ⟨n - 1, w, by omega, by omega, hq, fun _ => by omega, fun z => absurd h4 z⟩
theorem d_Ru_askDeep_0 : decode b_Ru_askDeep 0 = .ok (.aload_n 1, 1) := by decide +kernel
theorem d_Ru_askDeep_1 : decode b_Ru_askDeep 1 = .ok (.getfield 94, 3) := by decide +kernel
theorem d_Ru_askDeep_4 : decode b_Ru_askDeep 4 = .ok (.ifCond .ne 12, 3) := by decide +kernel
theorem d_Ru_askDeep_7 : decode b_Ru_askDeep 7 = .ok (.aload_n 1, 1) := by decide +kernel
theorem d_Ru_askDeep_8 : decode b_Ru_askDeep 8 = .ok (.aload_n 1, 1) := by decide +kernel
theorem d_Ru_askDeep_9 : decode b_Ru_askDeep 9 = .ok (.getfield 81, 3) := by decide +kernel
theorem d_Ru_askDeep_12 : decode b_Ru_askDeep 12 = .ok (.invokestatic 141, 3) := by decide +kernel
theorem d_Ru_askDeep_15 : decode b_Ru_askDeep 15 = .ok (.ireturn, 1) := by decide +kernel
theorem d_Ru_askDeep_16 : decode b_Ru_askDeep 16 = .ok (.iconst 0, 1) := by decide +kernel
theorem d_Ru_askDeep_17 : decode b_Ru_askDeep 17 = .ok (.istore_n 2, 1) := by decide +kernel
theorem d_Ru_askDeep_18 : decode b_Ru_askDeep 18 = .ok (.iload_n 2, 1) := by decide +kernel
theorem d_Ru_askDeep_19 : decode b_Ru_askDeep 19 = .ok (.bipush 16, 2) := by decide +kernel
theorem d_Ru_askDeep_21 : decode b_Ru_askDeep 21 = .ok (.if_icmp .gt 113, 3) := by decide +kernel
theorem d_Ru_askDeep_24 : decode b_Ru_askDeep 24 = .ok (.aload_n 1, 1) := by decide +kernel
theorem d_Ru_askDeep_25 : decode b_Ru_askDeep 25 = .ok (.getfield 87, 3) := by decide +kernel
theorem d_Ru_askDeep_28 : decode b_Ru_askDeep 28 = .ok (.ifnonnull 7, 3) := by decide +kernel
theorem d_Ru_askDeep_31 : decode b_Ru_askDeep 31 = .ok (.iconst 0, 1) := by decide +kernel
theorem d_Ru_askDeep_32 : decode b_Ru_askDeep 32 = .ok (.goto 11, 3) := by decide +kernel
theorem d_Ru_askDeep_35 : decode b_Ru_askDeep 35 = .ok (.aload_n 0, 1) := by decide +kernel
theorem d_Ru_askDeep_36 : decode b_Ru_askDeep 36 = .ok (.aload_n 1, 1) := by decide +kernel
theorem d_Ru_askDeep_37 : decode b_Ru_askDeep 37 = .ok (.getfield 87, 3) := by decide +kernel
theorem d_Ru_askDeep_40 : decode b_Ru_askDeep 40 = .ok (.invokevirtual 64, 3) := by decide +kernel
theorem d_Ru_askDeep_43 : decode b_Ru_askDeep 43 = .ok (.istore_n 3, 1) := by decide +kernel
theorem d_Ru_askDeep_44 : decode b_Ru_askDeep 44 = .ok (.iload_n 3, 1) := by decide +kernel
theorem d_Ru_askDeep_45 : decode b_Ru_askDeep 45 = .ok (.ifCond .eq 13, 3) := by decide +kernel
theorem d_Ru_askDeep_48 : decode b_Ru_askDeep 48 = .ok (.aload_n 1, 1) := by decide +kernel
theorem d_Ru_askDeep_49 : decode b_Ru_askDeep 49 = .ok (.aload_n 1, 1) := by decide +kernel
theorem d_Ru_askDeep_50 : decode b_Ru_askDeep 50 = .ok (.getfield 87, 3) := by decide +kernel
theorem d_Ru_askDeep_53 : decode b_Ru_askDeep 53 = .ok (.iload_n 3, 1) := by decide +kernel
theorem d_Ru_askDeep_54 : decode b_Ru_askDeep 54 = .ok (.invokestatic 151, 3) := by decide +kernel
theorem d_Ru_askDeep_57 : decode b_Ru_askDeep 57 = .ok (.ireturn, 1) := by decide +kernel
theorem d_Ru_askDeep_58 : decode b_Ru_askDeep 58 = .ok (.aload_n 1, 1) := by decide +kernel
theorem d_Ru_askDeep_59 : decode b_Ru_askDeep 59 = .ok (.getfield 97, 3) := by decide +kernel
theorem d_Ru_askDeep_62 : decode b_Ru_askDeep 62 = .ok (.aload_n 1, 1) := by decide +kernel
theorem d_Ru_askDeep_63 : decode b_Ru_askDeep 63 = .ok (.getfield 81, 3) := by decide +kernel
theorem d_Ru_askDeep_66 : decode b_Ru_askDeep 66 = .ok (.getfield 148, 3) := by decide +kernel
theorem d_Ru_askDeep_69 : decode b_Ru_askDeep 69 = .ok (.arraylength, 1) := by decide +kernel
theorem d_Ru_askDeep_70 : decode b_Ru_askDeep 70 = .ok (.if_icmp .lt 5, 3) := by decide +kernel
theorem d_Ru_askDeep_73 : decode b_Ru_askDeep 73 = .ok (.iconst 0, 1) := by decide +kernel
theorem d_Ru_askDeep_74 : decode b_Ru_askDeep 74 = .ok (.ireturn, 1) := by decide +kernel
theorem d_Ru_askDeep_75 : decode b_Ru_askDeep 75 = .ok (.aload_n 1, 1) := by decide +kernel
theorem d_Ru_askDeep_76 : decode b_Ru_askDeep 76 = .ok (.aload_n 0, 1) := by decide +kernel
theorem d_Ru_askDeep_77 : decode b_Ru_askDeep 77 = .ok (.aload_n 1, 1) := by decide +kernel
theorem d_Ru_askDeep_78 : decode b_Ru_askDeep 78 = .ok (.getfield 75, 3) := by decide +kernel
theorem d_Ru_askDeep_81 : decode b_Ru_askDeep 81 = .ok (.aload_n 1, 1) := by decide +kernel
theorem d_Ru_askDeep_82 : decode b_Ru_askDeep 82 = .ok (.getfield 78, 3) := by decide +kernel
theorem d_Ru_askDeep_85 : decode b_Ru_askDeep 85 = .ok (.iconst 1, 1) := by decide +kernel
theorem d_Ru_askDeep_86 : decode b_Ru_askDeep 86 = .ok (.iadd, 1) := by decide +kernel
theorem d_Ru_askDeep_87 : decode b_Ru_askDeep 87 = .ok (.aload_n 1, 1) := by decide +kernel
theorem d_Ru_askDeep_88 : decode b_Ru_askDeep 88 = .ok (.getfield 81, 3) := by decide +kernel
theorem d_Ru_askDeep_91 : decode b_Ru_askDeep 91 = .ok (.getfield 148, 3) := by decide +kernel
theorem d_Ru_askDeep_94 : decode b_Ru_askDeep 94 = .ok (.aload_n 1, 1) := by decide +kernel
theorem d_Ru_askDeep_95 : decode b_Ru_askDeep 95 = .ok (.getfield 97, 3) := by decide +kernel
theorem d_Ru_askDeep_98 : decode b_Ru_askDeep 98 = .ok (.aaload, 1) := by decide +kernel
theorem d_Ru_askDeep_99 : decode b_Ru_askDeep 99 = .ok (.aload_n 1, 1) := by decide +kernel
theorem d_Ru_askDeep_100 : decode b_Ru_askDeep 100 = .ok (.getfield 84, 3) := by decide +kernel
theorem d_Ru_askDeep_103 : decode b_Ru_askDeep 103 = .ok (.invokevirtual 60, 3) := by decide +kernel
theorem d_Ru_askDeep_106 : decode b_Ru_askDeep 106 = .ok (.putfield 87, 3) := by decide +kernel
theorem d_Ru_askDeep_109 : decode b_Ru_askDeep 109 = .ok (.aload_n 1, 1) := by decide +kernel
theorem d_Ru_askDeep_110 : decode b_Ru_askDeep 110 = .ok (.dup, 1) := by decide +kernel
theorem d_Ru_askDeep_111 : decode b_Ru_askDeep 111 = .ok (.getfield 97, 3) := by decide +kernel
theorem d_Ru_askDeep_114 : decode b_Ru_askDeep 114 = .ok (.iconst 1, 1) := by decide +kernel
theorem d_Ru_askDeep_115 : decode b_Ru_askDeep 115 = .ok (.iadd, 1) := by decide +kernel
theorem d_Ru_askDeep_116 : decode b_Ru_askDeep 116 = .ok (.putfield 97, 3) := by decide +kernel
theorem d_Ru_askDeep_119 : decode b_Ru_askDeep 119 = .ok (.aload_n 1, 1) := by decide +kernel
theorem d_Ru_askDeep_120 : decode b_Ru_askDeep 120 = .ok (.getfield 87, 3) := by decide +kernel
theorem d_Ru_askDeep_123 : decode b_Ru_askDeep 123 = .ok (.ifnonnull 5, 3) := by decide +kernel
theorem d_Ru_askDeep_126 : decode b_Ru_askDeep 126 = .ok (.iconst 2, 1) := by decide +kernel
theorem d_Ru_askDeep_127 : decode b_Ru_askDeep 127 = .ok (.ireturn, 1) := by decide +kernel
theorem d_Ru_askDeep_128 : decode b_Ru_askDeep 128 = .ok (.iinc 2 1, 3) := by decide +kernel
theorem d_Ru_askDeep_131 : decode b_Ru_askDeep 131 = .ok (.goto (-113), 3) := by decide +kernel
theorem d_Ru_askDeep_134 : decode b_Ru_askDeep 134 = .ok (.iconst 0, 1) := by decide +kernel
theorem d_Ru_askDeep_135 : decode b_Ru_askDeep 135 = .ok (.ireturn, 1) := by decide +kernel
set_option maxHeartbeats 4000000 in
set_option maxRecDepth 100000 in
theorem c_Ru_askDeep (l : Launch) (E : gh_E) (sz : Nat) (f : gh_F) (ρ Z : Nat → Nat) (q0 N : Nat) (cb bg : Nat → Nat) (φ b : Nat) (s0 e0 : Int32) (n u k : Nat) (v : vt) (T : sr) (F : Nat → Prop) (pt w9 it el gv pl va : Nat) (X Y : vt) (fi se : Option Nat) (hR : rn_R E ρ Z f q0 N cb bg φ b s0 e0) (hφb : φ + b ≤ 250) (hFb : ∀ j, F j → j < b) (hx9 : rs_x E ρ Z cb bg N f φ n u k v T F pt w9 it el gv pl va X Y fi se) (IH : rk_A l E ρ Z q0 N cb bg n) (hkd : cb pt = 4) : gh_M l y_Ru_askDeep b_Ru_askDeep 4 (some .int) E sz [.ref (Z 1), .ref (Z (1000 + k))] f { frames := 25 + 6 * n, cells := 3 * (min (sr_c T) φ + u), slots := 39 * (min (sr_c T) φ + u), locals := 870 + 200 * n } (rk_Q E ρ Z q0 N cb bg (n + 1) f φ b s0 e0 k v T F) := by
  obtain ⟨hs, ⟨hk250, hn19, hFk⟩, ⟨hqw, hq4, hq6⟩, ⟨hit, hel, hva⟩, ⟨q9, hq16, hzr, hgv⟩, hst⟩ := hx9
  have hkb := hFb k hFk
  have hptN := (qw_lt hqw).1
  have hX7 := (hit.le).2
  refine gh_open (by decide) (Nat.le_of_ble_eq_true rfl) ?_
  intro p e s m args below meth c A ls hAe C V hr hlocks hname hl
  have hx := C.1
  have hb := C.2.1
  have hl : lv_has ls 4 [(0, .ref (Z 1)), (1, .ref (Z (1000 + k)))] := hl
  have hRc := hR
  obtain ⟨h1R, ⟨hz, ⟨p206, p207⟩, ⟨gS, hgS, hgS2⟩, ⟨gG, hgG, hgG2⟩, hVR, hqR, hcdR, hbaR, hN60, hq0⟩, ⟨hgaV, hgaR⟩, hSR, hnon⟩ := hRc
  obtain ⟨pvsR, hvsR, hnuR, hnoR, hyeR, -⟩ := id hVR
  have hfr : gh_fr f f (rn_M ρ (20 - (n + 1)) b F) := gh_fr.rf
  have hpt60 : pt < 60 := by omega
  have hoX := vo_o.mp hit.2
  have hc16 := hoX.2.2.2.2.2.2.1
  have hX := hq4 hkd
  have hsubh : ∀ j, j < vt_c X → vt_h (vt_s X j) < vt_h X := fun j hj => (hoX.2.2.2.2.2.2.2.2.2.2.2 j hj).1
  rcases hst with ⟨hu, hg0, hp0, hf0, hs0, hv0, hT⟩ | ⟨hu, hg1, hrun⟩
  · refine lv_aload_n hx hb d_Ru_askDeep_0 rfl (lv_at hl 1 rfl) ?_
    refine gh_get C V hs gc_St gi_St 6 (by decide) f_Ru_94 rfl rfl d_Ru_askDeep_1 ?_
    refine lv_if_ne (tgt := 16) hx hb d_Ru_askDeep_4 (by decide) (fun c1 => absurd (by rw [hg0]; decide) c1) (fun c1 => ?_)
    refine lv_aload_n hx hb d_Ru_askDeep_7 rfl (lv_at hl 1 rfl) ?_
    refine lv_aload_n hx hb d_Ru_askDeep_8 rfl (lv_at hl 1 rfl) ?_
    refine gh_get C V hs gc_St gi_St 2 (by decide) f_Ru_81 rfl rfl d_Ru_askDeep_9 ?_
    have hit0 := hit
    refine gh_callS C V hl.1 m_Ru_gives l_Ru_141 (c_Ru_gives l E _ f ρ Z q0 N cb bg φ b s0 e0 k it gv _ _ _ _ _ _ _ _ hR hk250 hs) rfl ⟨by first | decide | omega | (dsimp only; omega), by first | decide | omega | (dsimp only; omega)⟩ ⟨by first | decide | omega | (dsimp only; omega), by first | decide | omega | (dsimp only; omega)⟩ (Nat.le_of_ble_eq_true rfl) rfl d_Ru_askDeep_12 (fun r g2 H locs hp V => ?_)
    obtain ⟨rfl, hR, hs, hfrg⟩ := hp
    refine W.eq (g2 := F0 m 15 ls [.int 3]) rfl ?_
    have hMg : ∀ a, ρ a = 1000 + k → ¬ rP ρ a := fun a z z2 => by have z2 : ρ a = 0 := z2; omega
    have hfr : gh_fr f g2 (rn_M ρ (20 - (n + 1)) b F) := hfr.tr hfrg (fun a _ _ z => Or.inr (Or.inr (Or.inr (Or.inr ⟨k, hFk, z⟩))))
    have hit := hit.keep hfrg hMg
    have hel := hel.keep hfrg hMg
    refine gh_reti hAe C V hr hlocks d_Ru_askDeep_15 (by first | decide | omega | (dsimp only; omega)) (by first | decide | omega | (dsimp only; omega)) ?_
    have hTe : T = sr_cons 0 X (sr_its (fun Z => sr_D cb bg n pt Z Y) X (vt_c X) 0) := by rw [hT, sr_B_o, sr_part_4 hkd]
    have hzr1 := hzr
    rw [hTe] at hzr1
    exact ⟨φ, b, hR, ⟨by omega, by omega⟩, hfr, Or.inr (Or.inr (Or.inr ⟨0, X, sr_its (fun Z => sr_D cb bg n pt Z Y) X (vt_c X) 0, hTe, by omega, rfl, by omega, fun i => F i ∨ (b ≤ i ∧ i < b), rs_mk hs ⟨hk250, hn19, Or.inl hFk⟩ ⟨hqw, hq4, hq6⟩ hit hel (hit0.keep hfrg hMg) hq16 hzr1 hgv (by omega) (by omega) (rs_run_4 hkd ⟨by omega, Or.inl ⟨hf0, by rw [hp0]; rfl⟩⟩), fun _ z => z⟩)), fun z => absurd z (rv_ne (by decide))⟩
  · obtain ⟨hplc, hrun4⟩ := hrun.2.1 hkd
    have hst0 : (fi = none ∧ 0 = 0 ∧ T = sr_add 0 (sr_its (fun Z => sr_D cb bg n pt Z Y) X (vt_c X - pl) pl)) ∨ ∃ j1 v1 T1 F1, fi = some j1 ∧ rs E ρ Z cb bg N f φ n 0 j1 v1 T1 F1 ∧ (∀ i, F1 i → F i ∨ (b ≤ i ∧ i < b)) ∧ ¬ F1 k ∧ T = sr_add 0 (sr_seq T1 (sr_its (fun Z => sr_D cb bg n pt Z Y) X (vt_c X - pl) pl)) := by
      rcases hrun4 with ⟨h1, h2⟩ | ⟨j, v1, T1, F1, h1, h2, h3, h4, h5⟩
      · exact Or.inl ⟨h1, rfl, by rw [h2, sr_add_0]⟩
      · exact Or.inr ⟨j, v1, T1, F1, h1, h2, fun i hi => Or.inl (h3 i hi), h4, by rw [h5, sr_add_0]⟩
    refine lv_aload_n hx hb d_Ru_askDeep_0 rfl (lv_at hl 1 rfl) ?_
    refine gh_get C V hs gc_St gi_St 6 (by decide) f_Ru_94 rfl rfl d_Ru_askDeep_1 ?_
    refine lv_if_ne (tgt := 16) hx hb d_Ru_askDeep_4 (by decide) (fun c3 => ?_) (fun c3 => absurd c3 (nI_ne0 (by omega) (by omega)))
    refine lv_iconst (v := 0) hx hb d_Ru_askDeep_16 (by decide) ?_
    refine lv_istore_n hx hb d_Ru_askDeep_17 rfl hl (by decide) rfl (fun ls hl => ?_)
    have hl : lv_has ls 4 [(2, .int 0), (0, .ref (Z 1)), (1, .ref (Z (1000 + k)))] := hl
    have hl : lv_has ls 4 [(2, .int 0), (0, .ref (Z 1)), (1, .ref (Z (1000 + k)))] := lv_sub hl [0, 1, 2] rfl
    have hl : lv_has ls 4 [(2, .int (nI 0)), (0, .ref (Z 1)), (1, .ref (Z (1000 + k)))] := hl
    have loop : ∀ (n9 i9 : Nat) (φc : Nat) (bc : Nat) (cc : Nat) (u1 : Nat) (p1 : Nat) (fo : Option Nat) (f1 : gh_F) (H : Heap) (locs : List Loc) (ls : Array Slot), (i9 + n9 = 17 ∧ i9 + (vt_c X - p1) ≤ 16) → (p1 ≤ vt_c X) → (rn_R E ρ Z f1 q0 N cb bg φc bc s0 e0) → (b ≤ bc ∧ bc + φc ≤ b + φ) → (cc ≤ φ ∧ φc = φ - cc ∧ u1 ≤ cc ∧ u1 ≤ 1) → (gh_fr f f1 (rn_M ρ (20 - (n + 1)) b F)) → (f1 (Z (1000 + k)) = some (.inr (5, [.int (nI pt), .int (nI (19 - n)), .ref it, .ref el, ro Z fo, ro Z se, .int (nI gv), .int (nI p1), .ref va]))) → ((fo = none ∧ u1 = 0 ∧ T = sr_add cc (sr_its (fun Z => sr_D cb bg n pt Z Y) X (vt_c X - p1) p1)) ∨ ∃ j1 v1 T1 F1, fo = some j1 ∧ rs E ρ Z cb bg N f1 φc n u1 j1 v1 T1 F1 ∧ (∀ i, F1 i → F i ∨ (b ≤ i ∧ i < bc)) ∧ ¬ F1 k ∧ T = sr_add cc (sr_seq T1 (sr_its (fun Z => sr_D cb bg n pt Z Y) X (vt_c X - p1) p1))) → (cw E (rP ρ) f1 it X) → (cw E (rP ρ) f1 el Y) → (cw E (rP ρ) f1 va v) → gh_V E A f1 s H locs → lv_has ls 4 [(2, .int (nI i9)), (0, .ref (Z 1)), (1, .ref (Z (1000 + k)))] → W p l e { frames := 25 + 6 * n, cells := 3 * (min (sr_c T) φ + u), slots := 39 * (min (sr_c T) φ + u), locals := 870 + 200 * n } s m args below meth c H locs (3 * (cc - u1)) (39 * (cc - u1)) (MQ below (gh_Q E f (rk_Q E ρ Z q0 N cb bg (n + 1) f φ b s0 e0 k v T F)) args s (3 * (min (sr_c T) φ + u)) (39 * (min (sr_c T) φ + u)) A) (F0 m 18 ls []) := by
      intro n9
      induction n9 with
      | zero =>
        intro i9 φc bc cc u1 p1 fo f1 H locs ls hm hpc hR hbb hcc hfr hs1 hst1 hit hel hva V hl
        exact absurd hm (by omega)
      | succ n9 ih =>
        intro i9 φc bc cc u1 p1 fo f1 H locs ls hm hpc hR hbb hcc hfr hs1 hst1 hit hel hva V hl
        obtain ⟨hbb1, hbb2⟩ := hbb
        obtain ⟨hcc1, hcc2, hcc3, hcc4⟩ := hcc
        have hRc := hR
        obtain ⟨h1R, ⟨hz, ⟨p206, p207⟩, ⟨gS, hgS, hgS2⟩, ⟨gG, hgG, hgG2⟩, hVR, hqR, hcdR, hbaR, hN60, hq0⟩, ⟨hgaV, hgaR⟩, hSR, hnon⟩ := hRc
        obtain ⟨pvsR, hvsR, hnuR, hnoR, hyeR, -⟩ := id hVR
        rcases hst1 with ⟨hfo, hu1, hTc⟩ | ⟨j1, v1, T1, F1, hfo, hr1, a1, a3, hTc⟩
        · subst hfo
          have hs1 : f1 (Z (1000 + k)) = some (.inr (5, [.int (nI pt), .int (nI (19 - n)), .ref it, .ref el, .null, ro Z se, .int (nI gv), .int (nI p1), .ref va])) := hs1
          have hcT : sr_c T = cc + sr_c (sr_its (fun Z => sr_D cb bg n pt Z Y) X (vt_c X - p1) p1) := by rw [hTc, sr_c_add]
          refine lv_iload_n hx hb d_Ru_askDeep_18 rfl (lv_at hl 0 rfl) ?_
          refine lv_bipush (v := 16) hx hb d_Ru_askDeep_19 (by decide) ?_
          refine lv_icmp_gt (tgt := 134) hx hb d_Ru_askDeep_21 (by decide) (fun c4 => absurd c4 (nI_nlt (a := 16) (b := i9) (by omega) (by omega))) (fun c4 => ?_)
          refine lv_aload_n hx hb d_Ru_askDeep_24 rfl (lv_at hl 2 rfl) ?_
          refine gh_get C V hs1 gc_St gi_St 4 (by decide) f_Ru_87 rfl rfl d_Ru_askDeep_25 ?_
          refine lv_ifnonnullN hx hb d_Ru_askDeep_28 ?_
          refine lv_iconst (v := 0) hx hb d_Ru_askDeep_31 (by decide) ?_
          refine lv_goto (tgt := 43) hx hb d_Ru_askDeep_32 (by decide) ?_
          refine lv_istore_n hx hb d_Ru_askDeep_43 rfl hl (by decide) rfl (fun ls hl => ?_)
          have hl : lv_has ls 4 [(3, .int 0), (2, .int (nI i9)), (0, .ref (Z 1)), (1, .ref (Z (1000 + k)))] := hl
          refine lv_iload_n hx hb d_Ru_askDeep_44 rfl (lv_at hl 0 rfl) ?_
          refine lv_if_eq (tgt := 58) hx hb d_Ru_askDeep_45 (by decide) (fun c5 => ?_) (fun c5 => absurd (by decide) c5)
          refine lv_aload_n hx hb d_Ru_askDeep_58 rfl (lv_at hl 3 rfl) ?_
          refine gh_get C V hs1 gc_St gi_St 7 (by decide) f_Ru_97 rfl rfl d_Ru_askDeep_59 ?_
          refine lv_aload_n hx hb d_Ru_askDeep_62 rfl (lv_at hl 3 rfl) ?_
          refine gh_get C V hs1 gc_St gi_St 2 (by decide) f_Ru_81 rfl rfl d_Ru_askDeep_63 ?_
          obtain ⟨la_6, ka_6, ia_6, gk_6, gi_6, K_6, B_6, hp_6, h0_6, h1_6, h2_6, h3_6, h4_6, h5_6⟩ := cv_o.mp hit.1
          refine gh_get C V h0_6 gc_Va gi_Va 4 (by decide) f_Ru_148 rfl rfl d_Ru_askDeep_66 ?_
          refine gh_alen (t0 := 4) C V rfl h3_6 (v := nI (vt_c X)) rfl d_Ru_askDeep_69 ?_
          refine lv_icmp_lt (tgt := 75) hx hb d_Ru_askDeep_70 (by decide) (fun c7 => ?_) (fun c7 => ?_)
          · have c7 : p1 < (vt_c X) := by rw [← gq_lt (a := p1) (b := vt_c X) (by omega) (by omega)]; exact c7
            refine lv_aload_n hx hb d_Ru_askDeep_75 rfl (lv_at hl 3 rfl) ?_
            refine lv_aload_n hx hb d_Ru_askDeep_76 rfl (lv_at hl 2 rfl) ?_
            refine lv_aload_n hx hb d_Ru_askDeep_77 rfl (lv_at hl 3 rfl) ?_
            refine gh_get C V hs1 gc_St gi_St 0 (by decide) f_Ru_75 rfl rfl d_Ru_askDeep_78 ?_
            refine lv_aload_n hx hb d_Ru_askDeep_81 rfl (lv_at hl 3 rfl) ?_
            refine gh_get C V hs1 gc_St gi_St 1 (by decide) f_Ru_78 rfl rfl d_Ru_askDeep_82 ?_
            refine lv_iconst (v := 1) hx hb d_Ru_askDeep_85 (by decide) ?_
            refine gn_iadd (a := 19 - n) (b := 1) hx hb d_Ru_askDeep_86 ?_
            rw [show 19 - n + 1 = 20 - n by omega]
            refine lv_aload_n hx hb d_Ru_askDeep_87 rfl (lv_at hl 3 rfl) ?_
            refine gh_get C V hs1 gc_St gi_St 2 (by decide) f_Ru_81 rfl rfl d_Ru_askDeep_88 ?_
            refine gh_get C V h0_6 gc_Va gi_Va 4 (by decide) f_Ru_148 rfl rfl d_Ru_askDeep_91 ?_
            refine lv_aload_n hx hb d_Ru_askDeep_94 rfl (lv_at hl 3 rfl) ?_
            refine gh_get C V hs1 gc_St gi_St 7 (by decide) f_Ru_97 rfl rfl d_Ru_askDeep_95 ?_
            refine gn_aald (t0 := 4) (i := p1) (v := (B_6 p1)) C V rfl h3_6 (by omega) (by omega) (h5_6 p1 (by omega)).1 d_Ru_askDeep_98 ?_
            refine lv_aload_n hx hb d_Ru_askDeep_99 rfl (lv_at hl 3 rfl) ?_
            refine gh_get C V hs1 gc_St gi_St 3 (by decide) f_Ru_84 rfl rfl d_Ru_askDeep_100 ?_
            have hp1 : p1 < vt_c X := by omega
            have hn1 : 1 ≤ n := by have := hsubh p1 hp1; omega
            have hsub := cw_item hit.2 hp1 (h5_6 p1 (by omega)).2
            have hTn : T = sr_add (cc + 1) (sr_seq (sr_B cb bg n pt (vt_s X p1) Y) (sr_its (fun Z => sr_D cb bg n pt Z Y) X (vt_c X - (p1 + 1)) (p1 + 1))) := by rw [hTc, show vt_c X - p1 = vt_c X - (p1 + 1) + 1 by omega, sr_its_c, sr_seq_add, sr_add_add]
            have hcn : sr_c T = cc + 1 + sr_c (sr_seq (sr_B cb bg n pt (vt_s X p1) Y) (sr_its (fun Z => sr_D cb bg n pt Z Y) X (vt_c X - (p1 + 1)) (p1 + 1))) := by rw [hTn, sr_c_add]
            refine gh_callV C V hl.1 m_Ru_begin l_Ru_60 (c_Ru_begin l E _ f1 ρ Z q0 N cb bg φc bc s0 e0 pt (20 - n) ((B_6 p1)) el hR (by omega) (by omega)) rfl h1R gc_Ru ⟨by first | decide | omega | (dsimp only; omega), by first | decide | omega | (dsimp only; omega)⟩ ⟨by first | decide | omega | (dsimp only; omega), by first | decide | omega | (dsimp only; omega)⟩ (Nat.le_of_ble_eq_true rfl) rfl d_Ru_askDeep_103 (fun r g4 H locs hp V => ?_)
            by_cases hφ0 : φc = 0
            · obtain ⟨rfl, he9⟩ := hp.1 hφ0
              rw [he9] at V
              refine W.eq (g2 := F0 m 106 ls [.null, .ref (Z (1000 + k))]) rfl ?_
              refine gh_put C V hs1 gc_St gi_St ty_St nm_St 4 (by decide) f_Ru_87 rfl (by first | rfl | decide) (by first | rfl | decide) (Nat.le_of_ble_eq_true rfl) d_Ru_askDeep_106 (fun H locs V => ?_)
              obtain ⟨f8, hff8⟩ : ∃ z9 : gh_F, z9 = gh_u f1 (Z (1000 + k)) (.inr (5, [.int (nI pt), .int (nI (19 - n)), .ref it, .ref el, .null, ro Z se, .int (nI gv), .int (nI p1), .ref va])) := ⟨_, rfl⟩
              have V : gh_V E A f8 s H locs := by rw [hff8]; exact V
              have hR : rn_R E ρ Z f8 q0 N cb bg φc bc s0 e0 := by rw [hff8]; exact hR.step (k := k) hk250
              have hfr : gh_fr f f8 (rn_M ρ (20 - (n + 1)) b F) := by rw [hff8]; exact hfr.put (Or.inl (Or.inr (Or.inr (Or.inr (Or.inr ⟨k, hFk, hz _ (by unfold rU; omega)⟩)))))
              have h_it_f8 : f8 it = some (.inr (6, [.int (nI (vt_k X)), .long (vt_n X), .ref la_6, .ref ka_6, .ref ia_6, .int (nI (vt_w X)), .int (nI (vt_h X))])) := by rw [hff8, gh_un (gh_nek h0_6 hs1 (show (6 : Nat) ≠ 5 by decide))]; exact h0_6
              have h_ka_6_f8 : f8 ka_6 = some (.inl (E.2.2.1 4, (vt_q X).length, .inr (.inr (.inr (.inr gk_6))))) := by rw [hff8, gh_un (gh_nek h2_6 hs1 (show (100 : Nat) ≠ 5 by decide))]; exact h2_6
              have h_ia_6_f8 : f8 ia_6 = some (.inl (E.2.2.1 4, vt_c X, .inr (.inr (.inr (.inr gi_6))))) := by rw [hff8, gh_un (gh_nek h3_6 hs1 (show (100 : Nat) ≠ 5 by decide))]; exact h3_6
              have h_Z__1000___k__f8 : f8 (Z (1000 + k)) = some (.inr (5, [.int (nI pt), .int (nI (19 - n)), .ref it, .ref el, .null, ro Z se, .int (nI gv), .int (nI p1), .ref va])) := by rw [hff8, gh_us]
              have hRc := hR
              obtain ⟨h1R, ⟨hz, ⟨p206, p207⟩, ⟨gS, hgS, hgS2⟩, ⟨gG, hgG, hgG2⟩, hVR, hqR, hcdR, hbaR, hN60, hq0⟩, ⟨hgaV, hgaR⟩, hSR, hnon⟩ := hRc
              obtain ⟨pvsR, hvsR, hnuR, hnoR, hyeR, -⟩ := id hVR
              refine lv_aload_n hx hb d_Ru_askDeep_109 rfl (lv_at hl 3 rfl) ?_
              refine lv_dup hx hb d_Ru_askDeep_110 rfl ?_
              refine gh_get C V h_Z__1000___k__f8 gc_St gi_St 7 (by decide) f_Ru_97 rfl rfl d_Ru_askDeep_111 ?_
              refine lv_iconst (v := 1) hx hb d_Ru_askDeep_114 (by decide) ?_
              refine gn_iadd (a := p1) (b := 1) hx hb d_Ru_askDeep_115 ?_
              refine gh_put C V h_Z__1000___k__f8 gc_St gi_St ty_St nm_St 7 (by decide) f_Ru_97 rfl (by first | rfl | decide) (by first | rfl | decide) (Nat.le_of_ble_eq_true rfl) d_Ru_askDeep_116 (fun H locs V => ?_)
              obtain ⟨f9, hff9⟩ : ∃ z9 : gh_F, z9 = gh_u f8 (Z (1000 + k)) (.inr (5, [.int (nI pt), .int (nI (19 - n)), .ref it, .ref el, .null, ro Z se, .int (nI gv), .int (nI (p1 + 1)), .ref va])) := ⟨_, rfl⟩
              have V : gh_V E A f9 s H locs := by rw [hff9]; exact V
              have hR : rn_R E ρ Z f9 q0 N cb bg φc bc s0 e0 := by rw [hff9]; exact hR.step (k := k) hk250
              have hfr : gh_fr f f9 (rn_M ρ (20 - (n + 1)) b F) := by rw [hff9]; exact hfr.put (Or.inl (Or.inr (Or.inr (Or.inr (Or.inr ⟨k, hFk, hz _ (by unfold rU; omega)⟩)))))
              have h_it_f9 : f9 it = some (.inr (6, [.int (nI (vt_k X)), .long (vt_n X), .ref la_6, .ref ka_6, .ref ia_6, .int (nI (vt_w X)), .int (nI (vt_h X))])) := by rw [hff9, gh_un (gh_nek h_it_f8 h_Z__1000___k__f8 (show (6 : Nat) ≠ 5 by decide))]; exact h_it_f8
              have h_ka_6_f9 : f9 ka_6 = some (.inl (E.2.2.1 4, (vt_q X).length, .inr (.inr (.inr (.inr gk_6))))) := by rw [hff9, gh_un (gh_nek h_ka_6_f8 h_Z__1000___k__f8 (show (100 : Nat) ≠ 5 by decide))]; exact h_ka_6_f8
              have h_ia_6_f9 : f9 ia_6 = some (.inl (E.2.2.1 4, vt_c X, .inr (.inr (.inr (.inr gi_6))))) := by rw [hff9, gh_un (gh_nek h_ia_6_f8 h_Z__1000___k__f8 (show (100 : Nat) ≠ 5 by decide))]; exact h_ia_6_f8
              have h_Z__1000___k__f9 : f9 (Z (1000 + k)) = some (.inr (5, [.int (nI pt), .int (nI (19 - n)), .ref it, .ref el, .null, ro Z se, .int (nI gv), .int (nI (p1 + 1)), .ref va])) := by rw [hff9, gh_us]
              have hRc := hR
              obtain ⟨h1R, ⟨hz, ⟨p206, p207⟩, ⟨gS, hgS, hgS2⟩, ⟨gG, hgG, hgG2⟩, hVR, hqR, hcdR, hbaR, hN60, hq0⟩, ⟨hgaV, hgaR⟩, hSR, hnon⟩ := hRc
              obtain ⟨pvsR, hvsR, hnuR, hnoR, hyeR, -⟩ := id hVR
              refine lv_aload_n hx hb d_Ru_askDeep_119 rfl (lv_at hl 3 rfl) ?_
              refine gh_get C V h_Z__1000___k__f9 gc_St gi_St 4 (by decide) f_Ru_87 rfl rfl d_Ru_askDeep_120 ?_
              refine lv_ifnonnullN hx hb d_Ru_askDeep_123 ?_
              refine lv_iconst (v := 2) hx hb d_Ru_askDeep_126 (by decide) ?_
              refine gh_reti hAe C V hr hlocks d_Ru_askDeep_127 (by first | decide | omega | (dsimp only; omega)) (by first | decide | omega | (dsimp only; omega)) ?_
              exact ⟨φc, bc, hR, ⟨by omega, by omega⟩, hfr, Or.inl ⟨by omega, rfl, hφ0⟩, fun z => absurd z (rv_ne (by decide))⟩
            · obtain ⟨rfl, hR, hsb, hfr4⟩ := hp.2 (by omega)
              have hs1 := hfr4.at hs1 (fun z => by have e9 := hz (1000 + k) (by unfold rU; omega); rcases z with z | z <;> omega)
              have hfr : gh_fr f g4 (rn_M ρ (20 - (n + 1)) b F) := hfr.tr hfr4 (fun a _ _ z => by rcases z with z | z; exact Or.inl z; exact Or.inr (Or.inr (Or.inr (Or.inl (by omega)))))
              have hM4 : ∀ a, (ρ a = 1 ∨ ρ a = 1000 + bc) → ¬ rP ρ a := fun a z z2 => by have z2 : ρ a = 0 := z2; omega
              have hit := hit.keep hfr4 hM4
              have hel := hel.keep hfr4 hM4
              have hva := hva.keep hfr4 hM4
              have hsub := hsub.keep hfr4 hM4
              refine W.eq (g2 := F0 m 106 ls [.ref (Z (1000 + bc)), .ref (Z (1000 + k))]) rfl ?_
              have hRc := hR
              obtain ⟨h1R, ⟨hz, ⟨p206, p207⟩, ⟨gS, hgS, hgS2⟩, ⟨gG, hgG, hgG2⟩, hVR, hqR, hcdR, hbaR, hN60, hq0⟩, ⟨hgaV, hgaR⟩, hSR, hnon⟩ := hRc
              obtain ⟨pvsR, hvsR, hnuR, hnoR, hyeR, -⟩ := id hVR
              refine gh_put C V hs1 gc_St gi_St ty_St nm_St 4 (by decide) f_Ru_87 rfl (by first | rfl | decide) (by first | rfl | decide) (Nat.le_of_ble_eq_true rfl) d_Ru_askDeep_106 (fun H locs V => ?_)
              obtain ⟨f10, hff10⟩ : ∃ z9 : gh_F, z9 = gh_u g4 (Z (1000 + k)) (.inr (5, [.int (nI pt), .int (nI (19 - n)), .ref it, .ref el, .ref (Z (1000 + bc)), ro Z se, .int (nI gv), .int (nI p1), .ref va])) := ⟨_, rfl⟩
              have V : gh_V E A f10 s H locs := by rw [hff10]; exact V
              have hR : rn_R E ρ Z f10 q0 N cb bg (φc - 1) (bc + 1) s0 e0 := by rw [hff10]; exact hR.step (k := k) hk250
              have hfr : gh_fr f f10 (rn_M ρ (20 - (n + 1)) b F) := by rw [hff10]; exact hfr.put (Or.inl (Or.inr (Or.inr (Or.inr (Or.inr ⟨k, hFk, hz _ (by unfold rU; omega)⟩)))))
              have h_Z__1000___bc__f10 : f10 (Z (1000 + bc)) = some (.inr (5, [.int (nI pt), .int (nI (20 - n)), .ref ((B_6 p1)), .ref el, .null, .null, .int 0, .int 0, .ref (Z 201)])) := by rw [hff10, gh_un (rz_ne hz (by unfold rU; omega) (by unfold rU; omega) (by omega))]; exact hsb
              have h_Z__1000___k__f10 : f10 (Z (1000 + k)) = some (.inr (5, [.int (nI pt), .int (nI (19 - n)), .ref it, .ref el, .ref (Z (1000 + bc)), ro Z se, .int (nI gv), .int (nI p1), .ref va])) := by rw [hff10, gh_us]
              have hRc := hR
              obtain ⟨h1R, ⟨hz, ⟨p206, p207⟩, ⟨gS, hgS, hgS2⟩, ⟨gG, hgG, hgG2⟩, hVR, hqR, hcdR, hbaR, hN60, hq0⟩, ⟨hgaV, hgaR⟩, hSR, hnon⟩ := hRc
              obtain ⟨pvsR, hvsR, hnuR, hnoR, hyeR, -⟩ := id hVR
              refine lv_aload_n hx hb d_Ru_askDeep_109 rfl (lv_at hl 3 rfl) ?_
              refine lv_dup hx hb d_Ru_askDeep_110 rfl ?_
              refine gh_get C V h_Z__1000___k__f10 gc_St gi_St 7 (by decide) f_Ru_97 rfl rfl d_Ru_askDeep_111 ?_
              refine lv_iconst (v := 1) hx hb d_Ru_askDeep_114 (by decide) ?_
              refine gn_iadd (a := p1) (b := 1) hx hb d_Ru_askDeep_115 ?_
              refine gh_put C V h_Z__1000___k__f10 gc_St gi_St ty_St nm_St 7 (by decide) f_Ru_97 rfl (by first | rfl | decide) (by first | rfl | decide) (Nat.le_of_ble_eq_true rfl) d_Ru_askDeep_116 (fun H locs V => ?_)
              obtain ⟨f11, hff11⟩ : ∃ z9 : gh_F, z9 = gh_u f10 (Z (1000 + k)) (.inr (5, [.int (nI pt), .int (nI (19 - n)), .ref it, .ref el, .ref (Z (1000 + bc)), ro Z se, .int (nI gv), .int (nI (p1 + 1)), .ref va])) := ⟨_, rfl⟩
              have V : gh_V E A f11 s H locs := by rw [hff11]; exact V
              have hR : rn_R E ρ Z f11 q0 N cb bg (φc - 1) (bc + 1) s0 e0 := by rw [hff11]; exact hR.step (k := k) hk250
              have hfr : gh_fr f f11 (rn_M ρ (20 - (n + 1)) b F) := by rw [hff11]; exact hfr.put (Or.inl (Or.inr (Or.inr (Or.inr (Or.inr ⟨k, hFk, hz _ (by unfold rU; omega)⟩)))))
              have h_Z__1000___bc__f11 : f11 (Z (1000 + bc)) = some (.inr (5, [.int (nI pt), .int (nI (20 - n)), .ref ((B_6 p1)), .ref el, .null, .null, .int 0, .int 0, .ref (Z 201)])) := by rw [hff11, gh_un (rz_ne hz (by unfold rU; omega) (by unfold rU; omega) (by omega))]; exact h_Z__1000___bc__f10
              have h_Z__1000___k__f11 : f11 (Z (1000 + k)) = some (.inr (5, [.int (nI pt), .int (nI (19 - n)), .ref it, .ref el, .ref (Z (1000 + bc)), ro Z se, .int (nI gv), .int (nI (p1 + 1)), .ref va])) := by rw [hff11, gh_us]
              have hRc := hR
              obtain ⟨h1R, ⟨hz, ⟨p206, p207⟩, ⟨gS, hgS, hgS2⟩, ⟨gG, hgG, hgG2⟩, hVR, hqR, hcdR, hbaR, hN60, hq0⟩, ⟨hgaV, hgaR⟩, hSR, hnon⟩ := hRc
              obtain ⟨pvsR, hvsR, hnuR, hnoR, hyeR, -⟩ := id hVR
              refine lv_aload_n hx hb d_Ru_askDeep_119 rfl (lv_at hl 3 rfl) ?_
              refine gh_get C V h_Z__1000___k__f11 gc_St gi_St 4 (by decide) f_Ru_87 rfl rfl d_Ru_askDeep_120 ?_
              refine lv_ifnonnull (tgt := 128) hx hb d_Ru_askDeep_123 (by decide) ?_
              refine lv_iinc (k := 1) (v := (nI i9) + 1) hx hb d_Ru_askDeep_128 hl rfl (by rfl) (by decide) rfl (fun ls hl => ?_)
              have hl : lv_has ls 4 [(2, .int (nI (i9 + 1))), (3, .int 0), (0, .ref (Z 1)), (1, .ref (Z (1000 + k)))] := by rw [nI_succ]; exact hl
              refine lv_goto (tgt := 18) hx hb d_Ru_askDeep_131 (by decide) ?_
              have hl : lv_has ls 4 [(2, .int (nI (i9 + 1))), (0, .ref (Z 1)), (1, .ref (Z (1000 + k)))] := lv_sub hl [0, 2, 3] rfl
              have hl : lv_has ls 4 [(2, .int (nI (i9 + 1))), (0, .ref (Z 1)), (1, .ref (Z (1000 + k)))] := hl
              have hMk : ∀ a, ρ a = 1000 + k → ¬ rP ρ a := fun a z z2 => by have z2 : ρ a = 0 := z2; omega
              have hek : ρ (Z (1000 + k)) = 1000 + k := hz _ (by unfold rU; omega)
              have hfk : gh_fr g4 f11 (fun a => ρ a = 1000 + k) := by rw [hff11, hff10]; exact gh_fr.put (M := fun a => ρ a = 1000 + k) (gh_fr.put (M := fun a => ρ a = 1000 + k) gh_fr.rf (Or.inl hek)) (Or.inl hek)
              have hnw := rs_new (Y := Y) (φ := φc - 1) (rs_deep (j := p1) hqw hkd hn19 hX (hsubh p1 hp1)) (by omega) (by omega) h_Z__1000___bc__f11 (hsub.keep hfk hMk) (hel.keep hfk hMk) hnuR
              refine W.widen (by first | omega | (dsimp only; omega)) (by first | omega | (dsimp only; omega)) (ih (i9 + 1) (φc - 1) (bc + 1) (cc + 1) 1 (p1 + 1) (some bc) f11 H locs ls (by omega) (by omega) hR ⟨by omega, by omega⟩ ⟨by omega, by omega, by omega, by omega⟩ hfr h_Z__1000___k__f11 (Or.inr ⟨bc, vt_0 0, _, fun i => i = bc, rfl, hnw, fun i hi => Or.inr ⟨by omega, by omega⟩, fun z => by omega, hTn⟩) (hit.keep hfk hMk) (hel.keep hfk hMk) (hva.keep hfk hMk) V hl)
          · have c7 : ¬ p1 < (vt_c X) := by rw [← gq_lt (a := p1) (b := vt_c X) (by omega) (by omega)]; exact c7
            refine lv_iconst (v := 0) hx hb d_Ru_askDeep_73 (by decide) ?_
            refine gh_reti hAe C V hr hlocks d_Ru_askDeep_74 (by first | decide | omega | (dsimp only; omega)) (by first | decide | omega | (dsimp only; omega)) ?_
            exact ⟨φc, bc, hR, ⟨by omega, by omega⟩, hfr, Or.inr (Or.inl ⟨cc, by rw [hTc, show vt_c X - p1 = 0 by omega]; rfl, by omega, rfl, by omega⟩), fun _ => ⟨_, _, _, _, _, _, _, _, va, hs1, hva⟩⟩
        · subst hfo
          have hs1 : f1 (Z (1000 + k)) = some (.inr (5, [.int (nI pt), .int (nI (19 - n)), .ref it, .ref el, .ref (Z (1000 + j1)), ro Z se, .int (nI gv), .int (nI p1), .ref va])) := hs1
          have hcT : sr_c T = cc + sr_c (sr_seq T1 (sr_its (fun Z => sr_D cb bg n pt Z Y) X (vt_c X - p1) p1)) := by rw [hTc, sr_c_add]
          have hcS := sr_seq_c (T := T1) (U := (sr_its (fun Z => sr_D cb bg n pt Z Y) X (vt_c X - p1) p1))
          refine lv_iload_n hx hb d_Ru_askDeep_18 rfl (lv_at hl 0 rfl) ?_
          refine lv_bipush (v := 16) hx hb d_Ru_askDeep_19 (by decide) ?_
          refine lv_icmp_gt (tgt := 134) hx hb d_Ru_askDeep_21 (by decide) (fun c12 => absurd c12 (nI_nlt (a := 16) (b := i9) (by omega) (by omega))) (fun c12 => ?_)
          refine lv_aload_n hx hb d_Ru_askDeep_24 rfl (lv_at hl 2 rfl) ?_
          refine gh_get C V hs1 gc_St gi_St 4 (by decide) f_Ru_87 rfl rfl d_Ru_askDeep_25 ?_
          refine lv_ifnonnull (tgt := 35) hx hb d_Ru_askDeep_28 (by decide) ?_
          refine lv_aload_n hx hb d_Ru_askDeep_35 rfl (lv_at hl 1 rfl) ?_
          refine lv_aload_n hx hb d_Ru_askDeep_36 rfl (lv_at hl 2 rfl) ?_
          refine gh_get C V hs1 gc_St gi_St 4 (by decide) f_Ru_87 rfl rfl d_Ru_askDeep_37 ?_
          refine gh_callV C V hl.1 m_Ru_ask l_Ru_64 (IH _ f1 φc bc s0 e0 u1 j1 v1 T1 F1 hR (by omega) (fun i hi => by rcases a1 i hi with z | z; have := hFb i z; omega; omega) hr1) rfl h1R gc_Ru ⟨by first | decide | omega | (dsimp only; omega), by first | decide | omega | (dsimp only; omega)⟩ ⟨by first | decide | omega | (dsimp only; omega), by first | decide | omega | (dsimp only; omega)⟩ (Nat.le_of_ble_eq_true rfl) rfl d_Ru_askDeep_40 (fun r gz1 H locs hp V => ?_)
          obtain ⟨φz1, bz1, hR, ⟨hbz1, hcz1⟩, hfrz1, hPz1, -⟩ := hp
          have hs1 := hfrz1.at hs1 (rn_M.st hz hk250 (by omega) a3)
          have hfr : gh_fr f gz1 (rn_M ρ (20 - (n + 1)) b F) := hfr.tr hfrz1 (fun a _ _ z => rn_M.le (by omega) (fun i hi => by rcases a1 i hi with z | z; exact Or.inl z; exact Or.inr ⟨z.1, by omega⟩) hbb1 a z)
          have hit := hit.keep hfrz1 rn_M.P
          have hel := hel.keep hfrz1 rn_M.P
          have hva := hva.keep hfrz1 rn_M.P
          have hRc := hR
          obtain ⟨h1R, ⟨hz, ⟨p206, p207⟩, ⟨gS, hgS, hgS2⟩, ⟨gG, hgG, hgG2⟩, hVR, hqR, hcdR, hbaR, hN60, hq0⟩, ⟨hgaV, hgaR⟩, hSR, hnon⟩ := hRc
          obtain ⟨pvsR, hvsR, hnuR, hnoR, hyeR, -⟩ := id hVR
          rcases hPz1 with ⟨h1z1, rfl, h3z1⟩ | ⟨dz1, hTz1, hdz1, rfl, h3z1⟩ | ⟨dz1, hTz1, hdz1, rfl, h3z1⟩ | ⟨dz1, xz1, Rz1, hTz1, hdz1, rfl, h3z1, Fz1, hrsz1, hFz1⟩
          · have hq2 := hs1
            refine W.eq (g2 := F0 m 43 ls [.int 2]) rfl ?_
            refine lv_istore_n hx hb d_Ru_askDeep_43 rfl hl (by decide) rfl (fun ls hl => ?_)
            have hl : lv_has ls 4 [(3, .int 2), (2, .int (nI i9)), (0, .ref (Z 1)), (1, .ref (Z (1000 + k)))] := hl
            refine lv_iload_n hx hb d_Ru_askDeep_44 rfl (lv_at hl 0 rfl) ?_
            refine lv_if_eq (tgt := 58) hx hb d_Ru_askDeep_45 (by decide) (fun c13 => absurd c13 (by decide)) (fun c13 => ?_)
            refine lv_aload_n hx hb d_Ru_askDeep_48 rfl (lv_at hl 3 rfl) ?_
            refine lv_aload_n hx hb d_Ru_askDeep_49 rfl (lv_at hl 3 rfl) ?_
            refine gh_get C V hs1 gc_St gi_St 4 (by decide) f_Ru_87 rfl rfl d_Ru_askDeep_50 ?_
            refine lv_iload_n hx hb d_Ru_askDeep_53 rfl (lv_at hl 0 rfl) ?_
            refine gh_callS C V hl.1 m_Ru_passesOn l_Ru_151 (c_Ru_passesOnR l E _ gz1 (Z (1000 + k)) 2 (Z (1000 + j1)) (by decide)) rfl ⟨by first | decide | omega | (dsimp only; omega), by first | decide | omega | (dsimp only; omega)⟩ ⟨by first | decide | omega | (dsimp only; omega), by first | decide | omega | (dsimp only; omega)⟩ (Nat.le_of_ble_eq_true rfl) rfl d_Ru_askDeep_54 (fun r z9 H locs hp V => ?_)
            obtain ⟨rfl, he9⟩ := hp
            rw [he9] at V
            refine W.eq (g2 := F0 m 57 ls [.int 2]) rfl ?_
            refine gh_reti hAe C V hr hlocks d_Ru_askDeep_57 (by first | decide | omega | (dsimp only; omega)) (by first | decide | omega | (dsimp only; omega)) ?_
            exact ⟨φz1, bz1, hR, ⟨by omega, by omega⟩, hfr, Or.inl ⟨by omega, rfl, by assumption⟩, fun z => absurd z (rv_ne (by decide))⟩
          · have hcd : sr_c T1 = dz1 := by rw [hTz1]; rfl
            have hTc : T = sr_add (cc + dz1) (sr_its (fun Z => sr_D cb bg n pt Z Y) X (vt_c X - p1) p1) := by rw [hTc, hTz1, sr_seq_end, sr_add_add]
            refine W.eq (g2 := F0 m 43 ls [.int 0]) rfl ?_
            refine lv_istore_n hx hb d_Ru_askDeep_43 rfl hl (by decide) rfl (fun ls hl => ?_)
            have hl : lv_has ls 4 [(3, .int 0), (2, .int (nI i9)), (0, .ref (Z 1)), (1, .ref (Z (1000 + k)))] := hl
            refine lv_iload_n hx hb d_Ru_askDeep_44 rfl (lv_at hl 0 rfl) ?_
            refine lv_if_eq (tgt := 58) hx hb d_Ru_askDeep_45 (by decide) (fun c14 => ?_) (fun c14 => absurd (by decide) c14)
            refine lv_aload_n hx hb d_Ru_askDeep_58 rfl (lv_at hl 3 rfl) ?_
            refine gh_get C V hs1 gc_St gi_St 7 (by decide) f_Ru_97 rfl rfl d_Ru_askDeep_59 ?_
            refine lv_aload_n hx hb d_Ru_askDeep_62 rfl (lv_at hl 3 rfl) ?_
            refine gh_get C V hs1 gc_St gi_St 2 (by decide) f_Ru_81 rfl rfl d_Ru_askDeep_63 ?_
            obtain ⟨la_15, ka_15, ia_15, gk_15, gi_15, K_15, B_15, hp_15, h0_15, h1_15, h2_15, h3_15, h4_15, h5_15⟩ := cv_o.mp hit.1
            refine gh_get C V h0_15 gc_Va gi_Va 4 (by decide) f_Ru_148 rfl rfl d_Ru_askDeep_66 ?_
            refine gh_alen (t0 := 4) C V rfl h3_15 (v := nI (vt_c X)) rfl d_Ru_askDeep_69 ?_
            refine lv_icmp_lt (tgt := 75) hx hb d_Ru_askDeep_70 (by decide) (fun c16 => ?_) (fun c16 => ?_)
            · have c16 : p1 < (vt_c X) := by rw [← gq_lt (a := p1) (b := vt_c X) (by omega) (by omega)]; exact c16
              refine lv_aload_n hx hb d_Ru_askDeep_75 rfl (lv_at hl 3 rfl) ?_
              refine lv_aload_n hx hb d_Ru_askDeep_76 rfl (lv_at hl 2 rfl) ?_
              refine lv_aload_n hx hb d_Ru_askDeep_77 rfl (lv_at hl 3 rfl) ?_
              refine gh_get C V hs1 gc_St gi_St 0 (by decide) f_Ru_75 rfl rfl d_Ru_askDeep_78 ?_
              refine lv_aload_n hx hb d_Ru_askDeep_81 rfl (lv_at hl 3 rfl) ?_
              refine gh_get C V hs1 gc_St gi_St 1 (by decide) f_Ru_78 rfl rfl d_Ru_askDeep_82 ?_
              refine lv_iconst (v := 1) hx hb d_Ru_askDeep_85 (by decide) ?_
              refine gn_iadd (a := 19 - n) (b := 1) hx hb d_Ru_askDeep_86 ?_
              rw [show 19 - n + 1 = 20 - n by omega]
              refine lv_aload_n hx hb d_Ru_askDeep_87 rfl (lv_at hl 3 rfl) ?_
              refine gh_get C V hs1 gc_St gi_St 2 (by decide) f_Ru_81 rfl rfl d_Ru_askDeep_88 ?_
              refine gh_get C V h0_15 gc_Va gi_Va 4 (by decide) f_Ru_148 rfl rfl d_Ru_askDeep_91 ?_
              refine lv_aload_n hx hb d_Ru_askDeep_94 rfl (lv_at hl 3 rfl) ?_
              refine gh_get C V hs1 gc_St gi_St 7 (by decide) f_Ru_97 rfl rfl d_Ru_askDeep_95 ?_
              refine gn_aald (t0 := 4) (i := p1) (v := (B_15 p1)) C V rfl h3_15 (by omega) (by omega) (h5_15 p1 (by omega)).1 d_Ru_askDeep_98 ?_
              refine lv_aload_n hx hb d_Ru_askDeep_99 rfl (lv_at hl 3 rfl) ?_
              refine gh_get C V hs1 gc_St gi_St 3 (by decide) f_Ru_84 rfl rfl d_Ru_askDeep_100 ?_
              have hp1 : p1 < vt_c X := by omega
              have hn1 : 1 ≤ n := by have := hsubh p1 hp1; omega
              have hsub := cw_item hit.2 hp1 (h5_15 p1 (by omega)).2
              have hTn : T = sr_add (cc + dz1 + 1) (sr_seq (sr_B cb bg n pt (vt_s X p1) Y) (sr_its (fun Z => sr_D cb bg n pt Z Y) X (vt_c X - (p1 + 1)) (p1 + 1))) := by rw [hTc, show vt_c X - p1 = vt_c X - (p1 + 1) + 1 by omega, sr_its_c, sr_seq_add, sr_add_add]
              have hcn : sr_c T = cc + dz1 + 1 + sr_c (sr_seq (sr_B cb bg n pt (vt_s X p1) Y) (sr_its (fun Z => sr_D cb bg n pt Z Y) X (vt_c X - (p1 + 1)) (p1 + 1))) := by rw [hTn, sr_c_add]
              refine gh_callV C V hl.1 m_Ru_begin l_Ru_60 (c_Ru_begin l E _ gz1 ρ Z q0 N cb bg φz1 bz1 s0 e0 pt (20 - n) ((B_15 p1)) el hR (by omega) (by omega)) rfl h1R gc_Ru ⟨by first | decide | omega | (dsimp only; omega), by first | decide | omega | (dsimp only; omega)⟩ ⟨by first | decide | omega | (dsimp only; omega), by first | decide | omega | (dsimp only; omega)⟩ (Nat.le_of_ble_eq_true rfl) rfl d_Ru_askDeep_103 (fun r g4 H locs hp V => ?_)
              by_cases hφ0 : φz1 = 0
              · obtain ⟨rfl, he9⟩ := hp.1 hφ0
                rw [he9] at V
                refine W.eq (g2 := F0 m 106 ls [.null, .ref (Z (1000 + k))]) rfl ?_
                refine gh_put C V hs1 gc_St gi_St ty_St nm_St 4 (by decide) f_Ru_87 rfl (by first | rfl | decide) (by first | rfl | decide) (Nat.le_of_ble_eq_true rfl) d_Ru_askDeep_106 (fun H locs V => ?_)
                obtain ⟨f17, hff17⟩ : ∃ z9 : gh_F, z9 = gh_u gz1 (Z (1000 + k)) (.inr (5, [.int (nI pt), .int (nI (19 - n)), .ref it, .ref el, .null, ro Z se, .int (nI gv), .int (nI p1), .ref va])) := ⟨_, rfl⟩
                have V : gh_V E A f17 s H locs := by rw [hff17]; exact V
                have hR : rn_R E ρ Z f17 q0 N cb bg φz1 bz1 s0 e0 := by rw [hff17]; exact hR.step (k := k) hk250
                have hfr : gh_fr f f17 (rn_M ρ (20 - (n + 1)) b F) := by rw [hff17]; exact hfr.put (Or.inl (Or.inr (Or.inr (Or.inr (Or.inr ⟨k, hFk, hz _ (by unfold rU; omega)⟩)))))
                have h_it_f17 : f17 it = some (.inr (6, [.int (nI (vt_k X)), .long (vt_n X), .ref la_15, .ref ka_15, .ref ia_15, .int (nI (vt_w X)), .int (nI (vt_h X))])) := by rw [hff17, gh_un (gh_nek h0_15 hs1 (show (6 : Nat) ≠ 5 by decide))]; exact h0_15
                have h_ka_15_f17 : f17 ka_15 = some (.inl (E.2.2.1 4, (vt_q X).length, .inr (.inr (.inr (.inr gk_15))))) := by rw [hff17, gh_un (gh_nek h2_15 hs1 (show (100 : Nat) ≠ 5 by decide))]; exact h2_15
                have h_ia_15_f17 : f17 ia_15 = some (.inl (E.2.2.1 4, vt_c X, .inr (.inr (.inr (.inr gi_15))))) := by rw [hff17, gh_un (gh_nek h3_15 hs1 (show (100 : Nat) ≠ 5 by decide))]; exact h3_15
                have h_Z__1000___k__f17 : f17 (Z (1000 + k)) = some (.inr (5, [.int (nI pt), .int (nI (19 - n)), .ref it, .ref el, .null, ro Z se, .int (nI gv), .int (nI p1), .ref va])) := by rw [hff17, gh_us]
                have hRc := hR
                obtain ⟨h1R, ⟨hz, ⟨p206, p207⟩, ⟨gS, hgS, hgS2⟩, ⟨gG, hgG, hgG2⟩, hVR, hqR, hcdR, hbaR, hN60, hq0⟩, ⟨hgaV, hgaR⟩, hSR, hnon⟩ := hRc
                obtain ⟨pvsR, hvsR, hnuR, hnoR, hyeR, -⟩ := id hVR
                refine lv_aload_n hx hb d_Ru_askDeep_109 rfl (lv_at hl 3 rfl) ?_
                refine lv_dup hx hb d_Ru_askDeep_110 rfl ?_
                refine gh_get C V h_Z__1000___k__f17 gc_St gi_St 7 (by decide) f_Ru_97 rfl rfl d_Ru_askDeep_111 ?_
                refine lv_iconst (v := 1) hx hb d_Ru_askDeep_114 (by decide) ?_
                refine gn_iadd (a := p1) (b := 1) hx hb d_Ru_askDeep_115 ?_
                refine gh_put C V h_Z__1000___k__f17 gc_St gi_St ty_St nm_St 7 (by decide) f_Ru_97 rfl (by first | rfl | decide) (by first | rfl | decide) (Nat.le_of_ble_eq_true rfl) d_Ru_askDeep_116 (fun H locs V => ?_)
                obtain ⟨f18, hff18⟩ : ∃ z9 : gh_F, z9 = gh_u f17 (Z (1000 + k)) (.inr (5, [.int (nI pt), .int (nI (19 - n)), .ref it, .ref el, .null, ro Z se, .int (nI gv), .int (nI (p1 + 1)), .ref va])) := ⟨_, rfl⟩
                have V : gh_V E A f18 s H locs := by rw [hff18]; exact V
                have hR : rn_R E ρ Z f18 q0 N cb bg φz1 bz1 s0 e0 := by rw [hff18]; exact hR.step (k := k) hk250
                have hfr : gh_fr f f18 (rn_M ρ (20 - (n + 1)) b F) := by rw [hff18]; exact hfr.put (Or.inl (Or.inr (Or.inr (Or.inr (Or.inr ⟨k, hFk, hz _ (by unfold rU; omega)⟩)))))
                have h_it_f18 : f18 it = some (.inr (6, [.int (nI (vt_k X)), .long (vt_n X), .ref la_15, .ref ka_15, .ref ia_15, .int (nI (vt_w X)), .int (nI (vt_h X))])) := by rw [hff18, gh_un (gh_nek h_it_f17 h_Z__1000___k__f17 (show (6 : Nat) ≠ 5 by decide))]; exact h_it_f17
                have h_ka_15_f18 : f18 ka_15 = some (.inl (E.2.2.1 4, (vt_q X).length, .inr (.inr (.inr (.inr gk_15))))) := by rw [hff18, gh_un (gh_nek h_ka_15_f17 h_Z__1000___k__f17 (show (100 : Nat) ≠ 5 by decide))]; exact h_ka_15_f17
                have h_ia_15_f18 : f18 ia_15 = some (.inl (E.2.2.1 4, vt_c X, .inr (.inr (.inr (.inr gi_15))))) := by rw [hff18, gh_un (gh_nek h_ia_15_f17 h_Z__1000___k__f17 (show (100 : Nat) ≠ 5 by decide))]; exact h_ia_15_f17
                have h_Z__1000___k__f18 : f18 (Z (1000 + k)) = some (.inr (5, [.int (nI pt), .int (nI (19 - n)), .ref it, .ref el, .null, ro Z se, .int (nI gv), .int (nI (p1 + 1)), .ref va])) := by rw [hff18, gh_us]
                have hRc := hR
                obtain ⟨h1R, ⟨hz, ⟨p206, p207⟩, ⟨gS, hgS, hgS2⟩, ⟨gG, hgG, hgG2⟩, hVR, hqR, hcdR, hbaR, hN60, hq0⟩, ⟨hgaV, hgaR⟩, hSR, hnon⟩ := hRc
                obtain ⟨pvsR, hvsR, hnuR, hnoR, hyeR, -⟩ := id hVR
                refine lv_aload_n hx hb d_Ru_askDeep_119 rfl (lv_at hl 3 rfl) ?_
                refine gh_get C V h_Z__1000___k__f18 gc_St gi_St 4 (by decide) f_Ru_87 rfl rfl d_Ru_askDeep_120 ?_
                refine lv_ifnonnullN hx hb d_Ru_askDeep_123 ?_
                refine lv_iconst (v := 2) hx hb d_Ru_askDeep_126 (by decide) ?_
                refine gh_reti hAe C V hr hlocks d_Ru_askDeep_127 (by first | decide | omega | (dsimp only; omega)) (by first | decide | omega | (dsimp only; omega)) ?_
                exact ⟨φz1, bz1, hR, ⟨by omega, by omega⟩, hfr, Or.inl ⟨by omega, rfl, hφ0⟩, fun z => absurd z (rv_ne (by decide))⟩
              · obtain ⟨rfl, hR, hsb, hfr4⟩ := hp.2 (by omega)
                have hs1 := hfr4.at hs1 (fun z => by have e9 := hz (1000 + k) (by unfold rU; omega); rcases z with z | z <;> omega)
                have hfr : gh_fr f g4 (rn_M ρ (20 - (n + 1)) b F) := hfr.tr hfr4 (fun a _ _ z => by rcases z with z | z; exact Or.inl z; exact Or.inr (Or.inr (Or.inr (Or.inl (by omega)))))
                have hM4 : ∀ a, (ρ a = 1 ∨ ρ a = 1000 + bz1) → ¬ rP ρ a := fun a z z2 => by have z2 : ρ a = 0 := z2; omega
                have hit := hit.keep hfr4 hM4
                have hel := hel.keep hfr4 hM4
                have hva := hva.keep hfr4 hM4
                have hsub := hsub.keep hfr4 hM4
                refine W.eq (g2 := F0 m 106 ls [.ref (Z (1000 + bz1)), .ref (Z (1000 + k))]) rfl ?_
                have hRc := hR
                obtain ⟨h1R, ⟨hz, ⟨p206, p207⟩, ⟨gS, hgS, hgS2⟩, ⟨gG, hgG, hgG2⟩, hVR, hqR, hcdR, hbaR, hN60, hq0⟩, ⟨hgaV, hgaR⟩, hSR, hnon⟩ := hRc
                obtain ⟨pvsR, hvsR, hnuR, hnoR, hyeR, -⟩ := id hVR
                refine gh_put C V hs1 gc_St gi_St ty_St nm_St 4 (by decide) f_Ru_87 rfl (by first | rfl | decide) (by first | rfl | decide) (Nat.le_of_ble_eq_true rfl) d_Ru_askDeep_106 (fun H locs V => ?_)
                obtain ⟨f19, hff19⟩ : ∃ z9 : gh_F, z9 = gh_u g4 (Z (1000 + k)) (.inr (5, [.int (nI pt), .int (nI (19 - n)), .ref it, .ref el, .ref (Z (1000 + bz1)), ro Z se, .int (nI gv), .int (nI p1), .ref va])) := ⟨_, rfl⟩
                have V : gh_V E A f19 s H locs := by rw [hff19]; exact V
                have hR : rn_R E ρ Z f19 q0 N cb bg (φz1 - 1) (bz1 + 1) s0 e0 := by rw [hff19]; exact hR.step (k := k) hk250
                have hfr : gh_fr f f19 (rn_M ρ (20 - (n + 1)) b F) := by rw [hff19]; exact hfr.put (Or.inl (Or.inr (Or.inr (Or.inr (Or.inr ⟨k, hFk, hz _ (by unfold rU; omega)⟩)))))
                have h_Z__1000___bz1__f19 : f19 (Z (1000 + bz1)) = some (.inr (5, [.int (nI pt), .int (nI (20 - n)), .ref ((B_15 p1)), .ref el, .null, .null, .int 0, .int 0, .ref (Z 201)])) := by rw [hff19, gh_un (rz_ne hz (by unfold rU; omega) (by unfold rU; omega) (by omega))]; exact hsb
                have h_Z__1000___k__f19 : f19 (Z (1000 + k)) = some (.inr (5, [.int (nI pt), .int (nI (19 - n)), .ref it, .ref el, .ref (Z (1000 + bz1)), ro Z se, .int (nI gv), .int (nI p1), .ref va])) := by rw [hff19, gh_us]
                have hRc := hR
                obtain ⟨h1R, ⟨hz, ⟨p206, p207⟩, ⟨gS, hgS, hgS2⟩, ⟨gG, hgG, hgG2⟩, hVR, hqR, hcdR, hbaR, hN60, hq0⟩, ⟨hgaV, hgaR⟩, hSR, hnon⟩ := hRc
                obtain ⟨pvsR, hvsR, hnuR, hnoR, hyeR, -⟩ := id hVR
                refine lv_aload_n hx hb d_Ru_askDeep_109 rfl (lv_at hl 3 rfl) ?_
                refine lv_dup hx hb d_Ru_askDeep_110 rfl ?_
                refine gh_get C V h_Z__1000___k__f19 gc_St gi_St 7 (by decide) f_Ru_97 rfl rfl d_Ru_askDeep_111 ?_
                refine lv_iconst (v := 1) hx hb d_Ru_askDeep_114 (by decide) ?_
                refine gn_iadd (a := p1) (b := 1) hx hb d_Ru_askDeep_115 ?_
                refine gh_put C V h_Z__1000___k__f19 gc_St gi_St ty_St nm_St 7 (by decide) f_Ru_97 rfl (by first | rfl | decide) (by first | rfl | decide) (Nat.le_of_ble_eq_true rfl) d_Ru_askDeep_116 (fun H locs V => ?_)
                obtain ⟨f20, hff20⟩ : ∃ z9 : gh_F, z9 = gh_u f19 (Z (1000 + k)) (.inr (5, [.int (nI pt), .int (nI (19 - n)), .ref it, .ref el, .ref (Z (1000 + bz1)), ro Z se, .int (nI gv), .int (nI (p1 + 1)), .ref va])) := ⟨_, rfl⟩
                have V : gh_V E A f20 s H locs := by rw [hff20]; exact V
                have hR : rn_R E ρ Z f20 q0 N cb bg (φz1 - 1) (bz1 + 1) s0 e0 := by rw [hff20]; exact hR.step (k := k) hk250
                have hfr : gh_fr f f20 (rn_M ρ (20 - (n + 1)) b F) := by rw [hff20]; exact hfr.put (Or.inl (Or.inr (Or.inr (Or.inr (Or.inr ⟨k, hFk, hz _ (by unfold rU; omega)⟩)))))
                have h_Z__1000___bz1__f20 : f20 (Z (1000 + bz1)) = some (.inr (5, [.int (nI pt), .int (nI (20 - n)), .ref ((B_15 p1)), .ref el, .null, .null, .int 0, .int 0, .ref (Z 201)])) := by rw [hff20, gh_un (rz_ne hz (by unfold rU; omega) (by unfold rU; omega) (by omega))]; exact h_Z__1000___bz1__f19
                have h_Z__1000___k__f20 : f20 (Z (1000 + k)) = some (.inr (5, [.int (nI pt), .int (nI (19 - n)), .ref it, .ref el, .ref (Z (1000 + bz1)), ro Z se, .int (nI gv), .int (nI (p1 + 1)), .ref va])) := by rw [hff20, gh_us]
                have hRc := hR
                obtain ⟨h1R, ⟨hz, ⟨p206, p207⟩, ⟨gS, hgS, hgS2⟩, ⟨gG, hgG, hgG2⟩, hVR, hqR, hcdR, hbaR, hN60, hq0⟩, ⟨hgaV, hgaR⟩, hSR, hnon⟩ := hRc
                obtain ⟨pvsR, hvsR, hnuR, hnoR, hyeR, -⟩ := id hVR
                refine lv_aload_n hx hb d_Ru_askDeep_119 rfl (lv_at hl 3 rfl) ?_
                refine gh_get C V h_Z__1000___k__f20 gc_St gi_St 4 (by decide) f_Ru_87 rfl rfl d_Ru_askDeep_120 ?_
                refine lv_ifnonnull (tgt := 128) hx hb d_Ru_askDeep_123 (by decide) ?_
                refine lv_iinc (k := 1) (v := (nI i9) + 1) hx hb d_Ru_askDeep_128 hl rfl (by rfl) (by decide) rfl (fun ls hl => ?_)
                have hl : lv_has ls 4 [(2, .int (nI (i9 + 1))), (3, .int 0), (0, .ref (Z 1)), (1, .ref (Z (1000 + k)))] := by rw [nI_succ]; exact hl
                refine lv_goto (tgt := 18) hx hb d_Ru_askDeep_131 (by decide) ?_
                have hl : lv_has ls 4 [(2, .int (nI (i9 + 1))), (0, .ref (Z 1)), (1, .ref (Z (1000 + k)))] := lv_sub hl [0, 2, 3] rfl
                have hl : lv_has ls 4 [(2, .int (nI (i9 + 1))), (0, .ref (Z 1)), (1, .ref (Z (1000 + k)))] := hl
                have hMk : ∀ a, ρ a = 1000 + k → ¬ rP ρ a := fun a z z2 => by have z2 : ρ a = 0 := z2; omega
                have hek : ρ (Z (1000 + k)) = 1000 + k := hz _ (by unfold rU; omega)
                have hfk : gh_fr g4 f20 (fun a => ρ a = 1000 + k) := by rw [hff20, hff19]; exact gh_fr.put (M := fun a => ρ a = 1000 + k) (gh_fr.put (M := fun a => ρ a = 1000 + k) gh_fr.rf (Or.inl hek)) (Or.inl hek)
                have hnw := rs_new (Y := Y) (φ := φz1 - 1) (rs_deep (j := p1) hqw hkd hn19 hX (hsubh p1 hp1)) (by omega) (by omega) h_Z__1000___bz1__f20 (hsub.keep hfk hMk) (hel.keep hfk hMk) hnuR
                refine W.widen (by first | omega | (dsimp only; omega)) (by first | omega | (dsimp only; omega)) (ih (i9 + 1) (φz1 - 1) (bz1 + 1) (cc + dz1 + 1) 1 (p1 + 1) (some bz1) f20 H locs ls (by omega) (by omega) hR ⟨by omega, by omega⟩ ⟨by omega, by omega, by omega, by omega⟩ hfr h_Z__1000___k__f20 (Or.inr ⟨bz1, vt_0 0, _, fun i => i = bz1, rfl, hnw, fun i hi => Or.inr ⟨by omega, by omega⟩, fun z => by omega, hTn⟩) (hit.keep hfk hMk) (hel.keep hfk hMk) (hva.keep hfk hMk) V hl)
            · have c16 : ¬ p1 < (vt_c X) := by rw [← gq_lt (a := p1) (b := vt_c X) (by omega) (by omega)]; exact c16
              refine lv_iconst (v := 0) hx hb d_Ru_askDeep_73 (by decide) ?_
              refine gh_reti hAe C V hr hlocks d_Ru_askDeep_74 (by first | decide | omega | (dsimp only; omega)) (by first | decide | omega | (dsimp only; omega)) ?_
              exact ⟨φz1, bz1, hR, ⟨by omega, by omega⟩, hfr, Or.inr (Or.inl ⟨cc + dz1, by rw [hTc, show vt_c X - p1 = 0 by omega]; rfl, by omega, rfl, by omega⟩), fun _ => ⟨_, _, _, _, _, _, _, _, va, hs1, hva⟩⟩
          · have hcd : sr_c T1 = dz1 := by rw [hTz1]; rfl
            refine W.eq (g2 := F0 m 43 ls [.int 1]) rfl ?_
            refine lv_istore_n hx hb d_Ru_askDeep_43 rfl hl (by decide) rfl (fun ls hl => ?_)
            have hl : lv_has ls 4 [(3, .int 1), (2, .int (nI i9)), (0, .ref (Z 1)), (1, .ref (Z (1000 + k)))] := hl
            refine lv_iload_n hx hb d_Ru_askDeep_44 rfl (lv_at hl 0 rfl) ?_
            refine lv_if_eq (tgt := 58) hx hb d_Ru_askDeep_45 (by decide) (fun c21 => absurd c21 (by decide)) (fun c21 => ?_)
            refine lv_aload_n hx hb d_Ru_askDeep_48 rfl (lv_at hl 3 rfl) ?_
            refine lv_aload_n hx hb d_Ru_askDeep_49 rfl (lv_at hl 3 rfl) ?_
            refine gh_get C V hs1 gc_St gi_St 4 (by decide) f_Ru_87 rfl rfl d_Ru_askDeep_50 ?_
            refine lv_iload_n hx hb d_Ru_askDeep_53 rfl (lv_at hl 0 rfl) ?_
            refine gh_callS C V hl.1 m_Ru_passesOn l_Ru_151 (c_Ru_passesOnR l E _ gz1 (Z (1000 + k)) 1 (Z (1000 + j1)) (by decide)) rfl ⟨by first | decide | omega | (dsimp only; omega), by first | decide | omega | (dsimp only; omega)⟩ ⟨by first | decide | omega | (dsimp only; omega), by first | decide | omega | (dsimp only; omega)⟩ (Nat.le_of_ble_eq_true rfl) rfl d_Ru_askDeep_54 (fun r z9 H locs hp V => ?_)
            obtain ⟨rfl, he9⟩ := hp
            rw [he9] at V
            refine W.eq (g2 := F0 m 57 ls [.int 1]) rfl ?_
            refine gh_reti hAe C V hr hlocks d_Ru_askDeep_57 (by first | decide | omega | (dsimp only; omega)) (by first | decide | omega | (dsimp only; omega)) ?_
            exact ⟨φz1, bz1, hR, ⟨by omega, by omega⟩, hfr, Or.inr (Or.inr (Or.inl ⟨cc + dz1, by rw [hTc, hTz1, sr_seq_fail, sr_add_fail], by omega, rfl, by omega⟩)), fun z => absurd z (rv_ne (by decide))⟩
          · have hcd : sr_c T1 = dz1 := by rw [hTz1]; rfl
            obtain ⟨y_0, y_1, y_2, y_3, y_4, y_5, y_6, y_7, az1, hjz1, hxz1, hlz1, hFjz1⟩ := hrsz1.val
            have hltz1 : ∀ i, Fz1 i → i < 250 := fun i hi => by rcases hFz1 i hi with z | z; rcases a1 i z with z | z; have := hFb i z; omega; omega; omega
            have hnkz1 : ¬ Fz1 k := fun z => by rcases hFz1 k z with z | z; exact a3 z; omega
            refine W.eq (g2 := F0 m 43 ls [.int 3]) rfl ?_
            refine lv_istore_n hx hb d_Ru_askDeep_43 rfl hl (by decide) rfl (fun ls hl => ?_)
            have hl : lv_has ls 4 [(3, .int 3), (2, .int (nI i9)), (0, .ref (Z 1)), (1, .ref (Z (1000 + k)))] := hl
            refine lv_iload_n hx hb d_Ru_askDeep_44 rfl (lv_at hl 0 rfl) ?_
            refine lv_if_eq (tgt := 58) hx hb d_Ru_askDeep_45 (by decide) (fun c22 => absurd c22 (by decide)) (fun c22 => ?_)
            refine lv_aload_n hx hb d_Ru_askDeep_48 rfl (lv_at hl 3 rfl) ?_
            refine lv_aload_n hx hb d_Ru_askDeep_49 rfl (lv_at hl 3 rfl) ?_
            refine gh_get C V hs1 gc_St gi_St 4 (by decide) f_Ru_87 rfl rfl d_Ru_askDeep_50 ?_
            refine lv_iload_n hx hb d_Ru_askDeep_53 rfl (lv_at hl 0 rfl) ?_
            refine gh_callS C V hl.1 m_Ru_passesOn l_Ru_151 (c_Ru_passesOn l E _ gz1 ρ Z q0 N cb bg φz1 bz1 s0 e0 k az1 gv _ _ _ _ _ _ _ _ j1 _ _ _ _ _ _ _ _ hR hk250 hs1 hjz1) rfl ⟨by first | decide | omega | (dsimp only; omega), by first | decide | omega | (dsimp only; omega)⟩ ⟨by first | decide | omega | (dsimp only; omega), by first | decide | omega | (dsimp only; omega)⟩ (Nat.le_of_ble_eq_true rfl) rfl d_Ru_askDeep_54 (fun r g23 H locs hp V => ?_)
            obtain ⟨rfl, hR, hs, hfrg⟩ := hp
            refine W.eq (g2 := F0 m 57 ls [.int 3]) rfl ?_
            have hMg : ∀ a, ρ a = 1000 + k → ¬ rP ρ a := fun a z z2 => by have z2 : ρ a = 0 := z2; omega
            have hfr : gh_fr f g23 (rn_M ρ (20 - (n + 1)) b F) := hfr.tr hfrg (fun a _ _ z => Or.inr (Or.inr (Or.inr (Or.inr ⟨k, hFk, z⟩))))
            have hit := hit.keep hfrg hMg
            have hel := hel.keep hfrg hMg
            refine gh_reti hAe C V hr hlocks d_Ru_askDeep_57 (by first | decide | omega | (dsimp only; omega)) (by first | decide | omega | (dsimp only; omega)) ?_
            have hTe : T = sr_cons (cc + dz1) xz1 (sr_seq Rz1 (sr_its (fun Z => sr_D cb bg n pt Z Y) X (vt_c X - p1) p1)) := by rw [hTc, hTz1, sr_seq_cons, sr_add_cons]
            have hzr1 := hzr
            rw [hTe] at hzr1
            exact ⟨φz1, bz1, hR, ⟨by omega, by omega⟩, hfr, Or.inr (Or.inr (Or.inr ⟨cc + dz1, xz1, sr_seq Rz1 (sr_its (fun Z => sr_D cb bg n pt Z Y) X (vt_c X - p1) p1), hTe, by omega, rfl, by omega, fun i => F i ∨ (b ≤ i ∧ i < bz1), rs_mk hs ⟨hk250, hn19, Or.inl hFk⟩ ⟨hqw, hq4, hq6⟩ hit hel (hxz1.keep hfrg hMg) hq16 hzr1 hgv (by omega) (by omega) (rs_run_4 hkd ⟨by omega, Or.inr ⟨j1, xz1, Rz1, Fz1, rfl, (hrsz1.keep hfrg hMg (Nat.le_refl _) (fun i hi z => by have e9 := hz (1000 + i) (by unfold rU; have := hltz1 i hi; omega); have z : ρ (Z (1000 + i)) = 1000 + k := z; exact hnkz1 ((show i = k by omega) ▸ hi))), fun i hi => by rcases hFz1 i hi with z | z; rcases a1 i z with z | z; exact Or.inl z; exact Or.inr (by omega); exact Or.inr (by omega), hnkz1, rfl⟩⟩), fun _ z => z⟩)), fun z => absurd z (rv_ne (by decide))⟩
    exact W.widen (by first | omega | (dsimp only; omega)) (by first | omega | (dsimp only; omega)) (loop 17 0 φ b 0 0 pl fi f _ _ ls (by omega) hplc hR ⟨Nat.le_refl _, Nat.le_refl _⟩ ⟨Nat.zero_le _, rfl, Nat.le_refl _, by omega⟩ hfr hs hst0 hit hel hva V hl)
