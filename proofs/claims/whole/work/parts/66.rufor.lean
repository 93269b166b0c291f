/-! askForEachFirst. Printed by wip/whole/gen_ru12.py. -/
theorem d_Ru_askForEachFirst_0 : decode b_Ru_askForEachFirst 0 = .ok (.iconst 0, 1) := by decide +kernel
theorem d_Ru_askForEachFirst_1 : decode b_Ru_askForEachFirst 1 = .ok (.istore_n 2, 1) := by decide +kernel
theorem d_Ru_askForEachFirst_2 : decode b_Ru_askForEachFirst 2 = .ok (.iload_n 2, 1) := by decide +kernel
theorem d_Ru_askForEachFirst_3 : decode b_Ru_askForEachFirst 3 = .ok (.ldc 164, 2) := by decide +kernel
theorem d_Ru_askForEachFirst_5 : decode b_Ru_askForEachFirst 5 = .ok (.if_icmp .ge 73, 3) := by decide +kernel
theorem d_Ru_askForEachFirst_8 : decode b_Ru_askForEachFirst 8 = .ok (.aload_n 1, 1) := by decide +kernel
theorem d_Ru_askForEachFirst_9 : decode b_Ru_askForEachFirst 9 = .ok (.getfield 91, 3) := by decide +kernel
theorem d_Ru_askForEachFirst_12 : decode b_Ru_askForEachFirst 12 = .ok (.ifnonnull 7, 3) := by decide +kernel
theorem d_Ru_askForEachFirst_15 : decode b_Ru_askForEachFirst 15 = .ok (.iconst 0, 1) := by decide +kernel
theorem d_Ru_askForEachFirst_16 : decode b_Ru_askForEachFirst 16 = .ok (.goto 11, 3) := by decide +kernel
theorem d_Ru_askForEachFirst_19 : decode b_Ru_askForEachFirst 19 = .ok (.aload_n 0, 1) := by decide +kernel
theorem d_Ru_askForEachFirst_20 : decode b_Ru_askForEachFirst 20 = .ok (.aload_n 1, 1) := by decide +kernel
theorem d_Ru_askForEachFirst_21 : decode b_Ru_askForEachFirst 21 = .ok (.getfield 91, 3) := by decide +kernel
theorem d_Ru_askForEachFirst_24 : decode b_Ru_askForEachFirst 24 = .ok (.invokevirtual 64, 3) := by decide +kernel
theorem d_Ru_askForEachFirst_27 : decode b_Ru_askForEachFirst 27 = .ok (.istore_n 3, 1) := by decide +kernel
theorem d_Ru_askForEachFirst_28 : decode b_Ru_askForEachFirst 28 = .ok (.iload_n 3, 1) := by decide +kernel
theorem d_Ru_askForEachFirst_29 : decode b_Ru_askForEachFirst 29 = .ok (.ifCond .eq 5, 3) := by decide +kernel
theorem d_Ru_askForEachFirst_32 : decode b_Ru_askForEachFirst 32 = .ok (.iload_n 3, 1) := by decide +kernel
theorem d_Ru_askForEachFirst_33 : decode b_Ru_askForEachFirst 33 = .ok (.ireturn, 1) := by decide +kernel
theorem d_Ru_askForEachFirst_34 : decode b_Ru_askForEachFirst 34 = .ok (.aload_n 0, 1) := by decide +kernel
theorem d_Ru_askForEachFirst_35 : decode b_Ru_askForEachFirst 35 = .ok (.aload_n 1, 1) := by decide +kernel
theorem d_Ru_askForEachFirst_36 : decode b_Ru_askForEachFirst 36 = .ok (.invokevirtual 155, 3) := by decide +kernel
theorem d_Ru_askForEachFirst_39 : decode b_Ru_askForEachFirst 39 = .ok (.istore_n 3, 1) := by decide +kernel
theorem d_Ru_askForEachFirst_40 : decode b_Ru_askForEachFirst 40 = .ok (.iload_n 3, 1) := by decide +kernel
theorem d_Ru_askForEachFirst_41 : decode b_Ru_askForEachFirst 41 = .ok (.iconst 3, 1) := by decide +kernel
theorem d_Ru_askForEachFirst_42 : decode b_Ru_askForEachFirst 42 = .ok (.if_icmp .eq 5, 3) := by decide +kernel
theorem d_Ru_askForEachFirst_45 : decode b_Ru_askForEachFirst 45 = .ok (.iload_n 3, 1) := by decide +kernel
theorem d_Ru_askForEachFirst_46 : decode b_Ru_askForEachFirst 46 = .ok (.ireturn, 1) := by decide +kernel
theorem d_Ru_askForEachFirst_47 : decode b_Ru_askForEachFirst 47 = .ok (.aload_n 1, 1) := by decide +kernel
theorem d_Ru_askForEachFirst_48 : decode b_Ru_askForEachFirst 48 = .ok (.aload_n 0, 1) := by decide +kernel
theorem d_Ru_askForEachFirst_49 : decode b_Ru_askForEachFirst 49 = .ok (.aload_n 1, 1) := by decide +kernel
theorem d_Ru_askForEachFirst_50 : decode b_Ru_askForEachFirst 50 = .ok (.aload_n 1, 1) := by decide +kernel
theorem d_Ru_askForEachFirst_51 : decode b_Ru_askForEachFirst 51 = .ok (.getfield 87, 3) := by decide +kernel
theorem d_Ru_askForEachFirst_54 : decode b_Ru_askForEachFirst 54 = .ok (.getfield 68, 3) := by decide +kernel
theorem d_Ru_askForEachFirst_57 : decode b_Ru_askForEachFirst 57 = .ok (.invokevirtual 222, 3) := by decide +kernel
theorem d_Ru_askForEachFirst_60 : decode b_Ru_askForEachFirst 60 = .ok (.putfield 91, 3) := by decide +kernel
theorem d_Ru_askForEachFirst_63 : decode b_Ru_askForEachFirst 63 = .ok (.aload_n 1, 1) := by decide +kernel
theorem d_Ru_askForEachFirst_64 : decode b_Ru_askForEachFirst 64 = .ok (.getfield 91, 3) := by decide +kernel
theorem d_Ru_askForEachFirst_67 : decode b_Ru_askForEachFirst 67 = .ok (.ifnonnull 5, 3) := by decide +kernel
theorem d_Ru_askForEachFirst_70 : decode b_Ru_askForEachFirst 70 = .ok (.iconst 2, 1) := by decide +kernel
theorem d_Ru_askForEachFirst_71 : decode b_Ru_askForEachFirst 71 = .ok (.ireturn, 1) := by decide +kernel
theorem d_Ru_askForEachFirst_72 : decode b_Ru_askForEachFirst 72 = .ok (.iinc 2 1, 3) := by decide +kernel
theorem d_Ru_askForEachFirst_75 : decode b_Ru_askForEachFirst 75 = .ok (.goto (-73), 3) := by decide +kernel
theorem d_Ru_askForEachFirst_78 : decode b_Ru_askForEachFirst 78 = .ok (.iconst 2, 1) := by decide +kernel
theorem d_Ru_askForEachFirst_79 : decode b_Ru_askForEachFirst 79 = .ok (.ireturn, 1) := by decide +kernel
set_option maxHeartbeats 4000000 in
set_option maxRecDepth 100000 in
theorem c_Ru_askForEachFirst (l : Launch) (E : gh_E) (sz : Nat) (f : gh_F) (ρ Z : Nat → Nat) (q0 N : Nat) (cb bg : Nat → Nat) (φ b : Nat) (s0 e0 : Int32) (n k pt w9 it el : Nat) (fi se : Option Nat) (y6 y7 y8 : Value) (X Y : vt) (Bs : Nat → (vt → vt → Option vt) → sr) (F : Nat → Prop) (hR : rn_R E ρ Z f q0 N cb bg φ b s0 e0) (hφb : φ + b ≤ 250) (hFb : ∀ j, F j → j < b) (hFk : F k) (hn19 : n ≤ 19) (hqw : qw cb bg N w9 pt) (hq6 : cb pt ≠ 4 → w9 + 6 ≤ n) (hs : f (Z (1000 + k)) = some (.inr (5, [.int (nI pt), .int (nI (19 - n)), .ref it, .ref el, ro Z fi, ro Z se, y6, y7, y8]))) (hit : cw E (rP ρ) f it X) (hel : cw E (rP ρ) f el Y) (hst : rk_F E ρ Z cb bg N f φ b n k fi se (bg (pt * 3 + 0)) X Y (sr_G (cb pt) (fun i Z W => sr_D cb bg n (bg (pt * 3 + i)) Z W) X Y) 0 0 Bs F) (IH : rk_A l E ρ Z q0 N cb bg n) (hkd : cb pt = 8 ∨ cb pt = 11 ∨ 22 ≤ cb pt) : gh_M l y_Ru_askForEachFirst b_Ru_askForEachFirst 4 (some .int) E sz [.ref (Z 1), .ref (Z (1000 + k))] f { frames := 24 + 6 * n, cells := 3 * min (sr_c (Bs 0 (fun _ y => some y))) φ, slots := 39 * min (sr_c (Bs 0 (fun _ y => some y))) φ, locals := 840 + 200 * n } (fun r g => ∃ φ1 b1 fo so, rn_R E ρ Z g q0 N cb bg φ1 b1 s0 e0 ∧ (b ≤ b1 ∧ b1 + φ1 ≤ b + φ) ∧ gh_fr f g (rn_M ρ (20 - n) b F) ∧ g (Z (1000 + k)) = some (.inr (5, [.int (nI pt), .int (nI (19 - n)), .ref it, .ref el, ro Z fo, ro Z so, y6, y7, y8])) ∧ rk_E φ (sr_G (cb pt) (fun i Z W => sr_D cb bg n (bg (pt * 3 + i)) Z W) X Y) Bs r φ1 (fun v y T2 T1 => ∃ j1 j2 F1 F2, fo = some j1 ∧ so = some j2 ∧ rs E ρ Z cb bg N g φ1 n 0 j1 v T1 F1 ∧ rs E ρ Z cb bg N g φ1 n 0 j2 y T2 F2 ∧ (∀ i, F1 i → F i ∨ (b ≤ i ∧ i < b1)) ∧ (∀ i, F2 i → F i ∨ (b ≤ i ∧ i < b1)) ∧ ¬ F1 k ∧ ¬ F2 k ∧ ∀ i, F1 i → ¬ F2 i)) := by
  have hkb := hFb k hFk
  have hptN := (qw_lt hqw).1
  have hp26 := (qw_lt hqw).2
  have hX7 := (hit.le).2
  refine gh_open (by decide) (Nat.le_of_ble_eq_true rfl) ?_
  intro p e s m args below meth c A ls hAe C V hr hlocks hname hl
  have hx := C.1
  have hb := C.2.1
  have hl : lv_has ls 4 [(0, .ref (Z 1)), (1, .ref (Z (1000 + k)))] := hl
  have hk250 : k < 250 := by omega
  have hpt60 : pt < 60 := by have := hR.2.1.2.2.2.2.2.2.2.2.1; omega
  have hst0 : rk_F E ρ Z cb bg N f φ b n k fi se (bg (pt * 3 + 0)) X Y (sr_G (cb pt) (fun i Z W => sr_D cb bg n (bg (pt * 3 + i)) Z W) X Y) 0 0 Bs (fun i => F i ∨ (b ≤ i ∧ i < b)) := by
    rcases hst with ⟨h1, h2, T1, F1, h3, h4, h5⟩ | ⟨j1, j2, v1, v2, T1, T2, F1, F2, h1, h2, h3, h4, ⟨h5, h6, h7, h8, h9⟩, h10⟩
    · exact Or.inl ⟨h1, h2, T1, F1, h3, fun i hi => Or.inl (h4 i hi), h5⟩
    · exact Or.inr ⟨j1, j2, v1, v2, T1, T2, F1, F2, h1, h2, h3, h4, ⟨fun i hi => Or.inl (h5 i hi), fun i hi => Or.inl (h6 i hi), h7, h8, h9⟩, h10⟩
  refine lv_iconst (v := 0) hx hb d_Ru_askForEachFirst_0 (by decide) ?_
  refine lv_istore_n hx hb d_Ru_askForEachFirst_1 rfl hl (by decide) rfl (fun ls hl => ?_)
  have hl : lv_has ls 4 [(2, .int 0), (0, .ref (Z 1)), (1, .ref (Z (1000 + k)))] := hl
  have hl : lv_has ls 4 [(2, .int 0), (0, .ref (Z 1)), (1, .ref (Z (1000 + k)))] := lv_sub hl [0, 1, 2] rfl
  have hl : lv_has ls 4 [(2, .int (nI 0)), (0, .ref (Z 1)), (1, .ref (Z (1000 + k)))] := hl
  have loop : ∀ (n9 i9 : Nat) (φc : Nat) (bc : Nat) (cc : Nat) (u : Nat) (fo : Option Nat) (so : Option Nat) (f1 : gh_F) (H : Heap) (locs : List Loc) (ls : Array Slot), (φc < n9) → (i9 + n9 ≤ 300) → (rn_R E ρ Z f1 q0 N cb bg φc bc s0 e0) → (b ≤ bc ∧ bc + φc ≤ b + φ) → (cc ≤ φ ∧ φc = φ - cc ∧ u ≤ cc ∧ u ≤ 1) → (gh_fr f f1 (rn_M ρ (20 - n) b F)) → (f1 (Z (1000 + k)) = some (.inr (5, [.int (nI pt), .int (nI (19 - n)), .ref it, .ref el, ro Z fo, ro Z so, y6, y7, y8]))) → (rk_F E ρ Z cb bg N f1 φc bc n k fo so (bg (pt * 3 + 0)) X Y (sr_G (cb pt) (fun i Z W => sr_D cb bg n (bg (pt * 3 + i)) Z W) X Y) u cc Bs (fun i => F i ∨ (b ≤ i ∧ i < bc))) → gh_V E A f1 s H locs → lv_has ls 4 [(2, .int (nI i9)), (0, .ref (Z 1)), (1, .ref (Z (1000 + k)))] → W p l e { frames := 24 + 6 * n, cells := 3 * min (sr_c (Bs 0 (fun _ y => some y))) φ, slots := 39 * min (sr_c (Bs 0 (fun _ y => some y))) φ, locals := 840 + 200 * n } s m args below meth c H locs (3 * (cc - u)) (39 * (cc - u)) (MQ below (gh_Q E f (fun r g => ∃ φ1 b1 fo so, rn_R E ρ Z g q0 N cb bg φ1 b1 s0 e0 ∧ (b ≤ b1 ∧ b1 + φ1 ≤ b + φ) ∧ gh_fr f g (rn_M ρ (20 - n) b F) ∧ g (Z (1000 + k)) = some (.inr (5, [.int (nI pt), .int (nI (19 - n)), .ref it, .ref el, ro Z fo, ro Z so, y6, y7, y8])) ∧ rk_E φ (sr_G (cb pt) (fun i Z W => sr_D cb bg n (bg (pt * 3 + i)) Z W) X Y) Bs r φ1 (fun v y T2 T1 => ∃ j1 j2 F1 F2, fo = some j1 ∧ so = some j2 ∧ rs E ρ Z cb bg N g φ1 n 0 j1 v T1 F1 ∧ rs E ρ Z cb bg N g φ1 n 0 j2 y T2 F2 ∧ (∀ i, F1 i → F i ∨ (b ≤ i ∧ i < b1)) ∧ (∀ i, F2 i → F i ∨ (b ≤ i ∧ i < b1)) ∧ ¬ F1 k ∧ ¬ F2 k ∧ ∀ i, F1 i → ¬ F2 i))) args s (3 * min (sr_c (Bs 0 (fun _ y => some y))) φ) (39 * min (sr_c (Bs 0 (fun _ y => some y))) φ) A) (F0 m 2 ls []) := by
    intro n9
    induction n9 with
    | zero =>
      intro i9 φc bc cc u fo so f1 H locs ls hm hin hR hbb hcc hfr hs1 hst1 V hl
      exact absurd hm (by omega)
    | succ n9 ih =>
      intro i9 φc bc cc u fo so f1 H locs ls hm hin hR hbb hcc hfr hs1 hst1 V hl
      obtain ⟨hbb1, hbb2⟩ := hbb
      obtain ⟨hcc1, hcc2, hcc3, hcc4⟩ := hcc
      have hRc := hR
      obtain ⟨h1R, ⟨hz, ⟨p206, p207⟩, ⟨gS, hgS, hgS2⟩, ⟨gG, hgG, hgG2⟩, hVR, hqR, hcdR, hbaR, hN60, hq0⟩, ⟨hgaV, hgaR⟩, hSR, hnon⟩ := hRc
      obtain ⟨pvsR, hvsR, hnuR, hnoR, hyeR, -⟩ := id hVR
      have hit1 := hit.keep hfr rn_M.P
      have hel1 := hel.keep hfr rn_M.P
      rcases hst1 with ⟨hso, hu, T1, F1, hS1, hF1, hB⟩ | ⟨j1, j2, v1, v2, T1, T2, F1, F2, hfo, hso, hr1, hr2, ⟨a1, a2, a3, a4, a5⟩, hB⟩
      · subst hso
        have hs1 : f1 (Z (1000 + k)) = some (.inr (5, [.int (nI pt), .int (nI (19 - n)), .ref it, .ref el, ro Z fo, .null, y6, y7, y8])) := hs1
        have hcB : sr_c (Bs 0 (fun _ y => some y)) = cc + sr_c (sr_fb 0 (fun _ y => some y) (sr_G (cb pt) (fun i Z W => sr_D cb bg n (bg (pt * 3 + i)) Z W) X Y) T1) := by rw [hB, sr_c_add]
        have hcF := sr_fb_c (e := 0) (h := fun _ y => some y) (G := (sr_G (cb pt) (fun i Z W => sr_D cb bg n (bg (pt * 3 + i)) Z W) X Y)) (T1 := T1)
        refine lv_iload_n hx hb d_Ru_askForEachFirst_2 rfl (lv_at hl 0 rfl) ?_
        refine lv_ldc (v := nI 100000) hx hb C.2.2.2.1 (C.2.2.2.2.1 _ kc_Ru_164) d_Ru_askForEachFirst_3 ?_
        refine lv_icmp_ge (tgt := 78) hx hb d_Ru_askForEachFirst_5 (by decide) (fun c1 => absurd c1 (nI_ge (by omega) (by omega))) (fun c1 => ?_)
        refine lv_aload_n hx hb d_Ru_askForEachFirst_8 rfl (lv_at hl 2 rfl) ?_
        refine gh_get C V hs1 gc_St gi_St 5 (by decide) f_Ru_91 rfl rfl d_Ru_askForEachFirst_9 ?_
        refine lv_ifnonnullN hx hb d_Ru_askForEachFirst_12 ?_
        refine lv_iconst (v := 0) hx hb d_Ru_askForEachFirst_15 (by decide) ?_
        refine lv_goto (tgt := 27) hx hb d_Ru_askForEachFirst_16 (by decide) ?_
        refine lv_istore_n hx hb d_Ru_askForEachFirst_27 rfl hl (by decide) rfl (fun ls hl => ?_)
        have hl : lv_has ls 4 [(3, .int 0), (2, .int (nI i9)), (0, .ref (Z 1)), (1, .ref (Z (1000 + k)))] := hl
        refine lv_iload_n hx hb d_Ru_askForEachFirst_28 rfl (lv_at hl 0 rfl) ?_
        refine lv_if_eq (tgt := 34) hx hb d_Ru_askForEachFirst_29 (by decide) (fun c2 => ?_) (fun c2 => absurd (by decide) c2)
        refine lv_aload_n hx hb d_Ru_askForEachFirst_34 rfl (lv_at hl 2 rfl) ?_
        refine lv_aload_n hx hb d_Ru_askForEachFirst_35 rfl (lv_at hl 3 rfl) ?_
        refine gh_callV C V hl.1 m_Ru_askFirst l_Ru_155 (c_Ru_askFirst l E _ f1 ρ Z q0 N cb bg φc bc s0 e0 n k pt it el fo .null y6 y7 y8 X Y T1 F1 hR (by omega) hn19 (by omega) hpt60 hs1 hit1 hel1 hS1 IH) rfl h1R gc_Ru ⟨by first | decide | omega | (dsimp only; omega), by first | decide | omega | (dsimp only; omega)⟩ ⟨by first | decide | omega | (dsimp only; omega), by first | decide | omega | (dsimp only; omega)⟩ (Nat.le_of_ble_eq_true rfl) rfl d_Ru_askForEachFirst_36 (fun r g3 H locs hp V => ?_)
        obtain ⟨φ3, b3, fo3, hR, ⟨hb3, hc3⟩, hfr3, hs3, hP3⟩ := hp
        have hfr : gh_fr f g3 (rn_M ρ (20 - n) b F) := hfr.tr hfr3 (fun a _ _ z => rn_M.le (Nat.le_refl _) (fun i hi => by rcases hi with hi | hi; rcases hF1 i hi with z | z; exact Or.inl z; exact Or.inr ⟨z.1, by omega⟩; rw [hi]; exact Or.inl hFk) (by omega) a z)
        have hit1 := hit1.keep hfr3 rn_M.P
        have hel1 := hel1.keep hfr3 rn_M.P
        have hRc := hR
        obtain ⟨h1R, ⟨hz, ⟨p206, p207⟩, ⟨gS, hgS, hgS2⟩, ⟨gG, hgG, hgG2⟩, hVR, hqR, hcdR, hbaR, hN60, hq0⟩, ⟨hgaV, hgaR⟩, hSR, hnon⟩ := hRc
        obtain ⟨pvsR, hvsR, hnuR, hnoR, hyeR, -⟩ := id hVR
        rcases hP3 with ⟨h13, rfl, h33⟩ | ⟨d3, hT3, hd3, rfl, h33⟩ | ⟨d3, hT3, hd3, rfl, h33⟩ | ⟨d3, x3, R3, hT3, hd3, rfl, h33, j3, F4, ho3, hrs3, hF4⟩
        · refine W.eq (g2 := F0 m 39 ls [.int 2]) rfl ?_
          refine lv_istore_n hx hb d_Ru_askForEachFirst_39 rfl hl (by decide) rfl (fun ls hl => ?_)
          have hl : lv_has ls 4 [(3, .int 2), (2, .int (nI i9)), (0, .ref (Z 1)), (1, .ref (Z (1000 + k)))] := hl
          refine lv_iload_n hx hb d_Ru_askForEachFirst_40 rfl (lv_at hl 0 rfl) ?_
          refine lv_iconst (v := 3) hx hb d_Ru_askForEachFirst_41 (by decide) ?_
          refine lv_icmp_eq (tgt := 47) hx hb d_Ru_askForEachFirst_42 (by decide) (fun c3 => absurd c3 (by decide)) (fun c3 => ?_)
          refine lv_iload_n hx hb d_Ru_askForEachFirst_45 rfl (lv_at hl 0 rfl) ?_
          refine gh_reti hAe C V hr hlocks d_Ru_askForEachFirst_46 (by first | decide | omega | (dsimp only; omega)) (by first | decide | omega | (dsimp only; omega)) ?_
          exact ⟨φ3, b3, fo3, none, hR, ⟨by omega, by omega⟩, hfr, hs3, Or.inl ⟨fun e h => by rw [hB, sr_c_add]; have := sr_fb_c (e := e) (h := h) (G := (sr_G (cb pt) (fun i Z W => sr_D cb bg n (bg (pt * 3 + i)) Z W) X Y)) (T1 := T1); omega, rfl, h33⟩⟩
        · refine W.eq (g2 := F0 m 39 ls [.int 0]) rfl ?_
          refine lv_istore_n hx hb d_Ru_askForEachFirst_39 rfl hl (by decide) rfl (fun ls hl => ?_)
          have hl : lv_has ls 4 [(3, .int 0), (2, .int (nI i9)), (0, .ref (Z 1)), (1, .ref (Z (1000 + k)))] := hl
          refine lv_iload_n hx hb d_Ru_askForEachFirst_40 rfl (lv_at hl 0 rfl) ?_
          refine lv_iconst (v := 3) hx hb d_Ru_askForEachFirst_41 (by decide) ?_
          refine lv_icmp_eq (tgt := 47) hx hb d_Ru_askForEachFirst_42 (by decide) (fun c4 => absurd c4 (by decide)) (fun c4 => ?_)
          refine lv_iload_n hx hb d_Ru_askForEachFirst_45 rfl (lv_at hl 0 rfl) ?_
          refine gh_reti hAe C V hr hlocks d_Ru_askForEachFirst_46 (by first | decide | omega | (dsimp only; omega)) (by first | decide | omega | (dsimp only; omega)) ?_
          exact ⟨φ3, b3, fo3, none, hR, ⟨by omega, by omega⟩, hfr, hs3, Or.inr (Or.inl ⟨cc + d3, fun e h => by rw [hB, hT3]; rfl, by omega, rfl, by omega⟩)⟩
        · refine W.eq (g2 := F0 m 39 ls [.int 1]) rfl ?_
          refine lv_istore_n hx hb d_Ru_askForEachFirst_39 rfl hl (by decide) rfl (fun ls hl => ?_)
          have hl : lv_has ls 4 [(3, .int 1), (2, .int (nI i9)), (0, .ref (Z 1)), (1, .ref (Z (1000 + k)))] := hl
          refine lv_iload_n hx hb d_Ru_askForEachFirst_40 rfl (lv_at hl 0 rfl) ?_
          refine lv_iconst (v := 3) hx hb d_Ru_askForEachFirst_41 (by decide) ?_
          refine lv_icmp_eq (tgt := 47) hx hb d_Ru_askForEachFirst_42 (by decide) (fun c5 => absurd c5 (by decide)) (fun c5 => ?_)
          refine lv_iload_n hx hb d_Ru_askForEachFirst_45 rfl (lv_at hl 0 rfl) ?_
          refine gh_reti hAe C V hr hlocks d_Ru_askForEachFirst_46 (by first | decide | omega | (dsimp only; omega)) (by first | decide | omega | (dsimp only; omega)) ?_
          exact ⟨φ3, b3, fo3, none, hR, ⟨by omega, by omega⟩, hfr, hs3, Or.inr (Or.inr (Or.inl ⟨cc + d3, fun e h => by rw [hB, hT3]; rfl, by omega, rfl, by omega⟩))⟩
        · subst ho3
          obtain ⟨u0, u1, u2, u3, u4, u5, u6, u7, a9, hj3, hx3, hl3, hFj3⟩ := hrs3.val
          have hcT1 : sr_c T1 = d3 := by rw [hT3]; rfl
          have hB3 : ∀ e h, Bs e h = sr_add (cc + d3 + 1) (sr_fe e h (sr_G (cb pt) (fun i Z W => sr_D cb bg n (bg (pt * 3 + i)) Z W) X Y) x3 (sr_B cb bg n (bg (pt * 3 + (if cb pt = 11 ∧ vt_tr x3 = false then 2 else 1))) (if cb pt = 8 then x3 else X) Y) R3) := fun e h => by rw [hB, hT3, sr_fb_cons, sr_G_eq, sr_fe_add, sr_add_add, sr_add_add, Nat.add_assoc]
          have hcB3 : ∀ e h, sr_c (Bs e h) = cc + d3 + 1 + sr_c (sr_fe e h (sr_G (cb pt) (fun i Z W => sr_D cb bg n (bg (pt * 3 + i)) Z W) X Y) x3 (sr_B cb bg n (bg (pt * 3 + (if cb pt = 11 ∧ vt_tr x3 = false then 2 else 1))) (if cb pt = 8 then x3 else X) Y) R3) := fun e h => by rw [hB3, sr_c_add]
          refine W.eq (g2 := F0 m 39 ls [.int 3]) rfl ?_
          refine lv_istore_n hx hb d_Ru_askForEachFirst_39 rfl hl (by decide) rfl (fun ls hl => ?_)
          have hl : lv_has ls 4 [(3, .int 3), (2, .int (nI i9)), (0, .ref (Z 1)), (1, .ref (Z (1000 + k)))] := hl
          refine lv_iload_n hx hb d_Ru_askForEachFirst_40 rfl (lv_at hl 0 rfl) ?_
          refine lv_iconst (v := 3) hx hb d_Ru_askForEachFirst_41 (by decide) ?_
          refine lv_icmp_eq (tgt := 47) hx hb d_Ru_askForEachFirst_42 (by decide) (fun c6 => ?_) (fun c6 => absurd (by decide) c6)
          refine lv_aload_n hx hb d_Ru_askForEachFirst_47 rfl (lv_at hl 3 rfl) ?_
          refine lv_aload_n hx hb d_Ru_askForEachFirst_48 rfl (lv_at hl 2 rfl) ?_
          refine lv_aload_n hx hb d_Ru_askForEachFirst_49 rfl (lv_at hl 3 rfl) ?_
          refine lv_aload_n hx hb d_Ru_askForEachFirst_50 rfl (lv_at hl 3 rfl) ?_
          refine gh_get C V hs3 gc_St gi_St 4 (by decide) f_Ru_87 rfl rfl d_Ru_askForEachFirst_51 ?_
          refine gh_get C V hj3 gc_St gi_St 8 (by decide) f_Ru_68 rfl rfl d_Ru_askForEachFirst_54 ?_
          have hn1 : 1 ≤ n := by have := hq6 (by omega); omega
          refine gh_callV C V hl.1 m_Ru_beginSecond l_Ru_222 (c_Ru_beginSecond l E _ g3 ρ Z q0 N cb bg φ3 b3 s0 e0 n k pt w9 it el a9 X Y x3 _ _ _ _ _ hR (by omega) hn1 hn19 hqw hs3 hx3 hkd) rfl h1R gc_Ru ⟨by first | decide | omega | (dsimp only; omega), by first | decide | omega | (dsimp only; omega)⟩ ⟨by first | decide | omega | (dsimp only; omega), by first | decide | omega | (dsimp only; omega)⟩ (Nat.le_of_ble_eq_true rfl) rfl d_Ru_askForEachFirst_57 (fun r g4 H locs hp V => ?_)
          have hcB0 := hcB3 0 (fun _ y => some y)
          by_cases hφ0 : φ3 = 0
          · obtain ⟨rfl, he9⟩ := hp.1 hφ0
            rw [he9] at V
            refine W.eq (g2 := F0 m 60 ls [.null, .ref (Z (1000 + k))]) rfl ?_
            refine gh_put C V hs3 gc_St gi_St ty_St nm_St 5 (by decide) f_Ru_91 rfl (by first | rfl | decide) (by first | rfl | decide) (Nat.le_of_ble_eq_true rfl) d_Ru_askForEachFirst_60 (fun H locs V => ?_)
            obtain ⟨f7, hff7⟩ : ∃ z9 : gh_F, z9 = gh_u g3 (Z (1000 + k)) (.inr (5, [.int (nI pt), .int (nI (19 - n)), .ref it, .ref el, .ref (Z (1000 + j3)), .null, y6, y7, y8])) := ⟨_, rfl⟩
            have V : gh_V E A f7 s H locs := by rw [hff7]; exact V
            have hR : rn_R E ρ Z f7 q0 N cb bg φ3 b3 s0 e0 := by rw [hff7]; exact hR.step (k := k) hk250
            have hfr : gh_fr f f7 (rn_M ρ (20 - n) b F) := by rw [hff7]; exact hfr.put (Or.inl (Or.inr (Or.inr (Or.inr (Or.inr ⟨k, hFk, hz _ (by unfold rU; omega)⟩)))))
            have h_Z__1000___k__f7 : f7 (Z (1000 + k)) = some (.inr (5, [.int (nI pt), .int (nI (19 - n)), .ref it, .ref el, .ref (Z (1000 + j3)), .null, y6, y7, y8])) := by rw [hff7, gh_us]
            have hRc := hR
            obtain ⟨h1R, ⟨hz, ⟨p206, p207⟩, ⟨gS, hgS, hgS2⟩, ⟨gG, hgG, hgG2⟩, hVR, hqR, hcdR, hbaR, hN60, hq0⟩, ⟨hgaV, hgaR⟩, hSR, hnon⟩ := hRc
            obtain ⟨pvsR, hvsR, hnuR, hnoR, hyeR, -⟩ := id hVR
            refine lv_aload_n hx hb d_Ru_askForEachFirst_63 rfl (lv_at hl 3 rfl) ?_
            refine gh_get C V h_Z__1000___k__f7 gc_St gi_St 5 (by decide) f_Ru_91 rfl rfl d_Ru_askForEachFirst_64 ?_
            refine lv_ifnonnullN hx hb d_Ru_askForEachFirst_67 ?_
            refine lv_iconst (v := 2) hx hb d_Ru_askForEachFirst_70 (by decide) ?_
            refine gh_reti hAe C V hr hlocks d_Ru_askForEachFirst_71 (by first | decide | omega | (dsimp only; omega)) (by first | decide | omega | (dsimp only; omega)) ?_
            exact ⟨φ3, b3, some j3, none, hR, ⟨by omega, by omega⟩, hfr, h_Z__1000___k__f7, Or.inl ⟨fun e h => by rw [hcB3 e h]; omega, rfl, hφ0⟩⟩
          · obtain ⟨rfl, hR, hsb, hfr4⟩ := hp.2 (by omega)
            have hs3 := hfr4.at hs3 (fun z => by have e9 := hz (1000 + k) (by unfold rU; omega); rcases z with z | z <;> omega)
            have hfr : gh_fr f g4 (rn_M ρ (20 - n) b F) := hfr.tr hfr4 (fun a _ _ z => by rcases z with z | z; exact Or.inl z; exact Or.inr (Or.inr (Or.inr (Or.inl (by omega)))))
            have hM4 : ∀ a, (ρ a = 1 ∨ ρ a = 1000 + b3) → ¬ rP ρ a := fun a z z2 => by have z2 : ρ a = 0 := z2; omega
            have hit1 := hit1.keep hfr4 hM4
            have hel1 := hel1.keep hfr4 hM4
            have hx3 := hx3.keep hfr4 hM4
            have hlt4 : ∀ i, F4 i → i < b3 := fun i hi => by rcases hF4 i hi with z | z; rcases hF1 i z with z | z; have := hFb i z; omega; omega; omega
            have hnk4 : ¬ F4 k := fun z => by rcases hF4 k z with z | z; exact hS1.k.1 z; omega
            have hrs3 := hrs3.keep (φ1 := φ3 - 1) hfr4 hM4 (by omega) (fun i hi z => by have e9 := hz (1000 + i) (by unfold rU; have := hlt4 i hi; omega); have := hlt4 i hi; rcases z with z | z <;> omega)
            refine W.eq (g2 := F0 m 60 ls [.ref (Z (1000 + b3)), .ref (Z (1000 + k))]) rfl ?_
            have hRc := hR
            obtain ⟨h1R, ⟨hz, ⟨p206, p207⟩, ⟨gS, hgS, hgS2⟩, ⟨gG, hgG, hgG2⟩, hVR, hqR, hcdR, hbaR, hN60, hq0⟩, ⟨hgaV, hgaR⟩, hSR, hnon⟩ := hRc
            obtain ⟨pvsR, hvsR, hnuR, hnoR, hyeR, -⟩ := id hVR
            refine gh_put C V hs3 gc_St gi_St ty_St nm_St 5 (by decide) f_Ru_91 rfl (by first | rfl | decide) (by first | rfl | decide) (Nat.le_of_ble_eq_true rfl) d_Ru_askForEachFirst_60 (fun H locs V => ?_)
            obtain ⟨f8, hff8⟩ : ∃ z9 : gh_F, z9 = gh_u g4 (Z (1000 + k)) (.inr (5, [.int (nI pt), .int (nI (19 - n)), .ref it, .ref el, .ref (Z (1000 + j3)), .ref (Z (1000 + b3)), y6, y7, y8])) := ⟨_, rfl⟩
            have V : gh_V E A f8 s H locs := by rw [hff8]; exact V
            have hR : rn_R E ρ Z f8 q0 N cb bg (φ3 - 1) (b3 + 1) s0 e0 := by rw [hff8]; exact hR.step (k := k) hk250
            have hfr : gh_fr f f8 (rn_M ρ (20 - n) b F) := by rw [hff8]; exact hfr.put (Or.inl (Or.inr (Or.inr (Or.inr (Or.inr ⟨k, hFk, hz _ (by unfold rU; omega)⟩)))))
            have h_Z__1000___b3__f8 : f8 (Z (1000 + b3)) = some (.inr (5, [.int (nI (bg (pt * 3 + (if cb pt = 11 ∧ vt_tr x3 = false then 2 else 1)))), .int (nI (20 - n)), .ref ((if cb pt = 8 then a9 else it)), .ref el, .null, .null, .int 0, .int 0, .ref (Z 201)])) := by rw [hff8, gh_un (rz_ne hz (by unfold rU; omega) (by unfold rU; omega) (by omega))]; exact hsb
            have h_Z__1000___k__f8 : f8 (Z (1000 + k)) = some (.inr (5, [.int (nI pt), .int (nI (19 - n)), .ref it, .ref el, .ref (Z (1000 + j3)), .ref (Z (1000 + b3)), y6, y7, y8])) := by rw [hff8, gh_us]
            have hRc := hR
            obtain ⟨h1R, ⟨hz, ⟨p206, p207⟩, ⟨gS, hgS, hgS2⟩, ⟨gG, hgG, hgG2⟩, hVR, hqR, hcdR, hbaR, hN60, hq0⟩, ⟨hgaV, hgaR⟩, hSR, hnon⟩ := hRc
            obtain ⟨pvsR, hvsR, hnuR, hnoR, hyeR, -⟩ := id hVR
            refine lv_aload_n hx hb d_Ru_askForEachFirst_63 rfl (lv_at hl 3 rfl) ?_
            refine gh_get C V h_Z__1000___k__f8 gc_St gi_St 5 (by decide) f_Ru_91 rfl rfl d_Ru_askForEachFirst_64 ?_
            refine lv_ifnonnull (tgt := 72) hx hb d_Ru_askForEachFirst_67 (by decide) ?_
            refine lv_iinc (k := 1) (v := (nI i9) + 1) hx hb d_Ru_askForEachFirst_72 hl rfl (by rfl) (by decide) rfl (fun ls hl => ?_)
            have hl : lv_has ls 4 [(2, .int (nI (i9 + 1))), (3, .int 3), (0, .ref (Z 1)), (1, .ref (Z (1000 + k)))] := by rw [nI_succ]; exact hl
            refine lv_goto (tgt := 2) hx hb d_Ru_askForEachFirst_75 (by decide) ?_
            have hl : lv_has ls 4 [(2, .int (nI (i9 + 1))), (0, .ref (Z 1)), (1, .ref (Z (1000 + k)))] := lv_sub hl [0, 2, 3] rfl
            have hl : lv_has ls 4 [(2, .int (nI (i9 + 1))), (0, .ref (Z 1)), (1, .ref (Z (1000 + k)))] := hl
            have hMk : ∀ a, ρ a = 1000 + k → ¬ rP ρ a := fun a z z2 => by have z2 : ρ a = 0 := z2; omega
            have hfk : gh_fr g4 f8 (fun a => ρ a = 1000 + k) := by rw [hff8]; exact gh_fr.rf.put (Or.inl (hz _ (by unfold rU; omega)))
            have hok : rs_ok cb bg N n (bg (pt * 3 + (if cb pt = 11 ∧ vt_tr x3 = false then 2 else 1))) (if cb pt = 8 then x3 else X) := rs_child hqw (by omega) hq6 hn19 (nx_lt _ (by omega) hkd _) (by split; exact (hx3.le).2; exact hX7)
            have hcw : cw E (rP ρ) f8 (if cb pt = 8 then a9 else it) (if cb pt = 8 then x3 else X) := by split; exact hx3.keep hfk hMk; exact hit1.keep hfk hMk
            have hnw := rs_new (Y := Y) (φ := φ3 - 1) hok (by omega) (by omega) h_Z__1000___b3__f8 hcw (hel1.keep hfk hMk) hnuR
            have hrs3 := hrs3.keep (φ1 := φ3 - 1) hfk hMk (Nat.le_refl _) (fun i hi z => by have := hlt4 i hi; have e9 := hz (1000 + i) (by unfold rU; omega); have z : ρ (Z (1000 + i)) = 1000 + k := z; exact hnk4 ((show i = k by omega) ▸ hi))
            refine W.widen (by first | omega | (dsimp only; omega)) (by first | omega | (dsimp only; omega)) (ih (i9 + 1) (φ3 - 1) (b3 + 1) (cc + d3 + 1) 1 (some j3) (some b3) f8 H locs ls (by omega) (by omega) hR ⟨by omega, by omega⟩ ⟨by omega, by omega, by omega, by omega⟩ hfr h_Z__1000___k__f8 (Or.inr ⟨j3, b3, x3, vt_0 0, R3, _, F4, fun i => i = b3, rfl, rfl, hrs3, hnw, ⟨fun i hi => ?_, fun i hi => ?_, hnk4, fun z => by omega, fun i hi z => by have := hlt4 i hi; omega⟩, hB3⟩) V hl)
            · rcases hF4 i hi with z | z; rcases hF1 i z with z | z; exact Or.inl z; exact Or.inr ⟨by omega, by omega⟩; exact Or.inr ⟨by omega, by omega⟩
            · exact Or.inr ⟨by omega, by omega⟩
      · subst hfo
        subst hso
        have hs1 : f1 (Z (1000 + k)) = some (.inr (5, [.int (nI pt), .int (nI (19 - n)), .ref it, .ref el, .ref (Z (1000 + j1)), .ref (Z (1000 + j2)), y6, y7, y8])) := hs1
        have hcB : sr_c (Bs 0 (fun _ y => some y)) = cc + sr_c (sr_fe 0 (fun _ y => some y) (sr_G (cb pt) (fun i Z W => sr_D cb bg n (bg (pt * 3 + i)) Z W) X Y) v1 T2 T1) := by rw [hB, sr_c_add]
        have hcF := sr_fe_c (e := 0) (h := fun _ y => some y) (G := (sr_G (cb pt) (fun i Z W => sr_D cb bg n (bg (pt * 3 + i)) Z W) X Y)) (v := v1) (T2 := T2) (T1 := T1)
        refine lv_iload_n hx hb d_Ru_askForEachFirst_2 rfl (lv_at hl 0 rfl) ?_
        refine lv_ldc (v := nI 100000) hx hb C.2.2.2.1 (C.2.2.2.2.1 _ kc_Ru_164) d_Ru_askForEachFirst_3 ?_
        refine lv_icmp_ge (tgt := 78) hx hb d_Ru_askForEachFirst_5 (by decide) (fun c9 => absurd c9 (nI_ge (by omega) (by omega))) (fun c9 => ?_)
        refine lv_aload_n hx hb d_Ru_askForEachFirst_8 rfl (lv_at hl 2 rfl) ?_
        refine gh_get C V hs1 gc_St gi_St 5 (by decide) f_Ru_91 rfl rfl d_Ru_askForEachFirst_9 ?_
        refine lv_ifnonnull (tgt := 19) hx hb d_Ru_askForEachFirst_12 (by decide) ?_
        refine lv_aload_n hx hb d_Ru_askForEachFirst_19 rfl (lv_at hl 1 rfl) ?_
        refine lv_aload_n hx hb d_Ru_askForEachFirst_20 rfl (lv_at hl 2 rfl) ?_
        refine gh_get C V hs1 gc_St gi_St 5 (by decide) f_Ru_91 rfl rfl d_Ru_askForEachFirst_21 ?_
        refine gh_callV C V hl.1 m_Ru_ask l_Ru_64 (IH _ f1 φc bc s0 e0 u j2 v2 T2 F2 hR (by omega) (fun i hi => by rcases a2 i hi with z | z; have := hFb i z; omega; omega) hr2) rfl h1R gc_Ru ⟨by first | decide | omega | (dsimp only; omega), by first | decide | omega | (dsimp only; omega)⟩ ⟨by first | decide | omega | (dsimp only; omega), by first | decide | omega | (dsimp only; omega)⟩ (Nat.le_of_ble_eq_true rfl) rfl d_Ru_askForEachFirst_24 (fun r g2 H locs hp V => ?_)
        obtain ⟨φ2, b2, hR, ⟨hb2, hc2⟩, hfr2, hP2, -⟩ := hp
        have hn2 : ¬ rn_M ρ (20 - n) bc F2 (Z (1000 + k)) := rn_M.st hz hk250 (by omega) a4
        have hs2 := hfr2.at hs1 hn2
        have hfr : gh_fr f g2 (rn_M ρ (20 - n) b F) := hfr.tr hfr2 (fun a _ _ z => rn_M.le (Nat.le_refl _) (fun i hi => by rcases a2 i hi with z | z; exact Or.inl z; exact Or.inr ⟨z.1, by omega⟩) hbb1 a z)
        have hr1 := hr1.keep (φ1 := φ2) hfr2 rn_M.P (by omega) (fun i hi => rn_M.st hz (by rcases a1 i hi with z | z; have := hFb i z; omega; omega) (by rcases a1 i hi with z | z; have := hFb i z; omega; omega) (a5 i hi))
        have hit1 := hit1.keep hfr2 rn_M.P
        have hel1 := hel1.keep hfr2 rn_M.P
        have hRc := hR
        obtain ⟨h1R, ⟨hz, ⟨p206, p207⟩, ⟨gS, hgS, hgS2⟩, ⟨gG, hgG, hgG2⟩, hVR, hqR, hcdR, hbaR, hN60, hq0⟩, ⟨hgaV, hgaR⟩, hSR, hnon⟩ := hRc
        obtain ⟨pvsR, hvsR, hnuR, hnoR, hyeR, -⟩ := id hVR
        rcases hP2 with ⟨h12, rfl, h32⟩ | ⟨d2, hT2, hd2, rfl, h32⟩ | ⟨d2, hT2, hd2, rfl, h32⟩ | ⟨d2, x2, R2, hT2, hd2, rfl, h32, F3, hrs2, hF3⟩
        · refine W.eq (g2 := F0 m 27 ls [.int 2]) rfl ?_
          refine lv_istore_n hx hb d_Ru_askForEachFirst_27 rfl hl (by decide) rfl (fun ls hl => ?_)
          have hl : lv_has ls 4 [(3, .int 2), (2, .int (nI i9)), (0, .ref (Z 1)), (1, .ref (Z (1000 + k)))] := hl
          refine lv_iload_n hx hb d_Ru_askForEachFirst_28 rfl (lv_at hl 0 rfl) ?_
          refine lv_if_eq (tgt := 34) hx hb d_Ru_askForEachFirst_29 (by decide) (fun c10 => absurd c10 (by decide)) (fun c10 => ?_)
          refine lv_iload_n hx hb d_Ru_askForEachFirst_32 rfl (lv_at hl 0 rfl) ?_
          refine gh_reti hAe C V hr hlocks d_Ru_askForEachFirst_33 (by first | decide | omega | (dsimp only; omega)) (by first | decide | omega | (dsimp only; omega)) ?_
          exact ⟨φ2, b2, some j1, some j2, hR, ⟨by omega, by omega⟩, hfr, hs2, Or.inl ⟨fun e h => by rw [hB, sr_c_add]; have := sr_fe_c (e := e) (h := h) (G := (sr_G (cb pt) (fun i Z W => sr_D cb bg n (bg (pt * 3 + i)) Z W) X Y)) (v := v1) (T2 := T2) (T1 := T1); omega, rfl, h32⟩⟩
        · have hB : ∀ e h, Bs e h = sr_add (cc + d2) (sr_fb e h (sr_G (cb pt) (fun i Z W => sr_D cb bg n (bg (pt * 3 + i)) Z W) X Y) T1) := fun e h => by rw [hB, hT2, sr_fe_end, sr_add_add]
          have hS1 : rk_S E ρ Z cb bg N g2 φ2 b2 n k (some j1) (bg (pt * 3 + 0)) X Y T1 F1 := Or.inr ⟨j1, v1, rfl, hr1, fun i hi => by rcases a1 i hi with z | z; have := hFb i z; omega; omega, a3⟩
          have hF1 := a1
          have hcT2 : sr_c T2 = d2 := by rw [hT2]; rfl
          have hcB : sr_c (Bs 0 (fun _ y => some y)) = cc + d2 + sr_c (sr_fb 0 (fun _ y => some y) (sr_G (cb pt) (fun i Z W => sr_D cb bg n (bg (pt * 3 + i)) Z W) X Y) T1) := by rw [hB, sr_c_add]
          have hcF := sr_fb_c (e := 0) (h := fun _ y => some y) (G := (sr_G (cb pt) (fun i Z W => sr_D cb bg n (bg (pt * 3 + i)) Z W) X Y)) (T1 := T1)
          refine W.eq (g2 := F0 m 27 ls [.int 0]) rfl ?_
          refine lv_istore_n hx hb d_Ru_askForEachFirst_27 rfl hl (by decide) rfl (fun ls hl => ?_)
          have hl : lv_has ls 4 [(3, .int 0), (2, .int (nI i9)), (0, .ref (Z 1)), (1, .ref (Z (1000 + k)))] := hl
          refine lv_iload_n hx hb d_Ru_askForEachFirst_28 rfl (lv_at hl 0 rfl) ?_
          refine lv_if_eq (tgt := 34) hx hb d_Ru_askForEachFirst_29 (by decide) (fun c11 => ?_) (fun c11 => absurd (by decide) c11)
          refine lv_aload_n hx hb d_Ru_askForEachFirst_34 rfl (lv_at hl 2 rfl) ?_
          refine lv_aload_n hx hb d_Ru_askForEachFirst_35 rfl (lv_at hl 3 rfl) ?_
          refine gh_callV C V hl.1 m_Ru_askFirst l_Ru_155 (c_Ru_askFirst l E _ g2 ρ Z q0 N cb bg φ2 b2 s0 e0 n k pt it el (some j1) (.ref (Z (1000 + j2))) y6 y7 y8 X Y T1 F1 hR (by omega) hn19 (by omega) hpt60 hs2 hit1 hel1 hS1 IH) rfl h1R gc_Ru ⟨by first | decide | omega | (dsimp only; omega), by first | decide | omega | (dsimp only; omega)⟩ ⟨by first | decide | omega | (dsimp only; omega), by first | decide | omega | (dsimp only; omega)⟩ (Nat.le_of_ble_eq_true rfl) rfl d_Ru_askForEachFirst_36 (fun r g3 H locs hp V => ?_)
          obtain ⟨φ3, b3, fo3, hR, ⟨hb3, hc3⟩, hfr3, hs3, hP3⟩ := hp
          have hfr : gh_fr f g3 (rn_M ρ (20 - n) b F) := hfr.tr hfr3 (fun a _ _ z => rn_M.le (Nat.le_refl _) (fun i hi => by rcases hi with hi | hi; rcases hF1 i hi with z | z; exact Or.inl z; exact Or.inr ⟨z.1, by omega⟩; rw [hi]; exact Or.inl hFk) (by omega) a z)
          have hit1 := hit1.keep hfr3 rn_M.P
          have hel1 := hel1.keep hfr3 rn_M.P
          have hRc := hR
          obtain ⟨h1R, ⟨hz, ⟨p206, p207⟩, ⟨gS, hgS, hgS2⟩, ⟨gG, hgG, hgG2⟩, hVR, hqR, hcdR, hbaR, hN60, hq0⟩, ⟨hgaV, hgaR⟩, hSR, hnon⟩ := hRc
          obtain ⟨pvsR, hvsR, hnuR, hnoR, hyeR, -⟩ := id hVR
          rcases hP3 with ⟨h13, rfl, h33⟩ | ⟨d3, hT3, hd3, rfl, h33⟩ | ⟨d3, hT3, hd3, rfl, h33⟩ | ⟨d3, x3, R3, hT3, hd3, rfl, h33, j3, F4, ho3, hrs3, hF4⟩
          · refine W.eq (g2 := F0 m 39 ls [.int 2]) rfl ?_
            refine lv_istore_n hx hb d_Ru_askForEachFirst_39 rfl hl (by decide) rfl (fun ls hl => ?_)
            have hl : lv_has ls 4 [(3, .int 2), (2, .int (nI i9)), (0, .ref (Z 1)), (1, .ref (Z (1000 + k)))] := hl
            refine lv_iload_n hx hb d_Ru_askForEachFirst_40 rfl (lv_at hl 0 rfl) ?_
            refine lv_iconst (v := 3) hx hb d_Ru_askForEachFirst_41 (by decide) ?_
            refine lv_icmp_eq (tgt := 47) hx hb d_Ru_askForEachFirst_42 (by decide) (fun c12 => absurd c12 (by decide)) (fun c12 => ?_)
            refine lv_iload_n hx hb d_Ru_askForEachFirst_45 rfl (lv_at hl 0 rfl) ?_
            refine gh_reti hAe C V hr hlocks d_Ru_askForEachFirst_46 (by first | decide | omega | (dsimp only; omega)) (by first | decide | omega | (dsimp only; omega)) ?_
            exact ⟨φ3, b3, fo3, (some j2), hR, ⟨by omega, by omega⟩, hfr, hs3, Or.inl ⟨fun e h => by rw [hB, sr_c_add]; have := sr_fb_c (e := e) (h := h) (G := (sr_G (cb pt) (fun i Z W => sr_D cb bg n (bg (pt * 3 + i)) Z W) X Y)) (T1 := T1); omega, rfl, h33⟩⟩
          · refine W.eq (g2 := F0 m 39 ls [.int 0]) rfl ?_
            refine lv_istore_n hx hb d_Ru_askForEachFirst_39 rfl hl (by decide) rfl (fun ls hl => ?_)
            have hl : lv_has ls 4 [(3, .int 0), (2, .int (nI i9)), (0, .ref (Z 1)), (1, .ref (Z (1000 + k)))] := hl
            refine lv_iload_n hx hb d_Ru_askForEachFirst_40 rfl (lv_at hl 0 rfl) ?_
            refine lv_iconst (v := 3) hx hb d_Ru_askForEachFirst_41 (by decide) ?_
            refine lv_icmp_eq (tgt := 47) hx hb d_Ru_askForEachFirst_42 (by decide) (fun c13 => absurd c13 (by decide)) (fun c13 => ?_)
            refine lv_iload_n hx hb d_Ru_askForEachFirst_45 rfl (lv_at hl 0 rfl) ?_
            refine gh_reti hAe C V hr hlocks d_Ru_askForEachFirst_46 (by first | decide | omega | (dsimp only; omega)) (by first | decide | omega | (dsimp only; omega)) ?_
            exact ⟨φ3, b3, fo3, (some j2), hR, ⟨by omega, by omega⟩, hfr, hs3, Or.inr (Or.inl ⟨cc + d2 + d3, fun e h => by rw [hB, hT3]; rfl, by omega, rfl, by omega⟩)⟩
          · refine W.eq (g2 := F0 m 39 ls [.int 1]) rfl ?_
            refine lv_istore_n hx hb d_Ru_askForEachFirst_39 rfl hl (by decide) rfl (fun ls hl => ?_)
            have hl : lv_has ls 4 [(3, .int 1), (2, .int (nI i9)), (0, .ref (Z 1)), (1, .ref (Z (1000 + k)))] := hl
            refine lv_iload_n hx hb d_Ru_askForEachFirst_40 rfl (lv_at hl 0 rfl) ?_
            refine lv_iconst (v := 3) hx hb d_Ru_askForEachFirst_41 (by decide) ?_
            refine lv_icmp_eq (tgt := 47) hx hb d_Ru_askForEachFirst_42 (by decide) (fun c14 => absurd c14 (by decide)) (fun c14 => ?_)
            refine lv_iload_n hx hb d_Ru_askForEachFirst_45 rfl (lv_at hl 0 rfl) ?_
            refine gh_reti hAe C V hr hlocks d_Ru_askForEachFirst_46 (by first | decide | omega | (dsimp only; omega)) (by first | decide | omega | (dsimp only; omega)) ?_
            exact ⟨φ3, b3, fo3, (some j2), hR, ⟨by omega, by omega⟩, hfr, hs3, Or.inr (Or.inr (Or.inl ⟨cc + d2 + d3, fun e h => by rw [hB, hT3]; rfl, by omega, rfl, by omega⟩))⟩
          · subst ho3
            obtain ⟨u0, u1, u2, u3, u4, u5, u6, u7, a9, hj3, hx3, hl3, hFj3⟩ := hrs3.val
            have hcT1 : sr_c T1 = d3 := by rw [hT3]; rfl
            have hB3 : ∀ e h, Bs e h = sr_add (cc + d2 + d3 + 1) (sr_fe e h (sr_G (cb pt) (fun i Z W => sr_D cb bg n (bg (pt * 3 + i)) Z W) X Y) x3 (sr_B cb bg n (bg (pt * 3 + (if cb pt = 11 ∧ vt_tr x3 = false then 2 else 1))) (if cb pt = 8 then x3 else X) Y) R3) := fun e h => by rw [hB, hT3, sr_fb_cons, sr_G_eq, sr_fe_add, sr_add_add, sr_add_add, Nat.add_assoc]
            have hcB3 : ∀ e h, sr_c (Bs e h) = cc + d2 + d3 + 1 + sr_c (sr_fe e h (sr_G (cb pt) (fun i Z W => sr_D cb bg n (bg (pt * 3 + i)) Z W) X Y) x3 (sr_B cb bg n (bg (pt * 3 + (if cb pt = 11 ∧ vt_tr x3 = false then 2 else 1))) (if cb pt = 8 then x3 else X) Y) R3) := fun e h => by rw [hB3, sr_c_add]
            refine W.eq (g2 := F0 m 39 ls [.int 3]) rfl ?_
            refine lv_istore_n hx hb d_Ru_askForEachFirst_39 rfl hl (by decide) rfl (fun ls hl => ?_)
            have hl : lv_has ls 4 [(3, .int 3), (2, .int (nI i9)), (0, .ref (Z 1)), (1, .ref (Z (1000 + k)))] := hl
            refine lv_iload_n hx hb d_Ru_askForEachFirst_40 rfl (lv_at hl 0 rfl) ?_
            refine lv_iconst (v := 3) hx hb d_Ru_askForEachFirst_41 (by decide) ?_
            refine lv_icmp_eq (tgt := 47) hx hb d_Ru_askForEachFirst_42 (by decide) (fun c15 => ?_) (fun c15 => absurd (by decide) c15)
            refine lv_aload_n hx hb d_Ru_askForEachFirst_47 rfl (lv_at hl 3 rfl) ?_
            refine lv_aload_n hx hb d_Ru_askForEachFirst_48 rfl (lv_at hl 2 rfl) ?_
            refine lv_aload_n hx hb d_Ru_askForEachFirst_49 rfl (lv_at hl 3 rfl) ?_
            refine lv_aload_n hx hb d_Ru_askForEachFirst_50 rfl (lv_at hl 3 rfl) ?_
            refine gh_get C V hs3 gc_St gi_St 4 (by decide) f_Ru_87 rfl rfl d_Ru_askForEachFirst_51 ?_
            refine gh_get C V hj3 gc_St gi_St 8 (by decide) f_Ru_68 rfl rfl d_Ru_askForEachFirst_54 ?_
            have hn1 : 1 ≤ n := by have := hq6 (by omega); omega
            refine gh_callV C V hl.1 m_Ru_beginSecond l_Ru_222 (c_Ru_beginSecond l E _ g3 ρ Z q0 N cb bg φ3 b3 s0 e0 n k pt w9 it el a9 X Y x3 _ _ _ _ _ hR (by omega) hn1 hn19 hqw hs3 hx3 hkd) rfl h1R gc_Ru ⟨by first | decide | omega | (dsimp only; omega), by first | decide | omega | (dsimp only; omega)⟩ ⟨by first | decide | omega | (dsimp only; omega), by first | decide | omega | (dsimp only; omega)⟩ (Nat.le_of_ble_eq_true rfl) rfl d_Ru_askForEachFirst_57 (fun r g4 H locs hp V => ?_)
            have hcB0 := hcB3 0 (fun _ y => some y)
            by_cases hφ0 : φ3 = 0
            · obtain ⟨rfl, he9⟩ := hp.1 hφ0
              rw [he9] at V
              refine W.eq (g2 := F0 m 60 ls [.null, .ref (Z (1000 + k))]) rfl ?_
              refine gh_put C V hs3 gc_St gi_St ty_St nm_St 5 (by decide) f_Ru_91 rfl (by first | rfl | decide) (by first | rfl | decide) (Nat.le_of_ble_eq_true rfl) d_Ru_askForEachFirst_60 (fun H locs V => ?_)
              obtain ⟨f16, hff16⟩ : ∃ z9 : gh_F, z9 = gh_u g3 (Z (1000 + k)) (.inr (5, [.int (nI pt), .int (nI (19 - n)), .ref it, .ref el, .ref (Z (1000 + j3)), .null, y6, y7, y8])) := ⟨_, rfl⟩
              have V : gh_V E A f16 s H locs := by rw [hff16]; exact V
              have hR : rn_R E ρ Z f16 q0 N cb bg φ3 b3 s0 e0 := by rw [hff16]; exact hR.step (k := k) hk250
              have hfr : gh_fr f f16 (rn_M ρ (20 - n) b F) := by rw [hff16]; exact hfr.put (Or.inl (Or.inr (Or.inr (Or.inr (Or.inr ⟨k, hFk, hz _ (by unfold rU; omega)⟩)))))
              have h_Z__1000___k__f16 : f16 (Z (1000 + k)) = some (.inr (5, [.int (nI pt), .int (nI (19 - n)), .ref it, .ref el, .ref (Z (1000 + j3)), .null, y6, y7, y8])) := by rw [hff16, gh_us]
              have hRc := hR
              obtain ⟨h1R, ⟨hz, ⟨p206, p207⟩, ⟨gS, hgS, hgS2⟩, ⟨gG, hgG, hgG2⟩, hVR, hqR, hcdR, hbaR, hN60, hq0⟩, ⟨hgaV, hgaR⟩, hSR, hnon⟩ := hRc
              obtain ⟨pvsR, hvsR, hnuR, hnoR, hyeR, -⟩ := id hVR
              refine lv_aload_n hx hb d_Ru_askForEachFirst_63 rfl (lv_at hl 3 rfl) ?_
              refine gh_get C V h_Z__1000___k__f16 gc_St gi_St 5 (by decide) f_Ru_91 rfl rfl d_Ru_askForEachFirst_64 ?_
              refine lv_ifnonnullN hx hb d_Ru_askForEachFirst_67 ?_
              refine lv_iconst (v := 2) hx hb d_Ru_askForEachFirst_70 (by decide) ?_
              refine gh_reti hAe C V hr hlocks d_Ru_askForEachFirst_71 (by first | decide | omega | (dsimp only; omega)) (by first | decide | omega | (dsimp only; omega)) ?_
              exact ⟨φ3, b3, some j3, none, hR, ⟨by omega, by omega⟩, hfr, h_Z__1000___k__f16, Or.inl ⟨fun e h => by rw [hcB3 e h]; omega, rfl, hφ0⟩⟩
            · obtain ⟨rfl, hR, hsb, hfr4⟩ := hp.2 (by omega)
              have hs3 := hfr4.at hs3 (fun z => by have e9 := hz (1000 + k) (by unfold rU; omega); rcases z with z | z <;> omega)
              have hfr : gh_fr f g4 (rn_M ρ (20 - n) b F) := hfr.tr hfr4 (fun a _ _ z => by rcases z with z | z; exact Or.inl z; exact Or.inr (Or.inr (Or.inr (Or.inl (by omega)))))
              have hM4 : ∀ a, (ρ a = 1 ∨ ρ a = 1000 + b3) → ¬ rP ρ a := fun a z z2 => by have z2 : ρ a = 0 := z2; omega
              have hit1 := hit1.keep hfr4 hM4
              have hel1 := hel1.keep hfr4 hM4
              have hx3 := hx3.keep hfr4 hM4
              have hlt4 : ∀ i, F4 i → i < b3 := fun i hi => by rcases hF4 i hi with z | z; rcases hF1 i z with z | z; have := hFb i z; omega; omega; omega
              have hnk4 : ¬ F4 k := fun z => by rcases hF4 k z with z | z; exact hS1.k.1 z; omega
              have hrs3 := hrs3.keep (φ1 := φ3 - 1) hfr4 hM4 (by omega) (fun i hi z => by have e9 := hz (1000 + i) (by unfold rU; have := hlt4 i hi; omega); have := hlt4 i hi; rcases z with z | z <;> omega)
              refine W.eq (g2 := F0 m 60 ls [.ref (Z (1000 + b3)), .ref (Z (1000 + k))]) rfl ?_
              have hRc := hR
              obtain ⟨h1R, ⟨hz, ⟨p206, p207⟩, ⟨gS, hgS, hgS2⟩, ⟨gG, hgG, hgG2⟩, hVR, hqR, hcdR, hbaR, hN60, hq0⟩, ⟨hgaV, hgaR⟩, hSR, hnon⟩ := hRc
              obtain ⟨pvsR, hvsR, hnuR, hnoR, hyeR, -⟩ := id hVR
              refine gh_put C V hs3 gc_St gi_St ty_St nm_St 5 (by decide) f_Ru_91 rfl (by first | rfl | decide) (by first | rfl | decide) (Nat.le_of_ble_eq_true rfl) d_Ru_askForEachFirst_60 (fun H locs V => ?_)
              obtain ⟨f17, hff17⟩ : ∃ z9 : gh_F, z9 = gh_u g4 (Z (1000 + k)) (.inr (5, [.int (nI pt), .int (nI (19 - n)), .ref it, .ref el, .ref (Z (1000 + j3)), .ref (Z (1000 + b3)), y6, y7, y8])) := ⟨_, rfl⟩
              have V : gh_V E A f17 s H locs := by rw [hff17]; exact V
              have hR : rn_R E ρ Z f17 q0 N cb bg (φ3 - 1) (b3 + 1) s0 e0 := by rw [hff17]; exact hR.step (k := k) hk250
              have hfr : gh_fr f f17 (rn_M ρ (20 - n) b F) := by rw [hff17]; exact hfr.put (Or.inl (Or.inr (Or.inr (Or.inr (Or.inr ⟨k, hFk, hz _ (by unfold rU; omega)⟩)))))
              have h_Z__1000___b3__f17 : f17 (Z (1000 + b3)) = some (.inr (5, [.int (nI (bg (pt * 3 + (if cb pt = 11 ∧ vt_tr x3 = false then 2 else 1)))), .int (nI (20 - n)), .ref ((if cb pt = 8 then a9 else it)), .ref el, .null, .null, .int 0, .int 0, .ref (Z 201)])) := by rw [hff17, gh_un (rz_ne hz (by unfold rU; omega) (by unfold rU; omega) (by omega))]; exact hsb
              have h_Z__1000___k__f17 : f17 (Z (1000 + k)) = some (.inr (5, [.int (nI pt), .int (nI (19 - n)), .ref it, .ref el, .ref (Z (1000 + j3)), .ref (Z (1000 + b3)), y6, y7, y8])) := by rw [hff17, gh_us]
              have hRc := hR
              obtain ⟨h1R, ⟨hz, ⟨p206, p207⟩, ⟨gS, hgS, hgS2⟩, ⟨gG, hgG, hgG2⟩, hVR, hqR, hcdR, hbaR, hN60, hq0⟩, ⟨hgaV, hgaR⟩, hSR, hnon⟩ := hRc
              obtain ⟨pvsR, hvsR, hnuR, hnoR, hyeR, -⟩ := id hVR
              refine lv_aload_n hx hb d_Ru_askForEachFirst_63 rfl (lv_at hl 3 rfl) ?_
              refine gh_get C V h_Z__1000___k__f17 gc_St gi_St 5 (by decide) f_Ru_91 rfl rfl d_Ru_askForEachFirst_64 ?_
              refine lv_ifnonnull (tgt := 72) hx hb d_Ru_askForEachFirst_67 (by decide) ?_
              refine lv_iinc (k := 1) (v := (nI i9) + 1) hx hb d_Ru_askForEachFirst_72 hl rfl (by rfl) (by decide) rfl (fun ls hl => ?_)
              have hl : lv_has ls 4 [(2, .int (nI (i9 + 1))), (3, .int 3), (0, .ref (Z 1)), (1, .ref (Z (1000 + k)))] := by rw [nI_succ]; exact hl
              refine lv_goto (tgt := 2) hx hb d_Ru_askForEachFirst_75 (by decide) ?_
              have hl : lv_has ls 4 [(2, .int (nI (i9 + 1))), (0, .ref (Z 1)), (1, .ref (Z (1000 + k)))] := lv_sub hl [0, 2, 3] rfl
              have hl : lv_has ls 4 [(2, .int (nI (i9 + 1))), (0, .ref (Z 1)), (1, .ref (Z (1000 + k)))] := hl
              have hMk : ∀ a, ρ a = 1000 + k → ¬ rP ρ a := fun a z z2 => by have z2 : ρ a = 0 := z2; omega
              have hfk : gh_fr g4 f17 (fun a => ρ a = 1000 + k) := by rw [hff17]; exact gh_fr.rf.put (Or.inl (hz _ (by unfold rU; omega)))
              have hok : rs_ok cb bg N n (bg (pt * 3 + (if cb pt = 11 ∧ vt_tr x3 = false then 2 else 1))) (if cb pt = 8 then x3 else X) := rs_child hqw (by omega) hq6 hn19 (nx_lt _ (by omega) hkd _) (by split; exact (hx3.le).2; exact hX7)
              have hcw : cw E (rP ρ) f17 (if cb pt = 8 then a9 else it) (if cb pt = 8 then x3 else X) := by split; exact hx3.keep hfk hMk; exact hit1.keep hfk hMk
              have hnw := rs_new (Y := Y) (φ := φ3 - 1) hok (by omega) (by omega) h_Z__1000___b3__f17 hcw (hel1.keep hfk hMk) hnuR
              have hrs3 := hrs3.keep (φ1 := φ3 - 1) hfk hMk (Nat.le_refl _) (fun i hi z => by have := hlt4 i hi; have e9 := hz (1000 + i) (by unfold rU; omega); have z : ρ (Z (1000 + i)) = 1000 + k := z; exact hnk4 ((show i = k by omega) ▸ hi))
              refine W.widen (by first | omega | (dsimp only; omega)) (by first | omega | (dsimp only; omega)) (ih (i9 + 1) (φ3 - 1) (b3 + 1) (cc + d2 + d3 + 1) 1 (some j3) (some b3) f17 H locs ls (by omega) (by omega) hR ⟨by omega, by omega⟩ ⟨by omega, by omega, by omega, by omega⟩ hfr h_Z__1000___k__f17 (Or.inr ⟨j3, b3, x3, vt_0 0, R3, _, F4, fun i => i = b3, rfl, rfl, hrs3, hnw, ⟨fun i hi => ?_, fun i hi => ?_, hnk4, fun z => by omega, fun i hi z => by have := hlt4 i hi; omega⟩, hB3⟩) V hl)
              · rcases hF4 i hi with z | z; rcases hF1 i z with z | z; exact Or.inl z; exact Or.inr ⟨by omega, by omega⟩; exact Or.inr ⟨by omega, by omega⟩
              · exact Or.inr ⟨by omega, by omega⟩
        · refine W.eq (g2 := F0 m 27 ls [.int 1]) rfl ?_
          refine lv_istore_n hx hb d_Ru_askForEachFirst_27 rfl hl (by decide) rfl (fun ls hl => ?_)
          have hl : lv_has ls 4 [(3, .int 1), (2, .int (nI i9)), (0, .ref (Z 1)), (1, .ref (Z (1000 + k)))] := hl
          refine lv_iload_n hx hb d_Ru_askForEachFirst_28 rfl (lv_at hl 0 rfl) ?_
          refine lv_if_eq (tgt := 34) hx hb d_Ru_askForEachFirst_29 (by decide) (fun c18 => absurd c18 (by decide)) (fun c18 => ?_)
          refine lv_iload_n hx hb d_Ru_askForEachFirst_32 rfl (lv_at hl 0 rfl) ?_
          refine gh_reti hAe C V hr hlocks d_Ru_askForEachFirst_33 (by first | decide | omega | (dsimp only; omega)) (by first | decide | omega | (dsimp only; omega)) ?_
          exact ⟨φ2, b2, some j1, some j2, hR, ⟨by omega, by omega⟩, hfr, hs2, Or.inr (Or.inr (Or.inl ⟨cc + d2, fun e h => by rw [hB, hT2, sr_fe_fail, sr_add_fail], by omega, rfl, by omega⟩))⟩
        · refine W.eq (g2 := F0 m 27 ls [.int 3]) rfl ?_
          refine lv_istore_n hx hb d_Ru_askForEachFirst_27 rfl hl (by decide) rfl (fun ls hl => ?_)
          have hl : lv_has ls 4 [(3, .int 3), (2, .int (nI i9)), (0, .ref (Z 1)), (1, .ref (Z (1000 + k)))] := hl
          refine lv_iload_n hx hb d_Ru_askForEachFirst_28 rfl (lv_at hl 0 rfl) ?_
          refine lv_if_eq (tgt := 34) hx hb d_Ru_askForEachFirst_29 (by decide) (fun c19 => absurd c19 (by decide)) (fun c19 => ?_)
          refine lv_iload_n hx hb d_Ru_askForEachFirst_32 rfl (lv_at hl 0 rfl) ?_
          refine gh_reti hAe C V hr hlocks d_Ru_askForEachFirst_33 (by first | decide | omega | (dsimp only; omega)) (by first | decide | omega | (dsimp only; omega)) ?_
          refine ⟨φ2, b2, some j1, some j2, hR, ⟨by omega, by omega⟩, hfr, hs2, Or.inr (Or.inr (Or.inr ⟨cc + d2, v1, x2, R2, T1, fun e h => by rw [hB, hT2, sr_fe_cons, sr_add_add], by omega, rfl, by omega, j1, j2, F1, F3, rfl, rfl, hr1, hrs2, fun i hi => ?_, fun i hi => ?_, a3, fun z => ?_, fun i hi z => ?_⟩))⟩
          · rcases a1 i hi with z | z; exact Or.inl z; exact Or.inr ⟨by omega, by omega⟩
          · rcases hF3 i hi with z | z; rcases a2 i z with z | z; exact Or.inl z; exact Or.inr ⟨by omega, by omega⟩; exact Or.inr ⟨by omega, by omega⟩
          · rcases hF3 k z with z | z; exact a4 z; omega
          · rcases hF3 i z with z | z; exact a5 i hi z; rcases a1 i hi with y | y; have := hFb i y; omega; omega
  exact W.widen (by omega) (by omega) (loop 300 0 φ b 0 0 fi se f _ _ ls (by omega) (by omega) hR ⟨Nat.le_refl _, Nat.le_refl _⟩ ⟨Nat.zero_le _, rfl, Nat.le_refl _, by omega⟩ gh_fr.rf hs hst0 V hl)
