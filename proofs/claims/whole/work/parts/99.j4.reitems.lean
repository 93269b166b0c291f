/-! Reader: readItems. Printed by wip/whole/gen_re5.py. -/
theorem rd_l_mo {tx : Nat → Nat} {n d : Nat} {ob : Bool} (hch : ∀ j, j < n → 32 ≤ tx j ∧ tx j ≤ 126) (hn : n ≤ 120) (hd : d ≤ 8) : ∀ {c p q : Nat} {r : List (List Int32) × List vt} {oo : Option (List (List Int32) × List vt)}, p ≤ n → rd_l tx n (rd_v tx n false d) ob c r p = (q, oo) → p ≤ q ∧ q ≤ n := by
  intro c
  induction c with
  | zero =>
    intro p q r oo hp h
    cases h
    exact ⟨Nat.le_refl _, hp⟩
  | succ c ih =>
    intro p q r oo hp h
    rw [rd_l_i] at h
    cases hI : re_I tx n ob d p with
    | mk q2 o2 =>
      rw [hI] at h
      have h2 := re_I_ok hch hn hd hp hI
      have hb := rbl_le (tx := tx) (n := n) (p := q2) h2.2.1
      have hg := rbl_ge (tx := tx) (n := n) (p := q2)
      cases o2 with
      | none => cases h; exact ⟨h2.1, h2.2.1⟩
      | some e =>
        dsimp only at h
        by_cases hs : sg tx n (rbl tx n q2) = rcc ob
        · rw [if_pos hs] at h
          have := sg_lt (tx := tx) (n := n) (p := rbl tx n q2) (by rw [hs]; unfold rcc; split <;> decide)
          cases h
          omega
        · rw [if_neg hs] at h
          by_cases h44 : c = 0 ∨ sg tx n (rbl tx n q2) ≠ 44
          · rw [if_pos h44] at h
            cases h
            omega
          · rw [if_neg h44] at h
            have h45 : sg tx n (rbl tx n q2) = 44 := Classical.byContradiction fun z => h44 (Or.inr z)
            have := sg_lt (tx := tx) (n := n) (p := rbl tx n q2) (by rw [h45]; decide)
            have := ih (by omega) h
            omega
theorem rPg_0 {d : Nat} {ob : Bool} : rPg d ob ([], []) := by
  refine ⟨fun j hj => absurd hj (Nat.not_lt_zero j), ?_⟩
  cases ob
  · rfl
  · exact ⟨rfl, fun j hj => absurd hj (Nat.not_lt_zero j)⟩
theorem rPg_h {d : Nat} {ob : Bool} {r : List (List Int32) × List vt} (h : rPg d ob r) : vt_hmax r.2 ≤ d := by
  cases d with
  | zero =>
    cases hx : r.2 with
    | nil => exact Nat.le_refl _
    | cons x xs => have := (h.1 0 (by rw [hx]; exact Nat.succ_pos _)).2; omega
  | succ d => exact vt_hmax_le (fun j hj => by have := (h.1 j hj).2; omega)
/-- a list or an object, its sign at p -/
def rd_B (tx : Nat → Nat) (n : Nat) (ob : Bool) (d p : Nat) : Nat × Option vt := if sg tx n (rbl tx n (p + 1)) = rcc ob then (rbl tx n (p + 1) + 1, some (vt_m (if ob = true then 6 else 5) [] [])) else rd_m ob (rd_l tx n (rd_v tx n false d) ob 16 ([], []) (rbl tx n (p + 1)))
theorem rd_l_fin {tx : Nat → Nat} {n d p q : Nat} {ob : Bool} {oo : Option (List (List Int32) × List vt)} (hch : ∀ j, j < n → 32 ≤ tx j ∧ tx j ≤ 126) (hn : n ≤ 120) (hd : d ≤ 7) (hp : p < n) (h : rd_l tx n (rd_v tx n false d) ob 16 ([], []) (rbl tx n (p + 1)) = (q, oo)) : ∀ r2, oo = some r2 → vt_wsum r2.2 ≤ 100 ∧ vt_hmax r2.2 ≤ 7 ∧ (ob = true → r2.1.length = r2.2.length) := by
  have h1 := rbl_le (tx := tx) (n := n) (p := p + 1) (by omega)
  have h2 := rbl_ge (tx := tx) (n := n) (p := p + 1)
  have hk := rd_l_ok (p0 := p) hch (g := rd_v tx n false d) (fun q q2 o9 hq hv => by
    have h3 := rd_v_ok hch hn (by omega) hq hv
    have h4 := rbl_ge (tx := tx) (n := n) (p := q)
    refine ⟨by omega, h3.2.1, fun X hX => ?_⟩
    have h5 := h3.2.2 X hX
    exact ⟨by omega, h5.2.1, h5.2.2.1, by omega⟩) h1 (by omega) (rPg_0 (d := d) (ob := ob)) (by decide) (by show 2 * 1 ≤ _; omega) h
  intro r2 hr
  obtain ⟨-, h6, -, h7⟩ := hk.2.2 r2 hr
  have := rPg_h h6
  refine ⟨by omega, by omega, fun z => ?_⟩
  have h8 := h6.2
  rw [if_pos z] at h8
  exact h8.1
theorem d_Re_readItems_0 : decode b_Re_readItems 0 = .ok (.iload_n 2, 1) := by decide +kernel
theorem d_Re_readItems_1 : decode b_Re_readItems 1 = .ok (.ifCond .eq 8, 3) := by decide +kernel
theorem d_Re_readItems_4 : decode b_Re_readItems 4 = .ok (.bipush 125, 2) := by decide +kernel
theorem d_Re_readItems_6 : decode b_Re_readItems 6 = .ok (.goto 5, 3) := by decide +kernel
theorem d_Re_readItems_9 : decode b_Re_readItems 9 = .ok (.bipush 93, 2) := by decide +kernel
theorem d_Re_readItems_11 : decode b_Re_readItems 11 = .ok (.istore_n 3, 1) := by decide +kernel
theorem d_Re_readItems_12 : decode b_Re_readItems 12 = .ok (.aload_n 0, 1) := by decide +kernel
theorem d_Re_readItems_13 : decode b_Re_readItems 13 = .ok (.getfield 17, 3) := by decide +kernel
theorem d_Re_readItems_16 : decode b_Re_readItems 16 = .ok (.iload_n 1, 1) := by decide +kernel
theorem d_Re_readItems_17 : decode b_Re_readItems 17 = .ok (.aaload, 1) := by decide +kernel
theorem d_Re_readItems_18 : decode b_Re_readItems 18 = .ok (.astore 4, 2) := by decide +kernel
theorem d_Re_readItems_20 : decode b_Re_readItems 20 = .ok (.aload 4, 2) := by decide +kernel
theorem d_Re_readItems_22 : decode b_Re_readItems 22 = .ok (.invokevirtual 92, 3) := by decide +kernel
theorem d_Re_readItems_25 : decode b_Re_readItems 25 = .ok (.aload_n 0, 1) := by decide +kernel
theorem d_Re_readItems_26 : decode b_Re_readItems 26 = .ok (.dup, 1) := by decide +kernel
theorem d_Re_readItems_27 : decode b_Re_readItems 27 = .ok (.getfield 42, 3) := by decide +kernel
theorem d_Re_readItems_30 : decode b_Re_readItems 30 = .ok (.iconst 1, 1) := by decide +kernel
theorem d_Re_readItems_31 : decode b_Re_readItems 31 = .ok (.iadd, 1) := by decide +kernel
theorem d_Re_readItems_32 : decode b_Re_readItems 32 = .ok (.putfield 42, 3) := by decide +kernel
theorem d_Re_readItems_35 : decode b_Re_readItems 35 = .ok (.aload_n 0, 1) := by decide +kernel
theorem d_Re_readItems_36 : decode b_Re_readItems 36 = .ok (.iload_n 3, 1) := by decide +kernel
theorem d_Re_readItems_37 : decode b_Re_readItems 37 = .ok (.invokevirtual 95, 3) := by decide +kernel
theorem d_Re_readItems_40 : decode b_Re_readItems 40 = .ok (.ifCond .eq 11, 3) := by decide +kernel
theorem d_Re_readItems_43 : decode b_Re_readItems 43 = .ok (.aload_n 0, 1) := by decide +kernel
theorem d_Re_readItems_44 : decode b_Re_readItems 44 = .ok (.aload 4, 2) := by decide +kernel
theorem d_Re_readItems_46 : decode b_Re_readItems 46 = .ok (.iload_n 2, 1) := by decide +kernel
theorem d_Re_readItems_47 : decode b_Re_readItems 47 = .ok (.invokevirtual 99, 3) := by decide +kernel
theorem d_Re_readItems_50 : decode b_Re_readItems 50 = .ok (.areturn, 1) := by decide +kernel
theorem d_Re_readItems_51 : decode b_Re_readItems 51 = .ok (.iconst 1, 1) := by decide +kernel
theorem d_Re_readItems_52 : decode b_Re_readItems 52 = .ok (.istore 5, 2) := by decide +kernel
theorem d_Re_readItems_54 : decode b_Re_readItems 54 = .ok (.iload 5, 2) := by decide +kernel
theorem d_Re_readItems_56 : decode b_Re_readItems 56 = .ok (.bipush 16, 2) := by decide +kernel
theorem d_Re_readItems_58 : decode b_Re_readItems 58 = .ok (.if_icmp .gt 79, 3) := by decide +kernel
theorem d_Re_readItems_61 : decode b_Re_readItems 61 = .ok (.iload_n 2, 1) := by decide +kernel
theorem d_Re_readItems_62 : decode b_Re_readItems 62 = .ok (.ifCond .eq 18, 3) := by decide +kernel
theorem d_Re_readItems_65 : decode b_Re_readItems 65 = .ok (.aload_n 0, 1) := by decide +kernel
theorem d_Re_readItems_66 : decode b_Re_readItems 66 = .ok (.aload 4, 2) := by decide +kernel
theorem d_Re_readItems_68 : decode b_Re_readItems 68 = .ok (.iload_n 1, 1) := by decide +kernel
theorem d_Re_readItems_69 : decode b_Re_readItems 69 = .ok (.iconst 1, 1) := by decide +kernel
theorem d_Re_readItems_70 : decode b_Re_readItems 70 = .ok (.iadd, 1) := by decide +kernel
theorem d_Re_readItems_71 : decode b_Re_readItems 71 = .ok (.invokevirtual 103, 3) := by decide +kernel
theorem d_Re_readItems_74 : decode b_Re_readItems 74 = .ok (.ifCond .eq 18, 3) := by decide +kernel
theorem d_Re_readItems_77 : decode b_Re_readItems 77 = .ok (.goto 17, 3) := by decide +kernel
theorem d_Re_readItems_80 : decode b_Re_readItems 80 = .ok (.aload_n 0, 1) := by decide +kernel
theorem d_Re_readItems_81 : decode b_Re_readItems 81 = .ok (.aload 4, 2) := by decide +kernel
theorem d_Re_readItems_83 : decode b_Re_readItems 83 = .ok (.iload_n 1, 1) := by decide +kernel
theorem d_Re_readItems_84 : decode b_Re_readItems 84 = .ok (.iconst 1, 1) := by decide +kernel
theorem d_Re_readItems_85 : decode b_Re_readItems 85 = .ok (.iadd, 1) := by decide +kernel
theorem d_Re_readItems_86 : decode b_Re_readItems 86 = .ok (.invokevirtual 107, 3) := by decide +kernel
theorem d_Re_readItems_89 : decode b_Re_readItems 89 = .ok (.ifCond .ne 5, 3) := by decide +kernel
theorem d_Re_readItems_92 : decode b_Re_readItems 92 = .ok (.aconst_null, 1) := by decide +kernel
theorem d_Re_readItems_93 : decode b_Re_readItems 93 = .ok (.areturn, 1) := by decide +kernel
theorem d_Re_readItems_94 : decode b_Re_readItems 94 = .ok (.aload_n 0, 1) := by decide +kernel
theorem d_Re_readItems_95 : decode b_Re_readItems 95 = .ok (.iload_n 3, 1) := by decide +kernel
theorem d_Re_readItems_96 : decode b_Re_readItems 96 = .ok (.invokevirtual 95, 3) := by decide +kernel
theorem d_Re_readItems_99 : decode b_Re_readItems 99 = .ok (.ifCond .eq 11, 3) := by decide +kernel
theorem d_Re_readItems_102 : decode b_Re_readItems 102 = .ok (.aload_n 0, 1) := by decide +kernel
theorem d_Re_readItems_103 : decode b_Re_readItems 103 = .ok (.aload 4, 2) := by decide +kernel
theorem d_Re_readItems_105 : decode b_Re_readItems 105 = .ok (.iload_n 2, 1) := by decide +kernel
theorem d_Re_readItems_106 : decode b_Re_readItems 106 = .ok (.invokevirtual 99, 3) := by decide +kernel
theorem d_Re_readItems_109 : decode b_Re_readItems 109 = .ok (.areturn, 1) := by decide +kernel
theorem d_Re_readItems_110 : decode b_Re_readItems 110 = .ok (.iload 5, 2) := by decide +kernel
theorem d_Re_readItems_112 : decode b_Re_readItems 112 = .ok (.bipush 16, 2) := by decide +kernel
theorem d_Re_readItems_114 : decode b_Re_readItems 114 = .ok (.if_icmp .eq 12, 3) := by decide +kernel
theorem d_Re_readItems_117 : decode b_Re_readItems 117 = .ok (.aload_n 0, 1) := by decide +kernel
theorem d_Re_readItems_118 : decode b_Re_readItems 118 = .ok (.bipush 44, 2) := by decide +kernel
theorem d_Re_readItems_120 : decode b_Re_readItems 120 = .ok (.invokevirtual 95, 3) := by decide +kernel
theorem d_Re_readItems_123 : decode b_Re_readItems 123 = .ok (.ifCond .ne 8, 3) := by decide +kernel
theorem d_Re_readItems_126 : decode b_Re_readItems 126 = .ok (.aload_n 0, 1) := by decide +kernel
theorem d_Re_readItems_127 : decode b_Re_readItems 127 = .ok (.invokevirtual 52, 3) := by decide +kernel
theorem d_Re_readItems_130 : decode b_Re_readItems 130 = .ok (.areturn, 1) := by decide +kernel
theorem d_Re_readItems_131 : decode b_Re_readItems 131 = .ok (.iinc 5 1, 3) := by decide +kernel
theorem d_Re_readItems_134 : decode b_Re_readItems 134 = .ok (.goto (-80), 3) := by decide +kernel
theorem d_Re_readItems_137 : decode b_Re_readItems 137 = .ok (.aload_n 0, 1) := by decide +kernel
theorem d_Re_readItems_138 : decode b_Re_readItems 138 = .ok (.invokevirtual 52, 3) := by decide +kernel
theorem d_Re_readItems_141 : decode b_Re_readItems 141 = .ok (.areturn, 1) := by decide +kernel
set_option maxHeartbeats 4000000 in
set_option maxRecDepth 100000 in
theorem c_Re_readItemsF (l : Launch) (E : gh_E) (ρ Z tx : Nat → Nat) (n d : Nat) (ihv : re_V l E ρ Z tx n d) (sz : Nat) (f : gh_F) (pl : Nat) (bd : Int32) (dp Q : Nat) (O : Option vt) (hdp : dp + (d + 1) = 8) (hp : pl < n) (hR : rd_B tx n false d pl = (Q, O)) (hA : re_A E ρ Z tx n f pl bd) : gh_M l y_Re_readItems b_Re_readItems 6 (some (.object "QueryMachine$Value")) E sz [.ref (Z 8), .int (nI dp), .int 0] f { frames := 16 + 4 * d, cells := 4 * (Q - pl) + 4, slots := 60 * (Q - pl) + 60, locals := 380 + 120 * d } (fun r g => re_O E ρ Z tx n g bd (Q, O) r ∧ gh_fr f g (re_M ρ dp)) := by
  refine gh_open (by decide) (Nat.le_of_ble_eq_true rfl) ?_
  intro p e s m args below meth c A ls hAe C V hr hlocks hname hl
  have hx := C.1
  have hb := C.2.1
  have hl : lv_has ls 6 [(0, .ref (Z 8)), (1, .int (nI dp)), (2, .int 0)] := hl
  have h120 := hA.n
  have hch : ∀ j, j < n → 32 ≤ tx j ∧ tx j ≤ 126 := hA.2.1.2.2.2.2.2.2.2
  have hz := hA.2.1.1
  have hg8 := re_M8 hz (show dp < 8 by omega)
  have hfr : gh_fr f f (re_M ρ dp) := gh_fr.rf
  have hbl0 := rbl_le (tx := tx) (n := n) (p := pl + 1) (by omega)
  have hbg0 := rbl_ge (tx := tx) (n := n) (p := pl + 1)
  unfold rd_B at hR
  refine lv_iload_n hx hb d_Re_readItems_0 rfl (lv_at hl 2 rfl) ?_
  refine lv_if_eq (tgt := 9) hx hb d_Re_readItems_1 (by decide) (fun c1 => ?_) (fun c1 => absurd (by decide) c1)
  refine lv_bipush (v := 93) hx hb d_Re_readItems_9 (by decide) ?_
  refine lv_istore_n hx hb d_Re_readItems_11 rfl hl (by decide) rfl (fun ls hl => ?_)
  have hl : lv_has ls 6 [(3, .int 93), (0, .ref (Z 8)), (1, .int (nI dp)), (2, .int 0)] := hl
  refine lv_aload_n hx hb d_Re_readItems_12 rfl (lv_at hl 1 rfl) ?_
  refine gh_get C V hA.1 gc_Re gi_Re 1 (by decide) f_Re_17 rfl rfl d_Re_readItems_13 ?_
  refine lv_iload_n hx hb d_Re_readItems_16 rfl (lv_at hl 2 rfl) ?_
  obtain ⟨gG9, h208, hgG9⟩ := hA.2.1.2.2.1
  refine gn_aald (t0 := 5) (i := dp) (v := Z (100 + 3 * dp)) C V rfl h208 (by omega) (by decide) (hgG9 dp (by omega)) d_Re_readItems_17 ?_
  refine lv_astore hx hb d_Re_readItems_18 hl (by decide) rfl (fun ls hl => ?_)
  have hl : lv_has ls 6 [(4, .ref (Z (100 + 3 * dp))), (3, .int 93), (0, .ref (Z 8)), (1, .int (nI dp)), (2, .int 0)] := hl
  refine lv_aload hx hb d_Re_readItems_20 (lv_at hl 0 rfl) ?_
  obtain ⟨-, -, n9, gk9, gi9, hga, -⟩ := id (hA.2.2.2 dp (by omega))
  refine gh_callV C V hl.1 m_Ga_clear l_Re_92 (c_Ga_clear l E _ _ (rP ρ) _ _ _ (hA.2.2.2 dp (by omega))) rfl hga gc_Ga ⟨by first | decide | omega | (dsimp only; omega), by first | decide | omega | (dsimp only; omega)⟩ ⟨by first | decide | omega | (dsimp only; omega), by first | decide | omega | (dsimp only; omega)⟩ (Nat.le_of_ble_eq_true rfl) rfl d_Re_readItems_22 (fun r gc H locs hp9 V1 => ?_)
  obtain ⟨rfl, hg, hfr3⟩ := hp9
  have V := V1
  refine W.eq (g2 := F0 m 25 ls []) rfl ?_
  have hA3 := hA.ga (show dp < 8 by omega) hfr3 hg.raw
  have hA := hA3.1
  have hfr := hfr.tr hA3.2 (fun _ _ _ z => z)
  refine lv_aload_n hx hb d_Re_readItems_25 rfl (lv_at hl 2 rfl) ?_
  refine lv_dup hx hb d_Re_readItems_26 rfl ?_
  refine gh_get C V hA.1 gc_Re gi_Re 5 (by decide) f_Re_42 rfl rfl d_Re_readItems_27 ?_
  refine lv_iconst (v := 1) hx hb d_Re_readItems_30 (by decide) ?_
  refine gn_iadd (a := pl) (b := 1) hx hb d_Re_readItems_31 ?_
  refine gh_put C V hA.1 gc_Re gi_Re ty_Re nm_Re 5 (by decide) f_Re_42 rfl rfl rfl (Nat.le_of_ble_eq_true rfl) d_Re_readItems_32 (fun H locs V1 => ?_)
  obtain ⟨fa1, hffa1⟩ : ∃ z9 : gh_F, z9 = gh_u gc (Z 8) (.inr (3, [.ref (Z 200), .ref (Z 208), .ref (Z 9), .ref (Z 7), .int (nI n), .int (nI (pl + 1)), .int bd])) := ⟨_, rfl⟩
  have V : gh_V E A fa1 s H locs := by rw [hffa1]; exact V1
  have hA2 : re_A E ρ Z tx n fa1 (pl + 1) bd ∧ gh_fr gc fa1 (re_M ρ 8) := by rw [hffa1]; exact hA.own
  have hA := hA2.1
  have hfr := re_tr hfr hA2.2 (by omega)
  have hg := hg.keep hA2.2 re_M.P hg8.1 hg8.2.1 hg8.2.2
  refine lv_aload_n hx hb d_Re_readItems_35 rfl (lv_at hl 2 rfl) ?_
  refine lv_iload_n hx hb d_Re_readItems_36 rfl (lv_at hl 1 rfl) ?_
  refine W.eq (g2 := F0 m 37 ls [.int (nI 93), .ref (Z 8)]) rfl ?_
  refine gh_callV C V hl.1 m_Re_passes l_Re_95 (c_Re_passes l E _ _ ρ Z tx n (pl + 1) bd 93 hA (by omega) (by decide) (by decide)) rfl hA.1 gc_Re ⟨by first | decide | omega | (dsimp only; omega), by first | decide | omega | (dsimp only; omega)⟩ ⟨by first | decide | omega | (dsimp only; omega), by first | decide | omega | (dsimp only; omega)⟩ (Nat.le_of_ble_eq_true rfl) rfl d_Re_readItems_37 (fun r gp H locs hp9 V1 => ?_)
  obtain ⟨rfl, hA, hfr2⟩ := hp9
  have V := V1
  have hg := hg.keep hfr2 re_M.P hg8.1 hg8.2.1 hg8.2.2
  have hfr := re_tr hfr hfr2 (by omega)
  have hcc : rcc false = 93 := rfl
  rw [hcc] at hR
  by_cases hcl : sg tx n (rbl tx n (pl + 1)) = 93
  · have hbn := sg_lt (by omega : sg tx n (rbl tx n (pl + 1)) ≠ 0)
    rw [if_pos hcl] at hA hR
    obtain ⟨hQ, hO⟩ := Prod.mk.inj hR
    rw [decide_eq_true hcl]
    refine W.eq (g2 := F0 m 40 ls [.int 1]) rfl ?_
    refine lv_if_eq (tgt := 51) hx hb d_Re_readItems_40 (by decide) (fun c2 => absurd c2 (by decide)) (fun c2 => ?_)
    refine lv_aload_n hx hb d_Re_readItems_43 rfl (lv_at hl 2 rfl) ?_
    refine lv_aload hx hb d_Re_readItems_44 (lv_at hl 0 rfl) ?_
    refine lv_iload_n hx hb d_Re_readItems_46 rfl (lv_at hl 4 rfl) ?_
    refine gh_callV C V hl.1 m_Re_made l_Re_99 (c_Re_made5 l E _ _ ρ Z tx n (rbl tx n (pl + 1) + 1) bd dp [] [] hA hg (by decide)) rfl hA.1 gc_Re ⟨by first | decide | omega | (dsimp only; omega), by first | decide | omega | (dsimp only; omega)⟩ ⟨by first | decide | omega | (dsimp only; omega), by first | decide | omega | (dsimp only; omega)⟩ (Nat.le_of_ble_eq_true rfl) rfl d_Re_readItems_47 (fun r gm H locs hp9 V1 => ?_)
    obtain ⟨⟨v9, rfl, hv9⟩, hA, hfr2⟩ := hp9
    have V := V1
    refine W.eq (g2 := F0 m 50 ls [.ref v9]) rfl ?_
    have hfr := hfr.tr hfr2 (fun _ _ _ z => absurd z (by simp))
    refine gh_reta hAe C V hr (by first | exact Or.inl ⟨_, rfl⟩ | exact Or.inr ⟨_, rfl⟩) (by first | exact Or.inl rfl | exact Or.inr ⟨_, rfl⟩) hlocks d_Re_readItems_50 (by first | decide | omega | (dsimp only; omega)) (by first | decide | omega | (dsimp only; omega)) ?_
    exact ⟨by rw [← hQ, ← hO]; exact ⟨⟨_, rfl, hv9⟩, hA⟩, hfr⟩
  · rw [if_neg hcl] at hA hR
    rw [decide_eq_false hcl]
    refine W.eq (g2 := F0 m 40 ls [.int 0]) rfl ?_
    cases hL : rd_l tx n (rd_v tx n false d) false 16 ([], []) (rbl tx n (pl + 1)) with
    | mk Q9 OO =>
      rw [hL] at hR
      have hfin := rd_l_fin hch h120 (by omega) hp hL
      obtain ⟨hQ, hO⟩ := Prod.mk.inj hR
      have hQ : Q9 = Q := hQ
      rw [hQ] at hL
      refine lv_if_eq (tgt := 51) hx hb d_Re_readItems_40 (by decide) (fun c3 => ?_) (fun c3 => absurd (by decide) c3)
      refine lv_iconst (v := 1) hx hb d_Re_readItems_51 (by decide) ?_
      refine lv_istore hx hb d_Re_readItems_52 hl (by decide) rfl (fun ls hl => ?_)
      have hl : lv_has ls 6 [(5, .int 1), (4, .ref (Z (100 + 3 * dp))), (3, .int 93), (0, .ref (Z 8)), (1, .int (nI dp)), (2, .int 0)] := hl
      have hl : lv_has ls 6 [(5, .int 1), (4, .ref (Z (100 + 3 * dp))), (3, .int 93), (0, .ref (Z 8)), (1, .int (nI dp)), (2, .int 0)] := lv_sub hl [0, 1, 2, 3, 4, 5] rfl
      have hl : lv_has ls 6 [(5, .int (nI (17 - 16))), (4, .ref (Z (100 + 3 * dp))), (3, .int 93), (0, .ref (Z 8)), (1, .int (nI dp)), (2, .int 0)] := hl
      have loop : ∀ (c9 p9 : Nat) (r0 : List (List Int32) × List vt) (f1 : gh_F) (H : Heap) (locs : List Loc) (ls : Array Slot), c9 ≤ 16 → p9 ≤ n → pl < p9 → rPg d false r0 → r0.2.length + c9 ≤ 16 → rd_l tx n (rd_v tx n false d) false c9 r0 p9 = (Q, OO) → re_A E ρ Z tx n f1 p9 bd → ga_R E (rP ρ) f1 (Z (100 + 3 * dp)) (Z (101 + 3 * dp)) (Z (102 + 3 * dp)) r0.1 r0.2 → gh_fr f f1 (re_M ρ dp) → gh_V E A f1 s H locs → lv_has ls 6 [(5, .int (nI (17 - c9))), (4, .ref (Z (100 + 3 * dp))), (3, .int 93), (0, .ref (Z 8)), (1, .int (nI dp)), (2, .int 0)] → W p l e { frames := 16 + 4 * d, cells := 4 * (Q - pl) + 4, slots := 60 * (Q - pl) + 60, locals := 380 + 120 * d } s m args below meth c H locs (4 * (p9 - pl)) (60 * (p9 - pl)) (MQ below (gh_Q E f (fun r g => re_O E ρ Z tx n g bd (Q, O) r ∧ gh_fr f g (re_M ρ dp))) args s (4 * (Q - pl) + 4) (60 * (Q - pl) + 60) A) (F0 m 54 ls []) := by
        intro c9
        induction c9 with
        | zero =>
          intro p9 r0 f1 H locs ls hc9 hp9 hpl9 hrp hlen hrd hA hg hfr V hl
          obtain ⟨hQ0, hO0⟩ := Prod.mk.inj hrd
          rw [← hO0] at hO
          refine lv_iload hx hb d_Re_readItems_54 (lv_at hl 0 rfl) ?_
          refine lv_bipush (v := 16) hx hb d_Re_readItems_56 (by decide) ?_
          refine lv_icmp_gt (tgt := 137) hx hb d_Re_readItems_58 (by decide) (fun c4 => ?_) (fun c4 => absurd (by decide) c4)
          refine lv_aload_n hx hb d_Re_readItems_137 rfl (lv_at hl 3 rfl) ?_
          refine gh_callV C V hl.1 m_Re_refused l_Re_52 (c_Re_refused l E _ _ ρ Z tx n p9 bd hA) rfl hA.1 gc_Re ⟨by first | decide | omega | (dsimp only; omega), by first | decide | omega | (dsimp only; omega)⟩ ⟨by first | decide | omega | (dsimp only; omega), by first | decide | omega | (dsimp only; omega)⟩ (Nat.le_of_ble_eq_true rfl) rfl d_Re_readItems_138 (fun r fz2 H locs hp9 V1 => ?_)
          obtain ⟨rfl, hA2, hfr2⟩ := hp9
          have V := V1
          refine W.eq (g2 := F0 m 141 ls [.null]) rfl ?_
          have hA := hA2
          have hfr := re_tr hfr hfr2 (by omega)
          refine gh_reta hAe C V hr (by first | exact Or.inl ⟨_, rfl⟩ | exact Or.inr ⟨_, rfl⟩) (by first | exact Or.inl rfl | exact Or.inr ⟨_, rfl⟩) hlocks d_Re_readItems_141 (by first | decide | omega | (dsimp only; omega)) (by first | decide | omega | (dsimp only; omega)) ?_
          exact ⟨by rw [← hO, ← hQ0]; exact ⟨rfl, hA⟩, hfr⟩
        | succ c9 ih =>
          intro p9 r0 f1 H locs ls hc9 hp9 hpl9 hrp hlen hrd hA hg hfr V hl
          rw [rd_l_i, hcc] at hrd
          cases hI : re_I tx n false d p9 with
          | mk q2 o2 =>
            rw [hI] at hrd
            have hI2 := re_I_ok hch h120 (by omega) hp9 hI
            have hbl2 := rbl_le (tx := tx) (n := n) (p := q2) hI2.2.1
            have hbg2 := rbl_ge (tx := tx) (n := n) (p := q2)
            have hq2Q : q2 ≤ Q := by
              cases o2 with
              | none => cases hrd; omega
              | some e9 =>
                dsimp only at hrd
                by_cases h1 : sg tx n (rbl tx n q2) = 93
                · rw [if_pos h1] at hrd; cases hrd; omega
                · rw [if_neg h1] at hrd
                  by_cases h2 : c9 = 0 ∨ sg tx n (rbl tx n q2) ≠ 44
                  · rw [if_pos h2] at hrd; cases hrd; omega
                  · rw [if_neg h2] at hrd
                    have h3 : sg tx n (rbl tx n q2) = 44 := Classical.byContradiction fun z => h2 (Or.inr z)
                    have h4 := sg_lt (tx := tx) (n := n) (p := rbl tx n q2) (by rw [h3]; decide)
                    have := rd_l_mo hch h120 (by omega) (show rbl tx n q2 + 1 ≤ n by omega) hrd
                    omega
            refine lv_iload hx hb d_Re_readItems_54 (lv_at hl 0 rfl) ?_
            refine lv_bipush (v := 16) hx hb d_Re_readItems_56 (by decide) ?_
            refine lv_icmp_gt (tgt := 137) hx hb d_Re_readItems_58 (by decide) (fun c5 => absurd c5 (fun z => absurd ((gq_lt (a := 16) (b := 17 - (c9 + 1)) (by omega) (by omega)).mp z) (by omega))) (fun c5 => ?_)
            refine lv_iload_n hx hb d_Re_readItems_61 rfl (lv_at hl 5 rfl) ?_
            refine lv_if_eq (tgt := 80) hx hb d_Re_readItems_62 (by decide) (fun c6 => ?_) (fun c6 => absurd (by decide) c6)
            refine lv_aload_n hx hb d_Re_readItems_80 rfl (lv_at hl 3 rfl) ?_
            refine lv_aload hx hb d_Re_readItems_81 (lv_at hl 1 rfl) ?_
            refine lv_iload_n hx hb d_Re_readItems_83 rfl (lv_at hl 4 rfl) ?_
            refine lv_iconst (v := 1) hx hb d_Re_readItems_84 (by decide) ?_
            refine gn_iadd (a := dp) (b := 1) hx hb d_Re_readItems_85 ?_
            refine gh_callV C V hl.1 m_Re_readItem l_Re_107 (c_Re_readItem l E ρ Z tx n d ihv _ _ p9 bd dp q2 r0 o2 hdp hp9 hI hA hg (by omega)) rfl hA.1 gc_Re ⟨by first | decide | omega | (dsimp only; omega), by first | decide | omega | (dsimp only; omega)⟩ ⟨by first | decide | omega | (dsimp only; omega), by first | decide | omega | (dsimp only; omega)⟩ (Nat.le_of_ble_eq_true rfl) rfl d_Re_readItems_86 (fun r gi H locs hp9 V1 => ?_)
            obtain ⟨hr9, hfr2⟩ := hp9
            have V := V1
            have hfr := hfr.tr hfr2 (fun _ _ _ z => z)
            cases o2 with
            | none =>
              obtain ⟨rfl, hA⟩ := hr9
              refine W.eq (g2 := F0 m 89 ls [.int 0]) rfl ?_
              obtain ⟨hQ0, hO0⟩ := Prod.mk.inj hrd
              rw [← hO0] at hO
              refine lv_if_ne (tgt := 94) hx hb d_Re_readItems_89 (by decide) (fun c7 => absurd (by decide) c7) (fun c7 => ?_)
              refine lv_null hx hb d_Re_readItems_92 ?_
              refine gh_reta hAe C V hr (by first | exact Or.inl ⟨_, rfl⟩ | exact Or.inr ⟨_, rfl⟩) (by first | exact Or.inl rfl | exact Or.inr ⟨_, rfl⟩) hlocks d_Re_readItems_93 (by first | decide | omega | (dsimp only; omega)) (by first | decide | omega | (dsimp only; omega)) ?_
              exact ⟨by rw [← hO, ← hQ0]; exact ⟨rfl, hA⟩, hfr⟩
            | some e9 =>
              obtain ⟨rfl, hA, hg⟩ := hr9
              refine W.eq (g2 := F0 m 89 ls [.int 1]) rfl ?_
              dsimp only at hrd
              obtain ⟨r1, hr1⟩ : ∃ z9, z9 = rd_ad false r0 e9.1 e9.2 := ⟨_, rfl⟩
              rw [← hr1] at hrd hg
              have hI3 := hI2.2.2 e9 rfl
              have hrp1 : rPg d false r1 := by rw [hr1]; exact hrp.ad hI3.2.2.2 ⟨hI3.2.1, hI3.2.2.1⟩
              have hlen1 : r1.2.length ≤ r0.2.length + 1 := by rw [hr1]; exact rd_ad_w.2
              refine lv_if_ne (tgt := 94) hx hb d_Re_readItems_89 (by decide) (fun c8 => ?_) (fun c8 => absurd c8 (by decide))
              refine lv_aload_n hx hb d_Re_readItems_94 rfl (lv_at hl 3 rfl) ?_
              refine lv_iload_n hx hb d_Re_readItems_95 rfl (lv_at hl 2 rfl) ?_
              refine W.eq (g2 := F0 m 96 ls [.int (nI 93), .ref (Z 8)]) rfl ?_
              refine gh_callV C V hl.1 m_Re_passes l_Re_95 (c_Re_passes l E _ _ ρ Z tx n (q2) bd 93 hA (by omega) (by decide) (by decide)) rfl hA.1 gc_Re ⟨by first | decide | omega | (dsimp only; omega), by first | decide | omega | (dsimp only; omega)⟩ ⟨by first | decide | omega | (dsimp only; omega), by first | decide | omega | (dsimp only; omega)⟩ (Nat.le_of_ble_eq_true rfl) rfl d_Re_readItems_96 (fun r gp H locs hp9 V1 => ?_)
              obtain ⟨rfl, hA, hfr2⟩ := hp9
              have V := V1
              have hg := hg.keep hfr2 re_M.P hg8.1 hg8.2.1 hg8.2.2
              have hfr := re_tr hfr hfr2 (by omega)
              by_cases hc2 : sg tx n (rbl tx n q2) = 93
              · have hbn := sg_lt (by omega : sg tx n (rbl tx n q2) ≠ 0)
                rw [if_pos hc2] at hA hrd
                obtain ⟨hQ0, hO0⟩ := Prod.mk.inj hrd
                rw [decide_eq_true hc2]
                refine W.eq (g2 := F0 m 99 ls [.int 1]) rfl ?_
                have hf9 := hfin r1 hO0.symm
                rw [← hO0] at hO
                refine lv_if_eq (tgt := 110) hx hb d_Re_readItems_99 (by decide) (fun c9 => absurd c9 (by decide)) (fun c9 => ?_)
                refine lv_aload_n hx hb d_Re_readItems_102 rfl (lv_at hl 3 rfl) ?_
                refine lv_aload hx hb d_Re_readItems_103 (lv_at hl 1 rfl) ?_
                refine lv_iload_n hx hb d_Re_readItems_105 rfl (lv_at hl 5 rfl) ?_
                refine gh_callV C V hl.1 m_Re_made l_Re_99 (c_Re_made5 l E _ _ ρ Z tx n (rbl tx n q2 + 1) bd dp r1.1 r1.2 hA hg ⟨hf9.1, hf9.2.1⟩) rfl hA.1 gc_Re ⟨by first | decide | omega | (dsimp only; omega), by first | decide | omega | (dsimp only; omega)⟩ ⟨by first | decide | omega | (dsimp only; omega), by first | decide | omega | (dsimp only; omega)⟩ (Nat.le_of_ble_eq_true rfl) rfl d_Re_readItems_106 (fun r gm H locs hp9 V1 => ?_)
                obtain ⟨⟨v9, rfl, hv9⟩, hA, hfr2⟩ := hp9
                have V := V1
                refine W.eq (g2 := F0 m 109 ls [.ref v9]) rfl ?_
                have hfr := hfr.tr hfr2 (fun _ _ _ z => absurd z (by simp))
                refine gh_reta hAe C V hr (by first | exact Or.inl ⟨_, rfl⟩ | exact Or.inr ⟨_, rfl⟩) (by first | exact Or.inl rfl | exact Or.inr ⟨_, rfl⟩) hlocks d_Re_readItems_109 (by first | decide | omega | (dsimp only; omega)) (by first | decide | omega | (dsimp only; omega)) ?_
                exact ⟨by rw [← hO, ← hQ0]; exact ⟨⟨_, rfl, hv9⟩, hA⟩, hfr⟩
              · rw [if_neg hc2] at hA hrd
                rw [decide_eq_false hc2]
                refine W.eq (g2 := F0 m 99 ls [.int 0]) rfl ?_
                by_cases hc0 : c9 = 0
                · rw [if_pos (Or.inl hc0)] at hrd
                  refine lv_if_eq (tgt := 110) hx hb d_Re_readItems_99 (by decide) (fun c10 => ?_) (fun c10 => absurd (by decide) c10)
                  refine lv_iload hx hb d_Re_readItems_110 (lv_at hl 0 rfl) ?_
                  refine lv_bipush (v := 16) hx hb d_Re_readItems_112 (by decide) ?_
                  refine lv_icmp_eq (tgt := 126) hx hb d_Re_readItems_114 (by decide) (fun c11 => ?_) (fun c11 => absurd (by rw [hc0]; decide) c11)
                  obtain ⟨hQ0, hO0⟩ := Prod.mk.inj hrd
                  rw [← hO0] at hO
                  refine lv_aload_n hx hb d_Re_readItems_126 rfl (lv_at hl 3 rfl) ?_
                  refine gh_callV C V hl.1 m_Re_refused l_Re_52 (c_Re_refused l E _ _ ρ Z tx n (rbl tx n q2) bd hA) rfl hA.1 gc_Re ⟨by first | decide | omega | (dsimp only; omega), by first | decide | omega | (dsimp only; omega)⟩ ⟨by first | decide | omega | (dsimp only; omega), by first | decide | omega | (dsimp only; omega)⟩ (Nat.le_of_ble_eq_true rfl) rfl d_Re_readItems_127 (fun r fz3 H locs hp9 V1 => ?_)
                  obtain ⟨rfl, hA2, hfr2⟩ := hp9
                  have V := V1
                  refine W.eq (g2 := F0 m 130 ls [.null]) rfl ?_
                  have hA := hA2
                  have hfr := re_tr hfr hfr2 (by omega)
                  refine gh_reta hAe C V hr (by first | exact Or.inl ⟨_, rfl⟩ | exact Or.inr ⟨_, rfl⟩) (by first | exact Or.inl rfl | exact Or.inr ⟨_, rfl⟩) hlocks d_Re_readItems_130 (by first | decide | omega | (dsimp only; omega)) (by first | decide | omega | (dsimp only; omega)) ?_
                  exact ⟨by rw [← hO, ← hQ0]; exact ⟨rfl, hA⟩, hfr⟩
                · refine lv_if_eq (tgt := 110) hx hb d_Re_readItems_99 (by decide) (fun c12 => ?_) (fun c12 => absurd (by decide) c12)
                  refine lv_iload hx hb d_Re_readItems_110 (lv_at hl 0 rfl) ?_
                  refine lv_bipush (v := 16) hx hb d_Re_readItems_112 (by decide) ?_
                  refine lv_icmp_eq (tgt := 126) hx hb d_Re_readItems_114 (by decide) (fun c13 => absurd c13 (fun z => absurd ((nI_eq (a := 17 - (c9 + 1)) (b := 16) (by omega) (by decide)).mp z) (by omega))) (fun c13 => ?_)
                  refine lv_aload_n hx hb d_Re_readItems_117 rfl (lv_at hl 3 rfl) ?_
                  refine lv_bipush (v := 44) hx hb d_Re_readItems_118 (by decide) ?_
                  refine W.eq (g2 := F0 m 120 ls [.int (nI 44), .ref (Z 8)]) rfl ?_
                  refine gh_callV C V hl.1 m_Re_passes l_Re_95 (c_Re_passes l E _ _ ρ Z tx n (rbl tx n q2) bd 44 hA (by omega) (by decide) (by decide)) rfl hA.1 gc_Re ⟨by first | decide | omega | (dsimp only; omega), by first | decide | omega | (dsimp only; omega)⟩ ⟨by first | decide | omega | (dsimp only; omega), by first | decide | omega | (dsimp only; omega)⟩ (Nat.le_of_ble_eq_true rfl) rfl d_Re_readItems_120 (fun r gq H locs hp9 V1 => ?_)
                  obtain ⟨rfl, hA, hfr2⟩ := hp9
                  have V := V1
                  have hg := hg.keep hfr2 re_M.P hg8.1 hg8.2.1 hg8.2.2
                  have hfr := re_tr hfr hfr2 (by omega)
                  rw [rbl_rbl] at hA
                  rw [rbl_rbl]
                  by_cases h44 : sg tx n (rbl tx n q2) = 44
                  · have hbn := sg_lt (by omega : sg tx n (rbl tx n q2) ≠ 0)
                    rw [if_neg (fun z => z.elim hc0 (fun z => z h44))] at hrd
                    rw [if_pos h44] at hA
                    rw [decide_eq_true h44]
                    refine W.eq (g2 := F0 m 123 ls [.int 1]) rfl ?_
                    refine lv_if_ne (tgt := 131) hx hb d_Re_readItems_123 (by decide) (fun c14 => ?_) (fun c14 => absurd c14 (by decide))
                    refine lv_iinc (k := 0) (v := (nI (17 - (c9 + 1))) + 1) hx hb d_Re_readItems_131 hl rfl (by rfl) (by decide) rfl (fun ls hl => ?_)
                    have hl : lv_has ls 6 [(5, .int (nI ((17 - (c9 + 1)) + 1))), (4, .ref (Z (100 + 3 * dp))), (3, .int 93), (0, .ref (Z 8)), (1, .int (nI dp)), (2, .int 0)] := by rw [nI_succ]; exact hl
                    refine lv_goto (tgt := 54) hx hb d_Re_readItems_134 (by decide) ?_
                    have hl : lv_has ls 6 [(5, .int (nI ((17 - (c9 + 1)) + 1))), (4, .ref (Z (100 + 3 * dp))), (3, .int 93), (0, .ref (Z 8)), (1, .int (nI dp)), (2, .int 0)] := lv_sub hl [0, 1, 2, 3, 4, 5] rfl
                    have hl : lv_has ls 6 [(5, .int (nI (17 - c9))), (4, .ref (Z (100 + 3 * dp))), (3, .int 93), (0, .ref (Z 8)), (1, .int (nI dp)), (2, .int 0)] := by rw [show 17 - c9 = 17 - (c9 + 1) + 1 by omega]; exact hl
                    exact gw_le (by first | omega | (dsimp only; omega)) (by first | omega | (dsimp only; omega)) (ih (rbl tx n q2 + 1) r1 _ H _ ls (by omega) (by omega) (by omega) hrp1 (by omega) hrd hA hg hfr V hl)
                  · rw [if_pos (Or.inr h44)] at hrd
                    rw [if_neg h44] at hA
                    rw [decide_eq_false h44]
                    refine W.eq (g2 := F0 m 123 ls [.int 0]) rfl ?_
                    refine lv_if_ne (tgt := 131) hx hb d_Re_readItems_123 (by decide) (fun c15 => absurd (by decide) c15) (fun c15 => ?_)
                    obtain ⟨hQ0, hO0⟩ := Prod.mk.inj hrd
                    rw [← hO0] at hO
                    refine lv_aload_n hx hb d_Re_readItems_126 rfl (lv_at hl 3 rfl) ?_
                    refine gh_callV C V hl.1 m_Re_refused l_Re_52 (c_Re_refused l E _ _ ρ Z tx n (rbl tx n q2) bd hA) rfl hA.1 gc_Re ⟨by first | decide | omega | (dsimp only; omega), by first | decide | omega | (dsimp only; omega)⟩ ⟨by first | decide | omega | (dsimp only; omega), by first | decide | omega | (dsimp only; omega)⟩ (Nat.le_of_ble_eq_true rfl) rfl d_Re_readItems_127 (fun r fz4 H locs hp9 V1 => ?_)
                    obtain ⟨rfl, hA2, hfr2⟩ := hp9
                    have V := V1
                    refine W.eq (g2 := F0 m 130 ls [.null]) rfl ?_
                    have hA := hA2
                    have hfr := re_tr hfr hfr2 (by omega)
                    refine gh_reta hAe C V hr (by first | exact Or.inl ⟨_, rfl⟩ | exact Or.inr ⟨_, rfl⟩) (by first | exact Or.inl rfl | exact Or.inr ⟨_, rfl⟩) hlocks d_Re_readItems_130 (by first | decide | omega | (dsimp only; omega)) (by first | decide | omega | (dsimp only; omega)) ?_
                    exact ⟨by rw [← hO, ← hQ0]; exact ⟨rfl, hA⟩, hfr⟩
      exact gw_le (by first | omega | (dsimp only; omega)) (by first | omega | (dsimp only; omega)) (loop 16 (rbl tx n (pl + 1)) ([], []) _ H _ ls (Nat.le_refl _) (by omega) (by omega) rPg_0 (by decide) hL hA hg hfr V hl)
set_option maxHeartbeats 4000000 in
set_option maxRecDepth 100000 in
theorem c_Re_readItemsT (l : Launch) (E : gh_E) (ρ Z tx : Nat → Nat) (n d : Nat) (ihv : re_V l E ρ Z tx n d) (sz : Nat) (f : gh_F) (pl : Nat) (bd : Int32) (dp Q : Nat) (O : Option vt) (hdp : dp + (d + 1) = 8) (hp : pl < n) (hR : rd_B tx n true d pl = (Q, O)) (hA : re_A E ρ Z tx n f pl bd) : gh_M l y_Re_readItems b_Re_readItems 6 (some (.object "QueryMachine$Value")) E sz [.ref (Z 8), .int (nI dp), .int 1] f { frames := 16 + 4 * d, cells := 4 * (Q - pl) + 4, slots := 60 * (Q - pl) + 60, locals := 380 + 120 * d } (fun r g => re_O E ρ Z tx n g bd (Q, O) r ∧ gh_fr f g (re_M ρ dp)) := by
  refine gh_open (by decide) (Nat.le_of_ble_eq_true rfl) ?_
  intro p e s m args below meth c A ls hAe C V hr hlocks hname hl
  have hx := C.1
  have hb := C.2.1
  have hl : lv_has ls 6 [(0, .ref (Z 8)), (1, .int (nI dp)), (2, .int 1)] := hl
  have h120 := hA.n
  have hch : ∀ j, j < n → 32 ≤ tx j ∧ tx j ≤ 126 := hA.2.1.2.2.2.2.2.2.2
  have hz := hA.2.1.1
  have hg8 := re_M8 hz (show dp < 8 by omega)
  have hfr : gh_fr f f (re_M ρ dp) := gh_fr.rf
  have hbl0 := rbl_le (tx := tx) (n := n) (p := pl + 1) (by omega)
  have hbg0 := rbl_ge (tx := tx) (n := n) (p := pl + 1)
  unfold rd_B at hR
  refine lv_iload_n hx hb d_Re_readItems_0 rfl (lv_at hl 2 rfl) ?_
  refine lv_if_eq (tgt := 9) hx hb d_Re_readItems_1 (by decide) (fun c1 => absurd c1 (by decide)) (fun c1 => ?_)
  refine lv_bipush (v := 125) hx hb d_Re_readItems_4 (by decide) ?_
  refine lv_goto (tgt := 11) hx hb d_Re_readItems_6 (by decide) ?_
  refine lv_istore_n hx hb d_Re_readItems_11 rfl hl (by decide) rfl (fun ls hl => ?_)
  have hl : lv_has ls 6 [(3, .int 125), (0, .ref (Z 8)), (1, .int (nI dp)), (2, .int 1)] := hl
  refine lv_aload_n hx hb d_Re_readItems_12 rfl (lv_at hl 1 rfl) ?_
  refine gh_get C V hA.1 gc_Re gi_Re 1 (by decide) f_Re_17 rfl rfl d_Re_readItems_13 ?_
  refine lv_iload_n hx hb d_Re_readItems_16 rfl (lv_at hl 2 rfl) ?_
  obtain ⟨gG9, h208, hgG9⟩ := hA.2.1.2.2.1
  refine gn_aald (t0 := 5) (i := dp) (v := Z (100 + 3 * dp)) C V rfl h208 (by omega) (by decide) (hgG9 dp (by omega)) d_Re_readItems_17 ?_
  refine lv_astore hx hb d_Re_readItems_18 hl (by decide) rfl (fun ls hl => ?_)
  have hl : lv_has ls 6 [(4, .ref (Z (100 + 3 * dp))), (3, .int 125), (0, .ref (Z 8)), (1, .int (nI dp)), (2, .int 1)] := hl
  refine lv_aload hx hb d_Re_readItems_20 (lv_at hl 0 rfl) ?_
  obtain ⟨-, -, n9, gk9, gi9, hga, -⟩ := id (hA.2.2.2 dp (by omega))
  refine gh_callV C V hl.1 m_Ga_clear l_Re_92 (c_Ga_clear l E _ _ (rP ρ) _ _ _ (hA.2.2.2 dp (by omega))) rfl hga gc_Ga ⟨by first | decide | omega | (dsimp only; omega), by first | decide | omega | (dsimp only; omega)⟩ ⟨by first | decide | omega | (dsimp only; omega), by first | decide | omega | (dsimp only; omega)⟩ (Nat.le_of_ble_eq_true rfl) rfl d_Re_readItems_22 (fun r gc H locs hp9 V1 => ?_)
  obtain ⟨rfl, hg, hfr3⟩ := hp9
  have V := V1
  refine W.eq (g2 := F0 m 25 ls []) rfl ?_
  have hA3 := hA.ga (show dp < 8 by omega) hfr3 hg.raw
  have hA := hA3.1
  have hfr := hfr.tr hA3.2 (fun _ _ _ z => z)
  refine lv_aload_n hx hb d_Re_readItems_25 rfl (lv_at hl 2 rfl) ?_
  refine lv_dup hx hb d_Re_readItems_26 rfl ?_
  refine gh_get C V hA.1 gc_Re gi_Re 5 (by decide) f_Re_42 rfl rfl d_Re_readItems_27 ?_
  refine lv_iconst (v := 1) hx hb d_Re_readItems_30 (by decide) ?_
  refine gn_iadd (a := pl) (b := 1) hx hb d_Re_readItems_31 ?_
  refine gh_put C V hA.1 gc_Re gi_Re ty_Re nm_Re 5 (by decide) f_Re_42 rfl rfl rfl (Nat.le_of_ble_eq_true rfl) d_Re_readItems_32 (fun H locs V1 => ?_)
  obtain ⟨fa1, hffa1⟩ : ∃ z9 : gh_F, z9 = gh_u gc (Z 8) (.inr (3, [.ref (Z 200), .ref (Z 208), .ref (Z 9), .ref (Z 7), .int (nI n), .int (nI (pl + 1)), .int bd])) := ⟨_, rfl⟩
  have V : gh_V E A fa1 s H locs := by rw [hffa1]; exact V1
  have hA2 : re_A E ρ Z tx n fa1 (pl + 1) bd ∧ gh_fr gc fa1 (re_M ρ 8) := by rw [hffa1]; exact hA.own
  have hA := hA2.1
  have hfr := re_tr hfr hA2.2 (by omega)
  have hg := hg.keep hA2.2 re_M.P hg8.1 hg8.2.1 hg8.2.2
  refine lv_aload_n hx hb d_Re_readItems_35 rfl (lv_at hl 2 rfl) ?_
  refine lv_iload_n hx hb d_Re_readItems_36 rfl (lv_at hl 1 rfl) ?_
  refine W.eq (g2 := F0 m 37 ls [.int (nI 125), .ref (Z 8)]) rfl ?_
  refine gh_callV C V hl.1 m_Re_passes l_Re_95 (c_Re_passes l E _ _ ρ Z tx n (pl + 1) bd 125 hA (by omega) (by decide) (by decide)) rfl hA.1 gc_Re ⟨by first | decide | omega | (dsimp only; omega), by first | decide | omega | (dsimp only; omega)⟩ ⟨by first | decide | omega | (dsimp only; omega), by first | decide | omega | (dsimp only; omega)⟩ (Nat.le_of_ble_eq_true rfl) rfl d_Re_readItems_37 (fun r gp H locs hp9 V1 => ?_)
  obtain ⟨rfl, hA, hfr2⟩ := hp9
  have V := V1
  have hg := hg.keep hfr2 re_M.P hg8.1 hg8.2.1 hg8.2.2
  have hfr := re_tr hfr hfr2 (by omega)
  have hcc : rcc true = 125 := rfl
  rw [hcc] at hR
  by_cases hcl : sg tx n (rbl tx n (pl + 1)) = 125
  · have hbn := sg_lt (by omega : sg tx n (rbl tx n (pl + 1)) ≠ 0)
    rw [if_pos hcl] at hA hR
    obtain ⟨hQ, hO⟩ := Prod.mk.inj hR
    rw [decide_eq_true hcl]
    refine W.eq (g2 := F0 m 40 ls [.int 1]) rfl ?_
    refine lv_if_eq (tgt := 51) hx hb d_Re_readItems_40 (by decide) (fun c2 => absurd c2 (by decide)) (fun c2 => ?_)
    refine lv_aload_n hx hb d_Re_readItems_43 rfl (lv_at hl 2 rfl) ?_
    refine lv_aload hx hb d_Re_readItems_44 (lv_at hl 0 rfl) ?_
    refine lv_iload_n hx hb d_Re_readItems_46 rfl (lv_at hl 4 rfl) ?_
    refine gh_callV C V hl.1 m_Re_made l_Re_99 (c_Re_made6 l E _ _ ρ Z tx n (rbl tx n (pl + 1) + 1) bd dp [] [] hA hg (by decide) rfl) rfl hA.1 gc_Re ⟨by first | decide | omega | (dsimp only; omega), by first | decide | omega | (dsimp only; omega)⟩ ⟨by first | decide | omega | (dsimp only; omega), by first | decide | omega | (dsimp only; omega)⟩ (Nat.le_of_ble_eq_true rfl) rfl d_Re_readItems_47 (fun r gm H locs hp9 V1 => ?_)
    obtain ⟨⟨v9, rfl, hv9⟩, hA, hfr2⟩ := hp9
    have V := V1
    refine W.eq (g2 := F0 m 50 ls [.ref v9]) rfl ?_
    have hfr := hfr.tr hfr2 (fun _ _ _ z => absurd z (by simp))
    refine gh_reta hAe C V hr (by first | exact Or.inl ⟨_, rfl⟩ | exact Or.inr ⟨_, rfl⟩) (by first | exact Or.inl rfl | exact Or.inr ⟨_, rfl⟩) hlocks d_Re_readItems_50 (by first | decide | omega | (dsimp only; omega)) (by first | decide | omega | (dsimp only; omega)) ?_
    exact ⟨by rw [← hQ, ← hO]; exact ⟨⟨_, rfl, hv9⟩, hA⟩, hfr⟩
  · rw [if_neg hcl] at hA hR
    rw [decide_eq_false hcl]
    refine W.eq (g2 := F0 m 40 ls [.int 0]) rfl ?_
    cases hL : rd_l tx n (rd_v tx n false d) true 16 ([], []) (rbl tx n (pl + 1)) with
    | mk Q9 OO =>
      rw [hL] at hR
      have hfin := rd_l_fin hch h120 (by omega) hp hL
      obtain ⟨hQ, hO⟩ := Prod.mk.inj hR
      have hQ : Q9 = Q := hQ
      rw [hQ] at hL
      refine lv_if_eq (tgt := 51) hx hb d_Re_readItems_40 (by decide) (fun c3 => ?_) (fun c3 => absurd (by decide) c3)
      refine lv_iconst (v := 1) hx hb d_Re_readItems_51 (by decide) ?_
      refine lv_istore hx hb d_Re_readItems_52 hl (by decide) rfl (fun ls hl => ?_)
      have hl : lv_has ls 6 [(5, .int 1), (4, .ref (Z (100 + 3 * dp))), (3, .int 125), (0, .ref (Z 8)), (1, .int (nI dp)), (2, .int 1)] := hl
      have hl : lv_has ls 6 [(5, .int 1), (4, .ref (Z (100 + 3 * dp))), (3, .int 125), (0, .ref (Z 8)), (1, .int (nI dp)), (2, .int 1)] := lv_sub hl [0, 1, 2, 3, 4, 5] rfl
      have hl : lv_has ls 6 [(5, .int (nI (17 - 16))), (4, .ref (Z (100 + 3 * dp))), (3, .int 125), (0, .ref (Z 8)), (1, .int (nI dp)), (2, .int 1)] := hl
      have loop : ∀ (c9 p9 : Nat) (r0 : List (List Int32) × List vt) (f1 : gh_F) (H : Heap) (locs : List Loc) (ls : Array Slot), c9 ≤ 16 → p9 ≤ n → pl < p9 → rPg d true r0 → r0.2.length + c9 ≤ 16 → rd_l tx n (rd_v tx n false d) true c9 r0 p9 = (Q, OO) → re_A E ρ Z tx n f1 p9 bd → ga_R E (rP ρ) f1 (Z (100 + 3 * dp)) (Z (101 + 3 * dp)) (Z (102 + 3 * dp)) r0.1 r0.2 → gh_fr f f1 (re_M ρ dp) → gh_V E A f1 s H locs → lv_has ls 6 [(5, .int (nI (17 - c9))), (4, .ref (Z (100 + 3 * dp))), (3, .int 125), (0, .ref (Z 8)), (1, .int (nI dp)), (2, .int 1)] → W p l e { frames := 16 + 4 * d, cells := 4 * (Q - pl) + 4, slots := 60 * (Q - pl) + 60, locals := 380 + 120 * d } s m args below meth c H locs (4 * (p9 - pl)) (60 * (p9 - pl)) (MQ below (gh_Q E f (fun r g => re_O E ρ Z tx n g bd (Q, O) r ∧ gh_fr f g (re_M ρ dp))) args s (4 * (Q - pl) + 4) (60 * (Q - pl) + 60) A) (F0 m 54 ls []) := by
        intro c9
        induction c9 with
        | zero =>
          intro p9 r0 f1 H locs ls hc9 hp9 hpl9 hrp hlen hrd hA hg hfr V hl
          obtain ⟨hQ0, hO0⟩ := Prod.mk.inj hrd
          rw [← hO0] at hO
          refine lv_iload hx hb d_Re_readItems_54 (lv_at hl 0 rfl) ?_
          refine lv_bipush (v := 16) hx hb d_Re_readItems_56 (by decide) ?_
          refine lv_icmp_gt (tgt := 137) hx hb d_Re_readItems_58 (by decide) (fun c4 => ?_) (fun c4 => absurd (by decide) c4)
          refine lv_aload_n hx hb d_Re_readItems_137 rfl (lv_at hl 3 rfl) ?_
          refine gh_callV C V hl.1 m_Re_refused l_Re_52 (c_Re_refused l E _ _ ρ Z tx n p9 bd hA) rfl hA.1 gc_Re ⟨by first | decide | omega | (dsimp only; omega), by first | decide | omega | (dsimp only; omega)⟩ ⟨by first | decide | omega | (dsimp only; omega), by first | decide | omega | (dsimp only; omega)⟩ (Nat.le_of_ble_eq_true rfl) rfl d_Re_readItems_138 (fun r fz2 H locs hp9 V1 => ?_)
          obtain ⟨rfl, hA2, hfr2⟩ := hp9
          have V := V1
          refine W.eq (g2 := F0 m 141 ls [.null]) rfl ?_
          have hA := hA2
          have hfr := re_tr hfr hfr2 (by omega)
          refine gh_reta hAe C V hr (by first | exact Or.inl ⟨_, rfl⟩ | exact Or.inr ⟨_, rfl⟩) (by first | exact Or.inl rfl | exact Or.inr ⟨_, rfl⟩) hlocks d_Re_readItems_141 (by first | decide | omega | (dsimp only; omega)) (by first | decide | omega | (dsimp only; omega)) ?_
          exact ⟨by rw [← hO, ← hQ0]; exact ⟨rfl, hA⟩, hfr⟩
        | succ c9 ih =>
          intro p9 r0 f1 H locs ls hc9 hp9 hpl9 hrp hlen hrd hA hg hfr V hl
          rw [rd_l_i, hcc] at hrd
          cases hI : re_I tx n true d p9 with
          | mk q2 o2 =>
            rw [hI] at hrd
            have hI2 := re_I_ok hch h120 (by omega) hp9 hI
            have hbl2 := rbl_le (tx := tx) (n := n) (p := q2) hI2.2.1
            have hbg2 := rbl_ge (tx := tx) (n := n) (p := q2)
            have hq2Q : q2 ≤ Q := by
              cases o2 with
              | none => cases hrd; omega
              | some e9 =>
                dsimp only at hrd
                by_cases h1 : sg tx n (rbl tx n q2) = 125
                · rw [if_pos h1] at hrd; cases hrd; omega
                · rw [if_neg h1] at hrd
                  by_cases h2 : c9 = 0 ∨ sg tx n (rbl tx n q2) ≠ 44
                  · rw [if_pos h2] at hrd; cases hrd; omega
                  · rw [if_neg h2] at hrd
                    have h3 : sg tx n (rbl tx n q2) = 44 := Classical.byContradiction fun z => h2 (Or.inr z)
                    have h4 := sg_lt (tx := tx) (n := n) (p := rbl tx n q2) (by rw [h3]; decide)
                    have := rd_l_mo hch h120 (by omega) (show rbl tx n q2 + 1 ≤ n by omega) hrd
                    omega
            refine lv_iload hx hb d_Re_readItems_54 (lv_at hl 0 rfl) ?_
            refine lv_bipush (v := 16) hx hb d_Re_readItems_56 (by decide) ?_
            refine lv_icmp_gt (tgt := 137) hx hb d_Re_readItems_58 (by decide) (fun c5 => absurd c5 (fun z => absurd ((gq_lt (a := 16) (b := 17 - (c9 + 1)) (by omega) (by omega)).mp z) (by omega))) (fun c5 => ?_)
            refine lv_iload_n hx hb d_Re_readItems_61 rfl (lv_at hl 5 rfl) ?_
            refine lv_if_eq (tgt := 80) hx hb d_Re_readItems_62 (by decide) (fun c6 => absurd c6 (by decide)) (fun c6 => ?_)
            refine lv_aload_n hx hb d_Re_readItems_65 rfl (lv_at hl 3 rfl) ?_
            refine lv_aload hx hb d_Re_readItems_66 (lv_at hl 1 rfl) ?_
            refine lv_iload_n hx hb d_Re_readItems_68 rfl (lv_at hl 4 rfl) ?_
            refine lv_iconst (v := 1) hx hb d_Re_readItems_69 (by decide) ?_
            refine gn_iadd (a := dp) (b := 1) hx hb d_Re_readItems_70 ?_
            refine gh_callV C V hl.1 m_Re_readMember l_Re_103 (c_Re_readMember l E ρ Z tx n d ihv _ _ p9 bd dp q2 r0 o2 hdp hp9 hI hA hg (by omega) hrp.2.1) rfl hA.1 gc_Re ⟨by first | decide | omega | (dsimp only; omega), by first | decide | omega | (dsimp only; omega)⟩ ⟨by first | decide | omega | (dsimp only; omega), by first | decide | omega | (dsimp only; omega)⟩ (Nat.le_of_ble_eq_true rfl) rfl d_Re_readItems_71 (fun r gi H locs hp9 V1 => ?_)
            obtain ⟨hr9, hfr2⟩ := hp9
            have V := V1
            have hfr := hfr.tr hfr2 (fun _ _ _ z => z)
            cases o2 with
            | none =>
              obtain ⟨rfl, hA⟩ := hr9
              refine W.eq (g2 := F0 m 74 ls [.int 0]) rfl ?_
              obtain ⟨hQ0, hO0⟩ := Prod.mk.inj hrd
              rw [← hO0] at hO
              refine lv_if_eq (tgt := 92) hx hb d_Re_readItems_74 (by decide) (fun c7 => ?_) (fun c7 => absurd (by decide) c7)
              refine lv_null hx hb d_Re_readItems_92 ?_
              refine gh_reta hAe C V hr (by first | exact Or.inl ⟨_, rfl⟩ | exact Or.inr ⟨_, rfl⟩) (by first | exact Or.inl rfl | exact Or.inr ⟨_, rfl⟩) hlocks d_Re_readItems_93 (by first | decide | omega | (dsimp only; omega)) (by first | decide | omega | (dsimp only; omega)) ?_
              exact ⟨by rw [← hO, ← hQ0]; exact ⟨rfl, hA⟩, hfr⟩
            | some e9 =>
              obtain ⟨rfl, hA, hg⟩ := hr9
              refine W.eq (g2 := F0 m 74 ls [.int 1]) rfl ?_
              dsimp only at hrd
              obtain ⟨r1, hr1⟩ : ∃ z9, z9 = rd_ad true r0 e9.1 e9.2 := ⟨_, rfl⟩
              rw [← hr1] at hrd hg
              have hI3 := hI2.2.2 e9 rfl
              have hrp1 : rPg d true r1 := by rw [hr1]; exact hrp.ad hI3.2.2.2 ⟨hI3.2.1, hI3.2.2.1⟩
              have hlen1 : r1.2.length ≤ r0.2.length + 1 := by rw [hr1]; exact rd_ad_w.2
              refine lv_if_eq (tgt := 92) hx hb d_Re_readItems_74 (by decide) (fun c8 => absurd c8 (by decide)) (fun c8 => ?_)
              refine lv_goto (tgt := 94) hx hb d_Re_readItems_77 (by decide) ?_
              refine lv_aload_n hx hb d_Re_readItems_94 rfl (lv_at hl 3 rfl) ?_
              refine lv_iload_n hx hb d_Re_readItems_95 rfl (lv_at hl 2 rfl) ?_
              refine W.eq (g2 := F0 m 96 ls [.int (nI 125), .ref (Z 8)]) rfl ?_
              refine gh_callV C V hl.1 m_Re_passes l_Re_95 (c_Re_passes l E _ _ ρ Z tx n (q2) bd 125 hA (by omega) (by decide) (by decide)) rfl hA.1 gc_Re ⟨by first | decide | omega | (dsimp only; omega), by first | decide | omega | (dsimp only; omega)⟩ ⟨by first | decide | omega | (dsimp only; omega), by first | decide | omega | (dsimp only; omega)⟩ (Nat.le_of_ble_eq_true rfl) rfl d_Re_readItems_96 (fun r gp H locs hp9 V1 => ?_)
              obtain ⟨rfl, hA, hfr2⟩ := hp9
              have V := V1
              have hg := hg.keep hfr2 re_M.P hg8.1 hg8.2.1 hg8.2.2
              have hfr := re_tr hfr hfr2 (by omega)
              by_cases hc2 : sg tx n (rbl tx n q2) = 125
              · have hbn := sg_lt (by omega : sg tx n (rbl tx n q2) ≠ 0)
                rw [if_pos hc2] at hA hrd
                obtain ⟨hQ0, hO0⟩ := Prod.mk.inj hrd
                rw [decide_eq_true hc2]
                refine W.eq (g2 := F0 m 99 ls [.int 1]) rfl ?_
                have hf9 := hfin r1 hO0.symm
                rw [← hO0] at hO
                refine lv_if_eq (tgt := 110) hx hb d_Re_readItems_99 (by decide) (fun c9 => absurd c9 (by decide)) (fun c9 => ?_)
                refine lv_aload_n hx hb d_Re_readItems_102 rfl (lv_at hl 3 rfl) ?_
                refine lv_aload hx hb d_Re_readItems_103 (lv_at hl 1 rfl) ?_
                refine lv_iload_n hx hb d_Re_readItems_105 rfl (lv_at hl 5 rfl) ?_
                refine gh_callV C V hl.1 m_Re_made l_Re_99 (c_Re_made6 l E _ _ ρ Z tx n (rbl tx n q2 + 1) bd dp r1.1 r1.2 hA hg ⟨hf9.1, hf9.2.1⟩ (hf9.2.2 rfl)) rfl hA.1 gc_Re ⟨by first | decide | omega | (dsimp only; omega), by first | decide | omega | (dsimp only; omega)⟩ ⟨by first | decide | omega | (dsimp only; omega), by first | decide | omega | (dsimp only; omega)⟩ (Nat.le_of_ble_eq_true rfl) rfl d_Re_readItems_106 (fun r gm H locs hp9 V1 => ?_)
                obtain ⟨⟨v9, rfl, hv9⟩, hA, hfr2⟩ := hp9
                have V := V1
                refine W.eq (g2 := F0 m 109 ls [.ref v9]) rfl ?_
                have hfr := hfr.tr hfr2 (fun _ _ _ z => absurd z (by simp))
                refine gh_reta hAe C V hr (by first | exact Or.inl ⟨_, rfl⟩ | exact Or.inr ⟨_, rfl⟩) (by first | exact Or.inl rfl | exact Or.inr ⟨_, rfl⟩) hlocks d_Re_readItems_109 (by first | decide | omega | (dsimp only; omega)) (by first | decide | omega | (dsimp only; omega)) ?_
                exact ⟨by rw [← hO, ← hQ0]; exact ⟨⟨_, rfl, hv9⟩, hA⟩, hfr⟩
              · rw [if_neg hc2] at hA hrd
                rw [decide_eq_false hc2]
                refine W.eq (g2 := F0 m 99 ls [.int 0]) rfl ?_
                by_cases hc0 : c9 = 0
                · rw [if_pos (Or.inl hc0)] at hrd
                  refine lv_if_eq (tgt := 110) hx hb d_Re_readItems_99 (by decide) (fun c10 => ?_) (fun c10 => absurd (by decide) c10)
                  refine lv_iload hx hb d_Re_readItems_110 (lv_at hl 0 rfl) ?_
                  refine lv_bipush (v := 16) hx hb d_Re_readItems_112 (by decide) ?_
                  refine lv_icmp_eq (tgt := 126) hx hb d_Re_readItems_114 (by decide) (fun c11 => ?_) (fun c11 => absurd (by rw [hc0]; decide) c11)
                  obtain ⟨hQ0, hO0⟩ := Prod.mk.inj hrd
                  rw [← hO0] at hO
                  refine lv_aload_n hx hb d_Re_readItems_126 rfl (lv_at hl 3 rfl) ?_
                  refine gh_callV C V hl.1 m_Re_refused l_Re_52 (c_Re_refused l E _ _ ρ Z tx n (rbl tx n q2) bd hA) rfl hA.1 gc_Re ⟨by first | decide | omega | (dsimp only; omega), by first | decide | omega | (dsimp only; omega)⟩ ⟨by first | decide | omega | (dsimp only; omega), by first | decide | omega | (dsimp only; omega)⟩ (Nat.le_of_ble_eq_true rfl) rfl d_Re_readItems_127 (fun r fz3 H locs hp9 V1 => ?_)
                  obtain ⟨rfl, hA2, hfr2⟩ := hp9
                  have V := V1
                  refine W.eq (g2 := F0 m 130 ls [.null]) rfl ?_
                  have hA := hA2
                  have hfr := re_tr hfr hfr2 (by omega)
                  refine gh_reta hAe C V hr (by first | exact Or.inl ⟨_, rfl⟩ | exact Or.inr ⟨_, rfl⟩) (by first | exact Or.inl rfl | exact Or.inr ⟨_, rfl⟩) hlocks d_Re_readItems_130 (by first | decide | omega | (dsimp only; omega)) (by first | decide | omega | (dsimp only; omega)) ?_
                  exact ⟨by rw [← hO, ← hQ0]; exact ⟨rfl, hA⟩, hfr⟩
                · refine lv_if_eq (tgt := 110) hx hb d_Re_readItems_99 (by decide) (fun c12 => ?_) (fun c12 => absurd (by decide) c12)
                  refine lv_iload hx hb d_Re_readItems_110 (lv_at hl 0 rfl) ?_
                  refine lv_bipush (v := 16) hx hb d_Re_readItems_112 (by decide) ?_
                  refine lv_icmp_eq (tgt := 126) hx hb d_Re_readItems_114 (by decide) (fun c13 => absurd c13 (fun z => absurd ((nI_eq (a := 17 - (c9 + 1)) (b := 16) (by omega) (by decide)).mp z) (by omega))) (fun c13 => ?_)
                  refine lv_aload_n hx hb d_Re_readItems_117 rfl (lv_at hl 3 rfl) ?_
                  refine lv_bipush (v := 44) hx hb d_Re_readItems_118 (by decide) ?_
                  refine W.eq (g2 := F0 m 120 ls [.int (nI 44), .ref (Z 8)]) rfl ?_
                  refine gh_callV C V hl.1 m_Re_passes l_Re_95 (c_Re_passes l E _ _ ρ Z tx n (rbl tx n q2) bd 44 hA (by omega) (by decide) (by decide)) rfl hA.1 gc_Re ⟨by first | decide | omega | (dsimp only; omega), by first | decide | omega | (dsimp only; omega)⟩ ⟨by first | decide | omega | (dsimp only; omega), by first | decide | omega | (dsimp only; omega)⟩ (Nat.le_of_ble_eq_true rfl) rfl d_Re_readItems_120 (fun r gq H locs hp9 V1 => ?_)
                  obtain ⟨rfl, hA, hfr2⟩ := hp9
                  have V := V1
                  have hg := hg.keep hfr2 re_M.P hg8.1 hg8.2.1 hg8.2.2
                  have hfr := re_tr hfr hfr2 (by omega)
                  rw [rbl_rbl] at hA
                  rw [rbl_rbl]
                  by_cases h44 : sg tx n (rbl tx n q2) = 44
                  · have hbn := sg_lt (by omega : sg tx n (rbl tx n q2) ≠ 0)
                    rw [if_neg (fun z => z.elim hc0 (fun z => z h44))] at hrd
                    rw [if_pos h44] at hA
                    rw [decide_eq_true h44]
                    refine W.eq (g2 := F0 m 123 ls [.int 1]) rfl ?_
                    refine lv_if_ne (tgt := 131) hx hb d_Re_readItems_123 (by decide) (fun c14 => ?_) (fun c14 => absurd c14 (by decide))
                    refine lv_iinc (k := 0) (v := (nI (17 - (c9 + 1))) + 1) hx hb d_Re_readItems_131 hl rfl (by rfl) (by decide) rfl (fun ls hl => ?_)
                    have hl : lv_has ls 6 [(5, .int (nI ((17 - (c9 + 1)) + 1))), (4, .ref (Z (100 + 3 * dp))), (3, .int 125), (0, .ref (Z 8)), (1, .int (nI dp)), (2, .int 1)] := by rw [nI_succ]; exact hl
                    refine lv_goto (tgt := 54) hx hb d_Re_readItems_134 (by decide) ?_
                    have hl : lv_has ls 6 [(5, .int (nI ((17 - (c9 + 1)) + 1))), (4, .ref (Z (100 + 3 * dp))), (3, .int 125), (0, .ref (Z 8)), (1, .int (nI dp)), (2, .int 1)] := lv_sub hl [0, 1, 2, 3, 4, 5] rfl
                    have hl : lv_has ls 6 [(5, .int (nI (17 - c9))), (4, .ref (Z (100 + 3 * dp))), (3, .int 125), (0, .ref (Z 8)), (1, .int (nI dp)), (2, .int 1)] := by rw [show 17 - c9 = 17 - (c9 + 1) + 1 by omega]; exact hl
                    exact gw_le (by first | omega | (dsimp only; omega)) (by first | omega | (dsimp only; omega)) (ih (rbl tx n q2 + 1) r1 _ H _ ls (by omega) (by omega) (by omega) hrp1 (by omega) hrd hA hg hfr V hl)
                  · rw [if_pos (Or.inr h44)] at hrd
                    rw [if_neg h44] at hA
                    rw [decide_eq_false h44]
                    refine W.eq (g2 := F0 m 123 ls [.int 0]) rfl ?_
                    refine lv_if_ne (tgt := 131) hx hb d_Re_readItems_123 (by decide) (fun c15 => absurd (by decide) c15) (fun c15 => ?_)
                    obtain ⟨hQ0, hO0⟩ := Prod.mk.inj hrd
                    rw [← hO0] at hO
                    refine lv_aload_n hx hb d_Re_readItems_126 rfl (lv_at hl 3 rfl) ?_
                    refine gh_callV C V hl.1 m_Re_refused l_Re_52 (c_Re_refused l E _ _ ρ Z tx n (rbl tx n q2) bd hA) rfl hA.1 gc_Re ⟨by first | decide | omega | (dsimp only; omega), by first | decide | omega | (dsimp only; omega)⟩ ⟨by first | decide | omega | (dsimp only; omega), by first | decide | omega | (dsimp only; omega)⟩ (Nat.le_of_ble_eq_true rfl) rfl d_Re_readItems_127 (fun r fz4 H locs hp9 V1 => ?_)
                    obtain ⟨rfl, hA2, hfr2⟩ := hp9
                    have V := V1
                    refine W.eq (g2 := F0 m 130 ls [.null]) rfl ?_
                    have hA := hA2
                    have hfr := re_tr hfr hfr2 (by omega)
                    refine gh_reta hAe C V hr (by first | exact Or.inl ⟨_, rfl⟩ | exact Or.inr ⟨_, rfl⟩) (by first | exact Or.inl rfl | exact Or.inr ⟨_, rfl⟩) hlocks d_Re_readItems_130 (by first | decide | omega | (dsimp only; omega)) (by first | decide | omega | (dsimp only; omega)) ?_
                    exact ⟨by rw [← hO, ← hQ0]; exact ⟨rfl, hA⟩, hfr⟩
      exact gw_le (by first | omega | (dsimp only; omega)) (by first | omega | (dsimp only; omega)) (loop 16 (rbl tx n (pl + 1)) ([], []) _ H _ ls (Nat.le_refl _) (by omega) (by omega) rPg_0 (by decide) hL hA hg hfr V hl)
