/-! The machine's face: text, bytes. Printed by wip/whole/gen_face3.py. -/
theorem fa_c : ∀ b, b < 256 → ((nI b).toUInt32 % 65536).toInt32 = nI b ∧ vp_nar .char (nI b) = nI b := by decide +kernel
theorem fa_8 {y : Int32} (h : 1 ≤ y ∧ y ≤ 8) : ∃ mm, y = nI mm ∧ 1 ≤ mm ∧ mm ≤ 8 := by
  have h1 : (1 : Int) ≤ y.toInt := Int32.le_iff_toInt_le.mp h.1
  have h2 : y.toInt ≤ (8 : Int) := Int32.le_iff_toInt_le.mp h.2
  refine ⟨y.toInt.toNat, ?_, by omega, by omega⟩
  apply Int32.toInt_inj.mp
  rw [nI_toInt (by omega)]
  omega
/-- the text with the lowest mm bytes of x behind its n characters -/
def qf_tx (tx : Nat → Nat) (n : Nat) (x : Int64) (mm : Nat) : Nat → Nat := fun j => if n ≤ j ∧ j < n + mm then by_n x (mm - 1 - (j - n)) else tx j
/-- the query that runs stays while the next one is written -/
theorem rn_Kq {E : gh_E} {ρ Z : Nat → Nat} {f g : gh_F} {q0 q1 N : Nat} {cb bg : Nat → Nat} {M : Nat → Prop} (h : rn_K E ρ Z f q0 N cb bg) (hq : q0 = 12 ∧ q1 = 15 ∨ q0 = 15 ∧ q1 = 12) (hfr : gh_fr f g M) (hM : ∀ b, M b → ρ b = q1 ∨ ρ b = q1 + 1 ∨ ρ b = q1 + 2) : rn_K E ρ Z g q0 N cb bg := by
  obtain ⟨h1, h2, ⟨gS, h3, h4⟩, ⟨gG, h5, h6⟩, h7, h8, h9, h10, h11, h12⟩ := h
  have no : ∀ r, (r = q0 ∨ r = q0 + 1 ∨ r = q0 + 2) → ¬ M (Z r) := fun r hr z => by
    have := hM _ z
    have := h1 r (by unfold rU; omega)
    omega
  have n0 : ∀ a, ρ a = 0 → ¬ M a := fun a ha z => by have := hM a z; omega
  exact ⟨h1, h2, ⟨gS, hfr.at h3 (n0 _ h2.1), h4⟩, ⟨gG, hfr.at h5 (n0 _ h2.2), h6⟩, h7.keep hfr (fun b hb z => n0 b z hb), hfr.at h8 (no _ (Or.inl rfl)), hfr.at h9 (no _ (Or.inr (Or.inl rfl))), hfr.at h10 (no _ (Or.inr (Or.inr rfl))), h11, h12⟩
theorem d_QM_text_0 : decode b_QM_text 0 = .ok (.iload_n 3, 1) := by decide +kernel
theorem d_QM_text_1 : decode b_QM_text 1 = .ok (.invokestatic 64, 3) := by decide +kernel
theorem d_QM_text_4 : decode b_QM_text 4 = .ok (.ifCond .eq 11, 3) := by decide +kernel
theorem d_QM_text_7 : decode b_QM_text 7 = .ok (.lload_n 1, 1) := by decide +kernel
theorem d_QM_text_8 : decode b_QM_text 8 = .ok (.iload_n 3, 1) := by decide +kernel
theorem d_QM_text_9 : decode b_QM_text 9 = .ok (.invokestatic 68, 3) := by decide +kernel
theorem d_QM_text_12 : decode b_QM_text 12 = .ok (.ifCond .ne 11, 3) := by decide +kernel
theorem d_QM_text_15 : decode b_QM_text 15 = .ok (.new 72, 3) := by decide +kernel
theorem d_QM_text_18 : decode b_QM_text 18 = .ok (.dup, 1) := by decide +kernel
theorem d_QM_text_19 : decode b_QM_text 19 = .ok (.invokespecial 74, 3) := by decide +kernel
theorem d_QM_text_22 : decode b_QM_text 22 = .ok (.athrow, 1) := by decide +kernel
theorem d_QM_text_23 : decode b_QM_text 23 = .ok (.aload_n 0, 1) := by decide +kernel
theorem d_QM_text_24 : decode b_QM_text 24 = .ok (.getfield 75, 3) := by decide +kernel
theorem d_QM_text_27 : decode b_QM_text 27 = .ok (.iload_n 3, 1) := by decide +kernel
theorem d_QM_text_28 : decode b_QM_text 28 = .ok (.iadd, 1) := by decide +kernel
theorem d_QM_text_29 : decode b_QM_text 29 = .ok (.bipush 120, 2) := by decide +kernel
theorem d_QM_text_31 : decode b_QM_text 31 = .ok (.if_icmp .le 11, 3) := by decide +kernel
theorem d_QM_text_34 : decode b_QM_text 34 = .ok (.new 79, 3) := by decide +kernel
theorem d_QM_text_37 : decode b_QM_text 37 = .ok (.dup, 1) := by decide +kernel
theorem d_QM_text_38 : decode b_QM_text 38 = .ok (.invokespecial 81, 3) := by decide +kernel
theorem d_QM_text_41 : decode b_QM_text 41 = .ok (.athrow, 1) := by decide +kernel
theorem d_QM_text_42 : decode b_QM_text 42 = .ok (.iconst 0, 1) := by decide +kernel
theorem d_QM_text_43 : decode b_QM_text 43 = .ok (.istore 4, 2) := by decide +kernel
theorem d_QM_text_45 : decode b_QM_text 45 = .ok (.iload 4, 2) := by decide +kernel
theorem d_QM_text_47 : decode b_QM_text 47 = .ok (.iload_n 3, 1) := by decide +kernel
theorem d_QM_text_48 : decode b_QM_text 48 = .ok (.if_icmp .ge 29, 3) := by decide +kernel
theorem d_QM_text_51 : decode b_QM_text 51 = .ok (.aload_n 0, 1) := by decide +kernel
theorem d_QM_text_52 : decode b_QM_text 52 = .ok (.getfield 12, 3) := by decide +kernel
theorem d_QM_text_55 : decode b_QM_text 55 = .ok (.aload_n 0, 1) := by decide +kernel
theorem d_QM_text_56 : decode b_QM_text 56 = .ok (.getfield 75, 3) := by decide +kernel
theorem d_QM_text_59 : decode b_QM_text 59 = .ok (.iload 4, 2) := by decide +kernel
theorem d_QM_text_61 : decode b_QM_text 61 = .ok (.iadd, 1) := by decide +kernel
theorem d_QM_text_62 : decode b_QM_text 62 = .ok (.lload_n 1, 1) := by decide +kernel
theorem d_QM_text_63 : decode b_QM_text 63 = .ok (.iload_n 3, 1) := by decide +kernel
theorem d_QM_text_64 : decode b_QM_text 64 = .ok (.iload 4, 2) := by decide +kernel
theorem d_QM_text_66 : decode b_QM_text 66 = .ok (.invokestatic 82, 3) := by decide +kernel
theorem d_QM_text_69 : decode b_QM_text 69 = .ok (.i2c, 1) := by decide +kernel
theorem d_QM_text_70 : decode b_QM_text 70 = .ok (.castore, 1) := by decide +kernel
theorem d_QM_text_71 : decode b_QM_text 71 = .ok (.iinc 4 1, 3) := by decide +kernel
theorem d_QM_text_74 : decode b_QM_text 74 = .ok (.goto (-29), 3) := by decide +kernel
theorem d_QM_text_77 : decode b_QM_text 77 = .ok (.aload_n 0, 1) := by decide +kernel
theorem d_QM_text_78 : decode b_QM_text 78 = .ok (.dup, 1) := by decide +kernel
theorem d_QM_text_79 : decode b_QM_text 79 = .ok (.getfield 75, 3) := by decide +kernel
theorem d_QM_text_82 : decode b_QM_text 82 = .ok (.iload_n 3, 1) := by decide +kernel
theorem d_QM_text_83 : decode b_QM_text 83 = .ok (.iadd, 1) := by decide +kernel
theorem d_QM_text_84 : decode b_QM_text 84 = .ok (.putfield 75, 3) := by decide +kernel
theorem d_QM_text_87 : decode b_QM_text 87 = .ok (.return_, 1) := by decide +kernel
set_option maxHeartbeats 4000000 in
set_option maxRecDepth 100000 in
theorem c_QM_text (l : Launch) (hst : ∀ e : Env, l.admits e → e.platform.stackTraces = false) (E : gh_E) (sz : Nat) (f : gh_F) (ρ Z : Nat → Nat) (tx : Nat → Nat) (n : Nat) (bd : Int32) (dc : Nat) (X : vt) (q0 q1 N : Nat) (cb bg : Nat → Nat) (N1 : Nat) (cb1 bg1 : Nat → Nat) (φ : Nat) (en : Int32) (xs : List vt) (x : Int64) (y : Int32) (hA : qf_A E ρ Z f tx n bd dc X q0 q1 N cb bg N1 cb1 bg1 φ en xs) : gt_M l y_QM_text b_QM_text 5 none E sz [.ref (Z 6), .long x, .int y] f { frames := 10, cells := 1, slots := 6, locals := 160 } (fun r g => r = none ∧ (∃ mm, y = nI mm ∧ (1 ≤ mm ∧ mm ≤ 8) ∧ (∀ k, k < mm → by_ok x k) ∧ n + mm ≤ 120 ∧ qf_A E ρ Z g (qf_tx tx n x mm) (n + mm) bd dc X q0 q1 N cb bg N1 cb1 bg1 φ en xs) ∧ gh_fr f g (qf_M ρ)) (fun cls g => ((cls = X_IA ∧ ¬ (1 ≤ y ∧ y ≤ 8)) ∨ ∃ mm, y = nI mm ∧ (1 ≤ mm ∧ mm ≤ 8) ∧ ((cls = X_IA ∧ ¬ (∀ k, k < mm → by_ok x k)) ∨ (cls = X_IS ∧ (∀ k, k < mm → by_ok x k) ∧ 120 < n + mm))) ∧ g = f) := by
  refine gt_open (by decide) (Nat.le_of_ble_eq_true rfl) ?_
  intro p e s m args below meth c A ls hadm hno hAe C V hr hlocks hname hl
  have htr := hst e hadm
  have V0 := V
  have hx := C.1
  have hb := C.2.1
  have hl : lv_has ls 5 [(0, .ref (Z 6)), (1, .long x), (3, .int y)] := hl
  obtain ⟨q6, qK, q8, q9, qG, qW, qU, qRK, qRG, qRS, qP, qD, qQ, qp⟩ := id hA
  have qz := qK.1
  obtain ⟨tv, t1, t2, u8⟩ := id q8
  obtain ⟨qv, qb0, cU⟩ := id qU
  obtain ⟨cQ0, cQ1, cQ2⟩ := id qQ
  have q6 : f (Z 6) = some (.inr (0, [.ref (Z 7), .int (nI n), .ref (Z 8), .ref (Z 10), .ref (Z 1), .ref dc, .ref (Z q0), .ref (Z q1)])) := q6
  have h120 : n ≤ 120 := qK.2.2.2.2.2.2.1
  refine lv_iload_n hx hb d_QM_text_0 rfl (lv_at hl 2 rfl) ?_
  refine gh_callS C V hl.1 m_QM_isAmount l_QM_64 (c_QM_isAmount l E _ _ y) rfl ⟨by first | decide | omega | (dsimp only; omega), by first | decide | omega | (dsimp only; omega)⟩ ⟨by first | decide | omega | (dsimp only; omega), by first | decide | omega | (dsimp only; omega)⟩ (Nat.le_of_ble_eq_true rfl) rfl d_QM_text_1 (fun r g1_ H locs hp9 V1 => ?_)
  obtain ⟨rfl, he9⟩ := hp9
  rw [he9] at V1
  have V := V1
  refine W.eq (g2 := F0 m 4 ls [.int (gh_bi (decide (1 ≤ y ∧ y ≤ 8)))]) rfl ?_
  by_cases hy : 1 ≤ y ∧ y ≤ 8
  · rw [decide_eq_true hy]
    refine W.eq (g2 := F0 m 4 ls [.int 1]) rfl ?_
    obtain ⟨mm, hym, hm⟩ := fa_8 hy
    have hl : lv_has ls 5 [(0, .ref (Z 6)), (1, .long x), (3, .int (nI mm))] := by rw [← hym]; exact hl
    refine lv_if_eq (tgt := 15) hx hb d_QM_text_4 (by decide) (fun c1 => absurd c1 (by decide)) (fun c1 => ?_)
    refine lv_lload_n hx hb d_QM_text_7 rfl (lv_at hl 1 rfl) ?_
    refine lv_iload_n hx hb d_QM_text_8 rfl (lv_at hl 2 rfl) ?_
    refine gh_callS C V hl.1 m_QM_areCharacters l_QM_68 (c_QM_areCharacters l E _ _ x mm hm.2) rfl ⟨by first | decide | omega | (dsimp only; omega), by first | decide | omega | (dsimp only; omega)⟩ ⟨by first | decide | omega | (dsimp only; omega), by first | decide | omega | (dsimp only; omega)⟩ (Nat.le_of_ble_eq_true rfl) rfl d_QM_text_9 (fun r g9 H locs hp9 V1 => ?_)
    obtain ⟨hp9, he9⟩ := hp9
    rw [he9] at V1
    have V := V1
    rcases hp9 with ⟨rfl, hch⟩ | ⟨rfl, hch⟩
    · refine W.eq (g2 := F0 m 12 ls [.int 1]) rfl ?_
      by_cases h20 : n + mm ≤ 120
      · refine lv_if_ne (tgt := 23) hx hb d_QM_text_12 (by decide) (fun c2 => ?_) (fun c2 => absurd c2 (by decide))
        refine lv_aload_n hx hb d_QM_text_23 rfl (lv_at hl 0 rfl) ?_
        refine gh_get C V q6 gc_QM gi_QM 1 (by decide) f_QM_75 rfl rfl d_QM_text_24 ?_
        refine lv_iload_n hx hb d_QM_text_27 rfl (lv_at hl 2 rfl) ?_
        refine gn_iadd (a := n) (b := mm) hx hb d_QM_text_28 ?_
        refine lv_bipush (v := 120) hx hb d_QM_text_29 (by decide) ?_
        refine lv_icmp_le (tgt := 42) hx hb d_QM_text_31 (by decide) (fun c3 => ?_) (fun c3 => absurd ((gq_le (a := n + mm) (b := 120) (by omega) (by omega)).mpr h20) c3)
        refine lv_iconst (v := 0) hx hb d_QM_text_42 (by decide) ?_
        refine lv_istore hx hb d_QM_text_43 hl (by decide) rfl (fun ls hl => ?_)
        have hl : lv_has ls 5 [(4, .int 0), (0, .ref (Z 6)), (1, .long x), (3, .int (nI mm))] := hl
        have hl : lv_has ls 5 [(4, .int 0), (0, .ref (Z 6)), (1, .long x), (3, .int (nI mm))] := lv_sub hl [0, 1, 2, 3] rfl
        have hl : lv_has ls 5 [(4, .int (nI 0)), (0, .ref (Z 6)), (1, .long x), (3, .int (nI mm))] := hl
        obtain ⟨h7f, h7c, h7t⟩ := id qK.2.2.2.2.2.1
        have e7 : ρ (Z 7) = 7 := qz 7 (by unfold rU; omega)
        have e6 : ρ (Z 6) = 6 := qz 6 (by unfold rU; omega)
        have loop : ∀ (m9 i9 : Nat) (h1 : Nat → Int32) (f1 : gh_F) (H : Heap) (locs : List Loc) (ls : Array Slot), i9 + m9 = mm → f1 (Z 7) = some (.inl (E.2.2.1 2, 120, .inl h1)) → (∀ j, j < n + i9 → h1 j = nI (qf_tx tx n x mm j)) → gh_fr f f1 (fun b => ρ b = 7) → gh_V E A f1 s H locs → lv_has ls 5 [(4, .int (nI i9)), (0, .ref (Z 6)), (1, .long x), (3, .int (nI mm))] → W p l e { frames := 10, cells := 1, slots := 6, locals := 160 } s m args below meth c H locs 0 0 (gt_MQ below (gt_Q E f (fun r g => r = none ∧ (∃ mm, y = nI mm ∧ (1 ≤ mm ∧ mm ≤ 8) ∧ (∀ k, k < mm → by_ok x k) ∧ n + mm ≤ 120 ∧ qf_A E ρ Z g (qf_tx tx n x mm) (n + mm) bd dc X q0 q1 N cb bg N1 cb1 bg1 φ en xs) ∧ gh_fr f g (qf_M ρ)) (fun cls g => ((cls = X_IA ∧ ¬ (1 ≤ y ∧ y ≤ 8)) ∨ ∃ mm, y = nI mm ∧ (1 ≤ mm ∧ mm ≤ 8) ∧ ((cls = X_IA ∧ ¬ (∀ k, k < mm → by_ok x k)) ∨ (cls = X_IS ∧ (∀ k, k < mm → by_ok x k) ∧ 120 < n + mm))) ∧ g = f)) args s 1 6 A) (F0 m 45 ls []) := by
          intro m9
          induction m9 with
          | zero =>
            intro i9 h1 f1 H locs ls hi u7 hh hfr V hl
            have u6 : f1 (Z 6) = some (.inr (0, [.ref (Z 7), .int (nI n), .ref (Z 8), .ref (Z 10), .ref (Z 1), .ref dc, .ref (Z q0), .ref (Z q1)])) := hfr.at q6 (fun z => by have z : ρ (Z 6) = 7 := z; omega)
            refine lv_iload hx hb d_QM_text_45 (lv_at hl 0 rfl) ?_
            refine lv_iload_n hx hb d_QM_text_47 rfl (lv_at hl 3 rfl) ?_
            refine lv_icmp_ge (tgt := 77) hx hb d_QM_text_48 (by decide) (fun c4 => ?_) (fun c4 => absurd (nI_le (by omega) (by omega)) c4)
            refine lv_aload_n hx hb d_QM_text_77 rfl (lv_at hl 1 rfl) ?_
            refine lv_dup hx hb d_QM_text_78 rfl ?_
            refine gh_get C V u6 gc_QM gi_QM 1 (by decide) f_QM_75 rfl rfl d_QM_text_79 ?_
            refine lv_iload_n hx hb d_QM_text_82 rfl (lv_at hl 3 rfl) ?_
            refine gn_iadd (a := n) (b := mm) hx hb d_QM_text_83 ?_
            refine gh_put C V u6 gc_QM gi_QM ty_QM nm_QM 1 (by decide) f_QM_75 rfl rfl rfl (Nat.le_of_ble_eq_true rfl) d_QM_text_84 (fun H locs V1 => ?_)
            obtain ⟨fa, hfa⟩ : ∃ z9 : gh_F, z9 = gh_u f1 (Z 6) (.inr (0, [.ref (Z 7), .int (nI (n + mm)), .ref (Z 8), .ref (Z 10), .ref (Z 1), .ref dc, .ref (Z q0), .ref (Z q1)])) := ⟨_, rfl⟩
            have V : gh_V E A fa s H locs := by rw [hfa]; exact V1
            have u6 : fa (Z 6) = some (.inr (0, [.ref (Z 7), .int (nI (n + mm)), .ref (Z 8), .ref (Z 10), .ref (Z 1), .ref dc, .ref (Z q0), .ref (Z q1)])) := by rw [hfa]; exact gh_us
            have hfr : gh_fr f fa (fun b => ρ b = 6 ∨ ρ b = 7) := by rw [hfa]; exact (hfr.wide (fun b hb => Or.inr hb)).put (Or.inl (Or.inl e6))
            have hm6 : ∀ b, (fun b => ρ b = 6 ∨ ρ b = 7) b → ρ b = 6 ∨ ρ b = 7 := fun _ z => z
            have u7 : fa (Z 7) = some (.inl (E.2.2.1 2, 120, .inl h1)) := by rw [hfa, gh_un (by intro z; rw [z] at e7; omega)]; exact u7
            have hK2 : re_K E ρ Z (qf_tx tx n x mm) (n + mm) fa := by
              obtain ⟨k1, k2, ⟨gG, k3, k4⟩, k5, k6, -, -, k7⟩ := qK
              refine ⟨k1, k2, ⟨gG, hfr.at k3 (fun z => by have := hm6 _ z; omega), k4⟩, k5.keep hfr (fun b hb z => by have z : ρ b = 0 := z; have := hm6 b hb; omega), fun q hq => k6 q (hfr.non hq), ⟨h1, u7, fun j hj => hh j (by omega)⟩, h20, fun j hj => ?_⟩
              unfold qf_tx
              by_cases hj2 : n ≤ j ∧ j < n + mm
              · rw [if_pos hj2]; exact hch _ (by omega)
              · rw [if_neg hj2]; exact k7 j (by omega)
            refine W.eq (g2 := F0 m 87 ls []) rfl ?_
            refine gt_of ?_
            refine gh_retv hAe C V hr hlocks d_QM_text_87 (by first | decide | omega | (dsimp only; omega)) (by first | decide | omega | (dsimp only; omega)) ?_
            exact ⟨rfl, ⟨mm, hym, hm, hch, h20, ⟨u6, hK2, q8.keep qz hfr (fun b hb => by have := hm6 b hb; omega), q9.keep qz hfr (fun b hb => by have := hm6 b hb; omega), qG.keep qz hfr (fun b hb => by have := hm6 b hb; omega), qW.keep qz hfr (fun b hb => by have := hm6 b hb; omega), qU.keep qz hfr (fun b hb => by have := hm6 b hb; omega), qRK.keep hfr (fun b hb => by have := hm6 b hb; omega), qRG.keep qz hfr (fun b hb => by have := hm6 b hb; omega), qRS.keep qz hfr (fun b hb => by have := hm6 b hb; omega), qP.keep2 qz hfr (fun b hb => by have := hm6 b hb; omega), qD.keep hfr (fun b hb z => by have z : ρ b = 0 := z; have := hm6 b hb; omega), qQ.keep qp.q1 qz hfr (fun b hb => by have := hm6 b hb; have := qp.q1; omega), qp⟩⟩, hfr.wide (fun b hb => Or.inl (by have := hm6 b hb; omega))⟩
          | succ m9 ih =>
            intro i9 h1 f1 H locs ls hi u7 hh hfr V hl
            have u6 : f1 (Z 6) = some (.inr (0, [.ref (Z 7), .int (nI n), .ref (Z 8), .ref (Z 10), .ref (Z 1), .ref dc, .ref (Z q0), .ref (Z q1)])) := hfr.at q6 (fun z => by have z : ρ (Z 6) = 7 := z; omega)
            refine lv_iload hx hb d_QM_text_45 (lv_at hl 0 rfl) ?_
            refine lv_iload_n hx hb d_QM_text_47 rfl (lv_at hl 3 rfl) ?_
            refine lv_icmp_ge (tgt := 77) hx hb d_QM_text_48 (by decide) (fun c5 => absurd c5 (nI_ge (by omega) (by omega))) (fun c5 => ?_)
            refine lv_aload_n hx hb d_QM_text_51 rfl (lv_at hl 1 rfl) ?_
            refine gh_get C V u6 gc_QM gi_QM 0 (by decide) f_QM_12 rfl rfl d_QM_text_52 ?_
            refine lv_aload_n hx hb d_QM_text_55 rfl (lv_at hl 1 rfl) ?_
            refine gh_get C V u6 gc_QM gi_QM 1 (by decide) f_QM_75 rfl rfl d_QM_text_56 ?_
            refine lv_iload hx hb d_QM_text_59 (lv_at hl 0 rfl) ?_
            refine gn_iadd (a := n) (b := i9) hx hb d_QM_text_61 ?_
            refine lv_lload_n hx hb d_QM_text_62 rfl (lv_at hl 2 rfl) ?_
            refine lv_iload_n hx hb d_QM_text_63 rfl (lv_at hl 3 rfl) ?_
            refine lv_iload hx hb d_QM_text_64 (lv_at hl 0 rfl) ?_
            refine gh_callS C V hl.1 m_QM_byteOf l_QM_82 (c_QM_byteOf l E _ _ x mm i9 hm.2 (by omega)) rfl ⟨by first | decide | omega | (dsimp only; omega), by first | decide | omega | (dsimp only; omega)⟩ ⟨by first | decide | omega | (dsimp only; omega), by first | decide | omega | (dsimp only; omega)⟩ (Nat.le_of_ble_eq_true rfl) rfl d_QM_text_66 (fun r g2_ H locs hp9 V1 => ?_)
            obtain ⟨rfl, he9⟩ := hp9
            rw [he9] at V1
            have V := V1
            refine W.eq (g2 := F0 m 69 ls [.int (nI (by_n x (mm - 1 - i9))), .int (nI (n + i9)), .ref (Z 7)]) rfl ?_
            refine lv_i2c hx hb d_QM_text_69 (fa_c _ by_n_lt).1 ?_
            refine gn_cast (i := n + i9) C V u7 (by omega) (by decide) d_QM_text_70 (fun H locs V1 => ?_)
            rw [(fa_c _ by_n_lt).2] at V1
            obtain ⟨fa, hfa⟩ : ∃ z9 : gh_F, z9 = gh_u f1 (Z 7) (.inl (E.2.2.1 2, 120, .inl (upd h1 (n + i9) (nI (by_n x (mm - 1 - i9)))))) := ⟨_, rfl⟩
            have V : gh_V E A fa s H locs := by rw [hfa]; exact V1
            refine W.eq (g2 := F0 m 71 ls []) rfl ?_
            refine lv_iinc (k := 0) (v := (nI i9) + 1) hx hb d_QM_text_71 hl rfl (by rfl) (by decide) rfl (fun ls hl => ?_)
            have hl : lv_has ls 5 [(4, .int (nI (i9 + 1))), (0, .ref (Z 6)), (1, .long x), (3, .int (nI mm))] := by rw [nI_succ]; exact hl
            refine lv_goto (tgt := 45) hx hb d_QM_text_74 (by decide) ?_
            have hl : lv_has ls 5 [(4, .int (nI (i9 + 1))), (0, .ref (Z 6)), (1, .long x), (3, .int (nI mm))] := lv_sub hl [0, 1, 2, 3] rfl
            have hl : lv_has ls 5 [(4, .int (nI (i9 + 1))), (0, .ref (Z 6)), (1, .long x), (3, .int (nI mm))] := hl
            refine ih (i9 + 1) _ fa H _ ls (by omega) (by rw [hfa]; exact gh_us) (fun j hj => ?_) (by rw [hfa]; exact hfr.put (Or.inl e7)) V hl
            by_cases hjj : j = n + i9
            · rw [hjj, pk_us]; unfold qf_tx; rw [if_pos (by omega), show n + i9 - n = i9 by omega]
            · rw [pk_un hjj]; exact hh j (by omega)
        exact loop mm 0 h7f f H _ ls (by omega) h7c (fun j hj => by rw [h7t j hj]; unfold qf_tx; rw [if_neg (by omega)]) gh_fr.rf V hl
      · refine lv_if_ne (tgt := 23) hx hb d_QM_text_12 (by decide) (fun c6 => ?_) (fun c6 => absurd c6 (by decide))
        refine lv_aload_n hx hb d_QM_text_23 rfl (lv_at hl 0 rfl) ?_
        refine gh_get C V q6 gc_QM gi_QM 1 (by decide) f_QM_75 rfl rfl d_QM_text_24 ?_
        refine lv_iload_n hx hb d_QM_text_27 rfl (lv_at hl 2 rfl) ?_
        refine gn_iadd (a := n) (b := mm) hx hb d_QM_text_28 ?_
        refine lv_bipush (v := 120) hx hb d_QM_text_29 (by decide) ?_
        refine lv_icmp_le (tgt := 42) hx hb d_QM_text_31 (by decide) (fun c7 => absurd c7 (fun z => h20 ((gq_le (a := n + mm) (b := 120) (by omega) (by omega)).mp z))) (fun c7 => ?_)
        exact gt_throw htr hAe V0 C V hl.1 hno hlocks (by decide +kernel) (gx_IS_w C) gx_IS_c gx_IS_n gx_IS_i d_QM_text_34 d_QM_text_37 d_QM_text_38 d_QM_text_41 (by first | decide | omega | (dsimp only; omega)) (by first | decide | omega | (dsimp only; omega)) (by first | decide | omega | (dsimp only; omega)) (by first | decide | omega | (dsimp only; omega)) (by first | decide | omega | (dsimp only; omega)) (by first | decide | omega | (dsimp only; omega)) ⟨Or.inr ⟨mm, hym, hm, Or.inr ⟨rfl, hch, by omega⟩⟩, rfl⟩
    · refine W.eq (g2 := F0 m 12 ls [.int 0]) rfl ?_
      refine lv_if_ne (tgt := 23) hx hb d_QM_text_12 (by decide) (fun c8 => absurd (by decide) c8) (fun c8 => ?_)
      exact gt_throw htr hAe V0 C V hl.1 hno hlocks (by decide +kernel) (gx_IA_w C) gx_IA_c gx_IA_n gx_IA_i d_QM_text_15 d_QM_text_18 d_QM_text_19 d_QM_text_22 (by first | decide | omega | (dsimp only; omega)) (by first | decide | omega | (dsimp only; omega)) (by first | decide | omega | (dsimp only; omega)) (by first | decide | omega | (dsimp only; omega)) (by first | decide | omega | (dsimp only; omega)) (by first | decide | omega | (dsimp only; omega)) ⟨Or.inr ⟨mm, hym, hm, Or.inl ⟨rfl, hch⟩⟩, rfl⟩
  · rw [decide_eq_false hy]
    refine W.eq (g2 := F0 m 4 ls [.int 0]) rfl ?_
    refine lv_if_eq (tgt := 15) hx hb d_QM_text_4 (by decide) (fun c9 => ?_) (fun c9 => absurd (by decide) c9)
    exact gt_throw htr hAe V0 C V hl.1 hno hlocks (by decide +kernel) (gx_IA_w C) gx_IA_c gx_IA_n gx_IA_i d_QM_text_15 d_QM_text_18 d_QM_text_19 d_QM_text_22 (by first | decide | omega | (dsimp only; omega)) (by first | decide | omega | (dsimp only; omega)) (by first | decide | omega | (dsimp only; omega)) (by first | decide | omega | (dsimp only; omega)) (by first | decide | omega | (dsimp only; omega)) (by first | decide | omega | (dsimp only; omega)) ⟨Or.inl ⟨rfl, hy⟩, rfl⟩
theorem d_QM_bytes_0 : decode b_QM_bytes 0 = .ok (.iload_n 3, 1) := by decide +kernel
theorem d_QM_bytes_1 : decode b_QM_bytes 1 = .ok (.invokestatic 64, 3) := by decide +kernel
theorem d_QM_bytes_4 : decode b_QM_bytes 4 = .ok (.ifCond .ne 11, 3) := by decide +kernel
theorem d_QM_bytes_7 : decode b_QM_bytes 7 = .ok (.new 72, 3) := by decide +kernel
theorem d_QM_bytes_10 : decode b_QM_bytes 10 = .ok (.dup, 1) := by decide +kernel
theorem d_QM_bytes_11 : decode b_QM_bytes 11 = .ok (.invokespecial 74, 3) := by decide +kernel
theorem d_QM_bytes_14 : decode b_QM_bytes 14 = .ok (.athrow, 1) := by decide +kernel
theorem d_QM_bytes_15 : decode b_QM_bytes 15 = .ok (.aload_n 0, 1) := by decide +kernel
theorem d_QM_bytes_16 : decode b_QM_bytes 16 = .ok (.getfield 61, 3) := by decide +kernel
theorem d_QM_bytes_19 : decode b_QM_bytes 19 = .ok (.getfield 93, 3) := by decide +kernel
theorem d_QM_bytes_22 : decode b_QM_bytes 22 = .ok (.iload_n 3, 1) := by decide +kernel
theorem d_QM_bytes_23 : decode b_QM_bytes 23 = .ok (.iadd, 1) := by decide +kernel
theorem d_QM_bytes_24 : decode b_QM_bytes 24 = .ok (.bipush 60, 2) := by decide +kernel
theorem d_QM_bytes_26 : decode b_QM_bytes 26 = .ok (.if_icmp .le 11, 3) := by decide +kernel
theorem d_QM_bytes_29 : decode b_QM_bytes 29 = .ok (.new 79, 3) := by decide +kernel
theorem d_QM_bytes_32 : decode b_QM_bytes 32 = .ok (.dup, 1) := by decide +kernel
theorem d_QM_bytes_33 : decode b_QM_bytes 33 = .ok (.invokespecial 81, 3) := by decide +kernel
theorem d_QM_bytes_36 : decode b_QM_bytes 36 = .ok (.athrow, 1) := by decide +kernel
theorem d_QM_bytes_37 : decode b_QM_bytes 37 = .ok (.iconst 0, 1) := by decide +kernel
theorem d_QM_bytes_38 : decode b_QM_bytes 38 = .ok (.istore 4, 2) := by decide +kernel
theorem d_QM_bytes_40 : decode b_QM_bytes 40 = .ok (.iload 4, 2) := by decide +kernel
theorem d_QM_bytes_42 : decode b_QM_bytes 42 = .ok (.iload_n 3, 1) := by decide +kernel
theorem d_QM_bytes_43 : decode b_QM_bytes 43 = .ok (.if_icmp .ge 23, 3) := by decide +kernel
theorem d_QM_bytes_46 : decode b_QM_bytes 46 = .ok (.aload_n 0, 1) := by decide +kernel
theorem d_QM_bytes_47 : decode b_QM_bytes 47 = .ok (.getfield 61, 3) := by decide +kernel
theorem d_QM_bytes_50 : decode b_QM_bytes 50 = .ok (.lload_n 1, 1) := by decide +kernel
theorem d_QM_bytes_51 : decode b_QM_bytes 51 = .ok (.iload_n 3, 1) := by decide +kernel
theorem d_QM_bytes_52 : decode b_QM_bytes 52 = .ok (.iload 4, 2) := by decide +kernel
theorem d_QM_bytes_54 : decode b_QM_bytes 54 = .ok (.invokestatic 82, 3) := by decide +kernel
theorem d_QM_bytes_57 : decode b_QM_bytes 57 = .ok (.invokevirtual 53, 3) := by decide +kernel
theorem d_QM_bytes_60 : decode b_QM_bytes 60 = .ok (.iinc 4 1, 3) := by decide +kernel
theorem d_QM_bytes_63 : decode b_QM_bytes 63 = .ok (.goto (-23), 3) := by decide +kernel
theorem d_QM_bytes_66 : decode b_QM_bytes 66 = .ok (.return_, 1) := by decide +kernel
set_option maxHeartbeats 4000000 in
set_option maxRecDepth 100000 in
theorem c_QM_bytes (l : Launch) (hst : ∀ e : Env, l.admits e → e.platform.stackTraces = false) (E : gh_E) (sz : Nat) (f : gh_F) (ρ Z : Nat → Nat) (tx : Nat → Nat) (n : Nat) (bd : Int32) (dc : Nat) (X : vt) (q0 q1 N : Nat) (cb bg : Nat → Nat) (N1 : Nat) (cb1 bg1 : Nat → Nat) (φ : Nat) (en : Int32) (xs : List vt) (x : Int64) (y : Int32) (hA : qf_A E ρ Z f tx n bd dc X q0 q1 N cb bg N1 cb1 bg1 φ en xs) : gt_M l y_QM_bytes b_QM_bytes 5 none E sz [.ref (Z 6), .long x, .int y] f { frames := 10, cells := 1, slots := 6, locals := 160 } (fun r g => r = none ∧ (∃ mm cb2, y = nI mm ∧ (1 ≤ mm ∧ mm ≤ 8) ∧ N1 + mm ≤ 60 ∧ (∀ j, cb2 j = if N1 ≤ j ∧ j < N1 + mm then by_n x (mm - 1 - (j - N1)) else cb1 j) ∧ qf_A E ρ Z g tx n bd dc X q0 q1 N cb bg (N1 + mm) cb2 bg1 φ en xs) ∧ gh_fr f g (qf_M ρ)) (fun cls g => ((cls = X_IA ∧ ¬ (1 ≤ y ∧ y ≤ 8)) ∨ (cls = X_IS ∧ ∃ mm, y = nI mm ∧ (1 ≤ mm ∧ mm ≤ 8) ∧ 60 < N1 + mm)) ∧ g = f) := by
  refine gt_open (by decide) (Nat.le_of_ble_eq_true rfl) ?_
  intro p e s m args below meth c A ls hadm hno hAe C V hr hlocks hname hl
  have htr := hst e hadm
  have V0 := V
  have hx := C.1
  have hb := C.2.1
  have hl : lv_has ls 5 [(0, .ref (Z 6)), (1, .long x), (3, .int y)] := hl
  obtain ⟨q6, qK, q8, q9, qG, qW, qU, qRK, qRG, qRS, qP, qD, qQ, qp⟩ := id hA
  have qz := qK.1
  obtain ⟨tv, t1, t2, u8⟩ := id q8
  obtain ⟨qv, qb0, cU⟩ := id qU
  obtain ⟨cQ0, cQ1, cQ2⟩ := id qQ
  have q6 : f (Z 6) = some (.inr (0, [.ref (Z 7), .int (nI n), .ref (Z 8), .ref (Z 10), .ref (Z 1), .ref dc, .ref (Z q0), .ref (Z q1)])) := q6
  have h60 : N1 ≤ 60 := qp.2.2.2.1
  refine lv_iload_n hx hb d_QM_bytes_0 rfl (lv_at hl 2 rfl) ?_
  refine gh_callS C V hl.1 m_QM_isAmount l_QM_64 (c_QM_isAmount l E _ _ y) rfl ⟨by first | decide | omega | (dsimp only; omega), by first | decide | omega | (dsimp only; omega)⟩ ⟨by first | decide | omega | (dsimp only; omega), by first | decide | omega | (dsimp only; omega)⟩ (Nat.le_of_ble_eq_true rfl) rfl d_QM_bytes_1 (fun r g1_ H locs hp9 V1 => ?_)
  obtain ⟨rfl, he9⟩ := hp9
  rw [he9] at V1
  have V := V1
  refine W.eq (g2 := F0 m 4 ls [.int (gh_bi (decide (1 ≤ y ∧ y ≤ 8)))]) rfl ?_
  by_cases hy : 1 ≤ y ∧ y ≤ 8
  · rw [decide_eq_true hy]
    refine W.eq (g2 := F0 m 4 ls [.int 1]) rfl ?_
    obtain ⟨mm, hym, hm⟩ := fa_8 hy
    have hl : lv_has ls 5 [(0, .ref (Z 6)), (1, .long x), (3, .int (nI mm))] := by rw [← hym]; exact hl
    by_cases h20 : N1 + mm ≤ 60
    · refine lv_if_ne (tgt := 15) hx hb d_QM_bytes_4 (by decide) (fun c1 => ?_) (fun c1 => absurd c1 (by decide))
      refine lv_aload_n hx hb d_QM_bytes_15 rfl (lv_at hl 0 rfl) ?_
      refine gh_get C V q6 gc_QM gi_QM 7 (by decide) f_QM_61 rfl rfl d_QM_bytes_16 ?_
      refine gh_get C V cQ0 gc_Qu gi_Qu 2 (by decide) f_QM_93 rfl rfl d_QM_bytes_19 ?_
      refine lv_iload_n hx hb d_QM_bytes_22 rfl (lv_at hl 2 rfl) ?_
      refine gn_iadd (a := N1) (b := mm) hx hb d_QM_bytes_23 ?_
      refine lv_bipush (v := 60) hx hb d_QM_bytes_24 (by decide) ?_
      refine lv_icmp_le (tgt := 37) hx hb d_QM_bytes_26 (by decide) (fun c2 => ?_) (fun c2 => absurd ((gq_le (a := N1 + mm) (b := 60) (by omega) (by omega)).mpr h20) c2)
      refine lv_iconst (v := 0) hx hb d_QM_bytes_37 (by decide) ?_
      refine lv_istore hx hb d_QM_bytes_38 hl (by decide) rfl (fun ls hl => ?_)
      have hl : lv_has ls 5 [(4, .int 0), (0, .ref (Z 6)), (1, .long x), (3, .int (nI mm))] := hl
      have hl : lv_has ls 5 [(4, .int 0), (0, .ref (Z 6)), (1, .long x), (3, .int (nI mm))] := lv_sub hl [0, 1, 2, 3] rfl
      have hl : lv_has ls 5 [(4, .int (nI 0)), (0, .ref (Z 6)), (1, .long x), (3, .int (nI mm))] := hl
      have hq1 := qp.q1
      have e0 : ρ (Z q1) = q1 := qz q1 (by unfold rU; omega)
      have e1 : ρ (Z (q1 + 1)) = q1 + 1 := qz _ (by unfold rU; omega)
      have e6 : ρ (Z 6) = 6 := qz 6 (by unfold rU; omega)
      have hmq : ∀ b, (fun b => ρ b = q1 ∨ ρ b = q1 + 1) b → ρ b = q1 ∨ ρ b = q1 + 1 := fun _ z => z
      have loop : ∀ (m9 i9 : Nat) (cbx : Nat → Nat) (f1 : gh_F) (H : Heap) (locs : List Loc) (ls : Array Slot), i9 + m9 = mm → f1 (Z q1) = some (.inr (2, [.ref (Z (q1 + 1)), .ref (Z (q1 + 2)), .int (nI (N1 + i9))])) → f1 (Z (q1 + 1)) = some (.inl (E.2.2.1 0, 60, .inl (fun j => nI (cbx j)))) → (∀ j, cbx j = if N1 ≤ j ∧ j < N1 + i9 then by_n x (mm - 1 - (j - N1)) else cb1 j) → gh_fr f f1 (fun b => ρ b = q1 ∨ ρ b = q1 + 1) → gh_V E A f1 s H locs → lv_has ls 5 [(4, .int (nI i9)), (0, .ref (Z 6)), (1, .long x), (3, .int (nI mm))] → W p l e { frames := 10, cells := 1, slots := 6, locals := 160 } s m args below meth c H locs 0 0 (gt_MQ below (gt_Q E f (fun r g => r = none ∧ (∃ mm cb2, y = nI mm ∧ (1 ≤ mm ∧ mm ≤ 8) ∧ N1 + mm ≤ 60 ∧ (∀ j, cb2 j = if N1 ≤ j ∧ j < N1 + mm then by_n x (mm - 1 - (j - N1)) else cb1 j) ∧ qf_A E ρ Z g tx n bd dc X q0 q1 N cb bg (N1 + mm) cb2 bg1 φ en xs) ∧ gh_fr f g (qf_M ρ)) (fun cls g => ((cls = X_IA ∧ ¬ (1 ≤ y ∧ y ≤ 8)) ∨ (cls = X_IS ∧ ∃ mm, y = nI mm ∧ (1 ≤ mm ∧ mm ≤ 8) ∧ 60 < N1 + mm)) ∧ g = f)) args s 1 6 A) (F0 m 40 ls []) := by
        intro m9
        induction m9 with
        | zero =>
          intro i9 cbx f1 H locs ls hi k0 k1 hh hfr V hl
          have u6 : f1 (Z 6) = some (.inr (0, [.ref (Z 7), .int (nI n), .ref (Z 8), .ref (Z 10), .ref (Z 1), .ref dc, .ref (Z q0), .ref (Z q1)])) := hfr.at q6 (fun z => by have := hmq _ z; omega)
          have hii : i9 = mm := by omega
          rw [hii] at k0 hh
          have k2 : f1 (Z (q1 + 2)) = some (.inl (E.2.2.1 0, 180, .inl (fun j => nI (bg1 j)))) := hfr.at cQ2 (fun z => by have := hmq _ z; have := qz (q1 + 2) (by unfold rU; omega); omega)
          have hp2 : qf_p q0 q1 N cb bg (N1 + mm) cbx := ⟨qp.1, qp.2.1, qp.2.2.1, h20, fun j => by rw [hh j]; split; exact by_n_lt; exact qp.2.2.2.2 j⟩
          have hq01 := qp.2.2.1
          refine gt_of ?_
          refine lv_iload hx hb d_QM_bytes_40 (lv_at hl 0 rfl) ?_
          refine lv_iload_n hx hb d_QM_bytes_42 rfl (lv_at hl 3 rfl) ?_
          refine lv_icmp_ge (tgt := 66) hx hb d_QM_bytes_43 (by decide) (fun c3 => ?_) (fun c3 => absurd (nI_le (by omega) (by omega)) c3)
          refine gh_retv hAe C V hr hlocks d_QM_bytes_66 (by first | decide | omega | (dsimp only; omega)) (by first | decide | omega | (dsimp only; omega)) ?_
          exact ⟨rfl, ⟨mm, cbx, hym, hm, h20, hh, ⟨u6, qK.keep hfr (fun b hb => by have := hmq b hb; omega), q8.keep qz hfr (fun b hb => by have := hmq b hb; omega), q9.keep qz hfr (fun b hb => by have := hmq b hb; omega), qG.keep qz hfr (fun b hb => by have := hmq b hb; omega), qW.keep qz hfr (fun b hb => by have := hmq b hb; omega), qU.keep qz hfr (fun b hb => by have := hmq b hb; omega), rn_Kq qRK hq01 hfr (fun b hb => by have := hmq b hb; omega), qRG.keep qz hfr (fun b hb => by have := hmq b hb; omega), qRS.keep qz hfr (fun b hb => by have := hmq b hb; omega), qP.keep2 qz hfr (fun b hb => by have := hmq b hb; omega), qD.keep hfr (fun b hb z => by have z : ρ b = 0 := z; have := hmq b hb; omega), ⟨k0, k1, k2⟩, hp2⟩⟩, hfr.wide (fun b hb => Or.inl (by have := hmq b hb; omega))⟩
        | succ m9 ih =>
          intro i9 cbx f1 H locs ls hi k0 k1 hh hfr V hl
          have u6 : f1 (Z 6) = some (.inr (0, [.ref (Z 7), .int (nI n), .ref (Z 8), .ref (Z 10), .ref (Z 1), .ref dc, .ref (Z q0), .ref (Z q1)])) := hfr.at q6 (fun z => by have := hmq _ z; omega)
          refine lv_iload hx hb d_QM_bytes_40 (lv_at hl 0 rfl) ?_
          refine lv_iload_n hx hb d_QM_bytes_42 rfl (lv_at hl 3 rfl) ?_
          refine lv_icmp_ge (tgt := 66) hx hb d_QM_bytes_43 (by decide) (fun c4 => absurd c4 (nI_ge (by omega) (by omega))) (fun c4 => ?_)
          refine lv_aload_n hx hb d_QM_bytes_46 rfl (lv_at hl 1 rfl) ?_
          refine gh_get C V u6 gc_QM gi_QM 7 (by decide) f_QM_61 rfl rfl d_QM_bytes_47 ?_
          refine lv_lload_n hx hb d_QM_bytes_50 rfl (lv_at hl 2 rfl) ?_
          refine lv_iload_n hx hb d_QM_bytes_51 rfl (lv_at hl 3 rfl) ?_
          refine lv_iload hx hb d_QM_bytes_52 (lv_at hl 0 rfl) ?_
          refine gh_callS C V hl.1 m_QM_byteOf l_QM_82 (c_QM_byteOf l E _ _ x mm i9 hm.2 (by omega)) rfl ⟨by first | decide | omega | (dsimp only; omega), by first | decide | omega | (dsimp only; omega)⟩ ⟨by first | decide | omega | (dsimp only; omega), by first | decide | omega | (dsimp only; omega)⟩ (Nat.le_of_ble_eq_true rfl) rfl d_QM_bytes_54 (fun r g2_ H locs hp9 V1 => ?_)
          obtain ⟨rfl, he9⟩ := hp9
          rw [he9] at V1
          have V := V1
          refine W.eq (g2 := F0 m 57 ls [.int (nI (by_n x (mm - 1 - i9))), .ref (Z q1)]) rfl ?_
          refine gh_callV C V hl.1 m_Qu_append l_QM_53 (c_Qu_append l E _ _ (Z q1) (Z (q1 + 1)) (Z (q1 + 2)) (N1 + i9) (by_n x (mm - 1 - i9)) cbx (by omega) k0 k1) rfl k0 gc_Qu ⟨by first | decide | omega | (dsimp only; omega), by first | decide | omega | (dsimp only; omega)⟩ ⟨by first | decide | omega | (dsimp only; omega), by first | decide | omega | (dsimp only; omega)⟩ (Nat.le_of_ble_eq_true rfl) rfl d_QM_bytes_57 (fun r ga H locs hp9 V1 => ?_)
          obtain ⟨rfl, hp9, -⟩ := hp9
          obtain ⟨g0, g1, hfr2⟩ := hp9 (by omega)
          have V := V1
          refine W.eq (g2 := F0 m 60 ls []) rfl ?_
          refine lv_iinc (k := 0) (v := (nI i9) + 1) hx hb d_QM_bytes_60 hl rfl (by rfl) (by decide) rfl (fun ls hl => ?_)
          have hl : lv_has ls 5 [(4, .int (nI (i9 + 1))), (0, .ref (Z 6)), (1, .long x), (3, .int (nI mm))] := by rw [nI_succ]; exact hl
          refine lv_goto (tgt := 40) hx hb d_QM_bytes_63 (by decide) ?_
          have hl : lv_has ls 5 [(4, .int (nI (i9 + 1))), (0, .ref (Z 6)), (1, .long x), (3, .int (nI mm))] := lv_sub hl [0, 1, 2, 3] rfl
          have hl : lv_has ls 5 [(4, .int (nI (i9 + 1))), (0, .ref (Z 6)), (1, .long x), (3, .int (nI mm))] := hl
          refine ih (i9 + 1) (va_up cbx (N1 + i9) (by_n x (mm - 1 - i9))) ga H _ ls (by omega) g0 g1 (fun j => ?_) (hfr.tr hfr2 (fun b _ _ hb => ?_)) V hl
          · by_cases hjj : j = N1 + i9
            · rw [hjj, va_up_s, if_pos (by omega), show N1 + i9 - N1 = i9 by omega]
            · rw [va_up_n hjj, hh j]; by_cases hj2 : N1 ≤ j ∧ j < N1 + i9
              · rw [if_pos hj2, if_pos (by omega)]
              · rw [if_neg hj2, if_neg (by omega)]
          · rcases List.mem_cons.mp hb with rfl | hb
            · exact Or.inl e0
            · rw [List.mem_singleton.mp hb]; exact Or.inr e1
      exact loop mm 0 cb1 f H _ ls (by omega) cQ0 cQ1 (fun j => by rw [if_neg (by omega)]) gh_fr.rf V hl
    · refine lv_if_ne (tgt := 15) hx hb d_QM_bytes_4 (by decide) (fun c5 => ?_) (fun c5 => absurd c5 (by decide))
      refine lv_aload_n hx hb d_QM_bytes_15 rfl (lv_at hl 0 rfl) ?_
      refine gh_get C V q6 gc_QM gi_QM 7 (by decide) f_QM_61 rfl rfl d_QM_bytes_16 ?_
      refine gh_get C V cQ0 gc_Qu gi_Qu 2 (by decide) f_QM_93 rfl rfl d_QM_bytes_19 ?_
      refine lv_iload_n hx hb d_QM_bytes_22 rfl (lv_at hl 2 rfl) ?_
      refine gn_iadd (a := N1) (b := mm) hx hb d_QM_bytes_23 ?_
      refine lv_bipush (v := 60) hx hb d_QM_bytes_24 (by decide) ?_
      refine lv_icmp_le (tgt := 37) hx hb d_QM_bytes_26 (by decide) (fun c6 => absurd c6 (fun z => h20 ((gq_le (a := N1 + mm) (b := 60) (by omega) (by omega)).mp z))) (fun c6 => ?_)
      exact gt_throw htr hAe V0 C V hl.1 hno hlocks (by decide +kernel) (gx_IS_w C) gx_IS_c gx_IS_n gx_IS_i d_QM_bytes_29 d_QM_bytes_32 d_QM_bytes_33 d_QM_bytes_36 (by first | decide | omega | (dsimp only; omega)) (by first | decide | omega | (dsimp only; omega)) (by first | decide | omega | (dsimp only; omega)) (by first | decide | omega | (dsimp only; omega)) (by first | decide | omega | (dsimp only; omega)) (by first | decide | omega | (dsimp only; omega)) ⟨Or.inr ⟨rfl, mm, hym, hm, by omega⟩, rfl⟩
  · rw [decide_eq_false hy]
    refine W.eq (g2 := F0 m 4 ls [.int 0]) rfl ?_
    refine lv_if_ne (tgt := 15) hx hb d_QM_bytes_4 (by decide) (fun c7 => absurd (by decide) c7) (fun c7 => ?_)
    exact gt_throw htr hAe V0 C V hl.1 hno hlocks (by decide +kernel) (gx_IA_w C) gx_IA_c gx_IA_n gx_IA_i d_QM_bytes_7 d_QM_bytes_10 d_QM_bytes_11 d_QM_bytes_14 (by first | decide | omega | (dsimp only; omega)) (by first | decide | omega | (dsimp only; omega)) (by first | decide | omega | (dsimp only; omega)) (by first | decide | omega | (dsimp only; omega)) (by first | decide | omega | (dsimp only; omega)) (by first | decide | omega | (dsimp only; omega)) ⟨Or.inl ⟨rfl, hy⟩, rfl⟩
