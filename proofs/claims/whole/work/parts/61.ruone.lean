/-! The parts with one value at most. Printed by wip/whole/gen_ru8.py. -/
theorem it_neg : ∀ b, b < 128 → nI b - 128 < 0 := by decide +kernel
theorem it_pos : ∀ b, b < 256 → 128 ≤ b → nI b - 128 = nI (b - 128) := by decide +kernel
theorem it_in : ∀ c, c < 17 → ∀ b, b < 128 → 128 ≤ c + b → nI c + (nI b - 128) = nI (c + b - 128) := by decide +kernel
theorem it_out : ∀ c, c < 17 → ∀ b, b < 128 → ¬ 128 ≤ c + b → nI c + (nI b - 128) < 0 := by decide +kernel
theorem d_Ru_field_0 : decode b_Ru_field 0 = .ok (.aload_n 1, 1) := by decide +kernel
theorem d_Ru_field_1 : decode b_Ru_field 1 = .ok (.getfield 185, 3) := by decide +kernel
theorem d_Ru_field_4 : decode b_Ru_field 4 = .ok (.bipush 6, 2) := by decide +kernel
theorem d_Ru_field_6 : decode b_Ru_field 6 = .ok (.if_icmp .eq 16, 3) := by decide +kernel
theorem d_Ru_field_9 : decode b_Ru_field 9 = .ok (.aload_n 1, 1) := by decide +kernel
theorem d_Ru_field_10 : decode b_Ru_field 10 = .ok (.getfield 185, 3) := by decide +kernel
theorem d_Ru_field_13 : decode b_Ru_field 13 = .ok (.ifCond .ne 7, 3) := by decide +kernel
theorem d_Ru_field_16 : decode b_Ru_field 16 = .ok (.aload_n 1, 1) := by decide +kernel
theorem d_Ru_field_17 : decode b_Ru_field 17 = .ok (.goto 4, 3) := by decide +kernel
theorem d_Ru_field_20 : decode b_Ru_field 20 = .ok (.aconst_null, 1) := by decide +kernel
theorem d_Ru_field_21 : decode b_Ru_field 21 = .ok (.areturn, 1) := by decide +kernel
theorem d_Ru_field_22 : decode b_Ru_field 22 = .ok (.aload_n 1, 1) := by decide +kernel
theorem d_Ru_field_23 : decode b_Ru_field 23 = .ok (.aload_n 2, 1) := by decide +kernel
theorem d_Ru_field_24 : decode b_Ru_field 24 = .ok (.invokevirtual 251, 3) := by decide +kernel
theorem d_Ru_field_27 : decode b_Ru_field 27 = .ok (.istore_n 3, 1) := by decide +kernel
theorem d_Ru_field_28 : decode b_Ru_field 28 = .ok (.iload_n 3, 1) := by decide +kernel
theorem d_Ru_field_29 : decode b_Ru_field 29 = .ok (.ifCond .lt 12, 3) := by decide +kernel
theorem d_Ru_field_32 : decode b_Ru_field 32 = .ok (.aload_n 1, 1) := by decide +kernel
theorem d_Ru_field_33 : decode b_Ru_field 33 = .ok (.getfield 148, 3) := by decide +kernel
theorem d_Ru_field_36 : decode b_Ru_field 36 = .ok (.iload_n 3, 1) := by decide +kernel
theorem d_Ru_field_37 : decode b_Ru_field 37 = .ok (.aaload, 1) := by decide +kernel
theorem d_Ru_field_38 : decode b_Ru_field 38 = .ok (.goto 10, 3) := by decide +kernel
theorem d_Ru_field_41 : decode b_Ru_field 41 = .ok (.aload_n 0, 1) := by decide +kernel
theorem d_Ru_field_42 : decode b_Ru_field 42 = .ok (.getfield 13, 3) := by decide +kernel
theorem d_Ru_field_45 : decode b_Ru_field 45 = .ok (.getfield 54, 3) := by decide +kernel
theorem d_Ru_field_48 : decode b_Ru_field 48 = .ok (.areturn, 1) := by decide +kernel
set_option maxHeartbeats 4000000 in
set_option maxRecDepth 100000 in
theorem c_Ru_field (l : Launch) (E : gh_E) (sz : Nat) (f : gh_F) (ρ Z : Nat → Nat) (q0 N : Nat) (cb bg : Nat → Nat) (φ b : Nat) (s0 e0 : Int32) (it : Nat) (X : vt) (kb : Nat) (L : List Int32) (hR : rn_R E ρ Z f q0 N cb bg φ b s0 e0) (hit : cw E (rP ρ) f it X) (hkb : cv_S E (rP ρ) f kb L) (hL : lt_ok L) : gh_M l y_Ru_field b_Ru_field 4 (some (.object "QueryMachine$Value")) E sz [.ref (Z 1), .ref it, .ref kb] f { frames := 3, cells := 0, slots := 0, locals := 80 } (fun r g => vr_A E (rP ρ) g (sr_fld X L) r ∧ g = f) := by
  have hoX := vo_o.mp hit.2
  have hk6 := hoX.1
  have hc16 := hoX.2.2.2.2.2.2.1
  have hnX := hoX.2.1
  have hkbc := hkb
  obtain ⟨lk, kk9, ik9, gk9, gi9, hpk, hkc, hlk, -⟩ := hkbc
  refine gh_open (by decide) (Nat.le_of_ble_eq_true rfl) ?_
  intro p e s m args below meth c A ls hAe C V hr hlocks hname hl
  have hx := C.1
  have hb := C.2.1
  have hl : lv_has ls 4 [(0, .ref (Z 1)), (1, .ref it), (2, .ref kb)] := hl
  have hRc := hR
  obtain ⟨h1R, ⟨hz, ⟨p206, p207⟩, ⟨gS, hgS, hgS2⟩, ⟨gG, hgG, hgG2⟩, hVR, hqR, hcdR, hbaR, hN60, hq0⟩, ⟨hgaV, hgaR⟩, hSR, hnon⟩ := hRc
  obtain ⟨pvsR, hvsR, hnuR, hnoR, hyeR, -⟩ := id hVR
  refine lv_aload_n hx hb d_Ru_field_0 rfl (lv_at hl 1 rfl) ?_
  obtain ⟨la_1, ka_1, ia_1, gk_1, gi_1, K_1, B_1, hp_1, h0_1, h1_1, h2_1, h3_1, h4_1, h5_1⟩ := cv_o.mp hit.1
  refine gh_get C V h0_1 gc_Va gi_Va 0 (by decide) f_Ru_185 rfl rfl d_Ru_field_1 ?_
  refine lv_bipush (v := 6) hx hb d_Ru_field_4 (by decide) ?_
  refine lv_icmp_eq (tgt := 22) hx hb d_Ru_field_6 (by decide) (fun c2 => ?_) (fun c2 => ?_)
  · have c2 : (vt_k X) = 6 := by rw [← gq_eq (a := vt_k X) (b := 6) (by omega) (by omega)]; exact c2
    refine lv_aload_n hx hb d_Ru_field_22 rfl (lv_at hl 1 rfl) ?_
    refine lv_aload_n hx hb d_Ru_field_23 rfl (lv_at hl 2 rfl) ?_
    refine gh_callV C V hl.1 m_Va_placeOf l_Ru_251 (c_Va_placeOf l E _ f (rP ρ) it X kb lk L _ _ _ _ _ _ 7 hit.1 hit.2 hkc hlk.A hL.1) rfl h0_1 gc_Va ⟨by first | decide | omega | (dsimp only; omega), by first | decide | omega | (dsimp only; omega)⟩ ⟨by first | decide | omega | (dsimp only; omega), by first | decide | omega | (dsimp only; omega)⟩ (Nat.le_of_ble_eq_true rfl) rfl d_Ru_field_24 (fun r z9 H locs hp V => ?_)
    obtain ⟨rfl, he9⟩ := hp
    rw [he9] at V
    cases hF : vt_find (vt_q X) L with
    | none =>
      refine W.eq (g2 := F0 m 27 ls [.int ((-1))]) rfl ?_
      refine lv_istore_n hx hb d_Ru_field_27 rfl hl (by decide) rfl (fun ls hl => ?_)
      have hl : lv_has ls 4 [(3, .int ((-1))), (0, .ref (Z 1)), (1, .ref it), (2, .ref kb)] := hl
      refine lv_iload_n hx hb d_Ru_field_28 rfl (lv_at hl 0 rfl) ?_
      refine lv_if_lt (tgt := 41) hx hb d_Ru_field_29 (by decide) (fun c3 => ?_) (fun c3 => absurd (by decide) c3)
      refine lv_aload_n hx hb d_Ru_field_41 rfl (lv_at hl 1 rfl) ?_
      refine gh_get C V h1R gc_Ru gi_Ru 0 (by decide) f_Ru_13 rfl rfl d_Ru_field_42 ?_
      refine gh_get C V hvsR gc_Vs gi_Vs 0 (by decide) f_Ru_54 rfl rfl d_Ru_field_45 ?_
      refine gh_reta hAe C V hr (by first | exact Or.inl ⟨_, rfl⟩ | exact Or.inr ⟨_, rfl⟩) (by first | exact Or.inl rfl | exact Or.inr ⟨_, rfl⟩) hlocks d_Ru_field_48 (by first | decide | omega | (dsimp only; omega)) (by first | decide | omega | (dsimp only; omega)) ?_
      exact ⟨by unfold sr_fld; rw [if_pos c2, hF]; exact ⟨_, rfl, hnuR⟩, rfl⟩
    | some j9 =>
      have hj9 := vt_find_lt hF
      have hj8 : j9 < vt_c X := by rw [hoX.2.2.2.2.1] at hj9; split at hj9 <;> omega
      refine W.eq (g2 := F0 m 27 ls [.int (nI j9)]) rfl ?_
      refine lv_istore_n hx hb d_Ru_field_27 rfl hl (by decide) rfl (fun ls hl => ?_)
      have hl : lv_has ls 4 [(3, .int (nI j9)), (0, .ref (Z 1)), (1, .ref it), (2, .ref kb)] := hl
      refine lv_iload_n hx hb d_Ru_field_28 rfl (lv_at hl 0 rfl) ?_
      refine lv_if_lt (tgt := 41) hx hb d_Ru_field_29 (by decide) (fun c4 => absurd c4 (nI_pos (by omega))) (fun c4 => ?_)
      refine lv_aload_n hx hb d_Ru_field_32 rfl (lv_at hl 2 rfl) ?_
      refine gh_get C V h0_1 gc_Va gi_Va 4 (by decide) f_Ru_148 rfl rfl d_Ru_field_33 ?_
      refine lv_iload_n hx hb d_Ru_field_36 rfl (lv_at hl 0 rfl) ?_
      refine gn_aald (t0 := 4) (i := j9) (v := (B_1 j9)) C V rfl h3_1 (by omega) (by omega) (h5_1 j9 (by omega)).1 d_Ru_field_37 ?_
      refine lv_goto (tgt := 48) hx hb d_Ru_field_38 (by decide) ?_
      refine gh_reta hAe C V hr (by first | exact Or.inl ⟨_, rfl⟩ | exact Or.inr ⟨_, rfl⟩) (by first | exact Or.inl rfl | exact Or.inr ⟨_, rfl⟩) hlocks d_Ru_field_48 (by first | decide | omega | (dsimp only; omega)) (by first | decide | omega | (dsimp only; omega)) ?_
      exact ⟨by unfold sr_fld; rw [if_pos c2, hF]; exact ⟨_, rfl, cw_item hit.2 hj8 (h5_1 j9 (by omega)).2⟩, rfl⟩
  · have c2 : ¬ (vt_k X) = 6 := by rw [← gq_eq (a := vt_k X) (b := 6) (by omega) (by omega)]; exact c2
    refine lv_aload_n hx hb d_Ru_field_9 rfl (lv_at hl 1 rfl) ?_
    refine gh_get C V h0_1 gc_Va gi_Va 0 (by decide) f_Ru_185 rfl rfl d_Ru_field_10 ?_
    refine lv_if_ne (tgt := 20) hx hb d_Ru_field_13 (by decide) (fun c5 => ?_) (fun c5 => ?_)
    · have c5 : ¬ (vt_k X) = 0 := by rw [← gq_eq (a := vt_k X) (b := 0) (by omega) (by omega)]; exact c5
      refine lv_null hx hb d_Ru_field_20 ?_
      refine gh_reta hAe C V hr (by first | exact Or.inl ⟨_, rfl⟩ | exact Or.inr ⟨_, rfl⟩) (by first | exact Or.inl rfl | exact Or.inr ⟨_, rfl⟩) hlocks d_Ru_field_21 (by first | decide | omega | (dsimp only; omega)) (by first | decide | omega | (dsimp only; omega)) ?_
      exact ⟨by unfold sr_fld; rw [if_neg c2, if_neg c5]; exact rfl, rfl⟩
    · have c5 : (vt_k X) = 0 := by rw [← gq_eq (a := vt_k X) (b := 0) (by omega) (by omega)]; exact c5
      refine lv_aload_n hx hb d_Ru_field_16 rfl (lv_at hl 1 rfl) ?_
      refine lv_goto (tgt := 21) hx hb d_Ru_field_17 (by decide) ?_
      refine gh_reta hAe C V hr (by first | exact Or.inl ⟨_, rfl⟩ | exact Or.inr ⟨_, rfl⟩) (by first | exact Or.inl rfl | exact Or.inr ⟨_, rfl⟩) hlocks d_Ru_field_21 (by first | decide | omega | (dsimp only; omega)) (by first | decide | omega | (dsimp only; omega)) ?_
      exact ⟨by unfold sr_fld; rw [if_neg c2, if_pos c5]; exact ⟨_, rfl, by have h9 := hit.triv (by omega); rw [c5] at h9; exact h9⟩, rfl⟩
theorem d_Ru_item_0 : decode b_Ru_item 0 = .ok (.aload_n 1, 1) := by decide +kernel
theorem d_Ru_item_1 : decode b_Ru_item 1 = .ok (.getfield 185, 3) := by decide +kernel
theorem d_Ru_item_4 : decode b_Ru_item 4 = .ok (.iconst 5, 1) := by decide +kernel
theorem d_Ru_item_5 : decode b_Ru_item 5 = .ok (.if_icmp .eq 16, 3) := by decide +kernel
theorem d_Ru_item_8 : decode b_Ru_item 8 = .ok (.aload_n 1, 1) := by decide +kernel
theorem d_Ru_item_9 : decode b_Ru_item 9 = .ok (.getfield 185, 3) := by decide +kernel
theorem d_Ru_item_12 : decode b_Ru_item 12 = .ok (.ifCond .ne 7, 3) := by decide +kernel
theorem d_Ru_item_15 : decode b_Ru_item 15 = .ok (.aload_n 1, 1) := by decide +kernel
theorem d_Ru_item_16 : decode b_Ru_item 16 = .ok (.goto 4, 3) := by decide +kernel
theorem d_Ru_item_19 : decode b_Ru_item 19 = .ok (.aconst_null, 1) := by decide +kernel
theorem d_Ru_item_20 : decode b_Ru_item 20 = .ok (.areturn, 1) := by decide +kernel
theorem d_Ru_item_21 : decode b_Ru_item 21 = .ok (.iload_n 2, 1) := by decide +kernel
theorem d_Ru_item_22 : decode b_Ru_item 22 = .ok (.ifCond .ge 13, 3) := by decide +kernel
theorem d_Ru_item_25 : decode b_Ru_item 25 = .ok (.aload_n 1, 1) := by decide +kernel
theorem d_Ru_item_26 : decode b_Ru_item 26 = .ok (.getfield 148, 3) := by decide +kernel
theorem d_Ru_item_29 : decode b_Ru_item 29 = .ok (.arraylength, 1) := by decide +kernel
theorem d_Ru_item_30 : decode b_Ru_item 30 = .ok (.iload_n 2, 1) := by decide +kernel
theorem d_Ru_item_31 : decode b_Ru_item 31 = .ok (.iadd, 1) := by decide +kernel
theorem d_Ru_item_32 : decode b_Ru_item 32 = .ok (.goto 4, 3) := by decide +kernel
theorem d_Ru_item_35 : decode b_Ru_item 35 = .ok (.iload_n 2, 1) := by decide +kernel
theorem d_Ru_item_36 : decode b_Ru_item 36 = .ok (.istore_n 3, 1) := by decide +kernel
theorem d_Ru_item_37 : decode b_Ru_item 37 = .ok (.iload_n 3, 1) := by decide +kernel
theorem d_Ru_item_38 : decode b_Ru_item 38 = .ok (.ifCond .lt 21, 3) := by decide +kernel
theorem d_Ru_item_41 : decode b_Ru_item 41 = .ok (.iload_n 3, 1) := by decide +kernel
theorem d_Ru_item_42 : decode b_Ru_item 42 = .ok (.aload_n 1, 1) := by decide +kernel
theorem d_Ru_item_43 : decode b_Ru_item 43 = .ok (.getfield 148, 3) := by decide +kernel
theorem d_Ru_item_46 : decode b_Ru_item 46 = .ok (.arraylength, 1) := by decide +kernel
theorem d_Ru_item_47 : decode b_Ru_item 47 = .ok (.if_icmp .ge 12, 3) := by decide +kernel
theorem d_Ru_item_50 : decode b_Ru_item 50 = .ok (.aload_n 1, 1) := by decide +kernel
theorem d_Ru_item_51 : decode b_Ru_item 51 = .ok (.getfield 148, 3) := by decide +kernel
theorem d_Ru_item_54 : decode b_Ru_item 54 = .ok (.iload_n 3, 1) := by decide +kernel
theorem d_Ru_item_55 : decode b_Ru_item 55 = .ok (.aaload, 1) := by decide +kernel
theorem d_Ru_item_56 : decode b_Ru_item 56 = .ok (.goto 10, 3) := by decide +kernel
theorem d_Ru_item_59 : decode b_Ru_item 59 = .ok (.aload_n 0, 1) := by decide +kernel
theorem d_Ru_item_60 : decode b_Ru_item 60 = .ok (.getfield 13, 3) := by decide +kernel
theorem d_Ru_item_63 : decode b_Ru_item 63 = .ok (.getfield 54, 3) := by decide +kernel
theorem d_Ru_item_66 : decode b_Ru_item 66 = .ok (.areturn, 1) := by decide +kernel
set_option maxHeartbeats 4000000 in
set_option maxRecDepth 100000 in
theorem c_Ru_item (l : Launch) (E : gh_E) (sz : Nat) (f : gh_F) (ρ Z : Nat → Nat) (q0 N : Nat) (cb bg : Nat → Nat) (φ b : Nat) (s0 e0 : Int32) (it : Nat) (X : vt) (bt : Nat) (hR : rn_R E ρ Z f q0 N cb bg φ b s0 e0) (hit : cw E (rP ρ) f it X) (hbt : bt < 256) : gh_M l y_Ru_item b_Ru_item 4 (some (.object "QueryMachine$Value")) E sz [.ref (Z 1), .ref it, .int (nI bt - 128)] f { frames := 1, cells := 0, slots := 0, locals := 12 } (fun r g => vr_A E (rP ρ) g (sr_itm X bt) r ∧ g = f) := by
  have hoX := vo_o.mp hit.2
  have hk6 := hoX.1
  have hc16 := hoX.2.2.2.2.2.2.1
  have hnX := hoX.2.1
  refine gh_open (by decide) (Nat.le_of_ble_eq_true rfl) ?_
  intro p e s m args below meth c A ls hAe C V hr hlocks hname hl
  have hx := C.1
  have hb := C.2.1
  have hl : lv_has ls 4 [(0, .ref (Z 1)), (1, .ref it), (2, .int (nI bt - 128))] := hl
  have hRc := hR
  obtain ⟨h1R, ⟨hz, ⟨p206, p207⟩, ⟨gS, hgS, hgS2⟩, ⟨gG, hgG, hgG2⟩, hVR, hqR, hcdR, hbaR, hN60, hq0⟩, ⟨hgaV, hgaR⟩, hSR, hnon⟩ := hRc
  obtain ⟨pvsR, hvsR, hnuR, hnoR, hyeR, -⟩ := id hVR
  obtain ⟨la_1, ka_1, ia_1, gk_1, gi_1, K_1, B_1, hp_1, h0_1, h1_1, h2_1, h3_1, h4_1, h5_1⟩ := cv_o.mp hit.1
  refine lv_aload_n hx hb d_Ru_item_0 rfl (lv_at hl 1 rfl) ?_
  refine gh_get C V h0_1 gc_Va gi_Va 0 (by decide) f_Ru_185 rfl rfl d_Ru_item_1 ?_
  refine lv_iconst (v := 5) hx hb d_Ru_item_4 (by decide) ?_
  refine lv_icmp_eq (tgt := 21) hx hb d_Ru_item_5 (by decide) (fun c2 => ?_) (fun c2 => ?_)
  · have c2 : (vt_k X) = 5 := by rw [← gq_eq (a := vt_k X) (b := 5) (by omega) (by omega)]; exact c2
    by_cases hb8 : bt < 128
    · by_cases hb9 : 128 ≤ vt_c X + bt
      · refine lv_iload_n hx hb d_Ru_item_21 rfl (lv_at hl 2 rfl) ?_
        refine lv_if_ge (tgt := 35) hx hb d_Ru_item_22 (by decide) (fun c3 => absurd c3 (fun z => absurd (it_neg bt hb8) (lg_ge0 z))) (fun c3 => ?_)
        refine lv_aload_n hx hb d_Ru_item_25 rfl (lv_at hl 1 rfl) ?_
        refine gh_get C V h0_1 gc_Va gi_Va 4 (by decide) f_Ru_148 rfl rfl d_Ru_item_26 ?_
        refine gh_alen (t0 := 4) C V rfl h3_1 (v := nI (vt_c X)) rfl d_Ru_item_29 ?_
        refine lv_iload_n hx hb d_Ru_item_30 rfl (lv_at hl 2 rfl) ?_
        refine lv_iadd hx hb d_Ru_item_31 ?_
        rw [it_in (vt_c X) (by omega) bt hb8 hb9]
        refine lv_goto (tgt := 36) hx hb d_Ru_item_32 (by decide) ?_
        refine lv_istore_n hx hb d_Ru_item_36 rfl hl (by decide) rfl (fun ls hl => ?_)
        have hl : lv_has ls 4 [(3, .int (nI (vt_c X + bt - 128))), (0, .ref (Z 1)), (1, .ref it), (2, .int (nI bt - 128))] := hl
        refine lv_iload_n hx hb d_Ru_item_37 rfl (lv_at hl 0 rfl) ?_
        refine lv_if_lt (tgt := 59) hx hb d_Ru_item_38 (by decide) (fun c4 => absurd c4 (nI_pos (by omega))) (fun c4 => ?_)
        refine lv_iload_n hx hb d_Ru_item_41 rfl (lv_at hl 0 rfl) ?_
        refine lv_aload_n hx hb d_Ru_item_42 rfl (lv_at hl 2 rfl) ?_
        refine gh_get C V h0_1 gc_Va gi_Va 4 (by decide) f_Ru_148 rfl rfl d_Ru_item_43 ?_
        refine gh_alen (t0 := 4) C V rfl h3_1 (v := nI (vt_c X)) rfl d_Ru_item_46 ?_
        refine lv_icmp_ge (tgt := 59) hx hb d_Ru_item_47 (by decide) (fun c5 => absurd c5 (nI_ge (by omega) (by omega))) (fun c5 => ?_)
        refine lv_aload_n hx hb d_Ru_item_50 rfl (lv_at hl 2 rfl) ?_
        refine gh_get C V h0_1 gc_Va gi_Va 4 (by decide) f_Ru_148 rfl rfl d_Ru_item_51 ?_
        refine lv_iload_n hx hb d_Ru_item_54 rfl (lv_at hl 0 rfl) ?_
        refine gn_aald (t0 := 4) (i := vt_c X + bt - 128) (v := (B_1 (vt_c X + bt - 128))) C V rfl h3_1 (by omega) (by omega) (h5_1 (vt_c X + bt - 128) (by omega)).1 d_Ru_item_55 ?_
        refine lv_goto (tgt := 66) hx hb d_Ru_item_56 (by decide) ?_
        refine gh_reta hAe C V hr (by first | exact Or.inl ⟨_, rfl⟩ | exact Or.inr ⟨_, rfl⟩) (by first | exact Or.inl rfl | exact Or.inr ⟨_, rfl⟩) hlocks d_Ru_item_66 (by first | decide | omega | (dsimp only; omega)) (by first | decide | omega | (dsimp only; omega)) ?_
        have hpl : sr_pl (vt_c X) bt = some (vt_c X + bt - 128) := by unfold sr_pl; rw [if_pos hb8, if_pos hb9]
        exact ⟨by unfold sr_itm; rw [if_pos c2, hpl]; exact ⟨_, rfl, cw_item hit.2 (by omega) (h5_1 (vt_c X + bt - 128) (by omega)).2⟩, rfl⟩
      · refine lv_iload_n hx hb d_Ru_item_21 rfl (lv_at hl 2 rfl) ?_
        refine lv_if_ge (tgt := 35) hx hb d_Ru_item_22 (by decide) (fun c6 => absurd c6 (fun z => absurd (it_neg bt hb8) (lg_ge0 z))) (fun c6 => ?_)
        refine lv_aload_n hx hb d_Ru_item_25 rfl (lv_at hl 1 rfl) ?_
        refine gh_get C V h0_1 gc_Va gi_Va 4 (by decide) f_Ru_148 rfl rfl d_Ru_item_26 ?_
        refine gh_alen (t0 := 4) C V rfl h3_1 (v := nI (vt_c X)) rfl d_Ru_item_29 ?_
        refine lv_iload_n hx hb d_Ru_item_30 rfl (lv_at hl 2 rfl) ?_
        refine lv_iadd hx hb d_Ru_item_31 ?_
        refine lv_goto (tgt := 36) hx hb d_Ru_item_32 (by decide) ?_
        refine lv_istore_n hx hb d_Ru_item_36 rfl hl (by decide) rfl (fun ls hl => ?_)
        have hl : lv_has ls 4 [(3, .int (nI (vt_c X) + (nI bt - 128))), (0, .ref (Z 1)), (1, .ref it), (2, .int (nI bt - 128))] := hl
        refine lv_iload_n hx hb d_Ru_item_37 rfl (lv_at hl 0 rfl) ?_
        refine lv_if_lt (tgt := 59) hx hb d_Ru_item_38 (by decide) (fun c7 => ?_) (fun c7 => absurd (it_out (vt_c X) (by omega) bt hb8 hb9) c7)
        refine lv_aload_n hx hb d_Ru_item_59 rfl (lv_at hl 1 rfl) ?_
        refine gh_get C V h1R gc_Ru gi_Ru 0 (by decide) f_Ru_13 rfl rfl d_Ru_item_60 ?_
        refine gh_get C V hvsR gc_Vs gi_Vs 0 (by decide) f_Ru_54 rfl rfl d_Ru_item_63 ?_
        refine gh_reta hAe C V hr (by first | exact Or.inl ⟨_, rfl⟩ | exact Or.inr ⟨_, rfl⟩) (by first | exact Or.inl rfl | exact Or.inr ⟨_, rfl⟩) hlocks d_Ru_item_66 (by first | decide | omega | (dsimp only; omega)) (by first | decide | omega | (dsimp only; omega)) ?_
        have hpl : sr_pl (vt_c X) bt = none := by unfold sr_pl; rw [if_pos hb8, if_neg hb9]
        exact ⟨by unfold sr_itm; rw [if_pos c2, hpl]; exact ⟨_, rfl, hnuR⟩, rfl⟩
    · rw [it_pos bt hbt (by omega)] at hl
      refine lv_iload_n hx hb d_Ru_item_21 rfl (lv_at hl 2 rfl) ?_
      refine lv_if_ge (tgt := 35) hx hb d_Ru_item_22 (by decide) (fun c8 => ?_) (fun c8 => absurd (nI_pos' (by omega)) c8)
      refine lv_iload_n hx hb d_Ru_item_35 rfl (lv_at hl 2 rfl) ?_
      refine lv_istore_n hx hb d_Ru_item_36 rfl hl (by decide) rfl (fun ls hl => ?_)
      have hl : lv_has ls 4 [(3, .int (nI (bt - 128))), (0, .ref (Z 1)), (1, .ref it), (2, .int (nI (bt - 128)))] := hl
      refine lv_iload_n hx hb d_Ru_item_37 rfl (lv_at hl 0 rfl) ?_
      refine lv_if_lt (tgt := 59) hx hb d_Ru_item_38 (by decide) (fun c9 => absurd c9 (nI_pos (by omega))) (fun c9 => ?_)
      refine lv_iload_n hx hb d_Ru_item_41 rfl (lv_at hl 0 rfl) ?_
      refine lv_aload_n hx hb d_Ru_item_42 rfl (lv_at hl 2 rfl) ?_
      refine gh_get C V h0_1 gc_Va gi_Va 4 (by decide) f_Ru_148 rfl rfl d_Ru_item_43 ?_
      refine gh_alen (t0 := 4) C V rfl h3_1 (v := nI (vt_c X)) rfl d_Ru_item_46 ?_
      refine lv_icmp_ge (tgt := 59) hx hb d_Ru_item_47 (by decide) (fun c10 => ?_) (fun c10 => ?_)
      · have c10 : (vt_c X) ≤ (bt - 128) := by rw [← gq_le (a := vt_c X) (b := bt - 128) (by omega) (by omega)]; exact c10
        refine lv_aload_n hx hb d_Ru_item_59 rfl (lv_at hl 1 rfl) ?_
        refine gh_get C V h1R gc_Ru gi_Ru 0 (by decide) f_Ru_13 rfl rfl d_Ru_item_60 ?_
        refine gh_get C V hvsR gc_Vs gi_Vs 0 (by decide) f_Ru_54 rfl rfl d_Ru_item_63 ?_
        refine gh_reta hAe C V hr (by first | exact Or.inl ⟨_, rfl⟩ | exact Or.inr ⟨_, rfl⟩) (by first | exact Or.inl rfl | exact Or.inr ⟨_, rfl⟩) hlocks d_Ru_item_66 (by first | decide | omega | (dsimp only; omega)) (by first | decide | omega | (dsimp only; omega)) ?_
        have hpl : sr_pl (vt_c X) bt = none := by unfold sr_pl; rw [if_neg hb8, if_neg (by omega)]
        exact ⟨by unfold sr_itm; rw [if_pos c2, hpl]; exact ⟨_, rfl, hnuR⟩, rfl⟩
      · have c10 : ¬ (vt_c X) ≤ (bt - 128) := by rw [← gq_le (a := vt_c X) (b := bt - 128) (by omega) (by omega)]; exact c10
        refine lv_aload_n hx hb d_Ru_item_50 rfl (lv_at hl 2 rfl) ?_
        refine gh_get C V h0_1 gc_Va gi_Va 4 (by decide) f_Ru_148 rfl rfl d_Ru_item_51 ?_
        refine lv_iload_n hx hb d_Ru_item_54 rfl (lv_at hl 0 rfl) ?_
        refine gn_aald (t0 := 4) (i := bt - 128) (v := (B_1 (bt - 128))) C V rfl h3_1 (by omega) (by omega) (h5_1 (bt - 128) (by omega)).1 d_Ru_item_55 ?_
        refine lv_goto (tgt := 66) hx hb d_Ru_item_56 (by decide) ?_
        refine gh_reta hAe C V hr (by first | exact Or.inl ⟨_, rfl⟩ | exact Or.inr ⟨_, rfl⟩) (by first | exact Or.inl rfl | exact Or.inr ⟨_, rfl⟩) hlocks d_Ru_item_66 (by first | decide | omega | (dsimp only; omega)) (by first | decide | omega | (dsimp only; omega)) ?_
        have hpl : sr_pl (vt_c X) bt = some (bt - 128) := by unfold sr_pl; rw [if_neg hb8, if_pos (by omega)]
        exact ⟨by unfold sr_itm; rw [if_pos c2, hpl]; exact ⟨_, rfl, cw_item hit.2 (by omega) (h5_1 (bt - 128) (by omega)).2⟩, rfl⟩
  · have c2 : ¬ (vt_k X) = 5 := by rw [← gq_eq (a := vt_k X) (b := 5) (by omega) (by omega)]; exact c2
    refine lv_aload_n hx hb d_Ru_item_8 rfl (lv_at hl 1 rfl) ?_
    refine gh_get C V h0_1 gc_Va gi_Va 0 (by decide) f_Ru_185 rfl rfl d_Ru_item_9 ?_
    refine lv_if_ne (tgt := 19) hx hb d_Ru_item_12 (by decide) (fun c11 => ?_) (fun c11 => ?_)
    · have c11 : ¬ (vt_k X) = 0 := by rw [← gq_eq (a := vt_k X) (b := 0) (by omega) (by omega)]; exact c11
      refine lv_null hx hb d_Ru_item_19 ?_
      refine gh_reta hAe C V hr (by first | exact Or.inl ⟨_, rfl⟩ | exact Or.inr ⟨_, rfl⟩) (by first | exact Or.inl rfl | exact Or.inr ⟨_, rfl⟩) hlocks d_Ru_item_20 (by first | decide | omega | (dsimp only; omega)) (by first | decide | omega | (dsimp only; omega)) ?_
      exact ⟨by unfold sr_itm; rw [if_neg c2, if_neg c11]; exact rfl, rfl⟩
    · have c11 : (vt_k X) = 0 := by rw [← gq_eq (a := vt_k X) (b := 0) (by omega) (by omega)]; exact c11
      refine lv_aload_n hx hb d_Ru_item_15 rfl (lv_at hl 1 rfl) ?_
      refine lv_goto (tgt := 20) hx hb d_Ru_item_16 (by decide) ?_
      refine gh_reta hAe C V hr (by first | exact Or.inl ⟨_, rfl⟩ | exact Or.inr ⟨_, rfl⟩) (by first | exact Or.inl rfl | exact Or.inr ⟨_, rfl⟩) hlocks d_Ru_item_20 (by first | decide | omega | (dsimp only; omega)) (by first | decide | omega | (dsimp only; omega)) ?_
      exact ⟨by unfold sr_itm; rw [if_neg c2, if_pos c11]; exact ⟨_, rfl, by have h9 := hit.triv (by omega); rw [c11] at h9; exact h9⟩, rfl⟩
theorem d_Ru_length_0 : decode b_Ru_length 0 = .ok (.aload_n 1, 1) := by decide +kernel
theorem d_Ru_length_1 : decode b_Ru_length 1 = .ok (.getfield 185, 3) := by decide +kernel
theorem d_Ru_length_4 : decode b_Ru_length 4 = .ok (.tableswitch 59 1 3 #[28, 28, 30], 28) := by decide +kernel
theorem d_Ru_length_32 : decode b_Ru_length 32 = .ok (.aconst_null, 1) := by decide +kernel
theorem d_Ru_length_33 : decode b_Ru_length 33 = .ok (.areturn, 1) := by decide +kernel
theorem d_Ru_length_34 : decode b_Ru_length 34 = .ok (.aload_n 0, 1) := by decide +kernel
theorem d_Ru_length_35 : decode b_Ru_length 35 = .ok (.getfield 13, 3) := by decide +kernel
theorem d_Ru_length_38 : decode b_Ru_length 38 = .ok (.aload_n 1, 1) := by decide +kernel
theorem d_Ru_length_39 : decode b_Ru_length 39 = .ok (.getfield 255, 3) := by decide +kernel
theorem d_Ru_length_42 : decode b_Ru_length 42 = .ok (.lconst 0, 1) := by decide +kernel
theorem d_Ru_length_43 : decode b_Ru_length 43 = .ok (.lcmp, 1) := by decide +kernel
theorem d_Ru_length_44 : decode b_Ru_length 44 = .ok (.ifCond .ge 11, 3) := by decide +kernel
theorem d_Ru_length_47 : decode b_Ru_length 47 = .ok (.aload_n 1, 1) := by decide +kernel
theorem d_Ru_length_48 : decode b_Ru_length 48 = .ok (.getfield 255, 3) := by decide +kernel
theorem d_Ru_length_51 : decode b_Ru_length 51 = .ok (.lneg, 1) := by decide +kernel
theorem d_Ru_length_52 : decode b_Ru_length 52 = .ok (.goto 7, 3) := by decide +kernel
theorem d_Ru_length_55 : decode b_Ru_length 55 = .ok (.aload_n 1, 1) := by decide +kernel
theorem d_Ru_length_56 : decode b_Ru_length 56 = .ok (.getfield 255, 3) := by decide +kernel
theorem d_Ru_length_59 : decode b_Ru_length 59 = .ok (.invokevirtual 240, 3) := by decide +kernel
theorem d_Ru_length_62 : decode b_Ru_length 62 = .ok (.areturn, 1) := by decide +kernel
theorem d_Ru_length_63 : decode b_Ru_length 63 = .ok (.aload_n 0, 1) := by decide +kernel
theorem d_Ru_length_64 : decode b_Ru_length 64 = .ok (.getfield 13, 3) := by decide +kernel
theorem d_Ru_length_67 : decode b_Ru_length 67 = .ok (.aload_n 1, 1) := by decide +kernel
theorem d_Ru_length_68 : decode b_Ru_length 68 = .ok (.invokevirtual 258, 3) := by decide +kernel
theorem d_Ru_length_71 : decode b_Ru_length 71 = .ok (.i2l, 1) := by decide +kernel
theorem d_Ru_length_72 : decode b_Ru_length 72 = .ok (.invokevirtual 240, 3) := by decide +kernel
theorem d_Ru_length_75 : decode b_Ru_length 75 = .ok (.areturn, 1) := by decide +kernel
set_option maxHeartbeats 4000000 in
set_option maxRecDepth 100000 in
theorem c_Ru_length (l : Launch) (E : gh_E) (sz : Nat) (f : gh_F) (ρ Z : Nat → Nat) (q0 N : Nat) (cb bg : Nat → Nat) (φ b : Nat) (s0 e0 : Int32) (it : Nat) (X : vt) (hR : rn_R E ρ Z f q0 N cb bg φ b s0 e0) (hit : cw E (rP ρ) f it X) : gh_M l y_Ru_length b_Ru_length 2 (some (.object "QueryMachine$Value")) E sz [.ref (Z 1), .ref it] f { frames := 3, cells := 1, slots := 7, locals := 100 } (fun r g => vr_A E (rP ρ) g (sr_len X) r ∧ gh_fr f g (fun b => b ∈ ([] : List Nat))) := by
  have hoX := vo_o.mp hit.2
  have hk6 := hoX.1
  have hc16 := hoX.2.2.2.2.2.2.1
  have hnX := hoX.2.1
  refine gh_open (by decide) (Nat.le_of_ble_eq_true rfl) ?_
  intro p e s m args below meth c A ls hAe C V hr hlocks hname hl
  have hx := C.1
  have hb := C.2.1
  have hl : lv_has ls 2 [(0, .ref (Z 1)), (1, .ref it)] := hl
  have hRc := hR
  obtain ⟨h1R, ⟨hz, ⟨p206, p207⟩, ⟨gS, hgS, hgS2⟩, ⟨gG, hgG, hgG2⟩, hVR, hqR, hcdR, hbaR, hN60, hq0⟩, ⟨hgaV, hgaR⟩, hSR, hnon⟩ := hRc
  obtain ⟨pvsR, hvsR, hnuR, hnoR, hyeR, -⟩ := id hVR
  obtain ⟨la_1, ka_1, ia_1, gk_1, gi_1, K_1, B_1, hp_1, h0_1, h1_1, h2_1, h3_1, h4_1, h5_1⟩ := cv_o.mp hit.1
  refine lv_aload_n hx hb d_Ru_length_0 rfl (lv_at hl 1 rfl) ?_
  refine gh_get C V h0_1 gc_Va gi_Va 0 (by decide) f_Ru_185 rfl rfl d_Ru_length_1 ?_
  rcases (show vt_k X = 0 ∨ vt_k X = 1 ∨ vt_k X = 2 ∨ vt_k X = 3 ∨ vt_k X = 4 ∨ vt_k X = 5 ∨ vt_k X = 6 by omega) with hk | hk | hk | hk | hk | hk | hk
  · rw [hk]
    refine lv_tableOut (tgt := 63) hx hb d_Ru_length_4 (by decide) (by decide) ?_
    refine lv_aload_n hx hb d_Ru_length_63 rfl (lv_at hl 0 rfl) ?_
    refine gh_get C V h1R gc_Ru gi_Ru 0 (by decide) f_Ru_13 rfl rfl d_Ru_length_64 ?_
    refine lv_aload_n hx hb d_Ru_length_67 rfl (lv_at hl 1 rfl) ?_
    refine gh_callV C V hl.1 m_Va_size l_Ru_258 (c_Va_size l E _ f (rP ρ) it X hit) rfl h0_1 gc_Va ⟨by first | decide | omega | (dsimp only; omega), by first | decide | omega | (dsimp only; omega)⟩ ⟨by first | decide | omega | (dsimp only; omega), by first | decide | omega | (dsimp only; omega)⟩ (Nat.le_of_ble_eq_true rfl) rfl d_Ru_length_68 (fun r z9 H locs hp V => ?_)
    obtain ⟨rfl, he9⟩ := hp
    rw [he9] at V
    refine W.eq (g2 := F0 m 71 ls [.int (nI (vt_sz X)), .ref (Z 200)]) rfl ?_
    refine lv_i2l hx hb d_Ru_length_71 rfl ?_
    refine gh_callV C V hl.1 m_Vs_number l_Ru_240 (c_Vs_number l E _ f (rP ρ) (Z 200) (Z 201) (Z 202) (Z 203) (Z 204) (Z 205) (Z 3) ((nI (vt_sz X)).toInt64) hVR hnon) rfl hvsR gc_Vs ⟨by first | decide | omega | (dsimp only; omega), by first | decide | omega | (dsimp only; omega)⟩ ⟨by first | decide | omega | (dsimp only; omega), by first | decide | omega | (dsimp only; omega)⟩ (Nat.le_of_ble_eq_true rfl) rfl d_Ru_length_72 (fun r g2 H locs hp V => ?_)
    obtain ⟨⟨b9, rfl, hb9⟩, hfr9⟩ := hp
    refine W.eq (g2 := F0 m 75 ls [.ref b9]) rfl ?_
    refine gh_reta hAe C V hr (by first | exact Or.inl ⟨_, rfl⟩ | exact Or.inr ⟨_, rfl⟩) (by first | exact Or.inl rfl | exact Or.inr ⟨_, rfl⟩) hlocks d_Ru_length_75 (by first | decide | omega | (dsimp only; omega)) (by first | decide | omega | (dsimp only; omega)) ?_
    exact ⟨by unfold sr_len; rw [if_neg (by omega), if_neg (by omega)]; exact ⟨_, rfl, hb9⟩, hfr9⟩
  · rw [hk]
    refine lv_tableIn (off := 28) (tgt := 32) hx hb d_Ru_length_4 (by decide) (by decide) (by decide) (by decide) ?_
    refine lv_null hx hb d_Ru_length_32 ?_
    refine gh_reta hAe C V hr (by first | exact Or.inl ⟨_, rfl⟩ | exact Or.inr ⟨_, rfl⟩) (by first | exact Or.inl rfl | exact Or.inr ⟨_, rfl⟩) hlocks d_Ru_length_33 (by first | decide | omega | (dsimp only; omega)) (by first | decide | omega | (dsimp only; omega)) ?_
    exact ⟨by unfold sr_len; rw [if_pos (by omega)]; exact rfl, gh_fr.rf⟩
  · rw [hk]
    refine lv_tableIn (off := 28) (tgt := 32) hx hb d_Ru_length_4 (by decide) (by decide) (by decide) (by decide) ?_
    refine lv_null hx hb d_Ru_length_32 ?_
    refine gh_reta hAe C V hr (by first | exact Or.inl ⟨_, rfl⟩ | exact Or.inr ⟨_, rfl⟩) (by first | exact Or.inl rfl | exact Or.inr ⟨_, rfl⟩) hlocks d_Ru_length_33 (by first | decide | omega | (dsimp only; omega)) (by first | decide | omega | (dsimp only; omega)) ?_
    exact ⟨by unfold sr_len; rw [if_pos (by omega)]; exact rfl, gh_fr.rf⟩
  · rw [hk]
    refine lv_tableIn (off := 30) (tgt := 34) hx hb d_Ru_length_4 (by decide) (by decide) (by decide) (by decide) ?_
    refine lv_aload_n hx hb d_Ru_length_34 rfl (lv_at hl 0 rfl) ?_
    refine gh_get C V h1R gc_Ru gi_Ru 0 (by decide) f_Ru_13 rfl rfl d_Ru_length_35 ?_
    refine lv_aload_n hx hb d_Ru_length_38 rfl (lv_at hl 1 rfl) ?_
    refine gh_get C V h0_1 gc_Va gi_Va 1 (by decide) f_Ru_255 rfl rfl d_Ru_length_39 ?_
    refine lv_lconst (v := 0) hx hb d_Ru_length_42 (by decide) ?_
    refine W.lcmp hx hb d_Ru_length_43 ?_
    refine lv_if_ge (tgt := 55) hx hb d_Ru_length_44 (by decide) (fun c3 => ?_) (fun c3 => ?_)
    · have c3 : ¬ (vt_n X) < 0 := by rw [← lg_lt]; exact lg_ge0 c3
      refine lv_aload_n hx hb d_Ru_length_55 rfl (lv_at hl 1 rfl) ?_
      refine gh_get C V h0_1 gc_Va gi_Va 1 (by decide) f_Ru_255 rfl rfl d_Ru_length_56 ?_
      refine gh_callV C V hl.1 m_Vs_number l_Ru_240 (c_Vs_number l E _ f (rP ρ) (Z 200) (Z 201) (Z 202) (Z 203) (Z 204) (Z 205) (Z 3) (vt_n X) hVR hnon) rfl hvsR gc_Vs ⟨by first | decide | omega | (dsimp only; omega), by first | decide | omega | (dsimp only; omega)⟩ ⟨by first | decide | omega | (dsimp only; omega), by first | decide | omega | (dsimp only; omega)⟩ (Nat.le_of_ble_eq_true rfl) rfl d_Ru_length_59 (fun r g4 H locs hp V => ?_)
      obtain ⟨⟨b9, rfl, hb9⟩, hfr9⟩ := hp
      refine W.eq (g2 := F0 m 62 ls [.ref b9]) rfl ?_
      refine gh_reta hAe C V hr (by first | exact Or.inl ⟨_, rfl⟩ | exact Or.inr ⟨_, rfl⟩) (by first | exact Or.inl rfl | exact Or.inr ⟨_, rfl⟩) hlocks d_Ru_length_62 (by first | decide | omega | (dsimp only; omega)) (by first | decide | omega | (dsimp only; omega)) ?_
      exact ⟨by unfold sr_len; rw [if_neg (by omega), if_pos hk, if_neg c3]; exact ⟨_, rfl, hb9⟩, hfr9⟩
    · have c3 : (vt_n X) < 0 := by rw [← lg_lt]; exact lg_lt0 c3
      refine lv_aload_n hx hb d_Ru_length_47 rfl (lv_at hl 1 rfl) ?_
      refine gh_get C V h0_1 gc_Va gi_Va 1 (by decide) f_Ru_255 rfl rfl d_Ru_length_48 ?_
      refine lv_lneg hx hb d_Ru_length_51 ?_
      refine lv_goto (tgt := 59) hx hb d_Ru_length_52 (by decide) ?_
      refine gh_callV C V hl.1 m_Vs_number l_Ru_240 (c_Vs_number l E _ f (rP ρ) (Z 200) (Z 201) (Z 202) (Z 203) (Z 204) (Z 205) (Z 3) (-(vt_n X)) hVR hnon) rfl hvsR gc_Vs ⟨by first | decide | omega | (dsimp only; omega), by first | decide | omega | (dsimp only; omega)⟩ ⟨by first | decide | omega | (dsimp only; omega), by first | decide | omega | (dsimp only; omega)⟩ (Nat.le_of_ble_eq_true rfl) rfl d_Ru_length_59 (fun r g5 H locs hp V => ?_)
      obtain ⟨⟨b9, rfl, hb9⟩, hfr9⟩ := hp
      refine W.eq (g2 := F0 m 62 ls [.ref b9]) rfl ?_
      refine gh_reta hAe C V hr (by first | exact Or.inl ⟨_, rfl⟩ | exact Or.inr ⟨_, rfl⟩) (by first | exact Or.inl rfl | exact Or.inr ⟨_, rfl⟩) hlocks d_Ru_length_62 (by first | decide | omega | (dsimp only; omega)) (by first | decide | omega | (dsimp only; omega)) ?_
      exact ⟨by unfold sr_len; rw [if_neg (by omega), if_pos hk, if_pos c3]; exact ⟨_, rfl, hb9⟩, hfr9⟩
  · rw [hk]
    refine lv_tableOut (tgt := 63) hx hb d_Ru_length_4 (by decide) (by decide) ?_
    refine lv_aload_n hx hb d_Ru_length_63 rfl (lv_at hl 0 rfl) ?_
    refine gh_get C V h1R gc_Ru gi_Ru 0 (by decide) f_Ru_13 rfl rfl d_Ru_length_64 ?_
    refine lv_aload_n hx hb d_Ru_length_67 rfl (lv_at hl 1 rfl) ?_
    refine gh_callV C V hl.1 m_Va_size l_Ru_258 (c_Va_size l E _ f (rP ρ) it X hit) rfl h0_1 gc_Va ⟨by first | decide | omega | (dsimp only; omega), by first | decide | omega | (dsimp only; omega)⟩ ⟨by first | decide | omega | (dsimp only; omega), by first | decide | omega | (dsimp only; omega)⟩ (Nat.le_of_ble_eq_true rfl) rfl d_Ru_length_68 (fun r z9 H locs hp V => ?_)
    obtain ⟨rfl, he9⟩ := hp
    rw [he9] at V
    refine W.eq (g2 := F0 m 71 ls [.int (nI (vt_sz X)), .ref (Z 200)]) rfl ?_
    refine lv_i2l hx hb d_Ru_length_71 rfl ?_
    refine gh_callV C V hl.1 m_Vs_number l_Ru_240 (c_Vs_number l E _ f (rP ρ) (Z 200) (Z 201) (Z 202) (Z 203) (Z 204) (Z 205) (Z 3) ((nI (vt_sz X)).toInt64) hVR hnon) rfl hvsR gc_Vs ⟨by first | decide | omega | (dsimp only; omega), by first | decide | omega | (dsimp only; omega)⟩ ⟨by first | decide | omega | (dsimp only; omega), by first | decide | omega | (dsimp only; omega)⟩ (Nat.le_of_ble_eq_true rfl) rfl d_Ru_length_72 (fun r g6 H locs hp V => ?_)
    obtain ⟨⟨b9, rfl, hb9⟩, hfr9⟩ := hp
    refine W.eq (g2 := F0 m 75 ls [.ref b9]) rfl ?_
    refine gh_reta hAe C V hr (by first | exact Or.inl ⟨_, rfl⟩ | exact Or.inr ⟨_, rfl⟩) (by first | exact Or.inl rfl | exact Or.inr ⟨_, rfl⟩) hlocks d_Ru_length_75 (by first | decide | omega | (dsimp only; omega)) (by first | decide | omega | (dsimp only; omega)) ?_
    exact ⟨by unfold sr_len; rw [if_neg (by omega), if_neg (by omega)]; exact ⟨_, rfl, hb9⟩, hfr9⟩
  · rw [hk]
    refine lv_tableOut (tgt := 63) hx hb d_Ru_length_4 (by decide) (by decide) ?_
    refine lv_aload_n hx hb d_Ru_length_63 rfl (lv_at hl 0 rfl) ?_
    refine gh_get C V h1R gc_Ru gi_Ru 0 (by decide) f_Ru_13 rfl rfl d_Ru_length_64 ?_
    refine lv_aload_n hx hb d_Ru_length_67 rfl (lv_at hl 1 rfl) ?_
    refine gh_callV C V hl.1 m_Va_size l_Ru_258 (c_Va_size l E _ f (rP ρ) it X hit) rfl h0_1 gc_Va ⟨by first | decide | omega | (dsimp only; omega), by first | decide | omega | (dsimp only; omega)⟩ ⟨by first | decide | omega | (dsimp only; omega), by first | decide | omega | (dsimp only; omega)⟩ (Nat.le_of_ble_eq_true rfl) rfl d_Ru_length_68 (fun r z9 H locs hp V => ?_)
    obtain ⟨rfl, he9⟩ := hp
    rw [he9] at V
    refine W.eq (g2 := F0 m 71 ls [.int (nI (vt_sz X)), .ref (Z 200)]) rfl ?_
    refine lv_i2l hx hb d_Ru_length_71 rfl ?_
    refine gh_callV C V hl.1 m_Vs_number l_Ru_240 (c_Vs_number l E _ f (rP ρ) (Z 200) (Z 201) (Z 202) (Z 203) (Z 204) (Z 205) (Z 3) ((nI (vt_sz X)).toInt64) hVR hnon) rfl hvsR gc_Vs ⟨by first | decide | omega | (dsimp only; omega), by first | decide | omega | (dsimp only; omega)⟩ ⟨by first | decide | omega | (dsimp only; omega), by first | decide | omega | (dsimp only; omega)⟩ (Nat.le_of_ble_eq_true rfl) rfl d_Ru_length_72 (fun r g7 H locs hp V => ?_)
    obtain ⟨⟨b9, rfl, hb9⟩, hfr9⟩ := hp
    refine W.eq (g2 := F0 m 75 ls [.ref b9]) rfl ?_
    refine gh_reta hAe C V hr (by first | exact Or.inl ⟨_, rfl⟩ | exact Or.inr ⟨_, rfl⟩) (by first | exact Or.inl rfl | exact Or.inr ⟨_, rfl⟩) hlocks d_Ru_length_75 (by first | decide | omega | (dsimp only; omega)) (by first | decide | omega | (dsimp only; omega)) ?_
    exact ⟨by unfold sr_len; rw [if_neg (by omega), if_neg (by omega)]; exact ⟨_, rfl, hb9⟩, hfr9⟩
  · rw [hk]
    refine lv_tableOut (tgt := 63) hx hb d_Ru_length_4 (by decide) (by decide) ?_
    refine lv_aload_n hx hb d_Ru_length_63 rfl (lv_at hl 0 rfl) ?_
    refine gh_get C V h1R gc_Ru gi_Ru 0 (by decide) f_Ru_13 rfl rfl d_Ru_length_64 ?_
    refine lv_aload_n hx hb d_Ru_length_67 rfl (lv_at hl 1 rfl) ?_
    refine gh_callV C V hl.1 m_Va_size l_Ru_258 (c_Va_size l E _ f (rP ρ) it X hit) rfl h0_1 gc_Va ⟨by first | decide | omega | (dsimp only; omega), by first | decide | omega | (dsimp only; omega)⟩ ⟨by first | decide | omega | (dsimp only; omega), by first | decide | omega | (dsimp only; omega)⟩ (Nat.le_of_ble_eq_true rfl) rfl d_Ru_length_68 (fun r z9 H locs hp V => ?_)
    obtain ⟨rfl, he9⟩ := hp
    rw [he9] at V
    refine W.eq (g2 := F0 m 71 ls [.int (nI (vt_sz X)), .ref (Z 200)]) rfl ?_
    refine lv_i2l hx hb d_Ru_length_71 rfl ?_
    refine gh_callV C V hl.1 m_Vs_number l_Ru_240 (c_Vs_number l E _ f (rP ρ) (Z 200) (Z 201) (Z 202) (Z 203) (Z 204) (Z 205) (Z 3) ((nI (vt_sz X)).toInt64) hVR hnon) rfl hvsR gc_Vs ⟨by first | decide | omega | (dsimp only; omega), by first | decide | omega | (dsimp only; omega)⟩ ⟨by first | decide | omega | (dsimp only; omega), by first | decide | omega | (dsimp only; omega)⟩ (Nat.le_of_ble_eq_true rfl) rfl d_Ru_length_72 (fun r g8 H locs hp V => ?_)
    obtain ⟨⟨b9, rfl, hb9⟩, hfr9⟩ := hp
    refine W.eq (g2 := F0 m 75 ls [.ref b9]) rfl ?_
    refine gh_reta hAe C V hr (by first | exact Or.inl ⟨_, rfl⟩ | exact Or.inr ⟨_, rfl⟩) (by first | exact Or.inl rfl | exact Or.inr ⟨_, rfl⟩) hlocks d_Ru_length_75 (by first | decide | omega | (dsimp only; omega)) (by first | decide | omega | (dsimp only; omega)) ?_
    exact ⟨by unfold sr_len; rw [if_neg (by omega), if_neg (by omega)]; exact ⟨_, rfl, hb9⟩, hfr9⟩
