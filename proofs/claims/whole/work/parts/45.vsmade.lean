/-! The methods of Values that make lists and objects. Printed by wip/whole/gen_vs3.py. -/
theorem d_Vs_list_0 : decode b_Vs_list 0 = .ok (.new 7, 3) := by decide +kernel
theorem d_Vs_list_3 : decode b_Vs_list 3 = .ok (.dup, 1) := by decide +kernel
theorem d_Vs_list_4 : decode b_Vs_list 4 = .ok (.iconst 5, 1) := by decide +kernel
theorem d_Vs_list_5 : decode b_Vs_list 5 = .ok (.lconst 0, 1) := by decide +kernel
theorem d_Vs_list_6 : decode b_Vs_list 6 = .ok (.getstatic 15, 3) := by decide +kernel
theorem d_Vs_list_9 : decode b_Vs_list 9 = .ok (.aload_n 0, 1) := by decide +kernel
theorem d_Vs_list_10 : decode b_Vs_list 10 = .ok (.getfield 9, 3) := by decide +kernel
theorem d_Vs_list_13 : decode b_Vs_list 13 = .ok (.aload_n 0, 1) := by decide +kernel
theorem d_Vs_list_14 : decode b_Vs_list 14 = .ok (.aload_n 1, 1) := by decide +kernel
theorem d_Vs_list_15 : decode b_Vs_list 15 = .ok (.getfield 44, 3) := by decide +kernel
theorem d_Vs_list_18 : decode b_Vs_list 18 = .ok (.aload_n 1, 1) := by decide +kernel
theorem d_Vs_list_19 : decode b_Vs_list 19 = .ok (.getfield 47, 3) := by decide +kernel
theorem d_Vs_list_22 : decode b_Vs_list 22 = .ok (.invokevirtual 51, 3) := by decide +kernel
theorem d_Vs_list_25 : decode b_Vs_list 25 = .ok (.invokespecial 19, 3) := by decide +kernel
theorem d_Vs_list_28 : decode b_Vs_list 28 = .ok (.astore_n 2, 1) := by decide +kernel
theorem d_Vs_list_29 : decode b_Vs_list 29 = .ok (.aload_n 2, 1) := by decide +kernel
theorem d_Vs_list_30 : decode b_Vs_list 30 = .ok (.invokevirtual 55, 3) := by decide +kernel
theorem d_Vs_list_33 : decode b_Vs_list 33 = .ok (.ifCond .eq 7, 3) := by decide +kernel
theorem d_Vs_list_36 : decode b_Vs_list 36 = .ok (.aload_n 2, 1) := by decide +kernel
theorem d_Vs_list_37 : decode b_Vs_list 37 = .ok (.goto 4, 3) := by decide +kernel
theorem d_Vs_list_40 : decode b_Vs_list 40 = .ok (.aconst_null, 1) := by decide +kernel
theorem d_Vs_list_41 : decode b_Vs_list 41 = .ok (.areturn, 1) := by decide +kernel
set_option maxHeartbeats 4000000 in
set_option maxRecDepth 100000 in
theorem c_Vs_list (l : Launch) (E : gh_E) (sz : Nat) (f : gh_F) (P : Nat → Prop) (vs nu no ye ni al ga : Nat) (a k i : Nat) (ks : List (List Int32)) (xs : List vt) (hV : vs_C E P f vs nu no ye ni al ga) (hP : ∀ q, f q = none → P q) (hg : ga_R E P f a k i ks xs) : gh_M l y_Vs_list b_Vs_list 3 (some (.object "QueryMachine$Value")) E sz [.ref vs, .ref a] f { frames := 2, cells := 2, slots := 23, locals := 60 } (fun r g => vr_A E P g (vt_mk 5 [] xs) r ∧ gh_fr f g (fun b => b ∈ ([] : List Nat))) := by
  have hVc := hV
  obtain ⟨⟨pvs, pni, pal⟩, hvs, hnu, hno, hye, ⟨g0, hni⟩, g1, X1, hal, hX1⟩ := hVc
  have hgc := hg
  obtain ⟨hpa, hne, gk, gi, K, B, haa, hka, hia, hx16, hkx, h6, h7⟩ := hgc
  obtain ⟨hlw, hlh, hl1⟩ := ga_lim hx16 (fun j hj => (h7 j hj).2)
  refine gh_open (by decide) (Nat.le_of_ble_eq_true rfl) ?_
  intro p e s m args below meth c A ls hAe C V hr hlocks hname hl
  have hx := C.1
  have hb := C.2.1
  have hl : lv_has ls 3 [(0, .ref vs), (1, .ref a)] := hl
  have hfr : gh_fr f f (fun b => b ∈ ([] : List Nat)) := gh_fr.rf
  refine gh_new (fs := [.int 0, .long 0, .null, .null, .null, .int 0, .int 0]) C V gc_Va gi_Va ty_Va k_Vs_7 n_Va i_Va (by decide) (by first | decide | omega | (dsimp only; omega)) (by first | decide | omega | (dsimp only; omega)) d_Vs_list_0 (fun q1 H hnq1 V => ?_)
  obtain ⟨f2, hff2⟩ : ∃ z9 : gh_F, z9 = gh_u f q1 (.inr (6, [.int 0, .long 0, .null, .null, .null, .int 0, .int 0])) := ⟨_, rfl⟩
  have V : gh_V E A f2 s H [] := by rw [hff2]; exact V
  have nz_q1 : f q1 = none := hfr.non hnq1
  have hfr : gh_fr f f2 (fun b => b ∈ ([] : List Nat)) := by rw [hff2]; exact hfr.put (Or.inr nz_q1)
  have ne_vs_q1 : vs ≠ q1 := gh_ne0 hvs hnq1
  have h_vs_f2 : f2 vs = some (.inr (7, [.ref nu, .ref no, .ref ye, .ref ni, .ref al, .ref ga])) := by rw [hff2, gh_un ne_vs_q1]; exact hvs
  have ne_ni_q1 : ni ≠ q1 := gh_ne0 hni hnq1
  have h_ni_f2 : f2 ni = some (.inl (E.2.2.1 4, 0, .inr (.inr (.inr (.inr g0))))) := by rw [hff2, gh_un ne_ni_q1]; exact hni
  have ne_a_q1 : a ≠ q1 := gh_ne0 haa hnq1
  have h_a_f2 : f2 a = some (.inr (1, [.ref k, .ref i, .int (nI (xs.length))])) := by rw [hff2, gh_un ne_a_q1]; exact haa
  have ne_k_q1 : k ≠ q1 := gh_ne0 hka hnq1
  have h_k_f2 : f2 k = some (.inl (E.2.2.1 4, 16, .inr (.inr (.inr (.inr gk))))) := by rw [hff2, gh_un ne_k_q1]; exact hka
  have ne_i_q1 : i ≠ q1 := gh_ne0 hia hnq1
  have h_i_f2 : f2 i = some (.inl (E.2.2.1 4, 16, .inr (.inr (.inr (.inr gi))))) := by rw [hff2, gh_un ne_i_q1]; exact hia
  have h_q1_f2 : f2 q1 = some (.inr (6, [.int 0, .long 0, .null, .null, .null, .int 0, .int 0])) := by rw [hff2, gh_us]
  refine lv_dup hx hb d_Vs_list_3 rfl ?_
  refine lv_iconst (v := 5) hx hb d_Vs_list_4 (by decide) ?_
  refine lv_lconst (v := 0) hx hb d_Vs_list_5 (by decide) ?_
  refine gh_nolet C V f_Vs_15 d_Vs_list_6 ?_
  refine lv_aload_n hx hb d_Vs_list_9 rfl (lv_at hl 0 rfl) ?_
  refine gh_get C V h_vs_f2 gc_Vs gi_Vs 3 (by decide) f_Vs_9 rfl rfl d_Vs_list_10 ?_
  refine lv_aload_n hx hb d_Vs_list_13 rfl (lv_at hl 0 rfl) ?_
  refine lv_aload_n hx hb d_Vs_list_14 rfl (lv_at hl 1 rfl) ?_
  refine gh_get C V h_a_f2 gc_Ga gi_Ga 1 (by decide) f_Vs_44 rfl rfl d_Vs_list_15 ?_
  refine lv_aload_n hx hb d_Vs_list_18 rfl (lv_at hl 1 rfl) ?_
  refine gh_get C V h_a_f2 gc_Ga gi_Ga 2 (by decide) f_Vs_47 rfl rfl d_Vs_list_19 ?_
  have hV2 := hV.keep hfr (fun _ z => absurd z (by simp))
  refine gh_callV C V hl.1 m_Vs_firstOf l_Vs_51 (c_Vs_firstOf l E _ f2 P vs nu no ye ni al ga i xs.length gi B hV2 (fun q h => hP q (hfr.non h)) h_i_f2 hx16 (fun j hj => ⟨(h7 j (by omega)).1, ((h7 j (by omega)).2.keep hfr (fun _ z => absurd z (by simp))).cell⟩)) rfl h_vs_f2 gc_Vs ⟨by first | decide | omega | (dsimp only; omega), by first | decide | omega | (dsimp only; omega)⟩ ⟨by first | decide | omega | (dsimp only; omega), by first | decide | omega | (dsimp only; omega)⟩ (Nat.le_of_ble_eq_true rfl) rfl d_Vs_list_22 (fun r f3 H locs hp V => ?_)
  obtain ⟨ia, gix, rfl, hAi, hgix, pia, hfr2⟩ := hp
  refine W.eq (g2 := F0 m 25 ls [.ref ia, .ref ni, .ref (E.2.2.2 1), .long 0, .int 5, .ref q1, .ref q1]) rfl ?_
  have h_vs_f3 : f3 vs = some (.inr (7, [.ref nu, .ref no, .ref ye, .ref ni, .ref al, .ref ga])) := hfr2.at h_vs_f2 (by simp)
  have h_ni_f3 : f3 ni = some (.inl (E.2.2.1 4, 0, .inr (.inr (.inr (.inr g0))))) := hfr2.at h_ni_f2 (by simp)
  have h_a_f3 : f3 a = some (.inr (1, [.ref k, .ref i, .int (nI (xs.length))])) := hfr2.at h_a_f2 (by simp)
  have h_k_f3 : f3 k = some (.inl (E.2.2.1 4, 16, .inr (.inr (.inr (.inr gk))))) := hfr2.at h_k_f2 (by simp)
  have h_i_f3 : f3 i = some (.inl (E.2.2.1 4, 16, .inr (.inr (.inr (.inr gi))))) := hfr2.at h_i_f2 (by simp)
  have h_q1_f3 : f3 q1 = some (.inr (6, [.int 0, .long 0, .null, .null, .null, .int 0, .int 0])) := hfr2.at h_q1_f2 (by simp)
  have hfr : gh_fr f f3 (fun b => b ∈ ([] : List Nat)) := hfr.tr hfr2 (fun _ _ _ z => absurd z (by simp))
  have hia_ := hAi
  refine gh_callI C V hl.1 m_Va_init l_Vs_19 (c_Va_init l E _ f3 q1 5 0 (E.2.2.2 1) ni ia xs.length gix B (fun j => nI (vt_w (xs.getD j (vt_0 0)))) (fun j => nI (vt_h (xs.getD j (vt_0 0)))) h_q1_f3 hia_ (by omega) (cw_hv hfr (fun _ z => absurd z (by simp)) hgix (fun j hj => (h7 j hj).2) nz_q1)) rfl ⟨by first | decide | omega | (dsimp only; omega), by first | decide | omega | (dsimp only; omega)⟩ ⟨by first | decide | omega | (dsimp only; omega), by first | decide | omega | (dsimp only; omega)⟩ (Nat.le_of_ble_eq_true rfl) rfl d_Vs_list_25 (fun r f4 H locs hp V => ?_)
  obtain ⟨rfl, hq9, hfr2⟩ := hp
  rw [va_wsN, va_hsN hl1] at hq9
  refine W.eq (g2 := F0 m 28 ls [.ref q1]) rfl ?_
  have h_vs_f4 : f4 vs = some (.inr (7, [.ref nu, .ref no, .ref ye, .ref ni, .ref al, .ref ga])) := hfr2.at1 h_vs_f3 (gh_nek h_vs_f3 h_q1_f3 (show (7 : Nat) ≠ 6 by decide))
  have h_ni_f4 : f4 ni = some (.inl (E.2.2.1 4, 0, .inr (.inr (.inr (.inr g0))))) := hfr2.at1 h_ni_f3 (gh_nek h_ni_f3 h_q1_f3 (show (100 : Nat) ≠ 6 by decide))
  have h_a_f4 : f4 a = some (.inr (1, [.ref k, .ref i, .int (nI (xs.length))])) := hfr2.at1 h_a_f3 (gh_nek h_a_f3 h_q1_f3 (show (1 : Nat) ≠ 6 by decide))
  have h_k_f4 : f4 k = some (.inl (E.2.2.1 4, 16, .inr (.inr (.inr (.inr gk))))) := hfr2.at1 h_k_f3 (gh_nek h_k_f3 h_q1_f3 (show (100 : Nat) ≠ 6 by decide))
  have h_i_f4 : f4 i = some (.inl (E.2.2.1 4, 16, .inr (.inr (.inr (.inr gi))))) := hfr2.at1 h_i_f3 (gh_nek h_i_f3 h_q1_f3 (show (100 : Nat) ≠ 6 by decide))
  have h_ia_f4 : f4 ia = some (.inl (E.2.2.1 4, xs.length, .inr (.inr (.inr (.inr gix))))) := hfr2.at1 hAi (gh_nek hAi h_q1_f3 (show (100 : Nat) ≠ 6 by decide))
  have hfr : gh_fr f f4 (fun b => b ∈ ([] : List Nat)) := hfr.tr1 hfr2 (Or.inr nz_q1)
  refine lv_astore_n hx hb d_Vs_list_28 rfl hl (by decide) rfl (fun ls hl => ?_)
  have hl : lv_has ls 3 [(2, .ref q1), (0, .ref vs), (1, .ref a)] := hl
  refine lv_aload_n hx hb d_Vs_list_29 rfl (lv_at hl 0 rfl) ?_
  refine gh_callV C V hl.1 m_Va_isWithinLimits l_Vs_55 (c_Va_isWithinLimits l E _ f4 q1 (vt_wsum xs) (vt_hmax xs) _ _ _ _ _ hq9 hlw hlh) rfl hq9 gc_Va ⟨by first | decide | omega | (dsimp only; omega), by first | decide | omega | (dsimp only; omega)⟩ ⟨by first | decide | omega | (dsimp only; omega), by first | decide | omega | (dsimp only; omega)⟩ (Nat.le_of_ble_eq_true rfl) rfl d_Vs_list_30 (fun r f5 H locs hp V => ?_)
  obtain ⟨rfl, he9⟩ := hp
  rw [he9] at V
  refine W.eq (g2 := F0 m 33 ls [.int (gh_bi (decide (vt_wsum xs ≤ 100) && decide (vt_hmax xs ≤ 7)))]) rfl ?_
  refine lv_if_eq (tgt := 40) hx hb d_Vs_list_33 (by decide) (fun c6 => ?_) (fun c6 => ?_)
  · have c6 : (decide (vt_wsum xs ≤ 100) && decide (vt_hmax xs ≤ 7)) = false := gh_bi_0 c6
    refine lv_null hx hb d_Vs_list_40 ?_
    refine gh_reta hAe C V hr (by first | exact Or.inl ⟨_, rfl⟩ | exact Or.inr ⟨_, rfl⟩) (by first | exact Or.inl rfl | exact Or.inr ⟨_, rfl⟩) hlocks d_Vs_list_41 (by first | decide | omega | (dsimp only; omega)) (by first | decide | omega | (dsimp only; omega)) ?_
    have hm : vt_mk 5 [] xs = none := by unfold vt_mk; rw [if_neg (fun z => by rw [decide_eq_true z.1, decide_eq_true z.2] at c6; cases c6)]
    rw [hm]
    exact ⟨rfl, hfr⟩
  · have c6 : (decide (vt_wsum xs ≤ 100) && decide (vt_hmax xs ≤ 7)) = true := gh_bi_1 c6
    refine lv_aload_n hx hb d_Vs_list_36 rfl (lv_at hl 0 rfl) ?_
    refine lv_goto (tgt := 41) hx hb d_Vs_list_37 (by decide) ?_
    refine gh_reta hAe C V hr (by first | exact Or.inl ⟨_, rfl⟩ | exact Or.inr ⟨_, rfl⟩) (by first | exact Or.inl rfl | exact Or.inr ⟨_, rfl⟩) hlocks d_Vs_list_41 (by first | decide | omega | (dsimp only; omega)) (by first | decide | omega | (dsimp only; omega)) ?_
    have hc9 : vt_wsum xs ≤ 100 ∧ vt_hmax xs ≤ 7 := by simpa using c6
    have hm : vt_mk 5 [] xs = some (vt_m 5 [] xs) := by unfold vt_mk; rw [if_pos hc9]
    rw [hm]
    exact ⟨⟨q1, rfl, cw_made (K := fun _ => 0) (Or.inl ⟨rfl, rfl⟩) ⟨hP _ nz_q1, pni, pia⟩ hq9 h_ni_f4 h_ia_f4 (fun j hj => absurd hj (Nat.not_lt_zero j)) (fun j hj => ⟨hgix j hj, (h7 j hj).2.keep hfr (fun _ z => absurd z (by simp))⟩) hx16 hc9.1 hc9.2⟩, hfr⟩
theorem d_Vs_object_0 : decode b_Vs_object 0 = .ok (.aload_n 0, 1) := by decide +kernel
theorem d_Vs_object_1 : decode b_Vs_object 1 = .ok (.aload_n 1, 1) := by decide +kernel
theorem d_Vs_object_2 : decode b_Vs_object 2 = .ok (.getfield 59, 3) := by decide +kernel
theorem d_Vs_object_5 : decode b_Vs_object 5 = .ok (.aload_n 1, 1) := by decide +kernel
theorem d_Vs_object_6 : decode b_Vs_object 6 = .ok (.getfield 47, 3) := by decide +kernel
theorem d_Vs_object_9 : decode b_Vs_object 9 = .ok (.invokevirtual 51, 3) := by decide +kernel
theorem d_Vs_object_12 : decode b_Vs_object 12 = .ok (.astore_n 2, 1) := by decide +kernel
theorem d_Vs_object_13 : decode b_Vs_object 13 = .ok (.new 7, 3) := by decide +kernel
theorem d_Vs_object_16 : decode b_Vs_object 16 = .ok (.dup, 1) := by decide +kernel
theorem d_Vs_object_17 : decode b_Vs_object 17 = .ok (.bipush 6, 2) := by decide +kernel
theorem d_Vs_object_19 : decode b_Vs_object 19 = .ok (.lconst 0, 1) := by decide +kernel
theorem d_Vs_object_20 : decode b_Vs_object 20 = .ok (.getstatic 15, 3) := by decide +kernel
theorem d_Vs_object_23 : decode b_Vs_object 23 = .ok (.aload_n 2, 1) := by decide +kernel
theorem d_Vs_object_24 : decode b_Vs_object 24 = .ok (.aload_n 0, 1) := by decide +kernel
theorem d_Vs_object_25 : decode b_Vs_object 25 = .ok (.aload_n 1, 1) := by decide +kernel
theorem d_Vs_object_26 : decode b_Vs_object 26 = .ok (.getfield 44, 3) := by decide +kernel
theorem d_Vs_object_29 : decode b_Vs_object 29 = .ok (.aload_n 1, 1) := by decide +kernel
theorem d_Vs_object_30 : decode b_Vs_object 30 = .ok (.getfield 47, 3) := by decide +kernel
theorem d_Vs_object_33 : decode b_Vs_object 33 = .ok (.invokevirtual 51, 3) := by decide +kernel
theorem d_Vs_object_36 : decode b_Vs_object 36 = .ok (.invokespecial 19, 3) := by decide +kernel
theorem d_Vs_object_39 : decode b_Vs_object 39 = .ok (.astore_n 3, 1) := by decide +kernel
theorem d_Vs_object_40 : decode b_Vs_object 40 = .ok (.aload_n 3, 1) := by decide +kernel
theorem d_Vs_object_41 : decode b_Vs_object 41 = .ok (.invokevirtual 55, 3) := by decide +kernel
theorem d_Vs_object_44 : decode b_Vs_object 44 = .ok (.ifCond .eq 7, 3) := by decide +kernel
theorem d_Vs_object_47 : decode b_Vs_object 47 = .ok (.aload_n 3, 1) := by decide +kernel
theorem d_Vs_object_48 : decode b_Vs_object 48 = .ok (.goto 4, 3) := by decide +kernel
theorem d_Vs_object_51 : decode b_Vs_object 51 = .ok (.aconst_null, 1) := by decide +kernel
theorem d_Vs_object_52 : decode b_Vs_object 52 = .ok (.areturn, 1) := by decide +kernel
set_option maxHeartbeats 4000000 in
set_option maxRecDepth 100000 in
theorem c_Vs_object (l : Launch) (E : gh_E) (sz : Nat) (f : gh_F) (P : Nat → Prop) (vs nu no ye ni al ga : Nat) (a k i : Nat) (ks : List (List Int32)) (xs : List vt) (hV : vs_C E P f vs nu no ye ni al ga) (hP : ∀ q, f q = none → P q) (hg : ga_R E P f a k i ks xs) (hkl : ks.length = xs.length) : gh_M l y_Vs_object b_Vs_object 4 (some (.object "QueryMachine$Value")) E sz [.ref vs, .ref a] f { frames := 2, cells := 3, slots := 39, locals := 60 } (fun r g => vr_A E P g (vt_mk 6 ks xs) r ∧ gh_fr f g (fun b => b ∈ ([] : List Nat))) := by
  have hVc := hV
  obtain ⟨⟨pvs, pni, pal⟩, hvs, hnu, hno, hye, ⟨g0, hni⟩, g1, X1, hal, hX1⟩ := hVc
  have hgc := hg
  obtain ⟨hpa, hne, gk, gi, K, B, haa, hka, hia, hx16, hkx, h6, h7⟩ := hgc
  obtain ⟨hlw, hlh, hl1⟩ := ga_lim hx16 (fun j hj => (h7 j hj).2)
  refine gh_open (by decide) (Nat.le_of_ble_eq_true rfl) ?_
  intro p e s m args below meth c A ls hAe C V hr hlocks hname hl
  have hx := C.1
  have hb := C.2.1
  have hl : lv_has ls 4 [(0, .ref vs), (1, .ref a)] := hl
  have hfr : gh_fr f f (fun b => b ∈ ([] : List Nat)) := gh_fr.rf
  refine lv_aload_n hx hb d_Vs_object_0 rfl (lv_at hl 0 rfl) ?_
  refine lv_aload_n hx hb d_Vs_object_1 rfl (lv_at hl 1 rfl) ?_
  refine gh_get C V haa gc_Ga gi_Ga 0 (by decide) f_Vs_59 rfl rfl d_Vs_object_2 ?_
  refine lv_aload_n hx hb d_Vs_object_5 rfl (lv_at hl 1 rfl) ?_
  refine gh_get C V haa gc_Ga gi_Ga 2 (by decide) f_Vs_47 rfl rfl d_Vs_object_6 ?_
  have hV2 := hV.keep hfr (fun _ z => absurd z (by simp))
  refine gh_callV C V hl.1 m_Vs_firstOf l_Vs_51 (c_Vs_firstOf l E _ f P vs nu no ye ni al ga k xs.length gk K hV2 (fun q h => hP q (hfr.non h)) hka hx16 (fun j hj => ⟨(h6 j (by omega)).1, ((h6 j (by omega)).2.1.keep hfr (fun _ z => absurd z (by simp))).cell⟩)) rfl hvs gc_Vs ⟨by first | decide | omega | (dsimp only; omega), by first | decide | omega | (dsimp only; omega)⟩ ⟨by first | decide | omega | (dsimp only; omega), by first | decide | omega | (dsimp only; omega)⟩ (Nat.le_of_ble_eq_true rfl) rfl d_Vs_object_9 (fun r f1 H locs hp V => ?_)
  obtain ⟨ka, gkx, rfl, hAk, hgkx, pka, hfr2⟩ := hp
  refine W.eq (g2 := F0 m 12 ls [.ref ka]) rfl ?_
  have h_vs_f1 : f1 vs = some (.inr (7, [.ref nu, .ref no, .ref ye, .ref ni, .ref al, .ref ga])) := hfr2.at hvs (by simp)
  have h_ni_f1 : f1 ni = some (.inl (E.2.2.1 4, 0, .inr (.inr (.inr (.inr g0))))) := hfr2.at hni (by simp)
  have h_a_f1 : f1 a = some (.inr (1, [.ref k, .ref i, .int (nI (xs.length))])) := hfr2.at haa (by simp)
  have h_k_f1 : f1 k = some (.inl (E.2.2.1 4, 16, .inr (.inr (.inr (.inr gk))))) := hfr2.at hka (by simp)
  have h_i_f1 : f1 i = some (.inl (E.2.2.1 4, 16, .inr (.inr (.inr (.inr gi))))) := hfr2.at hia (by simp)
  have hfr : gh_fr f f1 (fun b => b ∈ ([] : List Nat)) := hfr.tr hfr2 (fun _ _ _ z => absurd z (by simp))
  refine lv_astore_n hx hb d_Vs_object_12 rfl hl (by decide) rfl (fun ls hl => ?_)
  have hl : lv_has ls 4 [(2, .ref ka), (0, .ref vs), (1, .ref a)] := hl
  refine gh_new (fs := [.int 0, .long 0, .null, .null, .null, .int 0, .int 0]) C V gc_Va gi_Va ty_Va k_Vs_7 n_Va i_Va (by decide) (by first | decide | omega | (dsimp only; omega)) (by first | decide | omega | (dsimp only; omega)) d_Vs_object_13 (fun q2 H hnq2 V => ?_)
  obtain ⟨f3, hff3⟩ : ∃ z9 : gh_F, z9 = gh_u f1 q2 (.inr (6, [.int 0, .long 0, .null, .null, .null, .int 0, .int 0])) := ⟨_, rfl⟩
  have V : gh_V E A f3 s H locs := by rw [hff3]; exact V
  have nz_q2 : f q2 = none := hfr.non hnq2
  have hfr : gh_fr f f3 (fun b => b ∈ ([] : List Nat)) := by rw [hff3]; exact hfr.put (Or.inr nz_q2)
  have ne_vs_q2 : vs ≠ q2 := gh_ne0 h_vs_f1 hnq2
  have h_vs_f3 : f3 vs = some (.inr (7, [.ref nu, .ref no, .ref ye, .ref ni, .ref al, .ref ga])) := by rw [hff3, gh_un ne_vs_q2]; exact h_vs_f1
  have ne_ni_q2 : ni ≠ q2 := gh_ne0 h_ni_f1 hnq2
  have h_ni_f3 : f3 ni = some (.inl (E.2.2.1 4, 0, .inr (.inr (.inr (.inr g0))))) := by rw [hff3, gh_un ne_ni_q2]; exact h_ni_f1
  have ne_a_q2 : a ≠ q2 := gh_ne0 h_a_f1 hnq2
  have h_a_f3 : f3 a = some (.inr (1, [.ref k, .ref i, .int (nI (xs.length))])) := by rw [hff3, gh_un ne_a_q2]; exact h_a_f1
  have ne_k_q2 : k ≠ q2 := gh_ne0 h_k_f1 hnq2
  have h_k_f3 : f3 k = some (.inl (E.2.2.1 4, 16, .inr (.inr (.inr (.inr gk))))) := by rw [hff3, gh_un ne_k_q2]; exact h_k_f1
  have ne_i_q2 : i ≠ q2 := gh_ne0 h_i_f1 hnq2
  have h_i_f3 : f3 i = some (.inl (E.2.2.1 4, 16, .inr (.inr (.inr (.inr gi))))) := by rw [hff3, gh_un ne_i_q2]; exact h_i_f1
  have ne_ka_q2 : ka ≠ q2 := gh_ne0 hAk hnq2
  have h_ka_f3 : f3 ka = some (.inl (E.2.2.1 4, xs.length, .inr (.inr (.inr (.inr gkx))))) := by rw [hff3, gh_un ne_ka_q2]; exact hAk
  have h_q2_f3 : f3 q2 = some (.inr (6, [.int 0, .long 0, .null, .null, .null, .int 0, .int 0])) := by rw [hff3, gh_us]
  refine lv_dup hx hb d_Vs_object_16 rfl ?_
  refine lv_bipush (v := 6) hx hb d_Vs_object_17 (by decide) ?_
  refine lv_lconst (v := 0) hx hb d_Vs_object_19 (by decide) ?_
  refine gh_nolet C V f_Vs_15 d_Vs_object_20 ?_
  refine lv_aload_n hx hb d_Vs_object_23 rfl (lv_at hl 0 rfl) ?_
  refine lv_aload_n hx hb d_Vs_object_24 rfl (lv_at hl 1 rfl) ?_
  refine lv_aload_n hx hb d_Vs_object_25 rfl (lv_at hl 2 rfl) ?_
  refine gh_get C V h_a_f3 gc_Ga gi_Ga 1 (by decide) f_Vs_44 rfl rfl d_Vs_object_26 ?_
  refine lv_aload_n hx hb d_Vs_object_29 rfl (lv_at hl 2 rfl) ?_
  refine gh_get C V h_a_f3 gc_Ga gi_Ga 2 (by decide) f_Vs_47 rfl rfl d_Vs_object_30 ?_
  have hV2 := hV.keep hfr (fun _ z => absurd z (by simp))
  refine gh_callV C V hl.1 m_Vs_firstOf l_Vs_51 (c_Vs_firstOf l E _ f3 P vs nu no ye ni al ga i xs.length gi B hV2 (fun q h => hP q (hfr.non h)) h_i_f3 hx16 (fun j hj => ⟨(h7 j (by omega)).1, ((h7 j (by omega)).2.keep hfr (fun _ z => absurd z (by simp))).cell⟩)) rfl h_vs_f3 gc_Vs ⟨by first | decide | omega | (dsimp only; omega), by first | decide | omega | (dsimp only; omega)⟩ ⟨by first | decide | omega | (dsimp only; omega), by first | decide | omega | (dsimp only; omega)⟩ (Nat.le_of_ble_eq_true rfl) rfl d_Vs_object_33 (fun r f4 H locs hp V => ?_)
  obtain ⟨ia, gix, rfl, hAi, hgix, pia, hfr2⟩ := hp
  refine W.eq (g2 := F0 m 36 ls [.ref ia, .ref ka, .ref (E.2.2.2 1), .long 0, .int 6, .ref q2, .ref q2]) rfl ?_
  have h_vs_f4 : f4 vs = some (.inr (7, [.ref nu, .ref no, .ref ye, .ref ni, .ref al, .ref ga])) := hfr2.at h_vs_f3 (by simp)
  have h_ni_f4 : f4 ni = some (.inl (E.2.2.1 4, 0, .inr (.inr (.inr (.inr g0))))) := hfr2.at h_ni_f3 (by simp)
  have h_a_f4 : f4 a = some (.inr (1, [.ref k, .ref i, .int (nI (xs.length))])) := hfr2.at h_a_f3 (by simp)
  have h_k_f4 : f4 k = some (.inl (E.2.2.1 4, 16, .inr (.inr (.inr (.inr gk))))) := hfr2.at h_k_f3 (by simp)
  have h_i_f4 : f4 i = some (.inl (E.2.2.1 4, 16, .inr (.inr (.inr (.inr gi))))) := hfr2.at h_i_f3 (by simp)
  have h_ka_f4 : f4 ka = some (.inl (E.2.2.1 4, xs.length, .inr (.inr (.inr (.inr gkx))))) := hfr2.at h_ka_f3 (by simp)
  have h_q2_f4 : f4 q2 = some (.inr (6, [.int 0, .long 0, .null, .null, .null, .int 0, .int 0])) := hfr2.at h_q2_f3 (by simp)
  have hfr : gh_fr f f4 (fun b => b ∈ ([] : List Nat)) := hfr.tr hfr2 (fun _ _ _ z => absurd z (by simp))
  have hia_ := hAi
  refine gh_callI C V hl.1 m_Va_init l_Vs_19 (c_Va_init l E _ f4 q2 6 0 (E.2.2.2 1) ka ia xs.length gix B (fun j => nI (vt_w (xs.getD j (vt_0 0)))) (fun j => nI (vt_h (xs.getD j (vt_0 0)))) h_q2_f4 hia_ (by omega) (cw_hv hfr (fun _ z => absurd z (by simp)) hgix (fun j hj => (h7 j hj).2) nz_q2)) rfl ⟨by first | decide | omega | (dsimp only; omega), by first | decide | omega | (dsimp only; omega)⟩ ⟨by first | decide | omega | (dsimp only; omega), by first | decide | omega | (dsimp only; omega)⟩ (Nat.le_of_ble_eq_true rfl) rfl d_Vs_object_36 (fun r f5 H locs hp V => ?_)
  obtain ⟨rfl, hq9, hfr2⟩ := hp
  rw [va_wsN, va_hsN hl1] at hq9
  refine W.eq (g2 := F0 m 39 ls [.ref q2]) rfl ?_
  have h_vs_f5 : f5 vs = some (.inr (7, [.ref nu, .ref no, .ref ye, .ref ni, .ref al, .ref ga])) := hfr2.at1 h_vs_f4 (gh_nek h_vs_f4 h_q2_f4 (show (7 : Nat) ≠ 6 by decide))
  have h_ni_f5 : f5 ni = some (.inl (E.2.2.1 4, 0, .inr (.inr (.inr (.inr g0))))) := hfr2.at1 h_ni_f4 (gh_nek h_ni_f4 h_q2_f4 (show (100 : Nat) ≠ 6 by decide))
  have h_a_f5 : f5 a = some (.inr (1, [.ref k, .ref i, .int (nI (xs.length))])) := hfr2.at1 h_a_f4 (gh_nek h_a_f4 h_q2_f4 (show (1 : Nat) ≠ 6 by decide))
  have h_k_f5 : f5 k = some (.inl (E.2.2.1 4, 16, .inr (.inr (.inr (.inr gk))))) := hfr2.at1 h_k_f4 (gh_nek h_k_f4 h_q2_f4 (show (100 : Nat) ≠ 6 by decide))
  have h_i_f5 : f5 i = some (.inl (E.2.2.1 4, 16, .inr (.inr (.inr (.inr gi))))) := hfr2.at1 h_i_f4 (gh_nek h_i_f4 h_q2_f4 (show (100 : Nat) ≠ 6 by decide))
  have h_ka_f5 : f5 ka = some (.inl (E.2.2.1 4, xs.length, .inr (.inr (.inr (.inr gkx))))) := hfr2.at1 h_ka_f4 (gh_nek h_ka_f4 h_q2_f4 (show (100 : Nat) ≠ 6 by decide))
  have h_ia_f5 : f5 ia = some (.inl (E.2.2.1 4, xs.length, .inr (.inr (.inr (.inr gix))))) := hfr2.at1 hAi (gh_nek hAi h_q2_f4 (show (100 : Nat) ≠ 6 by decide))
  have hfr : gh_fr f f5 (fun b => b ∈ ([] : List Nat)) := hfr.tr1 hfr2 (Or.inr nz_q2)
  refine lv_astore_n hx hb d_Vs_object_39 rfl hl (by decide) rfl (fun ls hl => ?_)
  have hl : lv_has ls 4 [(3, .ref q2), (2, .ref ka), (0, .ref vs), (1, .ref a)] := hl
  refine lv_aload_n hx hb d_Vs_object_40 rfl (lv_at hl 0 rfl) ?_
  refine gh_callV C V hl.1 m_Va_isWithinLimits l_Vs_55 (c_Va_isWithinLimits l E _ f5 q2 (vt_wsum xs) (vt_hmax xs) _ _ _ _ _ hq9 hlw hlh) rfl hq9 gc_Va ⟨by first | decide | omega | (dsimp only; omega), by first | decide | omega | (dsimp only; omega)⟩ ⟨by first | decide | omega | (dsimp only; omega), by first | decide | omega | (dsimp only; omega)⟩ (Nat.le_of_ble_eq_true rfl) rfl d_Vs_object_41 (fun r f6 H locs hp V => ?_)
  obtain ⟨rfl, he9⟩ := hp
  rw [he9] at V
  refine W.eq (g2 := F0 m 44 ls [.int (gh_bi (decide (vt_wsum xs ≤ 100) && decide (vt_hmax xs ≤ 7)))]) rfl ?_
  refine lv_if_eq (tgt := 51) hx hb d_Vs_object_44 (by decide) (fun c7 => ?_) (fun c7 => ?_)
  · have c7 : (decide (vt_wsum xs ≤ 100) && decide (vt_hmax xs ≤ 7)) = false := gh_bi_0 c7
    refine lv_null hx hb d_Vs_object_51 ?_
    refine gh_reta hAe C V hr (by first | exact Or.inl ⟨_, rfl⟩ | exact Or.inr ⟨_, rfl⟩) (by first | exact Or.inl rfl | exact Or.inr ⟨_, rfl⟩) hlocks d_Vs_object_52 (by first | decide | omega | (dsimp only; omega)) (by first | decide | omega | (dsimp only; omega)) ?_
    have hm : vt_mk 6 ks xs = none := by unfold vt_mk; rw [if_neg (fun z => by rw [decide_eq_true z.1, decide_eq_true z.2] at c7; cases c7)]
    rw [hm]
    exact ⟨rfl, hfr⟩
  · have c7 : (decide (vt_wsum xs ≤ 100) && decide (vt_hmax xs ≤ 7)) = true := gh_bi_1 c7
    refine lv_aload_n hx hb d_Vs_object_47 rfl (lv_at hl 0 rfl) ?_
    refine lv_goto (tgt := 52) hx hb d_Vs_object_48 (by decide) ?_
    refine gh_reta hAe C V hr (by first | exact Or.inl ⟨_, rfl⟩ | exact Or.inr ⟨_, rfl⟩) (by first | exact Or.inl rfl | exact Or.inr ⟨_, rfl⟩) hlocks d_Vs_object_52 (by first | decide | omega | (dsimp only; omega)) (by first | decide | omega | (dsimp only; omega)) ?_
    have hc9 : vt_wsum xs ≤ 100 ∧ vt_hmax xs ≤ 7 := by simpa using c7
    have hm : vt_mk 6 ks xs = some (vt_m 6 ks xs) := by unfold vt_mk; rw [if_pos hc9]
    rw [hm]
    exact ⟨⟨q2, rfl, cw_made  (Or.inr ⟨rfl, hkl⟩) ⟨hP _ nz_q2, pka, pia⟩ hq9 (by rw [hkl]; exact h_ka_f5) h_ia_f5 (fun j hj => ⟨hgkx j (by omega), (h6 j hj).2.1.keep hfr (fun _ z => absurd z (by simp)), (h6 j hj).2.2⟩) (fun j hj => ⟨hgix j hj, (h7 j hj).2.keep hfr (fun _ z => absurd z (by simp))⟩) hx16 hc9.1 hc9.2⟩, hfr⟩
