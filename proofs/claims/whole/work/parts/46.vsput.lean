/-! The methods of Values that put values together. Printed by wip/whole/gen_vs4.py. -/
theorem getD_mp {L : List (List Int32)} {j : Nat} (h : j < L.length) : (L.map vt_t).getD j (vt_0 0) = vt_t (L.getD j []) := by simp [List.getD, h]
theorem d_Vs_withMember_0 : decode b_Vs_withMember 0 = .ok (.aload_n 0, 1) := by decide +kernel
theorem d_Vs_withMember_1 : decode b_Vs_withMember 1 = .ok (.getfield 40, 3) := by decide +kernel
theorem d_Vs_withMember_4 : decode b_Vs_withMember 4 = .ok (.invokevirtual 62, 3) := by decide +kernel
theorem d_Vs_withMember_7 : decode b_Vs_withMember 7 = .ok (.aload_n 0, 1) := by decide +kernel
theorem d_Vs_withMember_8 : decode b_Vs_withMember 8 = .ok (.getfield 40, 3) := by decide +kernel
theorem d_Vs_withMember_11 : decode b_Vs_withMember 11 = .ok (.aload_n 1, 1) := by decide +kernel
theorem d_Vs_withMember_12 : decode b_Vs_withMember 12 = .ok (.invokevirtual 65, 3) := by decide +kernel
theorem d_Vs_withMember_15 : decode b_Vs_withMember 15 = .ok (.ifCond .eq 26, 3) := by decide +kernel
theorem d_Vs_withMember_18 : decode b_Vs_withMember 18 = .ok (.aload_n 0, 1) := by decide +kernel
theorem d_Vs_withMember_19 : decode b_Vs_withMember 19 = .ok (.getfield 40, 3) := by decide +kernel
theorem d_Vs_withMember_22 : decode b_Vs_withMember 22 = .ok (.aload_n 2, 1) := by decide +kernel
theorem d_Vs_withMember_23 : decode b_Vs_withMember 23 = .ok (.aload_n 3, 1) := by decide +kernel
theorem d_Vs_withMember_24 : decode b_Vs_withMember 24 = .ok (.invokevirtual 69, 3) := by decide +kernel
theorem d_Vs_withMember_27 : decode b_Vs_withMember 27 = .ok (.ifCond .eq 14, 3) := by decide +kernel
theorem d_Vs_withMember_30 : decode b_Vs_withMember 30 = .ok (.aload_n 0, 1) := by decide +kernel
theorem d_Vs_withMember_31 : decode b_Vs_withMember 31 = .ok (.aload_n 0, 1) := by decide +kernel
theorem d_Vs_withMember_32 : decode b_Vs_withMember 32 = .ok (.getfield 40, 3) := by decide +kernel
theorem d_Vs_withMember_35 : decode b_Vs_withMember 35 = .ok (.invokevirtual 73, 3) := by decide +kernel
theorem d_Vs_withMember_38 : decode b_Vs_withMember 38 = .ok (.goto 4, 3) := by decide +kernel
theorem d_Vs_withMember_41 : decode b_Vs_withMember 41 = .ok (.aconst_null, 1) := by decide +kernel
theorem d_Vs_withMember_42 : decode b_Vs_withMember 42 = .ok (.areturn, 1) := by decide +kernel
set_option maxHeartbeats 4000000 in
set_option maxRecDepth 100000 in
theorem c_Vs_withMember (l : Launch) (E : gh_E) (sz : Nat) (f : gh_F) (P : Nat → Prop) (vs nu no ye ni al ga : Nat) (k i : Nat) (o kb b : Nat) (O X : vt) (L : List Int32) (hV : vs_C E P f vs nu no ye ni al ga) (hP : ∀ q, f q = none → P q) (hg : ga_0 E P f ga k i) (hO : cw E P f o O) (hqO : (vt_q O).length = vt_c O) (hkb : cv_S E P f kb L) (hL : lt_ok L) (hX : cw E P f b X) : gh_M l y_Vs_withMember b_Vs_withMember 4 (some (.object "QueryMachine$Value")) E sz [.ref vs, .ref o, .ref kb, .ref b] f { frames := 4, cells := 3, slots := 39, locals := 160 } (fun r g => vr_A E P g (vt_wm O L X) r ∧ ga_0 E P g ga k i ∧ gh_fr f g (ga_M ga k i)) := by
  have hVc := hV
  obtain ⟨⟨pvs, pni, pal⟩, hvs, hnu, hno, hye, ⟨g0, hni⟩, g1, X1, hal, hX1⟩ := hVc
  have hgc := hg
  obtain ⟨hpa, -⟩ := hgc
  refine gh_open (by decide) (Nat.le_of_ble_eq_true rfl) ?_
  intro p e s m args below meth c A ls hAe C V hr hlocks hname hl
  have hx := C.1
  have hb := C.2.1
  have hl : lv_has ls 4 [(0, .ref vs), (1, .ref o), (2, .ref kb), (3, .ref b)] := hl
  have hfr : gh_fr f f (fun b => b ∈ ([ga, k, i] : List Nat)) := gh_fr.rf
  refine lv_aload_n hx hb d_Vs_withMember_0 rfl (lv_at hl 0 rfl) ?_
  refine gh_get C V hvs gc_Vs gi_Vs 5 (by decide) f_Vs_40 rfl rfl d_Vs_withMember_1 ?_
  have hg1 := hg
  obtain ⟨_, _, n0_, gk0_, gi0_, hga_, -⟩ := hg1
  refine gh_callV C V hl.1 m_Ga_clear l_Vs_62 (c_Ga_clear l E _ f P ga k i hg) rfl hga_ gc_Ga ⟨by first | decide | omega | (dsimp only; omega), by first | decide | omega | (dsimp only; omega)⟩ ⟨by first | decide | omega | (dsimp only; omega), by first | decide | omega | (dsimp only; omega)⟩ (Nat.le_of_ble_eq_true rfl) rfl d_Vs_withMember_4 (fun r f1 H locs hp V => ?_)
  obtain ⟨rfl, hgR, hfr2⟩ := hp
  refine W.eq (g2 := F0 m 7 ls []) rfl ?_
  have h_vs_f1 : f1 vs = some (.inr (7, [.ref nu, .ref no, .ref ye, .ref ni, .ref al, .ref ga])) := hfr2.at hvs (fun z => ga_Mn hpa _ z pvs)
  have hfr : gh_fr f f1 (fun b => b ∈ ([ga, k, i] : List Nat)) := hfr.tr hfr2 (fun _ _ _ z => z)
  refine lv_aload_n hx hb d_Vs_withMember_7 rfl (lv_at hl 0 rfl) ?_
  refine gh_get C V h_vs_f1 gc_Vs gi_Vs 5 (by decide) f_Vs_40 rfl rfl d_Vs_withMember_8 ?_
  refine lv_aload_n hx hb d_Vs_withMember_11 rfl (lv_at hl 1 rfl) ?_
  have hgu := hgR
  obtain ⟨_, _, gku3, giu3, Ku3, Bu3, hau3, -⟩ := hgu
  refine gh_callV C V hl.1 m_Ga_putAll l_Vs_65 (c_Ga_putAll l E _ f1 P ga k i [] [] o O hgR rfl (hO.keep hfr (ga_Mn hpa)) hqO) rfl hau3 gc_Ga ⟨by first | decide | omega | (dsimp only; omega), by first | decide | omega | (dsimp only; omega)⟩ ⟨by first | decide | omega | (dsimp only; omega), by first | decide | omega | (dsimp only; omega)⟩ (Nat.le_of_ble_eq_true rfl) rfl d_Vs_withMember_12 (fun r f2 H locs hp V => ?_)
  cases hs4 : vt_pa O (vt_c O) 0 ([], []) with
  | none =>
    rw [hs4] at hp
    obtain ⟨rfl, hg0_, hfr2⟩ := hp
    have h_vs_f2 : f2 vs = some (.inr (7, [.ref nu, .ref no, .ref ye, .ref ni, .ref al, .ref ga])) := hfr2.at h_vs_f1 (fun z => ga_Mn hpa _ z pvs)
    have hfr : gh_fr f f2 (fun b => b ∈ ([ga, k, i] : List Nat)) := hfr.tr hfr2 (fun _ _ _ z => z)
    refine W.eq (g2 := F0 m 15 ls [.int 0]) rfl ?_
    refine lv_if_eq (tgt := 41) hx hb d_Vs_withMember_15 (by decide) (fun c5 => ?_) (fun c5 => absurd (by decide) c5)
    refine lv_null hx hb d_Vs_withMember_41 ?_
    refine gh_reta hAe C V hr (by first | exact Or.inl ⟨_, rfl⟩ | exact Or.inr ⟨_, rfl⟩) (by first | exact Or.inl rfl | exact Or.inr ⟨_, rfl⟩) hlocks d_Vs_withMember_42 (by first | decide | omega | (dsimp only; omega)) (by first | decide | omega | (dsimp only; omega)) ?_
    exact ⟨by simp only [vt_wm, hs4]; exact rfl, hg0_, hfr⟩
  | some s4 =>
    rw [hs4] at hp
    obtain ⟨rfl, hgs4, hfr2⟩ := hp
    have h_vs_f2 : f2 vs = some (.inr (7, [.ref nu, .ref no, .ref ye, .ref ni, .ref al, .ref ga])) := hfr2.at h_vs_f1 (fun z => ga_Mn hpa _ z pvs)
    have hfr : gh_fr f f2 (fun b => b ∈ ([ga, k, i] : List Nat)) := hfr.tr hfr2 (fun _ _ _ z => z)
    have hln_s4 : s4.1.length = s4.2.length := vt_pa_len hs4 rfl
    refine W.eq (g2 := F0 m 15 ls [.int 1]) rfl ?_
    refine lv_if_eq (tgt := 41) hx hb d_Vs_withMember_15 (by decide) (fun c6 => absurd c6 (by decide)) (fun c6 => ?_)
    refine lv_aload_n hx hb d_Vs_withMember_18 rfl (lv_at hl 0 rfl) ?_
    refine gh_get C V h_vs_f2 gc_Vs gi_Vs 5 (by decide) f_Vs_40 rfl rfl d_Vs_withMember_19 ?_
    refine lv_aload_n hx hb d_Vs_withMember_22 rfl (lv_at hl 2 rfl) ?_
    refine lv_aload_n hx hb d_Vs_withMember_23 rfl (lv_at hl 3 rfl) ?_
    have hgu := hgs4
    obtain ⟨_, _, gku8, giu8, Ku8, Bu8, hau8, -⟩ := hgu
    refine gh_callV C V hl.1 m_Ga_put l_Vs_69 (c_Ga_put l E _ f2 P ga k i s4.1 s4.2 kb b L X hgs4 hln_s4 (hkb.keep hfr (ga_Mn hpa)) hL (hX.keep hfr (ga_Mn hpa))) rfl hau8 gc_Ga ⟨by first | decide | omega | (dsimp only; omega), by first | decide | omega | (dsimp only; omega)⟩ ⟨by first | decide | omega | (dsimp only; omega), by first | decide | omega | (dsimp only; omega)⟩ (Nat.le_of_ble_eq_true rfl) rfl d_Vs_withMember_24 (fun r f7 H locs hp V => ?_)
    cases hs9 : vt_put s4 L X with
    | none =>
      rw [show vt_put (s4.1, s4.2) L X = none from hs9] at hp
      obtain ⟨rfl, he9⟩ := hp
      rw [he9] at V
      refine W.eq (g2 := F0 m 27 ls [.int 0]) rfl ?_
      refine lv_if_eq (tgt := 41) hx hb d_Vs_withMember_27 (by decide) (fun c10 => ?_) (fun c10 => absurd (by decide) c10)
      refine lv_null hx hb d_Vs_withMember_41 ?_
      refine gh_reta hAe C V hr (by first | exact Or.inl ⟨_, rfl⟩ | exact Or.inr ⟨_, rfl⟩) (by first | exact Or.inl rfl | exact Or.inr ⟨_, rfl⟩) hlocks d_Vs_withMember_42 (by first | decide | omega | (dsimp only; omega)) (by first | decide | omega | (dsimp only; omega)) ?_
      exact ⟨by simp only [vt_wm, hs4, hs9]; exact rfl, hgs4.raw, hfr⟩
    | some s9 =>
      rw [show vt_put (s4.1, s4.2) L X = some s9 from hs9] at hp
      obtain ⟨rfl, hgs9, hfr2⟩ := hp
      have h_vs_f7 : f7 vs = some (.inr (7, [.ref nu, .ref no, .ref ye, .ref ni, .ref al, .ref ga])) := hfr2.at h_vs_f2 (fun z => ga_Mn hpa _ z pvs)
      have hfr : gh_fr f f7 (fun b => b ∈ ([ga, k, i] : List Nat)) := hfr.tr hfr2 (fun _ _ _ z => z)
      have hln_s9 : s9.1.length = s9.2.length := vt_put_len hs9 hln_s4
      refine W.eq (g2 := F0 m 27 ls [.int 1]) rfl ?_
      refine lv_if_eq (tgt := 41) hx hb d_Vs_withMember_27 (by decide) (fun c11 => absurd c11 (by decide)) (fun c11 => ?_)
      refine lv_aload_n hx hb d_Vs_withMember_30 rfl (lv_at hl 0 rfl) ?_
      refine lv_aload_n hx hb d_Vs_withMember_31 rfl (lv_at hl 0 rfl) ?_
      refine gh_get C V h_vs_f7 gc_Vs gi_Vs 5 (by decide) f_Vs_40 rfl rfl d_Vs_withMember_32 ?_
      refine gh_callV C V hl.1 m_Vs_object l_Vs_73 (c_Vs_object l E _ f7 P vs nu no ye ni al ga ga k i s9.1 s9.2 (hV.keep hfr (ga_Mn hpa)) (fun q h => hP q (hfr.non h)) hgs9 hln_s9) rfl h_vs_f7 gc_Vs ⟨by first | decide | omega | (dsimp only; omega), by first | decide | omega | (dsimp only; omega)⟩ ⟨by first | decide | omega | (dsimp only; omega), by first | decide | omega | (dsimp only; omega)⟩ (Nat.le_of_ble_eq_true rfl) rfl d_Vs_withMember_35 (fun r f12 H locs hp V => ?_)
      obtain ⟨hva, hfr2⟩ := hp
      have hg9 := (hgs9.keep hfr2 (fun _ z => absurd z (by simp)) (by simp) (by simp) (by simp)).raw
      have hfr : gh_fr f f12 (fun b => b ∈ ([ga, k, i] : List Nat)) := hfr.tr hfr2 (fun _ _ _ z => absurd z (by simp))
      cases hmk : vt_mk 6 s9.1 s9.2 with
      | none =>
        rw [hmk] at hva
        have hva : r = some .null := hva
        subst hva
        refine W.eq (g2 := F0 m 38 ls [.null]) rfl ?_
        refine lv_goto (tgt := 42) hx hb d_Vs_withMember_38 (by decide) ?_
        refine gh_reta hAe C V hr (by first | exact Or.inl ⟨_, rfl⟩ | exact Or.inr ⟨_, rfl⟩) (by first | exact Or.inl rfl | exact Or.inr ⟨_, rfl⟩) hlocks d_Vs_withMember_42 (by first | decide | omega | (dsimp only; omega)) (by first | decide | omega | (dsimp only; omega)) ?_
        exact ⟨by simp only [vt_wm, hs4, hs9, hmk]; exact rfl, hg9, hfr⟩
      | some M9 =>
        rw [hmk] at hva
        obtain ⟨b9, rfl, hb9⟩ := hva
        refine W.eq (g2 := F0 m 38 ls [.ref b9]) rfl ?_
        refine lv_goto (tgt := 42) hx hb d_Vs_withMember_38 (by decide) ?_
        refine gh_reta hAe C V hr (by first | exact Or.inl ⟨_, rfl⟩ | exact Or.inr ⟨_, rfl⟩) (by first | exact Or.inl rfl | exact Or.inr ⟨_, rfl⟩) hlocks d_Vs_withMember_42 (by first | decide | omega | (dsimp only; omega)) (by first | decide | omega | (dsimp only; omega)) ?_
        exact ⟨by simp only [vt_wm, hs4, hs9, hmk]; exact ⟨_, rfl, hb9⟩, hg9, hfr⟩
theorem d_Vs_keysOf_0 : decode b_Vs_keysOf 0 = .ok (.new 7, 3) := by decide +kernel
theorem d_Vs_keysOf_3 : decode b_Vs_keysOf 3 = .ok (.dup, 1) := by decide +kernel
theorem d_Vs_keysOf_4 : decode b_Vs_keysOf 4 = .ok (.iconst 5, 1) := by decide +kernel
theorem d_Vs_keysOf_5 : decode b_Vs_keysOf 5 = .ok (.lconst 0, 1) := by decide +kernel
theorem d_Vs_keysOf_6 : decode b_Vs_keysOf 6 = .ok (.getstatic 15, 3) := by decide +kernel
theorem d_Vs_keysOf_9 : decode b_Vs_keysOf 9 = .ok (.aload_n 0, 1) := by decide +kernel
theorem d_Vs_keysOf_10 : decode b_Vs_keysOf 10 = .ok (.getfield 9, 3) := by decide +kernel
theorem d_Vs_keysOf_13 : decode b_Vs_keysOf 13 = .ok (.aload_n 1, 1) := by decide +kernel
theorem d_Vs_keysOf_14 : decode b_Vs_keysOf 14 = .ok (.getfield 77, 3) := by decide +kernel
theorem d_Vs_keysOf_17 : decode b_Vs_keysOf 17 = .ok (.invokespecial 19, 3) := by decide +kernel
theorem d_Vs_keysOf_20 : decode b_Vs_keysOf 20 = .ok (.areturn, 1) := by decide +kernel
set_option maxHeartbeats 4000000 in
set_option maxRecDepth 100000 in
theorem c_Vs_keysOf (l : Launch) (E : gh_E) (sz : Nat) (f : gh_F) (P : Nat → Prop) (vs nu no ye ni al ga : Nat) (o : Nat) (O : vt) (hV : vs_C E P f vs nu no ye ni al ga) (hP : ∀ q, f q = none → P q) (hO : cw E P f o O) : gh_M l y_Vs_keysOf b_Vs_keysOf 2 (some (.object "QueryMachine$Value")) E sz [.ref vs, .ref o] f { frames := 2, cells := 1, slots := 7, locals := 60 } (fun r g => (∃ a, r = some (.ref a) ∧ cw E P g a (vt_ks O)) ∧ gh_fr f g (fun b => b ∈ ([] : List Nat))) := by
  have hVc := hV
  obtain ⟨⟨pvs, pni, pal⟩, hvs, hnu, hno, hye, ⟨g0, hni⟩, g1, X1, hal, hX1⟩ := hVc
  have ho := vo_o.mp hO.2
  have hc16 := ho.2.2.2.2.2.2.1
  have hql := ho.2.2.2.2.1
  have hqk := ho.2.2.2.2.2.2.2.2.2.2.1
  refine gh_open (by decide) (Nat.le_of_ble_eq_true rfl) ?_
  intro p e s m args below meth c A ls hAe C V hr hlocks hname hl
  have hx := C.1
  have hb := C.2.1
  have hl : lv_has ls 2 [(0, .ref vs), (1, .ref o)] := hl
  have hfr : gh_fr f f (fun b => b ∈ ([] : List Nat)) := gh_fr.rf
  obtain ⟨la_1, ka_1, ia_1, gk_1, gi_1, K_1, B_1, hp_1, h0_1, h1_1, h2_1, h3_1, h4_1, h5_1⟩ := cv_o.mp hO.1
  refine gh_new (fs := [.int 0, .long 0, .null, .null, .null, .int 0, .int 0]) C V gc_Va gi_Va ty_Va k_Vs_7 n_Va i_Va (by decide) (by first | decide | omega | (dsimp only; omega)) (by first | decide | omega | (dsimp only; omega)) d_Vs_keysOf_0 (fun q2 H hnq2 V => ?_)
  obtain ⟨f3, hff3⟩ : ∃ z9 : gh_F, z9 = gh_u f q2 (.inr (6, [.int 0, .long 0, .null, .null, .null, .int 0, .int 0])) := ⟨_, rfl⟩
  have V : gh_V E A f3 s H [] := by rw [hff3]; exact V
  have nz_q2 : f q2 = none := hfr.non hnq2
  have hfr : gh_fr f f3 (fun b => b ∈ ([] : List Nat)) := by rw [hff3]; exact hfr.put (Or.inr nz_q2)
  have ne_vs_q2 : vs ≠ q2 := gh_ne0 hvs hnq2
  have h_vs_f3 : f3 vs = some (.inr (7, [.ref nu, .ref no, .ref ye, .ref ni, .ref al, .ref ga])) := by rw [hff3, gh_un ne_vs_q2]; exact hvs
  have ne_ni_q2 : ni ≠ q2 := gh_ne0 hni hnq2
  have h_ni_f3 : f3 ni = some (.inl (E.2.2.1 4, 0, .inr (.inr (.inr (.inr g0))))) := by rw [hff3, gh_un ne_ni_q2]; exact hni
  have ne_o_q2 : o ≠ q2 := gh_ne0 h0_1 hnq2
  have h_o_f3 : f3 o = some (.inr (6, [.int (nI (vt_k O)), .long (vt_n O), .ref la_1, .ref ka_1, .ref ia_1, .int (nI (vt_w O)), .int (nI (vt_h O))])) := by rw [hff3, gh_un ne_o_q2]; exact h0_1
  have ne_ka_1_q2 : ka_1 ≠ q2 := gh_ne0 h2_1 hnq2
  have h_ka_1_f3 : f3 ka_1 = some (.inl (E.2.2.1 4, (vt_q O).length, .inr (.inr (.inr (.inr gk_1))))) := by rw [hff3, gh_un ne_ka_1_q2]; exact h2_1
  have ne_ia_1_q2 : ia_1 ≠ q2 := gh_ne0 h3_1 hnq2
  have h_ia_1_f3 : f3 ia_1 = some (.inl (E.2.2.1 4, vt_c O, .inr (.inr (.inr (.inr gi_1))))) := by rw [hff3, gh_un ne_ia_1_q2]; exact h3_1
  have h_q2_f3 : f3 q2 = some (.inr (6, [.int 0, .long 0, .null, .null, .null, .int 0, .int 0])) := by rw [hff3, gh_us]
  refine lv_dup hx hb d_Vs_keysOf_3 rfl ?_
  refine lv_iconst (v := 5) hx hb d_Vs_keysOf_4 (by decide) ?_
  refine lv_lconst (v := 0) hx hb d_Vs_keysOf_5 (by decide) ?_
  refine gh_nolet C V f_Vs_15 d_Vs_keysOf_6 ?_
  refine lv_aload_n hx hb d_Vs_keysOf_9 rfl (lv_at hl 0 rfl) ?_
  refine gh_get C V h_vs_f3 gc_Vs gi_Vs 3 (by decide) f_Vs_9 rfl rfl d_Vs_keysOf_10 ?_
  refine lv_aload_n hx hb d_Vs_keysOf_13 rfl (lv_at hl 1 rfl) ?_
  refine gh_get C V h_o_f3 gc_Va gi_Va 3 (by decide) f_Vs_77 rfl rfl d_Vs_keysOf_14 ?_
  have hxs : ∀ j, j < ((vt_q O).map vt_t).length → cw E P f (K_1 j) (((vt_q O).map vt_t).getD j (vt_0 0)) := fun j hj => by
    have hj2 : j < (vt_q O).length := by simpa using hj
    rw [getD_mp hj2]
    exact (h4_1 j hj2).2.cw (hqk j hj2)
  have hlen : ((vt_q O).map vt_t).length = (vt_q O).length := List.length_map _
  have hit9 := h_ka_1_f3
  rw [← hlen] at hit9
  have hq16 : (vt_q O).length ≤ 16 := by rw [hql]; split <;> omega
  obtain ⟨hlw, hlh, hl1⟩ := ga_lim (by omega) hxs
  refine gh_callI C V hl.1 m_Va_init l_Vs_19 (c_Va_init l E _ f3 q2 5 0 (E.2.2.2 1) ni ka_1 ((vt_q O).map vt_t).length gk_1 K_1 (fun j => nI (vt_w (((vt_q O).map vt_t).getD j (vt_0 0)))) (fun j => nI (vt_h (((vt_q O).map vt_t).getD j (vt_0 0)))) h_q2_f3 hit9 (by omega) (cw_hv hfr (fun _ z => absurd z (by simp)) (fun j hj => (h4_1 j (by omega)).1) hxs nz_q2)) rfl ⟨by first | decide | omega | (dsimp only; omega), by first | decide | omega | (dsimp only; omega)⟩ ⟨by first | decide | omega | (dsimp only; omega), by first | decide | omega | (dsimp only; omega)⟩ (Nat.le_of_ble_eq_true rfl) rfl d_Vs_keysOf_17 (fun r f4 H locs hp V => ?_)
  obtain ⟨rfl, hq9, hfr2⟩ := hp
  rw [va_wsN, va_hsN hl1] at hq9
  refine W.eq (g2 := F0 m 20 ls [.ref q2]) rfl ?_
  have hni9 := hfr2.at1 h_ni_f3 (gh_nek h_ni_f3 h_q2_f3 (show (100 : Nat) ≠ 6 by decide))
  have hit8 := hfr2.at1 hit9 (gh_nek hit9 h_q2_f3 (show (100 : Nat) ≠ 6 by decide))
  have hfr : gh_fr f f4 (fun b => b ∈ ([] : List Nat)) := hfr.tr1 hfr2 (Or.inr nz_q2)
  have hwl := vt_wsum_le (xs := ((vt_q O).map vt_t)) (B := 1) (fun j hj => by rw [getD_mp (by omega)]; exact Nat.le_refl _)
  have hhl := vt_hmax_le (xs := ((vt_q O).map vt_t)) (B := 0) (fun j hj => by rw [getD_mp (by omega)]; exact Nat.le_refl _)
  refine gh_reta hAe C V hr (by first | exact Or.inl ⟨_, rfl⟩ | exact Or.inr ⟨_, rfl⟩) (by first | exact Or.inl rfl | exact Or.inr ⟨_, rfl⟩) hlocks d_Vs_keysOf_20 (by first | decide | omega | (dsimp only; omega)) (by first | decide | omega | (dsimp only; omega)) ?_
  exact ⟨⟨q2, rfl, cw_made (K := fun _ => 0) (Or.inl ⟨rfl, rfl⟩) ⟨hP _ nz_q2, pni, hp_1.2.1⟩ hq9 hni9 hit8 (fun j hj => absurd hj (Nat.not_lt_zero j)) (fun j hj => ⟨(h4_1 j (by omega)).1, (hxs j hj).keep hfr (fun _ z => absurd z (by simp))⟩) (by omega) (by omega) (by omega)⟩, hfr⟩
theorem d_Vs_difference_0 : decode b_Vs_difference 0 = .ok (.aload_n 1, 1) := by decide +kernel
theorem d_Vs_difference_1 : decode b_Vs_difference 1 = .ok (.aload_n 2, 1) := by decide +kernel
theorem d_Vs_difference_2 : decode b_Vs_difference 2 = .ok (.invokestatic 101, 3) := by decide +kernel
theorem d_Vs_difference_5 : decode b_Vs_difference 5 = .ok (.ifCond .eq 19, 3) := by decide +kernel
theorem d_Vs_difference_8 : decode b_Vs_difference 8 = .ok (.aload_n 0, 1) := by decide +kernel
theorem d_Vs_difference_9 : decode b_Vs_difference 9 = .ok (.aload_n 1, 1) := by decide +kernel
theorem d_Vs_difference_10 : decode b_Vs_difference 10 = .ok (.getfield 81, 3) := by decide +kernel
theorem d_Vs_difference_13 : decode b_Vs_difference 13 = .ok (.aload_n 2, 1) := by decide +kernel
theorem d_Vs_difference_14 : decode b_Vs_difference 14 = .ok (.getfield 81, 3) := by decide +kernel
theorem d_Vs_difference_17 : decode b_Vs_difference 17 = .ok (.lsub, 1) := by decide +kernel
theorem d_Vs_difference_18 : decode b_Vs_difference 18 = .ok (.invokevirtual 85, 3) := by decide +kernel
theorem d_Vs_difference_21 : decode b_Vs_difference 21 = .ok (.goto 4, 3) := by decide +kernel
theorem d_Vs_difference_24 : decode b_Vs_difference 24 = .ok (.aconst_null, 1) := by decide +kernel
theorem d_Vs_difference_25 : decode b_Vs_difference 25 = .ok (.areturn, 1) := by decide +kernel
set_option maxHeartbeats 4000000 in
set_option maxRecDepth 100000 in
theorem c_Vs_difference (l : Launch) (E : gh_E) (sz : Nat) (f : gh_F) (P : Nat → Prop) (vs nu no ye ni al ga : Nat) (x y : Nat) (X Y : vt) (hV : vs_C E P f vs nu no ye ni al ga) (hP : ∀ q, f q = none → P q) (hX : cw E P f x X) (hY : cw E P f y Y) : gh_M l y_Vs_difference b_Vs_difference 3 (some (.object "QueryMachine$Value")) E sz [.ref vs, .ref x, .ref y] f { frames := 3, cells := 1, slots := 7, locals := 100 } (fun r g => vr_A E P g (vt_dif X Y) r ∧ gh_fr f g (fun b => b ∈ ([] : List Nat))) := by
  have hVc := hV
  obtain ⟨⟨pvs, pni, pal⟩, hvs, hnu, hno, hye, ⟨g0, hni⟩, g1, X1, hal, hX1⟩ := hVc
  refine gh_open (by decide) (Nat.le_of_ble_eq_true rfl) ?_
  intro p e s m args below meth c A ls hAe C V hr hlocks hname hl
  have hx := C.1
  have hb := C.2.1
  have hl : lv_has ls 3 [(0, .ref vs), (1, .ref x), (2, .ref y)] := hl
  have hfr : gh_fr f f (fun b => b ∈ ([] : List Nat)) := gh_fr.rf
  refine lv_aload_n hx hb d_Vs_difference_0 rfl (lv_at hl 1 rfl) ?_
  refine lv_aload_n hx hb d_Vs_difference_1 rfl (lv_at hl 2 rfl) ?_
  refine gh_callS C V hl.1 m_Vs_areIntegers l_Vs_101 (c_Vs_areIntegers l E _ f P x y X Y hX hY) rfl ⟨by first | decide | omega | (dsimp only; omega), by first | decide | omega | (dsimp only; omega)⟩ ⟨by first | decide | omega | (dsimp only; omega), by first | decide | omega | (dsimp only; omega)⟩ (Nat.le_of_ble_eq_true rfl) rfl d_Vs_difference_2 (fun r f1 H locs hp V => ?_)
  obtain ⟨rfl, he9⟩ := hp
  rw [he9] at V
  refine W.eq (g2 := F0 m 5 ls [.int (gh_bi (decide (vt_k X = 3) && decide (vt_k Y = 3)))]) rfl ?_
  refine lv_if_eq (tgt := 24) hx hb d_Vs_difference_5 (by decide) (fun c2 => ?_) (fun c2 => ?_)
  · have c2 : (decide (vt_k X = 3) && decide (vt_k Y = 3)) = false := gh_bi_0 c2
    refine lv_null hx hb d_Vs_difference_24 ?_
    refine gh_reta hAe C V hr (by first | exact Or.inl ⟨_, rfl⟩ | exact Or.inr ⟨_, rfl⟩) (by first | exact Or.inl rfl | exact Or.inr ⟨_, rfl⟩) hlocks d_Vs_difference_25 (by first | decide | omega | (dsimp only; omega)) (by first | decide | omega | (dsimp only; omega)) ?_
    exact ⟨by unfold vt_dif; rw [if_neg (fun z => by rw [decide_eq_true z.1, decide_eq_true z.2] at c2; cases c2)]; exact rfl, hfr⟩
  · have c2 : (decide (vt_k X = 3) && decide (vt_k Y = 3)) = true := gh_bi_1 c2
    refine lv_aload_n hx hb d_Vs_difference_8 rfl (lv_at hl 0 rfl) ?_
    refine lv_aload_n hx hb d_Vs_difference_9 rfl (lv_at hl 1 rfl) ?_
    obtain ⟨la_3, ka_3, ia_3, gk_3, gi_3, K_3, B_3, hp_3, h0_3, h1_3, h2_3, h3_3, h4_3, h5_3⟩ := cv_o.mp hX.1
    refine gh_get C V h0_3 gc_Va gi_Va 1 (by decide) f_Vs_81 rfl rfl d_Vs_difference_10 ?_
    refine lv_aload_n hx hb d_Vs_difference_13 rfl (lv_at hl 2 rfl) ?_
    obtain ⟨la_4, ka_4, ia_4, gk_4, gi_4, K_4, B_4, hp_4, h0_4, h1_4, h2_4, h3_4, h4_4, h5_4⟩ := cv_o.mp hY.1
    refine gh_get C V h0_4 gc_Va gi_Va 1 (by decide) f_Vs_81 rfl rfl d_Vs_difference_14 ?_
    refine lv_lsub hx hb d_Vs_difference_17 ?_
    refine gh_callV C V hl.1 m_Vs_number l_Vs_85 (c_Vs_number l E _ f P vs nu no ye ni al ga ((vt_n X) - (vt_n Y)) hV hP) rfl hvs gc_Vs ⟨by first | decide | omega | (dsimp only; omega), by first | decide | omega | (dsimp only; omega)⟩ ⟨by first | decide | omega | (dsimp only; omega), by first | decide | omega | (dsimp only; omega)⟩ (Nat.le_of_ble_eq_true rfl) rfl d_Vs_difference_18 (fun r f5 H locs hp V => ?_)
    obtain ⟨⟨b9, rfl, hb9⟩, hfr2⟩ := hp
    refine W.eq (g2 := F0 m 21 ls [.ref b9]) rfl ?_
    have h_vs_f5 : f5 vs = some (.inr (7, [.ref nu, .ref no, .ref ye, .ref ni, .ref al, .ref ga])) := hfr2.at hvs (by simp)
    have h_ni_f5 : f5 ni = some (.inl (E.2.2.1 4, 0, .inr (.inr (.inr (.inr g0))))) := hfr2.at hni (by simp)
    have h_x_f5 : f5 x = some (.inr (6, [.int (nI (vt_k X)), .long (vt_n X), .ref la_3, .ref ka_3, .ref ia_3, .int (nI (vt_w X)), .int (nI (vt_h X))])) := hfr2.at h0_3 (by simp)
    have h_ka_3_f5 : f5 ka_3 = some (.inl (E.2.2.1 4, (vt_q X).length, .inr (.inr (.inr (.inr gk_3))))) := hfr2.at h2_3 (by simp)
    have h_ia_3_f5 : f5 ia_3 = some (.inl (E.2.2.1 4, vt_c X, .inr (.inr (.inr (.inr gi_3))))) := hfr2.at h3_3 (by simp)
    have h_y_f5 : f5 y = some (.inr (6, [.int (nI (vt_k Y)), .long (vt_n Y), .ref la_4, .ref ka_4, .ref ia_4, .int (nI (vt_w Y)), .int (nI (vt_h Y))])) := hfr2.at h0_4 (by simp)
    have h_ka_4_f5 : f5 ka_4 = some (.inl (E.2.2.1 4, (vt_q Y).length, .inr (.inr (.inr (.inr gk_4))))) := hfr2.at h2_4 (by simp)
    have h_ia_4_f5 : f5 ia_4 = some (.inl (E.2.2.1 4, vt_c Y, .inr (.inr (.inr (.inr gi_4))))) := hfr2.at h3_4 (by simp)
    have hfr : gh_fr f f5 (fun b => b ∈ ([] : List Nat)) := hfr.tr hfr2 (fun _ _ _ z => absurd z (by simp))
    refine lv_goto (tgt := 25) hx hb d_Vs_difference_21 (by decide) ?_
    refine gh_reta hAe C V hr (by first | exact Or.inl ⟨_, rfl⟩ | exact Or.inr ⟨_, rfl⟩) (by first | exact Or.inl rfl | exact Or.inr ⟨_, rfl⟩) hlocks d_Vs_difference_25 (by first | decide | omega | (dsimp only; omega)) (by first | decide | omega | (dsimp only; omega)) ?_
    exact ⟨by unfold vt_dif; rw [if_pos (by simpa using c2)]; exact ⟨_, rfl, hb9⟩, hfr⟩
theorem d_Vs_product_0 : decode b_Vs_product 0 = .ok (.aload_n 1, 1) := by decide +kernel
theorem d_Vs_product_1 : decode b_Vs_product 1 = .ok (.aload_n 2, 1) := by decide +kernel
theorem d_Vs_product_2 : decode b_Vs_product 2 = .ok (.invokestatic 101, 3) := by decide +kernel
theorem d_Vs_product_5 : decode b_Vs_product 5 = .ok (.ifCond .eq 19, 3) := by decide +kernel
theorem d_Vs_product_8 : decode b_Vs_product 8 = .ok (.aload_n 0, 1) := by decide +kernel
theorem d_Vs_product_9 : decode b_Vs_product 9 = .ok (.aload_n 1, 1) := by decide +kernel
theorem d_Vs_product_10 : decode b_Vs_product 10 = .ok (.getfield 81, 3) := by decide +kernel
theorem d_Vs_product_13 : decode b_Vs_product 13 = .ok (.aload_n 2, 1) := by decide +kernel
theorem d_Vs_product_14 : decode b_Vs_product 14 = .ok (.getfield 81, 3) := by decide +kernel
theorem d_Vs_product_17 : decode b_Vs_product 17 = .ok (.lmul, 1) := by decide +kernel
theorem d_Vs_product_18 : decode b_Vs_product 18 = .ok (.invokevirtual 85, 3) := by decide +kernel
theorem d_Vs_product_21 : decode b_Vs_product 21 = .ok (.goto 4, 3) := by decide +kernel
theorem d_Vs_product_24 : decode b_Vs_product 24 = .ok (.aconst_null, 1) := by decide +kernel
theorem d_Vs_product_25 : decode b_Vs_product 25 = .ok (.areturn, 1) := by decide +kernel
set_option maxHeartbeats 4000000 in
set_option maxRecDepth 100000 in
theorem c_Vs_product (l : Launch) (E : gh_E) (sz : Nat) (f : gh_F) (P : Nat → Prop) (vs nu no ye ni al ga : Nat) (x y : Nat) (X Y : vt) (hV : vs_C E P f vs nu no ye ni al ga) (hP : ∀ q, f q = none → P q) (hX : cw E P f x X) (hY : cw E P f y Y) : gh_M l y_Vs_product b_Vs_product 3 (some (.object "QueryMachine$Value")) E sz [.ref vs, .ref x, .ref y] f { frames := 3, cells := 1, slots := 7, locals := 100 } (fun r g => vr_A E P g (vt_mul X Y) r ∧ gh_fr f g (fun b => b ∈ ([] : List Nat))) := by
  have hVc := hV
  obtain ⟨⟨pvs, pni, pal⟩, hvs, hnu, hno, hye, ⟨g0, hni⟩, g1, X1, hal, hX1⟩ := hVc
  refine gh_open (by decide) (Nat.le_of_ble_eq_true rfl) ?_
  intro p e s m args below meth c A ls hAe C V hr hlocks hname hl
  have hx := C.1
  have hb := C.2.1
  have hl : lv_has ls 3 [(0, .ref vs), (1, .ref x), (2, .ref y)] := hl
  have hfr : gh_fr f f (fun b => b ∈ ([] : List Nat)) := gh_fr.rf
  refine lv_aload_n hx hb d_Vs_product_0 rfl (lv_at hl 1 rfl) ?_
  refine lv_aload_n hx hb d_Vs_product_1 rfl (lv_at hl 2 rfl) ?_
  refine gh_callS C V hl.1 m_Vs_areIntegers l_Vs_101 (c_Vs_areIntegers l E _ f P x y X Y hX hY) rfl ⟨by first | decide | omega | (dsimp only; omega), by first | decide | omega | (dsimp only; omega)⟩ ⟨by first | decide | omega | (dsimp only; omega), by first | decide | omega | (dsimp only; omega)⟩ (Nat.le_of_ble_eq_true rfl) rfl d_Vs_product_2 (fun r f1 H locs hp V => ?_)
  obtain ⟨rfl, he9⟩ := hp
  rw [he9] at V
  refine W.eq (g2 := F0 m 5 ls [.int (gh_bi (decide (vt_k X = 3) && decide (vt_k Y = 3)))]) rfl ?_
  refine lv_if_eq (tgt := 24) hx hb d_Vs_product_5 (by decide) (fun c2 => ?_) (fun c2 => ?_)
  · have c2 : (decide (vt_k X = 3) && decide (vt_k Y = 3)) = false := gh_bi_0 c2
    refine lv_null hx hb d_Vs_product_24 ?_
    refine gh_reta hAe C V hr (by first | exact Or.inl ⟨_, rfl⟩ | exact Or.inr ⟨_, rfl⟩) (by first | exact Or.inl rfl | exact Or.inr ⟨_, rfl⟩) hlocks d_Vs_product_25 (by first | decide | omega | (dsimp only; omega)) (by first | decide | omega | (dsimp only; omega)) ?_
    exact ⟨by unfold vt_mul; rw [if_neg (fun z => by rw [decide_eq_true z.1, decide_eq_true z.2] at c2; cases c2)]; exact rfl, hfr⟩
  · have c2 : (decide (vt_k X = 3) && decide (vt_k Y = 3)) = true := gh_bi_1 c2
    refine lv_aload_n hx hb d_Vs_product_8 rfl (lv_at hl 0 rfl) ?_
    refine lv_aload_n hx hb d_Vs_product_9 rfl (lv_at hl 1 rfl) ?_
    obtain ⟨la_3, ka_3, ia_3, gk_3, gi_3, K_3, B_3, hp_3, h0_3, h1_3, h2_3, h3_3, h4_3, h5_3⟩ := cv_o.mp hX.1
    refine gh_get C V h0_3 gc_Va gi_Va 1 (by decide) f_Vs_81 rfl rfl d_Vs_product_10 ?_
    refine lv_aload_n hx hb d_Vs_product_13 rfl (lv_at hl 2 rfl) ?_
    obtain ⟨la_4, ka_4, ia_4, gk_4, gi_4, K_4, B_4, hp_4, h0_4, h1_4, h2_4, h3_4, h4_4, h5_4⟩ := cv_o.mp hY.1
    refine gh_get C V h0_4 gc_Va gi_Va 1 (by decide) f_Vs_81 rfl rfl d_Vs_product_14 ?_
    refine lv_lmul hx hb d_Vs_product_17 ?_
    refine gh_callV C V hl.1 m_Vs_number l_Vs_85 (c_Vs_number l E _ f P vs nu no ye ni al ga ((vt_n X) * (vt_n Y)) hV hP) rfl hvs gc_Vs ⟨by first | decide | omega | (dsimp only; omega), by first | decide | omega | (dsimp only; omega)⟩ ⟨by first | decide | omega | (dsimp only; omega), by first | decide | omega | (dsimp only; omega)⟩ (Nat.le_of_ble_eq_true rfl) rfl d_Vs_product_18 (fun r f5 H locs hp V => ?_)
    obtain ⟨⟨b9, rfl, hb9⟩, hfr2⟩ := hp
    refine W.eq (g2 := F0 m 21 ls [.ref b9]) rfl ?_
    have h_vs_f5 : f5 vs = some (.inr (7, [.ref nu, .ref no, .ref ye, .ref ni, .ref al, .ref ga])) := hfr2.at hvs (by simp)
    have h_ni_f5 : f5 ni = some (.inl (E.2.2.1 4, 0, .inr (.inr (.inr (.inr g0))))) := hfr2.at hni (by simp)
    have h_x_f5 : f5 x = some (.inr (6, [.int (nI (vt_k X)), .long (vt_n X), .ref la_3, .ref ka_3, .ref ia_3, .int (nI (vt_w X)), .int (nI (vt_h X))])) := hfr2.at h0_3 (by simp)
    have h_ka_3_f5 : f5 ka_3 = some (.inl (E.2.2.1 4, (vt_q X).length, .inr (.inr (.inr (.inr gk_3))))) := hfr2.at h2_3 (by simp)
    have h_ia_3_f5 : f5 ia_3 = some (.inl (E.2.2.1 4, vt_c X, .inr (.inr (.inr (.inr gi_3))))) := hfr2.at h3_3 (by simp)
    have h_y_f5 : f5 y = some (.inr (6, [.int (nI (vt_k Y)), .long (vt_n Y), .ref la_4, .ref ka_4, .ref ia_4, .int (nI (vt_w Y)), .int (nI (vt_h Y))])) := hfr2.at h0_4 (by simp)
    have h_ka_4_f5 : f5 ka_4 = some (.inl (E.2.2.1 4, (vt_q Y).length, .inr (.inr (.inr (.inr gk_4))))) := hfr2.at h2_4 (by simp)
    have h_ia_4_f5 : f5 ia_4 = some (.inl (E.2.2.1 4, vt_c Y, .inr (.inr (.inr (.inr gi_4))))) := hfr2.at h3_4 (by simp)
    have hfr : gh_fr f f5 (fun b => b ∈ ([] : List Nat)) := hfr.tr hfr2 (fun _ _ _ z => absurd z (by simp))
    refine lv_goto (tgt := 25) hx hb d_Vs_product_21 (by decide) ?_
    refine gh_reta hAe C V hr (by first | exact Or.inl ⟨_, rfl⟩ | exact Or.inr ⟨_, rfl⟩) (by first | exact Or.inl rfl | exact Or.inr ⟨_, rfl⟩) hlocks d_Vs_product_25 (by first | decide | omega | (dsimp only; omega)) (by first | decide | omega | (dsimp only; omega)) ?_
    exact ⟨by unfold vt_mul; rw [if_pos (by simpa using c2)]; exact ⟨_, rfl, hb9⟩, hfr⟩
