/-! The methods of Values that gather nothing. Printed by wip/whole/gen_vs2.py. -/
theorem d_Vs_truth_0 : decode b_Vs_truth 0 = .ok (.iload_n 1, 1) := by decide +kernel
theorem d_Vs_truth_1 : decode b_Vs_truth 1 = .ok (.ifCond .eq 10, 3) := by decide +kernel
theorem d_Vs_truth_4 : decode b_Vs_truth 4 = .ok (.aload_n 0, 1) := by decide +kernel
theorem d_Vs_truth_5 : decode b_Vs_truth 5 = .ok (.getfield 29, 3) := by decide +kernel
theorem d_Vs_truth_8 : decode b_Vs_truth 8 = .ok (.goto 7, 3) := by decide +kernel
theorem d_Vs_truth_11 : decode b_Vs_truth 11 = .ok (.aload_n 0, 1) := by decide +kernel
theorem d_Vs_truth_12 : decode b_Vs_truth 12 = .ok (.getfield 26, 3) := by decide +kernel
theorem d_Vs_truth_15 : decode b_Vs_truth 15 = .ok (.areturn, 1) := by decide +kernel
set_option maxHeartbeats 4000000 in
set_option maxRecDepth 100000 in
theorem c_Vs_truth (l : Launch) (E : gh_E) (sz : Nat) (f : gh_F) (P : Nat → Prop) (vs nu no ye ni al ga : Nat) (b : Bool) (hV : vs_C E P f vs nu no ye ni al ga) (hP : ∀ q, f q = none → P q) : gh_M l y_Vs_truth b_Vs_truth 2 (some (.object "QueryMachine$Value")) E sz [.ref vs, .int (gh_bi b)] f { frames := 1, cells := 0, slots := 0, locals := 12 } (fun r g => (∃ a, r = some (.ref a) ∧ cw E P g a (vt_0 (if b then 2 else 1))) ∧ g = f) := by
  have hVc := hV
  obtain ⟨⟨pvs, pni, pal⟩, hvs, hnu, hno, hye, ⟨g0, hni⟩, g1, X1, hal, hX1⟩ := hVc
  refine gh_open (by decide) (Nat.le_of_ble_eq_true rfl) ?_
  intro p e s m args below meth c A ls hAe C V hr hlocks hname hl
  have hx := C.1
  have hb := C.2.1
  have hl : lv_has ls 2 [(0, .ref vs), (1, .int (gh_bi b))] := hl
  refine lv_iload_n hx hb d_Vs_truth_0 rfl (lv_at hl 1 rfl) ?_
  refine lv_if_eq (tgt := 11) hx hb d_Vs_truth_1 (by decide) (fun c1 => ?_) (fun c1 => ?_)
  · have c1 : b = false := gh_bi_0 c1
    refine lv_aload_n hx hb d_Vs_truth_11 rfl (lv_at hl 0 rfl) ?_
    refine gh_get C V hvs gc_Vs gi_Vs 1 (by decide) f_Vs_26 rfl rfl d_Vs_truth_12 ?_
    refine gh_reta hAe C V hr (by first | exact Or.inl ⟨_, rfl⟩ | exact Or.inr ⟨_, rfl⟩) (by first | exact Or.inl rfl | exact Or.inr ⟨_, rfl⟩) hlocks d_Vs_truth_15 (by first | decide | omega | (dsimp only; omega)) (by first | decide | omega | (dsimp only; omega)) ?_
    exact ⟨⟨no, rfl, by rw [c1]; exact hno⟩, rfl⟩
  · have c1 : b = true := gh_bi_1 c1
    refine lv_aload_n hx hb d_Vs_truth_4 rfl (lv_at hl 0 rfl) ?_
    refine gh_get C V hvs gc_Vs gi_Vs 2 (by decide) f_Vs_29 rfl rfl d_Vs_truth_5 ?_
    refine lv_goto (tgt := 15) hx hb d_Vs_truth_8 (by decide) ?_
    refine gh_reta hAe C V hr (by first | exact Or.inl ⟨_, rfl⟩ | exact Or.inr ⟨_, rfl⟩) (by first | exact Or.inl rfl | exact Or.inr ⟨_, rfl⟩) hlocks d_Vs_truth_15 (by first | decide | omega | (dsimp only; omega)) (by first | decide | omega | (dsimp only; omega)) ?_
    exact ⟨⟨ye, rfl, by rw [c1]; exact hye⟩, rfl⟩
theorem d_Vs_number_0 : decode b_Vs_number 0 = .ok (.new 7, 3) := by decide +kernel
theorem d_Vs_number_3 : decode b_Vs_number 3 = .ok (.dup, 1) := by decide +kernel
theorem d_Vs_number_4 : decode b_Vs_number 4 = .ok (.iconst 3, 1) := by decide +kernel
theorem d_Vs_number_5 : decode b_Vs_number 5 = .ok (.lload_n 1, 1) := by decide +kernel
theorem d_Vs_number_6 : decode b_Vs_number 6 = .ok (.getstatic 15, 3) := by decide +kernel
theorem d_Vs_number_9 : decode b_Vs_number 9 = .ok (.aload_n 0, 1) := by decide +kernel
theorem d_Vs_number_10 : decode b_Vs_number 10 = .ok (.getfield 9, 3) := by decide +kernel
theorem d_Vs_number_13 : decode b_Vs_number 13 = .ok (.aload_n 0, 1) := by decide +kernel
theorem d_Vs_number_14 : decode b_Vs_number 14 = .ok (.getfield 9, 3) := by decide +kernel
theorem d_Vs_number_17 : decode b_Vs_number 17 = .ok (.invokespecial 19, 3) := by decide +kernel
theorem d_Vs_number_20 : decode b_Vs_number 20 = .ok (.areturn, 1) := by decide +kernel
set_option maxHeartbeats 4000000 in
set_option maxRecDepth 100000 in
theorem c_Vs_number (l : Launch) (E : gh_E) (sz : Nat) (f : gh_F) (P : Nat → Prop) (vs nu no ye ni al ga : Nat) (n : Int64) (hV : vs_C E P f vs nu no ye ni al ga) (hP : ∀ q, f q = none → P q) : gh_M l y_Vs_number b_Vs_number 3 (some (.object "QueryMachine$Value")) E sz [.ref vs, .long n] f { frames := 2, cells := 1, slots := 7, locals := 60 } (fun r g => (∃ a, r = some (.ref a) ∧ cw E P g a (vt_i n)) ∧ gh_fr f g (fun b => b ∈ ([] : List Nat))) := by
  have hVc := hV
  obtain ⟨⟨pvs, pni, pal⟩, hvs, hnu, hno, hye, ⟨g0, hni⟩, g1, X1, hal, hX1⟩ := hVc
  refine gh_open (by decide) (Nat.le_of_ble_eq_true rfl) ?_
  intro p e s m args below meth c A ls hAe C V hr hlocks hname hl
  have hx := C.1
  have hb := C.2.1
  have hl : lv_has ls 3 [(0, .ref vs), (1, .long n)] := hl
  have hfr : gh_fr f f (fun b => b ∈ ([] : List Nat)) := gh_fr.rf
  refine gh_new (fs := [.int 0, .long 0, .null, .null, .null, .int 0, .int 0]) C V gc_Va gi_Va ty_Va k_Vs_7 n_Va i_Va (by decide) (by first | decide | omega | (dsimp only; omega)) (by first | decide | omega | (dsimp only; omega)) d_Vs_number_0 (fun q1 H hnq1 V => ?_)
  obtain ⟨f2, hff2⟩ : ∃ z9 : gh_F, z9 = gh_u f q1 (.inr (6, [.int 0, .long 0, .null, .null, .null, .int 0, .int 0])) := ⟨_, rfl⟩
  have V : gh_V E A f2 s H [] := by rw [hff2]; exact V
  have nz_q1 : f q1 = none := hfr.non hnq1
  have hfr : gh_fr f f2 (fun b => b ∈ ([] : List Nat)) := by rw [hff2]; exact hfr.put (Or.inr nz_q1)
  have ne_vs_q1 : vs ≠ q1 := gh_ne0 hvs hnq1
  have h_vs_f2 : f2 vs = some (.inr (7, [.ref nu, .ref no, .ref ye, .ref ni, .ref al, .ref ga])) := by rw [hff2, gh_un ne_vs_q1]; exact hvs
  have ne_ni_q1 : ni ≠ q1 := gh_ne0 hni hnq1
  have h_ni_f2 : f2 ni = some (.inl (E.2.2.1 4, 0, .inr (.inr (.inr (.inr g0))))) := by rw [hff2, gh_un ne_ni_q1]; exact hni
  have h_q1_f2 : f2 q1 = some (.inr (6, [.int 0, .long 0, .null, .null, .null, .int 0, .int 0])) := by rw [hff2, gh_us]
  refine lv_dup hx hb d_Vs_number_3 rfl ?_
  refine lv_iconst (v := 3) hx hb d_Vs_number_4 (by decide) ?_
  refine lv_lload_n hx hb d_Vs_number_5 rfl (lv_at hl 1 rfl) ?_
  refine gh_nolet C V f_Vs_15 d_Vs_number_6 ?_
  refine lv_aload_n hx hb d_Vs_number_9 rfl (lv_at hl 0 rfl) ?_
  refine gh_get C V h_vs_f2 gc_Vs gi_Vs 3 (by decide) f_Vs_9 rfl rfl d_Vs_number_10 ?_
  refine lv_aload_n hx hb d_Vs_number_13 rfl (lv_at hl 0 rfl) ?_
  refine gh_get C V h_vs_f2 gc_Vs gi_Vs 3 (by decide) f_Vs_9 rfl rfl d_Vs_number_14 ?_
  refine gh_callI C V hl.1 m_Va_init l_Vs_19 (c_Va_init l E _ f2 q1 3 n (E.2.2.2 1) ni ni 0 g0 (fun _ => 0) (fun _ => 0) (fun _ => 0) h_q1_f2 h_ni_f2 (by decide) (fun j hj => absurd hj (Nat.not_lt_zero j))) rfl ⟨by first | decide | omega | (dsimp only; omega), by first | decide | omega | (dsimp only; omega)⟩ ⟨by first | decide | omega | (dsimp only; omega), by first | decide | omega | (dsimp only; omega)⟩ (Nat.le_of_ble_eq_true rfl) rfl d_Vs_number_17 (fun r f3 H locs hp V => ?_)
  obtain ⟨rfl, h_q1_c, hfr2⟩ := hp
  refine W.eq (g2 := F0 m 20 ls [.ref q1]) rfl ?_
  have h_vs_f3 : f3 vs = some (.inr (7, [.ref nu, .ref no, .ref ye, .ref ni, .ref al, .ref ga])) := hfr2.at1 h_vs_f2 ne_vs_q1
  have h_ni_f3 : f3 ni = some (.inl (E.2.2.1 4, 0, .inr (.inr (.inr (.inr g0))))) := hfr2.at1 h_ni_f2 ne_ni_q1
  have hfr : gh_fr f f3 (fun b => b ∈ ([] : List Nat)) := hfr.tr1 hfr2 (Or.inr nz_q1)
  have h_q1_c : f3 q1 = some (.inr (6, [.int 3, .long n, .ref (E.2.2.2 1), .ref ni, .ref ni, .int 1, .int 0])) := h_q1_c
  refine gh_reta hAe C V hr (by first | exact Or.inl ⟨_, rfl⟩ | exact Or.inr ⟨_, rfl⟩) (by first | exact Or.inl rfl | exact Or.inr ⟨_, rfl⟩) hlocks d_Vs_number_20 (by first | decide | omega | (dsimp only; omega)) (by first | decide | omega | (dsimp only; omega)) ?_
  exact ⟨⟨q1, rfl, cw_leaf (kk := 3) (by decide) (fun z => absurd rfl z) (fun _ => rfl) lt_ok0 ⟨hP _ nz_q1, pni⟩ h_q1_c (Or.inl ⟨rfl, rfl⟩) (fun z => absurd z (by decide)) h_ni_f3⟩, hfr⟩
theorem d_Vs_letter_0 : decode b_Vs_letter 0 = .ok (.iload_n 1, 1) := by decide +kernel
theorem d_Vs_letter_1 : decode b_Vs_letter 1 = .ok (.bipush 97, 2) := by decide +kernel
theorem d_Vs_letter_3 : decode b_Vs_letter 3 = .ok (.isub, 1) := by decide +kernel
theorem d_Vs_letter_4 : decode b_Vs_letter 4 = .ok (.istore_n 2, 1) := by decide +kernel
theorem d_Vs_letter_5 : decode b_Vs_letter 5 = .ok (.iload_n 2, 1) := by decide +kernel
theorem d_Vs_letter_6 : decode b_Vs_letter 6 = .ok (.ifCond .lt 21, 3) := by decide +kernel
theorem d_Vs_letter_9 : decode b_Vs_letter 9 = .ok (.iload_n 2, 1) := by decide +kernel
theorem d_Vs_letter_10 : decode b_Vs_letter 10 = .ok (.aload_n 0, 1) := by decide +kernel
theorem d_Vs_letter_11 : decode b_Vs_letter 11 = .ok (.getfield 34, 3) := by decide +kernel
theorem d_Vs_letter_14 : decode b_Vs_letter 14 = .ok (.arraylength, 1) := by decide +kernel
theorem d_Vs_letter_15 : decode b_Vs_letter 15 = .ok (.if_icmp .ge 12, 3) := by decide +kernel
theorem d_Vs_letter_18 : decode b_Vs_letter 18 = .ok (.aload_n 0, 1) := by decide +kernel
theorem d_Vs_letter_19 : decode b_Vs_letter 19 = .ok (.getfield 34, 3) := by decide +kernel
theorem d_Vs_letter_22 : decode b_Vs_letter 22 = .ok (.iload_n 2, 1) := by decide +kernel
theorem d_Vs_letter_23 : decode b_Vs_letter 23 = .ok (.aaload, 1) := by decide +kernel
theorem d_Vs_letter_24 : decode b_Vs_letter 24 = .ok (.goto 7, 3) := by decide +kernel
theorem d_Vs_letter_27 : decode b_Vs_letter 27 = .ok (.aload_n 0, 1) := by decide +kernel
theorem d_Vs_letter_28 : decode b_Vs_letter 28 = .ok (.getfield 22, 3) := by decide +kernel
theorem d_Vs_letter_31 : decode b_Vs_letter 31 = .ok (.areturn, 1) := by decide +kernel
set_option maxHeartbeats 4000000 in
set_option maxRecDepth 100000 in
theorem c_Vs_letter (l : Launch) (E : gh_E) (sz : Nat) (f : gh_F) (P : Nat → Prop) (vs nu no ye ni al ga : Nat) (k : Nat) (hV : vs_C E P f vs nu no ye ni al ga) (hP : ∀ q, f q = none → P q) (hk : 97 ≤ k ∧ k ≤ 122) : gh_M l y_Vs_letter b_Vs_letter 3 (some (.object "QueryMachine$Value")) E sz [.ref vs, .int (nI k)] f { frames := 1, cells := 0, slots := 0, locals := 12 } (fun r g => (∃ a, r = some (.ref a) ∧ cv_S E P g a [nI k]) ∧ g = f) := by
  have hVc := hV
  obtain ⟨⟨pvs, pni, pal⟩, hvs, hnu, hno, hye, ⟨g0, hni⟩, g1, X1, hal, hX1⟩ := hVc
  refine gh_open (by decide) (Nat.le_of_ble_eq_true rfl) ?_
  intro p e s m args below meth c A ls hAe C V hr hlocks hname hl
  have hx := C.1
  have hb := C.2.1
  have hl : lv_has ls 3 [(0, .ref vs), (1, .int (nI k))] := hl
  refine lv_iload_n hx hb d_Vs_letter_0 rfl (lv_at hl 1 rfl) ?_
  refine lv_bipush (v := 97) hx hb d_Vs_letter_1 (by decide) ?_
  refine gn_isub (a := k) (b := 97) hx hb (by omega) d_Vs_letter_3 ?_
  refine lv_istore_n hx hb d_Vs_letter_4 rfl hl (by decide) rfl (fun ls hl => ?_)
  have hl : lv_has ls 3 [(2, .int (nI (k - 97))), (0, .ref vs), (1, .int (nI k))] := hl
  refine lv_iload_n hx hb d_Vs_letter_5 rfl (lv_at hl 0 rfl) ?_
  refine lv_if_lt (tgt := 27) hx hb d_Vs_letter_6 (by decide) (fun c1 => absurd c1 (nI_pos (by omega))) (fun c1 => ?_)
  refine lv_iload_n hx hb d_Vs_letter_9 rfl (lv_at hl 0 rfl) ?_
  refine lv_aload_n hx hb d_Vs_letter_10 rfl (lv_at hl 1 rfl) ?_
  refine gh_get C V hvs gc_Vs gi_Vs 4 (by decide) f_Vs_34 rfl rfl d_Vs_letter_11 ?_
  refine gh_alen (t0 := 4) C V rfl hal (v := nI 26) rfl d_Vs_letter_14 ?_
  refine lv_icmp_ge (tgt := 27) hx hb d_Vs_letter_15 (by decide) (fun c2 => absurd c2 (nI_ge (by omega) (by omega))) (fun c2 => ?_)
  refine lv_aload_n hx hb d_Vs_letter_18 rfl (lv_at hl 1 rfl) ?_
  refine gh_get C V hvs gc_Vs gi_Vs 4 (by decide) f_Vs_34 rfl rfl d_Vs_letter_19 ?_
  refine lv_iload_n hx hb d_Vs_letter_22 rfl (lv_at hl 0 rfl) ?_
  refine gn_aald (t0 := 4) (i := k - 97) (v := (X1 (k - 97))) C V rfl hal (by omega) (by omega) (hX1 (k - 97) (by omega)).1 d_Vs_letter_23 ?_
  refine lv_goto (tgt := 31) hx hb d_Vs_letter_24 (by decide) ?_
  refine gh_reta hAe C V hr (by first | exact Or.inl ⟨_, rfl⟩ | exact Or.inr ⟨_, rfl⟩) (by first | exact Or.inl rfl | exact Or.inr ⟨_, rfl⟩) hlocks d_Vs_letter_31 (by first | decide | omega | (dsimp only; omega)) (by first | decide | omega | (dsimp only; omega)) ?_
  have hz := (hX1 (k - 97) (by omega)).2
  rw [show 97 + (k - 97) = k by omega] at hz
  exact ⟨⟨_, rfl, hz⟩, rfl⟩
theorem d_Vs_string_0 : decode b_Vs_string 0 = .ok (.iload_n 2, 1) := by decide +kernel
theorem d_Vs_string_1 : decode b_Vs_string 1 = .ok (.newarray .char, 2) := by decide +kernel
theorem d_Vs_string_3 : decode b_Vs_string 3 = .ok (.astore_n 3, 1) := by decide +kernel
theorem d_Vs_string_4 : decode b_Vs_string 4 = .ok (.iconst 0, 1) := by decide +kernel
theorem d_Vs_string_5 : decode b_Vs_string 5 = .ok (.istore 4, 2) := by decide +kernel
theorem d_Vs_string_7 : decode b_Vs_string 7 = .ok (.iload 4, 2) := by decide +kernel
theorem d_Vs_string_9 : decode b_Vs_string 9 = .ok (.iload_n 2, 1) := by decide +kernel
theorem d_Vs_string_10 : decode b_Vs_string 10 = .ok (.if_icmp .ge 24, 3) := by decide +kernel
theorem d_Vs_string_13 : decode b_Vs_string 13 = .ok (.iload 4, 2) := by decide +kernel
theorem d_Vs_string_15 : decode b_Vs_string 15 = .ok (.aload_n 1, 1) := by decide +kernel
theorem d_Vs_string_16 : decode b_Vs_string 16 = .ok (.arraylength, 1) := by decide +kernel
theorem d_Vs_string_17 : decode b_Vs_string 17 = .ok (.if_icmp .ge 17, 3) := by decide +kernel
theorem d_Vs_string_20 : decode b_Vs_string 20 = .ok (.aload_n 3, 1) := by decide +kernel
theorem d_Vs_string_21 : decode b_Vs_string 21 = .ok (.iload 4, 2) := by decide +kernel
theorem d_Vs_string_23 : decode b_Vs_string 23 = .ok (.aload_n 1, 1) := by decide +kernel
theorem d_Vs_string_24 : decode b_Vs_string 24 = .ok (.iload 4, 2) := by decide +kernel
theorem d_Vs_string_26 : decode b_Vs_string 26 = .ok (.caload, 1) := by decide +kernel
theorem d_Vs_string_27 : decode b_Vs_string 27 = .ok (.castore, 1) := by decide +kernel
theorem d_Vs_string_28 : decode b_Vs_string 28 = .ok (.iinc 4 1, 3) := by decide +kernel
theorem d_Vs_string_31 : decode b_Vs_string 31 = .ok (.goto (-24), 3) := by decide +kernel
theorem d_Vs_string_34 : decode b_Vs_string 34 = .ok (.new 7, 3) := by decide +kernel
theorem d_Vs_string_37 : decode b_Vs_string 37 = .ok (.dup, 1) := by decide +kernel
theorem d_Vs_string_38 : decode b_Vs_string 38 = .ok (.iconst 4, 1) := by decide +kernel
theorem d_Vs_string_39 : decode b_Vs_string 39 = .ok (.lconst 0, 1) := by decide +kernel
theorem d_Vs_string_40 : decode b_Vs_string 40 = .ok (.aload_n 3, 1) := by decide +kernel
theorem d_Vs_string_41 : decode b_Vs_string 41 = .ok (.aload_n 0, 1) := by decide +kernel
theorem d_Vs_string_42 : decode b_Vs_string 42 = .ok (.getfield 9, 3) := by decide +kernel
theorem d_Vs_string_45 : decode b_Vs_string 45 = .ok (.aload_n 0, 1) := by decide +kernel
theorem d_Vs_string_46 : decode b_Vs_string 46 = .ok (.getfield 9, 3) := by decide +kernel
theorem d_Vs_string_49 : decode b_Vs_string 49 = .ok (.invokespecial 19, 3) := by decide +kernel
theorem d_Vs_string_52 : decode b_Vs_string 52 = .ok (.areturn, 1) := by decide +kernel
set_option maxHeartbeats 4000000 in
set_option maxRecDepth 100000 in
theorem c_Vs_string (l : Launch) (E : gh_E) (sz : Nat) (f : gh_F) (P : Nat → Prop) (vs nu no ye ni al ga : Nat) (fr : Nat) (L : List Int32) (gl : Nat → Int32) (hV : vs_C E P f vs nu no ye ni al ga) (hP : ∀ q, f q = none → P q) (hfm : f fr = some (.inl (E.2.2.1 2, 24, .inl gl))) (hL : lt_ok L) (hgl : ∀ j, j < L.length → gl j = L.getD j 0) : gh_M l y_Vs_string b_Vs_string 5 (some (.object "QueryMachine$Value")) E sz [.ref vs, .ref fr, .int (nI (L.length))] f { frames := 2, cells := 2, slots := 31, locals := 60 } (fun r g => (∃ a, r = some (.ref a) ∧ cv_S E P g a L) ∧ gh_fr f g (fun b => b ∈ ([] : List Nat))) := by
  have hVc := hV
  obtain ⟨⟨pvs, pni, pal⟩, hvs, hnu, hno, hye, ⟨g0, hni⟩, g1, X1, hal, hX1⟩ := hVc
  have hL24 := hL.1
  refine gh_open (by decide) (Nat.le_of_ble_eq_true rfl) ?_
  intro p e s m args below meth c A ls hAe C V hr hlocks hname hl
  have hx := C.1
  have hb := C.2.1
  have hl : lv_has ls 5 [(0, .ref vs), (1, .ref fr), (2, .int (nI (L.length)))] := hl
  have hfr : gh_fr f f (fun b => b ∈ ([] : List Nat)) := gh_fr.rf
  refine lv_iload_n hx hb d_Vs_string_0 rfl (lv_at hl 2 rfl) ?_
  refine gh_newa (atype := .char) (ty := .char) (t0 := 2) (a0 := (L.length, .inl (fun _ => 0))) (N := L.length) C V rfl ac_char rfl (fun _ h => by cases h) (gh_a0i _ .char rfl) (nI_pos (by omega)) (nI_clamp (by omega)) (by rw [show componentBytes FieldType.char = 2 from rfl]; omega) (by first | decide | omega | (dsimp only; omega)) (by first | decide | omega | (dsimp only; omega)) d_Vs_string_1 (fun q1 H hnq1 V => ?_)
  obtain ⟨f2, hff2⟩ : ∃ z9 : gh_F, z9 = gh_u f q1 (.inl (E.2.2.1 2, L.length, .inl (fun _ => 0))) := ⟨_, rfl⟩
  have V : gh_V E A f2 s H [] := by rw [hff2]; exact V
  have nz_q1 : f q1 = none := hfr.non hnq1
  have hfr : gh_fr f f2 (fun b => b ∈ ([] : List Nat)) := by rw [hff2]; exact hfr.put (Or.inr nz_q1)
  have ne_vs_q1 : vs ≠ q1 := gh_ne0 hvs hnq1
  have h_vs_f2 : f2 vs = some (.inr (7, [.ref nu, .ref no, .ref ye, .ref ni, .ref al, .ref ga])) := by rw [hff2, gh_un ne_vs_q1]; exact hvs
  have ne_ni_q1 : ni ≠ q1 := gh_ne0 hni hnq1
  have h_ni_f2 : f2 ni = some (.inl (E.2.2.1 4, 0, .inr (.inr (.inr (.inr g0))))) := by rw [hff2, gh_un ne_ni_q1]; exact hni
  have ne_fr_q1 : fr ≠ q1 := gh_ne0 hfm hnq1
  have h_fr_f2 : f2 fr = some (.inl (E.2.2.1 2, 24, .inl gl)) := by rw [hff2, gh_un ne_fr_q1]; exact hfm
  have h_q1_f2 : f2 q1 = some (.inl (E.2.2.1 2, L.length, .inl (fun _ => 0))) := by rw [hff2, gh_us]
  refine lv_astore_n hx hb d_Vs_string_3 rfl hl (by decide) rfl (fun ls hl => ?_)
  have hl : lv_has ls 5 [(3, .ref q1), (0, .ref vs), (1, .ref fr), (2, .int (nI (L.length)))] := hl
  refine lv_iconst (v := 0) hx hb d_Vs_string_4 (by decide) ?_
  refine lv_istore hx hb d_Vs_string_5 hl (by decide) rfl (fun ls hl => ?_)
  have hl : lv_has ls 5 [(4, .int 0), (3, .ref q1), (0, .ref vs), (1, .ref fr), (2, .int (nI (L.length)))] := hl
  have hl : lv_has ls 5 [(4, .int 0), (0, .ref vs), (1, .ref fr), (2, .int (nI (L.length))), (3, .ref q1)] := lv_sub hl [0, 2, 3, 4, 1] rfl
  have hl : lv_has ls 5 [(4, .int (nI 0)), (0, .ref vs), (1, .ref fr), (2, .int (nI (L.length))), (3, .ref q1)] := hl
  have loop : ∀ (n9 i9 : Nat) (gx : Nat → Int32) (f1 : gh_F) (H : Heap) (locs : List Loc) (ls : Array Slot), i9 + n9 = L.length → f1 q1 = some (.inl (E.2.2.1 2, L.length, .inl gx)) → (∀ j, j < i9 → gx j = L.getD j 0) → gh_fr f f1 (fun b => b ∈ ([] : List Nat)) → gh_V E A f1 s H locs → lv_has ls 5 [(4, .int (nI i9)), (0, .ref vs), (1, .ref fr), (2, .int (nI (L.length))), (3, .ref q1)] → W p l e { frames := 2, cells := 2, slots := 31, locals := 60 } s m args below meth c H locs (0 + 1) (0 + L.length) (MQ below (gh_Q E f (fun r g => (∃ a, r = some (.ref a) ∧ cv_S E P g a L) ∧ gh_fr f g (fun b => b ∈ ([] : List Nat)))) args s 2 31 A) (F0 m 7 ls []) := by
    intro n9
    induction n9 with
    | zero =>
      intro i9 gx f1 H locs ls hi hq hgx hfr V hl
      have hvs1 := hfr.at hvs (by simp)
      have hni1 := hfr.at hni (by simp)
      have hfm1 := hfr.at hfm (by simp)
      refine lv_iload hx hb d_Vs_string_7 (lv_at hl 0 rfl) ?_
      refine lv_iload_n hx hb d_Vs_string_9 rfl (lv_at hl 3 rfl) ?_
      refine lv_icmp_ge (tgt := 34) hx hb d_Vs_string_10 (by decide) (fun c3 => ?_) (fun c3 => absurd (nI_le (by omega) (by omega)) c3)
      refine gh_new (fs := [.int 0, .long 0, .null, .null, .null, .int 0, .int 0]) C V gc_Va gi_Va ty_Va k_Vs_7 n_Va i_Va (by decide) (by first | decide | omega | (dsimp only; omega)) (by first | decide | omega | (dsimp only; omega)) d_Vs_string_34 (fun q4 H hnq4 V => ?_)
      obtain ⟨f5, hff5⟩ : ∃ z9 : gh_F, z9 = gh_u f1 q4 (.inr (6, [.int 0, .long 0, .null, .null, .null, .int 0, .int 0])) := ⟨_, rfl⟩
      have V : gh_V E A f5 s H locs := by rw [hff5]; exact V
      have nz_q4 : f q4 = none := hfr.non hnq4
      have hfr : gh_fr f f5 (fun b => b ∈ ([] : List Nat)) := by rw [hff5]; exact hfr.put (Or.inr nz_q4)
      have ne_vs_q4 : vs ≠ q4 := gh_ne0 hvs1 hnq4
      have h_vs_f5 : f5 vs = some (.inr (7, [.ref nu, .ref no, .ref ye, .ref ni, .ref al, .ref ga])) := by rw [hff5, gh_un ne_vs_q4]; exact hvs1
      have ne_ni_q4 : ni ≠ q4 := gh_ne0 hni1 hnq4
      have h_ni_f5 : f5 ni = some (.inl (E.2.2.1 4, 0, .inr (.inr (.inr (.inr g0))))) := by rw [hff5, gh_un ne_ni_q4]; exact hni1
      have ne_fr_q4 : fr ≠ q4 := gh_ne0 hfm1 hnq4
      have h_fr_f5 : f5 fr = some (.inl (E.2.2.1 2, 24, .inl gl)) := by rw [hff5, gh_un ne_fr_q4]; exact hfm1
      have ne_q1_q4 : q1 ≠ q4 := gh_ne0 hq hnq4
      have h_q1_f5 : f5 q1 = some (.inl (E.2.2.1 2, L.length, .inl gx)) := by rw [hff5, gh_un ne_q1_q4]; exact hq
      have h_q4_f5 : f5 q4 = some (.inr (6, [.int 0, .long 0, .null, .null, .null, .int 0, .int 0])) := by rw [hff5, gh_us]
      refine lv_dup hx hb d_Vs_string_37 rfl ?_
      refine lv_iconst (v := 4) hx hb d_Vs_string_38 (by decide) ?_
      refine lv_lconst (v := 0) hx hb d_Vs_string_39 (by decide) ?_
      refine lv_aload_n hx hb d_Vs_string_40 rfl (lv_at hl 4 rfl) ?_
      refine lv_aload_n hx hb d_Vs_string_41 rfl (lv_at hl 1 rfl) ?_
      refine gh_get C V h_vs_f5 gc_Vs gi_Vs 3 (by decide) f_Vs_9 rfl rfl d_Vs_string_42 ?_
      refine lv_aload_n hx hb d_Vs_string_45 rfl (lv_at hl 1 rfl) ?_
      refine gh_get C V h_vs_f5 gc_Vs gi_Vs 3 (by decide) f_Vs_9 rfl rfl d_Vs_string_46 ?_
      refine gh_callI C V hl.1 m_Va_init l_Vs_19 (c_Va_init l E _ f5 q4 4 0 q1 ni ni 0 g0 (fun _ => 0) (fun _ => 0) (fun _ => 0) h_q4_f5 h_ni_f5 (by decide) (fun j hj => absurd hj (Nat.not_lt_zero j))) rfl ⟨by first | decide | omega | (dsimp only; omega), by first | decide | omega | (dsimp only; omega)⟩ ⟨by first | decide | omega | (dsimp only; omega), by first | decide | omega | (dsimp only; omega)⟩ (Nat.le_of_ble_eq_true rfl) rfl d_Vs_string_49 (fun r f6 H locs hp V => ?_)
      obtain ⟨rfl, h_q4_c, hfr2⟩ := hp
      refine W.eq (g2 := F0 m 52 ls [.ref q4]) rfl ?_
      have h_vs_f6 : f6 vs = some (.inr (7, [.ref nu, .ref no, .ref ye, .ref ni, .ref al, .ref ga])) := hfr2.at1 h_vs_f5 ne_vs_q4
      have h_ni_f6 : f6 ni = some (.inl (E.2.2.1 4, 0, .inr (.inr (.inr (.inr g0))))) := hfr2.at1 h_ni_f5 ne_ni_q4
      have h_fr_f6 : f6 fr = some (.inl (E.2.2.1 2, 24, .inl gl)) := hfr2.at1 h_fr_f5 ne_fr_q4
      have h_q1_f6 : f6 q1 = some (.inl (E.2.2.1 2, L.length, .inl gx)) := hfr2.at1 h_q1_f5 ne_q1_q4
      have hfr : gh_fr f f6 (fun b => b ∈ ([] : List Nat)) := hfr.tr1 hfr2 (Or.inr nz_q4)
      have h_q4_c : f6 q4 = some (.inr (6, [.int 4, .long 0, .ref q1, .ref ni, .ref ni, .int 1, .int 0])) := h_q4_c
      refine gh_reta hAe C V hr (by first | exact Or.inl ⟨_, rfl⟩ | exact Or.inr ⟨_, rfl⟩) (by first | exact Or.inl rfl | exact Or.inr ⟨_, rfl⟩) hlocks d_Vs_string_52 (by first | decide | omega | (dsimp only; omega)) (by first | decide | omega | (dsimp only; omega)) ?_
      exact ⟨⟨q4, rfl, q1, ni, ni, g0, g0, ⟨hP _ nz_q4, pni, pni⟩, h_q4_c, ⟨hP _ nz_q1, gx, h_q1_f6, fun j hj => hgx j (by omega)⟩, h_ni_f6, h_ni_f6⟩, hfr⟩
    | succ n9 ih =>
      intro i9 gx f1 H locs ls hi hq hgx hfr V hl
      have hvs1 := hfr.at hvs (by simp)
      have hni1 := hfr.at hni (by simp)
      have hfm1 := hfr.at hfm (by simp)
      refine lv_iload hx hb d_Vs_string_7 (lv_at hl 0 rfl) ?_
      refine lv_iload_n hx hb d_Vs_string_9 rfl (lv_at hl 3 rfl) ?_
      refine lv_icmp_ge (tgt := 34) hx hb d_Vs_string_10 (by decide) (fun c7 => absurd c7 (nI_ge (by omega) (by omega))) (fun c7 => ?_)
      refine lv_iload hx hb d_Vs_string_13 (lv_at hl 0 rfl) ?_
      refine lv_aload_n hx hb d_Vs_string_15 rfl (lv_at hl 2 rfl) ?_
      refine gh_alen (t0 := 2) C V rfl hfm1 (v := nI 24) rfl d_Vs_string_16 ?_
      refine lv_icmp_ge (tgt := 34) hx hb d_Vs_string_17 (by decide) (fun c8 => absurd c8 (nI_ge (by omega) (by omega))) (fun c8 => ?_)
      refine lv_aload_n hx hb d_Vs_string_20 rfl (lv_at hl 4 rfl) ?_
      refine lv_iload hx hb d_Vs_string_21 (lv_at hl 0 rfl) ?_
      refine lv_aload_n hx hb d_Vs_string_23 rfl (lv_at hl 2 rfl) ?_
      refine lv_iload hx hb d_Vs_string_24 (lv_at hl 0 rfl) ?_
      refine gn_cald (i := i9) C V hfm1 (by omega) (by omega) d_Vs_string_26 ?_
      refine gn_cast (i := i9) C V hq (by omega) (by omega) d_Vs_string_27 (fun H locs V => ?_)
      obtain ⟨f9, hff9⟩ : ∃ z9 : gh_F, z9 = gh_u f1 q1 (.inl (E.2.2.1 2, L.length, .inl (upd gx i9 (vp_nar .char (gl i9))))) := ⟨_, rfl⟩
      have V : gh_V E A f9 s H locs := by rw [hff9]; exact V
      have hfr : gh_fr f f9 (fun b => b ∈ ([] : List Nat)) := by rw [hff9]; exact hfr.put (Or.inr nz_q1)
      have h_vs_f9 : f9 vs = some (.inr (7, [.ref nu, .ref no, .ref ye, .ref ni, .ref al, .ref ga])) := by rw [hff9, gh_un ne_vs_q1]; exact hvs1
      have h_ni_f9 : f9 ni = some (.inl (E.2.2.1 4, 0, .inr (.inr (.inr (.inr g0))))) := by rw [hff9, gh_un ne_ni_q1]; exact hni1
      have h_fr_f9 : f9 fr = some (.inl (E.2.2.1 2, 24, .inl gl)) := by rw [hff9, gh_un ne_fr_q1]; exact hfm1
      have h_q1_f9 : f9 q1 = some (.inl (E.2.2.1 2, L.length, .inl (upd gx i9 (vp_nar .char (gl i9))))) := by rw [hff9, gh_us]
      refine lv_iinc (k := 0) (v := (nI i9) + 1) hx hb d_Vs_string_28 hl rfl (by rfl) (by decide) rfl (fun ls hl => ?_)
      have hl : lv_has ls 5 [(4, .int (nI (i9 + 1))), (0, .ref vs), (1, .ref fr), (2, .int (nI (L.length))), (3, .ref q1)] := by rw [nI_succ]; exact hl
      refine lv_goto (tgt := 7) hx hb d_Vs_string_31 (by decide) ?_
      have hl : lv_has ls 5 [(4, .int (nI (i9 + 1))), (0, .ref vs), (1, .ref fr), (2, .int (nI (L.length))), (3, .ref q1)] := lv_sub hl [0, 1, 2, 3, 4] rfl
      have hl : lv_has ls 5 [(4, .int (nI (i9 + 1))), (0, .ref vs), (1, .ref fr), (2, .int (nI (L.length))), (3, .ref q1)] := hl
      exact ih (i9 + 1) _ _ H locs ls (by omega) h_q1_f9 (lt_step hL (by omega) hgx (hgl i9 (by omega))) hfr V hl
  exact loop (L.length) 0 (fun _ => 0) f2 _ _ ls (by omega) h_q1_f2 (fun j hj => absurd hj (Nat.not_lt_zero j)) hfr V hl
theorem d_Vs_firstOf_0 : decode b_Vs_firstOf 0 = .ok (.iload_n 2, 1) := by decide +kernel
theorem d_Vs_firstOf_1 : decode b_Vs_firstOf 1 = .ok (.ifCond .ne 8, 3) := by decide +kernel
theorem d_Vs_firstOf_4 : decode b_Vs_firstOf 4 = .ok (.aload_n 0, 1) := by decide +kernel
theorem d_Vs_firstOf_5 : decode b_Vs_firstOf 5 = .ok (.getfield 9, 3) := by decide +kernel
theorem d_Vs_firstOf_8 : decode b_Vs_firstOf 8 = .ok (.areturn, 1) := by decide +kernel
theorem d_Vs_firstOf_9 : decode b_Vs_firstOf 9 = .ok (.iload_n 2, 1) := by decide +kernel
theorem d_Vs_firstOf_10 : decode b_Vs_firstOf 10 = .ok (.anewarray 7, 3) := by decide +kernel
theorem d_Vs_firstOf_13 : decode b_Vs_firstOf 13 = .ok (.astore_n 3, 1) := by decide +kernel
theorem d_Vs_firstOf_14 : decode b_Vs_firstOf 14 = .ok (.iconst 0, 1) := by decide +kernel
theorem d_Vs_firstOf_15 : decode b_Vs_firstOf 15 = .ok (.istore 4, 2) := by decide +kernel
theorem d_Vs_firstOf_17 : decode b_Vs_firstOf 17 = .ok (.iload 4, 2) := by decide +kernel
theorem d_Vs_firstOf_19 : decode b_Vs_firstOf 19 = .ok (.iload_n 2, 1) := by decide +kernel
theorem d_Vs_firstOf_20 : decode b_Vs_firstOf 20 = .ok (.if_icmp .ge 24, 3) := by decide +kernel
theorem d_Vs_firstOf_23 : decode b_Vs_firstOf 23 = .ok (.iload 4, 2) := by decide +kernel
theorem d_Vs_firstOf_25 : decode b_Vs_firstOf 25 = .ok (.aload_n 1, 1) := by decide +kernel
theorem d_Vs_firstOf_26 : decode b_Vs_firstOf 26 = .ok (.arraylength, 1) := by decide +kernel
theorem d_Vs_firstOf_27 : decode b_Vs_firstOf 27 = .ok (.if_icmp .ge 17, 3) := by decide +kernel
theorem d_Vs_firstOf_30 : decode b_Vs_firstOf 30 = .ok (.aload_n 3, 1) := by decide +kernel
theorem d_Vs_firstOf_31 : decode b_Vs_firstOf 31 = .ok (.iload 4, 2) := by decide +kernel
theorem d_Vs_firstOf_33 : decode b_Vs_firstOf 33 = .ok (.aload_n 1, 1) := by decide +kernel
theorem d_Vs_firstOf_34 : decode b_Vs_firstOf 34 = .ok (.iload 4, 2) := by decide +kernel
theorem d_Vs_firstOf_36 : decode b_Vs_firstOf 36 = .ok (.aaload, 1) := by decide +kernel
theorem d_Vs_firstOf_37 : decode b_Vs_firstOf 37 = .ok (.aastore, 1) := by decide +kernel
theorem d_Vs_firstOf_38 : decode b_Vs_firstOf 38 = .ok (.iinc 4 1, 3) := by decide +kernel
theorem d_Vs_firstOf_41 : decode b_Vs_firstOf 41 = .ok (.goto (-24), 3) := by decide +kernel
theorem d_Vs_firstOf_44 : decode b_Vs_firstOf 44 = .ok (.aload_n 3, 1) := by decide +kernel
theorem d_Vs_firstOf_45 : decode b_Vs_firstOf 45 = .ok (.areturn, 1) := by decide +kernel
set_option maxHeartbeats 4000000 in
set_option maxRecDepth 100000 in
theorem c_Vs_firstOf (l : Launch) (E : gh_E) (sz : Nat) (f : gh_F) (P : Nat → Prop) (vs nu no ye ni al ga : Nat) (fa z : Nat) (gi : Nat → Option Nat) (B : Nat → Nat) (hV : vs_C E P f vs nu no ye ni al ga) (hP : ∀ q, f q = none → P q) (hfa : f fa = some (.inl (E.2.2.1 4, 16, .inr (.inr (.inr (.inr gi)))))) (hz : z ≤ 16) (hB : ∀ j, j < z → gi j = some (B j) ∧ ∃ vs9 : List Value, f (B j) = some (.inr (6, vs9))) : gh_M l y_Vs_firstOf b_Vs_firstOf 5 (some (.array (.object "QueryMachine$Value"))) E sz [.ref vs, .ref fa, .int (nI z)] f { frames := 1, cells := 1, slots := 16, locals := 12 } (fun r g => ∃ (a : Nat) (gx : Nat → Option Nat), r = some (.ref a) ∧ g a = some (.inl (E.2.2.1 4, z, .inr (.inr (.inr (.inr gx))))) ∧ (∀ j, j < z → gx j = some (B j)) ∧ P a ∧ gh_fr f g (fun b => b ∈ ([] : List Nat))) := by
  have hVc := hV
  obtain ⟨⟨pvs, pni, pal⟩, hvs, hnu, hno, hye, ⟨g0, hni⟩, g1, X1, hal, hX1⟩ := hVc
  refine gh_open (by decide) (Nat.le_of_ble_eq_true rfl) ?_
  intro p e s m args below meth c A ls hAe C V hr hlocks hname hl
  have hx := C.1
  have hb := C.2.1
  have hl : lv_has ls 5 [(0, .ref vs), (1, .ref fa), (2, .int (nI z))] := hl
  have hfr : gh_fr f f (fun b => b ∈ ([] : List Nat)) := gh_fr.rf
  refine lv_iload_n hx hb d_Vs_firstOf_0 rfl (lv_at hl 2 rfl) ?_
  refine lv_if_ne (tgt := 9) hx hb d_Vs_firstOf_1 (by decide) (fun c1 => ?_) (fun c1 => ?_)
  · have c1 : ¬ z = 0 := by rw [← gq_eq (a := z) (b := 0) (by omega) (by omega)]; exact c1
    refine lv_iload_n hx hb d_Vs_firstOf_9 rfl (lv_at hl 2 rfl) ?_
    refine gh_newq (t0 := 4) (N := z) C V k_Vs_7 C.2.2.2.2.2.2.2.1.2.2.2.2.2.2.1 rfl (nI_pos (by omega)) (nI_clamp (by omega)) (by omega) (by first | decide | omega | (dsimp only; omega)) (by first | decide | omega | (dsimp only; omega)) d_Vs_firstOf_10 (fun q2 H hnq2 V => ?_)
    obtain ⟨f3, hff3⟩ : ∃ z9 : gh_F, z9 = gh_u f q2 (.inl (E.2.2.1 4, z, .inr (.inr (.inr (.inr (fun _ => none)))))) := ⟨_, rfl⟩
    have V : gh_V E A f3 s H [] := by rw [hff3]; exact V
    have nz_q2 : f q2 = none := hfr.non hnq2
    have hfr : gh_fr f f3 (fun b => b ∈ ([] : List Nat)) := by rw [hff3]; exact hfr.put (Or.inr nz_q2)
    have ne_vs_q2 : vs ≠ q2 := gh_ne0 hvs hnq2
    have h_vs_f3 : f3 vs = some (.inr (7, [.ref nu, .ref no, .ref ye, .ref ni, .ref al, .ref ga])) := by rw [hff3, gh_un ne_vs_q2]; exact hvs
    have ne_ni_q2 : ni ≠ q2 := gh_ne0 hni hnq2
    have h_ni_f3 : f3 ni = some (.inl (E.2.2.1 4, 0, .inr (.inr (.inr (.inr g0))))) := by rw [hff3, gh_un ne_ni_q2]; exact hni
    have ne_fa_q2 : fa ≠ q2 := gh_ne0 hfa hnq2
    have h_fa_f3 : f3 fa = some (.inl (E.2.2.1 4, 16, .inr (.inr (.inr (.inr gi))))) := by rw [hff3, gh_un ne_fa_q2]; exact hfa
    have h_q2_f3 : f3 q2 = some (.inl (E.2.2.1 4, z, .inr (.inr (.inr (.inr (fun _ => none)))))) := by rw [hff3, gh_us]
    refine lv_astore_n hx hb d_Vs_firstOf_13 rfl hl (by decide) rfl (fun ls hl => ?_)
    have hl : lv_has ls 5 [(3, .ref q2), (0, .ref vs), (1, .ref fa), (2, .int (nI z))] := hl
    refine lv_iconst (v := 0) hx hb d_Vs_firstOf_14 (by decide) ?_
    refine lv_istore hx hb d_Vs_firstOf_15 hl (by decide) rfl (fun ls hl => ?_)
    have hl : lv_has ls 5 [(4, .int 0), (3, .ref q2), (0, .ref vs), (1, .ref fa), (2, .int (nI z))] := hl
    have hl : lv_has ls 5 [(4, .int 0), (0, .ref vs), (1, .ref fa), (2, .int (nI z)), (3, .ref q2)] := lv_sub hl [0, 2, 3, 4, 1] rfl
    have hl : lv_has ls 5 [(4, .int (nI 0)), (0, .ref vs), (1, .ref fa), (2, .int (nI z)), (3, .ref q2)] := hl
    have loop : ∀ (n9 i9 : Nat) (gx : Nat → Option Nat) (f1 : gh_F) (H : Heap) (locs : List Loc) (ls : Array Slot), i9 + n9 = z → f1 q2 = some (.inl (E.2.2.1 4, z, .inr (.inr (.inr (.inr gx))))) → (∀ j, j < i9 → gx j = some (B j)) → gh_fr f f1 (fun b => b ∈ ([] : List Nat)) → gh_V E A f1 s H locs → lv_has ls 5 [(4, .int (nI i9)), (0, .ref vs), (1, .ref fa), (2, .int (nI z)), (3, .ref q2)] → W p l e { frames := 1, cells := 1, slots := 16, locals := 12 } s m args below meth c H locs (0 + 1) (0 + z) (MQ below (gh_Q E f (fun r g => ∃ (a : Nat) (gx : Nat → Option Nat), r = some (.ref a) ∧ g a = some (.inl (E.2.2.1 4, z, .inr (.inr (.inr (.inr gx))))) ∧ (∀ j, j < z → gx j = some (B j)) ∧ P a ∧ gh_fr f g (fun b => b ∈ ([] : List Nat)))) args s 1 16 A) (F0 m 17 ls []) := by
      intro n9
      induction n9 with
      | zero =>
        intro i9 gx f1 H locs ls hi hq hgx hfr V hl
        have hvs1 := hfr.at hvs (by simp)
        have hni1 := hfr.at hni (by simp)
        have hfa1 := hfr.at hfa (by simp)
        refine lv_iload hx hb d_Vs_firstOf_17 (lv_at hl 0 rfl) ?_
        refine lv_iload_n hx hb d_Vs_firstOf_19 rfl (lv_at hl 3 rfl) ?_
        refine lv_icmp_ge (tgt := 44) hx hb d_Vs_firstOf_20 (by decide) (fun c4 => ?_) (fun c4 => absurd (nI_le (by omega) (by omega)) c4)
        refine lv_aload_n hx hb d_Vs_firstOf_44 rfl (lv_at hl 4 rfl) ?_
        refine gh_reta hAe C V hr (by first | exact Or.inl ⟨_, rfl⟩ | exact Or.inr ⟨_, rfl⟩) (by first | exact Or.inl rfl | exact Or.inr ⟨_, rfl⟩) hlocks d_Vs_firstOf_45 (by first | decide | omega | (dsimp only; omega)) (by first | decide | omega | (dsimp only; omega)) ?_
        exact ⟨q2, gx, rfl, hq, fun j hj => hgx j (by omega), hP _ nz_q2, hfr⟩
      | succ n9 ih =>
        intro i9 gx f1 H locs ls hi hq hgx hfr V hl
        have hvs1 := hfr.at hvs (by simp)
        have hni1 := hfr.at hni (by simp)
        have hfa1 := hfr.at hfa (by simp)
        obtain ⟨vs9, hvs9⟩ := (hB i9 (by omega)).2
        have hvs9 := hfr.at hvs9 (by simp)
        refine lv_iload hx hb d_Vs_firstOf_17 (lv_at hl 0 rfl) ?_
        refine lv_iload_n hx hb d_Vs_firstOf_19 rfl (lv_at hl 3 rfl) ?_
        refine lv_icmp_ge (tgt := 44) hx hb d_Vs_firstOf_20 (by decide) (fun c5 => absurd c5 (nI_ge (by omega) (by omega))) (fun c5 => ?_)
        refine lv_iload hx hb d_Vs_firstOf_23 (lv_at hl 0 rfl) ?_
        refine lv_aload_n hx hb d_Vs_firstOf_25 rfl (lv_at hl 2 rfl) ?_
        refine gh_alen (t0 := 4) C V rfl hfa1 (v := nI 16) rfl d_Vs_firstOf_26 ?_
        refine lv_icmp_ge (tgt := 44) hx hb d_Vs_firstOf_27 (by decide) (fun c6 => absurd c6 (nI_ge (by omega) (by omega))) (fun c6 => ?_)
        refine lv_aload_n hx hb d_Vs_firstOf_30 rfl (lv_at hl 4 rfl) ?_
        refine lv_iload hx hb d_Vs_firstOf_31 (lv_at hl 0 rfl) ?_
        refine lv_aload_n hx hb d_Vs_firstOf_33 rfl (lv_at hl 2 rfl) ?_
        refine lv_iload hx hb d_Vs_firstOf_34 (lv_at hl 0 rfl) ?_
        refine gn_aald (t0 := 4) (i := i9) (v := (B i9)) C V rfl hfa1 (by omega) (by omega) (hB i9 (by omega)).1 d_Vs_firstOf_36 ?_
        refine gn_aast (t0 := 4) (i := i9) (r := (R_Va, T_Va, 7)) C V rfl hq hvs9 gc_Va (by omega) (by omega) d_Vs_firstOf_37 (fun H locs V => ?_)
        obtain ⟨f7, hff7⟩ : ∃ z9 : gh_F, z9 = gh_u f1 q2 (.inl (E.2.2.1 4, z, .inr (.inr (.inr (.inr (va_up gx i9 (some ((B i9))))))))) := ⟨_, rfl⟩
        have V : gh_V E A f7 s H locs := by rw [hff7]; exact V
        have hfr : gh_fr f f7 (fun b => b ∈ ([] : List Nat)) := by rw [hff7]; exact hfr.put (Or.inr nz_q2)
        have h_vs_f7 : f7 vs = some (.inr (7, [.ref nu, .ref no, .ref ye, .ref ni, .ref al, .ref ga])) := by rw [hff7, gh_un ne_vs_q2]; exact hvs1
        have h_ni_f7 : f7 ni = some (.inl (E.2.2.1 4, 0, .inr (.inr (.inr (.inr g0))))) := by rw [hff7, gh_un ne_ni_q2]; exact hni1
        have h_fa_f7 : f7 fa = some (.inl (E.2.2.1 4, 16, .inr (.inr (.inr (.inr gi))))) := by rw [hff7, gh_un ne_fa_q2]; exact hfa1
        have h__B_i9__f7 : f7 ((B i9)) = some (.inr (6, vs9)) := by rw [hff7, gh_un (gh_nek hvs9 hq (show (6 : Nat) ≠ 100 by decide))]; exact hvs9
        have h_q2_f7 : f7 q2 = some (.inl (E.2.2.1 4, z, .inr (.inr (.inr (.inr (va_up gx i9 (some ((B i9))))))))) := by rw [hff7, gh_us]
        refine lv_iinc (k := 0) (v := (nI i9) + 1) hx hb d_Vs_firstOf_38 hl rfl (by rfl) (by decide) rfl (fun ls hl => ?_)
        have hl : lv_has ls 5 [(4, .int (nI (i9 + 1))), (0, .ref vs), (1, .ref fa), (2, .int (nI z)), (3, .ref q2)] := by rw [nI_succ]; exact hl
        refine lv_goto (tgt := 17) hx hb d_Vs_firstOf_41 (by decide) ?_
        have hl : lv_has ls 5 [(4, .int (nI (i9 + 1))), (0, .ref vs), (1, .ref fa), (2, .int (nI z)), (3, .ref q2)] := lv_sub hl [0, 1, 2, 3, 4] rfl
        have hl : lv_has ls 5 [(4, .int (nI (i9 + 1))), (0, .ref vs), (1, .ref fa), (2, .int (nI z)), (3, .ref q2)] := hl
        exact ih (i9 + 1) _ _ H locs ls (by omega) h_q2_f7 (va_fill hgx) hfr V hl
    exact loop (z) 0 (fun _ => none) f3 _ _ ls (by omega) h_q2_f3 (fun j hj => absurd hj (Nat.not_lt_zero j)) hfr V hl
  · have c1 : z = 0 := by rw [← gq_eq (a := z) (b := 0) (by omega) (by omega)]; exact c1
    refine lv_aload_n hx hb d_Vs_firstOf_4 rfl (lv_at hl 0 rfl) ?_
    refine gh_get C V hvs gc_Vs gi_Vs 3 (by decide) f_Vs_9 rfl rfl d_Vs_firstOf_5 ?_
    refine gh_reta hAe C V hr (by first | exact Or.inl ⟨_, rfl⟩ | exact Or.inr ⟨_, rfl⟩) (by first | exact Or.inl rfl | exact Or.inr ⟨_, rfl⟩) hlocks d_Vs_firstOf_8 (by first | decide | omega | (dsimp only; omega)) (by first | decide | omega | (dsimp only; omega)) ?_
    exact ⟨ni, g0, rfl, by rw [c1]; exact hni, fun j hj => absurd hj (by omega), pni, hfr⟩
theorem d_Vs_areIntegers_0 : decode b_Vs_areIntegers 0 = .ok (.aload_n 0, 1) := by decide +kernel
theorem d_Vs_areIntegers_1 : decode b_Vs_areIntegers 1 = .ok (.getfield 78, 3) := by decide +kernel
theorem d_Vs_areIntegers_4 : decode b_Vs_areIntegers 4 = .ok (.iconst 3, 1) := by decide +kernel
theorem d_Vs_areIntegers_5 : decode b_Vs_areIntegers 5 = .ok (.if_icmp .ne 15, 3) := by decide +kernel
theorem d_Vs_areIntegers_8 : decode b_Vs_areIntegers 8 = .ok (.aload_n 1, 1) := by decide +kernel
theorem d_Vs_areIntegers_9 : decode b_Vs_areIntegers 9 = .ok (.getfield 78, 3) := by decide +kernel
theorem d_Vs_areIntegers_12 : decode b_Vs_areIntegers 12 = .ok (.iconst 3, 1) := by decide +kernel
theorem d_Vs_areIntegers_13 : decode b_Vs_areIntegers 13 = .ok (.if_icmp .ne 7, 3) := by decide +kernel
theorem d_Vs_areIntegers_16 : decode b_Vs_areIntegers 16 = .ok (.iconst 1, 1) := by decide +kernel
theorem d_Vs_areIntegers_17 : decode b_Vs_areIntegers 17 = .ok (.goto 4, 3) := by decide +kernel
theorem d_Vs_areIntegers_20 : decode b_Vs_areIntegers 20 = .ok (.iconst 0, 1) := by decide +kernel
theorem d_Vs_areIntegers_21 : decode b_Vs_areIntegers 21 = .ok (.ireturn, 1) := by decide +kernel
set_option maxHeartbeats 4000000 in
set_option maxRecDepth 100000 in
theorem c_Vs_areIntegers (l : Launch) (E : gh_E) (sz : Nat) (f : gh_F) (P : Nat → Prop) (x y : Nat) (X Y : vt) (hX : cw E P f x X) (hY : cw E P f y Y) : gh_M l y_Vs_areIntegers b_Vs_areIntegers 2 (some .boolean) E sz [.ref x, .ref y] f { frames := 1, cells := 0, slots := 0, locals := 12 } (fun r g => r = some (.int (gh_bi (decide (vt_k X = 3) && decide (vt_k Y = 3)))) ∧ g = f) := by
  have hk6 := (vo_o.mp hX.2).1
  have hk6y := (vo_o.mp hY.2).1
  refine gh_open (by decide) (Nat.le_of_ble_eq_true rfl) ?_
  intro p e s m args below meth c A ls hAe C V hr hlocks hname hl
  have hx := C.1
  have hb := C.2.1
  have hl : lv_has ls 2 [(0, .ref x), (1, .ref y)] := hl
  refine lv_aload_n hx hb d_Vs_areIntegers_0 rfl (lv_at hl 0 rfl) ?_
  obtain ⟨la_1, ka_1, ia_1, gk_1, gi_1, K_1, B_1, hp_1, h0_1, h1_1, h2_1, h3_1, h4_1, h5_1⟩ := cv_o.mp hX.1
  refine gh_get C V h0_1 gc_Va gi_Va 0 (by decide) f_Vs_78 rfl rfl d_Vs_areIntegers_1 ?_
  refine lv_iconst (v := 3) hx hb d_Vs_areIntegers_4 (by decide) ?_
  refine lv_icmp_ne (tgt := 20) hx hb d_Vs_areIntegers_5 (by decide) (fun c2 => ?_) (fun c2 => ?_)
  · have c2 : ¬ (vt_k X) = 3 := by rw [← gq_eq (a := vt_k X) (b := 3) (by omega) (by omega)]; exact c2
    refine lv_iconst (v := 0) hx hb d_Vs_areIntegers_20 (by decide) ?_
    refine gh_retz hAe C V hr (by first | rfl | exact gh_bi_nar _ | decide) hlocks d_Vs_areIntegers_21 (by first | decide | omega | (dsimp only; omega)) (by first | decide | omega | (dsimp only; omega)) ?_
    exact ⟨by simp [gh_bi, c2], rfl⟩
  · have c2 : (vt_k X) = 3 := by rw [← gq_eq (a := vt_k X) (b := 3) (by omega) (by omega)]; exact c2
    refine lv_aload_n hx hb d_Vs_areIntegers_8 rfl (lv_at hl 1 rfl) ?_
    obtain ⟨la_3, ka_3, ia_3, gk_3, gi_3, K_3, B_3, hp_3, h0_3, h1_3, h2_3, h3_3, h4_3, h5_3⟩ := cv_o.mp hY.1
    refine gh_get C V h0_3 gc_Va gi_Va 0 (by decide) f_Vs_78 rfl rfl d_Vs_areIntegers_9 ?_
    refine lv_iconst (v := 3) hx hb d_Vs_areIntegers_12 (by decide) ?_
    refine lv_icmp_ne (tgt := 20) hx hb d_Vs_areIntegers_13 (by decide) (fun c4 => ?_) (fun c4 => ?_)
    · have c4 : ¬ (vt_k Y) = 3 := by rw [← gq_eq (a := vt_k Y) (b := 3) (by omega) (by omega)]; exact c4
      refine lv_iconst (v := 0) hx hb d_Vs_areIntegers_20 (by decide) ?_
      refine gh_retz hAe C V hr (by first | rfl | exact gh_bi_nar _ | decide) hlocks d_Vs_areIntegers_21 (by first | decide | omega | (dsimp only; omega)) (by first | decide | omega | (dsimp only; omega)) ?_
      exact ⟨by simp [gh_bi, c2, c4], rfl⟩
    · have c4 : (vt_k Y) = 3 := by rw [← gq_eq (a := vt_k Y) (b := 3) (by omega) (by omega)]; exact c4
      refine lv_iconst (v := 1) hx hb d_Vs_areIntegers_16 (by decide) ?_
      refine lv_goto (tgt := 21) hx hb d_Vs_areIntegers_17 (by decide) ?_
      refine gh_retz hAe C V hr (by first | rfl | exact gh_bi_nar _ | decide) hlocks d_Vs_areIntegers_21 (by first | decide | omega | (dsimp only; omega)) (by first | decide | omega | (dsimp only; omega)) ?_
      exact ⟨by simp [gh_bi, c2, c4], rfl⟩
