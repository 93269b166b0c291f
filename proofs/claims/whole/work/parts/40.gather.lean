/-! The methods of Gathering. Printed by wip/whole/gen_ga.py. -/
theorem d_Ga_clear_0 : decode b_Ga_clear 0 = .ok (.aload_n 0, 1) := by decide +kernel
theorem d_Ga_clear_1 : decode b_Ga_clear 1 = .ok (.iconst 0, 1) := by decide +kernel
theorem d_Ga_clear_2 : decode b_Ga_clear 2 = .ok (.putfield 18, 3) := by decide +kernel
theorem d_Ga_clear_5 : decode b_Ga_clear 5 = .ok (.return_, 1) := by decide +kernel
set_option maxHeartbeats 4000000 in
set_option maxRecDepth 100000 in
theorem c_Ga_clear (l : Launch) (E : gh_E) (sz : Nat) (f : gh_F) (P : Nat → Prop) (a k i : Nat) (hg : ga_0 E P f a k i) : gh_M l y_Ga_clear b_Ga_clear 1 none E sz [.ref a] f { frames := 1, cells := 0, slots := 0, locals := 12 } (fun r g => r = none ∧ ga_R E P g a k i [] [] ∧ gh_fr f g (ga_M a k i)) := by
  obtain ⟨hpa, hne, n, gk, gi, haa, hka, hia⟩ := hg
  refine gh_open (by decide) (Nat.le_of_ble_eq_true rfl) ?_
  intro p e s m args below meth c A ls hAe C V hr hlocks hname hl
  have hx := C.1
  have hb := C.2.1
  have hl : lv_has ls 1 [(0, .ref a)] := hl
  have hfr : gh_fr f f (fun b => b ∈ ([a, k, i] : List Nat)) := gh_fr.rf
  have ne_k_i := hne
  refine lv_aload_n hx hb d_Ga_clear_0 rfl (lv_at hl 0 rfl) ?_
  refine lv_iconst (v := 0) hx hb d_Ga_clear_1 (by decide) ?_
  refine gh_put C V haa gc_Ga gi_Ga ty_Ga nm_Ga 2 (by decide) f_Ga_18 rfl (by first | rfl | decide) (by first | rfl | decide) (Nat.le_of_ble_eq_true rfl) d_Ga_clear_2 (fun H locs V => ?_)
  obtain ⟨f1, hff1⟩ : ∃ z9 : gh_F, z9 = gh_u f a (.inr (1, [.ref k, .ref i, .int 0])) := ⟨_, rfl⟩
  have V : gh_V E A f1 s H locs := by rw [hff1]; exact V
  have hfr : gh_fr f f1 (fun b => b ∈ ([a, k, i] : List Nat)) := by rw [hff1]; exact hfr.put (Or.inl (by simp))
  have h_k_f1 : f1 k = some (.inl (E.2.2.1 4, 16, .inr (.inr (.inr (.inr gk))))) := by rw [hff1, gh_un (gh_nek hka haa (show (100 : Nat) ≠ 1 by decide))]; exact hka
  have h_i_f1 : f1 i = some (.inl (E.2.2.1 4, 16, .inr (.inr (.inr (.inr gi))))) := by rw [hff1, gh_un (gh_nek hia haa (show (100 : Nat) ≠ 1 by decide))]; exact hia
  have h_a_f1 : f1 a = some (.inr (1, [.ref k, .ref i, .int 0])) := by rw [hff1, gh_us]
  refine gh_retv hAe C V hr hlocks d_Ga_clear_5 (by first | decide | omega | (dsimp only; omega)) (by first | decide | omega | (dsimp only; omega)) ?_
  exact ⟨rfl, ga_R.clear hpa hne h_a_f1 h_k_f1 h_i_f1, hfr⟩
theorem d_Ga_add_0 : decode b_Ga_add 0 = .ok (.aload_n 0, 1) := by decide +kernel
theorem d_Ga_add_1 : decode b_Ga_add 1 = .ok (.getfield 18, 3) := by decide +kernel
theorem d_Ga_add_4 : decode b_Ga_add 4 = .ok (.bipush 16, 2) := by decide +kernel
theorem d_Ga_add_6 : decode b_Ga_add 6 = .ok (.if_icmp .lt 5, 3) := by decide +kernel
theorem d_Ga_add_9 : decode b_Ga_add 9 = .ok (.iconst 0, 1) := by decide +kernel
theorem d_Ga_add_10 : decode b_Ga_add 10 = .ok (.ireturn, 1) := by decide +kernel
theorem d_Ga_add_11 : decode b_Ga_add 11 = .ok (.aload_n 0, 1) := by decide +kernel
theorem d_Ga_add_12 : decode b_Ga_add 12 = .ok (.getfield 15, 3) := by decide +kernel
theorem d_Ga_add_15 : decode b_Ga_add 15 = .ok (.aload_n 0, 1) := by decide +kernel
theorem d_Ga_add_16 : decode b_Ga_add 16 = .ok (.getfield 18, 3) := by decide +kernel
theorem d_Ga_add_19 : decode b_Ga_add 19 = .ok (.aload_n 1, 1) := by decide +kernel
theorem d_Ga_add_20 : decode b_Ga_add 20 = .ok (.aastore, 1) := by decide +kernel
theorem d_Ga_add_21 : decode b_Ga_add 21 = .ok (.aload_n 0, 1) := by decide +kernel
theorem d_Ga_add_22 : decode b_Ga_add 22 = .ok (.dup, 1) := by decide +kernel
theorem d_Ga_add_23 : decode b_Ga_add 23 = .ok (.getfield 18, 3) := by decide +kernel
theorem d_Ga_add_26 : decode b_Ga_add 26 = .ok (.iconst 1, 1) := by decide +kernel
theorem d_Ga_add_27 : decode b_Ga_add 27 = .ok (.iadd, 1) := by decide +kernel
theorem d_Ga_add_28 : decode b_Ga_add 28 = .ok (.putfield 18, 3) := by decide +kernel
theorem d_Ga_add_31 : decode b_Ga_add 31 = .ok (.iconst 1, 1) := by decide +kernel
theorem d_Ga_add_32 : decode b_Ga_add 32 = .ok (.ireturn, 1) := by decide +kernel
set_option maxHeartbeats 4000000 in
set_option maxRecDepth 100000 in
theorem c_Ga_add (l : Launch) (E : gh_E) (sz : Nat) (f : gh_F) (P : Nat → Prop) (a k i : Nat) (ks : List (List Int32)) (xs : List vt) (b : Nat) (X : vt) (hg : ga_R E P f a k i ks xs) (hbv : cw E P f b X) : gh_M l y_Ga_add b_Ga_add 2 (some .boolean) E sz [.ref a, .ref b] f { frames := 1, cells := 0, slots := 0, locals := 12 } (fun r g => (xs.length < 16 → r = some (.int 1) ∧ ga_R E P g a k i ks (xs ++ [X]) ∧ gh_fr f g (ga_M a k i)) ∧ (16 ≤ xs.length → r = some (.int 0) ∧ g = f)) := by
  obtain ⟨hpa, hne, gk, gi, K, B, haa, hka, hia, hx16, hkx, h6, h7⟩ := hg
  refine gh_open (by decide) (Nat.le_of_ble_eq_true rfl) ?_
  intro p e s m args below meth c A ls hAe C V hr hlocks hname hl
  have hx := C.1
  have hb := C.2.1
  have hl : lv_has ls 2 [(0, .ref a), (1, .ref b)] := hl
  have hfr : gh_fr f f (fun b => b ∈ ([a, k, i] : List Nat)) := gh_fr.rf
  have ne_k_i := hne
  refine lv_aload_n hx hb d_Ga_add_0 rfl (lv_at hl 0 rfl) ?_
  refine gh_get C V haa gc_Ga gi_Ga 2 (by decide) f_Ga_18 rfl rfl d_Ga_add_1 ?_
  refine lv_bipush (v := 16) hx hb d_Ga_add_4 (by decide) ?_
  refine lv_icmp_lt (tgt := 11) hx hb d_Ga_add_6 (by decide) (fun c1 => ?_) (fun c1 => ?_)
  · have c1 : xs.length < 16 := by rw [← gq_lt (a := xs.length) (b := 16) (by omega) (by omega)]; exact c1
    refine lv_aload_n hx hb d_Ga_add_11 rfl (lv_at hl 0 rfl) ?_
    refine gh_get C V haa gc_Ga gi_Ga 1 (by decide) f_Ga_15 rfl rfl d_Ga_add_12 ?_
    refine lv_aload_n hx hb d_Ga_add_15 rfl (lv_at hl 0 rfl) ?_
    refine gh_get C V haa gc_Ga gi_Ga 2 (by decide) f_Ga_18 rfl rfl d_Ga_add_16 ?_
    refine lv_aload_n hx hb d_Ga_add_19 rfl (lv_at hl 1 rfl) ?_
    obtain ⟨la_2, ka_2, ia_2, gk_2, gi_2, K_2, B_2, hp_2, h0_2, h1_2, h2_2, h3_2, h4_2, h5_2⟩ := cv_o.mp hbv.1
    refine gn_aast (t0 := 4) (i := xs.length) (r := (R_Va, T_Va, 7)) C V rfl hia h0_2 gc_Va (by omega) (by omega) d_Ga_add_20 (fun H locs V => ?_)
    obtain ⟨f3, hff3⟩ : ∃ z9 : gh_F, z9 = gh_u f i (.inl (E.2.2.1 4, 16, .inr (.inr (.inr (.inr (va_up gi xs.length (some b))))))) := ⟨_, rfl⟩
    have V : gh_V E A f3 s H locs := by rw [hff3]; exact V
    have hfr : gh_fr f f3 (fun b => b ∈ ([a, k, i] : List Nat)) := by rw [hff3]; exact hfr.put (Or.inl (by simp))
    have h_a_f3 : f3 a = some (.inr (1, [.ref k, .ref i, .int (nI xs.length)])) := by rw [hff3, gh_un (gh_nek haa hia (show (1 : Nat) ≠ 100 by decide))]; exact haa
    have h_k_f3 : f3 k = some (.inl (E.2.2.1 4, 16, .inr (.inr (.inr (.inr gk))))) := by rw [hff3, gh_un ne_k_i]; exact hka
    have h_b_f3 : f3 b = some (.inr (6, [.int (nI (vt_k X)), .long (vt_n X), .ref la_2, .ref ka_2, .ref ia_2, .int (nI (vt_w X)), .int (nI (vt_h X))])) := by rw [hff3, gh_un (gh_nek h0_2 hia (show (6 : Nat) ≠ 100 by decide))]; exact h0_2
    have h_i_f3 : f3 i = some (.inl (E.2.2.1 4, 16, .inr (.inr (.inr (.inr (va_up gi xs.length (some b))))))) := by rw [hff3, gh_us]
    refine lv_aload_n hx hb d_Ga_add_21 rfl (lv_at hl 0 rfl) ?_
    refine lv_dup hx hb d_Ga_add_22 rfl ?_
    refine gh_get C V h_a_f3 gc_Ga gi_Ga 2 (by decide) f_Ga_18 rfl rfl d_Ga_add_23 ?_
    refine lv_iconst (v := 1) hx hb d_Ga_add_26 (by decide) ?_
    refine gn_iadd (a := xs.length) (b := 1) hx hb d_Ga_add_27 ?_
    refine gh_put C V h_a_f3 gc_Ga gi_Ga ty_Ga nm_Ga 2 (by decide) f_Ga_18 rfl (by first | rfl | decide) (by first | rfl | decide) (Nat.le_of_ble_eq_true rfl) d_Ga_add_28 (fun H locs V => ?_)
    obtain ⟨f4, hff4⟩ : ∃ z9 : gh_F, z9 = gh_u f3 a (.inr (1, [.ref k, .ref i, .int (nI (xs.length + 1))])) := ⟨_, rfl⟩
    have V : gh_V E A f4 s H locs := by rw [hff4]; exact V
    have hfr : gh_fr f f4 (fun b => b ∈ ([a, k, i] : List Nat)) := by rw [hff4]; exact hfr.put (Or.inl (by simp))
    have h_k_f4 : f4 k = some (.inl (E.2.2.1 4, 16, .inr (.inr (.inr (.inr gk))))) := by rw [hff4, gh_un (gh_nek h_k_f3 h_a_f3 (show (100 : Nat) ≠ 1 by decide))]; exact h_k_f3
    have h_b_f4 : f4 b = some (.inr (6, [.int (nI (vt_k X)), .long (vt_n X), .ref la_2, .ref ka_2, .ref ia_2, .int (nI (vt_w X)), .int (nI (vt_h X))])) := by rw [hff4, gh_un (gh_nek h_b_f3 h_a_f3 (show (6 : Nat) ≠ 1 by decide))]; exact h_b_f3
    have h_i_f4 : f4 i = some (.inl (E.2.2.1 4, 16, .inr (.inr (.inr (.inr (va_up gi xs.length (some b))))))) := by rw [hff4, gh_un (gh_nek h_i_f3 h_a_f3 (show (100 : Nat) ≠ 1 by decide))]; exact h_i_f3
    have h_a_f4 : f4 a = some (.inr (1, [.ref k, .ref i, .int (nI (xs.length + 1))])) := by rw [hff4, gh_us]
    refine lv_iconst (v := 1) hx hb d_Ga_add_31 (by decide) ?_
    refine gh_retz hAe C V hr (by first | rfl | exact gh_bi_nar _ | decide) hlocks d_Ga_add_32 (by first | decide | omega | (dsimp only; omega)) (by first | decide | omega | (dsimp only; omega)) ?_
    exact ⟨fun _ => ⟨rfl, ga_R.add hpa hne (by omega) hkx h6 h7 hbv hfr (ga_Mn hpa) h_a_f4 h_k_f4 h_i_f4, hfr⟩, fun h => absurd h (by omega)⟩
  · have c1 : ¬ xs.length < 16 := by rw [← gq_lt (a := xs.length) (b := 16) (by omega) (by omega)]; exact c1
    refine lv_iconst (v := 0) hx hb d_Ga_add_9 (by decide) ?_
    refine gh_retz hAe C V hr (by first | rfl | exact gh_bi_nar _ | decide) hlocks d_Ga_add_10 (by first | decide | omega | (dsimp only; omega)) (by first | decide | omega | (dsimp only; omega)) ?_
    exact ⟨fun h => absurd h (by omega), fun _ => ⟨rfl, rfl⟩⟩
theorem d_Ga_put_0 : decode b_Ga_put 0 = .ok (.iconst 0, 1) := by decide +kernel
theorem d_Ga_put_1 : decode b_Ga_put 1 = .ok (.istore_n 3, 1) := by decide +kernel
theorem d_Ga_put_2 : decode b_Ga_put 2 = .ok (.iload_n 3, 1) := by decide +kernel
theorem d_Ga_put_3 : decode b_Ga_put 3 = .ok (.aload_n 0, 1) := by decide +kernel
theorem d_Ga_put_4 : decode b_Ga_put 4 = .ok (.getfield 18, 3) := by decide +kernel
theorem d_Ga_put_7 : decode b_Ga_put 7 = .ok (.if_icmp .ge 37, 3) := by decide +kernel
theorem d_Ga_put_10 : decode b_Ga_put 10 = .ok (.aload_n 0, 1) := by decide +kernel
theorem d_Ga_put_11 : decode b_Ga_put 11 = .ok (.getfield 9, 3) := by decide +kernel
theorem d_Ga_put_14 : decode b_Ga_put 14 = .ok (.iload_n 3, 1) := by decide +kernel
theorem d_Ga_put_15 : decode b_Ga_put 15 = .ok (.aaload, 1) := by decide +kernel
theorem d_Ga_put_16 : decode b_Ga_put 16 = .ok (.getfield 22, 3) := by decide +kernel
theorem d_Ga_put_19 : decode b_Ga_put 19 = .ok (.aload_n 1, 1) := by decide +kernel
theorem d_Ga_put_20 : decode b_Ga_put 20 = .ok (.getfield 22, 3) := by decide +kernel
theorem d_Ga_put_23 : decode b_Ga_put 23 = .ok (.invokestatic 26, 3) := by decide +kernel
theorem d_Ga_put_26 : decode b_Ga_put 26 = .ok (.ifCond .ne 12, 3) := by decide +kernel
theorem d_Ga_put_29 : decode b_Ga_put 29 = .ok (.aload_n 0, 1) := by decide +kernel
theorem d_Ga_put_30 : decode b_Ga_put 30 = .ok (.getfield 15, 3) := by decide +kernel
theorem d_Ga_put_33 : decode b_Ga_put 33 = .ok (.iload_n 3, 1) := by decide +kernel
theorem d_Ga_put_34 : decode b_Ga_put 34 = .ok (.aload_n 2, 1) := by decide +kernel
theorem d_Ga_put_35 : decode b_Ga_put 35 = .ok (.aastore, 1) := by decide +kernel
theorem d_Ga_put_36 : decode b_Ga_put 36 = .ok (.iconst 1, 1) := by decide +kernel
theorem d_Ga_put_37 : decode b_Ga_put 37 = .ok (.ireturn, 1) := by decide +kernel
theorem d_Ga_put_38 : decode b_Ga_put 38 = .ok (.iinc 3 1, 3) := by decide +kernel
theorem d_Ga_put_41 : decode b_Ga_put 41 = .ok (.goto (-39), 3) := by decide +kernel
theorem d_Ga_put_44 : decode b_Ga_put 44 = .ok (.aload_n 0, 1) := by decide +kernel
theorem d_Ga_put_45 : decode b_Ga_put 45 = .ok (.aload_n 2, 1) := by decide +kernel
theorem d_Ga_put_46 : decode b_Ga_put 46 = .ok (.invokevirtual 30, 3) := by decide +kernel
theorem d_Ga_put_49 : decode b_Ga_put 49 = .ok (.ifCond .ne 5, 3) := by decide +kernel
theorem d_Ga_put_52 : decode b_Ga_put 52 = .ok (.iconst 0, 1) := by decide +kernel
theorem d_Ga_put_53 : decode b_Ga_put 53 = .ok (.ireturn, 1) := by decide +kernel
theorem d_Ga_put_54 : decode b_Ga_put 54 = .ok (.aload_n 0, 1) := by decide +kernel
theorem d_Ga_put_55 : decode b_Ga_put 55 = .ok (.getfield 9, 3) := by decide +kernel
theorem d_Ga_put_58 : decode b_Ga_put 58 = .ok (.aload_n 0, 1) := by decide +kernel
theorem d_Ga_put_59 : decode b_Ga_put 59 = .ok (.getfield 18, 3) := by decide +kernel
theorem d_Ga_put_62 : decode b_Ga_put 62 = .ok (.iconst 1, 1) := by decide +kernel
theorem d_Ga_put_63 : decode b_Ga_put 63 = .ok (.isub, 1) := by decide +kernel
theorem d_Ga_put_64 : decode b_Ga_put 64 = .ok (.aload_n 1, 1) := by decide +kernel
theorem d_Ga_put_65 : decode b_Ga_put 65 = .ok (.aastore, 1) := by decide +kernel
theorem d_Ga_put_66 : decode b_Ga_put 66 = .ok (.iconst 1, 1) := by decide +kernel
theorem d_Ga_put_67 : decode b_Ga_put 67 = .ok (.ireturn, 1) := by decide +kernel
set_option maxHeartbeats 4000000 in
set_option maxRecDepth 100000 in
theorem c_Ga_put (l : Launch) (E : gh_E) (sz : Nat) (f : gh_F) (P : Nat → Prop) (a k i : Nat) (ks : List (List Int32)) (xs : List vt) (kb b : Nat) (L : List Int32) (X : vt) (hg : ga_R E P f a k i ks xs) (hkl : ks.length = xs.length) (hkb : cv_S E P f kb L) (hL : lt_ok L) (hbv : cw E P f b X) : gh_M l y_Ga_put b_Ga_put 4 (some .boolean) E sz [.ref a, .ref kb, .ref b] f { frames := 2, cells := 0, slots := 0, locals := 60 } (fun r g => match vt_put (ks, xs) L X with | none => r = some (.int 0) ∧ g = f | some s => r = some (.int 1) ∧ ga_R E P g a k i s.1 s.2 ∧ gh_fr f g (ga_M a k i)) := by
  have hgc := hg
  obtain ⟨hpa, hne, gk, gi, K, B, haa, hka, hia, hx16, hkx, h6, h7⟩ := hgc
  have hL24 := hL.1
  refine gh_open (by decide) (Nat.le_of_ble_eq_true rfl) ?_
  intro p e s m args below meth c A ls hAe C V hr hlocks hname hl
  have hx := C.1
  have hb := C.2.1
  have hl : lv_has ls 4 [(0, .ref a), (1, .ref kb), (2, .ref b)] := hl
  have hfr : gh_fr f f (fun b => b ∈ ([a, k, i] : List Nat)) := gh_fr.rf
  have ne_k_i := hne
  refine lv_iconst (v := 0) hx hb d_Ga_put_0 (by decide) ?_
  refine lv_istore_n hx hb d_Ga_put_1 rfl hl (by decide) rfl (fun ls hl => ?_)
  have hl : lv_has ls 4 [(3, .int 0), (0, .ref a), (1, .ref kb), (2, .ref b)] := hl
  have h6s : ∀ j, j < ks.length → gk j = some (K j) ∧ cv_S E P f (K j) (ks.getD j []) := fun j hj => ⟨(h6 j hj).1, (h6 j hj).2.1⟩
  have hl : lv_has ls 4 [(3, .int 0), (0, .ref a), (1, .ref kb), (2, .ref b)] := lv_sub hl [0, 1, 2, 3] rfl
  have hl : lv_has ls 4 [(3, .int (nI 0)), (0, .ref a), (1, .ref kb), (2, .ref b)] := hl
  have loop : ∀ (n9 i9 : Nat) (H : Heap) (locs : List Loc) (ls : Array Slot), i9 + n9 = xs.length → vt_fd ks L n9 i9 = vt_find ks L → gh_V E A f s H locs → lv_has ls 4 [(3, .int (nI i9)), (0, .ref a), (1, .ref kb), (2, .ref b)] → W p l e { frames := 2, cells := 0, slots := 0, locals := 60 } s m args below meth c H locs 0 0 (MQ below (gh_Q E f (fun r g => match vt_put (ks, xs) L X with | none => r = some (.int 0) ∧ g = f | some s => r = some (.int 1) ∧ ga_R E P g a k i s.1 s.2 ∧ gh_fr f g (ga_M a k i))) args s 0 0 A) (F0 m 2 ls []) := by
    intro n9
    induction n9 with
    | zero =>
      intro i9 H locs ls hi hst V hl
      refine lv_iload_n hx hb d_Ga_put_2 rfl (lv_at hl 0 rfl) ?_
      refine lv_aload_n hx hb d_Ga_put_3 rfl (lv_at hl 1 rfl) ?_
      refine gh_get C V haa gc_Ga gi_Ga 2 (by decide) f_Ga_18 rfl rfl d_Ga_put_4 ?_
      refine lv_icmp_ge (tgt := 44) hx hb d_Ga_put_7 (by decide) (fun c1 => ?_) (fun c1 => absurd (nI_le (by omega) (by omega)) c1)
      refine lv_aload_n hx hb d_Ga_put_44 rfl (lv_at hl 1 rfl) ?_
      refine lv_aload_n hx hb d_Ga_put_45 rfl (lv_at hl 3 rfl) ?_
      have hF : vt_find ks L = none := by rw [← hst]; rfl
      refine gh_callV C V hl.1 m_Ga_add l_Ga_30 (c_Ga_add l E _ f P a k i ks xs b X hg hbv) rfl haa gc_Ga ⟨by first | decide | omega | (dsimp only; omega), by first | decide | omega | (dsimp only; omega)⟩ ⟨by first | decide | omega | (dsimp only; omega), by first | decide | omega | (dsimp only; omega)⟩ (Nat.le_of_ble_eq_true rfl) rfl d_Ga_put_46 (fun r g9 H locs hp V => ?_)
      by_cases hxl : xs.length < 16
      · obtain ⟨rfl, hg9, hfr⟩ := hp.1 hxl
        have hg9c := hg9
        obtain ⟨_, _, gk9, gi9, K9, B9, ha9, hk9, hi9, _⟩ := hg9c
        obtain ⟨la9, ka9, ia9, gkb9, gib9, hpb9, h0b9, h1b9, h2b9, h3b9⟩ := cv_S.keep hkb hfr (ga_Mn hpa)
        have hlen9 : (xs ++ [X]).length = xs.length + 1 := by simp
        refine W.eq (g2 := F0 m 49 ls [.int 1]) rfl ?_
        refine lv_if_ne (tgt := 54) hx hb d_Ga_put_49 (by decide) (fun c2 => ?_) (fun c2 => absurd c2 (by decide))
        refine lv_aload_n hx hb d_Ga_put_54 rfl (lv_at hl 1 rfl) ?_
        refine gh_get C V ha9 gc_Ga gi_Ga 0 (by decide) f_Ga_9 rfl rfl d_Ga_put_55 ?_
        refine lv_aload_n hx hb d_Ga_put_58 rfl (lv_at hl 1 rfl) ?_
        refine gh_get C V ha9 gc_Ga gi_Ga 2 (by decide) f_Ga_18 rfl rfl d_Ga_put_59 ?_
        refine lv_iconst (v := 1) hx hb d_Ga_put_62 (by decide) ?_
        refine gn_isub (a := (xs ++ [X]).length) (b := 1) hx hb (by omega) d_Ga_put_63 ?_
        refine lv_aload_n hx hb d_Ga_put_64 rfl (lv_at hl 2 rfl) ?_
        have hfr1 := hfr
        have hfr2 : gh_fr g9 g9 (ga_M a k i) := gh_fr.rf
        refine gn_aast (t0 := 4) (i := ((xs ++ [X]).length) - 1) (r := (R_Va, T_Va, 7)) C V rfl hk9 h0b9 gc_Va (by omega) (by omega) d_Ga_put_65 (fun H locs V => ?_)
        obtain ⟨f3, hff3⟩ : ∃ z9 : gh_F, z9 = gh_u g9 k (.inl (E.2.2.1 4, 16, .inr (.inr (.inr (.inr (va_up gk9 (((xs ++ [X]).length) - 1) (some kb))))))) := ⟨_, rfl⟩
        have V : gh_V E A f3 s H locs := by rw [hff3]; exact V
        have hfr : gh_fr f f3 (fun b => b ∈ ([a, k, i] : List Nat)) := by rw [hff3]; exact hfr.put (Or.inl (by simp))
        have h_a_f3 : f3 a = some (.inr (1, [.ref k, .ref i, .int (nI ((xs ++ [X]).length))])) := by rw [hff3, gh_un (gh_nek ha9 hk9 (show (1 : Nat) ≠ 100 by decide))]; exact ha9
        have h_i_f3 : f3 i = some (.inl (E.2.2.1 4, 16, .inr (.inr (.inr (.inr gi9))))) := by rw [hff3, gh_un (Ne.symm ne_k_i)]; exact hi9
        have h_kb_f3 : f3 kb = some (.inr (6, [.int (nI 4), .long 0, .ref la9, .ref ka9, .ref ia9, .int (nI 1), .int (nI 0)])) := by rw [hff3, gh_un (gh_nek h0b9 hk9 (show (6 : Nat) ≠ 100 by decide))]; exact h0b9
        have h_k_f3 : f3 k = some (.inl (E.2.2.1 4, 16, .inr (.inr (.inr (.inr (va_up gk9 (((xs ++ [X]).length) - 1) (some kb))))))) := by rw [hff3, gh_us]
        have hfr2 : gh_fr g9 f3 (ga_M a k i) := by rw [hff3]; exact hfr2.put (Or.inl (by simp))
        refine lv_iconst (v := 1) hx hb d_Ga_put_66 (by decide) ?_
        refine gh_retz hAe C V hr (by first | rfl | exact gh_bi_nar _ | decide) hlocks d_Ga_put_67 (by first | decide | omega | (dsimp only; omega)) (by first | decide | omega | (dsimp only; omega)) ?_
        have hr9 : vt_put (ks, xs) L X = some (ks ++ [L], xs ++ [X]) := by unfold vt_put; rw [hF]; simp only []; rw [if_pos hxl]
        rw [hr9]
        have hix : (xs ++ [X]).length - 1 = ks.length := by omega
        have hkf := h_k_f3
        rw [hix] at hkf
        exact ⟨rfl, ga_R.key (f := g9) (ks := ks) (xs := xs ++ [X]) hg9 (by rw [hlen9]; omega) hk9 (cv_S.keep hkb hfr1 (ga_Mn hpa)) hL hfr2 (ga_Mn hpa) (by rw [h_a_f3, ha9]) (by rw [h_i_f3, hi9]) hkf, hfr⟩
      · obtain ⟨rfl, he9⟩ := hp.2 (by omega)
        rw [he9] at V
        refine W.eq (g2 := F0 m 49 ls [.int 0]) rfl ?_
        refine lv_if_ne (tgt := 54) hx hb d_Ga_put_49 (by decide) (fun c4 => absurd (by decide) c4) (fun c4 => ?_)
        refine lv_iconst (v := 0) hx hb d_Ga_put_52 (by decide) ?_
        refine gh_retz hAe C V hr (by first | rfl | exact gh_bi_nar _ | decide) hlocks d_Ga_put_53 (by first | decide | omega | (dsimp only; omega)) (by first | decide | omega | (dsimp only; omega)) ?_
        have hr9 : vt_put (ks, xs) L X = none := by unfold vt_put; rw [hF]; simp only []; rw [if_neg (by omega)]
        rw [hr9]
        exact ⟨rfl, rfl⟩
    | succ n9 ih =>
      intro i9 H locs ls hi hst V hl
      refine lv_iload_n hx hb d_Ga_put_2 rfl (lv_at hl 0 rfl) ?_
      refine lv_aload_n hx hb d_Ga_put_3 rfl (lv_at hl 1 rfl) ?_
      refine gh_get C V haa gc_Ga gi_Ga 2 (by decide) f_Ga_18 rfl rfl d_Ga_put_4 ?_
      refine lv_icmp_ge (tgt := 44) hx hb d_Ga_put_7 (by decide) (fun c5 => absurd c5 (nI_ge (by omega) (by omega))) (fun c5 => ?_)
      refine lv_aload_n hx hb d_Ga_put_10 rfl (lv_at hl 1 rfl) ?_
      refine gh_get C V haa gc_Ga gi_Ga 0 (by decide) f_Ga_9 rfl rfl d_Ga_put_11 ?_
      refine lv_iload_n hx hb d_Ga_put_14 rfl (lv_at hl 0 rfl) ?_
      refine gn_aald (t0 := 4) (i := i9) (v := (K i9)) C V rfl hka (by omega) (by omega) (h6s i9 (by omega)).1 d_Ga_put_15 ?_
      obtain ⟨la_6, ka_6, ia_6, gk_6, gi_6, hp_6, h0_6, h1_6, h2_6, h3_6⟩ := (h6s i9 (by omega)).2
      refine gh_get C V h0_6 gc_Va gi_Va 2 (by decide) f_Ga_22 rfl rfl d_Ga_put_16 ?_
      refine lv_aload_n hx hb d_Ga_put_19 rfl (lv_at hl 2 rfl) ?_
      obtain ⟨la_7, ka_7, ia_7, gk_7, gi_7, hp_7, h0_7, h1_7, h2_7, h3_7⟩ := hkb
      refine gh_get C V h0_7 gc_Va gi_Va 2 (by decide) f_Ga_22 rfl rfl d_Ga_put_20 ?_
      refine gh_callS C V hl.1 m_Va_order l_Ga_26 (c_Va_order l E _ f P la_6 la_7 (ks.getD i9 []) L h1_6.A h1_7.A (h6 i9 (by omega)).2.2.1 hL.1) rfl ⟨by first | decide | omega | (dsimp only; omega), by first | decide | omega | (dsimp only; omega)⟩ ⟨by first | decide | omega | (dsimp only; omega), by first | decide | omega | (dsimp only; omega)⟩ (Nat.le_of_ble_eq_true rfl) rfl d_Ga_put_23 (fun r z9 H locs hp V => ?_)
      obtain ⟨rfl, he9⟩ := hp
      rw [he9] at V
      refine W.eq (g2 := F0 m 26 ls [.int (vt_ord (ks.getD i9 []) L)]) rfl ?_
      refine lv_if_ne (tgt := 38) hx hb d_Ga_put_26 (by decide) (fun c8 => ?_) (fun c8 => ?_)
      · refine lv_iinc (k := 0) (v := (nI i9) + 1) hx hb d_Ga_put_38 hl rfl (by rfl) (by decide) rfl (fun ls hl => ?_)
        have hl : lv_has ls 4 [(3, .int (nI (i9 + 1))), (0, .ref a), (1, .ref kb), (2, .ref b)] := by rw [nI_succ]; exact hl
        refine lv_goto (tgt := 2) hx hb d_Ga_put_41 (by decide) ?_
        have hl : lv_has ls 4 [(3, .int (nI (i9 + 1))), (0, .ref a), (1, .ref kb), (2, .ref b)] := lv_sub hl [0, 1, 2, 3] rfl
        have hl : lv_has ls 4 [(3, .int (nI (i9 + 1))), (0, .ref a), (1, .ref kb), (2, .ref b)] := hl
        exact ih (i9 + 1) H locs ls (by omega) (by rw [← hst, vt_fd, if_neg (by assumption)]) V hl
      · refine lv_aload_n hx hb d_Ga_put_29 rfl (lv_at hl 1 rfl) ?_
        refine gh_get C V haa gc_Ga gi_Ga 1 (by decide) f_Ga_15 rfl rfl d_Ga_put_30 ?_
        refine lv_iload_n hx hb d_Ga_put_33 rfl (lv_at hl 0 rfl) ?_
        refine lv_aload_n hx hb d_Ga_put_34 rfl (lv_at hl 3 rfl) ?_
        obtain ⟨la_9, ka_9, ia_9, gk_9, gi_9, K_9, B_9, hp_9, h0_9, h1_9, h2_9, h3_9, h4_9, h5_9⟩ := cv_o.mp hbv.1
        refine gn_aast (t0 := 4) (i := i9) (r := (R_Va, T_Va, 7)) C V rfl hia h0_9 gc_Va (by omega) (by omega) d_Ga_put_35 (fun H locs V => ?_)
        obtain ⟨f10, hff10⟩ : ∃ z9 : gh_F, z9 = gh_u f i (.inl (E.2.2.1 4, 16, .inr (.inr (.inr (.inr (va_up gi i9 (some b))))))) := ⟨_, rfl⟩
        have V : gh_V E A f10 s H locs := by rw [hff10]; exact V
        have hfr : gh_fr f f10 (fun b => b ∈ ([a, k, i] : List Nat)) := by rw [hff10]; exact hfr.put (Or.inl (by simp))
        have h_a_f10 : f10 a = some (.inr (1, [.ref k, .ref i, .int (nI xs.length)])) := by rw [hff10, gh_un (gh_nek haa hia (show (1 : Nat) ≠ 100 by decide))]; exact haa
        have h_k_f10 : f10 k = some (.inl (E.2.2.1 4, 16, .inr (.inr (.inr (.inr gk))))) := by rw [hff10, gh_un ne_k_i]; exact hka
        have h__K_i9__f10 : f10 ((K i9)) = some (.inr (6, [.int (nI 4), .long 0, .ref la_6, .ref ka_6, .ref ia_6, .int (nI 1), .int (nI 0)])) := by rw [hff10, gh_un (gh_nek h0_6 hia (show (6 : Nat) ≠ 100 by decide))]; exact h0_6
        have h_kb_f10 : f10 kb = some (.inr (6, [.int (nI 4), .long 0, .ref la_7, .ref ka_7, .ref ia_7, .int (nI 1), .int (nI 0)])) := by rw [hff10, gh_un (gh_nek h0_7 hia (show (6 : Nat) ≠ 100 by decide))]; exact h0_7
        have h_b_f10 : f10 b = some (.inr (6, [.int (nI (vt_k X)), .long (vt_n X), .ref la_9, .ref ka_9, .ref ia_9, .int (nI (vt_w X)), .int (nI (vt_h X))])) := by rw [hff10, gh_un (gh_nek h0_9 hia (show (6 : Nat) ≠ 100 by decide))]; exact h0_9
        have h_i_f10 : f10 i = some (.inl (E.2.2.1 4, 16, .inr (.inr (.inr (.inr (va_up gi i9 (some b))))))) := by rw [hff10, gh_us]
        refine lv_iconst (v := 1) hx hb d_Ga_put_36 (by decide) ?_
        refine gh_retz hAe C V hr (by first | rfl | exact gh_bi_nar _ | decide) hlocks d_Ga_put_37 (by first | decide | omega | (dsimp only; omega)) (by first | decide | omega | (dsimp only; omega)) ?_
        have hr9 : vt_put (ks, xs) L X = some (ks, xs.set i9 X) := by unfold vt_put; simp only []; rw [show vt_find ks L = some i9 by rw [← hst, vt_fd, if_pos (by assumption)]]
        rw [hr9]
        exact ⟨rfl, ga_R.put hpa hne hx16 hkx h6 h7 hbv hfr (ga_Mn hpa) h_a_f10 h_k_f10 h_i_f10 (by omega), hfr⟩
  exact loop (xs.length) 0 _ _ ls (by omega) (by unfold vt_find; rw [hkl]) V hl
