/-! The methods of Value. Printed by wip/whole/gen_val.py. -/
theorem lg_ge0 {x : Int32} (h : (0 : Int32) ≤ x) : ¬ x < 0 := by simp only [Int32.lt_iff_toInt_lt, Int32.le_iff_toInt_le] at *; omega
theorem lg_lt0 {x : Int32} (h : ¬ (0 : Int32) ≤ x) : x < 0 := by simp only [Int32.lt_iff_toInt_lt, Int32.le_iff_toInt_le] at *; omega
theorem d_Va_isTruthy_0 : decode b_Va_isTruthy 0 = .ok (.aload_n 0, 1) := by decide +kernel
theorem d_Va_isTruthy_1 : decode b_Va_isTruthy 1 = .ok (.getfield 7, 3) := by decide +kernel
theorem d_Va_isTruthy_4 : decode b_Va_isTruthy 4 = .ok (.ifCond .eq 15, 3) := by decide +kernel
theorem d_Va_isTruthy_7 : decode b_Va_isTruthy 7 = .ok (.aload_n 0, 1) := by decide +kernel
theorem d_Va_isTruthy_8 : decode b_Va_isTruthy 8 = .ok (.getfield 7, 3) := by decide +kernel
theorem d_Va_isTruthy_11 : decode b_Va_isTruthy 11 = .ok (.iconst 1, 1) := by decide +kernel
theorem d_Va_isTruthy_12 : decode b_Va_isTruthy 12 = .ok (.if_icmp .eq 7, 3) := by decide +kernel
theorem d_Va_isTruthy_15 : decode b_Va_isTruthy 15 = .ok (.iconst 1, 1) := by decide +kernel
theorem d_Va_isTruthy_16 : decode b_Va_isTruthy 16 = .ok (.goto 4, 3) := by decide +kernel
theorem d_Va_isTruthy_19 : decode b_Va_isTruthy 19 = .ok (.iconst 0, 1) := by decide +kernel
theorem d_Va_isTruthy_20 : decode b_Va_isTruthy 20 = .ok (.ireturn, 1) := by decide +kernel
set_option maxHeartbeats 4000000 in
set_option maxRecDepth 100000 in
theorem c_Va_isTruthy (l : Launch) (E : gh_E) (sz : Nat) (f : gh_F) (P : Nat → Prop) (a : Nat) (X : vt) (hv : cw E P f a X) : gh_M l y_Va_isTruthy b_Va_isTruthy 1 (some .boolean) E sz [.ref a] f { frames := 1, cells := 0, slots := 0, locals := 12 } (fun r g => r = some (.int (gh_bi (vt_tr X))) ∧ g = f) := by
  refine gh_open (by decide) (Nat.le_of_ble_eq_true rfl) ?_
  intro p e s m args below meth c A ls hAe C V hr hlocks hname hl
  have hx := C.1
  have hb := C.2.1
  have hl : lv_has ls 1 [(0, .ref a)] := hl
  obtain ⟨hv1, hv2⟩ := hv
  have ho := vo_o.mp hv2
  have hk6 := ho.1
  have hw := ho.2.2.2.2.2.2.2.1
  have hh := ho.2.2.2.2.2.2.2.2.1
  have hll := ho.2.2.2.1.1
  have hc16 := ho.2.2.2.2.2.2.1
  have hql := ho.2.2.2.2.1
  refine lv_aload_n hx hb d_Va_isTruthy_0 rfl (lv_at hl 0 rfl) ?_
  obtain ⟨la_1, ka_1, ia_1, gk_1, gi_1, K_1, B_1, hp_1, h0_1, h1_1, h2_1, h3_1, h4_1, h5_1⟩ := cv_o.mp hv1
  refine gh_get C V h0_1 gc_Va gi_Va 0 (by decide) f_Va_7 rfl rfl d_Va_isTruthy_1 ?_
  refine lv_if_eq (tgt := 19) hx hb d_Va_isTruthy_4 (by decide) (fun c2 => ?_) (fun c2 => ?_)
  · have c2 : (vt_k X) = 0 := by rw [← gq_eq (a := vt_k X) (b := 0) (by omega) (by omega)]; exact c2
    refine lv_iconst (v := 0) hx hb d_Va_isTruthy_19 (by decide) ?_
    refine gh_retz hAe C V hr (by first | rfl | exact gh_bi_nar _ | decide) hlocks d_Va_isTruthy_20 (by first | decide | omega | (dsimp only; omega)) (by first | decide | omega | (dsimp only; omega)) ?_
    exact ⟨by simp [gh_bi, vt_tr, c2] <;> omega, rfl⟩
  · have c2 : ¬ (vt_k X) = 0 := by rw [← gq_eq (a := vt_k X) (b := 0) (by omega) (by omega)]; exact c2
    refine lv_aload_n hx hb d_Va_isTruthy_7 rfl (lv_at hl 0 rfl) ?_
    refine gh_get C V h0_1 gc_Va gi_Va 0 (by decide) f_Va_7 rfl rfl d_Va_isTruthy_8 ?_
    refine lv_iconst (v := 1) hx hb d_Va_isTruthy_11 (by decide) ?_
    refine lv_icmp_eq (tgt := 19) hx hb d_Va_isTruthy_12 (by decide) (fun c3 => ?_) (fun c3 => ?_)
    · have c3 : (vt_k X) = 1 := by rw [← gq_eq (a := vt_k X) (b := 1) (by omega) (by omega)]; exact c3
      refine lv_iconst (v := 0) hx hb d_Va_isTruthy_19 (by decide) ?_
      refine gh_retz hAe C V hr (by first | rfl | exact gh_bi_nar _ | decide) hlocks d_Va_isTruthy_20 (by first | decide | omega | (dsimp only; omega)) (by first | decide | omega | (dsimp only; omega)) ?_
      exact ⟨by simp [gh_bi, vt_tr, c2, c3] <;> omega, rfl⟩
    · have c3 : ¬ (vt_k X) = 1 := by rw [← gq_eq (a := vt_k X) (b := 1) (by omega) (by omega)]; exact c3
      refine lv_iconst (v := 1) hx hb d_Va_isTruthy_15 (by decide) ?_
      refine lv_goto (tgt := 20) hx hb d_Va_isTruthy_16 (by decide) ?_
      refine gh_retz hAe C V hr (by first | rfl | exact gh_bi_nar _ | decide) hlocks d_Va_isTruthy_20 (by first | decide | omega | (dsimp only; omega)) (by first | decide | omega | (dsimp only; omega)) ?_
      exact ⟨by simp [gh_bi, vt_tr, c2, c3] <;> omega, rfl⟩
theorem d_Va_hasItems_0 : decode b_Va_hasItems 0 = .ok (.aload_n 0, 1) := by decide +kernel
theorem d_Va_hasItems_1 : decode b_Va_hasItems 1 = .ok (.getfield 7, 3) := by decide +kernel
theorem d_Va_hasItems_4 : decode b_Va_hasItems 4 = .ok (.iconst 5, 1) := by decide +kernel
theorem d_Va_hasItems_5 : decode b_Va_hasItems 5 = .ok (.if_icmp .eq 12, 3) := by decide +kernel
theorem d_Va_hasItems_8 : decode b_Va_hasItems 8 = .ok (.aload_n 0, 1) := by decide +kernel
theorem d_Va_hasItems_9 : decode b_Va_hasItems 9 = .ok (.getfield 7, 3) := by decide +kernel
theorem d_Va_hasItems_12 : decode b_Va_hasItems 12 = .ok (.bipush 6, 2) := by decide +kernel
theorem d_Va_hasItems_14 : decode b_Va_hasItems 14 = .ok (.if_icmp .ne 7, 3) := by decide +kernel
theorem d_Va_hasItems_17 : decode b_Va_hasItems 17 = .ok (.iconst 1, 1) := by decide +kernel
theorem d_Va_hasItems_18 : decode b_Va_hasItems 18 = .ok (.goto 4, 3) := by decide +kernel
theorem d_Va_hasItems_21 : decode b_Va_hasItems 21 = .ok (.iconst 0, 1) := by decide +kernel
theorem d_Va_hasItems_22 : decode b_Va_hasItems 22 = .ok (.ireturn, 1) := by decide +kernel
set_option maxHeartbeats 4000000 in
set_option maxRecDepth 100000 in
theorem c_Va_hasItems (l : Launch) (E : gh_E) (sz : Nat) (f : gh_F) (P : Nat → Prop) (a : Nat) (X : vt) (hv : cw E P f a X) : gh_M l y_Va_hasItems b_Va_hasItems 1 (some .boolean) E sz [.ref a] f { frames := 1, cells := 0, slots := 0, locals := 12 } (fun r g => r = some (.int (gh_bi (vt_hi X))) ∧ g = f) := by
  refine gh_open (by decide) (Nat.le_of_ble_eq_true rfl) ?_
  intro p e s m args below meth c A ls hAe C V hr hlocks hname hl
  have hx := C.1
  have hb := C.2.1
  have hl : lv_has ls 1 [(0, .ref a)] := hl
  obtain ⟨hv1, hv2⟩ := hv
  have ho := vo_o.mp hv2
  have hk6 := ho.1
  have hw := ho.2.2.2.2.2.2.2.1
  have hh := ho.2.2.2.2.2.2.2.2.1
  have hll := ho.2.2.2.1.1
  have hc16 := ho.2.2.2.2.2.2.1
  have hql := ho.2.2.2.2.1
  refine lv_aload_n hx hb d_Va_hasItems_0 rfl (lv_at hl 0 rfl) ?_
  obtain ⟨la_1, ka_1, ia_1, gk_1, gi_1, K_1, B_1, hp_1, h0_1, h1_1, h2_1, h3_1, h4_1, h5_1⟩ := cv_o.mp hv1
  refine gh_get C V h0_1 gc_Va gi_Va 0 (by decide) f_Va_7 rfl rfl d_Va_hasItems_1 ?_
  refine lv_iconst (v := 5) hx hb d_Va_hasItems_4 (by decide) ?_
  refine lv_icmp_eq (tgt := 17) hx hb d_Va_hasItems_5 (by decide) (fun c2 => ?_) (fun c2 => ?_)
  · have c2 : (vt_k X) = 5 := by rw [← gq_eq (a := vt_k X) (b := 5) (by omega) (by omega)]; exact c2
    refine lv_iconst (v := 1) hx hb d_Va_hasItems_17 (by decide) ?_
    refine lv_goto (tgt := 22) hx hb d_Va_hasItems_18 (by decide) ?_
    refine gh_retz hAe C V hr (by first | rfl | exact gh_bi_nar _ | decide) hlocks d_Va_hasItems_22 (by first | decide | omega | (dsimp only; omega)) (by first | decide | omega | (dsimp only; omega)) ?_
    exact ⟨by simp [gh_bi, vt_hi, c2] <;> omega, rfl⟩
  · have c2 : ¬ (vt_k X) = 5 := by rw [← gq_eq (a := vt_k X) (b := 5) (by omega) (by omega)]; exact c2
    refine lv_aload_n hx hb d_Va_hasItems_8 rfl (lv_at hl 0 rfl) ?_
    refine gh_get C V h0_1 gc_Va gi_Va 0 (by decide) f_Va_7 rfl rfl d_Va_hasItems_9 ?_
    refine lv_bipush (v := 6) hx hb d_Va_hasItems_12 (by decide) ?_
    refine lv_icmp_ne (tgt := 21) hx hb d_Va_hasItems_14 (by decide) (fun c3 => ?_) (fun c3 => ?_)
    · have c3 : ¬ (vt_k X) = 6 := by rw [← gq_eq (a := vt_k X) (b := 6) (by omega) (by omega)]; exact c3
      refine lv_iconst (v := 0) hx hb d_Va_hasItems_21 (by decide) ?_
      refine gh_retz hAe C V hr (by first | rfl | exact gh_bi_nar _ | decide) hlocks d_Va_hasItems_22 (by first | decide | omega | (dsimp only; omega)) (by first | decide | omega | (dsimp only; omega)) ?_
      exact ⟨by simp [gh_bi, vt_hi, c2, c3] <;> omega, rfl⟩
    · have c3 : (vt_k X) = 6 := by rw [← gq_eq (a := vt_k X) (b := 6) (by omega) (by omega)]; exact c3
      refine lv_iconst (v := 1) hx hb d_Va_hasItems_17 (by decide) ?_
      refine lv_goto (tgt := 22) hx hb d_Va_hasItems_18 (by decide) ?_
      refine gh_retz hAe C V hr (by first | rfl | exact gh_bi_nar _ | decide) hlocks d_Va_hasItems_22 (by first | decide | omega | (dsimp only; omega)) (by first | decide | omega | (dsimp only; omega)) ?_
      exact ⟨by simp [gh_bi, vt_hi, c2, c3] <;> omega, rfl⟩
theorem d_Va_isWithinLimits_0 : decode b_Va_isWithinLimits 0 = .ok (.aload_n 0, 1) := by decide +kernel
theorem d_Va_isWithinLimits_1 : decode b_Va_isWithinLimits 1 = .ok (.getfield 28, 3) := by decide +kernel
theorem d_Va_isWithinLimits_4 : decode b_Va_isWithinLimits 4 = .ok (.bipush 100, 2) := by decide +kernel
theorem d_Va_isWithinLimits_6 : decode b_Va_isWithinLimits 6 = .ok (.if_icmp .gt 16, 3) := by decide +kernel
theorem d_Va_isWithinLimits_9 : decode b_Va_isWithinLimits 9 = .ok (.aload_n 0, 1) := by decide +kernel
theorem d_Va_isWithinLimits_10 : decode b_Va_isWithinLimits 10 = .ok (.getfield 31, 3) := by decide +kernel
theorem d_Va_isWithinLimits_13 : decode b_Va_isWithinLimits 13 = .ok (.bipush 7, 2) := by decide +kernel
theorem d_Va_isWithinLimits_15 : decode b_Va_isWithinLimits 15 = .ok (.if_icmp .gt 7, 3) := by decide +kernel
theorem d_Va_isWithinLimits_18 : decode b_Va_isWithinLimits 18 = .ok (.iconst 1, 1) := by decide +kernel
theorem d_Va_isWithinLimits_19 : decode b_Va_isWithinLimits 19 = .ok (.goto 4, 3) := by decide +kernel
theorem d_Va_isWithinLimits_22 : decode b_Va_isWithinLimits 22 = .ok (.iconst 0, 1) := by decide +kernel
theorem d_Va_isWithinLimits_23 : decode b_Va_isWithinLimits 23 = .ok (.ireturn, 1) := by decide +kernel
set_option maxHeartbeats 4000000 in
set_option maxRecDepth 100000 in
theorem c_Va_isWithinLimits (l : Launch) (E : gh_E) (sz : Nat) (f : gh_F) (a wt ht : Nat) (x0 x1 x2 x3 x4 : Value) (ha : f a = some (.inr (6, [x0, x1, x2, x3, x4, .int (nI wt), .int (nI ht)]))) (hw : wt < 10000) (hh : ht < 10000) : gh_M l y_Va_isWithinLimits b_Va_isWithinLimits 1 (some .boolean) E sz [.ref a] f { frames := 1, cells := 0, slots := 0, locals := 12 } (fun r g => r = some (.int (gh_bi (decide (wt ≤ 100) && decide (ht ≤ 7)))) ∧ g = f) := by
  refine gh_open (by decide) (Nat.le_of_ble_eq_true rfl) ?_
  intro p e s m args below meth c A ls hAe C V hr hlocks hname hl
  have hx := C.1
  have hb := C.2.1
  have hl : lv_has ls 1 [(0, .ref a)] := hl
  refine lv_aload_n hx hb d_Va_isWithinLimits_0 rfl (lv_at hl 0 rfl) ?_
  refine gh_get C V ha gc_Va gi_Va 5 (by decide) f_Va_28 rfl rfl d_Va_isWithinLimits_1 ?_
  refine lv_bipush (v := 100) hx hb d_Va_isWithinLimits_4 (by decide) ?_
  refine lv_icmp_gt (tgt := 22) hx hb d_Va_isWithinLimits_6 (by decide) (fun c1 => ?_) (fun c1 => ?_)
  · have c1 : 100 < wt := by rw [← gq_lt (a := 100) (b := wt) (by omega) (by omega)]; exact c1
    refine lv_iconst (v := 0) hx hb d_Va_isWithinLimits_22 (by decide) ?_
    refine gh_retz hAe C V hr (by first | rfl | exact gh_bi_nar _ | decide) hlocks d_Va_isWithinLimits_23 (by first | decide | omega | (dsimp only; omega)) (by first | decide | omega | (dsimp only; omega)) ?_
    exact ⟨by simp [gh_bi, c1] <;> omega, rfl⟩
  · have c1 : ¬ 100 < wt := by rw [← gq_lt (a := 100) (b := wt) (by omega) (by omega)]; exact c1
    refine lv_aload_n hx hb d_Va_isWithinLimits_9 rfl (lv_at hl 0 rfl) ?_
    refine gh_get C V ha gc_Va gi_Va 6 (by decide) f_Va_31 rfl rfl d_Va_isWithinLimits_10 ?_
    refine lv_bipush (v := 7) hx hb d_Va_isWithinLimits_13 (by decide) ?_
    refine lv_icmp_gt (tgt := 22) hx hb d_Va_isWithinLimits_15 (by decide) (fun c2 => ?_) (fun c2 => ?_)
    · have c2 : 7 < ht := by rw [← gq_lt (a := 7) (b := ht) (by omega) (by omega)]; exact c2
      refine lv_iconst (v := 0) hx hb d_Va_isWithinLimits_22 (by decide) ?_
      refine gh_retz hAe C V hr (by first | rfl | exact gh_bi_nar _ | decide) hlocks d_Va_isWithinLimits_23 (by first | decide | omega | (dsimp only; omega)) (by first | decide | omega | (dsimp only; omega)) ?_
      exact ⟨by simp [gh_bi, c1, c2] <;> omega, rfl⟩
    · have c2 : ¬ 7 < ht := by rw [← gq_lt (a := 7) (b := ht) (by omega) (by omega)]; exact c2
      refine lv_iconst (v := 1) hx hb d_Va_isWithinLimits_18 (by decide) ?_
      refine lv_goto (tgt := 23) hx hb d_Va_isWithinLimits_19 (by decide) ?_
      refine gh_retz hAe C V hr (by first | rfl | exact gh_bi_nar _ | decide) hlocks d_Va_isWithinLimits_23 (by first | decide | omega | (dsimp only; omega)) (by first | decide | omega | (dsimp only; omega)) ?_
      exact ⟨by simp [gh_bi, c1, c2] <;> omega, rfl⟩
theorem d_Va_size_0 : decode b_Va_size 0 = .ok (.aload_n 0, 1) := by decide +kernel
theorem d_Va_size_1 : decode b_Va_size 1 = .ok (.getfield 7, 3) := by decide +kernel
theorem d_Va_size_4 : decode b_Va_size 4 = .ok (.iconst 4, 1) := by decide +kernel
theorem d_Va_size_5 : decode b_Va_size 5 = .ok (.if_icmp .ne 11, 3) := by decide +kernel
theorem d_Va_size_8 : decode b_Va_size 8 = .ok (.aload_n 0, 1) := by decide +kernel
theorem d_Va_size_9 : decode b_Va_size 9 = .ok (.getfield 17, 3) := by decide +kernel
theorem d_Va_size_12 : decode b_Va_size 12 = .ok (.arraylength, 1) := by decide +kernel
theorem d_Va_size_13 : decode b_Va_size 13 = .ok (.goto 8, 3) := by decide +kernel
theorem d_Va_size_16 : decode b_Va_size 16 = .ok (.aload_n 0, 1) := by decide +kernel
theorem d_Va_size_17 : decode b_Va_size 17 = .ok (.getfield 25, 3) := by decide +kernel
theorem d_Va_size_20 : decode b_Va_size 20 = .ok (.arraylength, 1) := by decide +kernel
theorem d_Va_size_21 : decode b_Va_size 21 = .ok (.ireturn, 1) := by decide +kernel
set_option maxHeartbeats 4000000 in
set_option maxRecDepth 100000 in
theorem c_Va_size (l : Launch) (E : gh_E) (sz : Nat) (f : gh_F) (P : Nat → Prop) (a : Nat) (X : vt) (hv : cw E P f a X) : gh_M l y_Va_size b_Va_size 1 (some .int) E sz [.ref a] f { frames := 1, cells := 0, slots := 0, locals := 12 } (fun r g => r = some (.int (nI (vt_sz X))) ∧ g = f) := by
  refine gh_open (by decide) (Nat.le_of_ble_eq_true rfl) ?_
  intro p e s m args below meth c A ls hAe C V hr hlocks hname hl
  have hx := C.1
  have hb := C.2.1
  have hl : lv_has ls 1 [(0, .ref a)] := hl
  obtain ⟨hv1, hv2⟩ := hv
  have ho := vo_o.mp hv2
  have hk6 := ho.1
  have hw := ho.2.2.2.2.2.2.2.1
  have hh := ho.2.2.2.2.2.2.2.2.1
  have hll := ho.2.2.2.1.1
  have hc16 := ho.2.2.2.2.2.2.1
  have hql := ho.2.2.2.2.1
  refine lv_aload_n hx hb d_Va_size_0 rfl (lv_at hl 0 rfl) ?_
  obtain ⟨la_1, ka_1, ia_1, gk_1, gi_1, K_1, B_1, hp_1, h0_1, h1_1, h2_1, h3_1, h4_1, h5_1⟩ := cv_o.mp hv1
  refine gh_get C V h0_1 gc_Va gi_Va 0 (by decide) f_Va_7 rfl rfl d_Va_size_1 ?_
  refine lv_iconst (v := 4) hx hb d_Va_size_4 (by decide) ?_
  refine lv_icmp_ne (tgt := 16) hx hb d_Va_size_5 (by decide) (fun c2 => ?_) (fun c2 => ?_)
  · have c2 : ¬ (vt_k X) = 4 := by rw [← gq_eq (a := vt_k X) (b := 4) (by omega) (by omega)]; exact c2
    refine lv_aload_n hx hb d_Va_size_16 rfl (lv_at hl 0 rfl) ?_
    refine gh_get C V h0_1 gc_Va gi_Va 4 (by decide) f_Va_25 rfl rfl d_Va_size_17 ?_
    refine gh_alen (t0 := 4) C V rfl h3_1 (v := nI (vt_c X)) rfl d_Va_size_20 ?_
    refine gh_reti hAe C V hr hlocks d_Va_size_21 (by first | decide | omega | (dsimp only; omega)) (by first | decide | omega | (dsimp only; omega)) ?_
    exact ⟨by simp [vt_sz, c2], rfl⟩
  · have c2 : (vt_k X) = 4 := by rw [← gq_eq (a := vt_k X) (b := 4) (by omega) (by omega)]; exact c2
    refine lv_aload_n hx hb d_Va_size_8 rfl (lv_at hl 0 rfl) ?_
    refine gh_get C V h0_1 gc_Va gi_Va 2 (by decide) f_Va_17 rfl rfl d_Va_size_9 ?_
    refine lt_len C V h1_1.1 d_Va_size_12 ?_
    refine lv_goto (tgt := 21) hx hb d_Va_size_13 (by decide) ?_
    refine gh_reti hAe C V hr hlocks d_Va_size_21 (by first | decide | omega | (dsimp only; omega)) (by first | decide | omega | (dsimp only; omega)) ?_
    exact ⟨by simp [vt_sz, c2], rfl⟩
theorem d_Va_order_0 : decode b_Va_order 0 = .ok (.iconst 0, 1) := by decide +kernel
theorem d_Va_order_1 : decode b_Va_order 1 = .ok (.istore_n 2, 1) := by decide +kernel
theorem d_Va_order_2 : decode b_Va_order 2 = .ok (.iload_n 2, 1) := by decide +kernel
theorem d_Va_order_3 : decode b_Va_order 3 = .ok (.aload_n 0, 1) := by decide +kernel
theorem d_Va_order_4 : decode b_Va_order 4 = .ok (.arraylength, 1) := by decide +kernel
theorem d_Va_order_5 : decode b_Va_order 5 = .ok (.if_icmp .ge 32, 3) := by decide +kernel
theorem d_Va_order_8 : decode b_Va_order 8 = .ok (.iload_n 2, 1) := by decide +kernel
theorem d_Va_order_9 : decode b_Va_order 9 = .ok (.aload_n 1, 1) := by decide +kernel
theorem d_Va_order_10 : decode b_Va_order 10 = .ok (.arraylength, 1) := by decide +kernel
theorem d_Va_order_11 : decode b_Va_order 11 = .ok (.if_icmp .ge 26, 3) := by decide +kernel
theorem d_Va_order_14 : decode b_Va_order 14 = .ok (.aload_n 0, 1) := by decide +kernel
theorem d_Va_order_15 : decode b_Va_order 15 = .ok (.iload_n 2, 1) := by decide +kernel
theorem d_Va_order_16 : decode b_Va_order 16 = .ok (.caload, 1) := by decide +kernel
theorem d_Va_order_17 : decode b_Va_order 17 = .ok (.aload_n 1, 1) := by decide +kernel
theorem d_Va_order_18 : decode b_Va_order 18 = .ok (.iload_n 2, 1) := by decide +kernel
theorem d_Va_order_19 : decode b_Va_order 19 = .ok (.caload, 1) := by decide +kernel
theorem d_Va_order_20 : decode b_Va_order 20 = .ok (.if_icmp .eq 11, 3) := by decide +kernel
theorem d_Va_order_23 : decode b_Va_order 23 = .ok (.aload_n 0, 1) := by decide +kernel
theorem d_Va_order_24 : decode b_Va_order 24 = .ok (.iload_n 2, 1) := by decide +kernel
theorem d_Va_order_25 : decode b_Va_order 25 = .ok (.caload, 1) := by decide +kernel
theorem d_Va_order_26 : decode b_Va_order 26 = .ok (.aload_n 1, 1) := by decide +kernel
theorem d_Va_order_27 : decode b_Va_order 27 = .ok (.iload_n 2, 1) := by decide +kernel
theorem d_Va_order_28 : decode b_Va_order 28 = .ok (.caload, 1) := by decide +kernel
theorem d_Va_order_29 : decode b_Va_order 29 = .ok (.isub, 1) := by decide +kernel
theorem d_Va_order_30 : decode b_Va_order 30 = .ok (.ireturn, 1) := by decide +kernel
theorem d_Va_order_31 : decode b_Va_order 31 = .ok (.iinc 2 1, 3) := by decide +kernel
theorem d_Va_order_34 : decode b_Va_order 34 = .ok (.goto (-32), 3) := by decide +kernel
theorem d_Va_order_37 : decode b_Va_order 37 = .ok (.aload_n 0, 1) := by decide +kernel
theorem d_Va_order_38 : decode b_Va_order 38 = .ok (.arraylength, 1) := by decide +kernel
theorem d_Va_order_39 : decode b_Va_order 39 = .ok (.aload_n 1, 1) := by decide +kernel
theorem d_Va_order_40 : decode b_Va_order 40 = .ok (.arraylength, 1) := by decide +kernel
theorem d_Va_order_41 : decode b_Va_order 41 = .ok (.isub, 1) := by decide +kernel
theorem d_Va_order_42 : decode b_Va_order 42 = .ok (.ireturn, 1) := by decide +kernel
set_option maxHeartbeats 4000000 in
set_option maxRecDepth 100000 in
theorem c_Va_order (l : Launch) (E : gh_E) (sz : Nat) (f : gh_F) (P : Nat → Prop) (x y : Nat) (X Y : List Int32) (hX : lt_A E P f x X) (hY : lt_A E P f y Y) (h1 : X.length ≤ 24) (h2 : Y.length ≤ 24) : gh_M l y_Va_order b_Va_order 3 (some .int) E sz [.ref x, .ref y] f { frames := 1, cells := 0, slots := 0, locals := 12 } (fun r g => r = some (.int (vt_ord X Y)) ∧ g = f) := by
  refine gh_open (by decide) (Nat.le_of_ble_eq_true rfl) ?_
  intro p e s m args below meth c A ls hAe C V hr hlocks hname hl
  have hx := C.1
  have hb := C.2.1
  have hl : lv_has ls 3 [(0, .ref x), (1, .ref y)] := hl
  refine lv_iconst (v := 0) hx hb d_Va_order_0 (by decide) ?_
  refine lv_istore_n hx hb d_Va_order_1 rfl hl (by decide) rfl (fun ls hl => ?_)
  have hl : lv_has ls 3 [(2, .int 0), (0, .ref x), (1, .ref y)] := hl
  have hl : lv_has ls 3 [(2, .int 0), (0, .ref x), (1, .ref y)] := lv_sub hl [0, 1, 2] rfl
  have hl : lv_has ls 3 [(2, .int (nI 0)), (0, .ref x), (1, .ref y)] := hl
  have loop : ∀ (n9 i : Nat) (H : Heap) (locs : List Loc) (ls : Array Slot), i + n9 = X.length → vt_cmp X Y n9 i = vt_ord X Y → gh_V E A f s H locs → lv_has ls 3 [(2, .int (nI i)), (0, .ref x), (1, .ref y)] → W p l e { frames := 1, cells := 0, slots := 0, locals := 12 } s m args below meth c H locs 0 0 (MQ below (gh_Q E f (fun r g => r = some (.int (vt_ord X Y)) ∧ g = f)) args s 0 0 A) (F0 m 2 ls []) := by
    intro n9
    induction n9 with
    | zero =>
      intro i H locs ls hi hst V hl
      refine lv_iload_n hx hb d_Va_order_2 rfl (lv_at hl 0 rfl) ?_
      refine lv_aload_n hx hb d_Va_order_3 rfl (lv_at hl 1 rfl) ?_
      refine lt_len C V hX d_Va_order_4 ?_
      refine lv_icmp_ge (tgt := 37) hx hb d_Va_order_5 (by decide) (fun c1 => ?_) (fun c1 => absurd (nI_le (by omega) (by omega)) c1)
      refine lv_aload_n hx hb d_Va_order_37 rfl (lv_at hl 1 rfl) ?_
      refine lt_len C V hX d_Va_order_38 ?_
      refine lv_aload_n hx hb d_Va_order_39 rfl (lv_at hl 2 rfl) ?_
      refine lt_len C V hY d_Va_order_40 ?_
      refine lv_isub hx hb d_Va_order_41 ?_
      refine gh_reti hAe C V hr hlocks d_Va_order_42 (by first | decide | omega | (dsimp only; omega)) (by first | decide | omega | (dsimp only; omega)) ?_
      exact ⟨by rw [← hst]; rfl, rfl⟩
    | succ n9 ih =>
      intro i H locs ls hi hst V hl
      refine lv_iload_n hx hb d_Va_order_2 rfl (lv_at hl 0 rfl) ?_
      refine lv_aload_n hx hb d_Va_order_3 rfl (lv_at hl 1 rfl) ?_
      refine lt_len C V hX d_Va_order_4 ?_
      refine lv_icmp_ge (tgt := 37) hx hb d_Va_order_5 (by decide) (fun c2 => absurd c2 (nI_ge (by omega) (by omega))) (fun c2 => ?_)
      refine lv_iload_n hx hb d_Va_order_8 rfl (lv_at hl 0 rfl) ?_
      refine lv_aload_n hx hb d_Va_order_9 rfl (lv_at hl 2 rfl) ?_
      refine lt_len C V hY d_Va_order_10 ?_
      refine lv_icmp_ge (tgt := 37) hx hb d_Va_order_11 (by decide) (fun c3 => ?_) (fun c3 => ?_)
      · have c3 : Y.length ≤ i := by rw [← gq_le (a := Y.length) (b := i) (by omega) (by omega)]; exact c3
        refine lv_aload_n hx hb d_Va_order_37 rfl (lv_at hl 1 rfl) ?_
        refine lt_len C V hX d_Va_order_38 ?_
        refine lv_aload_n hx hb d_Va_order_39 rfl (lv_at hl 2 rfl) ?_
        refine lt_len C V hY d_Va_order_40 ?_
        refine lv_isub hx hb d_Va_order_41 ?_
        refine gh_reti hAe C V hr hlocks d_Va_order_42 (by first | decide | omega | (dsimp only; omega)) (by first | decide | omega | (dsimp only; omega)) ?_
        exact ⟨by rw [← hst, vt_cmp, if_neg (by omega)], rfl⟩
      · have c3 : ¬ Y.length ≤ i := by rw [← gq_le (a := Y.length) (b := i) (by omega) (by omega)]; exact c3
        refine lv_aload_n hx hb d_Va_order_14 rfl (lv_at hl 1 rfl) ?_
        refine lv_iload_n hx hb d_Va_order_15 rfl (lv_at hl 0 rfl) ?_
        refine lt_ld (i := i) C V hX (by omega) (by omega) d_Va_order_16 ?_
        refine lv_aload_n hx hb d_Va_order_17 rfl (lv_at hl 2 rfl) ?_
        refine lv_iload_n hx hb d_Va_order_18 rfl (lv_at hl 0 rfl) ?_
        refine lt_ld (i := i) C V hY (by omega) (by omega) d_Va_order_19 ?_
        refine lv_icmp_eq (tgt := 31) hx hb d_Va_order_20 (by decide) (fun c4 => ?_) (fun c4 => ?_)
        · refine lv_iinc (k := 0) (v := (nI i) + 1) hx hb d_Va_order_31 hl rfl (by rfl) (by decide) rfl (fun ls hl => ?_)
          have hl : lv_has ls 3 [(2, .int (nI (i + 1))), (0, .ref x), (1, .ref y)] := by rw [nI_succ]; exact hl
          refine lv_goto (tgt := 2) hx hb d_Va_order_34 (by decide) ?_
          have hl : lv_has ls 3 [(2, .int (nI (i + 1))), (0, .ref x), (1, .ref y)] := lv_sub hl [0, 1, 2] rfl
          have hl : lv_has ls 3 [(2, .int (nI (i + 1))), (0, .ref x), (1, .ref y)] := hl
          exact ih (i + 1) H locs ls (by omega) (by rw [← hst, vt_cmp, if_pos (by omega), if_pos (by assumption)]) V hl
        · refine lv_aload_n hx hb d_Va_order_23 rfl (lv_at hl 1 rfl) ?_
          refine lv_iload_n hx hb d_Va_order_24 rfl (lv_at hl 0 rfl) ?_
          refine lt_ld (i := i) C V hX (by omega) (by omega) d_Va_order_25 ?_
          refine lv_aload_n hx hb d_Va_order_26 rfl (lv_at hl 2 rfl) ?_
          refine lv_iload_n hx hb d_Va_order_27 rfl (lv_at hl 0 rfl) ?_
          refine lt_ld (i := i) C V hY (by omega) (by omega) d_Va_order_28 ?_
          refine lv_isub hx hb d_Va_order_29 ?_
          refine gh_reti hAe C V hr hlocks d_Va_order_30 (by first | decide | omega | (dsimp only; omega)) (by first | decide | omega | (dsimp only; omega)) ?_
          exact ⟨by rw [← hst, vt_cmp, if_pos (by omega), if_neg (by assumption)], rfl⟩
  exact loop (X.length) 0 _ _ ls (by omega) rfl V hl
theorem d_Va_placeOf_0 : decode b_Va_placeOf 0 = .ok (.iconst 0, 1) := by decide +kernel
theorem d_Va_placeOf_1 : decode b_Va_placeOf 1 = .ok (.istore_n 2, 1) := by decide +kernel
theorem d_Va_placeOf_2 : decode b_Va_placeOf 2 = .ok (.iload_n 2, 1) := by decide +kernel
theorem d_Va_placeOf_3 : decode b_Va_placeOf 3 = .ok (.aload_n 0, 1) := by decide +kernel
theorem d_Va_placeOf_4 : decode b_Va_placeOf 4 = .ok (.getfield 21, 3) := by decide +kernel
theorem d_Va_placeOf_7 : decode b_Va_placeOf 7 = .ok (.arraylength, 1) := by decide +kernel
theorem d_Va_placeOf_8 : decode b_Va_placeOf 8 = .ok (.if_icmp .ge 30, 3) := by decide +kernel
theorem d_Va_placeOf_11 : decode b_Va_placeOf 11 = .ok (.aload_n 0, 1) := by decide +kernel
theorem d_Va_placeOf_12 : decode b_Va_placeOf 12 = .ok (.getfield 21, 3) := by decide +kernel
theorem d_Va_placeOf_15 : decode b_Va_placeOf 15 = .ok (.iload_n 2, 1) := by decide +kernel
theorem d_Va_placeOf_16 : decode b_Va_placeOf 16 = .ok (.aaload, 1) := by decide +kernel
theorem d_Va_placeOf_17 : decode b_Va_placeOf 17 = .ok (.getfield 17, 3) := by decide +kernel
theorem d_Va_placeOf_20 : decode b_Va_placeOf 20 = .ok (.aload_n 1, 1) := by decide +kernel
theorem d_Va_placeOf_21 : decode b_Va_placeOf 21 = .ok (.getfield 17, 3) := by decide +kernel
theorem d_Va_placeOf_24 : decode b_Va_placeOf 24 = .ok (.invokestatic 34, 3) := by decide +kernel
theorem d_Va_placeOf_27 : decode b_Va_placeOf 27 = .ok (.ifCond .ne 5, 3) := by decide +kernel
theorem d_Va_placeOf_30 : decode b_Va_placeOf 30 = .ok (.iload_n 2, 1) := by decide +kernel
theorem d_Va_placeOf_31 : decode b_Va_placeOf 31 = .ok (.ireturn, 1) := by decide +kernel
theorem d_Va_placeOf_32 : decode b_Va_placeOf 32 = .ok (.iinc 2 1, 3) := by decide +kernel
theorem d_Va_placeOf_35 : decode b_Va_placeOf 35 = .ok (.goto (-33), 3) := by decide +kernel
theorem d_Va_placeOf_38 : decode b_Va_placeOf 38 = .ok (.iconst (-1), 1) := by decide +kernel
theorem d_Va_placeOf_39 : decode b_Va_placeOf 39 = .ok (.ireturn, 1) := by decide +kernel
set_option maxHeartbeats 4000000 in
set_option maxRecDepth 100000 in
theorem c_Va_placeOf (l : Launch) (E : gh_E) (sz : Nat) (f : gh_F) (P : Nat → Prop) (a : Nat) (X : vt) (b lb : Nat) (L : List Int32) (x0 x1 x3 x4 x5 x6 : Value) (n0 : Nat) (hv1 : cv E P f (n0 + 1) a X) (hv2 : vo (n0 + 1) X) (hb0 : f b = some (.inr (6, [x0, x1, .ref lb, x3, x4, x5, x6]))) (hlb : lt_A E P f lb L) (hL : L.length ≤ 24) : gh_M l y_Va_placeOf b_Va_placeOf 3 (some .int) E sz [.ref a, .ref b] f { frames := 2, cells := 0, slots := 0, locals := 40 } (fun r g => r = some (.int (vt_oi (vt_find (vt_q X) L))) ∧ g = f) := by
  refine gh_open (by decide) (Nat.le_of_ble_eq_true rfl) ?_
  intro p e s m args below meth c A ls hAe C V hr hlocks hname hl
  have hx := C.1
  have hb := C.2.1
  have hl : lv_has ls 3 [(0, .ref a), (1, .ref b)] := hl
  have ho := vo_o.mp hv2
  have hql := ho.2.2.2.2.1
  have hc16 := ho.2.2.2.2.2.2.1
  have hq16 : (vt_q X).length ≤ 16 := by rw [hql]; split <;> omega
  have hqk := ho.2.2.2.2.2.2.2.2.2.2.1
  refine lv_iconst (v := 0) hx hb d_Va_placeOf_0 (by decide) ?_
  refine lv_istore_n hx hb d_Va_placeOf_1 rfl hl (by decide) rfl (fun ls hl => ?_)
  have hl : lv_has ls 3 [(2, .int 0), (0, .ref a), (1, .ref b)] := hl
  obtain ⟨la_1, ka_1, ia_1, gk_1, gi_1, K_1, B_1, hp_1, h0_1, h1_1, h2_1, h3_1, h4_1, h5_1⟩ := cv_o.mp hv1
  have hl : lv_has ls 3 [(2, .int 0), (0, .ref a), (1, .ref b)] := lv_sub hl [0, 1, 2] rfl
  have hl : lv_has ls 3 [(2, .int (nI 0)), (0, .ref a), (1, .ref b)] := hl
  have loop : ∀ (n9 i : Nat) (H : Heap) (locs : List Loc) (ls : Array Slot), i + n9 = (vt_q X).length → vt_fd (vt_q X) L n9 i = vt_find (vt_q X) L → gh_V E A f s H locs → lv_has ls 3 [(2, .int (nI i)), (0, .ref a), (1, .ref b)] → W p l e { frames := 2, cells := 0, slots := 0, locals := 40 } s m args below meth c H locs 0 0 (MQ below (gh_Q E f (fun r g => r = some (.int (vt_oi (vt_find (vt_q X) L))) ∧ g = f)) args s 0 0 A) (F0 m 2 ls []) := by
    intro n9
    induction n9 with
    | zero =>
      intro i H locs ls hi hst V hl
      refine lv_iload_n hx hb d_Va_placeOf_2 rfl (lv_at hl 0 rfl) ?_
      refine lv_aload_n hx hb d_Va_placeOf_3 rfl (lv_at hl 1 rfl) ?_
      refine gh_get C V h0_1 gc_Va gi_Va 3 (by decide) f_Va_21 rfl rfl d_Va_placeOf_4 ?_
      refine gh_alen (t0 := 4) C V rfl h2_1 (v := nI ((vt_q X).length)) rfl d_Va_placeOf_7 ?_
      refine lv_icmp_ge (tgt := 38) hx hb d_Va_placeOf_8 (by decide) (fun c2 => ?_) (fun c2 => absurd (nI_le (by omega) (by omega)) c2)
      refine lv_iconst (v := (-1)) hx hb d_Va_placeOf_38 (by decide) ?_
      refine gh_reti hAe C V hr hlocks d_Va_placeOf_39 (by first | decide | omega | (dsimp only; omega)) (by first | decide | omega | (dsimp only; omega)) ?_
      exact ⟨by rw [← hst]; rfl, rfl⟩
    | succ n9 ih =>
      intro i H locs ls hi hst V hl
      refine lv_iload_n hx hb d_Va_placeOf_2 rfl (lv_at hl 0 rfl) ?_
      refine lv_aload_n hx hb d_Va_placeOf_3 rfl (lv_at hl 1 rfl) ?_
      refine gh_get C V h0_1 gc_Va gi_Va 3 (by decide) f_Va_21 rfl rfl d_Va_placeOf_4 ?_
      refine gh_alen (t0 := 4) C V rfl h2_1 (v := nI ((vt_q X).length)) rfl d_Va_placeOf_7 ?_
      refine lv_icmp_ge (tgt := 38) hx hb d_Va_placeOf_8 (by decide) (fun c3 => absurd c3 (nI_ge (by omega) (by omega))) (fun c3 => ?_)
      refine lv_aload_n hx hb d_Va_placeOf_11 rfl (lv_at hl 1 rfl) ?_
      refine gh_get C V h0_1 gc_Va gi_Va 3 (by decide) f_Va_21 rfl rfl d_Va_placeOf_12 ?_
      refine lv_iload_n hx hb d_Va_placeOf_15 rfl (lv_at hl 0 rfl) ?_
      refine gn_aald (t0 := 4) (i := i) (v := (K_1 i)) C V rfl h2_1 (by omega) (by omega) (h4_1 i (by omega)).1 d_Va_placeOf_16 ?_
      obtain ⟨la_4, ka_4, ia_4, gk_4, gi_4, hp_4, h0_4, h1_4, h2_4, h3_4⟩ := (h4_1 i (by omega)).2
      refine gh_get C V h0_4 gc_Va gi_Va 2 (by decide) f_Va_17 rfl rfl d_Va_placeOf_17 ?_
      refine lv_aload_n hx hb d_Va_placeOf_20 rfl (lv_at hl 2 rfl) ?_
      refine gh_get C V hb0 gc_Va gi_Va 2 (by decide) f_Va_17 rfl rfl d_Va_placeOf_21 ?_
      refine gh_callS C V hl.1 m_Va_order l_Va_34 (c_Va_order l E _ f P la_4 lb ((vt_q X).getD i []) L h1_4.A hlb (hqk i (by omega)).1 hL) rfl ⟨by first | decide | omega | (dsimp only; omega), by first | decide | omega | (dsimp only; omega)⟩ ⟨by first | decide | omega | (dsimp only; omega), by first | decide | omega | (dsimp only; omega)⟩ (Nat.le_of_ble_eq_true rfl) rfl d_Va_placeOf_24 (fun r z9 H locs hp V => ?_)
      obtain ⟨rfl, he9⟩ := hp
      rw [he9] at V
      refine W.eq (g2 := F0 m 27 ls [.int (vt_ord ((vt_q X).getD i []) L)]) rfl ?_
      refine lv_if_ne (tgt := 32) hx hb d_Va_placeOf_27 (by decide) (fun c5 => ?_) (fun c5 => ?_)
      · refine lv_iinc (k := 0) (v := (nI i) + 1) hx hb d_Va_placeOf_32 hl rfl (by rfl) (by decide) rfl (fun ls hl => ?_)
        have hl : lv_has ls 3 [(2, .int (nI (i + 1))), (0, .ref a), (1, .ref b)] := by rw [nI_succ]; exact hl
        refine lv_goto (tgt := 2) hx hb d_Va_placeOf_35 (by decide) ?_
        have hl : lv_has ls 3 [(2, .int (nI (i + 1))), (0, .ref a), (1, .ref b)] := lv_sub hl [0, 1, 2] rfl
        have hl : lv_has ls 3 [(2, .int (nI (i + 1))), (0, .ref a), (1, .ref b)] := hl
        exact ih (i + 1) H locs ls (by omega) (by rw [← hst, vt_fd, if_neg (by assumption)]) V hl
      · refine lv_iload_n hx hb d_Va_placeOf_30 rfl (lv_at hl 0 rfl) ?_
        refine gh_reti hAe C V hr hlocks d_Va_placeOf_31 (by first | decide | omega | (dsimp only; omega)) (by first | decide | omega | (dsimp only; omega)) ?_
        exact ⟨by rw [← hst, vt_fd, if_pos (by assumption)]; rfl, rfl⟩
  exact loop ((vt_q X).length) 0 _ _ ls (by omega) rfl V hl
theorem d_Va_isLessThan_0 : decode b_Va_isLessThan 0 = .ok (.aload_n 0, 1) := by decide +kernel
theorem d_Va_isLessThan_1 : decode b_Va_isLessThan 1 = .ok (.getfield 7, 3) := by decide +kernel
theorem d_Va_isLessThan_4 : decode b_Va_isLessThan 4 = .ok (.aload_n 1, 1) := by decide +kernel
theorem d_Va_isLessThan_5 : decode b_Va_isLessThan 5 = .ok (.getfield 7, 3) := by decide +kernel
theorem d_Va_isLessThan_8 : decode b_Va_isLessThan 8 = .ok (.if_icmp .eq 20, 3) := by decide +kernel
theorem d_Va_isLessThan_11 : decode b_Va_isLessThan 11 = .ok (.aload_n 0, 1) := by decide +kernel
theorem d_Va_isLessThan_12 : decode b_Va_isLessThan 12 = .ok (.getfield 7, 3) := by decide +kernel
theorem d_Va_isLessThan_15 : decode b_Va_isLessThan 15 = .ok (.aload_n 1, 1) := by decide +kernel
theorem d_Va_isLessThan_16 : decode b_Va_isLessThan 16 = .ok (.getfield 7, 3) := by decide +kernel
theorem d_Va_isLessThan_19 : decode b_Va_isLessThan 19 = .ok (.if_icmp .ge 7, 3) := by decide +kernel
theorem d_Va_isLessThan_22 : decode b_Va_isLessThan 22 = .ok (.iconst 1, 1) := by decide +kernel
theorem d_Va_isLessThan_23 : decode b_Va_isLessThan 23 = .ok (.goto 4, 3) := by decide +kernel
theorem d_Va_isLessThan_26 : decode b_Va_isLessThan 26 = .ok (.iconst 0, 1) := by decide +kernel
theorem d_Va_isLessThan_27 : decode b_Va_isLessThan 27 = .ok (.ireturn, 1) := by decide +kernel
theorem d_Va_isLessThan_28 : decode b_Va_isLessThan 28 = .ok (.aload_n 0, 1) := by decide +kernel
theorem d_Va_isLessThan_29 : decode b_Va_isLessThan 29 = .ok (.getfield 7, 3) := by decide +kernel
theorem d_Va_isLessThan_32 : decode b_Va_isLessThan 32 = .ok (.iconst 3, 1) := by decide +kernel
theorem d_Va_isLessThan_33 : decode b_Va_isLessThan 33 = .ok (.if_icmp .ne 21, 3) := by decide +kernel
theorem d_Va_isLessThan_36 : decode b_Va_isLessThan 36 = .ok (.aload_n 0, 1) := by decide +kernel
theorem d_Va_isLessThan_37 : decode b_Va_isLessThan 37 = .ok (.getfield 13, 3) := by decide +kernel
theorem d_Va_isLessThan_40 : decode b_Va_isLessThan 40 = .ok (.aload_n 1, 1) := by decide +kernel
theorem d_Va_isLessThan_41 : decode b_Va_isLessThan 41 = .ok (.getfield 13, 3) := by decide +kernel
theorem d_Va_isLessThan_44 : decode b_Va_isLessThan 44 = .ok (.lcmp, 1) := by decide +kernel
theorem d_Va_isLessThan_45 : decode b_Va_isLessThan 45 = .ok (.ifCond .ge 7, 3) := by decide +kernel
theorem d_Va_isLessThan_48 : decode b_Va_isLessThan 48 = .ok (.iconst 1, 1) := by decide +kernel
theorem d_Va_isLessThan_49 : decode b_Va_isLessThan 49 = .ok (.goto 4, 3) := by decide +kernel
theorem d_Va_isLessThan_52 : decode b_Va_isLessThan 52 = .ok (.iconst 0, 1) := by decide +kernel
theorem d_Va_isLessThan_53 : decode b_Va_isLessThan 53 = .ok (.ireturn, 1) := by decide +kernel
theorem d_Va_isLessThan_54 : decode b_Va_isLessThan 54 = .ok (.aload_n 0, 1) := by decide +kernel
theorem d_Va_isLessThan_55 : decode b_Va_isLessThan 55 = .ok (.getfield 17, 3) := by decide +kernel
theorem d_Va_isLessThan_58 : decode b_Va_isLessThan 58 = .ok (.aload_n 1, 1) := by decide +kernel
theorem d_Va_isLessThan_59 : decode b_Va_isLessThan 59 = .ok (.getfield 17, 3) := by decide +kernel
theorem d_Va_isLessThan_62 : decode b_Va_isLessThan 62 = .ok (.invokestatic 34, 3) := by decide +kernel
theorem d_Va_isLessThan_65 : decode b_Va_isLessThan 65 = .ok (.ifCond .ge 7, 3) := by decide +kernel
theorem d_Va_isLessThan_68 : decode b_Va_isLessThan 68 = .ok (.iconst 1, 1) := by decide +kernel
theorem d_Va_isLessThan_69 : decode b_Va_isLessThan 69 = .ok (.goto 4, 3) := by decide +kernel
theorem d_Va_isLessThan_72 : decode b_Va_isLessThan 72 = .ok (.iconst 0, 1) := by decide +kernel
theorem d_Va_isLessThan_73 : decode b_Va_isLessThan 73 = .ok (.ireturn, 1) := by decide +kernel
set_option maxHeartbeats 4000000 in
set_option maxRecDepth 100000 in
theorem c_Va_isLessThan (l : Launch) (E : gh_E) (sz : Nat) (f : gh_F) (P : Nat → Prop) (a : Nat) (X : vt) (b : Nat) (Y : vt) (hv : cw E P f a X) (hy : cw E P f b Y) : gh_M l y_Va_isLessThan b_Va_isLessThan 2 (some .boolean) E sz [.ref a, .ref b] f { frames := 2, cells := 0, slots := 0, locals := 40 } (fun r g => r = some (.int (gh_bi (vt_lt X Y))) ∧ g = f) := by
  refine gh_open (by decide) (Nat.le_of_ble_eq_true rfl) ?_
  intro p e s m args below meth c A ls hAe C V hr hlocks hname hl
  have hx := C.1
  have hb := C.2.1
  have hl : lv_has ls 2 [(0, .ref a), (1, .ref b)] := hl
  obtain ⟨hv1, hv2⟩ := hv
  have ho := vo_o.mp hv2
  have hk6 := ho.1
  have hw := ho.2.2.2.2.2.2.2.1
  have hh := ho.2.2.2.2.2.2.2.2.1
  have hll := ho.2.2.2.1.1
  have hc16 := ho.2.2.2.2.2.2.1
  have hql := ho.2.2.2.2.1
  obtain ⟨hy1, hy2⟩ := hy
  have hoy := vo_o.mp hy2
  have hk6y := hoy.1
  have hlly := hoy.2.2.2.1.1
  refine lv_aload_n hx hb d_Va_isLessThan_0 rfl (lv_at hl 0 rfl) ?_
  obtain ⟨la_1, ka_1, ia_1, gk_1, gi_1, K_1, B_1, hp_1, h0_1, h1_1, h2_1, h3_1, h4_1, h5_1⟩ := cv_o.mp hv1
  refine gh_get C V h0_1 gc_Va gi_Va 0 (by decide) f_Va_7 rfl rfl d_Va_isLessThan_1 ?_
  refine lv_aload_n hx hb d_Va_isLessThan_4 rfl (lv_at hl 1 rfl) ?_
  obtain ⟨la_2, ka_2, ia_2, gk_2, gi_2, K_2, B_2, hp_2, h0_2, h1_2, h2_2, h3_2, h4_2, h5_2⟩ := cv_o.mp hy1
  refine gh_get C V h0_2 gc_Va gi_Va 0 (by decide) f_Va_7 rfl rfl d_Va_isLessThan_5 ?_
  refine lv_icmp_eq (tgt := 28) hx hb d_Va_isLessThan_8 (by decide) (fun c3 => ?_) (fun c3 => ?_)
  · have c3 : (vt_k X) = (vt_k Y) := by rw [← gq_eq (a := vt_k X) (b := vt_k Y) (by omega) (by omega)]; exact c3
    refine lv_aload_n hx hb d_Va_isLessThan_28 rfl (lv_at hl 0 rfl) ?_
    refine gh_get C V h0_1 gc_Va gi_Va 0 (by decide) f_Va_7 rfl rfl d_Va_isLessThan_29 ?_
    refine lv_iconst (v := 3) hx hb d_Va_isLessThan_32 (by decide) ?_
    refine lv_icmp_ne (tgt := 54) hx hb d_Va_isLessThan_33 (by decide) (fun c4 => ?_) (fun c4 => ?_)
    · have c4 : ¬ (vt_k X) = 3 := by rw [← gq_eq (a := vt_k X) (b := 3) (by omega) (by omega)]; exact c4
      refine lv_aload_n hx hb d_Va_isLessThan_54 rfl (lv_at hl 0 rfl) ?_
      refine gh_get C V h0_1 gc_Va gi_Va 2 (by decide) f_Va_17 rfl rfl d_Va_isLessThan_55 ?_
      refine lv_aload_n hx hb d_Va_isLessThan_58 rfl (lv_at hl 1 rfl) ?_
      refine gh_get C V h0_2 gc_Va gi_Va 2 (by decide) f_Va_17 rfl rfl d_Va_isLessThan_59 ?_
      refine gh_callS C V hl.1 m_Va_order l_Va_34 (c_Va_order l E _ f P la_1 la_2 (vt_l X) (vt_l Y) h1_1.1 h1_2.1 hll hlly) rfl ⟨by first | decide | omega | (dsimp only; omega), by first | decide | omega | (dsimp only; omega)⟩ ⟨by first | decide | omega | (dsimp only; omega), by first | decide | omega | (dsimp only; omega)⟩ (Nat.le_of_ble_eq_true rfl) rfl d_Va_isLessThan_62 (fun r z9 H locs hp V => ?_)
      obtain ⟨rfl, he9⟩ := hp
      rw [he9] at V
      refine W.eq (g2 := F0 m 65 ls [.int (vt_ord (vt_l X) (vt_l Y))]) rfl ?_
      refine lv_if_ge (tgt := 72) hx hb d_Va_isLessThan_65 (by decide) (fun c5 => ?_) (fun c5 => ?_)
      · have c5 : ¬ vt_ord (vt_l X) (vt_l Y) < 0 := lg_ge0 c5
        refine lv_iconst (v := 0) hx hb d_Va_isLessThan_72 (by decide) ?_
        refine gh_retz hAe C V hr (by first | rfl | exact gh_bi_nar _ | decide) hlocks d_Va_isLessThan_73 (by first | decide | omega | (dsimp only; omega)) (by first | decide | omega | (dsimp only; omega)) ?_
        exact ⟨by unfold vt_lt; rw [if_pos c3, if_neg c4]; simp [gh_bi, c5] <;> omega, rfl⟩
      · have c5 : vt_ord (vt_l X) (vt_l Y) < 0 := lg_lt0 c5
        refine lv_iconst (v := 1) hx hb d_Va_isLessThan_68 (by decide) ?_
        refine lv_goto (tgt := 73) hx hb d_Va_isLessThan_69 (by decide) ?_
        refine gh_retz hAe C V hr (by first | rfl | exact gh_bi_nar _ | decide) hlocks d_Va_isLessThan_73 (by first | decide | omega | (dsimp only; omega)) (by first | decide | omega | (dsimp only; omega)) ?_
        exact ⟨by unfold vt_lt; rw [if_pos c3, if_neg c4]; simp [gh_bi, c5] <;> omega, rfl⟩
    · have c4 : (vt_k X) = 3 := by rw [← gq_eq (a := vt_k X) (b := 3) (by omega) (by omega)]; exact c4
      refine lv_aload_n hx hb d_Va_isLessThan_36 rfl (lv_at hl 0 rfl) ?_
      refine gh_get C V h0_1 gc_Va gi_Va 1 (by decide) f_Va_13 rfl rfl d_Va_isLessThan_37 ?_
      refine lv_aload_n hx hb d_Va_isLessThan_40 rfl (lv_at hl 1 rfl) ?_
      refine gh_get C V h0_2 gc_Va gi_Va 1 (by decide) f_Va_13 rfl rfl d_Va_isLessThan_41 ?_
      refine W.lcmp hx hb d_Va_isLessThan_44 ?_
      refine lv_if_ge (tgt := 52) hx hb d_Va_isLessThan_45 (by decide) (fun c6 => ?_) (fun c6 => ?_)
      · have c6 : ¬ (vt_n X) < (vt_n Y) := by rw [← lg_lt]; exact lg_ge0 c6
        refine lv_iconst (v := 0) hx hb d_Va_isLessThan_52 (by decide) ?_
        refine gh_retz hAe C V hr (by first | rfl | exact gh_bi_nar _ | decide) hlocks d_Va_isLessThan_53 (by first | decide | omega | (dsimp only; omega)) (by first | decide | omega | (dsimp only; omega)) ?_
        exact ⟨by unfold vt_lt; rw [if_pos c3, if_pos c4]; simp [gh_bi, c6] <;> omega, rfl⟩
      · have c6 : (vt_n X) < (vt_n Y) := by rw [← lg_lt]; exact lg_lt0 c6
        refine lv_iconst (v := 1) hx hb d_Va_isLessThan_48 (by decide) ?_
        refine lv_goto (tgt := 53) hx hb d_Va_isLessThan_49 (by decide) ?_
        refine gh_retz hAe C V hr (by first | rfl | exact gh_bi_nar _ | decide) hlocks d_Va_isLessThan_53 (by first | decide | omega | (dsimp only; omega)) (by first | decide | omega | (dsimp only; omega)) ?_
        exact ⟨by unfold vt_lt; rw [if_pos c3, if_pos c4]; simp [gh_bi, c6] <;> omega, rfl⟩
  · have c3 : ¬ (vt_k X) = (vt_k Y) := by rw [← gq_eq (a := vt_k X) (b := vt_k Y) (by omega) (by omega)]; exact c3
    refine lv_aload_n hx hb d_Va_isLessThan_11 rfl (lv_at hl 0 rfl) ?_
    refine gh_get C V h0_1 gc_Va gi_Va 0 (by decide) f_Va_7 rfl rfl d_Va_isLessThan_12 ?_
    refine lv_aload_n hx hb d_Va_isLessThan_15 rfl (lv_at hl 1 rfl) ?_
    refine gh_get C V h0_2 gc_Va gi_Va 0 (by decide) f_Va_7 rfl rfl d_Va_isLessThan_16 ?_
    refine lv_icmp_ge (tgt := 26) hx hb d_Va_isLessThan_19 (by decide) (fun c7 => ?_) (fun c7 => ?_)
    · have c7 : (vt_k Y) ≤ (vt_k X) := by rw [← gq_le (a := vt_k Y) (b := vt_k X) (by omega) (by omega)]; exact c7
      refine lv_iconst (v := 0) hx hb d_Va_isLessThan_26 (by decide) ?_
      refine gh_retz hAe C V hr (by first | rfl | exact gh_bi_nar _ | decide) hlocks d_Va_isLessThan_27 (by first | decide | omega | (dsimp only; omega)) (by first | decide | omega | (dsimp only; omega)) ?_
      exact ⟨by unfold vt_lt; rw [if_neg c3]; simp [gh_bi, c7] <;> omega, rfl⟩
    · have c7 : ¬ (vt_k Y) ≤ (vt_k X) := by rw [← gq_le (a := vt_k Y) (b := vt_k X) (by omega) (by omega)]; exact c7
      refine lv_iconst (v := 1) hx hb d_Va_isLessThan_22 (by decide) ?_
      refine lv_goto (tgt := 27) hx hb d_Va_isLessThan_23 (by decide) ?_
      refine gh_retz hAe C V hr (by first | rfl | exact gh_bi_nar _ | decide) hlocks d_Va_isLessThan_27 (by first | decide | omega | (dsimp only; omega)) (by first | decide | omega | (dsimp only; omega)) ?_
      exact ⟨by unfold vt_lt; rw [if_neg c3]; simp [gh_bi, c7] <;> omega, rfl⟩
