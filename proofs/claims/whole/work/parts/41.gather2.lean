/-! putAll and addAll. Printed by wip/whole/gen_ga2.py. -/
theorem d_Ga_putAll_0 : decode b_Ga_putAll 0 = .ok (.iconst 0, 1) := by decide +kernel
theorem d_Ga_putAll_1 : decode b_Ga_putAll 1 = .ok (.istore_n 2, 1) := by decide +kernel
theorem d_Ga_putAll_2 : decode b_Ga_putAll 2 = .ok (.iload_n 2, 1) := by decide +kernel
theorem d_Ga_putAll_3 : decode b_Ga_putAll 3 = .ok (.aload_n 1, 1) := by decide +kernel
theorem d_Ga_putAll_4 : decode b_Ga_putAll 4 = .ok (.getfield 34, 3) := by decide +kernel
theorem d_Ga_putAll_7 : decode b_Ga_putAll 7 = .ok (.arraylength, 1) := by decide +kernel
theorem d_Ga_putAll_8 : decode b_Ga_putAll 8 = .ok (.if_icmp .ge 30, 3) := by decide +kernel
theorem d_Ga_putAll_11 : decode b_Ga_putAll 11 = .ok (.aload_n 0, 1) := by decide +kernel
theorem d_Ga_putAll_12 : decode b_Ga_putAll 12 = .ok (.aload_n 1, 1) := by decide +kernel
theorem d_Ga_putAll_13 : decode b_Ga_putAll 13 = .ok (.getfield 35, 3) := by decide +kernel
theorem d_Ga_putAll_16 : decode b_Ga_putAll 16 = .ok (.iload_n 2, 1) := by decide +kernel
theorem d_Ga_putAll_17 : decode b_Ga_putAll 17 = .ok (.aaload, 1) := by decide +kernel
theorem d_Ga_putAll_18 : decode b_Ga_putAll 18 = .ok (.aload_n 1, 1) := by decide +kernel
theorem d_Ga_putAll_19 : decode b_Ga_putAll 19 = .ok (.getfield 34, 3) := by decide +kernel
theorem d_Ga_putAll_22 : decode b_Ga_putAll 22 = .ok (.iload_n 2, 1) := by decide +kernel
theorem d_Ga_putAll_23 : decode b_Ga_putAll 23 = .ok (.aaload, 1) := by decide +kernel
theorem d_Ga_putAll_24 : decode b_Ga_putAll 24 = .ok (.invokevirtual 36, 3) := by decide +kernel
theorem d_Ga_putAll_27 : decode b_Ga_putAll 27 = .ok (.ifCond .ne 5, 3) := by decide +kernel
theorem d_Ga_putAll_30 : decode b_Ga_putAll 30 = .ok (.iconst 0, 1) := by decide +kernel
theorem d_Ga_putAll_31 : decode b_Ga_putAll 31 = .ok (.ireturn, 1) := by decide +kernel
theorem d_Ga_putAll_32 : decode b_Ga_putAll 32 = .ok (.iinc 2 1, 3) := by decide +kernel
theorem d_Ga_putAll_35 : decode b_Ga_putAll 35 = .ok (.goto (-33), 3) := by decide +kernel
theorem d_Ga_putAll_38 : decode b_Ga_putAll 38 = .ok (.iconst 1, 1) := by decide +kernel
theorem d_Ga_putAll_39 : decode b_Ga_putAll 39 = .ok (.ireturn, 1) := by decide +kernel
set_option maxHeartbeats 4000000 in
set_option maxRecDepth 100000 in
theorem c_Ga_putAll (l : Launch) (E : gh_E) (sz : Nat) (f : gh_F) (P : Nat → Prop) (a k i : Nat) (ks : List (List Int32)) (xs : List vt) (b : Nat) (O : vt) (hg : ga_R E P f a k i ks xs) (hkl : ks.length = xs.length) (hbv : cw E P f b O) (hqc : (vt_q O).length = vt_c O) : gh_M l y_Ga_putAll b_Ga_putAll 3 (some .boolean) E sz [.ref a, .ref b] f { frames := 3, cells := 0, slots := 0, locals := 100 } (fun r g => match vt_pa O (vt_c O) 0 (ks, xs) with | none => r = some (.int 0) ∧ ga_0 E P g a k i ∧ gh_fr f g (ga_M a k i) | some s => r = some (.int 1) ∧ ga_R E P g a k i s.1 s.2 ∧ gh_fr f g (ga_M a k i)) := by
  have hgc := hg
  obtain ⟨hpa, -⟩ := hgc
  have ho := vo_o.mp hbv.2
  have hc16 := ho.2.2.2.2.2.2.1
  have hqk := ho.2.2.2.2.2.2.2.2.2.2.1
  have hsub := ho.2.2.2.2.2.2.2.2.2.2.2
  refine gh_open (by decide) (Nat.le_of_ble_eq_true rfl) ?_
  intro p e s m args below meth c A ls hAe C V hr hlocks hname hl
  have hx := C.1
  have hb := C.2.1
  have hl : lv_has ls 3 [(0, .ref a), (1, .ref b)] := hl
  refine lv_iconst (v := 0) hx hb d_Ga_putAll_0 (by decide) ?_
  refine lv_istore_n hx hb d_Ga_putAll_1 rfl hl (by decide) rfl (fun ls hl => ?_)
  have hl : lv_has ls 3 [(2, .int 0), (0, .ref a), (1, .ref b)] := hl
  have hl : lv_has ls 3 [(2, .int 0), (0, .ref a), (1, .ref b)] := lv_sub hl [0, 1, 2] rfl
  have hl : lv_has ls 3 [(2, .int (nI 0)), (0, .ref a), (1, .ref b)] := hl
  have loop : ∀ (n9 i9 : Nat) (s9 : List (List Int32) × List vt) (f1 : gh_F) (H : Heap) (locs : List Loc) (ls : Array Slot), i9 + n9 = vt_c O → ga_R E P f1 a k i s9.1 s9.2 → s9.1.length = s9.2.length → vt_pa O n9 i9 s9 = vt_pa O (vt_c O) 0 (ks, xs) → gh_fr f f1 (ga_M a k i) → gh_V E A f1 s H locs → lv_has ls 3 [(2, .int (nI i9)), (0, .ref a), (1, .ref b)] → W p l e { frames := 3, cells := 0, slots := 0, locals := 100 } s m args below meth c H locs (0) (0) (MQ below (gh_Q E f (fun r g => match vt_pa O (vt_c O) 0 (ks, xs) with | none => r = some (.int 0) ∧ ga_0 E P g a k i ∧ gh_fr f g (ga_M a k i) | some s => r = some (.int 1) ∧ ga_R E P g a k i s.1 s.2 ∧ gh_fr f g (ga_M a k i))) args s 0 0 A) (F0 m 2 ls []) := by
    intro n9
    induction n9 with
    | zero =>
      intro i9 s9 f1 H locs ls hi hgR hln hst hfr V hl
      have hb1 := hbv.keep hfr (ga_Mn hpa)
      have hgc := hgR
      obtain ⟨_, _, gk, gi, K, B, haa, hka, hia, -⟩ := hgc
      obtain ⟨la_1, ka_1, ia_1, gk_1, gi_1, K_1, B_1, hp_1, h0_1, h1_1, h2_1, h3_1, h4_1, h5_1⟩ := cv_o.mp hb1.1
      refine lv_iload_n hx hb d_Ga_putAll_2 rfl (lv_at hl 0 rfl) ?_
      refine lv_aload_n hx hb d_Ga_putAll_3 rfl (lv_at hl 2 rfl) ?_
      refine gh_get C V h0_1 gc_Va gi_Va 4 (by decide) f_Ga_34 rfl rfl d_Ga_putAll_4 ?_
      refine gh_alen (t0 := 4) C V rfl h3_1 (v := nI (vt_c O)) rfl d_Ga_putAll_7 ?_
      refine lv_icmp_ge (tgt := 38) hx hb d_Ga_putAll_8 (by decide) (fun c2 => ?_) (fun c2 => absurd (nI_le (by omega) (by omega)) c2)
      refine lv_iconst (v := 1) hx hb d_Ga_putAll_38 (by decide) ?_
      refine gh_retz hAe C V hr (by first | rfl | exact gh_bi_nar _ | decide) hlocks d_Ga_putAll_39 (by first | decide | omega | (dsimp only; omega)) (by first | decide | omega | (dsimp only; omega)) ?_
      rw [← hst]
      exact ⟨rfl, hgR, hfr⟩
    | succ n9 ih =>
      intro i9 s9 f1 H locs ls hi hgR hln hst hfr V hl
      have hb1 := hbv.keep hfr (ga_Mn hpa)
      have hgc := hgR
      obtain ⟨_, _, gk, gi, K, B, haa, hka, hia, -⟩ := hgc
      obtain ⟨la_3, ka_3, ia_3, gk_3, gi_3, K_3, B_3, hp_3, h0_3, h1_3, h2_3, h3_3, h4_3, h5_3⟩ := cv_o.mp hb1.1
      refine lv_iload_n hx hb d_Ga_putAll_2 rfl (lv_at hl 0 rfl) ?_
      refine lv_aload_n hx hb d_Ga_putAll_3 rfl (lv_at hl 2 rfl) ?_
      refine gh_get C V h0_3 gc_Va gi_Va 4 (by decide) f_Ga_34 rfl rfl d_Ga_putAll_4 ?_
      refine gh_alen (t0 := 4) C V rfl h3_3 (v := nI (vt_c O)) rfl d_Ga_putAll_7 ?_
      refine lv_icmp_ge (tgt := 38) hx hb d_Ga_putAll_8 (by decide) (fun c4 => absurd c4 (nI_ge (by omega) (by omega))) (fun c4 => ?_)
      refine lv_aload_n hx hb d_Ga_putAll_11 rfl (lv_at hl 1 rfl) ?_
      refine lv_aload_n hx hb d_Ga_putAll_12 rfl (lv_at hl 2 rfl) ?_
      refine gh_get C V h0_3 gc_Va gi_Va 3 (by decide) f_Ga_35 rfl rfl d_Ga_putAll_13 ?_
      refine lv_iload_n hx hb d_Ga_putAll_16 rfl (lv_at hl 0 rfl) ?_
      refine gn_aald (t0 := 4) (i := i9) (v := (K_3 i9)) C V rfl h2_3 (by omega) (by omega) (h4_3 i9 (by omega)).1 d_Ga_putAll_17 ?_
      refine lv_aload_n hx hb d_Ga_putAll_18 rfl (lv_at hl 2 rfl) ?_
      refine gh_get C V h0_3 gc_Va gi_Va 4 (by decide) f_Ga_34 rfl rfl d_Ga_putAll_19 ?_
      refine lv_iload_n hx hb d_Ga_putAll_22 rfl (lv_at hl 0 rfl) ?_
      refine gn_aald (t0 := 4) (i := i9) (v := (B_3 i9)) C V rfl h3_3 (by omega) (by omega) (h5_3 i9 (by omega)).1 d_Ga_putAll_23 ?_
      refine gh_callV C V hl.1 m_Ga_put l_Ga_36 (c_Ga_put l E _ f1 P a k i s9.1 s9.2 (K_3 i9) (B_3 i9) ((vt_q O).getD i9 []) (vt_s O i9) hgR hln (h4_3 i9 (by omega)).2 (hqk i9 (by omega)) ⟨((h5_3 i9 (by omega)).2).le (by decide), (hsub i9 (by omega)).2.down (by have := (hsub i9 (by omega)).1; have := ho.2.2.2.2.2.2.2.2.1; omega)⟩) rfl haa gc_Ga ⟨by first | decide | omega | (dsimp only; omega), by first | decide | omega | (dsimp only; omega)⟩ ⟨by first | decide | omega | (dsimp only; omega), by first | decide | omega | (dsimp only; omega)⟩ (Nat.le_of_ble_eq_true rfl) rfl d_Ga_putAll_24 (fun r g9 H locs hp V => ?_)
      cases hF : vt_put s9 ((vt_q O).getD i9 []) (vt_s O i9) with
      | none =>
        rw [show vt_put (s9.1, s9.2) ((vt_q O).getD i9 []) (vt_s O i9) = none from hF] at hp
        obtain ⟨rfl, he9⟩ := hp
        rw [he9] at V
        refine W.eq (g2 := F0 m 27 ls [.int 0]) rfl ?_
        refine lv_if_ne (tgt := 32) hx hb d_Ga_putAll_27 (by decide) (fun c5 => absurd (by decide) c5) (fun c5 => ?_)
        refine lv_iconst (v := 0) hx hb d_Ga_putAll_30 (by decide) ?_
        refine gh_retz hAe C V hr (by first | rfl | exact gh_bi_nar _ | decide) hlocks d_Ga_putAll_31 (by first | decide | omega | (dsimp only; omega)) (by first | decide | omega | (dsimp only; omega)) ?_
        rw [← hst, vt_pa, hF]
        exact ⟨rfl, hgR.raw, hfr⟩
      | some s8 =>
        rw [show vt_put (s9.1, s9.2) ((vt_q O).getD i9 []) (vt_s O i9) = some s8 from hF] at hp
        obtain ⟨rfl, hg9, hfr9⟩ := hp
        have hfr := hfr.tr hfr9 (fun _ _ _ z => z)
        refine W.eq (g2 := F0 m 27 ls [.int 1]) rfl ?_
        refine lv_if_ne (tgt := 32) hx hb d_Ga_putAll_27 (by decide) (fun c6 => ?_) (fun c6 => absurd c6 (by decide))
        refine lv_iinc (k := 0) (v := (nI i9) + 1) hx hb d_Ga_putAll_32 hl rfl (by rfl) (by decide) rfl (fun ls hl => ?_)
        have hl : lv_has ls 3 [(2, .int (nI (i9 + 1))), (0, .ref a), (1, .ref b)] := by rw [nI_succ]; exact hl
        refine lv_goto (tgt := 2) hx hb d_Ga_putAll_35 (by decide) ?_
        have hl : lv_has ls 3 [(2, .int (nI (i9 + 1))), (0, .ref a), (1, .ref b)] := lv_sub hl [0, 1, 2] rfl
        have hl : lv_has ls 3 [(2, .int (nI (i9 + 1))), (0, .ref a), (1, .ref b)] := hl
        exact ih (i9 + 1) s8 g9 H locs ls (by omega) hg9 (vt_put_len hF hln) (by rw [← hst, vt_pa, hF]) hfr V hl
  exact loop (vt_c O) 0 (ks, xs) f _ _ ls (by omega) hg hkl rfl gh_fr.rf V hl
theorem d_Ga_addAll_0 : decode b_Ga_addAll 0 = .ok (.iconst 0, 1) := by decide +kernel
theorem d_Ga_addAll_1 : decode b_Ga_addAll 1 = .ok (.istore_n 2, 1) := by decide +kernel
theorem d_Ga_addAll_2 : decode b_Ga_addAll 2 = .ok (.iload_n 2, 1) := by decide +kernel
theorem d_Ga_addAll_3 : decode b_Ga_addAll 3 = .ok (.aload_n 1, 1) := by decide +kernel
theorem d_Ga_addAll_4 : decode b_Ga_addAll 4 = .ok (.getfield 34, 3) := by decide +kernel
theorem d_Ga_addAll_7 : decode b_Ga_addAll 7 = .ok (.arraylength, 1) := by decide +kernel
theorem d_Ga_addAll_8 : decode b_Ga_addAll 8 = .ok (.if_icmp .ge 24, 3) := by decide +kernel
theorem d_Ga_addAll_11 : decode b_Ga_addAll 11 = .ok (.aload_n 0, 1) := by decide +kernel
theorem d_Ga_addAll_12 : decode b_Ga_addAll 12 = .ok (.aload_n 1, 1) := by decide +kernel
theorem d_Ga_addAll_13 : decode b_Ga_addAll 13 = .ok (.getfield 34, 3) := by decide +kernel
theorem d_Ga_addAll_16 : decode b_Ga_addAll 16 = .ok (.iload_n 2, 1) := by decide +kernel
theorem d_Ga_addAll_17 : decode b_Ga_addAll 17 = .ok (.aaload, 1) := by decide +kernel
theorem d_Ga_addAll_18 : decode b_Ga_addAll 18 = .ok (.invokevirtual 30, 3) := by decide +kernel
theorem d_Ga_addAll_21 : decode b_Ga_addAll 21 = .ok (.ifCond .ne 5, 3) := by decide +kernel
theorem d_Ga_addAll_24 : decode b_Ga_addAll 24 = .ok (.iconst 0, 1) := by decide +kernel
theorem d_Ga_addAll_25 : decode b_Ga_addAll 25 = .ok (.ireturn, 1) := by decide +kernel
theorem d_Ga_addAll_26 : decode b_Ga_addAll 26 = .ok (.iinc 2 1, 3) := by decide +kernel
theorem d_Ga_addAll_29 : decode b_Ga_addAll 29 = .ok (.goto (-27), 3) := by decide +kernel
theorem d_Ga_addAll_32 : decode b_Ga_addAll 32 = .ok (.iconst 1, 1) := by decide +kernel
theorem d_Ga_addAll_33 : decode b_Ga_addAll 33 = .ok (.ireturn, 1) := by decide +kernel
set_option maxHeartbeats 4000000 in
set_option maxRecDepth 100000 in
theorem c_Ga_addAll (l : Launch) (E : gh_E) (sz : Nat) (f : gh_F) (P : Nat → Prop) (a k i : Nat) (ks : List (List Int32)) (xs : List vt) (b : Nat) (O : vt) (hg : ga_R E P f a k i ks xs) (hbv : cw E P f b O) : gh_M l y_Ga_addAll b_Ga_addAll 3 (some .boolean) E sz [.ref a, .ref b] f { frames := 3, cells := 0, slots := 0, locals := 100 } (fun r g => match vt_aa O (vt_c O) 0 xs with | none => r = some (.int 0) ∧ ga_0 E P g a k i ∧ gh_fr f g (ga_M a k i) | some s => r = some (.int 1) ∧ ga_R E P g a k i ks s ∧ gh_fr f g (ga_M a k i)) := by
  have hgc := hg
  obtain ⟨hpa, -⟩ := hgc
  have ho := vo_o.mp hbv.2
  have hc16 := ho.2.2.2.2.2.2.1
  have hqk := ho.2.2.2.2.2.2.2.2.2.2.1
  have hsub := ho.2.2.2.2.2.2.2.2.2.2.2
  refine gh_open (by decide) (Nat.le_of_ble_eq_true rfl) ?_
  intro p e s m args below meth c A ls hAe C V hr hlocks hname hl
  have hx := C.1
  have hb := C.2.1
  have hl : lv_has ls 3 [(0, .ref a), (1, .ref b)] := hl
  refine lv_iconst (v := 0) hx hb d_Ga_addAll_0 (by decide) ?_
  refine lv_istore_n hx hb d_Ga_addAll_1 rfl hl (by decide) rfl (fun ls hl => ?_)
  have hl : lv_has ls 3 [(2, .int 0), (0, .ref a), (1, .ref b)] := hl
  have hl : lv_has ls 3 [(2, .int 0), (0, .ref a), (1, .ref b)] := lv_sub hl [0, 1, 2] rfl
  have hl : lv_has ls 3 [(2, .int (nI 0)), (0, .ref a), (1, .ref b)] := hl
  have loop : ∀ (n9 i9 : Nat) (s9 : List vt) (f1 : gh_F) (H : Heap) (locs : List Loc) (ls : Array Slot), i9 + n9 = vt_c O → ga_R E P f1 a k i ks s9 → vt_aa O n9 i9 s9 = vt_aa O (vt_c O) 0 xs → gh_fr f f1 (ga_M a k i) → gh_V E A f1 s H locs → lv_has ls 3 [(2, .int (nI i9)), (0, .ref a), (1, .ref b)] → W p l e { frames := 3, cells := 0, slots := 0, locals := 100 } s m args below meth c H locs (0) (0) (MQ below (gh_Q E f (fun r g => match vt_aa O (vt_c O) 0 xs with | none => r = some (.int 0) ∧ ga_0 E P g a k i ∧ gh_fr f g (ga_M a k i) | some s => r = some (.int 1) ∧ ga_R E P g a k i ks s ∧ gh_fr f g (ga_M a k i))) args s 0 0 A) (F0 m 2 ls []) := by
    intro n9
    induction n9 with
    | zero =>
      intro i9 s9 f1 H locs ls hi hgR hst hfr V hl
      have hb1 := hbv.keep hfr (ga_Mn hpa)
      have hgc := hgR
      obtain ⟨_, _, gk, gi, K, B, haa, hka, hia, -⟩ := hgc
      obtain ⟨la_1, ka_1, ia_1, gk_1, gi_1, K_1, B_1, hp_1, h0_1, h1_1, h2_1, h3_1, h4_1, h5_1⟩ := cv_o.mp hb1.1
      refine lv_iload_n hx hb d_Ga_addAll_2 rfl (lv_at hl 0 rfl) ?_
      refine lv_aload_n hx hb d_Ga_addAll_3 rfl (lv_at hl 2 rfl) ?_
      refine gh_get C V h0_1 gc_Va gi_Va 4 (by decide) f_Ga_34 rfl rfl d_Ga_addAll_4 ?_
      refine gh_alen (t0 := 4) C V rfl h3_1 (v := nI (vt_c O)) rfl d_Ga_addAll_7 ?_
      refine lv_icmp_ge (tgt := 32) hx hb d_Ga_addAll_8 (by decide) (fun c2 => ?_) (fun c2 => absurd (nI_le (by omega) (by omega)) c2)
      refine lv_iconst (v := 1) hx hb d_Ga_addAll_32 (by decide) ?_
      refine gh_retz hAe C V hr (by first | rfl | exact gh_bi_nar _ | decide) hlocks d_Ga_addAll_33 (by first | decide | omega | (dsimp only; omega)) (by first | decide | omega | (dsimp only; omega)) ?_
      rw [← hst]
      exact ⟨rfl, hgR, hfr⟩
    | succ n9 ih =>
      intro i9 s9 f1 H locs ls hi hgR hst hfr V hl
      have hb1 := hbv.keep hfr (ga_Mn hpa)
      have hgc := hgR
      obtain ⟨_, _, gk, gi, K, B, haa, hka, hia, -⟩ := hgc
      obtain ⟨la_3, ka_3, ia_3, gk_3, gi_3, K_3, B_3, hp_3, h0_3, h1_3, h2_3, h3_3, h4_3, h5_3⟩ := cv_o.mp hb1.1
      refine lv_iload_n hx hb d_Ga_addAll_2 rfl (lv_at hl 0 rfl) ?_
      refine lv_aload_n hx hb d_Ga_addAll_3 rfl (lv_at hl 2 rfl) ?_
      refine gh_get C V h0_3 gc_Va gi_Va 4 (by decide) f_Ga_34 rfl rfl d_Ga_addAll_4 ?_
      refine gh_alen (t0 := 4) C V rfl h3_3 (v := nI (vt_c O)) rfl d_Ga_addAll_7 ?_
      refine lv_icmp_ge (tgt := 32) hx hb d_Ga_addAll_8 (by decide) (fun c4 => absurd c4 (nI_ge (by omega) (by omega))) (fun c4 => ?_)
      refine lv_aload_n hx hb d_Ga_addAll_11 rfl (lv_at hl 1 rfl) ?_
      refine lv_aload_n hx hb d_Ga_addAll_12 rfl (lv_at hl 2 rfl) ?_
      refine gh_get C V h0_3 gc_Va gi_Va 4 (by decide) f_Ga_34 rfl rfl d_Ga_addAll_13 ?_
      refine lv_iload_n hx hb d_Ga_addAll_16 rfl (lv_at hl 0 rfl) ?_
      refine gn_aald (t0 := 4) (i := i9) (v := (B_3 i9)) C V rfl h3_3 (by omega) (by omega) (h5_3 i9 (by omega)).1 d_Ga_addAll_17 ?_
      refine gh_callV C V hl.1 m_Ga_add l_Ga_30 (c_Ga_add l E _ f1 P a k i ks s9 (B_3 i9) (vt_s O i9) hgR ⟨((h5_3 i9 (by omega)).2).le (by decide), (hsub i9 (by omega)).2.down (by have := (hsub i9 (by omega)).1; have := ho.2.2.2.2.2.2.2.2.1; omega)⟩) rfl haa gc_Ga ⟨by first | decide | omega | (dsimp only; omega), by first | decide | omega | (dsimp only; omega)⟩ ⟨by first | decide | omega | (dsimp only; omega), by first | decide | omega | (dsimp only; omega)⟩ (Nat.le_of_ble_eq_true rfl) rfl d_Ga_addAll_18 (fun r g9 H locs hp V => ?_)
      by_cases hxl : s9.length < 16
      · obtain ⟨rfl, hg9, hfr9⟩ := hp.1 hxl
        have hfr := hfr.tr hfr9 (fun _ _ _ z => z)
        refine W.eq (g2 := F0 m 21 ls [.int 1]) rfl ?_
        refine lv_if_ne (tgt := 26) hx hb d_Ga_addAll_21 (by decide) (fun c5 => ?_) (fun c5 => absurd c5 (by decide))
        refine lv_iinc (k := 0) (v := (nI i9) + 1) hx hb d_Ga_addAll_26 hl rfl (by rfl) (by decide) rfl (fun ls hl => ?_)
        have hl : lv_has ls 3 [(2, .int (nI (i9 + 1))), (0, .ref a), (1, .ref b)] := by rw [nI_succ]; exact hl
        refine lv_goto (tgt := 2) hx hb d_Ga_addAll_29 (by decide) ?_
        have hl : lv_has ls 3 [(2, .int (nI (i9 + 1))), (0, .ref a), (1, .ref b)] := lv_sub hl [0, 1, 2] rfl
        have hl : lv_has ls 3 [(2, .int (nI (i9 + 1))), (0, .ref a), (1, .ref b)] := hl
        exact ih (i9 + 1) _ g9 H locs ls (by omega) hg9 (by rw [← hst, vt_aa, if_pos hxl]) hfr V hl
      · obtain ⟨rfl, he9⟩ := hp.2 (by omega)
        rw [he9] at V
        refine W.eq (g2 := F0 m 21 ls [.int 0]) rfl ?_
        refine lv_if_ne (tgt := 26) hx hb d_Ga_addAll_21 (by decide) (fun c6 => absurd (by decide) c6) (fun c6 => ?_)
        refine lv_iconst (v := 0) hx hb d_Ga_addAll_24 (by decide) ?_
        refine gh_retz hAe C V hr (by first | rfl | exact gh_bi_nar _ | decide) hlocks d_Ga_addAll_25 (by first | decide | omega | (dsimp only; omega)) (by first | decide | omega | (dsimp only; omega)) ?_
        rw [← hst, vt_aa, if_neg hxl]
        exact ⟨rfl, hgR.raw, hfr⟩
  exact loop (vt_c O) 0 xs f _ _ ls (by omega) hg rfl gh_fr.rf V hl
