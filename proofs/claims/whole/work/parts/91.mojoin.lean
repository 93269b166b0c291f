/-! isLess, joinLetters, joinMany of the model. Printed by wip/whole/gen_mo12.py. -/
/-- a string at nv grows: all else stays -/
def sb (I1 : mo_I) (J1 : mo_J) (nv : Nat) (L : List Int32) (I2 : mo_I) (J2 : mo_J) : Prop := (∀ k j, k ≠ 3 ∨ j ≠ nv → I2 k j = I1 k j) ∧ I2 3 nv = nI L.length ∧ (∀ k j, (k ≠ 6 ∧ k ≠ 7 ∧ k ≠ 8) ∨ j ≠ nv → J2 k j = J1 k j) ∧ ml_L J2 nv L
theorem sb.add {I1 I2 : mo_I} {J1 J2 J3 : mo_J} {nv : Nat} {L : List Int32} {x : Int32} (h : sb I1 J1 nv L I2 J2) (hj : ∀ k j, (k ≠ 6 ∧ k ≠ 7 ∧ k ≠ 8) ∨ j ≠ nv → J3 k j = J2 k j) (hl : ml_L J3 nv (L ++ [x])) : sb I1 J1 nv (L ++ [x]) (va_up I2 3 (upd (I2 3) nv (nI (L.length + 1)))) J3 := by
  refine ⟨fun k j hkj => ?_, ?_, fun k j hkj => (hj k j hkj).trans (h.2.2.1 k j hkj), hl⟩
  · by_cases k3 : k = 3
    · subst k3; rw [va_up_s]; simp only [upd]; rw [if_neg (by omega)]; exact h.1 3 j (by omega)
    · rw [va_up_n k3]; exact h.1 k j (Or.inl k3)
  · rw [va_up_s, List.length_append]; simp [upd]
theorem mr_str {S S1 : Nat → Int32} {I I1 I2 : mo_I} {J J1 J2 : mo_J} {b0 nv pb np wt : Nat} {L : List Int32} (h : mk_o S I J nv 4 0 S1 I1 J1) (hs : sb I1 J1 nv L I2 J2) (hL : lt_ok L) (h12 : S 12 = nI np) (hb : b0 ≤ nv) (hv : nv < 760) (h29 : 29 ≤ nv) (hp8 : np ≤ 8800) : mr_A (some (vt_t L)) S I J b0 nv pb np wt (va_up (va_up (va_up S1 47 (nI nv)) 45 (nI wt)) 46 1) I2 J2 := by
  have e1 := h.1
  obtain ⟨q1, q3, q4, q5⟩ := h.2.2.1
  have hm : ma I J I2 J2 b0 nv pb np := (h.ma h29).tr (nv1 := nv) (np1 := np) ⟨fun k u _ hu => hs.1 k u (Or.inr (hu.new h29)), fun k u _ hu => hs.2.2.1 k u (Or.inr (hu.new h29)), fun p _ _ => hs.1 10 p (Or.inl (by decide))⟩ (Nat.le_refl _) (Nat.le_refl _)
  refine ⟨⟨fun k h11 _ _ h45 h46 h47 => by rw [va_up_n h46, va_up_n h45, va_up_n h47, e1, va_up_n h11], fun k hk => funext (fun j => (hs.1 k j (Or.inl (by omega))).trans (h.2.1 k j (Or.inl (by omega))))⟩, hm, by rw [va_up_n (by decide), va_up_s], nv + 1, np, ⟨Nat.le_succ _, Nat.le_refl _, Nat.le_refl _, Nat.le_add_right _ _, hp8⟩, ?_, ?_, ?_, nv, ?_, mv_S.str ⟨⟨Or.inr ⟨hb, by omega⟩, hv⟩, (hs.1 1 nv (Or.inl (by decide))).trans q1, (hs.2.2.1 2 nv (Or.inl (by decide))).trans h.2.2.2.2.1, hs.2.1, hs.2.2.2, (hs.1 4 nv (Or.inl (by decide))).trans q4, (hs.1 5 nv (Or.inl (by decide))).trans q5⟩ hL⟩
  · rw [va_up_n (by decide), va_up_n (by decide), va_up_n (by decide), e1, va_up_s]
  · rw [va_up_n (by decide), va_up_n (by decide), va_up_n (by decide), e1, va_up_n (by decide)]; exact h12
  · rw [va_up_s]
  · rw [va_up_n (by decide), va_up_n (by decide), va_up_s]
theorem li_take {L : List Int32} {n : Nat} (h : n < L.length) : L.take (n + 1) = L.take n ++ [L.getD n 0] := by
  induction L generalizing n with
  | nil => exact absurd h (Nat.not_lt_zero n)
  | cons y r ih =>
    cases n with
    | zero => rfl
    | succ n =>
      have := ih (n := n) (by simpa using h)
      show y :: r.take (n + 1) = y :: (r.take n ++ [r.getD n 0])
      rw [this]
theorem d_Mo_isLess_0 : decode b_Mo_isLess 0 = .ok (.aload_n 0, 1) := by decide +kernel
theorem d_Mo_isLess_1 : decode b_Mo_isLess 1 = .ok (.getfield 7, 3) := by decide +kernel
theorem d_Mo_isLess_4 : decode b_Mo_isLess 4 = .ok (.iload_n 1, 1) := by decide +kernel
theorem d_Mo_isLess_5 : decode b_Mo_isLess 5 = .ok (.iaload, 1) := by decide +kernel
theorem d_Mo_isLess_6 : decode b_Mo_isLess 6 = .ok (.aload_n 0, 1) := by decide +kernel
theorem d_Mo_isLess_7 : decode b_Mo_isLess 7 = .ok (.getfield 7, 3) := by decide +kernel
theorem d_Mo_isLess_10 : decode b_Mo_isLess 10 = .ok (.iload_n 2, 1) := by decide +kernel
theorem d_Mo_isLess_11 : decode b_Mo_isLess 11 = .ok (.iaload, 1) := by decide +kernel
theorem d_Mo_isLess_12 : decode b_Mo_isLess 12 = .ok (.if_icmp .eq 24, 3) := by decide +kernel
theorem d_Mo_isLess_15 : decode b_Mo_isLess 15 = .ok (.aload_n 0, 1) := by decide +kernel
theorem d_Mo_isLess_16 : decode b_Mo_isLess 16 = .ok (.getfield 7, 3) := by decide +kernel
theorem d_Mo_isLess_19 : decode b_Mo_isLess 19 = .ok (.iload_n 1, 1) := by decide +kernel
theorem d_Mo_isLess_20 : decode b_Mo_isLess 20 = .ok (.iaload, 1) := by decide +kernel
theorem d_Mo_isLess_21 : decode b_Mo_isLess 21 = .ok (.aload_n 0, 1) := by decide +kernel
theorem d_Mo_isLess_22 : decode b_Mo_isLess 22 = .ok (.getfield 7, 3) := by decide +kernel
theorem d_Mo_isLess_25 : decode b_Mo_isLess 25 = .ok (.iload_n 2, 1) := by decide +kernel
theorem d_Mo_isLess_26 : decode b_Mo_isLess 26 = .ok (.iaload, 1) := by decide +kernel
theorem d_Mo_isLess_27 : decode b_Mo_isLess 27 = .ok (.if_icmp .ge 7, 3) := by decide +kernel
theorem d_Mo_isLess_30 : decode b_Mo_isLess 30 = .ok (.iconst 1, 1) := by decide +kernel
theorem d_Mo_isLess_31 : decode b_Mo_isLess 31 = .ok (.goto 4, 3) := by decide +kernel
theorem d_Mo_isLess_34 : decode b_Mo_isLess 34 = .ok (.iconst 0, 1) := by decide +kernel
theorem d_Mo_isLess_35 : decode b_Mo_isLess 35 = .ok (.ireturn, 1) := by decide +kernel
theorem d_Mo_isLess_36 : decode b_Mo_isLess 36 = .ok (.aload_n 0, 1) := by decide +kernel
theorem d_Mo_isLess_37 : decode b_Mo_isLess 37 = .ok (.getfield 7, 3) := by decide +kernel
theorem d_Mo_isLess_40 : decode b_Mo_isLess 40 = .ok (.iload_n 1, 1) := by decide +kernel
theorem d_Mo_isLess_41 : decode b_Mo_isLess 41 = .ok (.iaload, 1) := by decide +kernel
theorem d_Mo_isLess_42 : decode b_Mo_isLess 42 = .ok (.iconst 3, 1) := by decide +kernel
theorem d_Mo_isLess_43 : decode b_Mo_isLess 43 = .ok (.if_icmp .ne 27, 3) := by decide +kernel
theorem d_Mo_isLess_46 : decode b_Mo_isLess 46 = .ok (.aload_n 0, 1) := by decide +kernel
theorem d_Mo_isLess_47 : decode b_Mo_isLess 47 = .ok (.getfield 13, 3) := by decide +kernel
theorem d_Mo_isLess_50 : decode b_Mo_isLess 50 = .ok (.iload_n 1, 1) := by decide +kernel
theorem d_Mo_isLess_51 : decode b_Mo_isLess 51 = .ok (.laload, 1) := by decide +kernel
theorem d_Mo_isLess_52 : decode b_Mo_isLess 52 = .ok (.aload_n 0, 1) := by decide +kernel
theorem d_Mo_isLess_53 : decode b_Mo_isLess 53 = .ok (.getfield 13, 3) := by decide +kernel
theorem d_Mo_isLess_56 : decode b_Mo_isLess 56 = .ok (.iload_n 2, 1) := by decide +kernel
theorem d_Mo_isLess_57 : decode b_Mo_isLess 57 = .ok (.laload, 1) := by decide +kernel
theorem d_Mo_isLess_58 : decode b_Mo_isLess 58 = .ok (.lcmp, 1) := by decide +kernel
theorem d_Mo_isLess_59 : decode b_Mo_isLess 59 = .ok (.ifCond .ge 7, 3) := by decide +kernel
theorem d_Mo_isLess_62 : decode b_Mo_isLess 62 = .ok (.iconst 1, 1) := by decide +kernel
theorem d_Mo_isLess_63 : decode b_Mo_isLess 63 = .ok (.goto 31, 3) := by decide +kernel
theorem d_Mo_isLess_66 : decode b_Mo_isLess 66 = .ok (.iconst 0, 1) := by decide +kernel
theorem d_Mo_isLess_67 : decode b_Mo_isLess 67 = .ok (.goto 27, 3) := by decide +kernel
theorem d_Mo_isLess_70 : decode b_Mo_isLess 70 = .ok (.aload_n 0, 1) := by decide +kernel
theorem d_Mo_isLess_71 : decode b_Mo_isLess 71 = .ok (.getfield 7, 3) := by decide +kernel
theorem d_Mo_isLess_74 : decode b_Mo_isLess 74 = .ok (.iload_n 1, 1) := by decide +kernel
theorem d_Mo_isLess_75 : decode b_Mo_isLess 75 = .ok (.iaload, 1) := by decide +kernel
theorem d_Mo_isLess_76 : decode b_Mo_isLess 76 = .ok (.iconst 4, 1) := by decide +kernel
theorem d_Mo_isLess_77 : decode b_Mo_isLess 77 = .ok (.if_icmp .ne 16, 3) := by decide +kernel
theorem d_Mo_isLess_80 : decode b_Mo_isLess 80 = .ok (.aload_n 0, 1) := by decide +kernel
theorem d_Mo_isLess_81 : decode b_Mo_isLess 81 = .ok (.iload_n 1, 1) := by decide +kernel
theorem d_Mo_isLess_82 : decode b_Mo_isLess 82 = .ok (.iload_n 2, 1) := by decide +kernel
theorem d_Mo_isLess_83 : decode b_Mo_isLess 83 = .ok (.invokevirtual 153, 3) := by decide +kernel
theorem d_Mo_isLess_86 : decode b_Mo_isLess 86 = .ok (.ifCond .ge 7, 3) := by decide +kernel
theorem d_Mo_isLess_89 : decode b_Mo_isLess 89 = .ok (.iconst 1, 1) := by decide +kernel
theorem d_Mo_isLess_90 : decode b_Mo_isLess 90 = .ok (.goto 4, 3) := by decide +kernel
theorem d_Mo_isLess_93 : decode b_Mo_isLess 93 = .ok (.iconst 0, 1) := by decide +kernel
theorem d_Mo_isLess_94 : decode b_Mo_isLess 94 = .ok (.ireturn, 1) := by decide +kernel
set_option maxHeartbeats 4000000 in
set_option maxRecDepth 100000 in
theorem c_Mo_isLess (l : Launch) (E : gh_E) (sz : Nat) (f : gh_F) (a : Nat) (ad : Nat → Nat) (S : Nat → Int32) (I : Nat → Nat → Int32) (J : Nat → Nat → Int64) (b0 nv pb np : Nat) (x y : Nat) (OX OY : vt) (hX : mo_R E f a ad S I J) (hOx : mw I J b0 nv pb np x OX) (hOy : mw I J b0 nv pb np y OY) : gh_M l y_Mo_isLess b_Mo_isLess 3 (some .boolean) E sz [.ref a, .int (nI x), .int (nI y)] f { frames := 6, cells := 0, slots := 0, locals := 160 } (fun r g => r = some (.int (gh_bi (vt_lt OX OY))) ∧ g = f) := by
  obtain ⟨hax, h1x, h2x, h3x, h4x, h5x, h6x, h7x⟩ := mv_o.mp hOx.1
  have hx7 := hax.2
  have hoX := vo_o.mp hOx.2
  have hkx6 := hoX.1
  have hcx16 := hoX.2.2.2.2.2.2.1
  obtain ⟨hay, h1y, h2y, h3y, h4y, h5y, h6y, h7y⟩ := mv_o.mp hOy.1
  have hy7 := hay.2
  have hoY := vo_o.mp hOy.2
  have hky6 := hoY.1
  have hcy16 := hoY.2.2.2.2.2.2.1
  refine gh_open (by decide) (Nat.le_of_ble_eq_true rfl) ?_
  intro p e s m args below meth c A ls hAe C V hr hlocks hname hl
  have hx := C.1
  have hb := C.2.1
  have hl : lv_has ls 3 [(0, .ref a), (1, .int (nI x)), (2, .int (nI y))] := hl
  have X : mo_X E f f a ad S I J := ⟨hX, gh_fr.rf⟩
  refine lv_aload_n hx hb d_Mo_isLess_0 rfl (lv_at hl 0 rfl) ?_
  refine mo_getA C V X 1 (by decide) (by decide) f_Mo_7 rfl d_Mo_isLess_1 ?_
  refine lv_iload_n hx hb d_Mo_isLess_4 rfl (lv_at hl 1 rfl) ?_
  refine mo_ild (k := 1) (i := x) (n := 760) C V X (by decide) (by decide) rfl (by omega) (by decide) d_Mo_isLess_5 ?_
  rw [show I 1 x = nI (vt_k OX) from h1x]
  refine lv_aload_n hx hb d_Mo_isLess_6 rfl (lv_at hl 0 rfl) ?_
  refine mo_getA C V X 1 (by decide) (by decide) f_Mo_7 rfl d_Mo_isLess_7 ?_
  refine lv_iload_n hx hb d_Mo_isLess_10 rfl (lv_at hl 2 rfl) ?_
  refine mo_ild (k := 1) (i := y) (n := 760) C V X (by decide) (by decide) rfl (by omega) (by decide) d_Mo_isLess_11 ?_
  rw [show I 1 y = nI (vt_k OY) from h1y]
  refine lv_icmp_eq (tgt := 36) hx hb d_Mo_isLess_12 (by decide) (fun c1 => ?_) (fun c1 => ?_)
  · have c1 : (vt_k OX) = (vt_k OY) := by rw [← gq_eq (a := vt_k OX) (b := vt_k OY) (by omega) (by omega)]; exact c1
    refine lv_aload_n hx hb d_Mo_isLess_36 rfl (lv_at hl 0 rfl) ?_
    refine mo_getA C V X 1 (by decide) (by decide) f_Mo_7 rfl d_Mo_isLess_37 ?_
    refine lv_iload_n hx hb d_Mo_isLess_40 rfl (lv_at hl 1 rfl) ?_
    refine mo_ild (k := 1) (i := x) (n := 760) C V X (by decide) (by decide) rfl (by omega) (by decide) d_Mo_isLess_41 ?_
    rw [show I 1 x = nI (vt_k OX) from h1x]
    refine lv_iconst (v := 3) hx hb d_Mo_isLess_42 (by decide) ?_
    refine lv_icmp_ne (tgt := 70) hx hb d_Mo_isLess_43 (by decide) (fun c2 => ?_) (fun c2 => ?_)
    · have c2 : ¬ (vt_k OX) = 3 := by rw [← gq_eq (a := vt_k OX) (b := 3) (by omega) (by omega)]; exact c2
      refine lv_aload_n hx hb d_Mo_isLess_70 rfl (lv_at hl 0 rfl) ?_
      refine mo_getA C V X 1 (by decide) (by decide) f_Mo_7 rfl d_Mo_isLess_71 ?_
      refine lv_iload_n hx hb d_Mo_isLess_74 rfl (lv_at hl 1 rfl) ?_
      refine mo_ild (k := 1) (i := x) (n := 760) C V X (by decide) (by decide) rfl (by omega) (by decide) d_Mo_isLess_75 ?_
      rw [show I 1 x = nI (vt_k OX) from h1x]
      refine lv_iconst (v := 4) hx hb d_Mo_isLess_76 (by decide) ?_
      refine lv_icmp_ne (tgt := 93) hx hb d_Mo_isLess_77 (by decide) (fun c3 => ?_) (fun c3 => ?_)
      · have c3 : ¬ (vt_k OX) = 4 := by rw [← gq_eq (a := vt_k OX) (b := 4) (by omega) (by omega)]; exact c3
        refine lv_iconst (v := 0) hx hb d_Mo_isLess_93 (by decide) ?_
        refine gh_retz hAe C V hr (by first | rfl | decide) hlocks d_Mo_isLess_94 (by first | decide | omega | (dsimp only; omega)) (by first | decide | omega | (dsimp only; omega)) ?_
        have hlx : vt_l OX = [] := hoX.2.2.1 (by omega)
        have hly : vt_l OY = [] := hoY.2.2.1 (by omega)
        exact ⟨by unfold vt_lt; rw [if_pos (by omega), if_neg (by omega), hlx, hly]; rfl, rfl⟩
      · have c3 : (vt_k OX) = 4 := by rw [← gq_eq (a := vt_k OX) (b := 4) (by omega) (by omega)]; exact c3
        refine lv_aload_n hx hb d_Mo_isLess_80 rfl (lv_at hl 0 rfl) ?_
        refine lv_iload_n hx hb d_Mo_isLess_81 rfl (lv_at hl 1 rfl) ?_
        refine lv_iload_n hx hb d_Mo_isLess_82 rfl (lv_at hl 2 rfl) ?_
        have h3x4 : I 3 x = nI (vt_l OX).length := by rw [h3x]; unfold vt_ln; rw [if_pos (by omega)]
        have h3y4 : I 3 y = nI (vt_l OY).length := by rw [h3y]; unfold vt_ln; rw [if_pos (by omega)]
        refine gh_callV C V hl.1 m_Mo_compareLetters l_Mo_153 (c_Mo_compareLetters l E _ _ a ad _ _ _ x y (vt_l OX) (vt_l OY) X.1 hx7 hy7 h3x4 h3y4 h4x h4y) rfl X.1.1 gc_Mo ⟨by first | decide | omega | (dsimp only; omega), by first | decide | omega | (dsimp only; omega)⟩ ⟨by first | decide | omega | (dsimp only; omega), by first | decide | omega | (dsimp only; omega)⟩ (Nat.le_of_ble_eq_true rfl) rfl d_Mo_isLess_83 (fun r z9 H locs hp V1 => ?_)
        obtain ⟨rfl, he9⟩ := hp
        rw [he9] at V1
        have V := V1
        refine W.eq (g2 := F0 m 86 ls [.int (vt_ord (vt_l OX) (vt_l OY))]) rfl ?_
        refine lv_if_ge (tgt := 93) hx hb d_Mo_isLess_86 (by decide) (fun c4 => ?_) (fun c4 => ?_)
        · refine lv_iconst (v := 0) hx hb d_Mo_isLess_93 (by decide) ?_
          refine gh_retz hAe C V hr (by first | rfl | decide) hlocks d_Mo_isLess_94 (by first | decide | omega | (dsimp only; omega)) (by first | decide | omega | (dsimp only; omega)) ?_
          exact ⟨by unfold vt_lt; rw [if_pos (by omega), if_neg (by omega), decide_eq_false (lg_ge0 c4)]; rfl, rfl⟩
        · refine lv_iconst (v := 1) hx hb d_Mo_isLess_89 (by decide) ?_
          refine lv_goto (tgt := 94) hx hb d_Mo_isLess_90 (by decide) ?_
          refine gh_retz hAe C V hr (by first | rfl | decide) hlocks d_Mo_isLess_94 (by first | decide | omega | (dsimp only; omega)) (by first | decide | omega | (dsimp only; omega)) ?_
          exact ⟨by unfold vt_lt; rw [if_pos (by omega), if_neg (by omega), decide_eq_true (lg_lt0 c4)]; rfl, rfl⟩
    · have c2 : (vt_k OX) = 3 := by rw [← gq_eq (a := vt_k OX) (b := 3) (by omega) (by omega)]; exact c2
      refine lv_aload_n hx hb d_Mo_isLess_46 rfl (lv_at hl 0 rfl) ?_
      refine mo_getA C V X 2 (by decide) (by decide) f_Mo_13 rfl d_Mo_isLess_47 ?_
      refine lv_iload_n hx hb d_Mo_isLess_50 rfl (lv_at hl 1 rfl) ?_
      refine mo_lld (k := 2) (i := x) (n := 760) C V X (by decide) (by decide) rfl (by omega) (by decide) d_Mo_isLess_51 ?_
      refine lv_aload_n hx hb d_Mo_isLess_52 rfl (lv_at hl 0 rfl) ?_
      refine mo_getA C V X 2 (by decide) (by decide) f_Mo_13 rfl d_Mo_isLess_53 ?_
      refine lv_iload_n hx hb d_Mo_isLess_56 rfl (lv_at hl 2 rfl) ?_
      refine mo_lld (k := 2) (i := y) (n := 760) C V X (by decide) (by decide) rfl (by omega) (by decide) d_Mo_isLess_57 ?_
      refine W.lcmp hx hb d_Mo_isLess_58 ?_
      refine lv_if_ge (tgt := 66) hx hb d_Mo_isLess_59 (by decide) (fun c5 => ?_) (fun c5 => ?_)
      · have c5 : ¬ (J 2 x) < (J 2 y) := by rw [← lg_lt]; exact lg_ge0 c5
        refine lv_iconst (v := 0) hx hb d_Mo_isLess_66 (by decide) ?_
        refine lv_goto (tgt := 94) hx hb d_Mo_isLess_67 (by decide) ?_
        refine gh_retz hAe C V hr (by first | rfl | decide) hlocks d_Mo_isLess_94 (by first | decide | omega | (dsimp only; omega)) (by first | decide | omega | (dsimp only; omega)) ?_
        exact ⟨by unfold vt_lt; rw [if_pos (by omega), if_pos (by omega), ← h2x, ← h2y, decide_eq_false c5]; rfl, rfl⟩
      · have c5 : (J 2 x) < (J 2 y) := by rw [← lg_lt]; exact lg_lt0 c5
        refine lv_iconst (v := 1) hx hb d_Mo_isLess_62 (by decide) ?_
        refine lv_goto (tgt := 94) hx hb d_Mo_isLess_63 (by decide) ?_
        refine gh_retz hAe C V hr (by first | rfl | decide) hlocks d_Mo_isLess_94 (by first | decide | omega | (dsimp only; omega)) (by first | decide | omega | (dsimp only; omega)) ?_
        exact ⟨by unfold vt_lt; rw [if_pos (by omega), if_pos (by omega), ← h2x, ← h2y, decide_eq_true c5]; rfl, rfl⟩
  · have c1 : ¬ (vt_k OX) = (vt_k OY) := by rw [← gq_eq (a := vt_k OX) (b := vt_k OY) (by omega) (by omega)]; exact c1
    refine lv_aload_n hx hb d_Mo_isLess_15 rfl (lv_at hl 0 rfl) ?_
    refine mo_getA C V X 1 (by decide) (by decide) f_Mo_7 rfl d_Mo_isLess_16 ?_
    refine lv_iload_n hx hb d_Mo_isLess_19 rfl (lv_at hl 1 rfl) ?_
    refine mo_ild (k := 1) (i := x) (n := 760) C V X (by decide) (by decide) rfl (by omega) (by decide) d_Mo_isLess_20 ?_
    rw [show I 1 x = nI (vt_k OX) from h1x]
    refine lv_aload_n hx hb d_Mo_isLess_21 rfl (lv_at hl 0 rfl) ?_
    refine mo_getA C V X 1 (by decide) (by decide) f_Mo_7 rfl d_Mo_isLess_22 ?_
    refine lv_iload_n hx hb d_Mo_isLess_25 rfl (lv_at hl 2 rfl) ?_
    refine mo_ild (k := 1) (i := y) (n := 760) C V X (by decide) (by decide) rfl (by omega) (by decide) d_Mo_isLess_26 ?_
    rw [show I 1 y = nI (vt_k OY) from h1y]
    refine lv_icmp_ge (tgt := 34) hx hb d_Mo_isLess_27 (by decide) (fun c6 => ?_) (fun c6 => ?_)
    · have c6 : (vt_k OY) ≤ (vt_k OX) := by rw [← gq_le (a := vt_k OY) (b := vt_k OX) (by omega) (by omega)]; exact c6
      refine lv_iconst (v := 0) hx hb d_Mo_isLess_34 (by decide) ?_
      refine gh_retz hAe C V hr (by first | rfl | decide) hlocks d_Mo_isLess_35 (by first | decide | omega | (dsimp only; omega)) (by first | decide | omega | (dsimp only; omega)) ?_
      exact ⟨by unfold vt_lt; rw [if_neg (by omega), decide_eq_false (by omega)]; rfl, rfl⟩
    · have c6 : ¬ (vt_k OY) ≤ (vt_k OX) := by rw [← gq_le (a := vt_k OY) (b := vt_k OX) (by omega) (by omega)]; exact c6
      refine lv_iconst (v := 1) hx hb d_Mo_isLess_30 (by decide) ?_
      refine lv_goto (tgt := 35) hx hb d_Mo_isLess_31 (by decide) ?_
      refine gh_retz hAe C V hr (by first | rfl | decide) hlocks d_Mo_isLess_35 (by first | decide | omega | (dsimp only; omega)) (by first | decide | omega | (dsimp only; omega)) ?_
      exact ⟨by unfold vt_lt; rw [if_neg (by omega), decide_eq_true (by omega)]; rfl, rfl⟩
theorem d_Mo_joinLetters_0 : decode b_Mo_joinLetters 0 = .ok (.aload_n 0, 1) := by decide +kernel
theorem d_Mo_joinLetters_1 : decode b_Mo_joinLetters 1 = .ok (.getfield 17, 3) := by decide +kernel
theorem d_Mo_joinLetters_4 : decode b_Mo_joinLetters 4 = .ok (.iload_n 1, 1) := by decide +kernel
theorem d_Mo_joinLetters_5 : decode b_Mo_joinLetters 5 = .ok (.iaload, 1) := by decide +kernel
theorem d_Mo_joinLetters_6 : decode b_Mo_joinLetters 6 = .ok (.aload_n 0, 1) := by decide +kernel
theorem d_Mo_joinLetters_7 : decode b_Mo_joinLetters 7 = .ok (.getfield 17, 3) := by decide +kernel
theorem d_Mo_joinLetters_10 : decode b_Mo_joinLetters 10 = .ok (.iload_n 2, 1) := by decide +kernel
theorem d_Mo_joinLetters_11 : decode b_Mo_joinLetters 11 = .ok (.iaload, 1) := by decide +kernel
theorem d_Mo_joinLetters_12 : decode b_Mo_joinLetters 12 = .ok (.iadd, 1) := by decide +kernel
theorem d_Mo_joinLetters_13 : decode b_Mo_joinLetters 13 = .ok (.bipush 24, 2) := by decide +kernel
theorem d_Mo_joinLetters_15 : decode b_Mo_joinLetters 15 = .ok (.if_icmp .le 9, 3) := by decide +kernel
theorem d_Mo_joinLetters_18 : decode b_Mo_joinLetters 18 = .ok (.aload_n 0, 1) := by decide +kernel
theorem d_Mo_joinLetters_19 : decode b_Mo_joinLetters 19 = .ok (.iconst 3, 1) := by decide +kernel
theorem d_Mo_joinLetters_20 : decode b_Mo_joinLetters 20 = .ok (.invokevirtual 289, 3) := by decide +kernel
theorem d_Mo_joinLetters_23 : decode b_Mo_joinLetters 23 = .ok (.return_, 1) := by decide +kernel
theorem d_Mo_joinLetters_24 : decode b_Mo_joinLetters 24 = .ok (.aload_n 0, 1) := by decide +kernel
theorem d_Mo_joinLetters_25 : decode b_Mo_joinLetters 25 = .ok (.iconst 4, 1) := by decide +kernel
theorem d_Mo_joinLetters_26 : decode b_Mo_joinLetters 26 = .ok (.lconst 0, 1) := by decide +kernel
theorem d_Mo_joinLetters_27 : decode b_Mo_joinLetters 27 = .ok (.invokevirtual 159, 3) := by decide +kernel
theorem d_Mo_joinLetters_30 : decode b_Mo_joinLetters 30 = .ok (.istore_n 3, 1) := by decide +kernel
theorem d_Mo_joinLetters_31 : decode b_Mo_joinLetters 31 = .ok (.iconst 0, 1) := by decide +kernel
theorem d_Mo_joinLetters_32 : decode b_Mo_joinLetters 32 = .ok (.istore 4, 2) := by decide +kernel
theorem d_Mo_joinLetters_34 : decode b_Mo_joinLetters 34 = .ok (.iload 4, 2) := by decide +kernel
theorem d_Mo_joinLetters_36 : decode b_Mo_joinLetters 36 = .ok (.aload_n 0, 1) := by decide +kernel
theorem d_Mo_joinLetters_37 : decode b_Mo_joinLetters 37 = .ok (.getfield 17, 3) := by decide +kernel
theorem d_Mo_joinLetters_40 : decode b_Mo_joinLetters 40 = .ok (.iload_n 1, 1) := by decide +kernel
theorem d_Mo_joinLetters_41 : decode b_Mo_joinLetters 41 = .ok (.iaload, 1) := by decide +kernel
theorem d_Mo_joinLetters_42 : decode b_Mo_joinLetters 42 = .ok (.if_icmp .ge 21, 3) := by decide +kernel
theorem d_Mo_joinLetters_45 : decode b_Mo_joinLetters 45 = .ok (.aload_n 0, 1) := by decide +kernel
theorem d_Mo_joinLetters_46 : decode b_Mo_joinLetters 46 = .ok (.iload_n 3, 1) := by decide +kernel
theorem d_Mo_joinLetters_47 : decode b_Mo_joinLetters 47 = .ok (.aload_n 0, 1) := by decide +kernel
theorem d_Mo_joinLetters_48 : decode b_Mo_joinLetters 48 = .ok (.iload_n 1, 1) := by decide +kernel
theorem d_Mo_joinLetters_49 : decode b_Mo_joinLetters 49 = .ok (.iload 4, 2) := by decide +kernel
theorem d_Mo_joinLetters_51 : decode b_Mo_joinLetters 51 = .ok (.invokevirtual 146, 3) := by decide +kernel
theorem d_Mo_joinLetters_54 : decode b_Mo_joinLetters 54 = .ok (.invokevirtual 210, 3) := by decide +kernel
theorem d_Mo_joinLetters_57 : decode b_Mo_joinLetters 57 = .ok (.iinc 4 1, 3) := by decide +kernel
theorem d_Mo_joinLetters_60 : decode b_Mo_joinLetters 60 = .ok (.goto (-26), 3) := by decide +kernel
theorem d_Mo_joinLetters_63 : decode b_Mo_joinLetters 63 = .ok (.iconst 0, 1) := by decide +kernel
theorem d_Mo_joinLetters_64 : decode b_Mo_joinLetters 64 = .ok (.istore 4, 2) := by decide +kernel
theorem d_Mo_joinLetters_66 : decode b_Mo_joinLetters 66 = .ok (.iload 4, 2) := by decide +kernel
theorem d_Mo_joinLetters_68 : decode b_Mo_joinLetters 68 = .ok (.aload_n 0, 1) := by decide +kernel
theorem d_Mo_joinLetters_69 : decode b_Mo_joinLetters 69 = .ok (.getfield 17, 3) := by decide +kernel
theorem d_Mo_joinLetters_72 : decode b_Mo_joinLetters 72 = .ok (.iload_n 2, 1) := by decide +kernel
theorem d_Mo_joinLetters_73 : decode b_Mo_joinLetters 73 = .ok (.iaload, 1) := by decide +kernel
theorem d_Mo_joinLetters_74 : decode b_Mo_joinLetters 74 = .ok (.if_icmp .ge 21, 3) := by decide +kernel
theorem d_Mo_joinLetters_77 : decode b_Mo_joinLetters 77 = .ok (.aload_n 0, 1) := by decide +kernel
theorem d_Mo_joinLetters_78 : decode b_Mo_joinLetters 78 = .ok (.iload_n 3, 1) := by decide +kernel
theorem d_Mo_joinLetters_79 : decode b_Mo_joinLetters 79 = .ok (.aload_n 0, 1) := by decide +kernel
theorem d_Mo_joinLetters_80 : decode b_Mo_joinLetters 80 = .ok (.iload_n 2, 1) := by decide +kernel
theorem d_Mo_joinLetters_81 : decode b_Mo_joinLetters 81 = .ok (.iload 4, 2) := by decide +kernel
theorem d_Mo_joinLetters_83 : decode b_Mo_joinLetters 83 = .ok (.invokevirtual 146, 3) := by decide +kernel
theorem d_Mo_joinLetters_86 : decode b_Mo_joinLetters 86 = .ok (.invokevirtual 210, 3) := by decide +kernel
theorem d_Mo_joinLetters_89 : decode b_Mo_joinLetters 89 = .ok (.iinc 4 1, 3) := by decide +kernel
theorem d_Mo_joinLetters_92 : decode b_Mo_joinLetters 92 = .ok (.goto (-26), 3) := by decide +kernel
theorem d_Mo_joinLetters_95 : decode b_Mo_joinLetters 95 = .ok (.aload_n 0, 1) := by decide +kernel
theorem d_Mo_joinLetters_96 : decode b_Mo_joinLetters 96 = .ok (.iload_n 3, 1) := by decide +kernel
theorem d_Mo_joinLetters_97 : decode b_Mo_joinLetters 97 = .ok (.invokevirtual 342, 3) := by decide +kernel
theorem d_Mo_joinLetters_100 : decode b_Mo_joinLetters 100 = .ok (.return_, 1) := by decide +kernel
set_option maxHeartbeats 4000000 in
set_option maxRecDepth 100000 in
theorem c_Mo_joinLetters (l : Launch) (E : gh_E) (sz : Nat) (f : gh_F) (a : Nat) (ad : Nat → Nat) (S : Nat → Int32) (I : Nat → Nat → Int32) (J : Nat → Nat → Int64) (b0 nv pb np wt : Nat) (x y : Nat) (OX OY : vt) (hX : mo_R E f a ad S I J) (h11 : S 11 = nI nv) (h12 : S 12 = nI np) (hp8 : np + 32 ≤ 8800) (hnv : nv < 760) (h29 : 29 ≤ nv) (hb0 : b0 ≤ nv) (hpb : pb ≤ np) (hS45 : S 45 = nI (wt + 1)) (hc : mc I J b0 nv pb np) (hOx : mw I J b0 nv pb np x OX) (hOy : mw I J b0 nv pb np y OY) (hkx : vt_k OX = 4) (hky : vt_k OY = 4) : gh_M l y_Mo_joinLetters b_Mo_joinLetters 5 none E sz [.ref a, .int (nI x), .int (nI y)] f { frames := 6, cells := 0, slots := 0, locals := 180 } (fun r g => r = none ∧ ∃ S2 I2 J2, mo_X E f g a ad S2 I2 J2 ∧ mr_A (vt_js (vt_l OX) (vt_l OY)) S I J b0 nv pb np wt S2 I2 J2) := by
  obtain ⟨hax, h1x, h2x, h3x, h4x, h5x, h6x, h7x⟩ := mv_o.mp hOx.1
  have hx7 := hax.2
  have hoX := vo_o.mp hOx.2
  have hkx6 := hoX.1
  have hcx16 := hoX.2.2.2.2.2.2.1
  obtain ⟨hay, h1y, h2y, h3y, h4y, h5y, h6y, h7y⟩ := mv_o.mp hOy.1
  have hy7 := hay.2
  have hoY := vo_o.mp hOy.2
  have hky6 := hoY.1
  have hcy16 := hoY.2.2.2.2.2.2.1
  have hokx := hoX.2.2.2.1
  have hoky := hoY.2.2.2.1
  have hlx24 := hokx.1
  have hly24 := hoky.1
  have h3x4 : I 3 x = nI (vt_l OX).length := by rw [h3x]; unfold vt_ln; rw [if_pos (by omega)]
  have h3y4 : I 3 y = nI (vt_l OY).length := by rw [h3y]; unfold vt_ln; rw [if_pos (by omega)]
  refine gh_open (by decide) (Nat.le_of_ble_eq_true rfl) ?_
  intro p e s m args below meth c A ls hAe C V hr hlocks hname hl
  have hx := C.1
  have hb := C.2.1
  have hl : lv_has ls 5 [(0, .ref a), (1, .int (nI x)), (2, .int (nI y))] := hl
  have X : mo_X E f f a ad S I J := ⟨hX, gh_fr.rf⟩
  refine lv_aload_n hx hb d_Mo_joinLetters_0 rfl (lv_at hl 0 rfl) ?_
  refine mo_getA C V X 3 (by decide) (by decide) f_Mo_17 rfl d_Mo_joinLetters_1 ?_
  refine lv_iload_n hx hb d_Mo_joinLetters_4 rfl (lv_at hl 1 rfl) ?_
  refine mo_ild (k := 3) (i := x) (n := 760) C V X (by decide) (by decide) rfl (by omega) (by decide) d_Mo_joinLetters_5 ?_
  rw [show I 3 x = nI ((vt_l OX).length) from h3x4]
  refine lv_aload_n hx hb d_Mo_joinLetters_6 rfl (lv_at hl 0 rfl) ?_
  refine mo_getA C V X 3 (by decide) (by decide) f_Mo_17 rfl d_Mo_joinLetters_7 ?_
  refine lv_iload_n hx hb d_Mo_joinLetters_10 rfl (lv_at hl 2 rfl) ?_
  refine mo_ild (k := 3) (i := y) (n := 760) C V X (by decide) (by decide) rfl (by omega) (by decide) d_Mo_joinLetters_11 ?_
  rw [show I 3 y = nI ((vt_l OY).length) from h3y4]
  refine gn_iadd (a := (vt_l OX).length) (b := (vt_l OY).length) hx hb d_Mo_joinLetters_12 ?_
  refine lv_bipush (v := 24) hx hb d_Mo_joinLetters_13 (by decide) ?_
  refine lv_icmp_le (tgt := 24) hx hb d_Mo_joinLetters_15 (by decide) (fun c1 => ?_) (fun c1 => ?_)
  · have c1 : (((vt_l OX).length) + ((vt_l OY).length)) ≤ 24 := by rw [← gq_le (a := ((vt_l OX).length) + ((vt_l OY).length)) (b := 24) (by omega) (by omega)]; exact c1
    refine lv_aload_n hx hb d_Mo_joinLetters_24 rfl (lv_at hl 0 rfl) ?_
    refine lv_iconst (v := 4) hx hb d_Mo_joinLetters_25 (by decide) ?_
    refine lv_lconst (v := 0) hx hb d_Mo_joinLetters_26 (by decide) ?_
    refine gh_callV C V hl.1 m_Mo_make l_Mo_159 (c_Mo_mk l E _ _ a ad _ _ _ 4 0 nv X.1 h11 hnv) rfl X.1.1 gc_Mo ⟨by first | decide | omega | (dsimp only; omega), by first | decide | omega | (dsimp only; omega)⟩ ⟨by first | decide | omega | (dsimp only; omega), by first | decide | omega | (dsimp only; omega)⟩ (Nat.le_of_ble_eq_true rfl) rfl d_Mo_joinLetters_27 (fun r z9 H locs hp V1 => ?_)
    obtain ⟨rfl, Sm, Im, Jm, X2, hmk⟩ := hp
    have X := X.then X2
    have V := V1
    have hsb0 : sb Im Jm nv [] Im Jm := ⟨fun _ _ _ => rfl, hmk.2.2.1.2.1, fun _ _ _ => rfl, ml_0 hmk.2.2.2.2.2.1 hmk.2.2.2.2.2.2.1 hmk.2.2.2.2.2.2.2⟩
    have hxn := hax.new h29
    have hyn := hay.new h29
    refine W.eq (g2 := F0 m 30 ls [.int (nI nv)]) rfl ?_
    refine lv_istore_n hx hb d_Mo_joinLetters_30 rfl hl (by decide) rfl (fun ls hl => ?_)
    have hl : lv_has ls 5 [(3, .int (nI nv)), (0, .ref a), (1, .int (nI x)), (2, .int (nI y))] := hl
    refine lv_iconst (v := 0) hx hb d_Mo_joinLetters_31 (by decide) ?_
    refine lv_istore hx hb d_Mo_joinLetters_32 hl (by decide) rfl (fun ls hl => ?_)
    have hl : lv_has ls 5 [(4, .int 0), (3, .int (nI nv)), (0, .ref a), (1, .int (nI x)), (2, .int (nI y))] := hl
    have hl : lv_has ls 5 [(4, .int 0), (0, .ref a), (1, .int (nI x)), (2, .int (nI y)), (3, .int (nI nv))] := lv_sub hl [0, 2, 3, 4, 1] rfl
    have hl : lv_has ls 5 [(4, .int (nI 0)), (0, .ref a), (1, .int (nI x)), (2, .int (nI y)), (3, .int (nI nv))] := hl
    have loop : ∀ (n9 i9 : Nat) (S1 : Nat → Int32) (I1 : mo_I) (J1 : mo_J) (f1 : gh_F) (H : Heap) (locs : List Loc) (ls : Array Slot), i9 + n9 = (vt_l OX).length → (sb Im Jm nv ((vt_l OX).take i9) I1 J1) → (S1 = Sm) → mo_X E f f1 a ad S1 I1 J1 → gh_V E A f1 s H locs → lv_has ls 5 [(4, .int (nI i9)), (0, .ref a), (1, .int (nI x)), (2, .int (nI y)), (3, .int (nI nv))] → W p l e { frames := 6, cells := 0, slots := 0, locals := 180 } s m args below meth c H locs 0 0 (MQ below (gh_Q E f (fun r g => r = none ∧ ∃ S2 I2 J2, mo_X E f g a ad S2 I2 J2 ∧ mr_A (vt_js (vt_l OX) (vt_l OY)) S I J b0 nv pb np wt S2 I2 J2)) args s 0 0 A) (F0 m 34 ls []) := by
      intro n9
      induction n9 with
      | zero =>
        intro i9 S1 I1 J1 f1 H locs ls hi hsb qS X V hl
        rw [qS] at X
        have k3x : I1 3 x = nI (vt_l OX).length := by rw [hsb.1 3 x (Or.inr hxn), hmk.2.1 3 x (Or.inr hxn)]; exact h3x4
        have kLx : ml_L J1 x (vt_l OX) := ⟨h4x.1, fun k hk => by rw [hsb.2.2.1 6 x (Or.inr hxn), hsb.2.2.1 7 x (Or.inr hxn), hsb.2.2.1 8 x (Or.inr hxn), hmk.2.2.2.1 6 x (Or.inr hxn), hmk.2.2.2.1 7 x (Or.inr hxn), hmk.2.2.2.1 8 x (Or.inr hxn)]; exact h4x.2 k hk⟩
        have k3y : I1 3 y = nI (vt_l OY).length := by rw [hsb.1 3 y (Or.inr hyn), hmk.2.1 3 y (Or.inr hyn)]; exact h3y4
        have kLy : ml_L J1 y (vt_l OY) := ⟨h4y.1, fun k hk => by rw [hsb.2.2.1 6 y (Or.inr hyn), hsb.2.2.1 7 y (Or.inr hyn), hsb.2.2.1 8 y (Or.inr hyn), hmk.2.2.2.1 6 y (Or.inr hyn), hmk.2.2.2.1 7 y (Or.inr hyn), hmk.2.2.2.1 8 y (Or.inr hyn)]; exact h4y.2 k hk⟩
        refine lv_iload hx hb d_Mo_joinLetters_34 (lv_at hl 0 rfl) ?_
        refine lv_aload_n hx hb d_Mo_joinLetters_36 rfl (lv_at hl 1 rfl) ?_
        refine mo_getA C V X 3 (by decide) (by decide) f_Mo_17 rfl d_Mo_joinLetters_37 ?_
        refine lv_iload_n hx hb d_Mo_joinLetters_40 rfl (lv_at hl 2 rfl) ?_
        refine mo_ild (k := 3) (i := x) (n := 760) C V X (by decide) (by decide) rfl (by omega) (by decide) d_Mo_joinLetters_41 ?_
        rw [show I1 3 x = nI ((vt_l OX).length) from k3x]
        refine lv_icmp_ge (tgt := 63) hx hb d_Mo_joinLetters_42 (by decide) (fun c2 => ?_) (fun c2 => absurd (nI_le (by omega) (by omega)) c2)
        refine lv_iconst (v := 0) hx hb d_Mo_joinLetters_63 (by decide) ?_
        refine lv_istore hx hb d_Mo_joinLetters_64 hl (by decide) rfl (fun ls hl => ?_)
        have hl : lv_has ls 5 [(4, .int 0), (0, .ref a), (1, .int (nI x)), (2, .int (nI y)), (3, .int (nI nv))] := hl
        have hsb1 : sb Im Jm nv ((vt_l OX) ++ (vt_l OY).take 0) I1 J1 := by rw [show (vt_l OX) ++ (vt_l OY).take 0 = (vt_l OX).take i9 by rw [List.take_zero, List.append_nil, List.take_of_length_le (by omega)]]; exact hsb
        clear hsb
        obtain ⟨I0, J0, hI0, hJ0⟩ : ∃ (I0 : mo_I) (J0 : mo_J), I0 = I1 ∧ J0 = J1 := ⟨_, _, rfl, rfl⟩
        have hl : lv_has ls 5 [(4, .int 0), (0, .ref a), (1, .int (nI x)), (2, .int (nI y)), (3, .int (nI nv))] := lv_sub hl [0, 1, 2, 3, 4] rfl
        have hl : lv_has ls 5 [(4, .int (nI 0)), (0, .ref a), (1, .int (nI x)), (2, .int (nI y)), (3, .int (nI nv))] := hl
        have loop : ∀ (n9 i9 : Nat) (S1 : Nat → Int32) (I1 : mo_I) (J1 : mo_J) (f1 : gh_F) (H : Heap) (locs : List Loc) (ls : Array Slot), i9 + n9 = (vt_l OY).length → (sb Im Jm nv ((vt_l OX) ++ (vt_l OY).take i9) I1 J1) → (S1 = Sm) → mo_X E f f1 a ad S1 I1 J1 → gh_V E A f1 s H locs → lv_has ls 5 [(4, .int (nI i9)), (0, .ref a), (1, .int (nI x)), (2, .int (nI y)), (3, .int (nI nv))] → W p l e { frames := 6, cells := 0, slots := 0, locals := 180 } s m args below meth c H locs 0 0 (MQ below (gh_Q E f (fun r g => r = none ∧ ∃ S2 I2 J2, mo_X E f g a ad S2 I2 J2 ∧ mr_A (vt_js (vt_l OX) (vt_l OY)) S I J b0 nv pb np wt S2 I2 J2)) args s 0 0 A) (F0 m 66 ls []) := by
          intro n9
          induction n9 with
          | zero =>
            intro i9 S1 I1 J1 f1 H locs ls hi hsb qS X V hl
            rw [qS] at X
            have k3x : I1 3 x = nI (vt_l OX).length := by rw [hsb.1 3 x (Or.inr hxn), hmk.2.1 3 x (Or.inr hxn)]; exact h3x4
            have kLx : ml_L J1 x (vt_l OX) := ⟨h4x.1, fun k hk => by rw [hsb.2.2.1 6 x (Or.inr hxn), hsb.2.2.1 7 x (Or.inr hxn), hsb.2.2.1 8 x (Or.inr hxn), hmk.2.2.2.1 6 x (Or.inr hxn), hmk.2.2.2.1 7 x (Or.inr hxn), hmk.2.2.2.1 8 x (Or.inr hxn)]; exact h4x.2 k hk⟩
            have k3y : I1 3 y = nI (vt_l OY).length := by rw [hsb.1 3 y (Or.inr hyn), hmk.2.1 3 y (Or.inr hyn)]; exact h3y4
            have kLy : ml_L J1 y (vt_l OY) := ⟨h4y.1, fun k hk => by rw [hsb.2.2.1 6 y (Or.inr hyn), hsb.2.2.1 7 y (Or.inr hyn), hsb.2.2.1 8 y (Or.inr hyn), hmk.2.2.2.1 6 y (Or.inr hyn), hmk.2.2.2.1 7 y (Or.inr hyn), hmk.2.2.2.1 8 y (Or.inr hyn)]; exact h4y.2 k hk⟩
            refine lv_iload hx hb d_Mo_joinLetters_66 (lv_at hl 0 rfl) ?_
            refine lv_aload_n hx hb d_Mo_joinLetters_68 rfl (lv_at hl 1 rfl) ?_
            refine mo_getA C V X 3 (by decide) (by decide) f_Mo_17 rfl d_Mo_joinLetters_69 ?_
            refine lv_iload_n hx hb d_Mo_joinLetters_72 rfl (lv_at hl 3 rfl) ?_
            refine mo_ild (k := 3) (i := y) (n := 760) C V X (by decide) (by decide) rfl (by omega) (by decide) d_Mo_joinLetters_73 ?_
            rw [show I1 3 y = nI ((vt_l OY).length) from k3y]
            refine lv_icmp_ge (tgt := 95) hx hb d_Mo_joinLetters_74 (by decide) (fun c3 => ?_) (fun c3 => absurd (nI_le (by omega) (by omega)) c3)
            refine lv_aload_n hx hb d_Mo_joinLetters_95 rfl (lv_at hl 1 rfl) ?_
            refine lv_iload_n hx hb d_Mo_joinLetters_96 rfl (lv_at hl 4 rfl) ?_
            have h45a : Sm 45 = nI (wt + 1) := by rw [hmk.1, va_up_n (by decide)]; exact hS45
            refine gh_callV C V hl.1 m_Mo_give l_Mo_342 (c_Mo_give l E _ _ a ad _ _ _ (nI nv) wt X.1 h45a) rfl X.1.1 gc_Mo ⟨by first | decide | omega | (dsimp only; omega), by first | decide | omega | (dsimp only; omega)⟩ ⟨by first | decide | omega | (dsimp only; omega), by first | decide | omega | (dsimp only; omega)⟩ (Nat.le_of_ble_eq_true rfl) rfl d_Mo_joinLetters_97 (fun r z9 H locs hp V1 => ?_)
            obtain ⟨rfl, X2⟩ := hp
            have X := X.then X2
            have V := V1
            refine W.eq (g2 := F0 m 100 ls []) rfl ?_
            refine gh_retv hAe C V hr hlocks d_Mo_joinLetters_100 (by first | decide | omega | (dsimp only; omega)) (by first | decide | omega | (dsimp only; omega)) ?_
            rw [show (vt_l OX) ++ (vt_l OY).take i9 = (vt_l OX) ++ (vt_l OY) by rw [List.take_of_length_le (by omega)]] at hsb
            exact ⟨rfl, _, _, _, X, by unfold vt_js; rw [if_pos (by omega)]; exact mr_str hmk hsb (lt_cat hokx hoky (by omega)) h12 hb0 hnv h29 (by omega)⟩
          | succ n9 ih =>
            intro i9 S1 I1 J1 f1 H locs ls hi hsb qS X V hl
            rw [qS] at X
            have k3x : I1 3 x = nI (vt_l OX).length := by rw [hsb.1 3 x (Or.inr hxn), hmk.2.1 3 x (Or.inr hxn)]; exact h3x4
            have kLx : ml_L J1 x (vt_l OX) := ⟨h4x.1, fun k hk => by rw [hsb.2.2.1 6 x (Or.inr hxn), hsb.2.2.1 7 x (Or.inr hxn), hsb.2.2.1 8 x (Or.inr hxn), hmk.2.2.2.1 6 x (Or.inr hxn), hmk.2.2.2.1 7 x (Or.inr hxn), hmk.2.2.2.1 8 x (Or.inr hxn)]; exact h4x.2 k hk⟩
            have k3y : I1 3 y = nI (vt_l OY).length := by rw [hsb.1 3 y (Or.inr hyn), hmk.2.1 3 y (Or.inr hyn)]; exact h3y4
            have kLy : ml_L J1 y (vt_l OY) := ⟨h4y.1, fun k hk => by rw [hsb.2.2.1 6 y (Or.inr hyn), hsb.2.2.1 7 y (Or.inr hyn), hsb.2.2.1 8 y (Or.inr hyn), hmk.2.2.2.1 6 y (Or.inr hyn), hmk.2.2.2.1 7 y (Or.inr hyn), hmk.2.2.2.1 8 y (Or.inr hyn)]; exact h4y.2 k hk⟩
            obtain ⟨cc, hc1, hc2, hc3⟩ := hoky.2 i9 (by omega)
            refine lv_iload hx hb d_Mo_joinLetters_66 (lv_at hl 0 rfl) ?_
            refine lv_aload_n hx hb d_Mo_joinLetters_68 rfl (lv_at hl 1 rfl) ?_
            refine mo_getA C V X 3 (by decide) (by decide) f_Mo_17 rfl d_Mo_joinLetters_69 ?_
            refine lv_iload_n hx hb d_Mo_joinLetters_72 rfl (lv_at hl 3 rfl) ?_
            refine mo_ild (k := 3) (i := y) (n := 760) C V X (by decide) (by decide) rfl (by omega) (by decide) d_Mo_joinLetters_73 ?_
            rw [show I1 3 y = nI ((vt_l OY).length) from k3y]
            refine lv_icmp_ge (tgt := 95) hx hb d_Mo_joinLetters_74 (by decide) (fun c4 => absurd c4 (nI_ge (by omega) (by omega))) (fun c4 => ?_)
            refine lv_aload_n hx hb d_Mo_joinLetters_77 rfl (lv_at hl 1 rfl) ?_
            refine lv_iload_n hx hb d_Mo_joinLetters_78 rfl (lv_at hl 4 rfl) ?_
            refine lv_aload_n hx hb d_Mo_joinLetters_79 rfl (lv_at hl 1 rfl) ?_
            refine lv_iload_n hx hb d_Mo_joinLetters_80 rfl (lv_at hl 3 rfl) ?_
            refine lv_iload hx hb d_Mo_joinLetters_81 (lv_at hl 0 rfl) ?_
            refine gh_callV C V hl.1 m_Mo_letterOf l_Mo_146 (c_Mo_letterOf l E _ _ a ad _ _ _ y i9 X.1 hy7 (by omega)) rfl X.1.1 gc_Mo ⟨by first | decide | omega | (dsimp only; omega), by first | decide | omega | (dsimp only; omega)⟩ ⟨by first | decide | omega | (dsimp only; omega), by first | decide | omega | (dsimp only; omega)⟩ (Nat.le_of_ble_eq_true rfl) rfl d_Mo_joinLetters_83 (fun r z9 H locs hp V1 => ?_)
            rw [kLy.2 i9 (by omega), hc3] at hp
            obtain ⟨rfl, he9⟩ := hp
            rw [he9] at V1
            have V := V1
            refine W.eq (g2 := F0 m 86 ls [.int (nI cc), .int (nI nv), .ref a]) rfl ?_
            have hcl : ((vt_l OX) ++ (vt_l OY).take i9).length = (vt_l OX).length + i9 := by simp; omega
            refine gh_callV C V hl.1 m_Mo_addLetter l_Mo_210 (c_Mo_addLetter l E _ _ a ad _ _ _ nv cc ((vt_l OX) ++ (vt_l OY).take i9) X.1 hnv hsb.2.1 hsb.2.2.2 (by omega) (by omega)) rfl X.1.1 gc_Mo ⟨by first | decide | omega | (dsimp only; omega), by first | decide | omega | (dsimp only; omega)⟩ ⟨by first | decide | omega | (dsimp only; omega), by first | decide | omega | (dsimp only; omega)⟩ (Nat.le_of_ble_eq_true rfl) rfl d_Mo_joinLetters_86 (fun r z9 H locs hp V1 => ?_)
            obtain ⟨rfl, J3, X2, hj3, hl3⟩ := hp
            have X := X.then X2
            have V := V1
            refine W.eq (g2 := F0 m 89 ls []) rfl ?_
            refine lv_iinc (k := 0) (v := (nI i9) + 1) hx hb d_Mo_joinLetters_89 hl rfl (by rfl) (by decide) rfl (fun ls hl => ?_)
            have hl : lv_has ls 5 [(4, .int (nI (i9 + 1))), (0, .ref a), (1, .int (nI x)), (2, .int (nI y)), (3, .int (nI nv))] := by rw [nI_succ]; exact hl
            refine lv_goto (tgt := 66) hx hb d_Mo_joinLetters_92 (by decide) ?_
            have hl : lv_has ls 5 [(4, .int (nI (i9 + 1))), (0, .ref a), (1, .int (nI x)), (2, .int (nI y)), (3, .int (nI nv))] := lv_sub hl [0, 1, 2, 3, 4] rfl
            have hl : lv_has ls 5 [(4, .int (nI (i9 + 1))), (0, .ref a), (1, .int (nI x)), (2, .int (nI y)), (3, .int (nI nv))] := hl
            refine ih (i9 + 1) Sm _ J3 _ H locs ls (by omega) ?_ rfl X V hl
            rw [li_take (by omega), hc3, ← List.append_assoc]
            exact hsb.add hj3 hl3
        exact loop ((vt_l OY).length) 0 Sm I1 J1 _ _ _ ls (by omega) hsb1 rfl X V hl
      | succ n9 ih =>
        intro i9 S1 I1 J1 f1 H locs ls hi hsb qS X V hl
        rw [qS] at X
        have k3x : I1 3 x = nI (vt_l OX).length := by rw [hsb.1 3 x (Or.inr hxn), hmk.2.1 3 x (Or.inr hxn)]; exact h3x4
        have kLx : ml_L J1 x (vt_l OX) := ⟨h4x.1, fun k hk => by rw [hsb.2.2.1 6 x (Or.inr hxn), hsb.2.2.1 7 x (Or.inr hxn), hsb.2.2.1 8 x (Or.inr hxn), hmk.2.2.2.1 6 x (Or.inr hxn), hmk.2.2.2.1 7 x (Or.inr hxn), hmk.2.2.2.1 8 x (Or.inr hxn)]; exact h4x.2 k hk⟩
        have k3y : I1 3 y = nI (vt_l OY).length := by rw [hsb.1 3 y (Or.inr hyn), hmk.2.1 3 y (Or.inr hyn)]; exact h3y4
        have kLy : ml_L J1 y (vt_l OY) := ⟨h4y.1, fun k hk => by rw [hsb.2.2.1 6 y (Or.inr hyn), hsb.2.2.1 7 y (Or.inr hyn), hsb.2.2.1 8 y (Or.inr hyn), hmk.2.2.2.1 6 y (Or.inr hyn), hmk.2.2.2.1 7 y (Or.inr hyn), hmk.2.2.2.1 8 y (Or.inr hyn)]; exact h4y.2 k hk⟩
        obtain ⟨cc, hc1, hc2, hc3⟩ := hokx.2 i9 (by omega)
        refine lv_iload hx hb d_Mo_joinLetters_34 (lv_at hl 0 rfl) ?_
        refine lv_aload_n hx hb d_Mo_joinLetters_36 rfl (lv_at hl 1 rfl) ?_
        refine mo_getA C V X 3 (by decide) (by decide) f_Mo_17 rfl d_Mo_joinLetters_37 ?_
        refine lv_iload_n hx hb d_Mo_joinLetters_40 rfl (lv_at hl 2 rfl) ?_
        refine mo_ild (k := 3) (i := x) (n := 760) C V X (by decide) (by decide) rfl (by omega) (by decide) d_Mo_joinLetters_41 ?_
        rw [show I1 3 x = nI ((vt_l OX).length) from k3x]
        refine lv_icmp_ge (tgt := 63) hx hb d_Mo_joinLetters_42 (by decide) (fun c5 => absurd c5 (nI_ge (by omega) (by omega))) (fun c5 => ?_)
        refine lv_aload_n hx hb d_Mo_joinLetters_45 rfl (lv_at hl 1 rfl) ?_
        refine lv_iload_n hx hb d_Mo_joinLetters_46 rfl (lv_at hl 4 rfl) ?_
        refine lv_aload_n hx hb d_Mo_joinLetters_47 rfl (lv_at hl 1 rfl) ?_
        refine lv_iload_n hx hb d_Mo_joinLetters_48 rfl (lv_at hl 2 rfl) ?_
        refine lv_iload hx hb d_Mo_joinLetters_49 (lv_at hl 0 rfl) ?_
        refine gh_callV C V hl.1 m_Mo_letterOf l_Mo_146 (c_Mo_letterOf l E _ _ a ad _ _ _ x i9 X.1 hx7 (by omega)) rfl X.1.1 gc_Mo ⟨by first | decide | omega | (dsimp only; omega), by first | decide | omega | (dsimp only; omega)⟩ ⟨by first | decide | omega | (dsimp only; omega), by first | decide | omega | (dsimp only; omega)⟩ (Nat.le_of_ble_eq_true rfl) rfl d_Mo_joinLetters_51 (fun r z9 H locs hp V1 => ?_)
        rw [kLx.2 i9 (by omega), hc3] at hp
        obtain ⟨rfl, he9⟩ := hp
        rw [he9] at V1
        have V := V1
        refine W.eq (g2 := F0 m 54 ls [.int (nI cc), .int (nI nv), .ref a]) rfl ?_
        have hcl : ((vt_l OX).take i9).length = i9 := by simp; omega
        refine gh_callV C V hl.1 m_Mo_addLetter l_Mo_210 (c_Mo_addLetter l E _ _ a ad _ _ _ nv cc ((vt_l OX).take i9) X.1 hnv hsb.2.1 hsb.2.2.2 (by omega) (by omega)) rfl X.1.1 gc_Mo ⟨by first | decide | omega | (dsimp only; omega), by first | decide | omega | (dsimp only; omega)⟩ ⟨by first | decide | omega | (dsimp only; omega), by first | decide | omega | (dsimp only; omega)⟩ (Nat.le_of_ble_eq_true rfl) rfl d_Mo_joinLetters_54 (fun r z9 H locs hp V1 => ?_)
        obtain ⟨rfl, J3, X2, hj3, hl3⟩ := hp
        have X := X.then X2
        have V := V1
        refine W.eq (g2 := F0 m 57 ls []) rfl ?_
        refine lv_iinc (k := 0) (v := (nI i9) + 1) hx hb d_Mo_joinLetters_57 hl rfl (by rfl) (by decide) rfl (fun ls hl => ?_)
        have hl : lv_has ls 5 [(4, .int (nI (i9 + 1))), (0, .ref a), (1, .int (nI x)), (2, .int (nI y)), (3, .int (nI nv))] := by rw [nI_succ]; exact hl
        refine lv_goto (tgt := 34) hx hb d_Mo_joinLetters_60 (by decide) ?_
        have hl : lv_has ls 5 [(4, .int (nI (i9 + 1))), (0, .ref a), (1, .int (nI x)), (2, .int (nI y)), (3, .int (nI nv))] := lv_sub hl [0, 1, 2, 3, 4] rfl
        have hl : lv_has ls 5 [(4, .int (nI (i9 + 1))), (0, .ref a), (1, .int (nI x)), (2, .int (nI y)), (3, .int (nI nv))] := hl
        refine ih (i9 + 1) Sm _ J3 _ H locs ls (by omega) ?_ rfl X V hl
        rw [li_take (by omega), hc3]
        exact hsb.add hj3 hl3
    exact loop ((vt_l OX).length) 0 Sm Im Jm _ _ _ ls (by omega) hsb0 rfl X V hl
  · have c1 : ¬ (((vt_l OX).length) + ((vt_l OY).length)) ≤ 24 := by rw [← gq_le (a := ((vt_l OX).length) + ((vt_l OY).length)) (b := 24) (by omega) (by omega)]; exact c1
    refine lv_aload_n hx hb d_Mo_joinLetters_18 rfl (lv_at hl 0 rfl) ?_
    refine lv_iconst (v := 3) hx hb d_Mo_joinLetters_19 (by decide) ?_
    refine gh_callV C V hl.1 m_Mo_tell l_Mo_289 (c_Mo_tell l E _ _ a ad _ _ _ 3 wt X.1 hS45) rfl X.1.1 gc_Mo ⟨by first | decide | omega | (dsimp only; omega), by first | decide | omega | (dsimp only; omega)⟩ ⟨by first | decide | omega | (dsimp only; omega), by first | decide | omega | (dsimp only; omega)⟩ (Nat.le_of_ble_eq_true rfl) rfl d_Mo_joinLetters_20 (fun r z9 H locs hp V1 => ?_)
    obtain ⟨rfl, X2⟩ := hp
    have X := X.then X2
    have V := V1
    refine W.eq (g2 := F0 m 23 ls []) rfl ?_
    refine gh_retv hAe C V hr hlocks d_Mo_joinLetters_23 (by first | decide | omega | (dsimp only; omega)) (by first | decide | omega | (dsimp only; omega)) ?_
    exact ⟨rfl, _, _, _, X, by unfold vt_js; rw [if_neg c1]; exact mr_fail h11 h12 (by omega)⟩
