/-! joinMany of the model. Printed by wip/whole/gen_mo13.py. -/
/-- a list or an object of what was gathered without a limit -/
def vt_mku (k : Nat) (ks : List (List Int32)) (xs : List vt) : Option vt := if xs.length ≤ 16 then vt_mk k ks xs else none
theorem vt_jl_u {X Y : vt} : vt_jl X Y = vt_mku 5 [] (vt_aau Y (vt_c Y) 0 (vt_aau X (vt_c X) 0 [])) := by
  unfold vt_jl vt_mku
  rw [vt_aa_aau (Nat.zero_le _)]
  by_cases h : (vt_aau X (vt_c X) 0 []).length ≤ 16
  · rw [if_pos h]
    show (match vt_aa Y (vt_c Y) 0 (vt_aau X (vt_c X) 0 []) with | none => none | some t => vt_mk 5 [] t) = _
    rw [vt_aa_aau h]
    split <;> rename_i h2
    · split at h2
      · exact absurd h2 (by simp)
      · rename_i h3; rw [if_neg h3]
    · split at h2
      · rename_i h3; rw [if_pos h3]; injection h2 with h2; rw [h2]
      · exact absurd h2 (by simp)
  · rw [if_neg h, if_neg (by rw [vt_aau_len]; omega)]
theorem vt_jo_u {X Y : vt} : vt_jo X Y = vt_mku 6 (vt_pua Y (vt_c Y) 0 (vt_pua X (vt_c X) 0 ([], []))).1 (vt_pua Y (vt_c Y) 0 (vt_pua X (vt_c X) 0 ([], []))).2 := by
  unfold vt_jo vt_mku
  rw [vt_pa_pua (Nat.zero_le _)]
  by_cases h : (vt_pua X (vt_c X) 0 ([], [])).2.length ≤ 16
  · rw [if_pos h]
    show (match vt_pa Y (vt_c Y) 0 (vt_pua X (vt_c X) 0 ([], [])) with | none => none | some t => vt_mk 6 t.1 t.2) = _
    rw [vt_pa_pua h]
    split <;> rename_i h2
    · split at h2
      · exact absurd h2 (by simp)
      · rename_i h3; rw [if_neg h3]
    · split at h2
      · rename_i h3; rw [if_pos h3]; injection h2 with h2; rw [h2]
      · exact absurd h2 (by simp)
  · rw [if_neg h, if_neg (by have := vt_pua_len (O := Y) (n := vt_c Y) (i := 0) (s := vt_pua X (vt_c X) 0 ([], [])); omega)]
theorem vt_pua_up {O : vt} : ∀ {n i : Nat} {s : List (List Int32) × List vt}, (vt_pua O n i s).2.length ≤ s.2.length + n := by
  intro n
  induction n with
  | zero => intro i s; exact Nat.le_refl _
  | succ n ih => intro i s; unfold vt_pua; have h1 := ih (i := i + 1) (s := vt_pu s ((vt_q O).getD i []) (vt_s O i)); have h2 := (vt_pu_len (s := s) (L := (vt_q O).getD i []) (X := vt_s O i)).2; omega
theorem vt_pua_eq {O : vt} : ∀ {n i : Nat} {s : List (List Int32) × List vt}, s.1.length = s.2.length → (vt_pua O n i s).1.length = (vt_pua O n i s).2.length := by
  intro n
  induction n with
  | zero => intro i s h; exact h
  | succ n ih => intro i s h; unfold vt_pua; exact ih (vt_pu_eq h)
theorem mg_lim {S : Nat → Int32} {I : mo_I} {J : mo_J} {b0 nv pb np : Nat} {ks : List (List Int32)} {xs : List vt} (h : mg S I J b0 nv pb np ks xs) : vt_wsum xs < 10000 ∧ vt_hmax xs < 1000 := by
  obtain ⟨B, K, -, h32, -, hx, -⟩ := h
  have hw := vt_wsum_le (xs := xs) (B := 100) (fun j hj => by have := vo_o.mp (hx j hj).2.2; omega)
  have hh := vt_hmax_le (xs := xs) (B := 8) (fun j hj => by have := vo_o.mp (hx j hj).2.2; omega)
  exact ⟨by omega, by omega⟩
theorem mr_failG {S0 S : Nat → Int32} {I0 I : mo_I} {J0 J : mo_J} {b0 nv pb np wt : Nat} (hu : mo_un S0 I0 S I) (hm : ma I0 J0 I J b0 nv pb np) (h11 : S 11 = nI nv) (h12 : S 12 = nI np) (hp8 : np ≤ 8800) : mr_A none S0 I0 J0 b0 nv pb np wt (va_up (va_up S 45 (nI wt)) 46 3) I J := by
  obtain ⟨a1, -, a3, n2, p2, a4, a5⟩ := mr_fail (b0 := b0) (pb := pb) (wt := wt) (I := I) (J := J) h11 h12 hp8
  exact ⟨hu.tr a1, hm, a3, n2, p2, a4, a5⟩
theorem mr_check {S0 S S1 : Nat → Int32} {I0 I I1 : mo_I} {J J1 : mo_J} {b0 nv pb np ky wt : Nat} {ks ks2 : List (List Int32)} {xs : List vt} (hu : mo_un S0 I0 S I) (hm : ma I0 J I J b0 nv pb np) (hg : mg S I J b0 nv pb np ks xs) (h : sl_o S I J b0 nv pb np ky xs S1 I1 J1) (hk : ky = 5 ∧ ks2 = [] ∨ ky = 6 ∧ ks2 = ks ∧ ks.length = xs.length) (hb : b0 ≤ nv) (hv : nv < 760) (hpb : pb ≤ np) (hp8 : np + 2 * xs.length ≤ 8800) (hx : xs.length ≤ 16) : mr_A (vt_mk ky ks2 xs) S0 I0 J b0 nv pb np wt (if vt_wsum xs ≤ 100 ∧ vt_hmax xs + 1 ≤ 8 then va_up (va_up (va_up S1 47 (nI nv)) 45 (nI wt)) 46 1 else va_up (va_up S1 45 (nI wt)) 46 3) I1 J1 := by
  unfold vt_mk
  by_cases hw : vt_wsum xs ≤ 100 ∧ vt_hmax xs ≤ 7
  · rw [if_pos hw, if_pos (by omega)]
    exact mr_seal hu hm hg h hk hb hv hpb hp8 hx hw.1 hw.2
  · rw [if_neg hw, if_neg (by omega)]
    exact mr_sealF hu hm h hp8 hx
theorem d_Mo_joinMany_0 : decode b_Mo_joinMany 0 = .ok (.aload_n 0, 1) := by decide +kernel
theorem d_Mo_joinMany_1 : decode b_Mo_joinMany 1 = .ok (.iconst 0, 1) := by decide +kernel
theorem d_Mo_joinMany_2 : decode b_Mo_joinMany 2 = .ok (.putfield 156, 3) := by decide +kernel
theorem d_Mo_joinMany_5 : decode b_Mo_joinMany 5 = .ok (.aload_n 0, 1) := by decide +kernel
theorem d_Mo_joinMany_6 : decode b_Mo_joinMany 6 = .ok (.iload_n 1, 1) := by decide +kernel
theorem d_Mo_joinMany_7 : decode b_Mo_joinMany 7 = .ok (.invokevirtual 361, 3) := by decide +kernel
theorem d_Mo_joinMany_10 : decode b_Mo_joinMany 10 = .ok (.aload_n 0, 1) := by decide +kernel
theorem d_Mo_joinMany_11 : decode b_Mo_joinMany 11 = .ok (.iload_n 2, 1) := by decide +kernel
theorem d_Mo_joinMany_12 : decode b_Mo_joinMany 12 = .ok (.invokevirtual 361, 3) := by decide +kernel
theorem d_Mo_joinMany_15 : decode b_Mo_joinMany 15 = .ok (.aload_n 0, 1) := by decide +kernel
theorem d_Mo_joinMany_16 : decode b_Mo_joinMany 16 = .ok (.getfield 156, 3) := by decide +kernel
theorem d_Mo_joinMany_19 : decode b_Mo_joinMany 19 = .ok (.bipush 16, 2) := by decide +kernel
theorem d_Mo_joinMany_21 : decode b_Mo_joinMany 21 = .ok (.if_icmp .le 11, 3) := by decide +kernel
theorem d_Mo_joinMany_24 : decode b_Mo_joinMany 24 = .ok (.aload_n 0, 1) := by decide +kernel
theorem d_Mo_joinMany_25 : decode b_Mo_joinMany 25 = .ok (.iconst 3, 1) := by decide +kernel
theorem d_Mo_joinMany_26 : decode b_Mo_joinMany 26 = .ok (.invokevirtual 289, 3) := by decide +kernel
theorem d_Mo_joinMany_29 : decode b_Mo_joinMany 29 = .ok (.goto 17, 3) := by decide +kernel
theorem d_Mo_joinMany_32 : decode b_Mo_joinMany 32 = .ok (.aload_n 0, 1) := by decide +kernel
theorem d_Mo_joinMany_33 : decode b_Mo_joinMany 33 = .ok (.aload_n 0, 1) := by decide +kernel
theorem d_Mo_joinMany_34 : decode b_Mo_joinMany 34 = .ok (.aload_n 0, 1) := by decide +kernel
theorem d_Mo_joinMany_35 : decode b_Mo_joinMany 35 = .ok (.getfield 7, 3) := by decide +kernel
theorem d_Mo_joinMany_38 : decode b_Mo_joinMany 38 = .ok (.iload_n 1, 1) := by decide +kernel
theorem d_Mo_joinMany_39 : decode b_Mo_joinMany 39 = .ok (.iaload, 1) := by decide +kernel
theorem d_Mo_joinMany_40 : decode b_Mo_joinMany 40 = .ok (.invokevirtual 230, 3) := by decide +kernel
theorem d_Mo_joinMany_43 : decode b_Mo_joinMany 43 = .ok (.invokevirtual 358, 3) := by decide +kernel
theorem d_Mo_joinMany_46 : decode b_Mo_joinMany 46 = .ok (.return_, 1) := by decide +kernel
set_option maxHeartbeats 4000000 in
set_option maxRecDepth 100000 in
theorem c_Mo_joinMany6 (l : Launch) (E : gh_E) (sz : Nat) (f : gh_F) (a : Nat) (ad : Nat → Nat) (S : Nat → Int32) (I : Nat → Nat → Int32) (J : Nat → Nat → Int64) (b0 nv pb np wt : Nat) (x y : Nat) (OX OY : vt) (hX : mo_R E f a ad S I J) (h11 : S 11 = nI nv) (h12 : S 12 = nI np) (hp8 : np + 32 ≤ 8800) (hnv : nv < 760) (h29 : 29 ≤ nv) (hb0 : b0 ≤ nv) (hpb : pb ≤ np) (hS45 : S 45 = nI (wt + 1)) (hc : mc I J b0 nv pb np) (hOx : mw I J b0 nv pb np x OX) (hOy : mw I J b0 nv pb np y OY) (hkx : vt_k OX = 6) (hky : vt_k OY = 6) : gh_M l y_Mo_joinMany b_Mo_joinMany 3 none E sz [.ref a, .int (nI x), .int (nI y)] f { frames := 7, cells := 0, slots := 0, locals := 220 } (fun r g => r = none ∧ ∃ S2 I2 J2, mo_X E f g a ad S2 I2 J2 ∧ mr_A (vt_jo OX OY) S I J b0 nv pb np wt S2 I2 J2) := by
  obtain ⟨hax, h1x, h2x, h3x, h4x, h5x, h6x, h7x⟩ := mv_o.mp hOx.1
  have hx7 := hax.2
  have hoX := vo_o.mp hOx.2
  have hkx6 := hoX.1
  have hcx16 := hoX.2.2.2.2.2.2.1
  obtain ⟨hay, h1y, h2y, h3y, h4y, h5y, h6y, h7y⟩ := mv_o.mp hOy.1
  have hy7 := hay.2
  have hoY := vo_o.mp hOy.2
  have hky6 := hoY.1
  have hcy16 := hoY.2.2.2.2.2.2.1
  refine gh_open (by decide) (Nat.le_of_ble_eq_true rfl) ?_
  intro p e s m args below meth c A ls hAe C V hr hlocks hname hl
  have hx := C.1
  have hb := C.2.1
  have hl : lv_has ls 3 [(0, .ref a), (1, .int (nI x)), (2, .int (nI y))] := hl
  have X : mo_X E f f a ad S I J := ⟨hX, gh_fr.rf⟩
  refine lv_aload_n hx hb d_Mo_joinMany_0 rfl (lv_at hl 0 rfl) ?_
  refine lv_iconst (v := 0) hx hb d_Mo_joinMany_1 (by decide) ?_
  refine mo_putS C V X 16 (by decide) (by decide) f_Mo_156 rfl rfl rfl d_Mo_joinMany_2 (fun f1 H locs V1 X1 => ?_)
  clear V X
  have V := V1
  have X := X1
  clear V1 X1
  refine lv_aload_n hx hb d_Mo_joinMany_5 rfl (lv_at hl 0 rfl) ?_
  refine lv_iload_n hx hb d_Mo_joinMany_6 rfl (lv_at hl 1 rfl) ?_
  have hg0 : mg (va_up S 16 0) I J b0 nv pb np [] [] := ⟨fun _ => 0, fun _ => 0, va_up_s, Nat.zero_le _, Nat.le_refl _, fun j hj => absurd hj (Nat.not_lt_zero j), fun j hj => absurd hj (Nat.not_lt_zero j)⟩
  refine gh_callV C V hl.1 m_Mo_addAll l_Mo_361 (c_Mo_addAll6 l E _ _ a ad _ _ _ b0 nv pb np x [] [] OX X.1 hg0 hOx (by omega) (by simp; omega) rfl hkx) rfl X.1.1 gc_Mo ⟨by first | decide | omega | (dsimp only; omega), by first | decide | omega | (dsimp only; omega)⟩ ⟨by first | decide | omega | (dsimp only; omega), by first | decide | omega | (dsimp only; omega)⟩ (Nat.le_of_ble_eq_true rfl) rfl d_Mo_joinMany_7 (fun r z9 H locs hp V1 => ?_)
  obtain ⟨rfl, S3, I3, X2, hg3, ho3⟩ := hp
  have X := X.then X2
  have V := V1
  have hgo3 : mg_o S I S3 I3 := mg_o.tr ⟨fun _ _ _ => rfl, fun k h => va_up_n h⟩ ho3
  refine W.eq (g2 := F0 m 10 ls []) rfl ?_
  refine lv_aload_n hx hb d_Mo_joinMany_10 rfl (lv_at hl 0 rfl) ?_
  refine lv_iload_n hx hb d_Mo_joinMany_11 rfl (lv_at hl 2 rfl) ?_
  have hl1 := vt_pua_up (O := OX) (n := vt_c OX) (i := 0) (s := ([], []))
  simp only [List.length_nil] at hl1
  refine gh_callV C V hl.1 m_Mo_addAll l_Mo_361 (c_Mo_addAll6 l E _ _ a ad _ _ _ b0 nv pb np y (vt_pua OX (vt_c OX) 0 ([], [])).1 (vt_pua OX (vt_c OX) 0 ([], [])).2 OY X.1 hg3 (hOy.keep (hgo3.ma (J := J) (b0 := b0) (nv := nv) (pb := pb) (np := np)) (Nat.le_refl _) (Nat.le_refl _) (by omega)) (by omega) (by omega) (vt_pua_eq rfl) hky) rfl X.1.1 gc_Mo ⟨by first | decide | omega | (dsimp only; omega), by first | decide | omega | (dsimp only; omega)⟩ ⟨by first | decide | omega | (dsimp only; omega), by first | decide | omega | (dsimp only; omega)⟩ (Nat.le_of_ble_eq_true rfl) rfl d_Mo_joinMany_12 (fun r z9 H locs hp V1 => ?_)
  obtain ⟨rfl, S4, I4, X2, hg4, ho4⟩ := hp
  have X := X.then X2
  have V := V1
  have hgo4 : mg_o S I S4 I4 := hgo3.tr ho4
  have hl2 := vt_pua_up (O := OY) (n := vt_c OY) (i := 0) (s := (vt_pua OX (vt_c OX) 0 ([], [])))
  have he2 : (vt_pua OY (vt_c OY) 0 (vt_pua OX (vt_c OX) 0 ([], []))).1.length = (vt_pua OY (vt_c OY) 0 (vt_pua OX (vt_c OX) 0 ([], []))).2.length := vt_pua_eq (vt_pua_eq rfl)
  have hS16 : S4 16 = nI (vt_pua OY (vt_c OY) 0 (vt_pua OX (vt_c OX) 0 ([], []))).2.length := hg4.choose_spec.choose_spec.1
  have h1x4 : I4 1 x = nI 6 := by rw [hgo4.1 1 (by decide) (by decide), h1x, hkx]
  refine W.eq (g2 := F0 m 15 ls []) rfl ?_
  refine lv_aload_n hx hb d_Mo_joinMany_15 rfl (lv_at hl 0 rfl) ?_
  refine mo_getS (v := nI ((vt_pua OY (vt_c OY) 0 (vt_pua OX (vt_c OX) 0 ([], []))).2.length)) C V X 16 (by decide) (by decide) (by first | rfl | exact hS16) f_Mo_156 rfl d_Mo_joinMany_16 ?_
  refine lv_bipush (v := 16) hx hb d_Mo_joinMany_19 (by decide) ?_
  refine lv_icmp_le (tgt := 32) hx hb d_Mo_joinMany_21 (by decide) (fun c1 => ?_) (fun c1 => ?_)
  · have c1 : ((vt_pua OY (vt_c OY) 0 (vt_pua OX (vt_c OX) 0 ([], []))).2.length) ≤ 16 := by rw [← gq_le (a := (vt_pua OY (vt_c OY) 0 (vt_pua OX (vt_c OX) 0 ([], []))).2.length) (b := 16) (by omega) (by omega)]; exact c1
    refine lv_aload_n hx hb d_Mo_joinMany_32 rfl (lv_at hl 0 rfl) ?_
    refine lv_aload_n hx hb d_Mo_joinMany_33 rfl (lv_at hl 0 rfl) ?_
    refine lv_aload_n hx hb d_Mo_joinMany_34 rfl (lv_at hl 0 rfl) ?_
    refine mo_getA C V X 1 (by decide) (by decide) f_Mo_7 rfl d_Mo_joinMany_35 ?_
    refine lv_iload_n hx hb d_Mo_joinMany_38 rfl (lv_at hl 1 rfl) ?_
    refine mo_ild (k := 1) (i := x) (n := 760) C V X (by decide) (by decide) rfl (by omega) (by decide) d_Mo_joinMany_39 ?_
    rw [show I4 1 x = nI 6 from h1x4]
    have h11a : S4 11 = nI nv := by rw [hgo4.2 11 (by decide)]; exact h11
    have h12a : S4 12 = nI np := by rw [hgo4.2 12 (by decide)]; exact h12
    refine gh_callV C V hl.1 m_Mo_seal l_Mo_230 (c_Mo_seal l E _ _ a ad _ _ _ b0 nv pb np 6 (vt_pua OY (vt_c OY) 0 (vt_pua OX (vt_c OX) 0 ([], []))).1 (vt_pua OY (vt_c OY) 0 (vt_pua OX (vt_c OX) 0 ([], []))).2 X.1 hg4 h11a h12a hnv h29 (by omega) (by omega) (Or.inr rfl)) rfl X.1.1 gc_Mo ⟨by first | decide | omega | (dsimp only; omega), by first | decide | omega | (dsimp only; omega)⟩ ⟨by first | decide | omega | (dsimp only; omega), by first | decide | omega | (dsimp only; omega)⟩ (Nat.le_of_ble_eq_true rfl) rfl d_Mo_joinMany_40 (fun r z9 H locs hp V1 => ?_)
    obtain ⟨rfl, S6, I6, J6, X2, hsl⟩ := hp
    have hsl : sl_o S4 I4 J b0 nv pb np 6 (vt_pua OY (vt_c OY) 0 (vt_pua OX (vt_c OX) 0 ([], []))).2 S6 I6 J6 := hsl
    have X := X.then X2
    have V := V1
    have h45a : S6 45 = nI (wt + 1) := by rw [hsl.2.2.2.1 45 (by decide) (by decide), hgo4.2 45 (by decide)]; exact hS45
    refine W.eq (g2 := F0 m 43 ls [.int (nI nv), .ref a]) rfl ?_
    have hlim := mg_lim hg4
    refine gh_callV C V hl.1 m_Mo_check l_Mo_358 (c_Mo_check l E _ _ a ad _ _ _ nv (vt_wsum (vt_pua OY (vt_c OY) 0 (vt_pua OX (vt_c OX) 0 ([], []))).2) (vt_hmax (vt_pua OY (vt_c OY) 0 (vt_pua OX (vt_c OX) 0 ([], []))).2 + 1) wt X.1 hnv hsl.2.2.2.2.2.2.2.1 hsl.2.2.2.2.2.2.2.2.1 hlim.1 (Nat.lt_of_lt_of_le (Nat.succ_lt_succ hlim.2) (by decide)) h45a) rfl X.1.1 gc_Mo ⟨by first | decide | omega | (dsimp only; omega), by first | decide | omega | (dsimp only; omega)⟩ ⟨by first | decide | omega | (dsimp only; omega), by first | decide | omega | (dsimp only; omega)⟩ (Nat.le_of_ble_eq_true rfl) rfl d_Mo_joinMany_43 (fun r z9 H locs hp V1 => ?_)
    obtain ⟨rfl, X2⟩ := hp
    have X := X.then X2
    have V := V1
    refine W.eq (g2 := F0 m 46 ls []) rfl ?_
    refine gh_retv hAe C V hr hlocks d_Mo_joinMany_46 (by first | decide | omega | (dsimp only; omega)) (by first | decide | omega | (dsimp only; omega)) ?_
    exact ⟨rfl, _, _, _, X, by rw [vt_jo_u]; unfold vt_mku; rw [if_pos (by omega)]; exact mr_check hgo4.un hgo4.ma hg4 hsl (Or.inr ⟨rfl, rfl, he2⟩) hb0 hnv hpb (by omega) (by omega)⟩
  · have c1 : ¬ ((vt_pua OY (vt_c OY) 0 (vt_pua OX (vt_c OX) 0 ([], []))).2.length) ≤ 16 := by rw [← gq_le (a := (vt_pua OY (vt_c OY) 0 (vt_pua OX (vt_c OX) 0 ([], []))).2.length) (b := 16) (by omega) (by omega)]; exact c1
    refine lv_aload_n hx hb d_Mo_joinMany_24 rfl (lv_at hl 0 rfl) ?_
    refine lv_iconst (v := 3) hx hb d_Mo_joinMany_25 (by decide) ?_
    have h45a : S4 45 = nI (wt + 1) := by rw [hgo4.2 45 (by decide)]; exact hS45
    refine gh_callV C V hl.1 m_Mo_tell l_Mo_289 (c_Mo_tell l E _ _ a ad _ _ _ 3 wt X.1 h45a) rfl X.1.1 gc_Mo ⟨by first | decide | omega | (dsimp only; omega), by first | decide | omega | (dsimp only; omega)⟩ ⟨by first | decide | omega | (dsimp only; omega), by first | decide | omega | (dsimp only; omega)⟩ (Nat.le_of_ble_eq_true rfl) rfl d_Mo_joinMany_26 (fun r z9 H locs hp V1 => ?_)
    obtain ⟨rfl, X2⟩ := hp
    have X := X.then X2
    have V := V1
    refine W.eq (g2 := F0 m 29 ls []) rfl ?_
    refine lv_goto (tgt := 46) hx hb d_Mo_joinMany_29 (by decide) ?_
    refine gh_retv hAe C V hr hlocks d_Mo_joinMany_46 (by first | decide | omega | (dsimp only; omega)) (by first | decide | omega | (dsimp only; omega)) ?_
    exact ⟨rfl, _, _, _, X, by rw [vt_jo_u]; unfold vt_mku; rw [if_neg (by omega)]; exact mr_failG hgo4.un hgo4.ma (by rw [hgo4.2 11 (by decide)]; exact h11) (by rw [hgo4.2 12 (by decide)]; exact h12) (by omega)⟩
set_option maxHeartbeats 4000000 in
set_option maxRecDepth 100000 in
theorem c_Mo_joinMany5 (l : Launch) (E : gh_E) (sz : Nat) (f : gh_F) (a : Nat) (ad : Nat → Nat) (S : Nat → Int32) (I : Nat → Nat → Int32) (J : Nat → Nat → Int64) (b0 nv pb np wt : Nat) (x y : Nat) (OX OY : vt) (hX : mo_R E f a ad S I J) (h11 : S 11 = nI nv) (h12 : S 12 = nI np) (hp8 : np + 32 ≤ 8800) (hnv : nv < 760) (h29 : 29 ≤ nv) (hb0 : b0 ≤ nv) (hpb : pb ≤ np) (hS45 : S 45 = nI (wt + 1)) (hc : mc I J b0 nv pb np) (hOx : mw I J b0 nv pb np x OX) (hOy : mw I J b0 nv pb np y OY) (hkx : vt_k OX = 5) (hky : vt_k OY = 5) : gh_M l y_Mo_joinMany b_Mo_joinMany 3 none E sz [.ref a, .int (nI x), .int (nI y)] f { frames := 7, cells := 0, slots := 0, locals := 220 } (fun r g => r = none ∧ ∃ S2 I2 J2, mo_X E f g a ad S2 I2 J2 ∧ mr_A (vt_jl OX OY) S I J b0 nv pb np wt S2 I2 J2) := by
  obtain ⟨hax, h1x, h2x, h3x, h4x, h5x, h6x, h7x⟩ := mv_o.mp hOx.1
  have hx7 := hax.2
  have hoX := vo_o.mp hOx.2
  have hkx6 := hoX.1
  have hcx16 := hoX.2.2.2.2.2.2.1
  obtain ⟨hay, h1y, h2y, h3y, h4y, h5y, h6y, h7y⟩ := mv_o.mp hOy.1
  have hy7 := hay.2
  have hoY := vo_o.mp hOy.2
  have hky6 := hoY.1
  have hcy16 := hoY.2.2.2.2.2.2.1
  refine gh_open (by decide) (Nat.le_of_ble_eq_true rfl) ?_
  intro p e s m args below meth c A ls hAe C V hr hlocks hname hl
  have hx := C.1
  have hb := C.2.1
  have hl : lv_has ls 3 [(0, .ref a), (1, .int (nI x)), (2, .int (nI y))] := hl
  have X : mo_X E f f a ad S I J := ⟨hX, gh_fr.rf⟩
  refine lv_aload_n hx hb d_Mo_joinMany_0 rfl (lv_at hl 0 rfl) ?_
  refine lv_iconst (v := 0) hx hb d_Mo_joinMany_1 (by decide) ?_
  refine mo_putS C V X 16 (by decide) (by decide) f_Mo_156 rfl rfl rfl d_Mo_joinMany_2 (fun f1 H locs V1 X1 => ?_)
  clear V X
  have V := V1
  have X := X1
  clear V1 X1
  refine lv_aload_n hx hb d_Mo_joinMany_5 rfl (lv_at hl 0 rfl) ?_
  refine lv_iload_n hx hb d_Mo_joinMany_6 rfl (lv_at hl 1 rfl) ?_
  have hg0 : mg (va_up S 16 0) I J b0 nv pb np [] [] := ⟨fun _ => 0, fun _ => 0, va_up_s, Nat.zero_le _, Nat.le_refl _, fun j hj => absurd hj (Nat.not_lt_zero j), fun j hj => absurd hj (Nat.not_lt_zero j)⟩
  refine gh_callV C V hl.1 m_Mo_addAll l_Mo_361 (c_Mo_addAll5 l E _ _ a ad _ _ _ b0 nv pb np x [] [] OX X.1 hg0 hOx (by omega) (by simp; omega) hkx) rfl X.1.1 gc_Mo ⟨by first | decide | omega | (dsimp only; omega), by first | decide | omega | (dsimp only; omega)⟩ ⟨by first | decide | omega | (dsimp only; omega), by first | decide | omega | (dsimp only; omega)⟩ (Nat.le_of_ble_eq_true rfl) rfl d_Mo_joinMany_7 (fun r z9 H locs hp V1 => ?_)
  obtain ⟨rfl, S3, I3, X2, hg3, ho3⟩ := hp
  have X := X.then X2
  have V := V1
  have hgo3 : mg_o S I S3 I3 := mg_o.tr ⟨fun _ _ _ => rfl, fun k h => va_up_n h⟩ ho3
  refine W.eq (g2 := F0 m 10 ls []) rfl ?_
  refine lv_aload_n hx hb d_Mo_joinMany_10 rfl (lv_at hl 0 rfl) ?_
  refine lv_iload_n hx hb d_Mo_joinMany_11 rfl (lv_at hl 2 rfl) ?_
  have hl1 := vt_aau_len (O := OX) (n := vt_c OX) (i := 0) (xs := [])
  simp only [List.length_nil] at hl1
  refine gh_callV C V hl.1 m_Mo_addAll l_Mo_361 (c_Mo_addAll5 l E _ _ a ad _ _ _ b0 nv pb np y [] (vt_aau OX (vt_c OX) 0 []) OY X.1 hg3 (hOy.keep (hgo3.ma (J := J) (b0 := b0) (nv := nv) (pb := pb) (np := np)) (Nat.le_refl _) (Nat.le_refl _) (by omega)) (by omega) (by omega) hky) rfl X.1.1 gc_Mo ⟨by first | decide | omega | (dsimp only; omega), by first | decide | omega | (dsimp only; omega)⟩ ⟨by first | decide | omega | (dsimp only; omega), by first | decide | omega | (dsimp only; omega)⟩ (Nat.le_of_ble_eq_true rfl) rfl d_Mo_joinMany_12 (fun r z9 H locs hp V1 => ?_)
  obtain ⟨rfl, S4, I4, X2, hg4, ho4⟩ := hp
  have X := X.then X2
  have V := V1
  have hgo4 : mg_o S I S4 I4 := hgo3.tr ho4
  have hl2 := vt_aau_len (O := OY) (n := vt_c OY) (i := 0) (xs := (vt_aau OX (vt_c OX) 0 []))
  have hS16 : S4 16 = nI (vt_aau OY (vt_c OY) 0 (vt_aau OX (vt_c OX) 0 [])).length := hg4.choose_spec.choose_spec.1
  have h1x4 : I4 1 x = nI 5 := by rw [hgo4.1 1 (by decide) (by decide), h1x, hkx]
  refine W.eq (g2 := F0 m 15 ls []) rfl ?_
  refine lv_aload_n hx hb d_Mo_joinMany_15 rfl (lv_at hl 0 rfl) ?_
  refine mo_getS (v := nI ((vt_aau OY (vt_c OY) 0 (vt_aau OX (vt_c OX) 0 [])).length)) C V X 16 (by decide) (by decide) (by first | rfl | exact hS16) f_Mo_156 rfl d_Mo_joinMany_16 ?_
  refine lv_bipush (v := 16) hx hb d_Mo_joinMany_19 (by decide) ?_
  refine lv_icmp_le (tgt := 32) hx hb d_Mo_joinMany_21 (by decide) (fun c1 => ?_) (fun c1 => ?_)
  · have c1 : ((vt_aau OY (vt_c OY) 0 (vt_aau OX (vt_c OX) 0 [])).length) ≤ 16 := by rw [← gq_le (a := (vt_aau OY (vt_c OY) 0 (vt_aau OX (vt_c OX) 0 [])).length) (b := 16) (by omega) (by omega)]; exact c1
    refine lv_aload_n hx hb d_Mo_joinMany_32 rfl (lv_at hl 0 rfl) ?_
    refine lv_aload_n hx hb d_Mo_joinMany_33 rfl (lv_at hl 0 rfl) ?_
    refine lv_aload_n hx hb d_Mo_joinMany_34 rfl (lv_at hl 0 rfl) ?_
    refine mo_getA C V X 1 (by decide) (by decide) f_Mo_7 rfl d_Mo_joinMany_35 ?_
    refine lv_iload_n hx hb d_Mo_joinMany_38 rfl (lv_at hl 1 rfl) ?_
    refine mo_ild (k := 1) (i := x) (n := 760) C V X (by decide) (by decide) rfl (by omega) (by decide) d_Mo_joinMany_39 ?_
    rw [show I4 1 x = nI 5 from h1x4]
    have h11a : S4 11 = nI nv := by rw [hgo4.2 11 (by decide)]; exact h11
    have h12a : S4 12 = nI np := by rw [hgo4.2 12 (by decide)]; exact h12
    refine gh_callV C V hl.1 m_Mo_seal l_Mo_230 (c_Mo_seal l E _ _ a ad _ _ _ b0 nv pb np 5 [] (vt_aau OY (vt_c OY) 0 (vt_aau OX (vt_c OX) 0 [])) X.1 hg4 h11a h12a hnv h29 (by omega) (by omega) (Or.inl rfl)) rfl X.1.1 gc_Mo ⟨by first | decide | omega | (dsimp only; omega), by first | decide | omega | (dsimp only; omega)⟩ ⟨by first | decide | omega | (dsimp only; omega), by first | decide | omega | (dsimp only; omega)⟩ (Nat.le_of_ble_eq_true rfl) rfl d_Mo_joinMany_40 (fun r z9 H locs hp V1 => ?_)
    obtain ⟨rfl, S6, I6, J6, X2, hsl⟩ := hp
    have hsl : sl_o S4 I4 J b0 nv pb np 5 (vt_aau OY (vt_c OY) 0 (vt_aau OX (vt_c OX) 0 [])) S6 I6 J6 := hsl
    have X := X.then X2
    have V := V1
    have h45a : S6 45 = nI (wt + 1) := by rw [hsl.2.2.2.1 45 (by decide) (by decide), hgo4.2 45 (by decide)]; exact hS45
    refine W.eq (g2 := F0 m 43 ls [.int (nI nv), .ref a]) rfl ?_
    have hlim := mg_lim hg4
    refine gh_callV C V hl.1 m_Mo_check l_Mo_358 (c_Mo_check l E _ _ a ad _ _ _ nv (vt_wsum (vt_aau OY (vt_c OY) 0 (vt_aau OX (vt_c OX) 0 []))) (vt_hmax (vt_aau OY (vt_c OY) 0 (vt_aau OX (vt_c OX) 0 [])) + 1) wt X.1 hnv hsl.2.2.2.2.2.2.2.1 hsl.2.2.2.2.2.2.2.2.1 hlim.1 (Nat.lt_of_lt_of_le (Nat.succ_lt_succ hlim.2) (by decide)) h45a) rfl X.1.1 gc_Mo ⟨by first | decide | omega | (dsimp only; omega), by first | decide | omega | (dsimp only; omega)⟩ ⟨by first | decide | omega | (dsimp only; omega), by first | decide | omega | (dsimp only; omega)⟩ (Nat.le_of_ble_eq_true rfl) rfl d_Mo_joinMany_43 (fun r z9 H locs hp V1 => ?_)
    obtain ⟨rfl, X2⟩ := hp
    have X := X.then X2
    have V := V1
    refine W.eq (g2 := F0 m 46 ls []) rfl ?_
    refine gh_retv hAe C V hr hlocks d_Mo_joinMany_46 (by first | decide | omega | (dsimp only; omega)) (by first | decide | omega | (dsimp only; omega)) ?_
    exact ⟨rfl, _, _, _, X, by rw [vt_jl_u]; unfold vt_mku; rw [if_pos (by omega)]; exact mr_check hgo4.un hgo4.ma hg4 hsl (Or.inl ⟨rfl, rfl⟩) hb0 hnv hpb (by omega) (by omega)⟩
  · have c1 : ¬ ((vt_aau OY (vt_c OY) 0 (vt_aau OX (vt_c OX) 0 [])).length) ≤ 16 := by rw [← gq_le (a := (vt_aau OY (vt_c OY) 0 (vt_aau OX (vt_c OX) 0 [])).length) (b := 16) (by omega) (by omega)]; exact c1
    refine lv_aload_n hx hb d_Mo_joinMany_24 rfl (lv_at hl 0 rfl) ?_
    refine lv_iconst (v := 3) hx hb d_Mo_joinMany_25 (by decide) ?_
    have h45a : S4 45 = nI (wt + 1) := by rw [hgo4.2 45 (by decide)]; exact hS45
    refine gh_callV C V hl.1 m_Mo_tell l_Mo_289 (c_Mo_tell l E _ _ a ad _ _ _ 3 wt X.1 h45a) rfl X.1.1 gc_Mo ⟨by first | decide | omega | (dsimp only; omega), by first | decide | omega | (dsimp only; omega)⟩ ⟨by first | decide | omega | (dsimp only; omega), by first | decide | omega | (dsimp only; omega)⟩ (Nat.le_of_ble_eq_true rfl) rfl d_Mo_joinMany_26 (fun r z9 H locs hp V1 => ?_)
    obtain ⟨rfl, X2⟩ := hp
    have X := X.then X2
    have V := V1
    refine W.eq (g2 := F0 m 29 ls []) rfl ?_
    refine lv_goto (tgt := 46) hx hb d_Mo_joinMany_29 (by decide) ?_
    refine gh_retv hAe C V hr hlocks d_Mo_joinMany_46 (by first | decide | omega | (dsimp only; omega)) (by first | decide | omega | (dsimp only; omega)) ?_
    exact ⟨rfl, _, _, _, X, by rw [vt_jl_u]; unfold vt_mku; rw [if_neg (by omega)]; exact mr_failG hgo4.un hgo4.ma (by rw [hgo4.2 11 (by decide)]; exact h11) (by rw [hgo4.2 12 (by decide)]; exact h12) (by omega)⟩
