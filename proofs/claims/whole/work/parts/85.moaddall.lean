/-! addAll of the model. Printed by wip/whole/gen_mo8.py. -/
/-- the items behind xs, without a limit -/
def vt_aau (O : vt) : Nat → Nat → List vt → List vt
  | 0, _, xs => xs
  | n + 1, i, xs => vt_aau O n (i + 1) (xs ++ [vt_s O i])
theorem vt_aau_len {O : vt} : ∀ {n i : Nat} {xs : List vt}, (vt_aau O n i xs).length = xs.length + n := by
  intro n
  induction n with
  | zero => intro i xs; rfl
  | succ n ih => intro i xs; unfold vt_aau; rw [ih]; simp; omega
theorem vt_aa_aau {O : vt} : ∀ {n i : Nat} {xs : List vt}, xs.length ≤ 16 → vt_aa O n i xs = if (vt_aau O n i xs).length ≤ 16 then some (vt_aau O n i xs) else none := by
  intro n
  induction n with
  | zero => intro i xs hs; unfold vt_aa vt_aau; rw [if_pos hs]
  | succ n ih =>
    intro i xs hs
    unfold vt_aa
    by_cases h : xs.length < 16
    · rw [if_pos h, ih (by simp; omega)]
      rfl
    · rw [if_neg h, if_neg (by rw [vt_aau_len]; omega)]
theorem mw_item {I : mo_I} {J : mo_J} {b0 nv pb np v j : Nat} {X : vt} (hv : vo 8 X) (hj : j < vt_c X) (h : mv I J b0 nv pb np 7 v (vt_s X j)) : mw I J b0 nv pb np v (vt_s X j) := by
  have ho := vo_o.mp hv
  have hs := ho.2.2.2.2.2.2.2.2.2.2.2 j hj
  have hh := ho.2.2.2.2.2.2.2.2.1.1
  exact ⟨h.up, hs.2.down (by omega)⟩
theorem d_Mo_addAll_0 : decode b_Mo_addAll 0 = .ok (.iconst 0, 1) := by decide +kernel
theorem d_Mo_addAll_1 : decode b_Mo_addAll 1 = .ok (.istore_n 2, 1) := by decide +kernel
theorem d_Mo_addAll_2 : decode b_Mo_addAll 2 = .ok (.aload_n 0, 1) := by decide +kernel
theorem d_Mo_addAll_3 : decode b_Mo_addAll 3 = .ok (.iload_n 1, 1) := by decide +kernel
theorem d_Mo_addAll_4 : decode b_Mo_addAll 4 = .ok (.invokevirtual 169, 3) := by decide +kernel
theorem d_Mo_addAll_7 : decode b_Mo_addAll 7 = .ok (.ifCond .eq 74, 3) := by decide +kernel
theorem d_Mo_addAll_10 : decode b_Mo_addAll 10 = .ok (.iload_n 2, 1) := by decide +kernel
theorem d_Mo_addAll_11 : decode b_Mo_addAll 11 = .ok (.aload_n 0, 1) := by decide +kernel
theorem d_Mo_addAll_12 : decode b_Mo_addAll 12 = .ok (.getfield 17, 3) := by decide +kernel
theorem d_Mo_addAll_15 : decode b_Mo_addAll 15 = .ok (.iload_n 1, 1) := by decide +kernel
theorem d_Mo_addAll_16 : decode b_Mo_addAll 16 = .ok (.iaload, 1) := by decide +kernel
theorem d_Mo_addAll_17 : decode b_Mo_addAll 17 = .ok (.if_icmp .ge 64, 3) := by decide +kernel
theorem d_Mo_addAll_20 : decode b_Mo_addAll 20 = .ok (.aload_n 0, 1) := by decide +kernel
theorem d_Mo_addAll_21 : decode b_Mo_addAll 21 = .ok (.getfield 7, 3) := by decide +kernel
theorem d_Mo_addAll_24 : decode b_Mo_addAll 24 = .ok (.iload_n 1, 1) := by decide +kernel
theorem d_Mo_addAll_25 : decode b_Mo_addAll 25 = .ok (.iaload, 1) := by decide +kernel
theorem d_Mo_addAll_26 : decode b_Mo_addAll 26 = .ok (.bipush 6, 2) := by decide +kernel
theorem d_Mo_addAll_28 : decode b_Mo_addAll 28 = .ok (.if_icmp .ne 22, 3) := by decide +kernel
theorem d_Mo_addAll_31 : decode b_Mo_addAll 31 = .ok (.aload_n 0, 1) := by decide +kernel
theorem d_Mo_addAll_32 : decode b_Mo_addAll 32 = .ok (.aload_n 0, 1) := by decide +kernel
theorem d_Mo_addAll_33 : decode b_Mo_addAll 33 = .ok (.iload_n 1, 1) := by decide +kernel
theorem d_Mo_addAll_34 : decode b_Mo_addAll 34 = .ok (.iload_n 2, 1) := by decide +kernel
theorem d_Mo_addAll_35 : decode b_Mo_addAll 35 = .ok (.invokevirtual 150, 3) := by decide +kernel
theorem d_Mo_addAll_38 : decode b_Mo_addAll 38 = .ok (.aload_n 0, 1) := by decide +kernel
theorem d_Mo_addAll_39 : decode b_Mo_addAll 39 = .ok (.iload_n 1, 1) := by decide +kernel
theorem d_Mo_addAll_40 : decode b_Mo_addAll 40 = .ok (.iload_n 2, 1) := by decide +kernel
theorem d_Mo_addAll_41 : decode b_Mo_addAll 41 = .ok (.invokevirtual 176, 3) := by decide +kernel
theorem d_Mo_addAll_44 : decode b_Mo_addAll 44 = .ok (.invokevirtual 227, 3) := by decide +kernel
theorem d_Mo_addAll_47 : decode b_Mo_addAll 47 = .ok (.goto 28, 3) := by decide +kernel
theorem d_Mo_addAll_50 : decode b_Mo_addAll 50 = .ok (.aload_n 0, 1) := by decide +kernel
theorem d_Mo_addAll_51 : decode b_Mo_addAll 51 = .ok (.getfield 44, 3) := by decide +kernel
theorem d_Mo_addAll_54 : decode b_Mo_addAll 54 = .ok (.aload_n 0, 1) := by decide +kernel
theorem d_Mo_addAll_55 : decode b_Mo_addAll 55 = .ok (.getfield 156, 3) := by decide +kernel
theorem d_Mo_addAll_58 : decode b_Mo_addAll 58 = .ok (.aload_n 0, 1) := by decide +kernel
theorem d_Mo_addAll_59 : decode b_Mo_addAll 59 = .ok (.iload_n 1, 1) := by decide +kernel
theorem d_Mo_addAll_60 : decode b_Mo_addAll 60 = .ok (.iload_n 2, 1) := by decide +kernel
theorem d_Mo_addAll_61 : decode b_Mo_addAll 61 = .ok (.invokevirtual 176, 3) := by decide +kernel
theorem d_Mo_addAll_64 : decode b_Mo_addAll 64 = .ok (.iastore, 1) := by decide +kernel
theorem d_Mo_addAll_65 : decode b_Mo_addAll 65 = .ok (.aload_n 0, 1) := by decide +kernel
theorem d_Mo_addAll_66 : decode b_Mo_addAll 66 = .ok (.dup, 1) := by decide +kernel
theorem d_Mo_addAll_67 : decode b_Mo_addAll 67 = .ok (.getfield 156, 3) := by decide +kernel
theorem d_Mo_addAll_70 : decode b_Mo_addAll 70 = .ok (.iconst 1, 1) := by decide +kernel
theorem d_Mo_addAll_71 : decode b_Mo_addAll 71 = .ok (.iadd, 1) := by decide +kernel
theorem d_Mo_addAll_72 : decode b_Mo_addAll 72 = .ok (.putfield 156, 3) := by decide +kernel
theorem d_Mo_addAll_75 : decode b_Mo_addAll 75 = .ok (.iinc 2 1, 3) := by decide +kernel
theorem d_Mo_addAll_78 : decode b_Mo_addAll 78 = .ok (.goto (-76), 3) := by decide +kernel
theorem d_Mo_addAll_81 : decode b_Mo_addAll 81 = .ok (.return_, 1) := by decide +kernel
set_option maxHeartbeats 4000000 in
set_option maxRecDepth 100000 in
theorem c_Mo_addAll6 (l : Launch) (E : gh_E) (sz : Nat) (f : gh_F) (a : Nat) (ad : Nat → Nat) (S : Nat → Int32) (I : Nat → Nat → Int32) (J : Nat → Nat → Int64) (b0 nv pb np v : Nat) (ks : List (List Int32)) (xs : List vt) (O : vt) (hX : mo_R E f a ad S I J) (hg : mg S I J b0 nv pb np ks xs) (hO : mw I J b0 nv pb np v O) (hp8 : np ≤ 8800) (hx32 : xs.length + vt_c O ≤ 32) (he : ks.length = xs.length) (hk : vt_k O = 6) : gh_M l y_Mo_addAll b_Mo_addAll 3 none E sz [.ref a, .int (nI v)] f { frames := 6, cells := 0, slots := 0, locals := 180 } (fun r g => r = none ∧ ∃ S2 I2, mo_X E f g a ad S2 I2 J ∧ mg S2 I2 J b0 nv pb np (vt_pua O (vt_c O) 0 (ks, xs)).1 (vt_pua O (vt_c O) 0 (ks, xs)).2 ∧ mg_o S I S2 I2) := by
  have hoO := vo_o.mp hO.2
  have hc16 := hoO.2.2.2.2.2.2.1
  have hqk := hoO.2.2.2.2.2.2.2.2.2.2.1
  have hqc := hoO.2.2.2.2.1
  rw [hk, if_pos rfl] at hqc
  refine gh_open (by decide) (Nat.le_of_ble_eq_true rfl) ?_
  intro p e s m args below meth c A ls hAe C V hr hlocks hname hl
  have hx := C.1
  have hb := C.2.1
  have hl : lv_has ls 3 [(0, .ref a), (1, .int (nI v))] := hl
  have X : mo_X E f f a ad S I J := ⟨hX, gh_fr.rf⟩
  refine lv_iconst (v := 0) hx hb d_Mo_addAll_0 (by decide) ?_
  refine lv_istore_n hx hb d_Mo_addAll_1 rfl hl (by decide) rfl (fun ls hl => ?_)
  have hl : lv_has ls 3 [(2, .int 0), (0, .ref a), (1, .int (nI v))] := hl
  have hl : lv_has ls 3 [(2, .int 0), (0, .ref a), (1, .int (nI v))] := lv_sub hl [0, 1, 2] rfl
  have hl : lv_has ls 3 [(2, .int (nI 0)), (0, .ref a), (1, .int (nI v))] := hl
  have loop : ∀ (n9 i9 : Nat) (s9 : List (List Int32) × List vt) (S1 : Nat → Int32) (I1 : mo_I) (f1 : gh_F) (H : Heap) (locs : List Loc) (ls : Array Slot), i9 + n9 = vt_c O → (mg S1 I1 J b0 nv pb np s9.1 s9.2) → (s9.1.length = s9.2.length) → (s9.2.length ≤ xs.length + i9) → (vt_pua O n9 i9 s9 = vt_pua O (vt_c O) 0 (ks, xs)) → (mg_o S I S1 I1) → mo_X E f f1 a ad S1 I1 J → gh_V E A f1 s H locs → lv_has ls 3 [(2, .int (nI i9)), (0, .ref a), (1, .int (nI v))] → W p l e { frames := 6, cells := 0, slots := 0, locals := 180 } s m args below meth c H locs 0 0 (MQ below (gh_Q E f (fun r g => r = none ∧ ∃ S2 I2, mo_X E f g a ad S2 I2 J ∧ mg S2 I2 J b0 nv pb np (vt_pua O (vt_c O) 0 (ks, xs)).1 (vt_pua O (vt_c O) 0 (ks, xs)).2 ∧ mg_o S I S2 I2)) args s 0 0 A) (F0 m 2 ls []) := by
    intro n9
    induction n9 with
    | zero =>
      intro i9 s9 S1 I1 f1 H locs ls hi hg1 he1 hln hst hgo X V hl
      have hO1 := hO.keep hgo.ma (Nat.le_refl _) (Nat.le_refl _) hp8
      obtain ⟨hav, h1v, h2v, h3v, h4v, h5v, h6v, h7v⟩ := mv_o.mp hO1.1
      obtain ⟨fv, B, K, hfv, ⟨hf1, hf2, hf3⟩, hB, hK⟩ := h7v (by omega)
      have hv7 := hav.2
      rw [hk] at h1v
      rw [show vt_ln O = vt_c O by unfold vt_ln; rw [if_neg (by omega)]] at h3v
      refine lv_aload_n hx hb d_Mo_addAll_2 rfl (lv_at hl 1 rfl) ?_
      refine lv_iload_n hx hb d_Mo_addAll_3 rfl (lv_at hl 2 rfl) ?_
      refine gh_callV C V hl.1 m_Mo_isMany l_Mo_169 (c_Mo_isMany l E _ _ a ad _ _ _ v X.1 hav.2) rfl X.1.1 gc_Mo ⟨by first | decide | omega | (dsimp only; omega), by first | decide | omega | (dsimp only; omega)⟩ ⟨by first | decide | omega | (dsimp only; omega), by first | decide | omega | (dsimp only; omega)⟩ (Nat.le_of_ble_eq_true rfl) rfl d_Mo_addAll_4 (fun r z9 H locs hp V1 => ?_)
      rw [h1v] at hp
      obtain ⟨rfl, he9⟩ := hp
      rw [he9] at V1
      have V := V1
      refine W.eq (g2 := F0 m 7 ls [.int (gh_bi true)]) rfl ?_
      refine lv_if_eq (tgt := 81) hx hb d_Mo_addAll_7 (by decide) (fun c1 => absurd c1 (by decide)) (fun c1 => ?_)
      refine lv_iload_n hx hb d_Mo_addAll_10 rfl (lv_at hl 0 rfl) ?_
      refine lv_aload_n hx hb d_Mo_addAll_11 rfl (lv_at hl 1 rfl) ?_
      refine mo_getA C V X 3 (by decide) (by decide) f_Mo_17 rfl d_Mo_addAll_12 ?_
      refine lv_iload_n hx hb d_Mo_addAll_15 rfl (lv_at hl 2 rfl) ?_
      refine mo_ild (k := 3) (i := v) (n := 760) C V X (by decide) (by decide) rfl (by omega) (by decide) d_Mo_addAll_16 ?_
      rw [show I1 3 v = nI (vt_c O) from h3v]
      refine lv_icmp_ge (tgt := 81) hx hb d_Mo_addAll_17 (by decide) (fun c2 => ?_) (fun c2 => absurd (nI_le (by omega) (by omega)) c2)
      refine gh_retv hAe C V hr hlocks d_Mo_addAll_81 (by first | decide | omega | (dsimp only; omega)) (by first | decide | omega | (dsimp only; omega)) ?_
      rw [← hst]
      exact ⟨rfl, S1, I1, X, hg1, hgo⟩
    | succ n9 ih =>
      intro i9 s9 S1 I1 f1 H locs ls hi hg1 he1 hln hst hgo X V hl
      have hO1 := hO.keep hgo.ma (Nat.le_refl _) (Nat.le_refl _) hp8
      obtain ⟨hav, h1v, h2v, h3v, h4v, h5v, h6v, h7v⟩ := mv_o.mp hO1.1
      obtain ⟨fv, B, K, hfv, ⟨hf1, hf2, hf3⟩, hB, hK⟩ := h7v (by omega)
      have hv7 := hav.2
      rw [hk] at h1v
      rw [show vt_ln O = vt_c O by unfold vt_ln; rw [if_neg (by omega)]] at h3v
      refine lv_aload_n hx hb d_Mo_addAll_2 rfl (lv_at hl 1 rfl) ?_
      refine lv_iload_n hx hb d_Mo_addAll_3 rfl (lv_at hl 2 rfl) ?_
      refine gh_callV C V hl.1 m_Mo_isMany l_Mo_169 (c_Mo_isMany l E _ _ a ad _ _ _ v X.1 hav.2) rfl X.1.1 gc_Mo ⟨by first | decide | omega | (dsimp only; omega), by first | decide | omega | (dsimp only; omega)⟩ ⟨by first | decide | omega | (dsimp only; omega), by first | decide | omega | (dsimp only; omega)⟩ (Nat.le_of_ble_eq_true rfl) rfl d_Mo_addAll_4 (fun r z9 H locs hp V1 => ?_)
      rw [h1v] at hp
      obtain ⟨rfl, he9⟩ := hp
      rw [he9] at V1
      have V := V1
      refine W.eq (g2 := F0 m 7 ls [.int (gh_bi true)]) rfl ?_
      refine lv_if_eq (tgt := 81) hx hb d_Mo_addAll_7 (by decide) (fun c3 => absurd c3 (by decide)) (fun c3 => ?_)
      refine lv_iload_n hx hb d_Mo_addAll_10 rfl (lv_at hl 0 rfl) ?_
      refine lv_aload_n hx hb d_Mo_addAll_11 rfl (lv_at hl 1 rfl) ?_
      refine mo_getA C V X 3 (by decide) (by decide) f_Mo_17 rfl d_Mo_addAll_12 ?_
      refine lv_iload_n hx hb d_Mo_addAll_15 rfl (lv_at hl 2 rfl) ?_
      refine mo_ild (k := 3) (i := v) (n := 760) C V X (by decide) (by decide) rfl (by omega) (by decide) d_Mo_addAll_16 ?_
      rw [show I1 3 v = nI (vt_c O) from h3v]
      refine lv_icmp_ge (tgt := 81) hx hb d_Mo_addAll_17 (by decide) (fun c4 => absurd c4 (nI_ge (by omega) (by omega))) (fun c4 => ?_)
      refine lv_aload_n hx hb d_Mo_addAll_20 rfl (lv_at hl 1 rfl) ?_
      refine mo_getA C V X 1 (by decide) (by decide) f_Mo_7 rfl d_Mo_addAll_21 ?_
      refine lv_iload_n hx hb d_Mo_addAll_24 rfl (lv_at hl 2 rfl) ?_
      refine mo_ild (k := 1) (i := v) (n := 760) C V X (by decide) (by decide) rfl (by omega) (by decide) d_Mo_addAll_25 ?_
      rw [show I1 1 v = nI 6 from h1v]
      refine lv_bipush (v := 6) hx hb d_Mo_addAll_26 (by decide) ?_
      refine lv_icmp_ne (tgt := 50) hx hb d_Mo_addAll_28 (by decide) (fun c5 => absurd (by decide) c5) (fun c5 => ?_)
      refine lv_aload_n hx hb d_Mo_addAll_31 rfl (lv_at hl 1 rfl) ?_
      refine lv_aload_n hx hb d_Mo_addAll_32 rfl (lv_at hl 1 rfl) ?_
      refine lv_iload_n hx hb d_Mo_addAll_33 rfl (lv_at hl 2 rfl) ?_
      refine lv_iload_n hx hb d_Mo_addAll_34 rfl (lv_at hl 0 rfl) ?_
      refine gh_callV C V hl.1 m_Mo_keyOf l_Mo_150 (c_Mo_keyOf l E _ _ a ad _ _ _ v i9 fv (vt_c O) X.1 hav.2 hfv h3v (by omega)) rfl X.1.1 gc_Mo ⟨by first | decide | omega | (dsimp only; omega), by first | decide | omega | (dsimp only; omega)⟩ ⟨by first | decide | omega | (dsimp only; omega), by first | decide | omega | (dsimp only; omega)⟩ (Nat.le_of_ble_eq_true rfl) rfl d_Mo_addAll_35 (fun r z9 H locs hp V1 => ?_)
      rw [(hK i9 (by omega)).1] at hp
      obtain ⟨rfl, he9⟩ := hp
      rw [he9] at V1
      have V := V1
      refine W.eq (g2 := F0 m 38 ls [.int (nI (K i9)), .ref a]) rfl ?_
      refine lv_aload_n hx hb d_Mo_addAll_38 rfl (lv_at hl 1 rfl) ?_
      refine lv_iload_n hx hb d_Mo_addAll_39 rfl (lv_at hl 2 rfl) ?_
      refine lv_iload_n hx hb d_Mo_addAll_40 rfl (lv_at hl 0 rfl) ?_
      refine gh_callV C V hl.1 m_Mo_itemOf l_Mo_176 (c_Mo_itemOf l E _ _ a ad _ _ _ v i9 fv X.1 hav.2 hfv (by omega)) rfl X.1.1 gc_Mo ⟨by first | decide | omega | (dsimp only; omega), by first | decide | omega | (dsimp only; omega)⟩ ⟨by first | decide | omega | (dsimp only; omega), by first | decide | omega | (dsimp only; omega)⟩ (Nat.le_of_ble_eq_true rfl) rfl d_Mo_addAll_41 (fun r z9 H locs hp V1 => ?_)
      rw [(hB i9 (by omega)).1] at hp
      obtain ⟨rfl, he9⟩ := hp
      rw [he9] at V1
      have V := V1
      refine W.eq (g2 := F0 m 44 ls [.int (nI (B i9)), .int (nI (K i9)), .ref a]) rfl ?_
      refine gh_callV C V hl.1 m_Mo_member l_Mo_227 (c_Mo_member l E _ _ a ad _ _ _ b0 nv pb np (K i9) (B i9) s9.1 s9.2 ((vt_q O).getD i9 []) (vt_s O i9) X.1 hg1 he1 (by omega) (mw_item hO1.2 (by omega) (hB i9 (by omega)).2) (hK i9 (by omega)).2 (hqk i9 (by omega)) hp8) rfl X.1.1 gc_Mo ⟨by first | decide | omega | (dsimp only; omega), by first | decide | omega | (dsimp only; omega)⟩ ⟨by first | decide | omega | (dsimp only; omega), by first | decide | omega | (dsimp only; omega)⟩ (Nat.le_of_ble_eq_true rfl) rfl d_Mo_addAll_44 (fun r z9 H locs hp V1 => ?_)
      obtain ⟨rfl, S2, I2, X2, hg2, ho2⟩ := hp
      have X := X.then X2
      have V := V1
      refine W.eq (g2 := F0 m 47 ls []) rfl ?_
      refine lv_goto (tgt := 75) hx hb d_Mo_addAll_47 (by decide) ?_
      refine lv_iinc (k := 0) (v := (nI i9) + 1) hx hb d_Mo_addAll_75 hl rfl (by rfl) (by decide) rfl (fun ls hl => ?_)
      have hl : lv_has ls 3 [(2, .int (nI (i9 + 1))), (0, .ref a), (1, .int (nI v))] := by rw [nI_succ]; exact hl
      refine lv_goto (tgt := 2) hx hb d_Mo_addAll_78 (by decide) ?_
      have hl : lv_has ls 3 [(2, .int (nI (i9 + 1))), (0, .ref a), (1, .int (nI v))] := lv_sub hl [0, 1, 2] rfl
      have hl : lv_has ls 3 [(2, .int (nI (i9 + 1))), (0, .ref a), (1, .int (nI v))] := hl
      have hln2 := (vt_pu_len (s := s9) (L := (vt_q O).getD i9 []) (X := vt_s O i9)).2
      exact ih (i9 + 1) (vt_pu s9 ((vt_q O).getD i9 []) (vt_s O i9)) S2 I2 z9 H locs ls (by omega) hg2 (vt_pu_eq he1) (by omega) (by rw [← hst]; rfl) (hgo.tr ho2) X V hl
  exact loop (vt_c O) 0 (ks, xs) S I f _ _ ls (by omega) hg he (Nat.le_refl _) rfl ⟨fun _ _ _ => rfl, fun _ _ => rfl⟩ X V hl
set_option maxHeartbeats 4000000 in
set_option maxRecDepth 100000 in
theorem c_Mo_addAll5 (l : Launch) (E : gh_E) (sz : Nat) (f : gh_F) (a : Nat) (ad : Nat → Nat) (S : Nat → Int32) (I : Nat → Nat → Int32) (J : Nat → Nat → Int64) (b0 nv pb np v : Nat) (ks : List (List Int32)) (xs : List vt) (O : vt) (hX : mo_R E f a ad S I J) (hg : mg S I J b0 nv pb np ks xs) (hO : mw I J b0 nv pb np v O) (hp8 : np ≤ 8800) (hx32 : xs.length + vt_c O ≤ 32) (hk : vt_k O = 5) : gh_M l y_Mo_addAll b_Mo_addAll 3 none E sz [.ref a, .int (nI v)] f { frames := 6, cells := 0, slots := 0, locals := 180 } (fun r g => r = none ∧ ∃ S2 I2, mo_X E f g a ad S2 I2 J ∧ mg S2 I2 J b0 nv pb np ks (vt_aau O (vt_c O) 0 xs) ∧ mg_o S I S2 I2) := by
  have hoO := vo_o.mp hO.2
  have hc16 := hoO.2.2.2.2.2.2.1
  have hqk := hoO.2.2.2.2.2.2.2.2.2.2.1
  have hqc := hoO.2.2.2.2.1
  rw [hk, if_neg (by decide)] at hqc
  refine gh_open (by decide) (Nat.le_of_ble_eq_true rfl) ?_
  intro p e s m args below meth c A ls hAe C V hr hlocks hname hl
  have hx := C.1
  have hb := C.2.1
  have hl : lv_has ls 3 [(0, .ref a), (1, .int (nI v))] := hl
  have X : mo_X E f f a ad S I J := ⟨hX, gh_fr.rf⟩
  refine lv_iconst (v := 0) hx hb d_Mo_addAll_0 (by decide) ?_
  refine lv_istore_n hx hb d_Mo_addAll_1 rfl hl (by decide) rfl (fun ls hl => ?_)
  have hl : lv_has ls 3 [(2, .int 0), (0, .ref a), (1, .int (nI v))] := hl
  have hl : lv_has ls 3 [(2, .int 0), (0, .ref a), (1, .int (nI v))] := lv_sub hl [0, 1, 2] rfl
  have hl : lv_has ls 3 [(2, .int (nI 0)), (0, .ref a), (1, .int (nI v))] := hl
  have loop : ∀ (n9 i9 : Nat) (s9 : List vt) (S1 : Nat → Int32) (I1 : mo_I) (f1 : gh_F) (H : Heap) (locs : List Loc) (ls : Array Slot), i9 + n9 = vt_c O → (mg S1 I1 J b0 nv pb np ks s9) → (s9.length = xs.length + i9) → (vt_aau O n9 i9 s9 = vt_aau O (vt_c O) 0 xs) → (mg_o S I S1 I1) → mo_X E f f1 a ad S1 I1 J → gh_V E A f1 s H locs → lv_has ls 3 [(2, .int (nI i9)), (0, .ref a), (1, .int (nI v))] → W p l e { frames := 6, cells := 0, slots := 0, locals := 180 } s m args below meth c H locs 0 0 (MQ below (gh_Q E f (fun r g => r = none ∧ ∃ S2 I2, mo_X E f g a ad S2 I2 J ∧ mg S2 I2 J b0 nv pb np ks (vt_aau O (vt_c O) 0 xs) ∧ mg_o S I S2 I2)) args s 0 0 A) (F0 m 2 ls []) := by
    intro n9
    induction n9 with
    | zero =>
      intro i9 s9 S1 I1 f1 H locs ls hi hg1 hln hst hgo X V hl
      have hO1 := hO.keep hgo.ma (Nat.le_refl _) (Nat.le_refl _) hp8
      obtain ⟨hav, h1v, h2v, h3v, h4v, h5v, h6v, h7v⟩ := mv_o.mp hO1.1
      obtain ⟨fv, B, K, hfv, ⟨hf1, hf2, hf3⟩, hB, hK⟩ := h7v (by omega)
      have hv7 := hav.2
      rw [hk] at h1v
      rw [show vt_ln O = vt_c O by unfold vt_ln; rw [if_neg (by omega)]] at h3v
      have hS16 := hg1.choose_spec.choose_spec.1
      refine lv_aload_n hx hb d_Mo_addAll_2 rfl (lv_at hl 1 rfl) ?_
      refine lv_iload_n hx hb d_Mo_addAll_3 rfl (lv_at hl 2 rfl) ?_
      refine gh_callV C V hl.1 m_Mo_isMany l_Mo_169 (c_Mo_isMany l E _ _ a ad _ _ _ v X.1 hav.2) rfl X.1.1 gc_Mo ⟨by first | decide | omega | (dsimp only; omega), by first | decide | omega | (dsimp only; omega)⟩ ⟨by first | decide | omega | (dsimp only; omega), by first | decide | omega | (dsimp only; omega)⟩ (Nat.le_of_ble_eq_true rfl) rfl d_Mo_addAll_4 (fun r z9 H locs hp V1 => ?_)
      rw [h1v] at hp
      obtain ⟨rfl, he9⟩ := hp
      rw [he9] at V1
      have V := V1
      refine W.eq (g2 := F0 m 7 ls [.int (gh_bi true)]) rfl ?_
      refine lv_if_eq (tgt := 81) hx hb d_Mo_addAll_7 (by decide) (fun c1 => absurd c1 (by decide)) (fun c1 => ?_)
      refine lv_iload_n hx hb d_Mo_addAll_10 rfl (lv_at hl 0 rfl) ?_
      refine lv_aload_n hx hb d_Mo_addAll_11 rfl (lv_at hl 1 rfl) ?_
      refine mo_getA C V X 3 (by decide) (by decide) f_Mo_17 rfl d_Mo_addAll_12 ?_
      refine lv_iload_n hx hb d_Mo_addAll_15 rfl (lv_at hl 2 rfl) ?_
      refine mo_ild (k := 3) (i := v) (n := 760) C V X (by decide) (by decide) rfl (by omega) (by decide) d_Mo_addAll_16 ?_
      rw [show I1 3 v = nI (vt_c O) from h3v]
      refine lv_icmp_ge (tgt := 81) hx hb d_Mo_addAll_17 (by decide) (fun c2 => ?_) (fun c2 => absurd (nI_le (by omega) (by omega)) c2)
      refine gh_retv hAe C V hr hlocks d_Mo_addAll_81 (by first | decide | omega | (dsimp only; omega)) (by first | decide | omega | (dsimp only; omega)) ?_
      rw [← hst]
      exact ⟨rfl, S1, I1, X, hg1, hgo⟩
    | succ n9 ih =>
      intro i9 s9 S1 I1 f1 H locs ls hi hg1 hln hst hgo X V hl
      have hO1 := hO.keep hgo.ma (Nat.le_refl _) (Nat.le_refl _) hp8
      obtain ⟨hav, h1v, h2v, h3v, h4v, h5v, h6v, h7v⟩ := mv_o.mp hO1.1
      obtain ⟨fv, B, K, hfv, ⟨hf1, hf2, hf3⟩, hB, hK⟩ := h7v (by omega)
      have hv7 := hav.2
      rw [hk] at h1v
      rw [show vt_ln O = vt_c O by unfold vt_ln; rw [if_neg (by omega)]] at h3v
      have hS16 := hg1.choose_spec.choose_spec.1
      refine lv_aload_n hx hb d_Mo_addAll_2 rfl (lv_at hl 1 rfl) ?_
      refine lv_iload_n hx hb d_Mo_addAll_3 rfl (lv_at hl 2 rfl) ?_
      refine gh_callV C V hl.1 m_Mo_isMany l_Mo_169 (c_Mo_isMany l E _ _ a ad _ _ _ v X.1 hav.2) rfl X.1.1 gc_Mo ⟨by first | decide | omega | (dsimp only; omega), by first | decide | omega | (dsimp only; omega)⟩ ⟨by first | decide | omega | (dsimp only; omega), by first | decide | omega | (dsimp only; omega)⟩ (Nat.le_of_ble_eq_true rfl) rfl d_Mo_addAll_4 (fun r z9 H locs hp V1 => ?_)
      rw [h1v] at hp
      obtain ⟨rfl, he9⟩ := hp
      rw [he9] at V1
      have V := V1
      refine W.eq (g2 := F0 m 7 ls [.int (gh_bi true)]) rfl ?_
      refine lv_if_eq (tgt := 81) hx hb d_Mo_addAll_7 (by decide) (fun c3 => absurd c3 (by decide)) (fun c3 => ?_)
      refine lv_iload_n hx hb d_Mo_addAll_10 rfl (lv_at hl 0 rfl) ?_
      refine lv_aload_n hx hb d_Mo_addAll_11 rfl (lv_at hl 1 rfl) ?_
      refine mo_getA C V X 3 (by decide) (by decide) f_Mo_17 rfl d_Mo_addAll_12 ?_
      refine lv_iload_n hx hb d_Mo_addAll_15 rfl (lv_at hl 2 rfl) ?_
      refine mo_ild (k := 3) (i := v) (n := 760) C V X (by decide) (by decide) rfl (by omega) (by decide) d_Mo_addAll_16 ?_
      rw [show I1 3 v = nI (vt_c O) from h3v]
      refine lv_icmp_ge (tgt := 81) hx hb d_Mo_addAll_17 (by decide) (fun c4 => absurd c4 (nI_ge (by omega) (by omega))) (fun c4 => ?_)
      refine lv_aload_n hx hb d_Mo_addAll_20 rfl (lv_at hl 1 rfl) ?_
      refine mo_getA C V X 1 (by decide) (by decide) f_Mo_7 rfl d_Mo_addAll_21 ?_
      refine lv_iload_n hx hb d_Mo_addAll_24 rfl (lv_at hl 2 rfl) ?_
      refine mo_ild (k := 1) (i := v) (n := 760) C V X (by decide) (by decide) rfl (by omega) (by decide) d_Mo_addAll_25 ?_
      rw [show I1 1 v = nI 5 from h1v]
      refine lv_bipush (v := 6) hx hb d_Mo_addAll_26 (by decide) ?_
      refine lv_icmp_ne (tgt := 50) hx hb d_Mo_addAll_28 (by decide) (fun c5 => ?_) (fun c5 => absurd c5 (by decide))
      refine lv_aload_n hx hb d_Mo_addAll_50 rfl (lv_at hl 1 rfl) ?_
      refine mo_getA C V X 14 (by decide) (by decide) f_Mo_44 rfl d_Mo_addAll_51 ?_
      refine lv_aload_n hx hb d_Mo_addAll_54 rfl (lv_at hl 1 rfl) ?_
      refine mo_getS (v := nI (s9.length)) C V X 16 (by decide) (by decide) (by first | rfl | exact hS16) f_Mo_156 rfl d_Mo_addAll_55 ?_
      refine lv_aload_n hx hb d_Mo_addAll_58 rfl (lv_at hl 1 rfl) ?_
      refine lv_iload_n hx hb d_Mo_addAll_59 rfl (lv_at hl 2 rfl) ?_
      refine lv_iload_n hx hb d_Mo_addAll_60 rfl (lv_at hl 0 rfl) ?_
      refine gh_callV C V hl.1 m_Mo_itemOf l_Mo_176 (c_Mo_itemOf l E _ _ a ad _ _ _ v i9 fv X.1 hav.2 hfv (by omega)) rfl X.1.1 gc_Mo ⟨by first | decide | omega | (dsimp only; omega), by first | decide | omega | (dsimp only; omega)⟩ ⟨by first | decide | omega | (dsimp only; omega), by first | decide | omega | (dsimp only; omega)⟩ (Nat.le_of_ble_eq_true rfl) rfl d_Mo_addAll_61 (fun r z9 H locs hp V1 => ?_)
      rw [(hB i9 (by omega)).1] at hp
      obtain ⟨rfl, he9⟩ := hp
      rw [he9] at V1
      have V := V1
      refine W.eq (g2 := F0 m 64 ls [.int (nI (B i9)), .int (nI (s9.length)), .ref (ad 14)]) rfl ?_
      refine mo_ist (k := 14) (i := s9.length) (n := 32) C V X (by decide) (by decide) rfl (by omega) (by decide) d_Mo_addAll_64 (fun f1 H locs V1 X1 => ?_)
      clear V X
      have V := V1
      have X := X1
      clear V1 X1
      refine lv_aload_n hx hb d_Mo_addAll_65 rfl (lv_at hl 1 rfl) ?_
      refine lv_dup hx hb d_Mo_addAll_66 rfl ?_
      refine mo_getS (v := nI (s9.length)) C V X 16 (by decide) (by decide) (by first | rfl | exact hS16) f_Mo_156 rfl d_Mo_addAll_67 ?_
      refine lv_iconst (v := 1) hx hb d_Mo_addAll_70 (by decide) ?_
      refine gn_iadd (a := s9.length) (b := 1) hx hb d_Mo_addAll_71 ?_
      refine mo_putS C V X 16 (by decide) (by decide) f_Mo_156 rfl rfl rfl d_Mo_addAll_72 (fun f1 H locs V1 X1 => ?_)
      clear V X
      have V := V1
      have X := X1
      clear V1 X1
      refine lv_iinc (k := 0) (v := (nI i9) + 1) hx hb d_Mo_addAll_75 hl rfl (by rfl) (by decide) rfl (fun ls hl => ?_)
      have hl : lv_has ls 3 [(2, .int (nI (i9 + 1))), (0, .ref a), (1, .int (nI v))] := by rw [nI_succ]; exact hl
      refine lv_goto (tgt := 2) hx hb d_Mo_addAll_78 (by decide) ?_
      have hl : lv_has ls 3 [(2, .int (nI (i9 + 1))), (0, .ref a), (1, .int (nI v))] := lv_sub hl [0, 1, 2] rfl
      have hl : lv_has ls 3 [(2, .int (nI (i9 + 1))), (0, .ref a), (1, .int (nI v))] := hl
      refine ih (i9 + 1) (s9 ++ [vt_s O i9]) _ _ _ H locs ls (by omega) (mg.add hg1 (by omega) (mw_item hO1.2 (by omega) (hB i9 (by omega)).2) hp8) (by simp; omega) (by rw [← hst]; rfl) (hgo.tr ⟨fun k h1 h2 => va_up_n h1, fun k h1 => va_up_n h1⟩) X V hl
  exact loop (vt_c O) 0 xs S I f _ _ ls (by omega) hg (by omega) rfl ⟨fun _ _ _ => rfl, fun _ _ => rfl⟩ X V hl
