/-! member of the model. Printed by wip/whole/gen_mo7.py. -/
/-- only what is gathered has changed -/
def mg_o (S : Nat → Int32) (I : mo_I) (S2 : Nat → Int32) (I2 : mo_I) : Prop := (∀ k, k ≠ 14 → k ≠ 15 → I2 k = I k) ∧ ∀ k, k ≠ 16 → S2 k = S k
theorem mg_o.tr {S S1 S2 : Nat → Int32} {I I1 I2 : mo_I} (h : mg_o S I S1 I1) (h1 : mg_o S1 I1 S2 I2) : mg_o S I S2 I2 := ⟨fun k a b => (h1.1 k a b).trans (h.1 k a b), fun k a => (h1.2 k a).trans (h.2 k a)⟩
theorem mg_o.ma {S S1 : Nat → Int32} {I I1 : mo_I} {J : mo_J} {b0 nv pb np : Nat} (h : mg_o S I S1 I1) : ma I J I1 J b0 nv pb np := ma_other (fun k hk => h.1 k (by omega) (by omega))
theorem d_Mo_member_0 : decode b_Mo_member 0 = .ok (.iconst 0, 1) := by decide +kernel
theorem d_Mo_member_1 : decode b_Mo_member 1 = .ok (.istore_n 3, 1) := by decide +kernel
theorem d_Mo_member_2 : decode b_Mo_member 2 = .ok (.iload_n 3, 1) := by decide +kernel
theorem d_Mo_member_3 : decode b_Mo_member 3 = .ok (.aload_n 0, 1) := by decide +kernel
theorem d_Mo_member_4 : decode b_Mo_member 4 = .ok (.getfield 156, 3) := by decide +kernel
theorem d_Mo_member_7 : decode b_Mo_member 7 = .ok (.if_icmp .ge 31, 3) := by decide +kernel
theorem d_Mo_member_10 : decode b_Mo_member 10 = .ok (.aload_n 0, 1) := by decide +kernel
theorem d_Mo_member_11 : decode b_Mo_member 11 = .ok (.aload_n 0, 1) := by decide +kernel
theorem d_Mo_member_12 : decode b_Mo_member 12 = .ok (.getfield 47, 3) := by decide +kernel
theorem d_Mo_member_15 : decode b_Mo_member 15 = .ok (.iload_n 3, 1) := by decide +kernel
theorem d_Mo_member_16 : decode b_Mo_member 16 = .ok (.iaload, 1) := by decide +kernel
theorem d_Mo_member_17 : decode b_Mo_member 17 = .ok (.iload_n 1, 1) := by decide +kernel
theorem d_Mo_member_18 : decode b_Mo_member 18 = .ok (.invokevirtual 153, 3) := by decide +kernel
theorem d_Mo_member_21 : decode b_Mo_member 21 = .ok (.ifCond .ne 11, 3) := by decide +kernel
theorem d_Mo_member_24 : decode b_Mo_member 24 = .ok (.aload_n 0, 1) := by decide +kernel
theorem d_Mo_member_25 : decode b_Mo_member 25 = .ok (.getfield 44, 3) := by decide +kernel
theorem d_Mo_member_28 : decode b_Mo_member 28 = .ok (.iload_n 3, 1) := by decide +kernel
theorem d_Mo_member_29 : decode b_Mo_member 29 = .ok (.iload_n 2, 1) := by decide +kernel
theorem d_Mo_member_30 : decode b_Mo_member 30 = .ok (.iastore, 1) := by decide +kernel
theorem d_Mo_member_31 : decode b_Mo_member 31 = .ok (.return_, 1) := by decide +kernel
theorem d_Mo_member_32 : decode b_Mo_member 32 = .ok (.iinc 3 1, 3) := by decide +kernel
theorem d_Mo_member_35 : decode b_Mo_member 35 = .ok (.goto (-33), 3) := by decide +kernel
theorem d_Mo_member_38 : decode b_Mo_member 38 = .ok (.aload_n 0, 1) := by decide +kernel
theorem d_Mo_member_39 : decode b_Mo_member 39 = .ok (.getfield 47, 3) := by decide +kernel
theorem d_Mo_member_42 : decode b_Mo_member 42 = .ok (.aload_n 0, 1) := by decide +kernel
theorem d_Mo_member_43 : decode b_Mo_member 43 = .ok (.getfield 156, 3) := by decide +kernel
theorem d_Mo_member_46 : decode b_Mo_member 46 = .ok (.iload_n 1, 1) := by decide +kernel
theorem d_Mo_member_47 : decode b_Mo_member 47 = .ok (.iastore, 1) := by decide +kernel
theorem d_Mo_member_48 : decode b_Mo_member 48 = .ok (.aload_n 0, 1) := by decide +kernel
theorem d_Mo_member_49 : decode b_Mo_member 49 = .ok (.getfield 44, 3) := by decide +kernel
theorem d_Mo_member_52 : decode b_Mo_member 52 = .ok (.aload_n 0, 1) := by decide +kernel
theorem d_Mo_member_53 : decode b_Mo_member 53 = .ok (.getfield 156, 3) := by decide +kernel
theorem d_Mo_member_56 : decode b_Mo_member 56 = .ok (.iload_n 2, 1) := by decide +kernel
theorem d_Mo_member_57 : decode b_Mo_member 57 = .ok (.iastore, 1) := by decide +kernel
theorem d_Mo_member_58 : decode b_Mo_member 58 = .ok (.aload_n 0, 1) := by decide +kernel
theorem d_Mo_member_59 : decode b_Mo_member 59 = .ok (.dup, 1) := by decide +kernel
theorem d_Mo_member_60 : decode b_Mo_member 60 = .ok (.getfield 156, 3) := by decide +kernel
theorem d_Mo_member_63 : decode b_Mo_member 63 = .ok (.iconst 1, 1) := by decide +kernel
theorem d_Mo_member_64 : decode b_Mo_member 64 = .ok (.iadd, 1) := by decide +kernel
theorem d_Mo_member_65 : decode b_Mo_member 65 = .ok (.putfield 156, 3) := by decide +kernel
theorem d_Mo_member_68 : decode b_Mo_member 68 = .ok (.return_, 1) := by decide +kernel
set_option maxHeartbeats 4000000 in
set_option maxRecDepth 100000 in
theorem c_Mo_member (l : Launch) (E : gh_E) (sz : Nat) (f : gh_F) (a : Nat) (ad : Nat → Nat) (S : Nat → Int32) (I : Nat → Nat → Int32) (J : Nat → Nat → Int64) (b0 nv pb np y v : Nat) (ks : List (List Int32)) (xs : List vt) (LL : List Int32) (Xv : vt) (hX : mo_R E f a ad S I J) (hg : mg S I J b0 nv pb np ks xs) (he : ks.length = xs.length) (hx32 : xs.length < 32) (hv : mw I J b0 nv pb np v Xv) (hy : mv_S I J b0 nv y LL) (hLL : lt_ok LL) (hp8 : np ≤ 8800) : gh_M l y_Mo_member b_Mo_member 4 none E sz [.ref a, .int (nI y), .int (nI v)] f { frames := 5, cells := 0, slots := 0, locals := 140 } (fun r g => r = none ∧ ∃ S2 I2, mo_X E f g a ad S2 I2 J ∧ mg S2 I2 J b0 nv pb np (vt_pu (ks, xs) LL Xv).1 (vt_pu (ks, xs) LL Xv).2 ∧ mg_o S I S2 I2) := by
  have hgc := hg
  obtain ⟨B, K, hS16, hx32_, hkx, hB, hK_⟩ := hgc
  have hK : ∀ j, j < xs.length → I 15 j = nI (K j) ∧ mv_S I J b0 nv (K j) (ks.getD j []) ∧ lt_ok (ks.getD j []) := fun j hj => hK_ j (by omega)
  refine gh_open (by decide) (Nat.le_of_ble_eq_true rfl) ?_
  intro p e s m args below meth c A ls hAe C V hr hlocks hname hl
  have hx := C.1
  have hb := C.2.1
  have hl : lv_has ls 4 [(0, .ref a), (1, .int (nI y)), (2, .int (nI v))] := hl
  have X : mo_X E f f a ad S I J := ⟨hX, gh_fr.rf⟩
  refine lv_iconst (v := 0) hx hb d_Mo_member_0 (by decide) ?_
  refine lv_istore_n hx hb d_Mo_member_1 rfl hl (by decide) rfl (fun ls hl => ?_)
  have hl : lv_has ls 4 [(3, .int 0), (0, .ref a), (1, .int (nI y)), (2, .int (nI v))] := hl
  have hl : lv_has ls 4 [(3, .int 0), (0, .ref a), (1, .int (nI y)), (2, .int (nI v))] := lv_sub hl [0, 1, 2, 3] rfl
  have hl : lv_has ls 4 [(3, .int (nI 0)), (0, .ref a), (1, .int (nI y)), (2, .int (nI v))] := hl
  have loop : ∀ (n9 i9 : Nat) (H : Heap) (locs : List Loc) (ls : Array Slot), i9 + n9 = xs.length → (vt_fd ks LL n9 i9 = vt_find ks LL) → gh_V E A f s H locs → lv_has ls 4 [(3, .int (nI i9)), (0, .ref a), (1, .int (nI y)), (2, .int (nI v))] → W p l e { frames := 5, cells := 0, slots := 0, locals := 140 } s m args below meth c H locs 0 0 (MQ below (gh_Q E f (fun r g => r = none ∧ ∃ S2 I2, mo_X E f g a ad S2 I2 J ∧ mg S2 I2 J b0 nv pb np (vt_pu (ks, xs) LL Xv).1 (vt_pu (ks, xs) LL Xv).2 ∧ mg_o S I S2 I2)) args s 0 0 A) (F0 m 2 ls []) := by
    intro n9
    induction n9 with
    | zero =>
      intro i9 H locs ls hi hst V hl
      refine lv_iload_n hx hb d_Mo_member_2 rfl (lv_at hl 0 rfl) ?_
      refine lv_aload_n hx hb d_Mo_member_3 rfl (lv_at hl 1 rfl) ?_
      refine mo_getS (v := nI (xs.length)) C V X 16 (by decide) (by decide) (by first | rfl | exact hS16) f_Mo_156 rfl d_Mo_member_4 ?_
      refine lv_icmp_ge (tgt := 38) hx hb d_Mo_member_7 (by decide) (fun c1 => ?_) (fun c1 => absurd (nI_le (by omega) (by omega)) c1)
      refine lv_aload_n hx hb d_Mo_member_38 rfl (lv_at hl 1 rfl) ?_
      refine mo_getA C V X 15 (by decide) (by decide) f_Mo_47 rfl d_Mo_member_39 ?_
      refine lv_aload_n hx hb d_Mo_member_42 rfl (lv_at hl 1 rfl) ?_
      refine mo_getS (v := nI (xs.length)) C V X 16 (by decide) (by decide) (by first | rfl | exact hS16) f_Mo_156 rfl d_Mo_member_43 ?_
      refine lv_iload_n hx hb d_Mo_member_46 rfl (lv_at hl 2 rfl) ?_
      refine mo_ist (k := 15) (i := xs.length) (n := 32) C V X (by decide) (by decide) rfl (by omega) (by decide) d_Mo_member_47 (fun f1 H locs V1 X1 => ?_)
      clear V X
      have V := V1
      have X := X1
      clear V1 X1
      refine lv_aload_n hx hb d_Mo_member_48 rfl (lv_at hl 1 rfl) ?_
      refine mo_getA C V X 14 (by decide) (by decide) f_Mo_44 rfl d_Mo_member_49 ?_
      refine lv_aload_n hx hb d_Mo_member_52 rfl (lv_at hl 1 rfl) ?_
      refine mo_getS (v := nI (xs.length)) C V X 16 (by decide) (by decide) (by first | rfl | exact hS16) f_Mo_156 rfl d_Mo_member_53 ?_
      refine lv_iload_n hx hb d_Mo_member_56 rfl (lv_at hl 3 rfl) ?_
      refine mo_ist (k := 14) (i := xs.length) (n := 32) C V X (by decide) (by decide) rfl (by omega) (by decide) d_Mo_member_57 (fun f1 H locs V1 X1 => ?_)
      clear V X
      have V := V1
      have X := X1
      clear V1 X1
      refine lv_aload_n hx hb d_Mo_member_58 rfl (lv_at hl 1 rfl) ?_
      refine lv_dup hx hb d_Mo_member_59 rfl ?_
      refine mo_getS (v := nI (xs.length)) C V X 16 (by decide) (by decide) (by first | rfl | exact hS16) f_Mo_156 rfl d_Mo_member_60 ?_
      refine lv_iconst (v := 1) hx hb d_Mo_member_63 (by decide) ?_
      refine gn_iadd (a := xs.length) (b := 1) hx hb d_Mo_member_64 ?_
      refine mo_putS C V X 16 (by decide) (by decide) f_Mo_156 rfl rfl rfl d_Mo_member_65 (fun f1 H locs V1 X1 => ?_)
      clear V X
      have V := V1
      have X := X1
      clear V1 X1
      refine gh_retv hAe C V hr hlocks d_Mo_member_68 (by first | decide | omega | (dsimp only; omega)) (by first | decide | omega | (dsimp only; omega)) ?_
      have hF : vt_find ks LL = none := by rw [← hst]; rfl
      have hpu : vt_pu (ks, xs) LL Xv = (ks ++ [LL], xs ++ [Xv]) := by unfold vt_pu; rw [show vt_find (ks, xs).1 LL = none from hF]
      rw [hpu]
      exact ⟨rfl, _, _, X, mg.new hg he hx32 hv hy hLL hp8, fun k h1 h2 => by rw [va_up_n h1, va_up_n h2], fun k h1 => va_up_n h1⟩
    | succ n9 ih =>
      intro i9 H locs ls hi hst V hl
      refine lv_iload_n hx hb d_Mo_member_2 rfl (lv_at hl 0 rfl) ?_
      refine lv_aload_n hx hb d_Mo_member_3 rfl (lv_at hl 1 rfl) ?_
      refine mo_getS (v := nI (xs.length)) C V X 16 (by decide) (by decide) (by first | rfl | exact hS16) f_Mo_156 rfl d_Mo_member_4 ?_
      refine lv_icmp_ge (tgt := 38) hx hb d_Mo_member_7 (by decide) (fun c2 => absurd c2 (nI_ge (by omega) (by omega))) (fun c2 => ?_)
      refine lv_aload_n hx hb d_Mo_member_10 rfl (lv_at hl 1 rfl) ?_
      refine lv_aload_n hx hb d_Mo_member_11 rfl (lv_at hl 1 rfl) ?_
      refine mo_getA C V X 15 (by decide) (by decide) f_Mo_47 rfl d_Mo_member_12 ?_
      refine lv_iload_n hx hb d_Mo_member_15 rfl (lv_at hl 0 rfl) ?_
      refine mo_ild (k := 15) (i := i9) (n := 32) C V X (by decide) (by decide) rfl (by omega) (by decide) d_Mo_member_16 ?_
      rw [show I 15 i9 = nI (K i9) from (hK i9 (by omega)).1]
      refine lv_iload_n hx hb d_Mo_member_17 rfl (lv_at hl 2 rfl) ?_
      refine gh_callV C V hl.1 m_Mo_compareLetters l_Mo_153 (c_Mo_compareLetters l E _ _ a ad _ _ _ (K i9) y (ks.getD i9 []) LL X.1 (hK i9 (by omega)).2.1.1.2 hy.1.2 (hK i9 (by omega)).2.1.2.2.2.1 hy.2.2.2.1 (hK i9 (by omega)).2.1.2.2.2.2.1 hy.2.2.2.2.1) rfl X.1.1 gc_Mo ⟨by first | decide | omega | (dsimp only; omega), by first | decide | omega | (dsimp only; omega)⟩ ⟨by first | decide | omega | (dsimp only; omega), by first | decide | omega | (dsimp only; omega)⟩ (Nat.le_of_ble_eq_true rfl) rfl d_Mo_member_18 (fun r z9 H locs hp V1 => ?_)
      obtain ⟨rfl, he9⟩ := hp
      rw [he9] at V1
      have V := V1
      refine W.eq (g2 := F0 m 21 ls [.int (vt_ord (ks.getD i9 []) LL)]) rfl ?_
      refine lv_if_ne (tgt := 32) hx hb d_Mo_member_21 (by decide) (fun c3 => ?_) (fun c3 => ?_)
      · refine lv_iinc (k := 0) (v := (nI i9) + 1) hx hb d_Mo_member_32 hl rfl (by rfl) (by decide) rfl (fun ls hl => ?_)
        have hl : lv_has ls 4 [(3, .int (nI (i9 + 1))), (0, .ref a), (1, .int (nI y)), (2, .int (nI v))] := by rw [nI_succ]; exact hl
        refine lv_goto (tgt := 2) hx hb d_Mo_member_35 (by decide) ?_
        have hl : lv_has ls 4 [(3, .int (nI (i9 + 1))), (0, .ref a), (1, .int (nI y)), (2, .int (nI v))] := lv_sub hl [0, 1, 2, 3] rfl
        have hl : lv_has ls 4 [(3, .int (nI (i9 + 1))), (0, .ref a), (1, .int (nI y)), (2, .int (nI v))] := hl
        exact ih (i9 + 1) H locs ls (by omega) (by rw [← hst, vt_fd, if_neg (by assumption)]) V hl
      · refine lv_aload_n hx hb d_Mo_member_24 rfl (lv_at hl 1 rfl) ?_
        refine mo_getA C V X 14 (by decide) (by decide) f_Mo_44 rfl d_Mo_member_25 ?_
        refine lv_iload_n hx hb d_Mo_member_28 rfl (lv_at hl 0 rfl) ?_
        refine lv_iload_n hx hb d_Mo_member_29 rfl (lv_at hl 3 rfl) ?_
        refine mo_ist (k := 14) (i := i9) (n := 32) C V X (by decide) (by decide) rfl (by omega) (by decide) d_Mo_member_30 (fun f1 H locs V1 X1 => ?_)
        clear V X
        have V := V1
        have X := X1
        clear V1 X1
        refine gh_retv hAe C V hr hlocks d_Mo_member_31 (by first | decide | omega | (dsimp only; omega)) (by first | decide | omega | (dsimp only; omega)) ?_
        have hF : vt_find ks LL = some i9 := by rw [← hst, vt_fd, if_pos (by assumption)]
        have hpu : vt_pu (ks, xs) LL Xv = (ks, xs.set i9 Xv) := by unfold vt_pu; rw [show vt_find (ks, xs).1 LL = some i9 from hF]
        rw [hpu]
        exact ⟨rfl, _, _, X, mg.again hg (by omega) hv hp8, fun k h1 h2 => va_up_n h1, fun k h1 => rfl⟩
  exact loop (xs.length) 0 _ _ ls (by omega) (by unfold vt_find; rw [he]) V hl
