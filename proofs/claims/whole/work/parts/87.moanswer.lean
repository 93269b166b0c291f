/-! How the model answers: a value or a failure; what else stays. -/
/-- the parts' state, the query, what was put out have stayed -/
def mo_un (S : Nat → Int32) (I : mo_I) (S2 : Nat → Int32) (I2 : mo_I) : Prop := (∀ k, k ≠ 11 → k ≠ 12 → k ≠ 16 → k ≠ 45 → k ≠ 46 → k ≠ 47 → S2 k = S k) ∧ ∀ k, (33 ≤ k ∧ k ≤ 44) ∨ k = 50 ∨ k = 19 ∨ k = 29 → I2 k = I k
theorem mo_un.rf {S : Nat → Int32} {I : mo_I} : mo_un S I S I := ⟨fun _ _ _ _ _ _ _ => rfl, fun _ _ => rfl⟩
theorem mo_un.tr {S S1 S2 : Nat → Int32} {I I1 I2 : mo_I} (h : mo_un S I S1 I1) (h1 : mo_un S1 I1 S2 I2) : mo_un S I S2 I2 := ⟨fun k a b c d e f => (h1.1 k a b c d e f).trans (h.1 k a b c d e f), fun k a => (h1.2 k a).trans (h.2 k a)⟩
theorem mg_o.un {S S2 : Nat → Int32} {I I2 : mo_I} (h : mg_o S I S2 I2) : mo_un S I S2 I2 := ⟨fun k _ _ h16 _ _ _ => h.2 k h16, fun k hk => h.1 k (by omega) (by omega)⟩
def mr_A (o : Option vt) (S : Nat → Int32) (I : mo_I) (J : mo_J) (b0 nv pb np wt : Nat) (S2 : Nat → Int32) (I2 : mo_I) (J2 : mo_J) : Prop := mo_un S I S2 I2 ∧ ma I J I2 J2 b0 nv pb np ∧ S2 45 = nI wt ∧ ∃ nv2 np2, (nv ≤ nv2 ∧ nv2 ≤ nv + 1 ∧ np ≤ np2 ∧ np2 ≤ np + 32 ∧ np2 ≤ 8800) ∧ S2 11 = nI nv2 ∧ S2 12 = nI np2 ∧ match o with
  | none => S2 46 = 3
  | some Z => S2 46 = 1 ∧ ∃ u, S2 47 = nI u ∧ mw I2 J2 b0 nv2 pb np2 u Z
/-- a value that was there is given -/
theorem mr_give {S : Nat → Int32} {I : mo_I} {J : mo_J} {b0 nv pb np wt u : Nat} {Z : vt} (h11 : S 11 = nI nv) (h12 : S 12 = nI np) (hp8 : np ≤ 8800) (hu : mw I J b0 nv pb np u Z) : mr_A (some Z) S I J b0 nv pb np wt (va_up (va_up (va_up S 47 (nI u)) 45 (nI wt)) 46 1) I J := by
  refine ⟨⟨fun k _ _ _ h45 h46 h47 => by rw [va_up_n h46, va_up_n h45, va_up_n h47], fun _ _ => rfl⟩, ma.rf, by rw [va_up_n (by decide), va_up_s], nv, np, ⟨Nat.le_refl _, Nat.le_succ _, Nat.le_refl _, Nat.le_add_right _ _, hp8⟩, ?_, ?_, ?_, u, ?_, hu⟩
  · rw [va_up_n (by decide), va_up_n (by decide), va_up_n (by decide)]; exact h11
  · rw [va_up_n (by decide), va_up_n (by decide), va_up_n (by decide)]; exact h12
  · rw [va_up_s]
  · rw [va_up_n (by decide), va_up_n (by decide), va_up_s]
theorem mr_fail {S : Nat → Int32} {I : mo_I} {J : mo_J} {b0 nv pb np wt : Nat} (h11 : S 11 = nI nv) (h12 : S 12 = nI np) (hp8 : np ≤ 8800) : mr_A none S I J b0 nv pb np wt (va_up (va_up S 45 (nI wt)) 46 3) I J := by
  refine ⟨⟨fun k _ _ _ h45 h46 _ => by rw [va_up_n h46, va_up_n h45], fun _ _ => rfl⟩, ma.rf, by rw [va_up_n (by decide), va_up_s], nv, np, ⟨Nat.le_refl _, Nat.le_succ _, Nat.le_refl _, Nat.le_add_right _ _, hp8⟩, ?_, ?_, ?_⟩
  · rw [va_up_n (by decide), va_up_n (by decide)]; exact h11
  · rw [va_up_n (by decide), va_up_n (by decide)]; exact h12
  · show va_up (va_up S 45 (nI wt)) 46 3 46 = 3
    rw [va_up_s]
/-- something was made first -/
theorem mr_A.from {o : Option vt} {S S1 S2 : Nat → Int32} {I I1 I2 : mo_I} {J J1 J2 : mo_J} {b0 nv nv1 pb np np1 wt : Nat} (hu : mo_un S I S1 I1) (hm : ma I J I1 J1 b0 nv pb np) (h : mr_A o S1 I1 J1 b0 nv1 pb np1 wt S2 I2 J2) (hn : nv ≤ nv1) (hp : np ≤ np1) (hb : ∀ n2 p2, nv1 ≤ n2 → p2 ≤ 8800 → S2 11 = nI n2 → S2 12 = nI p2 → n2 ≤ 760 → n2 ≤ nv + 1 ∧ p2 ≤ np + 32) (h7 : nv1 + 1 ≤ 760) : mr_A o S I J b0 nv pb np wt S2 I2 J2 := by
  obtain ⟨h1, h2, h3, n2, p2, ⟨g1, g2, g3, g4, g5⟩, h4, h5, h6⟩ := h
  have hb2 := hb n2 p2 g1 g5 h4 h5 (by omega)
  exact ⟨hu.tr h1, hm.tr h2 hn hp, h3, n2, p2, ⟨by omega, hb2.1, by omega, hb2.2, g5⟩, h4, h5, h6⟩
/-- what seal has made -/
theorem mw_seal {S : Nat → Int32} {I I2 : mo_I} {J J2 : mo_J} {b0 nv pb np ky np2 : Nat} {ks ks2 : List (List Int32)} {xs : List vt} (hg : mg S I J b0 nv pb np ks xs) (hm : ma I J I2 J2 b0 nv pb np) (h : I2 1 nv = nI ky ∧ I2 3 nv = nI xs.length ∧ I2 4 nv = nI (vt_wsum xs) ∧ I2 5 nv = nI (vt_hmax xs + 1) ∧ I2 9 nv = nI np ∧ (∀ j, j < xs.length → I2 10 (np + j) = I 14 j ∧ I2 10 (np + xs.length + j) = I 15 j) ∧ J2 2 nv = 0 ∧ J2 6 nv = 0 ∧ J2 7 nv = 0 ∧ J2 8 nv = 0) (hk : ky = 5 ∧ ks2 = [] ∨ ky = 6 ∧ ks2 = ks ∧ ks.length = xs.length) (hb : b0 ≤ nv) (hv : nv < 760) (hpb : pb ≤ np) (hp2 : np2 = np + (if ky = 6 then 2 else 1) * xs.length) (hp8 : np2 ≤ 8800) (hx : xs.length ≤ 16) (hw : vt_wsum xs ≤ 100) (hh : vt_hmax xs ≤ 7) : mw I2 J2 b0 (nv + 1) pb np2 nv (vt_m ky ks2 xs) := by
  obtain ⟨B, K, -, -, -, hB, hK⟩ := hg
  obtain ⟨h1, h3, h4, h5, h9, h10, j2, j6, j7, j8⟩ := h
  have hnp : np ≤ np2 := by omega
  have hln : vt_ln (vt_m ky ks2 xs) = xs.length := by
    show (if ky = 4 then 0 else xs.length) = xs.length
    rw [if_neg (by omega)]
  have hql : np + xs.length + ks2.length ≤ np2 := by
    rcases hk with ⟨h, h'⟩ | ⟨h, h', h''⟩
    · rw [hp2, h, h', if_neg (by decide)]; simp
    · rw [hp2, h, h', h'', if_pos rfl]; omega
  refine ⟨mv_o.mpr ⟨⟨Or.inr ⟨hb, by omega⟩, hv⟩, h1, j2, by rw [hln]; exact h3, ml_0 j6 j7 j8, h4, h5, fun _ => ⟨np, B, K, h9, ⟨hpb, hql, hp8⟩, fun j hj => ⟨(h10 j hj).1.trans (hB j hj).1, ?_⟩, fun j hj => ?_⟩⟩, vo_o.mpr ⟨?_, fun _ => rfl, fun _ => rfl, lt_ok0, ?_, ?_, hx, hw, ⟨hh, fun z => by have z : xs.length = 0 := z; rw [List.length_eq_zero_iff.mp z]; rfl⟩, ?_, fun j hj => ?_, fun j hj => ⟨vt_hmax_lt hj, (hB j hj).2.2.down (Nat.lt_of_lt_of_le (vt_hmax_lt hj) hh)⟩⟩⟩
  · exact (mv.down (hB j hj).2.1 (hB j hj).2.2 (Nat.lt_of_lt_of_le (vt_hmax_lt hj) hh)).keep hm (Nat.le_succ _) hnp hp8
  · rcases hk with ⟨h, h'⟩ | ⟨h, h', h''⟩
    · subst h'; exact absurd hj (Nat.not_lt_zero j)
    · subst h'
      have hj2 : j < ks2.length := hj
      exact ⟨(h10 j (by omega)).2.trans (hK j hj2).1, (hK j hj2).2.1.keep hm (Nat.le_succ _)⟩
  · show ky ≤ 6; omega
  · show ks2.length = if ky = 6 then xs.length else 0
    rcases hk with ⟨h, h'⟩ | ⟨h, h', h''⟩
    · subst h; subst h'; rfl
    · subst h; subst h'; rw [if_pos rfl]; exact h''
  · intro h
    have h : ky < 5 := h
    omega
  · show vt_wsum xs = vt_ws (vt_m ky ks2 xs) xs.length
    rw [vt_ws_take _ (Nat.le_refl _), List.take_length]
  · rcases hk with ⟨h, h'⟩ | ⟨h, h', h''⟩
    · subst h'; exact absurd hj (Nat.not_lt_zero j)
    · subst h'; exact (hK j hj).2.2
