/-! Answers with what was just made; the constants of the model. -/
def mc (I : mo_I) (J : mo_J) (b0 nv pb np : Nat) : Prop := mw I J b0 nv pb np 0 (vt_0 0) ∧ mw I J b0 nv pb np 1 (vt_0 1) ∧ mw I J b0 nv pb np 2 (vt_0 2) ∧ ∀ j, j < 26 → mv_S I J b0 nv (3 + j) [nI (97 + j)]
theorem mc.keep {I I1 : mo_I} {J J1 : mo_J} {b0 nv nv1 pb np np1 : Nat} (h : mc I J b0 nv pb np) (hm : ma I J I1 J1 b0 nv pb np) (hn : nv ≤ nv1) (hp : np ≤ np1) (hp8 : np1 ≤ 8800) : mc I1 J1 b0 nv1 pb np1 := ⟨h.1.keep hm hn hp hp8, h.2.1.keep hm hn hp hp8, h.2.2.1.keep hm hn hp hp8, fun j hj => (h.2.2.2 j hj).keep hm hn⟩
theorem mr_int {S S1 : Nat → Int32} {I I1 : mo_I} {J J1 : mo_J} {b0 nv pb np wt : Nat} {y : Int64} (h : mk_o S I J nv 3 y S1 I1 J1) (h12 : S 12 = nI np) (hb : b0 ≤ nv) (hv : nv < 760) (h29 : 29 ≤ nv) (hp8 : np ≤ 8800) : mr_A (some (vt_i y)) S I J b0 nv pb np wt (va_up (va_up (va_up S1 47 (nI nv)) 45 (nI wt)) 46 1) I1 J1 := by
  have e1 := h.1
  refine ⟨⟨fun k h11 _ _ h45 h46 h47 => by rw [va_up_n h46, va_up_n h45, va_up_n h47, e1, va_up_n h11], fun k hk => funext (fun j => h.2.1 k j (Or.inl (by omega)))⟩, h.ma h29, by rw [va_up_n (by decide), va_up_s], nv + 1, np, ⟨Nat.le_succ _, Nat.le_refl _, Nat.le_refl _, Nat.le_add_right _ _, hp8⟩, ?_, ?_, ?_, nv, ?_, h.int hb hv⟩
  · rw [va_up_n (by decide), va_up_n (by decide), va_up_n (by decide), e1, va_up_s]
  · rw [va_up_n (by decide), va_up_n (by decide), va_up_n (by decide), e1, va_up_n (by decide)]; exact h12
  · rw [va_up_s]
  · rw [va_up_n (by decide), va_up_n (by decide), va_up_s]
/-- what seal leaves, but for the value itself -/
def sl_o (S : Nat → Int32) (I : mo_I) (J : mo_J) (b0 nv pb np ky : Nat) (xs : List vt) (S2 : Nat → Int32) (I2 : mo_I) (J2 : mo_J) : Prop := ma I J I2 J2 b0 nv pb np ∧ S2 11 = nI (nv + 1) ∧ S2 12 = nI (np + (if ky = 6 then 2 else 1) * xs.length) ∧ (∀ k, k ≠ 11 → k ≠ 12 → S2 k = S k) ∧ (∀ k j, k ≠ 10 → (k ≠ 1 ∧ k ≠ 3 ∧ k ≠ 4 ∧ k ≠ 5 ∧ k ≠ 9) → I2 k j = I k j) ∧ (I2 1 nv = nI ky ∧ I2 3 nv = nI xs.length ∧ I2 4 nv = nI (vt_wsum xs) ∧ I2 5 nv = nI (vt_hmax xs + 1) ∧ I2 9 nv = nI np ∧ (∀ j, j < xs.length → I2 10 (np + j) = I 14 j ∧ I2 10 (np + xs.length + j) = I 15 j) ∧ J2 2 nv = 0 ∧ J2 6 nv = 0 ∧ J2 7 nv = 0 ∧ J2 8 nv = 0)
theorem sl_np {ky n : Nat} : (if ky = 6 then 2 else 1) * n ≤ 2 * n := by split <;> omega
theorem mr_seal {S0 S S1 : Nat → Int32} {I0 I I1 : mo_I} {J J1 : mo_J} {b0 nv pb np ky wt : Nat} {ks ks2 : List (List Int32)} {xs : List vt} (hu : mo_un S0 I0 S I) (hm : ma I0 J I J b0 nv pb np) (hg : mg S I J b0 nv pb np ks xs) (h : sl_o S I J b0 nv pb np ky xs S1 I1 J1) (hk : ky = 5 ∧ ks2 = [] ∨ ky = 6 ∧ ks2 = ks ∧ ks.length = xs.length) (hb : b0 ≤ nv) (hv : nv < 760) (hpb : pb ≤ np) (hp8 : np + 2 * xs.length ≤ 8800) (hx : xs.length ≤ 16) (hw : vt_wsum xs ≤ 100) (hh : vt_hmax xs ≤ 7) : mr_A (some (vt_m ky ks2 xs)) S0 I0 J b0 nv pb np wt (va_up (va_up (va_up S1 47 (nI nv)) 45 (nI wt)) 46 1) I1 J1 := by
  have hs := sl_np (ky := ky) (n := xs.length)
  refine ⟨hu.tr ⟨fun k h11 h12 _ h45 h46 h47 => by rw [va_up_n h46, va_up_n h45, va_up_n h47, h.2.2.2.1 k h11 h12], fun k hk => funext (fun j => h.2.2.2.2.1 k j (by omega) (by omega))⟩, hm.tr h.1 (Nat.le_refl _) (Nat.le_refl _), by rw [va_up_n (by decide), va_up_s], nv + 1, np + (if ky = 6 then 2 else 1) * xs.length, ⟨Nat.le_succ _, Nat.le_refl _, Nat.le_add_right _ _, by omega, by omega⟩, ?_, ?_, ?_, nv, ?_, mw_seal hg h.1 h.2.2.2.2.2 hk hb hv hpb rfl (by omega) hx hw hh⟩
  · rw [va_up_n (by decide), va_up_n (by decide), va_up_n (by decide)]; exact h.2.1
  · rw [va_up_n (by decide), va_up_n (by decide), va_up_n (by decide)]; exact h.2.2.1
  · rw [va_up_s]
  · rw [va_up_n (by decide), va_up_n (by decide), va_up_s]
theorem mr_sealF {S0 S S1 : Nat → Int32} {I0 I I1 : mo_I} {J J1 : mo_J} {b0 nv pb np ky wt : Nat} {xs : List vt} (hu : mo_un S0 I0 S I) (hm : ma I0 J I J b0 nv pb np) (h : sl_o S I J b0 nv pb np ky xs S1 I1 J1) (hp8 : np + 2 * xs.length ≤ 8800) (hx : xs.length ≤ 16) : mr_A none S0 I0 J b0 nv pb np wt (va_up (va_up S1 45 (nI wt)) 46 3) I1 J1 := by
  have hs := sl_np (ky := ky) (n := xs.length)
  refine ⟨hu.tr ⟨fun k h11 h12 _ h45 h46 h47 => by rw [va_up_n h46, va_up_n h45, h.2.2.2.1 k h11 h12], fun k hk => funext (fun j => h.2.2.2.2.1 k j (by omega) (by omega))⟩, hm.tr h.1 (Nat.le_refl _) (Nat.le_refl _), by rw [va_up_n (by decide), va_up_s], nv + 1, np + (if ky = 6 then 2 else 1) * xs.length, ⟨Nat.le_succ _, Nat.le_refl _, Nat.le_add_right _ _, by omega, by omega⟩, ?_, ?_, ?_⟩
  · rw [va_up_n (by decide), va_up_n (by decide)]; exact h.2.1
  · rw [va_up_n (by decide), va_up_n (by decide)]; exact h.2.2.1
  · show va_up (va_up S1 45 (nI wt)) 46 3 46 = 3
    rw [va_up_s]
