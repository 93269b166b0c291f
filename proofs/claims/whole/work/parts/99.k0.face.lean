/-! The machine's face: its cells, and what stays of them. -/
/-- what the machine may write -/
def qf_M (ρ : Nat → Nat) : Nat → Prop := fun b => (1 ≤ ρ b ∧ ρ b ≤ 17) ∨ (100 ≤ ρ b ∧ ρ b < 166) ∨ (1000 ≤ ρ b ∧ ρ b < 1250)
def qf_6 (Z : Nat → Nat) (f : gh_F) (n dc q0 q1 : Nat) : Prop := f (Z 6) = some (.inr (0, [.ref (Z 7), .int (nI n), .ref (Z 8), .ref (Z 10), .ref (Z 1), .ref dc, .ref (Z q0), .ref (Z q1)]))
def qf_r (Z : Nat → Nat) (f : gh_F) (bd : Int32) : Prop := ∃ (tv : Value) (i1 i2 : Int32), f (Z 8) = some (.inr (3, [.ref (Z 200), .ref (Z 208), .ref (Z 9), tv, .int i1, .int i2, .int bd]))
def qf_9 (E : gh_E) (Z : Nat → Nat) (f : gh_F) : Prop := ∃ h : Nat → Int32, f (Z 9) = some (.inl (E.2.2.1 2, 24, .inl h))
def qf_w (E : gh_E) (Z : Nat → Nat) (f : gh_F) : Prop := ∃ (wt : Int32) (st : Nat × Int32), wS E f (Z 10) (Z 11) wt st
def qf_u (Z : Nat → Nat) (f : gh_F) (φ k : Nat) (en : Int32) : Prop := ∃ (qv : Value) (b0 : Nat), f (Z 1) = some (.inr (4, [.ref (Z 200), .ref (Z 206), .ref (Z 207), .ref (Z 2), qv, .int (nI b0), .int (nI φ), .int (nI k), .int en]))
def qf_q (E : gh_E) (Z : Nat → Nat) (f : gh_F) (q1 N1 : Nat) (cb1 bg1 : Nat → Nat) : Prop := f (Z q1) = some (.inr (2, [.ref (Z (q1 + 1)), .ref (Z (q1 + 2)), .int (nI N1)])) ∧ f (Z (q1 + 1)) = some (.inl (E.2.2.1 0, 60, .inl (fun j => nI (cb1 j)))) ∧ f (Z (q1 + 2)) = some (.inl (E.2.2.1 0, 180, .inl (fun j => nI (bg1 j))))
def qf_p (q0 q1 N : Nat) (cb bg : Nat → Nat) (N1 : Nat) (cb1 : Nat → Nat) : Prop := qn cb bg N 13 0 N ∧ (∀ j, cb j < 256) ∧ (q0 = 12 ∧ q1 = 15 ∨ q0 = 15 ∧ q1 = 12) ∧ N1 ≤ 60 ∧ ∀ j, cb1 j < 256
/-- the machine: text tx of n characters, bad place, document dc showing X, queries q0 and q1, fuel left, how it ended, what was put out -/
def qf_A (E : gh_E) (ρ Z : Nat → Nat) (f : gh_F) (tx : Nat → Nat) (n : Nat) (bd : Int32) (dc : Nat) (X : vt) (q0 q1 N : Nat) (cb bg : Nat → Nat) (N1 : Nat) (cb1 bg1 : Nat → Nat) (φ : Nat) (en : Int32) (xs : List vt) : Prop :=
  qf_6 Z f n dc q0 q1 ∧ re_K E ρ Z tx n f ∧ qf_r Z f bd ∧ qf_9 E Z f ∧ re_G E ρ Z f ∧ qf_w E Z f ∧ qf_u Z f φ xs.length en ∧ rn_K E ρ Z f q0 N cb bg ∧ rn_G E ρ Z f ∧ rn_S Z f ∧ rn_P E ρ Z f xs ∧ cw E (rP ρ) f dc X ∧ qf_q E Z f q1 N1 cb1 bg1 ∧ qf_p q0 q1 N cb bg N1 cb1
section QF
variable {E : gh_E} {ρ Z : Nat → Nat} {f g : gh_F} {M : Nat → Prop}
/-- a role that isn't written -/
theorem qf_no (hz : rZ ρ Z) {r : Nat} (hr : rU r) (h : ∀ b, M b → ρ b ≠ r) : ¬ M (Z r) := fun z => h _ z (hz r hr)
theorem qf_6.keep {n dc q0 q1 : Nat} (h : qf_6 Z f n dc q0 q1) (hz : rZ ρ Z) (hfr : gh_fr f g M) (hM : ∀ b, M b → ρ b ≠ 6) : qf_6 Z g n dc q0 q1 := hfr.at h (qf_no hz (by unfold rU; omega) hM)
theorem qf_r.keep {bd : Int32} (h : qf_r Z f bd) (hz : rZ ρ Z) (hfr : gh_fr f g M) (hM : ∀ b, M b → ρ b ≠ 8) : qf_r Z g bd := by
  obtain ⟨tv, i1, i2, h⟩ := h
  exact ⟨tv, i1, i2, hfr.at h (qf_no hz (by unfold rU; omega) hM)⟩
theorem qf_9.keep (h : qf_9 E Z f) (hz : rZ ρ Z) (hfr : gh_fr f g M) (hM : ∀ b, M b → ρ b ≠ 9) : qf_9 E Z g := by
  obtain ⟨hh, h⟩ := h
  exact ⟨hh, hfr.at h (qf_no hz (by unfold rU; omega) hM)⟩
theorem qf_w.keep (h : qf_w E Z f) (hz : rZ ρ Z) (hfr : gh_fr f g M) (hM : ∀ b, M b → ρ b ≠ 10 ∧ ρ b ≠ 11) : qf_w E Z g := by
  obtain ⟨wt, st, h1, hh, h2⟩ := h
  exact ⟨wt, st, hfr.at h1 (qf_no hz (by unfold rU; omega) (fun b hb => (hM b hb).1)), hh, hfr.at h2 (qf_no hz (by unfold rU; omega) (fun b hb => (hM b hb).2))⟩
theorem qf_u.keep {φ k : Nat} {en : Int32} (h : qf_u Z f φ k en) (hz : rZ ρ Z) (hfr : gh_fr f g M) (hM : ∀ b, M b → ρ b ≠ 1) : qf_u Z g φ k en := by
  obtain ⟨qv, b0, h⟩ := h
  exact ⟨qv, b0, hfr.at h (qf_no hz (by unfold rU; omega) hM)⟩
theorem rn_S.keep (h : rn_S Z f) (hz : rZ ρ Z) (hfr : gh_fr f g M) (hM : ∀ b, M b → ¬ (1000 ≤ ρ b ∧ ρ b < 1250)) : rn_S Z g := by
  intro j hj
  obtain ⟨x0, x1, x2, x3, x4, x5, x6, x7, x8, h⟩ := h j hj
  exact ⟨x0, x1, x2, x3, x4, x5, x6, x7, x8, hfr.at h (qf_no hz (by unfold rU; omega) (fun b hb => by have := hM b hb; omega))⟩
theorem qf_q.keep {q1 N1 : Nat} {cb1 bg1 : Nat → Nat} (h : qf_q E Z f q1 N1 cb1 bg1) (hq : q1 = 12 ∨ q1 = 15) (hz : rZ ρ Z) (hfr : gh_fr f g M) (hM : ∀ b, M b → ρ b ≠ q1 ∧ ρ b ≠ q1 + 1 ∧ ρ b ≠ q1 + 2) : qf_q E Z g q1 N1 cb1 bg1 :=
  ⟨hfr.at h.1 (qf_no hz (by unfold rU; omega) (fun b hb => (hM b hb).1)), hfr.at h.2.1 (qf_no hz (by unfold rU; omega) (fun b hb => (hM b hb).2.1)), hfr.at h.2.2 (qf_no hz (by unfold rU; omega) (fun b hb => (hM b hb).2.2))⟩
theorem qf_p.q1 {q0 q1 N : Nat} {cb bg : Nat → Nat} {N1 : Nat} {cb1 : Nat → Nat} (h : qf_p q0 q1 N cb bg N1 cb1) : q1 = 12 ∨ q1 = 15 := by
  rcases h.2.2.1 with h | h
  · exact Or.inr h.2
  · exact Or.inl h.2
theorem rn_P.keep2 {xs : List vt} (h : rn_P E ρ Z f xs) (hz : rZ ρ Z) (hfr : gh_fr f g M) (hM : ∀ b, M b → ρ b ≠ 0 ∧ ρ b ≠ 2) : rn_P E ρ Z g xs := h.keep hfr (fun b hb => (hM b hb).1) (qf_no hz (by unfold rU; omega) (fun b hb => (hM b hb).2))
/-- nothing of the machine is written -/
theorem qf_A.keep {tx : Nat → Nat} {n : Nat} {bd : Int32} {dc : Nat} {X : vt} {q0 q1 N : Nat} {cb bg : Nat → Nat} {N1 : Nat} {cb1 bg1 : Nat → Nat} {φ : Nat} {en : Int32} {xs : List vt} (h : qf_A E ρ Z f tx n bd dc X q0 q1 N cb bg N1 cb1 bg1 φ en xs) (hfr : gh_fr f g M) (hM : ∀ b, M b → (18 ≤ ρ b ∧ ρ b < 100) ∨ (166 ≤ ρ b ∧ ρ b < 1000)) : qf_A E ρ Z g tx n bd dc X q0 q1 N cb bg N1 cb1 bg1 φ en xs := by
  obtain ⟨h6, hK, h8, h9, hG, hW, hU, hRK, hRG, hRS, hP, hD, hQ, hp⟩ := h
  have hz := hK.1
  have hq1 := hp.q1
  exact ⟨h6.keep hz hfr (fun b hb => by have := hM b hb; omega), hK.keep hfr (fun b hb => by have := hM b hb; omega), h8.keep hz hfr (fun b hb => by have := hM b hb; omega), h9.keep hz hfr (fun b hb => by have := hM b hb; omega), hG.keep hz hfr (fun b hb => by have := hM b hb; omega), hW.keep hz hfr (fun b hb => by have := hM b hb; omega), hU.keep hz hfr (fun b hb => by have := hM b hb; omega), hRK.keep hfr (fun b hb => by have := hM b hb; omega), hRG.keep hz hfr (fun b hb => by have := hM b hb; omega), hRS.keep hz hfr (fun b hb => by have := hM b hb; omega), hP.keep2 hz hfr (fun b hb => by have := hM b hb; omega), hD.keep hfr (fun b hb z => by have z : ρ b = 0 := z; have := hM b hb; omega), hQ.keep hq1 hz hfr (fun b hb => by have := hM b hb; omega), hp⟩
end QF
/-- a byte as the class takes it -/
theorem by_sh : ∀ k, k < 8 → ((nI (8 * k)).toInt64.toUInt64 &&& Int64.toUInt64 63).toNat = 8 * k := by decide +kernel
theorem by_cl {x : Int64} {k : Nat} (hk : k < 8) : ((x.toUInt64 >>> ((nI (8 * k)).toInt64.toUInt64 &&& Int64.toUInt64 63)).toInt64.toInt32 &&& 255) = nI (by_n x k) := by
  have hw : (x.toUInt64 >>> ((nI (8 * k)).toInt64.toUInt64 &&& Int64.toUInt64 63)).toNat = x.toBitVec.toNat / 2 ^ (8 * k) := by
    rw [UInt64.toNat_shiftRight, by_sh k hk, Nat.mod_eq_of_lt (by omega), Nat.shiftRight_eq_div_pow]
    rfl
  have hm : by_n x k = (x.toUInt64 >>> ((nI (8 * k)).toInt64.toUInt64 &&& Int64.toUInt64 63)).toNat % 256 := by rw [hw]; rfl
  generalize x.toUInt64 >>> ((nI (8 * k)).toInt64.toUInt64 &&& Int64.toUInt64 63) = y at hm
  rw [hm]
  apply Int32.toBitVec_inj.mp
  rw [Int32.toBitVec_and, Int64.toBitVec_toInt32]
  apply BitVec.eq_of_toNat_eq
  rw [BitVec.toNat_and, BitVec.signExtend_eq_setWidth_of_le _ (by decide), BitVec.toNat_setWidth]
  show y.toNat % 2 ^ 32 &&& 2 ^ 8 - 1 = (BitVec.ofNat 32 (y.toNat % 256)).toNat
  rw [Nat.and_two_pow_sub_one_eq_mod, BitVec.toNat_ofNat]
  omega
/-- every Int32 is a natural's -/
theorem nI_any (x : Int32) : ∃ n : Nat, x = nI n := ⟨x.toBitVec.toNat, by
  apply Int32.toBitVec_inj.mp
  apply BitVec.eq_of_toNat_eq
  show _ = (BitVec.ofNat 32 x.toBitVec.toNat).toNat
  rw [BitVec.toNat_ofNat, Nat.mod_eq_of_lt x.toBitVec.isLt]⟩
