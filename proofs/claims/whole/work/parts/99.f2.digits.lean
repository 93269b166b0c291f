/-! The digits of a long. -/
def pv : Nat → Int64
  | 0 => 0
  | j + 1 => Int64.ofNat (10 ^ j)
theorem pv_step : ∀ j, j < 19 → pv (j + 1) / 10 = pv j := by decide +kernel
theorem pv_pos : ∀ j, j < 19 → ¬ lg_cmp (pv (j + 1)) 0 ≤ 0 := by decide +kernel
theorem pv_one : ∀ j, j < 19 → (lg_cmp (pv (j + 1)) 1 = 0 ↔ j = 0) := by decide +kernel
theorem pv_ne : ∀ j, j < 19 → ¬ pv (j + 1) = 0 := by decide +kernel
theorem pv_int : ∀ j, j < 19 → (pv (j + 1)).toInt = ((10 ^ j : Nat) : Int) := by decide +kernel
theorem td_rng {a b : Int} (hb : 1 ≤ b) (h1 : -9223372036854775808 ≤ a) (h2 : a < 9223372036854775808) : -9223372036854775808 ≤ a.tdiv b ∧ a.tdiv b < 9223372036854775808 := by
  by_cases h : 0 ≤ a
  · rw [Int.tdiv_eq_ediv_of_nonneg h]
    have h3 := Int.ediv_nonneg h (show 0 ≤ b by omega)
    have h4 := Int.ediv_le_self b h
    omega
  · have e : a.tdiv b = -((-a) / b) := by
      rw [← Int.tdiv_eq_ediv_of_nonneg (show 0 ≤ -a by omega), Int.neg_tdiv, Int.neg_neg]
    have h3 := Int.ediv_nonneg (show 0 ≤ -a by omega) (show 0 ≤ b by omega)
    have h4 := Int.ediv_le_self b (show 0 ≤ -a by omega)
    omega
theorem td_10 {q : Int} : (0 ≤ q → q.tdiv 10 = q / 10) ∧ (q < 0 → q.tdiv 10 = -((-q) / 10)) := by
  refine ⟨fun h => Int.tdiv_eq_ediv_of_nonneg h, fun h => ?_⟩
  rw [← Int.tdiv_eq_ediv_of_nonneg (show 0 ≤ -q by omega), Int.neg_tdiv, Int.neg_neg]
/-- the digit at j, with the number's sign -/
def dgv (x : Int64) (j : Nat) : Int64 := x / pv (j + 1) - x / pv (j + 1) / 10 * 10
theorem l_rng (x : Int64) : -9223372036854775808 ≤ x.toInt ∧ x.toInt < 9223372036854775808 := ⟨Int64.le_toInt x, Int64.toInt_lt x⟩
theorem dv_int {y : Int64} : (y - y / 10 * 10).toInt = y.toInt.tmod 10 := by
  have hy := l_rng y
  have e10 : (10 : Int64).toInt = 10 := by decide
  have r10 := td_rng (show (1 : Int) ≤ 10 by decide) hy.1 hy.2
  have e2 : (y / 10).toInt = y.toInt.tdiv 10 := by
    rw [Int64.toInt_div, e10]
    exact Int.bmod_eq_of_le (by omega) (by omega)
  have ht := td_10 (q := y.toInt)
  have hr : -9223372036854775808 ≤ y.toInt.tdiv 10 * 10 ∧ y.toInt.tdiv 10 * 10 < 9223372036854775808 := by
    by_cases h : 0 ≤ y.toInt
    · rw [ht.1 h]; omega
    · rw [ht.2 (by omega)]; omega
  have hs : -10 < y.toInt - y.toInt.tdiv 10 * 10 ∧ y.toInt - y.toInt.tdiv 10 * 10 < 10 := by
    by_cases h : 0 ≤ y.toInt
    · rw [ht.1 h]; omega
    · rw [ht.2 (by omega)]; omega
  have e3 : (y / 10 * 10).toInt = y.toInt.tdiv 10 * 10 := by
    rw [Int64.toInt_mul, e2, e10]
    exact Int.bmod_eq_of_le (by omega) (by omega)
  rw [Int64.toInt_sub, e3, Int.tmod_def, Int.mul_comm 10]
  exact Int.bmod_eq_of_le (by omega) (by omega)
theorem dgv_int {x : Int64} {j : Nat} (hj : j < 19) : (dgv x j).toInt = (x.toInt.tdiv ((10 ^ j : Nat) : Int)).tmod 10 := by
  have hx := l_rng x
  have hp : 1 ≤ ((10 ^ j : Nat) : Int) := by
    have := Nat.pow_pos (n := j) (show 0 < 10 by decide)
    omega
  have r := td_rng hp hx.1 hx.2
  have e1 : (x / pv (j + 1)).toInt = x.toInt.tdiv ((10 ^ j : Nat) : Int) := by
    rw [Int64.toInt_div, pv_int j hj]
    exact Int.bmod_eq_of_le (by omega) (by omega)
  unfold dgv
  rw [dv_int, e1]
theorem dgv_abs {x : Int64} {j : Nat} (hj : j < 19) : (dgv x j).toInt.natAbs = x.toInt.natAbs / 10 ^ j % 10 := by
  rw [dgv_int hj, Int.natAbs_tmod, Int.natAbs_tdiv, Int.natAbs_natCast]; rfl
theorem dgv_0 {x : Int64} {j : Nat} (hj : j < 19) : lg_cmp (dgv x j) 0 = 0 ↔ x.toInt.natAbs / 10 ^ j % 10 = 0 := by
  rw [lg_eq, ← dgv_abs hj, ← Int64.toInt_inj]
  show (dgv x j).toInt = 0 ↔ _
  omega
theorem dgv_n {x : Int64} {j : Nat} (hj : j < 19) (h : dgv x j < 0) : (-(dgv x j)).toInt32 + 48 = nI (48 + x.toInt.natAbs / 10 ^ j % 10) := by
  have ha := dgv_abs (x := x) hj
  have h10 : x.toInt.natAbs / 10 ^ j % 10 < 10 := Nat.mod_lt _ (by decide)
  have hn : (dgv x j).toInt < 0 := Int64.lt_iff_toInt_lt.mp h
  have e : -(dgv x j) = lN (x.toInt.natAbs / 10 ^ j % 10) := by
    apply Int64.toInt_inj.mp
    rw [lN_toInt (by omega), ← ha, Int64.toInt_neg]
    rw [← ha] at h10
    rw [show -(dgv x j).toInt = ((dgv x j).toInt.natAbs : Int) by omega]
    exact Int.bmod_eq_of_le (by omega) (by omega)
  rw [e, lN_i, Nat.add_comm]
  exact nI_add _ 48
theorem dgv_p {x : Int64} {j : Nat} (hj : j < 19) (h : ¬ dgv x j < 0) : (dgv x j).toInt32 + 48 = nI (48 + x.toInt.natAbs / 10 ^ j % 10) := by
  have ha := dgv_abs (x := x) hj
  have h10 : x.toInt.natAbs / 10 ^ j % 10 < 10 := Nat.mod_lt _ (by decide)
  have hn : ¬ (dgv x j).toInt < 0 := fun z => h (Int64.lt_iff_toInt_lt.mpr z)
  have e : dgv x j = lN (x.toInt.natAbs / 10 ^ j % 10) := by
    apply Int64.toInt_inj.mp
    rw [lN_toInt (by omega), ← ha]
    omega
  rw [e, lN_i, Nat.add_comm]
  exact nI_add _ 48
/-- what is still to be written of a number's digits: r are left, b: one was written -/
def wr_r (m r : Nat) (b : Bool) : List Int32 := if b = true then wr_d m r else wr_d m (wr_n m r)
