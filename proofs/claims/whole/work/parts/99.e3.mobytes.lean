/-! The bytes of a long: byte k of x, k from the lowest on. -/
def by_n (x : Int64) (k : Nat) : Nat := x.toBitVec.toNat / 2 ^ (8 * k) % 256
theorem by_n_lt {x : Int64} {k : Nat} : by_n x k < 256 := Nat.mod_lt _ (by decide)
theorem by_tb (n : Nat) : (lN n).toBitVec = BitVec.ofNat 64 n := rfl
theorem by_c : ∀ k, k < 8 → ((nI (8 * k)).toInt64 &&& 63) = lN (8 * k) := by decide +kernel
theorem by_sm : ∀ k, k < 8 → (BitVec.ofNat 64 (8 * k)).smod 64 = BitVec.ofNat 64 (8 * k) := by decide +kernel
theorem by_255 : ∀ i, i < 64 → (255#64).getLsbD i = decide (i < 8) := by decide +kernel
theorem by_test {n k i : Nat} : (n / 2 ^ (8 * k) % 256).testBit i = (decide (i < 8) && n.testBit (8 * k + i)) := by
  rw [show (256 : Nat) = 2 ^ 8 from rfl, Nat.testBit_mod_two_pow, Nat.testBit_div_two_pow, Nat.add_comm]
theorem by_moL {x : Int64} {k : Nat} (hk : k < 8) : (x >>> ((nI (8 * k)).toInt64 &&& 63)) &&& 255 = lN (by_n x k) := by
  rw [by_c k hk]
  apply Int64.toBitVec_inj.mp
  rw [Int64.toBitVec_and, Int64.toBitVec_shiftRight, by_tb, by_sm k hk, by_tb]
  apply BitVec.eq_of_getLsbD_eq
  intro i hi
  show (x.toBitVec.sshiftRight (BitVec.ofNat 64 (8 * k)).toNat &&& 255#64).getLsbD i = (BitVec.ofNat 64 (by_n x k)).getLsbD i
  rw [BitVec.toNat_ofNat, Nat.mod_eq_of_lt (by omega), BitVec.getLsbD_and, BitVec.getLsbD_sshiftRight, by_255 i hi, BitVec.getLsbD_ofNat]
  unfold by_n
  rw [by_test]
  by_cases h8 : i < 8
  · rw [if_pos (by omega)]
    simp only [h8, decide_true, Bool.true_and, Bool.and_true, hi]
    rw [show decide (64 ≤ i) = false from decide_eq_false (by omega)]
    simp only [Bool.not_false, Bool.true_and]
    rfl
  · simp [h8]
theorem by_i32 {n : Nat} : (lN n).toInt32 = nI n := by
  apply Int32.toBitVec_inj.mp
  rw [Int64.toBitVec_toInt32, by_tb, BitVec.signExtend_eq_setWidth_of_le _ (by decide)]
  show (BitVec.ofNat 64 n).setWidth 32 = BitVec.ofNat 32 n
  apply BitVec.eq_of_toNat_eq
  rw [BitVec.toNat_setWidth, BitVec.toNat_ofNat, BitVec.toNat_ofNat]
  exact Nat.mod_mod_of_dvd _ ⟨2 ^ 32, by decide⟩
theorem by_mo {x : Int64} {k : Nat} (hk : k < 8) : ((x >>> ((nI (8 * k)).toInt64 &&& 63)) &&& 255).toInt32 = nI (by_n x k) := by rw [by_moL hk, by_i32]
