/-! Reading an integer: the machine's numbers against the whole ones. -/
def rd_ls (neg : Bool) : Int := if neg = true then -9223372036854775808 else -9223372036854775807
def rd_j (tx : Nat → Nat) (n : Nat) (zb neg : Bool) (q : Nat) : Nat × Option Int64 :=
  if ¬ (48 ≤ sg tx n q ∧ sg tx n q ≤ 57) then (q, none)
  else if sg tx n q = 48 then (if zb = true ∧ 48 ≤ sg tx n (q + 1) ∧ sg tx n (q + 1) ≤ 57 then (q + 1, none) else (q + 1, some 0))
  else match rd_d tx n (rd_ls neg) n q 0 with
    | (q, none) => (q, none)
    | (q, some z) => (q, some (Int64.ofInt (if neg = true then z else -z)))
theorem rd_i_n {tx : Nat → Nat} {n : Nat} {zb : Bool} {p : Nat} (h : sg tx n p = 45) : rd_i tx n zb p = rd_j tx n zb true (p + 1) := by
  unfold rd_i rd_j rd_ls
  simp only [h, if_true]
  rfl
theorem rd_i_p {tx : Nat → Nat} {n : Nat} {zb : Bool} {p : Nat} (h : ¬ sg tx n p = 45) : rd_i tx n zb p = rd_j tx n zb false p := by
  unfold rd_i rd_j rd_ls
  simp only [h, if_false]
  rfl
theorem rd_d_o {tx : Nat → Nat} {n : Nat} {least : Int} {m p : Nat} {z : Int} : rd_d tx n least (m + 1) p z = (if 48 ≤ sg tx n p ∧ sg tx n p ≤ 57 then (if 10 * z < least + ((sg tx n p : Int) - 48) then (p, none) else rd_d tx n least m (p + 1) (10 * z - ((sg tx n p : Int) - 48))) else (p, some z)) := rfl
theorem ri_int {z : Int} (h1 : -9223372036854775808 ≤ z) (h2 : z ≤ 9223372036854775807) : (Int64.ofInt z).toInt = z := by
  rw [Int64.toInt_ofInt]
  show z.bmod 18446744073709551616 = z
  exact Int.bmod_eq_of_le (by omega) (by omega)
theorem ri_d {c : Nat} (h1 : 48 ≤ c) (h2 : c ≤ 57) : (pek c).toInt64 - 48 = lN (c - 48) := by
  unfold pek
  rw [if_neg (by omega), nI_l (by omega)]
  exact lN_sub h1
theorem ri_c1 {z : Int} (h1 : -9223372036854775808 ≤ z) (h2 : z ≤ 0) : lg_cmp (Int64.ofInt z) (-922337203685477580) < 0 ↔ z < -922337203685477580 := by
  rw [lg_lt, Int64.lt_iff_toInt_lt, ri_int h1 (by omega)]
  have : (-922337203685477580 : Int64).toInt = -922337203685477580 := by decide
  rw [this]
def rd_lL (neg : Bool) : Int64 := if neg = true then -9223372036854775808 else -9223372036854775807
theorem rd_lL_int {neg : Bool} : (rd_lL neg).toInt = rd_ls neg := by cases neg <;> decide
theorem ri_c2 {z : Int} {neg : Bool} {d : Nat} (h1 : -922337203685477580 ≤ z) (h2 : z ≤ 0) (hd : d ≤ 9) : lg_cmp (10 * Int64.ofInt z) (rd_lL neg + lN d) < 0 ↔ 10 * z < rd_ls neg + (d : Int) := by
  have e10 : (10 : Int64).toInt = 10 := by decide
  have hls : -9223372036854775808 ≤ rd_ls neg ∧ rd_ls neg ≤ -9223372036854775807 := by cases neg <;> exact ⟨by decide, by decide⟩
  rw [lg_lt, Int64.lt_iff_toInt_lt, Int64.toInt_mul, Int64.toInt_add, e10, ri_int (by omega) (by omega), rd_lL_int, lN_toInt (by omega)]
  rw [show (10 * z).bmod (2 ^ 64) = 10 * z from Int.bmod_eq_of_le (by omega) (by omega), show (rd_ls neg + (d : Int)).bmod (2 ^ 64) = rd_ls neg + (d : Int) from Int.bmod_eq_of_le (by omega) (by omega)]
theorem ri_n {z : Int} {d : Nat} : 10 * Int64.ofInt z - lN d = Int64.ofInt (10 * z - (d : Int)) := by
  rw [Int64.ofInt_sub, Int64.ofInt_mul]
  rfl
theorem ri_neg {z : Int} : -(Int64.ofInt z) = Int64.ofInt (-z) := (Int64.ofInt_neg z).symm
