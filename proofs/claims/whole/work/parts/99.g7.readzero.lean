/-! A digit behind a leading 0: refused at once, or where the value is to end: at the same place. -/
theorem rbl_id {tx : Nat → Nat} {n p : Nat} (h : sg tx n p ≠ 32) : rbl tx n p = p := by
  unfold rbl
  cases n - p with
  | zero => rfl
  | succ m => unfold rb; rw [if_neg h]
def rz (tx : Nat → Nat) (n : Nat) {α : Type} (x y : Nat × Option α) : Prop := x = y ∨ ∃ q X, y = (q, some X) ∧ (48 ≤ sg tx n q ∧ sg tx n q ≤ 57) ∧ x = (q, none)
theorem rd_j_z {tx : Nat → Nat} {n : Nat} {neg : Bool} {p : Nat} : rz tx n (rd_j tx n true neg p) (rd_j tx n false neg p) := by
  unfold rd_j
  by_cases h1 : 48 ≤ sg tx n p ∧ sg tx n p ≤ 57
  · have hn : ¬ ¬ (48 ≤ sg tx n p ∧ sg tx n p ≤ 57) := fun z => z h1
    rw [if_neg hn, if_neg hn]
    by_cases h2 : sg tx n p = 48
    · rw [if_pos h2, if_pos h2]
      have hf : ¬ (false = true ∧ 48 ≤ sg tx n (p + 1) ∧ sg tx n (p + 1) ≤ 57) := fun z => by cases z.1
      rw [if_neg hf]
      by_cases h3 : 48 ≤ sg tx n (p + 1) ∧ sg tx n (p + 1) ≤ 57
      · rw [if_pos ⟨rfl, h3⟩]; exact Or.inr ⟨p + 1, 0, rfl, h3, rfl⟩
      · rw [if_neg (fun z => h3 z.2)]; exact Or.inl rfl
    · rw [if_neg h2, if_neg h2]; exact Or.inl rfl
  · rw [if_pos h1, if_pos h1]; exact Or.inl rfl
theorem rd_i_z {tx : Nat → Nat} {n p : Nat} : rz tx n (rd_i tx n true p) (rd_i tx n false p) := by
  by_cases h : sg tx n p = 45
  · rw [rd_i_n h, rd_i_n h]; exact rd_j_z
  · rw [rd_i_p h, rd_i_p h]; exact rd_j_z
theorem rd_l_z {tx : Nat → Nat} {n : Nat} {ob : Bool} {g1 g2 : Nat → Nat × Option vt} (hg : ∀ q, rz tx n (g1 q) (g2 q)) : ∀ {c p : Nat} {r : List (List Int32) × List vt}, rd_l tx n g1 ob c r p = rd_l tx n g2 ob c r p := by
  intro c
  induction c with
  | zero => intro p r; rfl
  | succ c ih =>
    intro p r
    unfold rd_l
    cases hk : (if ob = true then rd_K tx n p else (p, some [])) with
    | mk q1 o1 =>
      cases o1 with
      | none => rfl
      | some L =>
        dsimp only
        rcases hg q1 with h | ⟨q, X, h1, h2, h3⟩
        · rw [h]
          cases hq : g2 q1 with
          | mk q2 o2 =>
            cases o2 with
            | none => rfl
            | some X =>
              dsimp only
              rw [ih]
        · rw [h1, h3]
          show (q, none) = (if sg tx n (rbl tx n q) = (if ob = true then 125 else 93) then _ else if c = 0 ∨ sg tx n (rbl tx n q) ≠ 44 then (rbl tx n q, none) else _)
          rw [rbl_id (by omega), if_neg (by split <;> omega), if_pos (Or.inr (by omega))]
theorem rd_v_z {tx : Nat → Nat} {n : Nat} : ∀ {d p : Nat}, rz tx n (rd_v tx n true d p) (rd_v tx n false d p) := by
  intro d
  induction d with
  | zero => intro p; exact Or.inl rfl
  | succ d ih =>
    intro p
    unfold rd_v
    have hl : ∀ ob q, rd_l tx n (rd_v tx n true d) ob 16 ([], []) q = rd_l tx n (rd_v tx n false d) ob 16 ([], []) q := fun ob q => rd_l_z (fun q => ih)
    rw [hl, hl]
    by_cases k1 : sg tx n (rbl tx n p) = 110
    · rw [if_pos k1, if_pos k1]; exact Or.inl rfl
    rw [if_neg k1, if_neg k1]
    by_cases k2 : sg tx n (rbl tx n p) = 102
    · rw [if_pos k2, if_pos k2]; exact Or.inl rfl
    rw [if_neg k2, if_neg k2]
    by_cases k3 : sg tx n (rbl tx n p) = 116
    · rw [if_pos k3, if_pos k3]; exact Or.inl rfl
    rw [if_neg k3, if_neg k3]
    by_cases k4 : sg tx n (rbl tx n p) = 34
    · rw [if_pos k4, if_pos k4]; exact Or.inl rfl
    rw [if_neg k4, if_neg k4]
    by_cases k5 : sg tx n (rbl tx n p) = 91
    · rw [if_pos k5, if_pos k5]; exact Or.inl rfl
    rw [if_neg k5, if_neg k5]
    by_cases k6 : sg tx n (rbl tx n p) = 123
    · rw [if_pos k6, if_pos k6]; exact Or.inl rfl
    rw [if_neg k6, if_neg k6]
    rcases rd_i_z (tx := tx) (n := n) (p := rbl tx n p) with h | ⟨q, X, h1, h2, h3⟩
    · rw [h]; exact Or.inl rfl
    · rw [h1, h3]; exact Or.inr ⟨q, vt_i X, rfl, h2, rfl⟩
/-- the whole text: the same either way -/
theorem rd_a_z {tx : Nat → Nat} {n : Nat} : rd_a tx n true = rd_a tx n false := by
  unfold rd_a
  rcases rd_v_z (tx := tx) (n := n) (d := 8) (p := 0) with h | ⟨q, X, h1, h2, h3⟩
  · rw [h]
  · rw [h1, h3]
    show (q, none) = (if rbl tx n q < n then (rbl tx n q, none) else (rbl tx n q, some X))
    rw [rbl_id (by omega), if_pos (sg_lt (show sg tx n q ≠ 0 by omega))]
