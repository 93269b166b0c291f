/-! All values of a part, the last one kept. -/
theorem sr_all_c {v : vt} {T : sr} : sr_c T ≤ (sr_all v T).1 := by
  rcases sr_cases T with ⟨d, x, R, rfl⟩ | ⟨d, rfl⟩ | ⟨d, rfl⟩
  · rw [sr_all_cons]; exact Nat.le_add_right _ _
  · exact Nat.le_refl _
  · exact Nat.le_refl _
theorem sr_all_add {v : vt} {c : Nat} {T : sr} : sr_all v (sr_add c T) = (c + (sr_all v T).1, (sr_all v T).2) := by
  rcases sr_cases T with ⟨d, x, R, rfl⟩ | ⟨d, rfl⟩ | ⟨d, rfl⟩
  · rw [sr_add_cons, sr_all_cons, sr_all_cons, Nat.add_assoc]
  · rfl
  · rfl
theorem sr_fol_c {P : sr} {g : vt → vt → sr} {T : sr} : sr_c T ≤ sr_c (sr_fol P g T) := by
  rcases sr_cases T with ⟨d, x, R, rfl⟩ | ⟨d, rfl⟩ | ⟨d, rfl⟩
  · cases hq : sr_fin g x P with
    | mk c o =>
      cases o with
      | none => rw [sr_fol_none hq]; exact Nat.le_add_right _ _
      | some w => rw [sr_fol_some hq]; exact Nat.le_add_right _ _
  · exact Nat.le_refl _
  · exact Nat.le_refl _
theorem sr_fol_cc {P : sr} {g : vt → vt → sr} {d : Nat} {x : vt} {R : sr} : sr_c (sr_fol P g (sr_cons d x R)) = d + (sr_fin g x P).1 := by
  cases hq : sr_fin g x P with
  | mk c o =>
    cases o with
    | none => rw [sr_fol_none hq]; rfl
    | some w => rw [sr_fol_some hq]; rfl
def rk_L (φ : Nat) (p : Nat × Option vt) (r : Option Value) (φ1 : Nat) (K : vt → Prop) : Prop := (φ < p.1 ∧ r = some (.int 2) ∧ φ1 = 0) ∨ (∃ w, p.2 = some w ∧ p.1 ≤ φ ∧ r = some (.int 0) ∧ φ1 = φ - p.1 ∧ K w) ∨ (p.2 = none ∧ p.1 ≤ φ ∧ r = some (.int 1) ∧ φ1 = φ - p.1)
