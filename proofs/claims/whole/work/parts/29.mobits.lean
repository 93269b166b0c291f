theorem gh_bi_nar (b : Bool) : narrow .boolean (.int (gh_bi b)) = .int (gh_bi b) := by cases b <;> rfl
theorem gh_bi_fit (b : Bool) : fits .boolean (.int (gh_bi b)) = true := by cases b <;> rfl
theorem mo_X.then {E : gh_E} {f0 f g : gh_F} {a : Nat} {ad : Nat → Nat} {S S2 : Nat → Int32} {I I2 : Nat → Nat → Int32} {J J2 : Nat → Nat → Int64} (h : mo_X E f0 f a ad S I J) (h2 : mo_X E f g a ad S2 I2 J2) : mo_X E f0 g a ad S2 I2 J2 := ⟨h2.1, h.2.tr h2.2 (fun _ _ _ z => z)⟩
