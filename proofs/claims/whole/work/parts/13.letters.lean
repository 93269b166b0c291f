/-! The alphabet: a value for each letter, over one empty array. -/
def gh_Ls (E : gh_E) (f0 f1 : gh_F) (g : Nat → Option Nat) (n : Nat) (X K : Nat → Nat) (q0 : Nat) : Prop :=
  (∀ j, j < n → g j = some (X j) ∧ f1 (X j) = some (.inr (6, [.int 4, .long 0, .ref (K j), .ref q0, .ref q0, .int 1, .int 0])) ∧ f1 (K j) = some (.inl (E.2.2.1 2, 1, .inl (upd (fun _ => 0) 0 (nI (97 + j))))) ∧ f0 (X j) = none ∧ f0 (K j) = none) ∧
  ∀ i j, i < j → j < n → X i ≠ X j ∧ K i ≠ K j
theorem gh_Ls.zero {E : gh_E} {f0 f1 : gh_F} {g : Nat → Option Nat} {X K : Nat → Nat} {q0 : Nat} : gh_Ls E f0 f1 g 0 X K q0 := ⟨fun j h => absurd h (Nat.not_lt_zero j), fun i j _ h => absurd h (Nat.not_lt_zero j)⟩
theorem gh_Ls.keep {E : gh_E} {f0 f1 f2 : gh_F} {g : Nat → Option Nat} {n q0 : Nat} {X K : Nat → Nat} {M : Nat → Prop} (h : gh_Ls E f0 f1 g n X K q0) (hfr : gh_fr f1 f2 M) (hM : ∀ b, M b → f0 b ≠ none) : gh_Ls E f0 f2 g n X K q0 := by
  refine ⟨fun j hj => ?_, h.2⟩
  obtain ⟨h1, h2, h3, h5, h6⟩ := h.1 j hj
  exact ⟨h1, hfr.at h2 (fun z => hM _ z h5), hfr.at h3 (fun z => hM _ z h6), h5, h6⟩
theorem gh_Ls.from {E : gh_E} {f f0 f1 : gh_F} {g : Nat → Option Nat} {n q0 : Nat} {X K : Nat → Nat} {M : Nat → Prop} (h : gh_Ls E f0 f1 g n X K q0) (hfr : gh_fr f f0 M) : gh_Ls E f f1 g n X K q0 := by
  refine ⟨fun j hj => ?_, h.2⟩
  obtain ⟨h1, h2, h3, h5, h6⟩ := h.1 j hj
  exact ⟨h1, h2, h3, hfr.non h5, hfr.non h6⟩
theorem gh_Ls.step {E : gh_E} {f0 f1 f2 : gh_F} {g : Nat → Option Nat} {n q0 : Nat} {X K : Nat → Nat} {M : Nat → Prop} (h : gh_Ls E f0 f1 g n X K q0) (hfr : gh_fr f1 f2 M) (hM : ∀ b, M b → f0 b ≠ none) (h01 : ∀ b, f1 b = none → f0 b = none) {x k : Nat}
    (hx : f1 x = none) (hk : f1 k = none) (h2x : f2 x = some (.inr (6, [.int 4, .long 0, .ref k, .ref q0, .ref q0, .int 1, .int 0]))) (h2k : f2 k = some (.inl (E.2.2.1 2, 1, .inl (upd (fun _ => 0) 0 (nI (97 + n)))))) :
    gh_Ls E f0 f2 (va_up g n (some x)) (n + 1) (va_up X n x) (va_up K n k) q0 := by
  have h' := h.keep hfr hM
  refine ⟨fun j hj => ?_, fun a b hab hb => ?_⟩
  · by_cases hjn : j = n
    · subst hjn
      rw [va_up_s, va_up_s, va_up_s]
      exact ⟨rfl, h2x, h2k, h01 _ hx, h01 _ hk⟩
    · rw [va_up_n hjn, va_up_n hjn, va_up_n hjn]
      exact h'.1 j (by omega)
  · have han : a ≠ n := by omega
    rw [va_up_n han, va_up_n han]
    obtain ⟨-, g2, g3, -⟩ := h.1 a (by omega)
    by_cases hbn : b = n
    · subst hbn
      rw [va_up_s, va_up_s]
      exact ⟨gh_ne0 g2 hx, gh_ne0 g3 hk⟩
    · rw [va_up_n hbn, va_up_n hbn]
      exact h.2 a b hab (by omega)
theorem gh_letter : ∀ j, j < 26 → vp_nar .char (((97 : Int32) + nI j).toUInt32 % 65536).toInt32 = nI (97 + j) := by decide +kernel
