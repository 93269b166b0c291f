/-! Rows of new objects in an array: gatherings, steps. f0: the ghost heap ahead of them. -/
abbrev gh_A16 (E : gh_E) : va_E := .inl (E.2.2.1 4, 16, .inr (.inr (.inr (.inr (fun _ => none)))))
def gh_Gs (E : gh_E) (f0 f1 : gh_F) (g : Nat → Option Nat) (n : Nat) (X K I : Nat → Nat) : Prop :=
  (∀ j, j < n → g j = some (X j) ∧ f1 (X j) = some (.inr (1, [.ref (K j), .ref (I j), .int 0])) ∧ f1 (K j) = some (gh_A16 E) ∧ f1 (I j) = some (gh_A16 E) ∧ f0 (X j) = none ∧ f0 (K j) = none ∧ f0 (I j) = none ∧ K j ≠ I j) ∧
  ∀ i j, i < j → j < n → X i ≠ X j ∧ K i ≠ K j ∧ I i ≠ I j ∧ K i ≠ I j ∧ I i ≠ K j
theorem gh_Gs.zero {E : gh_E} {f0 f1 : gh_F} {g : Nat → Option Nat} {X K I : Nat → Nat} : gh_Gs E f0 f1 g 0 X K I := ⟨fun j h => absurd h (Nat.not_lt_zero j), fun i j _ h => absurd h (Nat.not_lt_zero j)⟩
theorem gh_Gs.keep {E : gh_E} {f0 f1 f2 : gh_F} {g : Nat → Option Nat} {n : Nat} {X K I : Nat → Nat} {M : Nat → Prop} (h : gh_Gs E f0 f1 g n X K I) (hfr : gh_fr f1 f2 M) (hM : ∀ b, M b → f0 b ≠ none) : gh_Gs E f0 f2 g n X K I := by
  refine ⟨fun j hj => ?_, h.2⟩
  obtain ⟨h1, h2, h3, h4, h5, h6, h7, h8⟩ := h.1 j hj
  exact ⟨h1, hfr.at h2 (fun z => hM _ z h5), hfr.at h3 (fun z => hM _ z h6), hfr.at h4 (fun z => hM _ z h7), h5, h6, h7, h8⟩
theorem gh_Gs.from {E : gh_E} {f f0 f1 : gh_F} {g : Nat → Option Nat} {n : Nat} {X K I : Nat → Nat} {M : Nat → Prop} (h : gh_Gs E f0 f1 g n X K I) (hfr : gh_fr f f0 M) : gh_Gs E f f1 g n X K I := by
  refine ⟨fun j hj => ?_, h.2⟩
  obtain ⟨h1, h2, h3, h4, h5, h6, h7, h8⟩ := h.1 j hj
  exact ⟨h1, h2, h3, h4, hfr.non h5, hfr.non h6, hfr.non h7, h8⟩
theorem gh_Gs.step {E : gh_E} {f0 f1 f2 : gh_F} {g : Nat → Option Nat} {n : Nat} {X K I : Nat → Nat} {M : Nat → Prop} (h : gh_Gs E f0 f1 g n X K I) (hfr : gh_fr f1 f2 M) (hM : ∀ b, M b → f0 b ≠ none) (h01 : ∀ b, f1 b = none → f0 b = none) {x k i : Nat}
    (hx : f1 x = none) (hk : f1 k = none) (hi : f1 i = none) (hki : k ≠ i) (h2x : f2 x = some (.inr (1, [.ref k, .ref i, .int 0]))) (h2k : f2 k = some (gh_A16 E)) (h2i : f2 i = some (gh_A16 E)) :
    gh_Gs E f0 f2 (va_up g n (some x)) (n + 1) (va_up X n x) (va_up K n k) (va_up I n i) := by
  have h' := h.keep hfr hM
  refine ⟨fun j hj => ?_, fun a b hab hb => ?_⟩
  · by_cases hjn : j = n
    · subst hjn
      rw [va_up_s, va_up_s, va_up_s, va_up_s]
      exact ⟨rfl, h2x, h2k, h2i, h01 _ hx, h01 _ hk, h01 _ hi, hki⟩
    · rw [va_up_n hjn, va_up_n hjn, va_up_n hjn, va_up_n hjn]
      exact h'.1 j (by omega)
  · have han : a ≠ n := by omega
    rw [va_up_n han, va_up_n han, va_up_n han]
    obtain ⟨-, g2, g3, g4, -⟩ := h.1 a (by omega)
    by_cases hbn : b = n
    · subst hbn
      rw [va_up_s, va_up_s, va_up_s]
      exact ⟨gh_ne0 g2 hx, gh_ne0 g3 hk, gh_ne0 g4 hi, gh_ne0 g3 hi, gh_ne0 g4 hk⟩
    · rw [va_up_n hbn, va_up_n hbn, va_up_n hbn]
      exact h.2 a b hab (by omega)
/-- new steps -/
abbrev gh_S0 : va_E := .inr (5, [.int 0, .int 0, .null, .null, .null, .null, .int 0, .int 0, .null])
def gh_Ss (f0 f1 : gh_F) (g : Nat → Option Nat) (n : Nat) (X : Nat → Nat) : Prop :=
  (∀ j, j < n → g j = some (X j) ∧ f1 (X j) = some gh_S0 ∧ f0 (X j) = none) ∧ ∀ i j, i < j → j < n → X i ≠ X j
theorem gh_Ss.zero {f0 f1 : gh_F} {g : Nat → Option Nat} {X : Nat → Nat} : gh_Ss f0 f1 g 0 X := ⟨fun j h => absurd h (Nat.not_lt_zero j), fun i j _ h => absurd h (Nat.not_lt_zero j)⟩
theorem gh_Ss.keep {f0 f1 f2 : gh_F} {g : Nat → Option Nat} {n : Nat} {X : Nat → Nat} {M : Nat → Prop} (h : gh_Ss f0 f1 g n X) (hfr : gh_fr f1 f2 M) (hM : ∀ b, M b → f0 b ≠ none) : gh_Ss f0 f2 g n X :=
  ⟨fun j hj => ⟨(h.1 j hj).1, hfr.at (h.1 j hj).2.1 (fun z => hM _ z (h.1 j hj).2.2), (h.1 j hj).2.2⟩, h.2⟩
theorem gh_Ss.from {f f0 f1 : gh_F} {g : Nat → Option Nat} {n : Nat} {X : Nat → Nat} {M : Nat → Prop} (h : gh_Ss f0 f1 g n X) (hfr : gh_fr f f0 M) : gh_Ss f f1 g n X := ⟨fun j hj => ⟨(h.1 j hj).1, (h.1 j hj).2.1, hfr.non (h.1 j hj).2.2⟩, h.2⟩
theorem gh_Ss.step {f0 f1 f2 : gh_F} {g : Nat → Option Nat} {n : Nat} {X : Nat → Nat} {M : Nat → Prop} (h : gh_Ss f0 f1 g n X) (hfr : gh_fr f1 f2 M) (hM : ∀ b, M b → f0 b ≠ none) (h01 : ∀ b, f1 b = none → f0 b = none) {x : Nat} (hx : f1 x = none) (h2x : f2 x = some gh_S0) : gh_Ss f0 f2 (va_up g n (some x)) (n + 1) (va_up X n x) := by
  have h' := h.keep hfr hM
  refine ⟨fun j hj => ?_, fun a b hab hb => ?_⟩
  · by_cases hjn : j = n
    · subst hjn
      rw [va_up_s, va_up_s]
      exact ⟨rfl, h2x, h01 _ hx⟩
    · rw [va_up_n hjn, va_up_n hjn]
      exact h'.1 j (by omega)
  · have han : a ≠ n := by omega
    rw [va_up_n han]
    by_cases hbn : b = n
    · subst hbn
      rw [va_up_s]
      exact gh_ne0 (h.1 a (by omega)).2.1 hx
    · rw [va_up_n hbn]
      exact h.2 a b hab (by omega)
