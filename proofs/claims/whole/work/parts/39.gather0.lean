/-! Gatherings: what they hold; putting and adding without a heap. -/
/-- a gathering with whatever in it -/
def ga_0 (E : gh_E) (P : Nat → Prop) (f : gh_F) (a k i : Nat) : Prop := (¬ P a ∧ ¬ P k ∧ ¬ P i) ∧ k ≠ i ∧ ∃ (n : Nat) (gk gi : Nat → Option Nat), f a = some (.inr (1, [.ref k, .ref i, .int (nI n)])) ∧ f k = some (.inl (E.2.2.1 4, 16, .inr (.inr (.inr (.inr gk))))) ∧ f i = some (.inl (E.2.2.1 4, 16, .inr (.inr (.inr (.inr gi)))))
def ga_R (E : gh_E) (P : Nat → Prop) (f : gh_F) (a k i : Nat) (ks : List (List Int32)) (xs : List vt) : Prop := (¬ P a ∧ ¬ P k ∧ ¬ P i) ∧ k ≠ i ∧ ∃ (gk gi : Nat → Option Nat) (K B : Nat → Nat), f a = some (.inr (1, [.ref k, .ref i, .int (nI xs.length)])) ∧ f k = some (.inl (E.2.2.1 4, 16, .inr (.inr (.inr (.inr gk))))) ∧ f i = some (.inl (E.2.2.1 4, 16, .inr (.inr (.inr (.inr gi))))) ∧ xs.length ≤ 16 ∧ ks.length ≤ xs.length ∧ (∀ j, j < ks.length → gk j = some (K j) ∧ cv_S E P f (K j) (ks.getD j []) ∧ lt_ok (ks.getD j [])) ∧ ∀ j, j < xs.length → gi j = some (B j) ∧ cw E P f (B j) (xs.getD j (vt_0 0))
theorem ga_R.raw {E : gh_E} {P : Nat → Prop} {f : gh_F} {a k i : Nat} {ks : List (List Int32)} {xs : List vt} (h : ga_R E P f a k i ks xs) : ga_0 E P f a k i := by
  obtain ⟨hp, hne, gk, gi, K, B, h1, h2, h3, _⟩ := h
  exact ⟨hp, hne, _, gk, gi, h1, h2, h3⟩
theorem ga_0.keep {E : gh_E} {P M : Nat → Prop} {f g : gh_F} {a k i : Nat} (h : ga_0 E P f a k i) (hfr : gh_fr f g M) (ha : ¬ M a) (hk : ¬ M k) (hi : ¬ M i) : ga_0 E P g a k i := by
  obtain ⟨hp, hne, n, gk, gi, h1, h2, h3⟩ := h
  exact ⟨hp, hne, n, gk, gi, hfr.at h1 ha, hfr.at h2 hk, hfr.at h3 hi⟩
theorem ga_R.keep {E : gh_E} {P M : Nat → Prop} {f g : gh_F} {a k i : Nat} {ks : List (List Int32)} {xs : List vt} (h : ga_R E P f a k i ks xs) (hfr : gh_fr f g M) (hM : ∀ b, M b → ¬ P b) (ha : ¬ M a) (hk : ¬ M k) (hi : ¬ M i) : ga_R E P g a k i ks xs := by
  obtain ⟨hp, hne, gk, gi, K, B, h1, h2, h3, h4, h5, h6, h7⟩ := h
  exact ⟨hp, hne, gk, gi, K, B, hfr.at h1 ha, hfr.at h2 hk, hfr.at h3 hi, h4, h5, fun j hj => ⟨(h6 j hj).1, (h6 j hj).2.1.keep hfr hM, (h6 j hj).2.2⟩, fun j hj => ⟨(h7 j hj).1, (h7 j hj).2.keep hfr hM⟩⟩
/-- the frame of a gathering's own cells -/
abbrev ga_M (a k i : Nat) : Nat → Prop := fun b => b ∈ ([a, k, i] : List Nat)
theorem ga_Mn {P : Nat → Prop} {a k i : Nat} (h : ¬ P a ∧ ¬ P k ∧ ¬ P i) : ∀ b, ga_M a k i b → ¬ P b := by
  intro b hb
  rcases List.mem_cons.mp hb with rfl | hb
  · exact h.1
  · rcases List.mem_cons.mp hb with rfl | hb
    · exact h.2.1
    · rw [List.mem_singleton.mp hb]; exact h.2.2
theorem ga_R.clear {E : gh_E} {P : Nat → Prop} {g : gh_F} {a k i : Nat} {gk gi : Nat → Option Nat} (hp : ¬ P a ∧ ¬ P k ∧ ¬ P i) (hne : k ≠ i) (h1 : g a = some (.inr (1, [.ref k, .ref i, .int 0]))) (h2 : g k = some (.inl (E.2.2.1 4, 16, .inr (.inr (.inr (.inr gk)))))) (h3 : g i = some (.inl (E.2.2.1 4, 16, .inr (.inr (.inr (.inr gi)))))) : ga_R E P g a k i [] [] :=
  ⟨hp, hne, gk, gi, fun _ => 0, fun _ => 0, h1, h2, h3, by decide, by decide, fun j hj => absurd hj (Nat.not_lt_zero j), fun j hj => absurd hj (Nat.not_lt_zero j)⟩
theorem getD_app {α : Type} {xs : List α} {x d : α} {j : Nat} (h : j < xs.length) : (xs ++ [x]).getD j d = xs.getD j d := by simp [List.getD, List.getElem?_append_left h]
theorem getD_last {α : Type} {xs : List α} {x d : α} : (xs ++ [x]).getD xs.length d = x := by simp [List.getD]
theorem ga_R.add {E : gh_E} {P M : Nat → Prop} {f g : gh_F} {a k i b : Nat} {ks : List (List Int32)} {xs : List vt} {X : vt} {gk gi : Nat → Option Nat} {K B : Nat → Nat} (hp : ¬ P a ∧ ¬ P k ∧ ¬ P i) (hne : k ≠ i) (hx : xs.length < 16) (hk : ks.length ≤ xs.length) (h6 : ∀ j, j < ks.length → gk j = some (K j) ∧ cv_S E P f (K j) (ks.getD j []) ∧ lt_ok (ks.getD j [])) (h7 : ∀ j, j < xs.length → gi j = some (B j) ∧ cw E P f (B j) (xs.getD j (vt_0 0))) (hb : cw E P f b X) (hfr : gh_fr f g M) (hM : ∀ b, M b → ¬ P b) (h1 : g a = some (.inr (1, [.ref k, .ref i, .int (nI (xs.length + 1))]))) (h2 : g k = some (.inl (E.2.2.1 4, 16, .inr (.inr (.inr (.inr gk)))))) (h3 : g i = some (.inl (E.2.2.1 4, 16, .inr (.inr (.inr (.inr (va_up gi xs.length (some b)))))))) : ga_R E P g a k i ks (xs ++ [X]) := by
  refine ⟨hp, hne, gk, va_up gi xs.length (some b), K, va_up B xs.length b, ?_, h2, h3, by simp; omega, by simp; omega, fun j hj => ⟨(h6 j hj).1, (h6 j hj).2.1.keep hfr hM, (h6 j hj).2.2⟩, fun j hj => ?_⟩
  · rw [List.length_append]; exact h1
  · by_cases hjl : j = xs.length
    · subst hjl
      rw [va_up_s, va_up_s, getD_last]
      exact ⟨rfl, hb.keep hfr hM⟩
    · have hj2 : j < xs.length := by simp at hj; omega
      rw [va_up_n hjl, va_up_n hjl, getD_app hj2]
      exact ⟨(h7 j hj2).1, (h7 j hj2).2.keep hfr hM⟩
theorem ga_R.key {E : gh_E} {P M : Nat → Prop} {f g : gh_F} {a k i b : Nat} {ks : List (List Int32)} {xs : List vt} {L : List Int32} (h : ga_R E P f a k i ks xs) (hl : ks.length < xs.length) {gk : Nat → Option Nat} (hgk : f k = some (.inl (E.2.2.1 4, 16, .inr (.inr (.inr (.inr gk)))))) (hb : cv_S E P f b L) (hL : lt_ok L) (hfr : gh_fr f g M) (hM : ∀ b, M b → ¬ P b) (ha : g a = f a) (hi : g i = f i) (h2 : g k = some (.inl (E.2.2.1 4, 16, .inr (.inr (.inr (.inr (va_up gk ks.length (some b)))))))) : ga_R E P g a k i (ks ++ [L]) xs := by
  obtain ⟨hp, hne, gk', gi, K, B, h1, h2', h3, h4, h5, h6, h7⟩ := h
  rw [hgk] at h2'
  injection h2' with h2'
  injection h2' with h2'
  injection h2' with _ h2'
  injection h2' with _ h2'
  injection h2' with h2'
  injection h2' with h2'
  injection h2' with h2'
  injection h2' with h2'
  subst h2'
  refine ⟨hp, hne, _, gi, va_up K ks.length b, B, by rw [ha]; exact h1, h2, by rw [hi]; exact h3, h4, by simp; omega, fun j hj => ?_, fun j hj => ⟨(h7 j hj).1, (h7 j hj).2.keep hfr hM⟩⟩
  by_cases hjl : j = ks.length
  · subst hjl
    rw [va_up_s, va_up_s, getD_last]
    exact ⟨rfl, hb.keep hfr hM, hL⟩
  · have hj2 : j < ks.length := by simp at hj; omega
    rw [va_up_n hjl, va_up_n hjl, getD_app hj2]
    exact ⟨(h6 j hj2).1, (h6 j hj2).2.1.keep hfr hM, (h6 j hj2).2.2⟩
theorem ga_R.put {E : gh_E} {P M : Nat → Prop} {f g : gh_F} {a k i b j0 : Nat} {ks : List (List Int32)} {xs : List vt} {X : vt} {gk gi : Nat → Option Nat} {K B : Nat → Nat} (hp : ¬ P a ∧ ¬ P k ∧ ¬ P i) (hne : k ≠ i) (hx : xs.length ≤ 16) (hk : ks.length ≤ xs.length) (h6 : ∀ j, j < ks.length → gk j = some (K j) ∧ cv_S E P f (K j) (ks.getD j []) ∧ lt_ok (ks.getD j [])) (h7 : ∀ j, j < xs.length → gi j = some (B j) ∧ cw E P f (B j) (xs.getD j (vt_0 0))) (hb : cw E P f b X) (hfr : gh_fr f g M) (hM : ∀ b, M b → ¬ P b) (h1 : g a = some (.inr (1, [.ref k, .ref i, .int (nI xs.length)]))) (h2 : g k = some (.inl (E.2.2.1 4, 16, .inr (.inr (.inr (.inr gk)))))) (h3 : g i = some (.inl (E.2.2.1 4, 16, .inr (.inr (.inr (.inr (va_up gi j0 (some b)))))))) (hj0 : j0 < xs.length) : ga_R E P g a k i ks (xs.set j0 X) := by
  refine ⟨hp, hne, gk, va_up gi j0 (some b), K, va_up B j0 b, ?_, h2, h3, by simp; omega, by simp; omega, fun j hj => ⟨(h6 j hj).1, (h6 j hj).2.1.keep hfr hM, (h6 j hj).2.2⟩, fun j hj => ?_⟩
  · rw [List.length_set]; exact h1
  · have hj2 : j < xs.length := by simpa using hj
    by_cases hjl : j = j0
    · subst hjl
      rw [va_up_s, va_up_s]
      refine ⟨rfl, ?_⟩
      have : (xs.set j X).getD j (vt_0 0) = X := by simp [List.getD, hj2]
      rw [this]
      exact hb.keep hfr hM
    · rw [va_up_n hjl, va_up_n hjl]
      have : (xs.set j0 X).getD j (vt_0 0) = xs.getD j (vt_0 0) := by simp [List.getD, List.getElem?_set_ne (Ne.symm hjl)]
      rw [this]
      exact ⟨(h7 j hj2).1, (h7 j hj2).2.keep hfr hM⟩
def vt_put (s : List (List Int32) × List vt) (L : List Int32) (X : vt) : Option (List (List Int32) × List vt) := match vt_find s.1 L with
  | some j => some (s.1, s.2.set j X)
  | none => if s.2.length < 16 then some (s.1 ++ [L], s.2 ++ [X]) else none
def vt_pa (O : vt) : Nat → Nat → List (List Int32) × List vt → Option (List (List Int32) × List vt)
  | 0, _, s => some s
  | n + 1, i, s => match vt_put s ((vt_q O).getD i []) (vt_s O i) with
    | none => none
    | some s' => vt_pa O n (i + 1) s'
def vt_aa (O : vt) : Nat → Nat → List vt → Option (List vt)
  | 0, _, xs => some xs
  | n + 1, i, xs => if xs.length < 16 then vt_aa O n (i + 1) (xs ++ [vt_s O i]) else none
theorem vt_put_len {s s' : List (List Int32) × List vt} {L : List Int32} {X : vt} (h : vt_put s L X = some s') (hs : s.1.length = s.2.length) : s'.1.length = s'.2.length := by
  unfold vt_put at h
  split at h
  · cases h; simpa using hs
  · split at h
    · cases h; simpa using hs
    · cases h
