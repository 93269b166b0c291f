/-! The slots of a step: a part that is still to begin, or a step that has begun. -/
def rs_ok (cb bg : Nat → Nat) (N n p : Nat) (X : vt) : Prop := ∃ n1 w, n = n1 + 1 ∧ n1 ≤ 18 ∧ qw cb bg N w p ∧ (cb p = 4 → vt_h X ≤ n1) ∧ (cb p ≠ 4 → w + 6 ≤ n1)
def rk_S (E : gh_E) (ρ Z : Nat → Nat) (cb bg : Nat → Nat) (N : Nat) (f : gh_F) (φ b n k : Nat) (o : Option Nat) (p : Nat) (X Y : vt) (T : sr) (F : Nat → Prop) : Prop := (o = none ∧ T = sr_D cb bg n p X Y ∧ rs_ok cb bg N n p X ∧ ∀ i, ¬ F i) ∨ ∃ j v, o = some j ∧ rs E ρ Z cb bg N f φ n 0 j v T F ∧ (∀ i, F i → i < b) ∧ ¬ F k
/-- a step that has just begun -/
theorem rs_new {E : gh_E} {ρ Z : Nat → Nat} {cb bg : Nat → Nat} {N : Nat} {g : gh_F} {φ n p it el b : Nat} {X Y : vt} (ho : rs_ok cb bg N n p X) (hb : b < 250) (hφ : φ ≤ 250) (hc : g (Z (1000 + b)) = some (.inr (5, [.int (nI p), .int (nI (20 - n)), .ref it, .ref el, .null, .null, .int 0, .int 0, .ref (Z 201)]))) (h1 : cw E (rP ρ) g it X) (h2 : cw E (rP ρ) g el Y) (h3 : cw E (rP ρ) g (Z 201) (vt_0 0)) : rs E ρ Z cb bg N g φ n 1 b (vt_0 0) (sr_B cb bg n p X Y) (fun i => i = b) := by
  obtain ⟨n1, w, rfl, hn, hq, h4, h5⟩ := ho
  have e : 20 - (n1 + 1) = 19 - n1 := by omega
  rw [e] at hc
  exact ⟨p, w, it, el, 0, 0, Z 201, X, Y, none, none, hc, ⟨hb, by omega, rfl⟩, ⟨hq, h4, h5⟩, ⟨h1, h2, h3⟩, ⟨16, Nat.le_refl _, zr_B, by omega⟩, Or.inl ⟨rfl, rfl, rfl, rfl, rfl, rfl, rfl⟩⟩
theorem rk_P.imp {φ : Nat} {T : sr} {r : Option Value} {φ1 : Nat} {K K1 : vt → sr → Prop} (h : rk_P φ T r φ1 K) (hK : ∀ d x R, T = sr_cons d x R → d ≤ φ → φ1 = φ - d → K x R → K1 x R) : rk_P φ T r φ1 K1 := by
  rcases h with h | h | h | ⟨d, x, R, h1, h2, h3, h4, h5⟩
  · exact Or.inl h
  · exact Or.inr (Or.inl h)
  · exact Or.inr (Or.inr (Or.inl h))
  · exact Or.inr (Or.inr (Or.inr ⟨d, x, R, h1, h2, h3, h4, hK d x R h1 h2 h4 h5⟩))
/-- with one paid ahead -/
theorem rk_P.paid {φ : Nat} {T : sr} {r : Option Value} {φ1 : Nat} {K : vt → sr → Prop} (h : rk_P (φ - 1) T r φ1 K) (hφ : 0 < φ) : rk_P φ (sr_add 1 T) r φ1 K := by
  rcases h with ⟨h1, h2, h3⟩ | ⟨d, h1, h2, h3, h4⟩ | ⟨d, h1, h2, h3, h4⟩ | ⟨d, x, R, h1, h2, h3, h4, h5⟩
  · exact Or.inl ⟨by rw [sr_c_add]; omega, h2, h3⟩
  · exact Or.inr (Or.inl ⟨1 + d, by rw [h1]; rfl, by omega, h3, by omega⟩)
  · exact Or.inr (Or.inr (Or.inl ⟨1 + d, by rw [h1]; rfl, by omega, h3, by omega⟩))
  · exact Or.inr (Or.inr (Or.inr ⟨1 + d, x, R, by rw [h1]; rfl, by omega, h3, by omega, h5⟩))
theorem rk_P.poor {T : sr} {K : vt → sr → Prop} (h : 0 < sr_c T) : rk_P 0 T (some (.int 2)) 0 K := Or.inl ⟨h, rfl, rfl⟩
theorem rk_P.le {φ : Nat} {T : sr} {r : Option Value} {φ1 : Nat} {K : vt → sr → Prop} (h : rk_P φ T r φ1 K) : φ1 ≤ φ := by
  rcases h with ⟨h1, h2, h3⟩ | ⟨d, h1, h2, h3, h4⟩ | ⟨d, h1, h2, h3, h4⟩ | ⟨d, x, R, h1, h2, h3, h4, h5⟩ <;> omega
theorem rk_P.ret {φ : Nat} {T : sr} {r : Option Value} {φ1 : Nat} {K : vt → sr → Prop} (h : rk_P φ T r φ1 K) : ∃ z : Int32, r = some (.int z) := by
  rcases h with ⟨h1, h2, h3⟩ | ⟨d, h1, h2, h3, h4⟩ | ⟨d, h1, h2, h3, h4⟩ | ⟨d, x, R, h1, h2, h3, h4, h5⟩
  · exact ⟨_, h2⟩
  · exact ⟨_, h3⟩
  · exact ⟨_, h3⟩
  · exact ⟨_, h3⟩
