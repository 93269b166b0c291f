/-! A run: what is put out, how it ends, what fuel is left. -/
def sr_run : Nat → Nat → sr → List vt × Nat × Nat
  | 0, φ, _ => ([], 3, φ)
  | m + 1, φ, T => match T.1 with
    | [] => if T.2.1 ≤ φ then ([], (if T.2.2 then 0 else 1), φ - T.2.1) else ([], 2, 0)
    | a :: L => if a.1 ≤ φ then (a.2 :: (sr_run m (φ - a.1) (L, T.2)).1, (sr_run m (φ - a.1) (L, T.2)).2) else ([], 2, 0)
theorem sr_run_cons {m φ d : Nat} {x : vt} {R : sr} (h : d ≤ φ) : sr_run (m + 1) φ (sr_cons d x R) = (x :: (sr_run m (φ - d) R).1, (sr_run m (φ - d) R).2) := by
  show (if d ≤ φ then _ else _) = _
  rw [if_pos h]; rfl
theorem sr_run_end {m φ d : Nat} (h : d ≤ φ) : sr_run (m + 1) φ (sr_end d) = ([], 0, φ - d) := by
  show (if d ≤ φ then _ else _) = _
  rw [if_pos h]; rfl
theorem sr_run_fail {m φ d : Nat} (h : d ≤ φ) : sr_run (m + 1) φ (sr_fail d) = ([], 1, φ - d) := by
  show (if d ≤ φ then _ else _) = _
  rw [if_pos h]; rfl
theorem sr_run_poor {m φ : Nat} {T : sr} (h : φ < sr_c T) : sr_run (m + 1) φ T = ([], 2, 0) := by
  rcases sr_cases T with ⟨d, x, R, rfl⟩ | ⟨d, rfl⟩ | ⟨d, rfl⟩
  · show (if d ≤ φ then _ else _) = _
    rw [if_neg (Nat.not_le.mpr (show φ < d from h))]
  · show (if d ≤ φ then _ else _) = _
    rw [if_neg (Nat.not_le.mpr (show φ < d from h))]
  · show (if d ≤ φ then _ else _) = _
    rw [if_neg (Nat.not_le.mpr (show φ < d from h))]
theorem sr_run_paid {m φ : Nat} {T : sr} (h : 0 < φ) : sr_run (m + 1) φ (sr_add 1 T) = sr_run (m + 1) (φ - 1) T := by
  by_cases hc : φ < sr_c (sr_add 1 T)
  · rw [sr_run_poor hc, sr_run_poor (by rw [sr_c_add] at hc; omega)]
  · rw [sr_c_add] at hc
    rcases sr_cases T with ⟨d, x, R, rfl⟩ | ⟨d, rfl⟩ | ⟨d, rfl⟩
    · have hc : ¬ φ < 1 + d := hc
      rw [sr_add_cons, sr_run_cons (by omega), sr_run_cons (by omega), show φ - 1 - d = φ - (1 + d) by omega]
    · have hc : ¬ φ < 1 + d := hc
      rw [sr_add_end, sr_run_end (by omega), sr_run_end (by omega), show φ - 1 - d = φ - (1 + d) by omega]
    · have hc : ¬ φ < 1 + d := hc
      rw [sr_add_fail, sr_run_fail (by omega), sr_run_fail (by omega), show φ - 1 - d = φ - (1 + d) by omega]
theorem sr_run_len : ∀ {m φ : Nat} {T : sr}, (sr_run m φ T).1.length ≤ m := by
  intro m
  induction m with
  | zero => intro φ T; exact Nat.le_refl _
  | succ m ih =>
    intro φ T
    by_cases hc : φ < sr_c T
    · rw [sr_run_poor hc]; exact Nat.zero_le _
    · rcases sr_cases T with ⟨d, x, R, rfl⟩ | ⟨d, rfl⟩ | ⟨d, rfl⟩
      · have hc : ¬ φ < d := hc
        rw [sr_run_cons (by omega)]
        have := ih (φ := φ - d) (T := R)
        show _ + 1 ≤ _
        omega
      · have hc : ¬ φ < d := hc
        rw [sr_run_end (by omega)]; exact Nat.zero_le _
      · have hc : ¬ φ < d := hc
        rw [sr_run_fail (by omega)]; exact Nat.zero_le _
/-- the values put out -/
def rn_P (E : gh_E) (ρ Z : Nat → Nat) (f : gh_F) (xs : List vt) : Prop := ∃ (gp : Nat → Option Nat) (o : Nat → Nat), f (Z 2) = some (.inl (E.2.2.1 4, 16, .inr (.inr (.inr (.inr gp))))) ∧ xs.length ≤ 16 ∧ ∀ j, j < xs.length → gp j = some (o j) ∧ cw E (rP ρ) f (o j) (xs.getD j (vt_0 0))
theorem rn_P.keep {E : gh_E} {ρ Z : Nat → Nat} {f g : gh_F} {xs : List vt} {M : Nat → Prop} (h : rn_P E ρ Z f xs) (hfr : gh_fr f g M) (hM : ∀ b, M b → ¬ rP ρ b) (h2 : ¬ M (Z 2)) : rn_P E ρ Z g xs := by
  obtain ⟨gp, o, h1, h3, h4⟩ := h
  exact ⟨gp, o, hfr.at h1 h2, h3, fun j hj => ⟨(h4 j hj).1, (h4 j hj).2.keep hfr hM⟩⟩
/-- the array of what is put out is written -/
theorem rn_R.out {E : gh_E} {ρ Z : Nat → Nat} {f : gh_F} {q0 N : Nat} {cb bg : Nat → Nat} {φ b : Nat} {s0 e0 : Int32} (h : rn_R E ρ Z f q0 N cb bg φ b s0 e0) {e : va_E} : rn_R E ρ Z (gh_u f (Z 2) e) q0 N cb bg φ b s0 e0 := by
  obtain ⟨h1, h2, h3, h4, h5⟩ := h
  have hz := h2.1
  have hr : ρ (Z 2) = 2 := hz _ (by unfold rU; omega)
  have hfr : gh_fr f (gh_u f (Z 2) e) (fun b => ρ b = 2) := gh_fr.rf.put (Or.inl hr)
  refine ⟨hfr.at h1 (fun z => ?_), h2.keep hfr (fun b hb => ?_), h3.keep hz hfr (fun b hb => ?_), fun j hj => ?_, rn_non h5 hfr⟩
  · have e1 := hz 1 (by unfold rU; omega)
    have z : ρ (Z 1) = 2 := z
    omega
  · have hb : ρ b = 2 := hb
    omega
  · have hb : ρ b = 2 := hb
    omega
  · obtain ⟨y0, y1, y2, y3, y4, y5, y6, y7, y8, hy⟩ := h4 j hj
    refine ⟨y0, y1, y2, y3, y4, y5, y6, y7, y8, ?_⟩
    rw [gh_un (rz_ne hz (by unfold rU; omega) (by unfold rU; omega) (by omega))]
    exact hy
/-- what a run may write -/
def rn_MR (ρ : Nat → Nat) : Nat → Prop := fun a => (1 ≤ ρ a ∧ ρ a ≤ 5) ∨ (130 ≤ ρ a ∧ ρ a < 166) ∨ (1000 ≤ ρ a ∧ ρ a < 1250)
theorem rn_M.R {ρ : Nat → Nat} {d b : Nat} {F : Nat → Prop} (hF : ∀ j, F j → j < 250) : ∀ a, rn_M ρ d b F a → rn_MR ρ a := by
  intro a h
  rcases h with h | h | h | h | ⟨j, hj, h⟩
  · exact Or.inl (by omega)
  · exact Or.inl (by omega)
  · exact Or.inr (Or.inl (by omega))
  · exact Or.inr (Or.inr (by omega))
  · have := hF j hj
    exact Or.inr (Or.inr (by omega))
theorem rn_MR.P {ρ : Nat → Nat} : ∀ a, rn_MR ρ a → ¬ rP ρ a := by
  intro a h z
  have z : ρ a = 0 := z
  rcases h with h | h | h <;> omega
theorem rs_top {E : gh_E} {ρ Z : Nat → Nat} {cb bg : Nat → Nat} {N : Nat} {g : gh_F} {φ it el : Nat} {X Y : vt} (hq : qw cb bg N 13 0) (hX : vt_h X ≤ 7) (hφ : φ ≤ 250) (hc : g (Z (1000 + 0)) = some (.inr (5, [.int (nI 0), .int (nI 0), .ref it, .ref el, .null, .null, .int 0, .int 0, .ref (Z 201)]))) (h1 : cw E (rP ρ) g it X) (h2 : cw E (rP ρ) g el Y) (h3 : cw E (rP ρ) g (Z 201) (vt_0 0)) : rs E ρ Z cb bg N g φ 20 1 0 (vt_0 0) (sr_B cb bg 20 0 X Y) (fun i => i = 0) :=
  (rs_o (n := 19)).mpr ⟨0, 13, it, el, 0, 0, Z 201, X, Y, none, none, hc, ⟨by omega, by omega, rfl⟩, ⟨hq, fun _ => by omega, fun _ => by omega⟩, ⟨h1, h2, h3⟩, ⟨16, Nat.le_refl _, zr_B, by omega⟩, Or.inl ⟨rfl, rfl, rfl, rfl, rfl, rfl, rfl⟩⟩
