/-! A gathering of the runner is written. -/
theorem qw_two {cb bg : Nat → Nat} {N w pt : Nat} (hq : qw cb bg N w pt) (h : 0 < qy_parts (cb pt)) : 2 ≤ w := by
  cases w with
  | zero => exact hq.elim
  | succ w =>
    have hc := (qw_o.mp hq).2.2.2.2 0 h
    cases w with
    | zero => exact hc.elim
    | succ w => omega
abbrev rn_g (Z : Nat → Nat) (d : Nat) : Nat → Prop := ga_M (Z (130 + 3 * d)) (Z (131 + 3 * d)) (Z (132 + 3 * d))
theorem rn_g_r {ρ Z : Nat → Nat} (hz : rZ ρ Z) {d : Nat} (hd : d < 12) : ∀ a, rn_g Z d a → 130 + 3 * d ≤ ρ a ∧ ρ a < 133 + 3 * d := by
  intro a ha
  have e3 := hz (130 + 3 * d) (by unfold rU; omega)
  have e4 := hz (131 + 3 * d) (by unfold rU; omega)
  have e5 := hz (132 + 3 * d) (by unfold rU; omega)
  rcases List.mem_cons.mp ha with rfl | ha
  · omega
  · rcases List.mem_cons.mp ha with rfl | ha
    · omega
    · rw [List.mem_singleton.mp ha]; omega
theorem rn_R.keepG {E : gh_E} {ρ Z : Nat → Nat} {f g : gh_F} {q0 N : Nat} {cb bg : Nat → Nat} {φ b : Nat} {s0 e0 : Int32} (h : rn_R E ρ Z f q0 N cb bg φ b s0 e0) {d : Nat} (hd : d < 12) (hfr : gh_fr f g (rn_g Z d)) (hg : ga_0 E (rP ρ) g (Z (130 + 3 * d)) (Z (131 + 3 * d)) (Z (132 + 3 * d))) : rn_R E ρ Z g q0 N cb bg φ b s0 e0 := by
  obtain ⟨h1, h2, h3, h4, h5⟩ := h
  have hz := h2.1
  have hM := rn_g_r hz hd
  have hn : ∀ r, rU r → ¬ (130 + 3 * d ≤ r ∧ r < 133 + 3 * d) → ¬ rn_g Z d (Z r) := fun r hr h z => by
    have := hM _ z
    rw [hz r hr] at this
    exact h this
  refine ⟨hfr.at h1 (hn 1 (by unfold rU; omega) (by omega)), h2.keep hfr (fun b hb => by have := hM b hb; omega), ⟨h3.1.keep hfr (hn _ (by unfold rU; omega) (by omega)) (hn _ (by unfold rU; omega) (by omega)) (hn _ (by unfold rU; omega) (by omega)), fun j hj => ?_⟩, fun j hj => ?_, rn_non h5 hfr⟩
  · by_cases hjd : j = d
    · subst hjd; exact hg
    · exact (h3.2 j hj).keep hfr (hn _ (by unfold rU; omega) (by omega)) (hn _ (by unfold rU; omega) (by omega)) (hn _ (by unfold rU; omega) (by omega))
  · obtain ⟨y0, y1, y2, y3, y4, y5, y6, y7, y8, hy⟩ := h4 j hj
    exact ⟨y0, y1, y2, y3, y4, y5, y6, y7, y8, hfr.at hy (hn _ (by unfold rU; omega) (by omega))⟩
theorem rn_g.P {ρ Z : Nat → Nat} (hz : rZ ρ Z) {d : Nat} (hd : d < 12) : ∀ a, rn_g Z d a → ¬ rP ρ a := fun a ha z => by
  have := rn_g_r hz hd a ha
  have z : ρ a = 0 := z
  omega
theorem rn_g.st {ρ Z : Nat → Nat} (hz : rZ ρ Z) {d i : Nat} (hd : d < 12) (hi : i < 250) : ¬ rn_g Z d (Z (1000 + i)) := fun z => by
  have := rn_g_r hz hd _ z
  have e := hz (1000 + i) (by unfold rU; omega)
  omega
theorem rn_g.M {ρ Z : Nat → Nat} (hz : rZ ρ Z) {d d1 b : Nat} {F : Nat → Prop} (hd : d < 12) (h : d1 ≤ d) : ∀ a, rn_g Z d a → rn_M ρ d1 b F a := fun a ha => by
  have := rn_g_r hz hd a ha
  exact Or.inr (Or.inr (Or.inl (by omega)))
theorem sr_1_c {o : Option vt} : sr_c (sr_1 o) = 0 := by cases o <;> rfl
theorem sr_lst_c {xs : List vt} {T : sr} : sr_c T ≤ sr_c (sr_lst xs T) := by
  rcases sr_cases T with ⟨d, x, R, rfl⟩ | ⟨d, rfl⟩ | ⟨d, rfl⟩
  · by_cases h : xs.length < 16
    · rw [sr_lst_cons h, sr_c_add]; exact Nat.le_add_right _ _
    · rw [sr_lst_full h]; exact Nat.le_refl _
  · rw [sr_lst_end, sr_c_add]; exact Nat.le_add_right _ _
  · exact Nat.le_refl _
