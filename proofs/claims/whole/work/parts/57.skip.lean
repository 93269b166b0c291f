/-! Skipping what is falsy; the slots' counts. -/
def sr_skL : List (Nat × vt) → Nat × Bool → sr
  | [], e => ([], e)
  | a :: L, e => if vt_tr a.2 then (a :: L, e) else sr_add a.1 (sr_skL L e)
def sr_sk (T : sr) : sr := sr_skL T.1 T.2
theorem sr_sk_t {d : Nat} {x : vt} {R : sr} (h : vt_tr x = true) : sr_sk (sr_cons d x R) = sr_cons d x R := by
  show (if vt_tr x = true then _ else _) = _
  rw [if_pos h]; rfl
theorem sr_sk_f {d : Nat} {x : vt} {R : sr} (h : vt_tr x = false) : sr_sk (sr_cons d x R) = sr_add d (sr_sk R) := by
  show (if vt_tr x = true then _ else _) = _
  rw [if_neg (by rw [h]; decide)]; rfl
theorem sr_sk_end {d : Nat} : sr_sk (sr_end d) = sr_end d := rfl
theorem sr_sk_fail {d : Nat} : sr_sk (sr_fail d) = sr_fail d := rfl
theorem sr_els_add {U : sr} {g : Bool} {c : Nat} {T : sr} : sr_els U g (sr_add c T) = sr_add c (sr_els U g T) := by
  rcases sr_cases T with ⟨d, x, R, rfl⟩ | ⟨d, rfl⟩ | ⟨d, rfl⟩
  · cases h : vt_tr x with
    | true => rw [sr_add_cons, sr_els_t h, sr_els_t h]; rfl
    | false => rw [sr_add_cons, sr_els_f h, sr_els_f h, sr_add_add]
  · cases g with
    | true => rfl
    | false => rw [sr_add_end, sr_els_e0, sr_els_e0, sr_add_add]
  · cases g with
    | true => rfl
    | false => rw [sr_add_fail, sr_els_f0, sr_els_f0, sr_add_add]
theorem sr_els_sk {U : sr} {g : Bool} {T : sr} : sr_els U g (sr_sk T) = sr_els U g T := by
  obtain ⟨L, e⟩ := T
  induction L with
  | nil => rfl
  | cons a L ih =>
    cases h : vt_tr a.2 with
    | true =>
      show sr_els U g (sr_sk (sr_cons a.1 a.2 (L, e))) = _
      rw [sr_sk_t h]; rfl
    | false =>
      show sr_els U g (sr_sk (sr_cons a.1 a.2 (L, e))) = sr_els U g (sr_cons a.1 a.2 (L, e))
      rw [sr_sk_f h, sr_els_add, sr_els_f h, ih]
theorem sr_c_els {U : sr} {g : Bool} {T : sr} : sr_c (sr_sk T) ≤ sr_c (sr_els U g T) := by
  rw [← sr_els_sk]
  rcases sr_cases (sr_sk T) with ⟨d, x, R, h⟩ | ⟨d, h⟩ | ⟨d, h⟩
  · rw [h]
    cases hx : vt_tr x with
    | true => rw [sr_els_t hx]; exact Nat.le_refl _
    | false => rw [sr_els_f hx, sr_c_add]; exact Nat.le_add_right _ _
  · rw [h]
    cases g with
    | true => exact Nat.le_refl _
    | false => rw [sr_els_e0, sr_c_add]; exact Nat.le_add_right _ _
  · rw [h]
    cases g with
    | true => exact Nat.le_refl _
    | false => rw [sr_els_f0, sr_c_add]; exact Nat.le_add_right _ _
theorem rs.zr {E : gh_E} {ρ Z : Nat → Nat} {cb bg : Nat → Nat} {N : Nat} {f : gh_F} {φ n u k : Nat} {v : vt} {T : sr} {F : Nat → Prop} (h : rs E ρ Z cb bg N f φ n u k v T F) : ∃ q, q ≤ 16 ∧ zr q T.1 := by
  cases n with
  | zero => exact h.elim
  | succ n =>
    obtain ⟨pt, w, it, el, gv, pl, va, X, Y, fi, se, h1, h2, h3, h4, ⟨q, a, b, -⟩, -⟩ := h
    exact ⟨q, a, b⟩
theorem rk_S.zr {E : gh_E} {ρ Z : Nat → Nat} {cb bg : Nat → Nat} {N : Nat} {f : gh_F} {φ b n k : Nat} {o : Option Nat} {p : Nat} {X Y : vt} {T : sr} {F : Nat → Prop} (h : rk_S E ρ Z cb bg N f φ b n k o p X Y T F) : ∃ q, q ≤ 16 ∧ zr q T.1 := by
  rcases h with ⟨_, h, _⟩ | ⟨j, v, _, h, _⟩
  · exact ⟨0, Nat.zero_le _, by rw [h]; exact zr_addp zr_B (by decide)⟩
  · exact h.zr
theorem rk_S.k {E : gh_E} {ρ Z : Nat → Nat} {cb bg : Nat → Nat} {N : Nat} {f : gh_F} {φ b n k : Nat} {o : Option Nat} {p : Nat} {X Y : vt} {T : sr} {F : Nat → Prop} (h : rk_S E ρ Z cb bg N f φ b n k o p X Y T F) : ¬ F k ∧ ∀ i, F i → i < b := by
  rcases h with ⟨_, _, _, h⟩ | ⟨j, v, _, _, h1, h2⟩
  · exact ⟨h k, fun i hi => absurd hi (h i)⟩
  · exact ⟨h2, h1⟩
/-- what is left of the count behind a value -/
theorem zr_next {q d φ : Nat} {x : vt} {R : sr} (h : zr q (sr_cons d x R).1) (hq : q ≤ 16) (hd : d ≤ φ) : ∃ q1, q1 ≤ 16 ∧ zr q1 R.1 ∧ 16 * (φ - d) + q1 < 16 * φ + q := by
  have h2 : zr (if d = 0 then q - 1 else 15) R.1 := h.2
  have h1 : d = 0 → 1 ≤ q := h.1
  by_cases hd0 : d = 0
  · rw [if_pos hd0] at h2
    have := h1 hd0
    exact ⟨q - 1, by omega, h2, by omega⟩
  · rw [if_neg hd0] at h2
    exact ⟨15, by decide, h2, by omega⟩
theorem sr_c_sk {T : sr} : sr_c T ≤ sr_c (sr_sk T) := by
  rcases sr_cases T with ⟨d, x, R, rfl⟩ | ⟨d, rfl⟩ | ⟨d, rfl⟩
  · cases h : vt_tr x with
    | true => rw [sr_sk_t h]; exact Nat.le_refl _
    | false => rw [sr_sk_f h, sr_c_add]; exact Nat.le_add_right _ _
  · exact Nat.le_refl _
  · exact Nat.le_refl _
/-- an item of a value -/
theorem cw_item {E : gh_E} {P : Nat → Prop} {f : gh_F} {X : vt} {a j : Nat} (hv : vo 8 X) (hj : j < vt_c X) (h : cv E P f 7 a (vt_s X j)) : cw E P f a (vt_s X j) := by
  have ho := vo_o.mp hv
  have hs := ho.2.2.2.2.2.2.2.2.2.2.2 j hj
  have hh := ho.2.2.2.2.2.2.2.2.1.1
  exact ⟨h.up, hs.2.down (by omega)⟩
/-- nothing that was there has changed -/
theorem rn_R.keep0 {E : gh_E} {ρ Z : Nat → Nat} {f g : gh_F} {q0 N : Nat} {cb bg : Nat → Nat} {φ b : Nat} {s0 e0 : Int32} (h : rn_R E ρ Z f q0 N cb bg φ b s0 e0) (hfr : gh_fr f g (fun b => b ∈ ([] : List Nat))) : rn_R E ρ Z g q0 N cb bg φ b s0 e0 := by
  obtain ⟨h1, h2, h3, h4, h5⟩ := h
  refine ⟨hfr.at h1 (by simp), h2.keep hfr (fun b hb => absurd hb (by simp)), h3.keep h2.1 hfr (fun b hb => absurd hb (by simp)), fun j hj => ?_, rn_non h5 hfr⟩
  obtain ⟨y0, y1, y2, y3, y4, y5, y6, y7, y8, hy⟩ := h4 j hj
  exact ⟨y0, y1, y2, y3, y4, y5, y6, y7, y8, hfr.at hy (by simp)⟩
/-- only the gathering of values has changed -/
theorem rn_R.keepV {E : gh_E} {ρ Z : Nat → Nat} {f g : gh_F} {q0 N : Nat} {cb bg : Nat → Nat} {φ b : Nat} {s0 e0 : Int32} (h : rn_R E ρ Z f q0 N cb bg φ b s0 e0) (hfr : gh_fr f g (ga_M (Z 3) (Z 4) (Z 5))) (hg : ga_0 E (rP ρ) g (Z 3) (Z 4) (Z 5)) : rn_R E ρ Z g q0 N cb bg φ b s0 e0 := by
  obtain ⟨h1, h2, h3, h4, h5⟩ := h
  have hz := h2.1
  have e3 := hz 3 (by unfold rU; omega)
  have e4 := hz 4 (by unfold rU; omega)
  have e5 := hz 5 (by unfold rU; omega)
  have hM : ∀ a, ga_M (Z 3) (Z 4) (Z 5) a → 3 ≤ ρ a ∧ ρ a ≤ 5 := by
    intro a ha
    rcases List.mem_cons.mp ha with rfl | ha
    · omega
    · rcases List.mem_cons.mp ha with rfl | ha
      · omega
      · rw [List.mem_singleton.mp ha]; omega
  have hn : ∀ r, rU r → ¬ (3 ≤ r ∧ r ≤ 5) → ¬ ga_M (Z 3) (Z 4) (Z 5) (Z r) := fun r hr h z => by
    have := hM _ z
    rw [hz r hr] at this
    exact h this
  refine ⟨hfr.at h1 (hn 1 (by unfold rU; omega) (by omega)), h2.keep hfr (fun b hb => by have := hM b hb; omega), ⟨hg, fun j hj => (h3.2 j hj).keep hfr (hn _ (by unfold rU; omega) (by omega)) (hn _ (by unfold rU; omega) (by omega)) (hn _ (by unfold rU; omega) (by omega))⟩, fun j hj => ?_, rn_non h5 hfr⟩
  obtain ⟨y0, y1, y2, y3, y4, y5, y6, y7, y8, hy⟩ := h4 j hj
  exact ⟨y0, y1, y2, y3, y4, y5, y6, y7, y8, hfr.at hy (hn _ (by unfold rU; omega) (by omega))⟩
theorem sr_op_cc {e d : Nat} {h : vt → Option vt} {x : vt} {R : sr} : sr_c (sr_op e h (sr_cons d x R)) = d + e := by
  cases q : h x with
  | none => rw [sr_op_none q]; rfl
  | some v => rw [sr_op_some q]; rfl
/-- what is written beside the steps of others: the runner, the gathering of values, step k -/
def rn_N (ρ : Nat → Nat) (k : Nat) : Nat → Prop := fun a => ρ a = 1 ∨ (3 ≤ ρ a ∧ ρ a ≤ 5) ∨ ρ a = 1000 + k
theorem rn_N.P {ρ : Nat → Nat} {k : Nat} : ∀ a, rn_N ρ k a → ¬ rP ρ a := by
  intro a h z
  have z : ρ a = 0 := z
  rcases h with h | h | h <;> omega
theorem rn_N.st {ρ Z : Nat → Nat} {k i : Nat} (hz : rZ ρ Z) (hi : i < 250) (h : i ≠ k) : ¬ rn_N ρ k (Z (1000 + i)) := by
  intro z
  have e : ρ (Z (1000 + i)) = 1000 + i := hz _ (by unfold rU; omega)
  rcases z with z | z | z <;> omega
theorem rn_N.M {ρ : Nat → Nat} {k d b : Nat} {F : Nat → Prop} (hF : F k) : ∀ a, rn_N ρ k a → rn_M ρ d b F a := by
  intro a h
  rcases h with h | h | h
  · exact Or.inl h
  · exact Or.inr (Or.inl h)
  · exact Or.inr (Or.inr (Or.inr (Or.inr ⟨k, hF, h⟩)))
theorem ga_MZ {ρ Z : Nat → Nat} {k : Nat} (hz : rZ ρ Z) : ∀ a, ga_M (Z 3) (Z 4) (Z 5) a → rn_N ρ k a := by
  intro a ha
  have e3 := hz 3 (by unfold rU; omega)
  have e4 := hz 4 (by unfold rU; omega)
  have e5 := hz 5 (by unfold rU; omega)
  rcases List.mem_cons.mp ha with rfl | ha
  · exact Or.inr (Or.inl (by omega))
  · rcases List.mem_cons.mp ha with rfl | ha
    · exact Or.inr (Or.inl (by omega))
    · rw [List.mem_singleton.mp ha]; exact Or.inr (Or.inl (by omega))
