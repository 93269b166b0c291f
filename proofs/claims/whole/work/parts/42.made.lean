/-! Making values: sums and heights by lists; what a new Value shows; the constants of Values. -/
theorem vt_wsum_app {xs : List vt} {x : vt} : vt_wsum (xs ++ [x]) = vt_wsum xs + vt_w x := by
  induction xs with
  | nil => rfl
  | cons y r ih => show vt_wsum (r ++ [x]) + vt_w y = vt_wsum r + vt_w y + vt_w x; rw [ih]; omega
theorem vt_hmax_app {xs : List vt} {x : vt} : vt_hmax (xs ++ [x]) = max (vt_hmax xs) (vt_h x + 1) := by
  induction xs with
  | nil => rfl
  | cons y r ih => show max (vt_hmax (r ++ [x])) (vt_h y + 1) = max (max (vt_hmax r) (vt_h y + 1)) (vt_h x + 1); rw [ih]; omega
theorem vt_take {xs : List vt} {n : Nat} (h : n < xs.length) : xs.take (n + 1) = xs.take n ++ [xs.getD n (vt_0 0)] := by
  induction xs generalizing n with
  | nil => exact absurd h (Nat.not_lt_zero n)
  | cons y r ih =>
    cases n with
    | zero => rfl
    | succ n =>
      have := ih (n := n) (by simpa using h)
      show y :: r.take (n + 1) = y :: (r.take n ++ [r.getD n (vt_0 0)])
      rw [this]
theorem va_ws {xs : List vt} {wt : Nat → Int32} (hw : ∀ j, j < xs.length → wt j = nI (vt_w (xs.getD j (vt_0 0)))) : ∀ n, n ≤ xs.length → gh_wsum wt n = nI (vt_wsum (xs.take n)) := by
  intro n
  induction n with
  | zero => intro _; rfl
  | succ n ih =>
    intro h
    show gh_wsum wt n + wt n = _
    rw [ih (by omega), hw n (by omega), vt_take (by omega), vt_wsum_app, nI_add]
theorem va_hs {xs : List vt} {ht : Nat → Int32} (hh : ∀ j, j < xs.length → ht j = nI (vt_h (xs.getD j (vt_0 0))) ∧ vt_h (xs.getD j (vt_0 0)) < 1000) : ∀ n, n ≤ xs.length → gh_hmax ht n = nI (vt_hmax (xs.take n)) ∧ vt_hmax (xs.take n) ≤ 1000 := by
  intro n
  induction n with
  | zero => intro _; exact ⟨rfl, by simp [vt_hmax]⟩
  | succ n ih =>
    intro h
    obtain ⟨i1, i2⟩ := ih (by omega)
    obtain ⟨h1, h2⟩ := hh n (by omega)
    rw [vt_take (by omega), vt_hmax_app]
    refine ⟨?_, by omega⟩
    show (if ht n < gh_hmax ht n then gh_hmax ht n else ht n + 1) = _
    rw [i1, h1]
    split
    · rename_i c
      rw [gq_lt (by omega) (by omega)] at c
      rw [Nat.max_eq_left (by omega)]
    · rename_i c
      rw [gq_lt (by omega) (by omega)] at c
      rw [Nat.max_eq_right (by omega)]
      exact (nI_succ _).symm
theorem vt_hmax_lt {xs : List vt} {j : Nat} (h : j < xs.length) : vt_h (xs.getD j (vt_0 0)) < vt_hmax xs := by
  induction xs generalizing j with
  | nil => exact absurd h (Nat.not_lt_zero j)
  | cons y r ih =>
    show _ < max (vt_hmax r) (vt_h y + 1)
    cases j with
    | zero => show vt_h y < _; omega
    | succ j =>
      have h1 := ih (j := j) (by simpa using h)
      have h2 : (y :: r).getD (j + 1) (vt_0 0) = r.getD j (vt_0 0) := rfl
      rw [h2]; omega
theorem vt_wsum_le {xs : List vt} {B : Nat} (h : ∀ j, j < xs.length → vt_w (xs.getD j (vt_0 0)) ≤ B) : vt_wsum xs ≤ 1 + xs.length * B := by
  induction xs with
  | nil => show 1 ≤ _; omega
  | cons y r ih =>
    have h0 := h 0 (by simp)
    have h1 := ih (fun j hj => h (j + 1) (by simp; omega))
    show vt_wsum r + vt_w y ≤ 1 + (r.length + 1) * B
    have h2 : vt_w y ≤ B := h0
    rw [Nat.add_mul]; omega
theorem vt_hmax_le {xs : List vt} {B : Nat} (h : ∀ j, j < xs.length → vt_h (xs.getD j (vt_0 0)) ≤ B) : vt_hmax xs ≤ B + 1 := by
  induction xs with
  | nil => show 0 ≤ _; omega
  | cons y r ih =>
    have h0 : vt_h y ≤ B := h 0 (by simp)
    have h1 := ih (fun j hj => h (j + 1) (by simp; omega))
    show max (vt_hmax r) (vt_h y + 1) ≤ _; omega
theorem vt_ws_take {k : Nat} {ks : List (List Int32)} {xs : List vt} : ∀ n, n ≤ xs.length → vt_ws (vt_m k ks xs) n = vt_wsum (xs.take n) := by
  intro n
  induction n with
  | zero => intro _; rfl
  | succ n ih =>
    intro h
    rw [vt_take (by omega), vt_wsum_app, ← ih (by omega)]
    rfl
theorem lt_ok0 : lt_ok [] := ⟨by decide, fun j hj => absurd hj (Nat.not_lt_zero j)⟩
/-- a list or an object of what was gathered -/
theorem cw_made {E : gh_E} {P : Nat → Prop} {g : gh_F} {a ka ia kk : Nat} {ks : List (List Int32)} {xs : List vt} {gk gi : Nat → Option Nat} {K B : Nat → Nat} (hk : kk = 5 ∧ ks = [] ∨ kk = 6 ∧ ks.length = xs.length) (hp : P a ∧ P ka ∧ P ia) (h0 : g a = some (.inr (6, [.int (nI kk), .long 0, .ref (E.2.2.2 1), .ref ka, .ref ia, .int (nI (vt_wsum xs)), .int (nI (vt_hmax xs))]))) (h1 : g ka = some (.inl (E.2.2.1 4, ks.length, .inr (.inr (.inr (.inr gk)))))) (h2 : g ia = some (.inl (E.2.2.1 4, xs.length, .inr (.inr (.inr (.inr gi)))))) (h3 : ∀ j, j < ks.length → gk j = some (K j) ∧ cv_S E P g (K j) (ks.getD j []) ∧ lt_ok (ks.getD j [])) (h4 : ∀ j, j < xs.length → gi j = some (B j) ∧ cw E P g (B j) (xs.getD j (vt_0 0))) (hx : xs.length ≤ 16) (hw : vt_wsum xs ≤ 100) (hh : vt_hmax xs ≤ 7) : cw E P g a (vt_m kk ks xs) := by
  refine ⟨cv_o.mpr ⟨E.2.2.2 1, ka, ia, gk, gi, K, B, hp, h0, ⟨Or.inl ⟨rfl, rfl⟩, fun z => ?_⟩, h1, h2, fun j hj => ⟨(h3 j hj).1, (h3 j hj).2.1⟩, fun j hj => ⟨(h4 j hj).1, cv.down (h4 j hj).2.1 (h4 j hj).2.2 (Nat.lt_of_lt_of_le (vt_hmax_lt hj) hh)⟩⟩, vo_o.mpr ⟨?_, fun _ => rfl, fun _ => rfl, lt_ok0, ?_, ?_, hx, hw, ⟨hh, fun z => by have z : xs.length = 0 := z; rw [List.length_eq_zero_iff.mp z]; rfl⟩, ?_, fun j hj => (h3 j hj).2.2, fun j hj => ⟨vt_hmax_lt hj, (h4 j hj).2.2.down (Nat.lt_of_lt_of_le (vt_hmax_lt hj) hh)⟩⟩⟩
  · have z : kk = 4 := z
    omega
  · show kk ≤ 6; omega
  · show ks.length = if kk = 6 then xs.length else 0
    rcases hk with ⟨h, h'⟩ | ⟨h, h'⟩
    · subst h; subst h'; rfl
    · subst h; rw [if_pos rfl]; exact h'
  · intro h
    have h : kk < 5 := h
    omega
  · show vt_wsum xs = vt_ws (vt_m kk ks xs) xs.length
    rw [vt_ws_take _ (Nat.le_refl _), List.take_length]
/-- a value with nothing in it -/
theorem cw_leaf {E : gh_E} {P : Nat → Prop} {g : gh_F} {a ni kk la : Nat} {n : Int64} {L : List Int32} {g0 : Nat → Option Nat} (hk : kk ≤ 4) (hn : kk ≠ 3 → n = 0) (hl : kk ≠ 4 → L = []) (hL : lt_ok L) (hp : P a ∧ P ni) (h0 : g a = some (.inr (6, [.int (nI kk), .long n, .ref la, .ref ni, .ref ni, .int 1, .int 0]))) (h1 : lt_A E P g la L) (h1s : kk = 4 → lt_S E P g la L) (h2 : g ni = some (.inl (E.2.2.1 4, 0, .inr (.inr (.inr (.inr g0)))))) : cw E P g a (fun _ => (kk, n, L, [], 0, 1, 0)) := by
  refine ⟨cv_o.mpr ⟨la, ni, ni, g0, g0, fun _ => 0, fun _ => 0, ⟨hp.1, hp.2, hp.2⟩, h0, ⟨h1, h1s⟩, h2, h2, fun j hj => absurd hj (Nat.not_lt_zero j), fun j hj => absurd hj (Nat.not_lt_zero j)⟩, vo_o.mpr ⟨?_, hn, hl, hL, ?_, fun _ => rfl, Nat.zero_le _, ?_, ⟨Nat.zero_le _, fun _ => rfl⟩, rfl, fun j hj => absurd hj (Nat.not_lt_zero j), fun j hj => absurd hj (Nat.not_lt_zero j)⟩⟩
  · show kk ≤ 6; omega
  · show 0 = if kk = 6 then 0 else 0
    split <;> rfl
  · show 1 ≤ 100; omega
theorem cv_S.cw {E : gh_E} {P : Nat → Prop} {f : gh_F} {a : Nat} {L : List Int32} (h : cv_S E P f a L) (hL : lt_ok L) : cw E P f a (vt_t L) := by
  obtain ⟨la, ka, ia, gk, gi, hp, h0, h1, h2, h3⟩ := h
  refine ⟨cv_o.mpr ⟨la, ka, ia, gk, gi, fun _ => 0, fun _ => 0, hp, h0, ⟨h1.A, fun _ => h1⟩, h2, h3, fun j hj => absurd hj (Nat.not_lt_zero j), fun j hj => absurd hj (Nat.not_lt_zero j)⟩, vo_o.mpr ⟨by show 4 ≤ 6; omega, fun _ => rfl, fun h => absurd rfl h, hL, rfl, fun _ => rfl, Nat.zero_le _, by show 1 ≤ 100; omega, ⟨Nat.zero_le _, fun _ => rfl⟩, rfl, fun j hj => absurd hj (Nat.not_lt_zero j), fun j hj => absurd hj (Nat.not_lt_zero j)⟩⟩
/-- all nulls, falses, trues are the same -/
theorem cw.triv {E : gh_E} {P : Nat → Prop} {f : gh_F} {a : Nat} {X : vt} (h : cw E P f a X) (hk : vt_k X < 3) : cw E P f a (vt_0 (vt_k X)) := by
  obtain ⟨la, ka, ia, gk, gi, K, B, hp, h0, h1, h2, h3, -⟩ := cv_o.mp h.1
  have ho := vo_o.mp h.2
  have hc : vt_c X = 0 := ho.2.2.2.2.2.1 (by omega)
  have hq : (vt_q X).length = 0 := by rw [ho.2.2.2.2.1, if_neg (by omega)]
  have hw : vt_w X = 1 := by rw [ho.2.2.2.2.2.2.2.2.2.1, hc]; rfl
  have hh : vt_h X = 0 := ho.2.2.2.2.2.2.2.2.1.2 hc
  have hl : vt_l X = [] := ho.2.2.1 (by omega)
  rw [ho.2.1 (by omega), hw, hh] at h0
  rw [hl] at h1
  rw [hq] at h2
  rw [hc] at h3
  refine ⟨cv_o.mpr ⟨la, ka, ia, gk, gi, fun _ => 0, fun _ => 0, hp, h0, ⟨h1.1, fun z => ?_⟩, h2, h3, fun j hj => absurd hj (Nat.not_lt_zero j), fun j hj => absurd hj (Nat.not_lt_zero j)⟩, vo_o.mpr ⟨?_, fun _ => rfl, fun _ => rfl, lt_ok0, ?_, fun _ => rfl, Nat.zero_le _, by show 1 ≤ 100; omega, ⟨Nat.zero_le _, fun _ => rfl⟩, rfl, fun j hj => absurd hj (Nat.not_lt_zero j), fun j hj => absurd hj (Nat.not_lt_zero j)⟩⟩
  · have z : vt_k X = 4 := z
    omega
  · show vt_k X ≤ 6; omega
  · show 0 = if vt_k X = 6 then 0 else 0
    split <;> rfl
/-- a string's Value as one that other values have for a key -/
theorem cw.str {E : gh_E} {P : Nat → Prop} {f : gh_F} {a : Nat} {X : vt} (h : cw E P f a X) (hk : vt_k X = 4) : cv_S E P f a (vt_l X) := by
  obtain ⟨la, ka, ia, gk, gi, K, B, hp, h0, h1, h2, h3, -⟩ := cv_o.mp h.1
  have ho := vo_o.mp h.2
  have hq : (vt_q X).length = 0 := by rw [ho.2.2.2.2.1, hk]; rfl
  have hc : vt_c X = 0 := ho.2.2.2.2.2.1 (by omega)
  have hw : vt_w X = 1 := by rw [ho.2.2.2.2.2.2.2.2.2.1, hc]; rfl
  have hh : vt_h X = 0 := ho.2.2.2.2.2.2.2.2.1.2 hc
  rw [hk, ho.2.1 (by omega), hw, hh] at h0
  rw [hq] at h2
  rw [hc] at h3
  exact ⟨la, ka, ia, gk, gi, hp, h0, h1.2 hk, h2, h3⟩
def vs_C (E : gh_E) (P : Nat → Prop) (f : gh_F) (vs nu no ye ni al ga : Nat) : Prop := (P vs ∧ P ni ∧ P al) ∧ f vs = some (.inr (7, [.ref nu, .ref no, .ref ye, .ref ni, .ref al, .ref ga])) ∧ cw E P f nu (vt_0 0) ∧ cw E P f no (vt_0 1) ∧ cw E P f ye (vt_0 2) ∧ (∃ g0 : Nat → Option Nat, f ni = some (.inl (E.2.2.1 4, 0, .inr (.inr (.inr (.inr g0)))))) ∧ ∃ (g1 : Nat → Option Nat) (X : Nat → Nat), f al = some (.inl (E.2.2.1 4, 26, .inr (.inr (.inr (.inr g1))))) ∧ ∀ j, j < 26 → g1 j = some (X j) ∧ cv_S E P f (X j) [nI (97 + j)]
theorem vs_C.keep {E : gh_E} {P M : Nat → Prop} {f g : gh_F} {vs nu no ye ni al ga : Nat} (h : vs_C E P f vs nu no ye ni al ga) (hfr : gh_fr f g M) (hM : ∀ b, M b → ¬ P b) : vs_C E P g vs nu no ye ni al ga := by
  obtain ⟨⟨p1, p2, p3⟩, h1, h2, h3, h4, ⟨g0, h5⟩, g1, X, h6, h7⟩ := h
  exact ⟨⟨p1, p2, p3⟩, hfr.at h1 (fun z => hM _ z p1), h2.keep hfr hM, h3.keep hfr hM, h4.keep hfr hM, ⟨g0, hfr.at h5 (fun z => hM _ z p2)⟩, g1, X, hfr.at h6 (fun z => hM _ z p3), fun j hj => ⟨(h7 j hj).1, (h7 j hj).2.keep hfr hM⟩⟩
theorem vt_hm0 {M : Nat → Prop} (h : ∀ b, ¬ M b) {P : Nat → Prop} : ∀ b, M b → ¬ P b := fun b hb => absurd hb (h b)
/-- the letter that stands for itself -/
def vt_ch (k : Nat) : List Int32 := [nI k]
theorem lt_ch {k : Nat} (h : 32 ≤ k ∧ k ≤ 126) : lt_ok [nI k] := ⟨by show 1 ≤ 24; omega, fun j hj => ⟨k, h.1, h.2, by
  have : j = 0 := by simp at hj; omega
  subst this; rfl⟩⟩
