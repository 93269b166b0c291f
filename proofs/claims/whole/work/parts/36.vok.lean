/-! Values within the limits; what is asked of them. -/
def vt_ws (X : vt) : Nat → Nat
  | 0 => 1
  | k + 1 => vt_ws X k + vt_w (vt_s X k)
def lt_ok (L : List Int32) : Prop := L.length ≤ 24 ∧ ∀ j, j < L.length → ∃ c : Nat, 32 ≤ c ∧ c ≤ 126 ∧ L.getD j 0 = nI c
def vo : Nat → vt → Prop
  | 0, _ => False
  | n + 1, X => vt_k X ≤ 6 ∧ (vt_k X ≠ 3 → vt_n X = 0) ∧ (vt_k X ≠ 4 → vt_l X = []) ∧ lt_ok (vt_l X) ∧ (vt_q X).length = (if vt_k X = 6 then vt_c X else 0) ∧ (vt_k X < 5 → vt_c X = 0) ∧ vt_c X ≤ 16 ∧ vt_w X ≤ 100 ∧ (vt_h X ≤ n ∧ (vt_c X = 0 → vt_h X = 0)) ∧ vt_w X = vt_ws X (vt_c X) ∧ (∀ j, j < (vt_q X).length → lt_ok ((vt_q X).getD j [])) ∧ ∀ j, j < vt_c X → vt_h (vt_s X j) < vt_h X ∧ vo n (vt_s X j)
theorem vo_o {n : Nat} {X : vt} : vo (n + 1) X ↔ vt_k X ≤ 6 ∧ (vt_k X ≠ 3 → vt_n X = 0) ∧ (vt_k X ≠ 4 → vt_l X = []) ∧ lt_ok (vt_l X) ∧ (vt_q X).length = (if vt_k X = 6 then vt_c X else 0) ∧ (vt_k X < 5 → vt_c X = 0) ∧ vt_c X ≤ 16 ∧ vt_w X ≤ 100 ∧ (vt_h X ≤ n ∧ (vt_c X = 0 → vt_h X = 0)) ∧ vt_w X = vt_ws X (vt_c X) ∧ (∀ j, j < (vt_q X).length → lt_ok ((vt_q X).getD j [])) ∧ ∀ j, j < vt_c X → vt_h (vt_s X j) < vt_h X ∧ vo n (vt_s X j) := Iff.rfl
theorem vo.down : ∀ {n m : Nat} {X : vt}, vo n X → vt_h X < m → vo m X := by
  intro n
  induction n with
  | zero => intro m X h; exact h.elim
  | succ n ih =>
    intro m X h hm
    cases m with
    | zero => omega
    | succ m =>
      obtain ⟨h1, h2, h3, h4, h5, h6, h7, h8, h9, h10, h11, h12⟩ := h
      exact ⟨h1, h2, h3, h4, h5, h6, h7, h8, ⟨by omega, h9.2⟩, h10, h11, fun j hj => ⟨(h12 j hj).1, ih (h12 j hj).2 (by have := (h12 j hj).1; omega)⟩⟩
theorem cv.down {E : gh_E} {P : Nat → Prop} {f : gh_F} : ∀ {n k m a : Nat} {X : vt}, cv E P f n a X → vo k X → vt_h X < m → cv E P f m a X := by
  intro n
  induction n with
  | zero => intro k m a X h; exact h.elim
  | succ n ih =>
    intro k m a X h hv hm
    cases m with
    | zero => omega
    | succ m =>
      cases k with
      | zero => exact hv.elim
      | succ k =>
        obtain ⟨la, ka, ia, gk, gi, K, B, hp, h0, h1, h2, h3, h4, h5⟩ := h
        have hs := (vo_o.mp hv).2.2.2.2.2.2.2.2.2.2.2
        exact ⟨la, ka, ia, gk, gi, K, B, hp, h0, h1, h2, h3, h4, fun j hj => ⟨(h5 j hj).1, ih (h5 j hj).2 (hs j hj).2 (by have := (hs j hj).1; omega)⟩⟩
/-- the Value at a shows X, and X is within the limits -/
def cw (E : gh_E) (P : Nat → Prop) (f : gh_F) (a : Nat) (X : vt) : Prop := cv E P f 8 a X ∧ vo 8 X
theorem cw.keep {E : gh_E} {P M : Nat → Prop} {f g : gh_F} {a : Nat} {X : vt} (h : cw E P f a X) (hfr : gh_fr f g M) (hM : ∀ b, M b → ¬ P b) : cw E P g a X := ⟨cv.keep hfr hM h.1, h.2⟩
def vt_tr (X : vt) : Bool := !decide (vt_k X = 0) && !decide (vt_k X = 1)
def vt_hi (X : vt) : Bool := decide (vt_k X = 5) || decide (vt_k X = 6)
def vt_wl (X : vt) : Bool := decide (vt_w X ≤ 100) && decide (vt_h X ≤ 7)
def vt_sz (X : vt) : Nat := if vt_k X = 4 then (vt_l X).length else vt_c X
def vt_lt (X Y : vt) : Bool := if vt_k X = vt_k Y then (if vt_k X = 3 then decide (vt_n X < vt_n Y) else decide (vt_ord (vt_l X) (vt_l Y) < 0)) else decide (vt_k X < vt_k Y)
def vt_pl (X Y : vt) (i : Nat) : Option Nat := if vt_k X = 6 then vt_find (vt_q Y) ((vt_q X).getD i []) else some i
def vt_sml (g : vt → vt → Bool) (X Y : vt) : Nat → Nat → Bool
  | 0, _ => true
  | m + 1, i => match vt_pl X Y i with
    | none => false
    | some j => if g (vt_s X i) (vt_s Y j) then vt_sml g X Y m (i + 1) else false
def vt_sm : Nat → vt → vt → Bool
  | 0, _, _ => false
  | n + 1, X, Y => if vt_k X = vt_k Y ∧ vt_c X = vt_c Y ∧ vt_n X = vt_n Y ∧ vt_ord (vt_l X) (vt_l Y) = 0 then vt_sml (vt_sm n) X Y (vt_c X) 0 else false
theorem vt_fd_lt {Q : List (List Int32)} {K : List Int32} : ∀ {n k j : Nat}, vt_fd Q K n k = some j → j < k + n := by
  intro n
  induction n with
  | zero => intro k j h; cases h
  | succ n ih =>
    intro k j h
    unfold vt_fd at h
    split at h
    · cases h; omega
    · have := ih h; omega
theorem vt_find_lt {Q : List (List Int32)} {K : List Int32} {j : Nat} (h : vt_find Q K = some j) : j < Q.length := by have := vt_fd_lt h; omega
theorem lg_lt {x y : Int64} : (lg_cmp x y < 0) = (x < y) := by
  apply propext
  unfold lg_cmp
  constructor
  · intro h
    split at h
    · exact absurd h (by decide)
    · split at h
      · exact absurd h (by decide)
      · rename_i h1 h2
        simp only [Int64.lt_iff_toInt_lt, Int64.toInt_inj.symm] at *
        omega
  · intro h
    have h1 : ¬ y < x := by simp only [Int64.lt_iff_toInt_lt] at *; omega
    have h2 : ¬ x = y := by intro z; subst z; simp only [Int64.lt_iff_toInt_lt] at *; omega
    simp [h1, h2]
theorem lg_eq {x y : Int64} : (lg_cmp x y = 0) = (x = y) := by
  apply propext
  unfold lg_cmp
  constructor
  · intro h
    split at h
    · exact absurd h (by decide)
    · split at h
      · assumption
      · exact absurd h (by decide)
  · intro h
    subst h
    have h1 : ¬ x < x := by simp only [Int64.lt_iff_toInt_lt] at *; omega
    simp [h1]
