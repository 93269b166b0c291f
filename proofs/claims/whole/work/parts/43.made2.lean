/-! What the methods of Values answer, without a heap. -/
/-- an answer: null, or a Value that shows this -/
def vr_A (E : gh_E) (P : Nat → Prop) (g : gh_F) (o : Option vt) (r : Option Value) : Prop := match o with
  | none => r = some .null
  | some X => ∃ b, r = some (.ref b) ∧ cw E P g b X
def vt_mk (k : Nat) (ks : List (List Int32)) (xs : List vt) : Option vt := if vt_wsum xs ≤ 100 ∧ vt_hmax xs ≤ 7 then some (vt_m k ks xs) else none
def vt_wm (O : vt) (L : List Int32) (X : vt) : Option vt := match vt_pa O (vt_c O) 0 ([], []) with
  | none => none
  | some s => match vt_put s L X with
    | none => none
    | some t => vt_mk 6 t.1 t.2
def vt_jl (X Y : vt) : Option vt := match vt_aa X (vt_c X) 0 [] with
  | none => none
  | some s => match vt_aa Y (vt_c Y) 0 s with
    | none => none
    | some t => vt_mk 5 [] t
def vt_jo (X Y : vt) : Option vt := match vt_pa X (vt_c X) 0 ([], []) with
  | none => none
  | some s => match vt_pa Y (vt_c Y) 0 s with
    | none => none
    | some t => vt_mk 6 t.1 t.2
def vt_js (X Y : List Int32) : Option vt := if X.length + Y.length ≤ 24 then some (vt_t (X ++ Y)) else none
def vt_sum (X Y : vt) : Option vt :=
  if vt_k X = 0 then some Y else if vt_k Y = 0 then some X else if vt_k X = vt_k Y then
    (if vt_k X = 3 then some (vt_i (vt_n X + vt_n Y)) else if vt_k X = 4 then vt_js (vt_l X) (vt_l Y) else if vt_k X = 5 then vt_jl X Y else if vt_k X = 6 then vt_jo X Y else none)
  else none
def vt_dif (X Y : vt) : Option vt := if vt_k X = 3 ∧ vt_k Y = 3 then some (vt_i (vt_n X - vt_n Y)) else none
def vt_mul (X Y : vt) : Option vt := if vt_k X = 3 ∧ vt_k Y = 3 then some (vt_i (vt_n X * vt_n Y)) else none
def vt_ks (O : vt) : vt := vt_m 5 [] ((vt_q O).map vt_t)
theorem cw.cell {E : gh_E} {P : Nat → Prop} {f : gh_F} {a : Nat} {X : vt} (h : cw E P f a X) : ∃ vs9 : List Value, f a = some (.inr (6, vs9)) := by
  obtain ⟨la, ka, ia, gk, gi, K, B, hp, h0, -⟩ := cv_o.mp h.1
  exact ⟨_, h0⟩
theorem cv_S.cell {E : gh_E} {P : Nat → Prop} {f : gh_F} {a : Nat} {L : List Int32} (h : cv_S E P f a L) : ∃ vs9 : List Value, f a = some (.inr (6, vs9)) := by
  obtain ⟨la, ka, ia, gk, gi, hp, h0, -⟩ := h
  exact ⟨_, h0⟩
theorem cw.wh {E : gh_E} {P : Nat → Prop} {f : gh_F} {a : Nat} {X : vt} (h : cw E P f a X) : ∃ x1 x2 x3 x4 x5 : Value, f a = some (.inr (6, [x1, x2, x3, x4, x5, .int (nI (vt_w X)), .int (nI (vt_h X))])) := by
  obtain ⟨la, ka, ia, gk, gi, K, B, hp, h0, -⟩ := cv_o.mp h.1
  exact ⟨_, _, _, _, _, h0⟩
theorem cw_hv {E : gh_E} {P : Nat → Prop} {f f0 : gh_F} {M : Nat → Prop} {xs : List vt} {gx : Nat → Option Nat} {B : Nat → Nat} {q : Nat} (hfr : gh_fr f0 f M) (hM : ∀ b, M b → ¬ P b) (hg : ∀ j, j < xs.length → gx j = some (B j)) (h7 : ∀ j, j < xs.length → cw E P f0 (B j) (xs.getD j (vt_0 0))) (hq : f0 q = none) : ∀ j, j < xs.length → gx j = some (B j) ∧ B j ≠ q ∧ ∃ x1 x2 x3 x4 x5, f (B j) = some (.inr (6, [x1, x2, x3, x4, x5, .int ((fun j => nI (vt_w (xs.getD j (vt_0 0)))) j), .int ((fun j => nI (vt_h (xs.getD j (vt_0 0)))) j)])) := by
  intro j hj
  obtain ⟨vs9, hc⟩ := (h7 j hj).cell
  obtain ⟨x1, x2, x3, x4, x5, h⟩ := ((h7 j hj).keep hfr hM).wh
  exact ⟨hg j hj, gh_ne0 hc hq, x1, x2, x3, x4, x5, h⟩
theorem va_wsN {xs : List vt} : gh_wsum (fun j => nI (vt_w (xs.getD j (vt_0 0)))) xs.length = nI (vt_wsum xs) := by
  rw [va_ws (xs := xs) (fun j _ => rfl) _ (Nat.le_refl _), List.take_length]
theorem va_hsN {xs : List vt} (h : ∀ j, j < xs.length → vt_h (xs.getD j (vt_0 0)) < 1000) : gh_hmax (fun j => nI (vt_h (xs.getD j (vt_0 0)))) xs.length = nI (vt_hmax xs) := by
  rw [(va_hs (xs := xs) (fun j hj => ⟨rfl, h j hj⟩) _ (Nat.le_refl _)).1, List.take_length]
theorem cw.le {E : gh_E} {P : Nat → Prop} {f : gh_F} {a : Nat} {X : vt} (h : cw E P f a X) : vt_w X ≤ 100 ∧ vt_h X ≤ 7 := by
  have ho := vo_o.mp h.2
  exact ⟨ho.2.2.2.2.2.2.2.1, ho.2.2.2.2.2.2.2.2.1.1⟩
theorem ga_lim {E : gh_E} {P : Nat → Prop} {f : gh_F} {xs : List vt} {B : Nat → Nat} (hx : xs.length ≤ 16) (h7 : ∀ j, j < xs.length → cw E P f (B j) (xs.getD j (vt_0 0))) : vt_wsum xs < 10000 ∧ vt_hmax xs < 10000 ∧ ∀ j, j < xs.length → vt_h (xs.getD j (vt_0 0)) < 1000 := by
  have h1 := vt_wsum_le (B := 100) (fun j hj => ((h7 j hj).le).1)
  have h2 := vt_hmax_le (B := 7) (fun j hj => ((h7 j hj).le).2)
  refine ⟨?_, by omega, fun j hj => by have := ((h7 j hj).le).2; omega⟩
  have : xs.length * 100 ≤ 1600 := by omega
  omega
theorem vt_put_len2 {s s' : List (List Int32) × List vt} {L : List Int32} {X : vt} (h : vt_put s L X = some s') (hs : s.1.length = s.2.length) : s'.1.length = s'.2.length := vt_put_len h hs
theorem vt_pa_len {O : vt} : ∀ {n i : Nat} {s s' : List (List Int32) × List vt}, vt_pa O n i s = some s' → s.1.length = s.2.length → s'.1.length = s'.2.length := by
  intro n
  induction n with
  | zero => intro i s s' h hs; unfold vt_pa at h; cases h; exact hs
  | succ n ih =>
    intro i s s' h hs
    unfold vt_pa at h
    split at h
    · cases h
    · rename_i s2 h2
      exact ih h (vt_put_len h2 hs)
theorem lt_nar1 : ∀ c : Nat, c < 127 → vp_nar .char (nI c) = nI c := by decide +kernel
theorem lt_nar {L : List Int32} (hL : lt_ok L) {i : Nat} (hi : i < L.length) : vp_nar .char (L.getD i 0) = L.getD i 0 := by
  obtain ⟨c, h1, h2, h3⟩ := hL.2 i hi
  rw [h3]
  exact lt_nar1 c (by omega)
theorem lt_step {L : List Int32} (hL : lt_ok L) {gx gl : Nat → Int32} {i : Nat} (hi : i < L.length) (hg : ∀ j, j < i → gx j = L.getD j 0) (h : gl i = L.getD i 0) : ∀ j, j < i + 1 → upd gx i (vp_nar .char (gl i)) j = L.getD j 0 := by
  intro j hj
  unfold upd
  by_cases hji : j = i
  · rw [if_pos hji, h, lt_nar hL hi, hji]
  · rw [if_neg hji]
    exact hg j (by omega)
theorem lt_cat {X Y : List Int32} (hX : lt_ok X) (hY : lt_ok Y) (h : X.length + Y.length ≤ 24) : lt_ok (X ++ Y) := by
  refine ⟨by simp; omega, fun j hj => ?_⟩
  by_cases hjx : j < X.length
  · have : (X ++ Y).getD j 0 = X.getD j 0 := by simp [List.getD, List.getElem?_append_left hjx]
    rw [this]
    exact hX.2 j hjx
  · have hj2 : j - X.length < Y.length := by simp at hj; omega
    have : (X ++ Y).getD j 0 = Y.getD (j - X.length) 0 := by simp [List.getD, List.getElem?_append_right (Nat.le_of_not_lt hjx)]
    rw [this]
    exact hY.2 _ hj2
theorem va_fill {gx : Nat → Option Nat} {B : Nat → Nat} {i : Nat} (h : ∀ j, j < i → gx j = some (B j)) : ∀ j, j < i + 1 → va_up gx i (some (B i)) j = some (B j) := by
  intro j hj
  by_cases hji : j = i
  · rw [hji, va_up_s]
  · rw [va_up_n hji]; exact h j (by omega)
