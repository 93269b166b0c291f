/-! What the parts of a query lead to, without fuel: a list of values, each with its cost, and how it ends. -/
abbrev sr : Type := List (Nat × vt) × Nat × Bool
def sr_cons (d : Nat) (x : vt) (T : sr) : sr := ((d, x) :: T.1, T.2)
def sr_end (d : Nat) : sr := ([], d, true)
def sr_fail (d : Nat) : sr := ([], d, false)
theorem sr_cases (T : sr) : (∃ d x R, T = sr_cons d x R) ∨ (∃ d, T = sr_end d) ∨ ∃ d, T = sr_fail d := by
  obtain ⟨L, d, b⟩ := T
  cases L with
  | nil =>
    cases b with
    | true => exact Or.inr (Or.inl ⟨d, rfl⟩)
    | false => exact Or.inr (Or.inr ⟨d, rfl⟩)
  | cons a L => exact Or.inl ⟨a.1, a.2, (L, d, b), rfl⟩
/-- the cost of what comes first -/
def sr_c (T : sr) : Nat := match T.1 with
  | [] => T.2.1
  | a :: _ => a.1
def sr_add (c : Nat) (T : sr) : sr := match T.1 with
  | [] => ([], c + T.2.1, T.2.2)
  | a :: L => ((c + a.1, a.2) :: L, T.2)
theorem sr_add_cons {c d : Nat} {x : vt} {R : sr} : sr_add c (sr_cons d x R) = sr_cons (c + d) x R := rfl
theorem sr_add_end {c d : Nat} : sr_add c (sr_end d) = sr_end (c + d) := rfl
theorem sr_add_fail {c d : Nat} : sr_add c (sr_fail d) = sr_fail (c + d) := rfl
theorem sr_add_add {a b : Nat} {T : sr} : sr_add a (sr_add b T) = sr_add (a + b) T := by
  rcases sr_cases T with ⟨d, x, R, rfl⟩ | ⟨d, rfl⟩ | ⟨d, rfl⟩
  · show sr_cons (a + (b + d)) x R = sr_cons (a + b + d) x R
    rw [Nat.add_assoc]
  · show sr_end (a + (b + d)) = sr_end (a + b + d)
    rw [Nat.add_assoc]
  · show sr_fail (a + (b + d)) = sr_fail (a + b + d)
    rw [Nat.add_assoc]
theorem sr_add_0 {T : sr} : sr_add 0 T = T := by
  rcases sr_cases T with ⟨d, x, R, rfl⟩ | ⟨d, rfl⟩ | ⟨d, rfl⟩
  · show sr_cons (0 + d) x R = _; rw [Nat.zero_add]
  · show sr_end (0 + d) = _; rw [Nat.zero_add]
  · show sr_fail (0 + d) = _; rw [Nat.zero_add]
theorem sr_c_add {c : Nat} {T : sr} : sr_c (sr_add c T) = c + sr_c T := by
  rcases sr_cases T with ⟨d, x, R, rfl⟩ | ⟨d, rfl⟩ | ⟨d, rfl⟩ <;> rfl
def sr_seqL : List (Nat × vt) → Nat × Bool → sr → sr
  | [], e, U => if e.2 then sr_add e.1 U else ([], e)
  | a :: L, e, U => (a :: (sr_seqL L e U).1, (sr_seqL L e U).2)
/-- the one, and where it ends the other -/
def sr_seq (T U : sr) : sr := sr_seqL T.1 T.2 U
theorem sr_seq_cons {d : Nat} {x : vt} {R U : sr} : sr_seq (sr_cons d x R) U = sr_cons d x (sr_seq R U) := rfl
theorem sr_seq_end {d : Nat} {U : sr} : sr_seq (sr_end d) U = sr_add d U := rfl
theorem sr_seq_fail {d : Nat} {U : sr} : sr_seq (sr_fail d) U = sr_fail d := rfl
theorem sr_seq_add {c : Nat} {T U : sr} : sr_seq (sr_add c T) U = sr_add c (sr_seq T U) := by
  rcases sr_cases T with ⟨d, x, R, rfl⟩ | ⟨d, rfl⟩ | ⟨d, rfl⟩
  · rfl
  · show sr_add (c + d) U = sr_add c (sr_add d U)
    rw [sr_add_add]
  · rfl
theorem sr_seq_c {T U : sr} : sr_c T ≤ sr_c (sr_seq T U) := by
  rcases sr_cases T with ⟨d, x, R, rfl⟩ | ⟨d, rfl⟩ | ⟨d, rfl⟩
  · exact Nat.le_refl _
  · rw [sr_seq_end, sr_c_add]; exact Nat.le_add_right _ _
  · exact Nat.le_refl _
def sr_try (T : sr) : sr := (T.1, T.2.1, true)
def sr_bindL (g : vt → sr) : List (Nat × vt) → Nat × Bool → sr
  | [], e => ([], e)
  | a :: L, e => sr_add a.1 (sr_seq (g a.2) (sr_bindL g L e))
/-- for each value of the one what g makes of it -/
def sr_bind (g : vt → sr) (T : sr) : sr := sr_bindL g T.1 T.2
theorem sr_bind_cons {g : vt → sr} {d : Nat} {x : vt} {R : sr} : sr_bind g (sr_cons d x R) = sr_add d (sr_seq (g x) (sr_bind g R)) := rfl
theorem sr_bind_end {g : vt → sr} {d : Nat} : sr_bind g (sr_end d) = sr_end d := rfl
theorem sr_bind_fail {g : vt → sr} {d : Nat} : sr_bind g (sr_fail d) = sr_fail d := rfl
def sr_opL (e : Nat) (h : vt → Option vt) : List (Nat × vt) → Nat × Bool → sr
  | [], t => ([], t)
  | a :: L, t => match h a.2 with
    | none => sr_fail (a.1 + e)
    | some v => sr_cons (a.1 + e) v (sr_opL e h L t)
/-- each value through h, at the cost of e -/
def sr_op (e : Nat) (h : vt → Option vt) (T : sr) : sr := sr_opL e h T.1 T.2
theorem sr_op_some {e : Nat} {h : vt → Option vt} {d : Nat} {x v : vt} {R : sr} (q : h x = some v) : sr_op e h (sr_cons d x R) = sr_cons (d + e) v (sr_op e h R) := by
  show (match h x with | none => _ | some v => _) = _
  rw [q]; rfl
theorem sr_op_none {e : Nat} {h : vt → Option vt} {d : Nat} {x : vt} {R : sr} (q : h x = none) : sr_op e h (sr_cons d x R) = sr_fail (d + e) := by
  show (match h x with | none => _ | some v => _) = _
  rw [q]
theorem sr_op_end {e : Nat} {h : vt → Option vt} {d : Nat} : sr_op e h (sr_end d) = sr_end d := rfl
theorem sr_op_fail {e : Nat} {h : vt → Option vt} {d : Nat} : sr_op e h (sr_fail d) = sr_fail d := rfl
/-- the next value of the other part, for the value v of the one -/
theorem sr_op_c {e : Nat} {h : vt → Option vt} {T : sr} : sr_c T ≤ sr_c (sr_op e h T) := by
  rcases sr_cases T with ⟨d, x, R, rfl⟩ | ⟨d, rfl⟩ | ⟨d, rfl⟩
  · cases q : h x with
    | none => rw [sr_op_none q]; exact Nat.le_add_right _ _
    | some v => rw [sr_op_some q]; exact Nat.le_add_right _ _
  · exact Nat.le_refl _
  · exact Nat.le_refl _
theorem sr_op_id {T : sr} : sr_op 0 (fun y => some y) T = T := by
  obtain ⟨L, t⟩ := T
  show sr_opL 0 (fun y => some y) L t = (L, t)
  induction L with
  | nil => rfl
  | cons a L ih =>
    show sr_cons (a.1 + 0) a.2 (sr_opL 0 (fun y => some y) L t) = _
    rw [ih]; rfl
theorem sr_op_add {e c : Nat} {h : vt → Option vt} {T : sr} : sr_op e h (sr_add c T) = sr_add c (sr_op e h T) := by
  rcases sr_cases T with ⟨d, x, R, rfl⟩ | ⟨d, rfl⟩ | ⟨d, rfl⟩
  · cases q : h x with
    | none => rw [sr_add_cons, sr_op_none q, sr_op_none q, sr_add_fail, Nat.add_assoc]
    | some v => rw [sr_add_cons, sr_op_some q, sr_op_some q, sr_add_cons, Nat.add_assoc]
  · rfl
  · rfl
def sr_elsL (U : sr) : Bool → List (Nat × vt) → Nat × Bool → sr
  | g, [], e => if g then ([], e.1, true) else sr_add e.1 U
  | g, a :: L, e => if vt_tr a.2 then sr_cons a.1 a.2 (sr_elsL U true L e) else sr_add a.1 (sr_elsL U g L e)
/-- the truthy ones; the other where there is none -/
def sr_els (U : sr) (g : Bool) (T : sr) : sr := sr_elsL U g T.1 T.2
theorem sr_els_t {U : sr} {g : Bool} {d : Nat} {x : vt} {R : sr} (h : vt_tr x = true) : sr_els U g (sr_cons d x R) = sr_cons d x (sr_els U true R) := by
  show (if vt_tr x = true then _ else _) = _
  rw [if_pos h]; rfl
theorem sr_els_f {U : sr} {g : Bool} {d : Nat} {x : vt} {R : sr} (h : vt_tr x = false) : sr_els U g (sr_cons d x R) = sr_add d (sr_els U g R) := by
  show (if vt_tr x = true then _ else _) = _
  rw [if_neg (by rw [h]; decide)]; rfl
theorem sr_els_e1 {U : sr} {d : Nat} : sr_els U true (sr_end d) = sr_end d := rfl
theorem sr_els_f1 {U : sr} {d : Nat} : sr_els U true (sr_fail d) = sr_end d := rfl
theorem sr_els_e0 {U : sr} {d : Nat} : sr_els U false (sr_end d) = sr_add d U := rfl
theorem sr_els_f0 {U : sr} {d : Nat} : sr_els U false (sr_fail d) = sr_add d U := rfl
def sr_1 (o : Option vt) : sr := match o with
  | none => sr_fail 0
  | some v => sr_cons 0 v (sr_end 0)
def sr_lstL : List vt → List (Nat × vt) → Nat × Bool → sr
  | xs, [], e => if e.2 then sr_add e.1 (sr_1 (vt_mk 5 [] xs)) else ([], e)
  | xs, a :: L, e => if xs.length < 16 then sr_add a.1 (sr_lstL (xs ++ [a.2]) L e) else sr_fail a.1
/-- all in a list -/
def sr_lst (xs : List vt) (T : sr) : sr := sr_lstL xs T.1 T.2
theorem sr_lst_cons {xs : List vt} {d : Nat} {x : vt} {R : sr} (h : xs.length < 16) : sr_lst xs (sr_cons d x R) = sr_add d (sr_lst (xs ++ [x]) R) := by
  show (if xs.length < 16 then _ else _) = _
  rw [if_pos h]; rfl
theorem sr_lst_full {xs : List vt} {d : Nat} {x : vt} {R : sr} (h : ¬ xs.length < 16) : sr_lst xs (sr_cons d x R) = sr_fail d := by
  show (if xs.length < 16 then _ else _) = _
  rw [if_neg h]
theorem sr_lst_end {xs : List vt} {d : Nat} : sr_lst xs (sr_end d) = sr_add d (sr_1 (vt_mk 5 [] xs)) := rfl
theorem sr_lst_fail {xs : List vt} {d : Nat} : sr_lst xs (sr_fail d) = sr_fail d := rfl
def sr_allL : vt → List (Nat × vt) → Nat × Bool → Nat × Option vt
  | v, [], e => (e.1, if e.2 then some v else none)
  | _, a :: L, e => (a.1 + (sr_allL a.2 L e).1, (sr_allL a.2 L e).2)
/-- all of it: the cost, and the last value unless it fails -/
def sr_all (v : vt) (T : sr) : Nat × Option vt := sr_allL v T.1 T.2
theorem sr_all_cons {v : vt} {d : Nat} {x : vt} {R : sr} : sr_all v (sr_cons d x R) = (d + (sr_all x R).1, (sr_all x R).2) := rfl
theorem sr_all_end {v : vt} {d : Nat} : sr_all v (sr_end d) = (d, some v) := rfl
theorem sr_all_fail {v : vt} {d : Nat} : sr_all v (sr_fail d) = (d, none) := rfl
def sr_finL (g : vt → vt → sr) : vt → List (Nat × vt) → Nat × Bool → Nat × Option vt
  | v, [], e => (e.1, if e.2 then some v else none)
  | v, a :: L, e => match (sr_all (vt_0 0) (g v a.2)).2 with
    | none => (a.1 + (sr_all (vt_0 0) (g v a.2)).1, none)
    | some w => (a.1 + (sr_all (vt_0 0) (g v a.2)).1 + (sr_finL g w L e).1, (sr_finL g w L e).2)
/-- a result from v on, over all values -/
def sr_fin (g : vt → vt → sr) (v : vt) (T : sr) : Nat × Option vt := sr_finL g v T.1 T.2
theorem sr_fin_some {g : vt → vt → sr} {v : vt} {d c : Nat} {x w : vt} {R : sr} (h : sr_all (vt_0 0) (g v x) = (c, some w)) : sr_fin g v (sr_cons d x R) = (d + c + (sr_fin g w R).1, (sr_fin g w R).2) := by
  show (match (sr_all (vt_0 0) (g v x)).2 with | none => _ | some w => _) = _
  rw [h]; rfl
theorem sr_fin_none {g : vt → vt → sr} {v : vt} {d c : Nat} {x : vt} {R : sr} (h : sr_all (vt_0 0) (g v x) = (c, none)) : sr_fin g v (sr_cons d x R) = (d + c, none) := by
  show (match (sr_all (vt_0 0) (g v x)).2 with | none => _ | some w => _) = _
  rw [h]
theorem sr_fin_end {g : vt → vt → sr} {v : vt} {d : Nat} : sr_fin g v (sr_end d) = (d, some v) := rfl
theorem sr_fin_fail {g : vt → vt → sr} {v : vt} {d : Nat} : sr_fin g v (sr_fail d) = (d, none) := rfl
def sr_folL (P : sr) (g : vt → vt → sr) : List (Nat × vt) → Nat × Bool → sr
  | [], e => ([], e)
  | a :: L, e => match (sr_fin g a.2 P).2 with
    | none => sr_fail (a.1 + (sr_fin g a.2 P).1)
    | some w => sr_cons (a.1 + (sr_fin g a.2 P).1) w (sr_folL P g L e)
def sr_fol (P : sr) (g : vt → vt → sr) (T : sr) : sr := sr_folL P g T.1 T.2
theorem sr_fol_some {P : sr} {g : vt → vt → sr} {d c : Nat} {x w : vt} {R : sr} (h : sr_fin g x P = (c, some w)) : sr_fol P g (sr_cons d x R) = sr_cons (d + c) w (sr_fol P g R) := by
  show (match (sr_fin g x P).2 with | none => _ | some w => _) = _
  rw [h]; rfl
theorem sr_fol_none {P : sr} {g : vt → vt → sr} {d c : Nat} {x : vt} {R : sr} (h : sr_fin g x P = (c, none)) : sr_fol P g (sr_cons d x R) = sr_fail (d + c) := by
  show (match (sr_fin g x P).2 with | none => _ | some w => _) = _
  rw [h]
theorem sr_fol_end {P : sr} {g : vt → vt → sr} {d : Nat} : sr_fol P g (sr_end d) = sr_end d := rfl
theorem sr_fol_fail {P : sr} {g : vt → vt → sr} {d : Nat} : sr_fol P g (sr_fail d) = sr_fail d := rfl
def sr_eac (X : vt) : Nat → Nat → sr
  | 0, _ => sr_end 0
  | m + 1, i => sr_cons 0 (vt_s X i) (sr_eac X m (i + 1))
def sr_its (g : vt → sr) (X : vt) : Nat → Nat → sr
  | 0, _ => sr_end 0
  | m + 1, i => sr_seq (g (vt_s X i)) (sr_its g X m (i + 1))
/-- the number of a byte, as Java's -/
def sr_num (b : Nat) : Int32 := nI b - 128
def sr_fld (X : vt) (L : List Int32) : Option vt := if vt_k X = 6 then (match vt_find (vt_q X) L with | some j => some (vt_s X j) | none => some (vt_0 0)) else if vt_k X = 0 then some (vt_0 0) else none
/-- the place of item n - 128 among c -/
def sr_pl (c b : Nat) : Option Nat := if b < 128 then (if 128 ≤ c + b then some (c + b - 128) else none) else (if b - 128 < c then some (b - 128) else none)
def sr_itm (X : vt) (b : Nat) : Option vt := if vt_k X = 5 then (match sr_pl (vt_c X) b with | some j => some (vt_s X j) | none => some (vt_0 0)) else if vt_k X = 0 then some (vt_0 0) else none
def sr_len (X : vt) : Option vt := if vt_k X = 1 ∨ vt_k X = 2 then none else if vt_k X = 3 then some (vt_i (if vt_n X < 0 then - vt_n X else vt_n X)) else some (vt_i (nI (vt_sz X)).toInt64)
def sr_leaf (cb : Nat → Nat) (c : Nat) (X Y : vt) : Option vt :=
  if cb c = 0 then some X else if cb c = 1 then sr_fld X [nI (cb (c + 1))] else if cb c = 2 then sr_itm X (cb (c + 1)) else if cb c = 5 then some (vt_i (sr_num (cb (c + 1))).toInt64) else if cb c = 6 then some (vt_t [nI (cb (c + 1))]) else if cb c = 7 then some (vt_0 0) else if cb c = 15 then some Y else if cb c = 19 then some (vt_0 (if vt_tr X then 1 else 2)) else if cb c = 20 then sr_len X else if cb c = 21 then (if vt_k X = 6 then some (vt_ks X) else none) else none
def sr_two (k : Nat) (x y : vt) : Option vt :=
  if k = 22 then vt_sum x y else if k = 23 then vt_dif x y else if k = 24 then vt_mul x y else if k = 25 then some (vt_0 (if vt_sm 8 x y then 2 else 1)) else some (vt_0 (if vt_lt x y then 2 else 1))
/-- the parts in which q, or r, begins anew for each value of p: at which cost, how the two values are put together, what begins -/
def sr_e (k : Nat) : Nat := if k < 22 then 0 else 1
def sr_h (k : Nat) (x y : vt) : Option vt := if k < 22 then some y else sr_two k x y
def sr_G (k : Nat) (D : Nat → vt → vt → sr) (X Y x : vt) : sr := if k = 8 then D 1 x Y else if k = 11 ∧ vt_tr x = false then D 2 X Y else D 1 X Y
/-- one part, with its kind, from what its parts lead to: D which it element -/
def sr_part (cb : Nat → Nat) (c : Nat) (dp : vt → sr) (D : Nat → vt → vt → sr) (X Y : vt) : sr :=
  if cb c = 3 then (if vt_hi X then sr_eac X (min (vt_c X) 16) 0 else sr_fail 0)
  else if cb c = 4 then sr_cons 0 X (sr_its dp X (vt_c X) 0)
  else if cb c = 8 ∨ cb c = 11 ∨ 22 ≤ cb c then sr_bind (fun x => sr_op (sr_e (cb c)) (sr_h (cb c) x) (sr_G (cb c) D X Y x)) (D 0 X Y)
  else if cb c = 9 then sr_seq (D 0 X Y) (D 1 X Y)
  else if cb c = 10 then sr_els (D 1 X Y) false (D 0 X Y)
  else if cb c = 12 then sr_lst [] (D 0 X Y)
  else if cb c = 13 then sr_try (D 0 X Y)
  else if cb c = 14 then sr_fol (D 0 X Y) (fun v x => D 2 v x) (D 1 X Y)
  else if cb c = 16 then (if vt_k X = 0 ∨ vt_k X = 6 then sr_op 1 (vt_wm X [nI (cb (c + 1))]) (D 0 X Y) else sr_fail 0)
  else if cb c = 17 then sr_end 0
  else sr_1 (sr_leaf cb c X Y)
/-- a part that has begun -/
def sr_B (cb bg : Nat → Nat) : Nat → Nat → vt → vt → sr
  | 0, _, _, _ => sr_end 0
  | n + 1, c, X, Y => sr_part cb c (fun Z => sr_add 1 (sr_B cb bg n c Z Y)) (fun i Z W => sr_add 1 (sr_B cb bg n (bg (c * 3 + i)) Z W)) X Y
abbrev sr_D (cb bg : Nat → Nat) (n c : Nat) (X Y : vt) : sr := sr_add 1 (sr_B cb bg n c X Y)
theorem sr_B_o {cb bg : Nat → Nat} {n c : Nat} {X Y : vt} : sr_B cb bg (n + 1) c X Y = sr_part cb c (fun Z => sr_D cb bg n c Z Y) (fun i Z W => sr_D cb bg n (bg (c * 3 + i)) Z W) X Y := rfl
/-! Values without cost come at most sixteen in a row. -/
def zr : Nat → List (Nat × vt) → Prop
  | _, [] => True
  | r, a :: L => (a.1 = 0 → 1 ≤ r) ∧ zr (if a.1 = 0 then r - 1 else 15) L
theorem zr.up {L : List (Nat × vt)} : ∀ {r q : Nat}, zr r L → r ≤ q → zr q L := by
  induction L with
  | nil => intro r q _ _; exact trivial
  | cons a L ih =>
    intro r q h hq
    refine ⟨fun z => Nat.le_trans (h.1 z) hq, ?_⟩
    by_cases ha : a.1 = 0
    · rw [if_pos ha]
      have h2 := h.2
      rw [if_pos ha] at h2
      exact ih h2 (by omega)
    · rw [if_neg ha]
      have h2 := h.2
      rw [if_neg ha] at h2
      exact h2
/-- what is left has fifteen at least -/
theorem zr.tail {a : Nat × vt} {L : List (Nat × vt)} (h : zr 16 (a :: L)) : zr 15 L := by
  have h2 := h.2
  by_cases ha : a.1 = 0
  · rw [if_pos ha] at h2; exact h2
  · rw [if_neg ha] at h2; exact h2
theorem zr.rest {d : Nat} {x : vt} {R : sr} (h : zr 16 (sr_cons d x R).1) : zr 16 R.1 := (zr.tail h).up (by decide)
theorem zr_addp {c r : Nat} {T : sr} (h : zr 16 T.1) (hc : 0 < c) : zr r (sr_add c T).1 := by
  rcases sr_cases T with ⟨d, x, R, rfl⟩ | ⟨d, rfl⟩ | ⟨d, rfl⟩
  · refine ⟨fun z => ?_, ?_⟩
    · have z : c + d = 0 := z
      omega
    · have hn : ¬ (c + d) = 0 := by omega
      rw [if_neg hn]
      exact zr.tail h
  · exact trivial
  · exact trivial
theorem zr_add {c r : Nat} {T : sr} (h : zr r T.1) (hr : r ≤ 16) : zr r (sr_add c T).1 := by
  by_cases hc : c = 0
  · subst hc; rw [sr_add_0]; exact h
  · exact zr_addp (h.up hr) (by omega)
theorem zr_seq {U : sr} (hU : zr 0 U.1) {L : List (Nat × vt)} {e : Nat × Bool} : ∀ {r : Nat}, r ≤ 16 → zr r L → zr r (sr_seqL L e U).1 := by
  induction L with
  | nil =>
    intro r hr _
    unfold sr_seqL
    split
    · exact (zr_add hU (by decide)).up (Nat.zero_le _)
    · exact trivial
  | cons a L ih =>
    intro r hr h
    refine ⟨h.1, ?_⟩
    by_cases ha : a.1 = 0
    · rw [if_pos ha]; have h2 := h.2; rw [if_pos ha] at h2; exact ih (by omega) h2
    · rw [if_neg ha]; have h2 := h.2; rw [if_neg ha] at h2; exact ih (by decide) h2
theorem zr_bind {g : vt → sr} (hg : ∀ x, zr 0 (g x).1) {L : List (Nat × vt)} {e : Nat × Bool} : zr 0 (sr_bindL g L e).1 := by
  induction L with
  | nil => exact trivial
  | cons a L ih => exact zr_add (zr_seq ih (by decide) (hg a.2)) (by decide)
theorem zr_op {k : Nat} {h : vt → Option vt} {L : List (Nat × vt)} {e : Nat × Bool} : ∀ {r : Nat}, r ≤ 16 → zr r L → zr r (sr_opL k h L e).1 := by
  induction L with
  | nil => intro r _ _; exact trivial
  | cons a L ih =>
    intro r hr hz
    unfold sr_opL
    split
    · exact trivial
    · have h2 := hz.2
      refine ⟨fun z => hz.1 ?_, ?_⟩
      · have z : a.1 + k = 0 := z
        omega
      · show zr (if a.1 + k = 0 then r - 1 else 15) (sr_opL k h L e).1
        by_cases ha : a.1 = 0
        · rw [if_pos ha] at h2
          have h3 := ih (by omega) h2
          split
          · exact h3
          · exact h3.up (by omega)
        · rw [if_neg ha] at h2
          rw [if_neg (by omega)]
          exact ih (by decide) h2
theorem zr_els {U : sr} (hU : zr 0 U.1) {L : List (Nat × vt)} {e : Nat × Bool} : ∀ {r : Nat} {g : Bool}, r ≤ 16 → zr r L → zr r (sr_elsL U g L e).1 := by
  induction L with
  | nil =>
    intro r g hr _
    unfold sr_elsL
    split
    · exact trivial
    · exact (zr_add hU (by decide)).up (Nat.zero_le _)
  | cons a L ih =>
    intro r g hr h
    unfold sr_elsL
    have h2 := h.2
    split
    · refine ⟨h.1, ?_⟩
      by_cases ha : a.1 = 0
      · rw [if_pos ha]; rw [if_pos ha] at h2; exact ih (by omega) h2
      · rw [if_neg ha]; rw [if_neg ha] at h2; exact ih (by decide) h2
    · by_cases ha : a.1 = 0
      · rw [ha, sr_add_0]; rw [if_pos ha] at h2; exact (ih (by omega) h2).up (by omega)
      · rw [if_neg ha] at h2
        exact zr_addp ((ih (r := 15) (by decide) h2).up (by decide)) (by omega)
theorem zr_one {L : List (Nat × vt)} (h : L.length ≤ 1) {r : Nat} (hr : 1 ≤ r) : zr r L := by
  cases L with
  | nil => exact trivial
  | cons a L =>
    cases L with
    | nil => exact ⟨fun _ => hr, trivial⟩
    | cons b L => simp at h
theorem sr_add_len {c : Nat} {T : sr} : (sr_add c T).1.length = T.1.length := by
  rcases sr_cases T with ⟨d, x, R, rfl⟩ | ⟨d, rfl⟩ | ⟨d, rfl⟩ <;> rfl
theorem sr_1_len {o : Option vt} : (sr_1 o).1.length ≤ 1 := by
  cases o with
  | none => exact Nat.zero_le _
  | some v => exact Nat.le_refl _
theorem sr_lst_len {L : List (Nat × vt)} {e : Nat × Bool} : ∀ {xs : List vt}, (sr_lstL xs L e).1.length ≤ 1 := by
  induction L with
  | nil =>
    intro xs
    unfold sr_lstL
    split
    · rw [sr_add_len]; exact sr_1_len
    · exact Nat.zero_le _
  | cons a L ih =>
    intro xs
    unfold sr_lstL
    split
    · rw [sr_add_len]; exact ih
    · exact Nat.zero_le _
theorem sr_fin_pos {g : vt → vt → sr} {v : vt} {P : sr} : sr_c P ≤ (sr_fin g v P).1 := by
  rcases sr_cases P with ⟨d, x, R, rfl⟩ | ⟨d, rfl⟩ | ⟨d, rfl⟩
  · cases hq : sr_all (vt_0 0) (g v x) with
    | mk c o =>
      cases o with
      | none => rw [sr_fin_none hq]; exact Nat.le_add_right _ _
      | some w => rw [sr_fin_some hq, Nat.add_assoc]; exact Nat.le_add_right _ _
  · exact Nat.le_refl _
  · exact Nat.le_refl _
theorem zr_fol {P : sr} {g : vt → vt → sr} (hP : 0 < sr_c P) {L : List (Nat × vt)} {e : Nat × Bool} : ∀ {r : Nat}, zr r (sr_folL P g L e).1 := by
  induction L with
  | nil => intro r; exact trivial
  | cons a L ih =>
    intro r
    unfold sr_folL
    split
    · exact trivial
    · refine ⟨fun z => ?_, ih⟩
      have z : a.1 + (sr_fin g a.2 P).1 = 0 := z
      have := sr_fin_pos (g := g) (v := a.2) (P := P)
      omega
theorem zr_eac {X : vt} : ∀ {m i r : Nat}, m ≤ r → zr r (sr_eac X m i).1 := by
  intro m
  induction m with
  | zero => intro i r _; exact trivial
  | succ m ih =>
    intro i r h
    refine ⟨fun _ => by omega, ?_⟩
    show zr (if (0 : Nat) = 0 then r - 1 else 15) (sr_eac X m (i + 1)).1
    rw [if_pos rfl]
    exact ih (by omega)
theorem zr_its {g : vt → sr} (hg : ∀ x, zr 0 (g x).1) {X : vt} : ∀ {m i : Nat}, zr 0 (sr_its g X m i).1 := by
  intro m
  induction m with
  | zero => intro i; exact trivial
  | succ m ih => intro i; exact zr_seq ih (by decide) (hg _)
theorem zr_B {cb bg : Nat → Nat} : ∀ {n c : Nat} {X Y : vt}, zr 16 (sr_B cb bg n c X Y).1 := by
  intro n
  induction n with
  | zero => intro c X Y; exact trivial
  | succ n ih =>
    intro c X Y
    have hD : ∀ (c : Nat) (X Y : vt), zr 0 (sr_D cb bg n c X Y).1 := fun c X Y => zr_addp ih (by decide)
    rw [sr_B_o]
    unfold sr_part
    repeat' split
    · exact zr_eac (by omega)
    · exact trivial
    · refine ⟨fun _ => by decide, ?_⟩
      show zr (if (0 : Nat) = 0 then 16 - 1 else 15) _
      exact (zr_its (fun x => hD c x Y)).up (Nat.zero_le _)
    · refine (zr_bind (fun x => zr_op (by decide) ?_)).up (Nat.zero_le _)
      show zr 0 (sr_G _ _ X Y x).1
      unfold sr_G
      repeat' split
      · exact hD _ x Y
      · exact hD _ X Y
      · exact hD _ X Y
    · exact (zr_seq (hD _ X Y) (by decide) (hD _ X Y)).up (Nat.zero_le _)
    · exact (zr_els (hD _ X Y) (by decide) (hD _ X Y)).up (Nat.zero_le _)
    · exact zr_one sr_lst_len (by decide)
    · exact (hD _ X Y).up (Nat.zero_le _)
    · exact zr_fol (by rw [sr_c_add]; omega)
    · exact (zr_op (by decide) (hD _ X Y)).up (Nat.zero_le _)
    · exact trivial
    · exact trivial
    · exact zr_one sr_1_len (by decide)
/-- the count of what a part gave, against the fuel -/
theorem zr_give {r d gv φ : Nat} {x : vt} {R : sr} (h : zr r (sr_cons d x R).1) (hr : r ≤ 16) (hg : gv + 16 * φ + r ≤ 5000) (hd : d ≤ φ) : ∃ q, q ≤ 16 ∧ zr q R.1 ∧ gv + 1 + 16 * (φ - d) + q ≤ 5000 := by
  have h2 : zr (if d = 0 then r - 1 else 15) R.1 := h.2
  have h1 : d = 0 → 1 ≤ r := h.1
  by_cases hd0 : d = 0
  · rw [if_pos hd0] at h2
    have := h1 hd0
    exact ⟨r - 1, by omega, h2, by omega⟩
  · rw [if_neg hd0] at h2
    exact ⟨15, by decide, h2, by omega⟩
