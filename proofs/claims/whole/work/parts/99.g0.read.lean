/-! Reading a text, without a heap. tx: its characters, n: how many. A result is a place and what was read; none: bad at that place. -/
def sg (tx : Nat → Nat) (n p : Nat) : Nat := if p < n then tx p else 0
def rb (tx : Nat → Nat) (n : Nat) : Nat → Nat → Nat
  | 0, p => p
  | m + 1, p => if sg tx n p = 32 then rb tx n m (p + 1) else p
/-- behind the blanks -/
def rbl (tx : Nat → Nat) (n p : Nat) : Nat := rb tx n (n - p) p
def rd_w (tx : Nat → Nat) (n : Nat) : List Nat → Nat → Nat × Bool
  | [], p => (p, true)
  | c :: L, p => if sg tx n p = c then rd_w tx n L (p + 1) else (p, false)
def rd_s (tx : Nat → Nat) (n : Nat) : Nat → Nat → List Int32 → Nat × Option (List Int32)
  | 0, p, _ => (p, none)
  | m + 1, p, L => if n ≤ p then (p, none) else if tx p = 34 then (p + 1, some L) else if tx p = 92 then (if (sg tx n (p + 1) ≠ 34 ∧ sg tx n (p + 1) ≠ 92) ∨ 24 ≤ L.length then (p + 1, none) else rd_s tx n m (p + 2) (L ++ [nI (sg tx n (p + 1))])) else if 24 ≤ L.length then (p, none) else rd_s tx n m (p + 1) (L ++ [nI (tx p)])
def rd_d (tx : Nat → Nat) (n : Nat) (least : Int) : Nat → Nat → Int → Nat × Option Int
  | 0, p, z => (p, some z)
  | m + 1, p, z => if 48 ≤ sg tx n p ∧ sg tx n p ≤ 57 then (if 10 * z < least + ((sg tx n p : Int) - 48) then (p, none) else rd_d tx n least m (p + 1) (10 * z - ((sg tx n p : Int) - 48))) else (p, some z)
/-- an integer; zb: a digit behind a leading 0 is refused at once -/
def rd_i (tx : Nat → Nat) (n : Nat) (zb : Bool) (p : Nat) : Nat × Option Int64 :=
  if ¬ (48 ≤ sg tx n (if sg tx n p = 45 then p + 1 else p) ∧ sg tx n (if sg tx n p = 45 then p + 1 else p) ≤ 57) then (if sg tx n p = 45 then p + 1 else p, none)
  else if sg tx n (if sg tx n p = 45 then p + 1 else p) = 48 then
    (if zb = true ∧ 48 ≤ sg tx n ((if sg tx n p = 45 then p + 1 else p) + 1) ∧ sg tx n ((if sg tx n p = 45 then p + 1 else p) + 1) ≤ 57 then ((if sg tx n p = 45 then p + 1 else p) + 1, none) else ((if sg tx n p = 45 then p + 1 else p) + 1, some 0))
  else match rd_d tx n (if sg tx n p = 45 then -9223372036854775808 else -9223372036854775807) n (if sg tx n p = 45 then p + 1 else p) 0 with
    | (q, none) => (q, none)
    | (q, some z) => (q, some (Int64.ofInt (if sg tx n p = 45 then z else -z)))
def rd_K (tx : Nat → Nat) (n p : Nat) : Nat × Option (List Int32) :=
  if sg tx n (rbl tx n p) ≠ 34 then (rbl tx n p, none) else match rd_s tx n n (rbl tx n p + 1) [] with
    | (q, none) => (q, none)
    | (q, some L) => if sg tx n (rbl tx n q) = 58 then (rbl tx n q + 1, some L) else (rbl tx n q, none)
/-- the items of a list or the members of an object: c more may come -/
def rd_l (tx : Nat → Nat) (n : Nat) (g : Nat → Nat × Option vt) (ob : Bool) : Nat → List (List Int32) × List vt → Nat → Nat × Option (List (List Int32) × List vt)
  | 0, _, p => (p, none)
  | c + 1, r, p => match (if ob = true then rd_K tx n p else (p, some [])) with
    | (q, none) => (q, none)
    | (q, some L) => match g q with
      | (q2, none) => (q2, none)
      | (q2, some X) => if sg tx n (rbl tx n q2) = (if ob = true then 125 else 93) then (rbl tx n q2 + 1, some (if ob = true then vt_pu r L X else (r.1, r.2 ++ [X]))) else if c = 0 ∨ sg tx n (rbl tx n q2) ≠ 44 then (rbl tx n q2, none) else rd_l tx n g ob c (if ob = true then vt_pu r L X else (r.1, r.2 ++ [X])) (rbl tx n q2 + 1)
def rd_m (ob : Bool) (r : Nat × Option (List (List Int32) × List vt)) : Nat × Option vt := (r.1, match r.2 with
  | none => none
  | some r => some (vt_m (if ob = true then 6 else 5) (if ob = true then r.1 else []) r.2))
def rd_v (tx : Nat → Nat) (n : Nat) (zb : Bool) : Nat → Nat → Nat × Option vt
  | 0, p => (rbl tx n p, none)
  | d + 1, p =>
    if sg tx n (rbl tx n p) = 110 then (if (rd_w tx n [110, 117, 108, 108] (rbl tx n p)).2 = true then ((rd_w tx n [110, 117, 108, 108] (rbl tx n p)).1, some (vt_0 0)) else ((rd_w tx n [110, 117, 108, 108] (rbl tx n p)).1, none))
    else if sg tx n (rbl tx n p) = 102 then (if (rd_w tx n [102, 97, 108, 115, 101] (rbl tx n p)).2 = true then ((rd_w tx n [102, 97, 108, 115, 101] (rbl tx n p)).1, some (vt_0 1)) else ((rd_w tx n [102, 97, 108, 115, 101] (rbl tx n p)).1, none))
    else if sg tx n (rbl tx n p) = 116 then (if (rd_w tx n [116, 114, 117, 101] (rbl tx n p)).2 = true then ((rd_w tx n [116, 114, 117, 101] (rbl tx n p)).1, some (vt_0 2)) else ((rd_w tx n [116, 114, 117, 101] (rbl tx n p)).1, none))
    else if sg tx n (rbl tx n p) = 34 then (match rd_s tx n n (rbl tx n p + 1) [] with
      | (q, none) => (q, none)
      | (q, some L) => (q, some (vt_t L)))
    else if sg tx n (rbl tx n p) = 91 then (if sg tx n (rbl tx n (rbl tx n p + 1)) = 93 then (rbl tx n (rbl tx n p + 1) + 1, some (vt_m 5 [] [])) else rd_m false (rd_l tx n (rd_v tx n zb d) false 16 ([], []) (rbl tx n (rbl tx n p + 1))))
    else if sg tx n (rbl tx n p) = 123 then (if sg tx n (rbl tx n (rbl tx n p + 1)) = 125 then (rbl tx n (rbl tx n p + 1) + 1, some (vt_m 6 [] [])) else rd_m true (rd_l tx n (rd_v tx n zb d) true 16 ([], []) (rbl tx n (rbl tx n p + 1))))
    else match rd_i tx n zb (rbl tx n p) with
      | (q, none) => (q, none)
      | (q, some z) => (q, some (vt_i z))
/-- the whole text -/
def rd_a (tx : Nat → Nat) (n : Nat) (zb : Bool) : Nat × Option vt := match rd_v tx n zb 8 0 with
  | (q, none) => (q, none)
  | (q, some X) => if rbl tx n q < n then (rbl tx n q, none) else (rbl tx n q, some X)
