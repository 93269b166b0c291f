/-! What is left of the reading, with levels open: without a heap, and in the model. -/
abbrev rv_T : Type := Bool × List (List Int32 × vt) × List Int32
def rcc (ob : Bool) : Nat := if ob = true then 125 else 93
def rmk (ob : Bool) (r : List (List Int32) × List vt) : vt := vt_m (if ob = true then 6 else 5) (if ob = true then r.1 else []) r.2
/-- a value X was read at the place before q, dp levels are open -/
def rfi (tx : Nat → Nat) (n : Nat) (lv : Nat → rv_T) : Nat → Nat → vt → Nat × Option vt
  | 0, q, X => if rbl tx n q < n then (rbl tx n q, none) else (rbl tx n q, some X)
  | e + 1, q, X =>
    if sg tx n (rbl tx n q) = rcc (lv e).1 then rfi tx n lv e (rbl tx n q + 1) (rmk (lv e).1 (rfo (lv e).1 ((lv e).2.1 ++ [((lv e).2.2, X)])))
    else if 16 ≤ (lv e).2.1.length + 1 ∨ sg tx n (rbl tx n q) ≠ 44 then (rbl tx n q, none)
    else match rd_l tx n (rd_v tx n true (7 - e)) (lv e).1 (15 - (lv e).2.1.length) (rfo (lv e).1 ((lv e).2.1 ++ [((lv e).2.2, X)])) (rbl tx n q + 1) with
      | (q2, none) => (q2, none)
      | (q2, some r) => rfi tx n lv e q2 (rmk (lv e).1 r)
/-- a value is wanted at p -/
def rfv (tx : Nat → Nat) (n : Nat) (lv : Nat → rv_T) (dp p : Nat) : Nat × Option vt := match rd_v tx n true (8 - dp) p with
  | (q, none) => (q, none)
  | (q, some X) => rfi tx n lv dp q X
theorem rfi_o {tx : Nat → Nat} {n : Nat} {lv : Nat → rv_T} {e q : Nat} {X : vt} : rfi tx n lv (e + 1) q X = (if sg tx n (rbl tx n q) = rcc (lv e).1 then rfi tx n lv e (rbl tx n q + 1) (rmk (lv e).1 (rfo (lv e).1 ((lv e).2.1 ++ [((lv e).2.2, X)])))
    else if 16 ≤ (lv e).2.1.length + 1 ∨ sg tx n (rbl tx n q) ≠ 44 then (rbl tx n q, none)
    else match rd_l tx n (rd_v tx n true (7 - e)) (lv e).1 (15 - (lv e).2.1.length) (rfo (lv e).1 ((lv e).2.1 ++ [((lv e).2.2, X)])) (rbl tx n q + 1) with
      | (q2, none) => (q2, none)
      | (q2, some r) => rfi tx n lv e q2 (rmk (lv e).1 r)) := rfl
theorem rfi_c {tx : Nat → Nat} {n : Nat} {lv lw : Nat → rv_T} : ∀ {e q : Nat} {X : vt}, (∀ j, j < e → lv j = lw j) → rfi tx n lv e q X = rfi tx n lw e q X := by
  intro e
  induction e with
  | zero => intro q X _; rfl
  | succ e ih =>
    intro q X h
    have hl := h e (Nat.lt_succ_self e)
    have ih2 : ∀ q X, rfi tx n lv e q X = rfi tx n lw e q X := fun q X => ih (fun j hj => h j (by omega))
    rw [rfi_o, rfi_o, hl]
    simp only [ih2]
theorem rd_l_o {tx : Nat → Nat} {n : Nat} {g : Nat → Nat × Option vt} {ob : Bool} {c : Nat} {r : List (List Int32) × List vt} {p : Nat} : rd_l tx n g ob (c + 1) r p = (match (if ob = true then rd_K tx n p else (p, some [])) with
    | (q, none) => (q, none)
    | (q, some L) => match g q with
      | (q2, none) => (q2, none)
      | (q2, some X) => if sg tx n (rbl tx n q2) = (if ob = true then 125 else 93) then (rbl tx n q2 + 1, some (rd_ad ob r L X)) else if c = 0 ∨ sg tx n (rbl tx n q2) ≠ 44 then (rbl tx n q2, none) else rd_l tx n g ob c (rd_ad ob r L X) (rbl tx n q2 + 1)) := rfl
/-- an item or a member is wanted at level e -/
theorem rfi_m {tx : Nat → Nat} {n : Nat} {lv : Nat → rv_T} {e p : Nat} {ob : Bool} {rs : List (List Int32 × vt)} (hrs : rs.length < 16) : (match rd_l tx n (rd_v tx n true (7 - e)) ob (16 - rs.length) (rfo ob rs) p with
      | (q2, none) => (q2, none)
      | (q2, some r) => rfi tx n lv e q2 (rmk ob r)) = (match (if ob = true then rd_K tx n p else (p, some [])) with
      | (q, none) => (q, none)
      | (q, some L) => rfv tx n (va_up lv e (ob, rs, L)) (e + 1) q) := by
  rw [show 16 - rs.length = (15 - rs.length) + 1 by omega, rd_l_o]
  cases hK : (if ob = true then rd_K tx n p else (p, some [])) with
  | mk q o =>
    cases o with
    | none => rfl
    | some L =>
      dsimp only
      unfold rfv
      rw [show 8 - (e + 1) = 7 - e by omega]
      cases hv : rd_v tx n true (7 - e) q with
      | mk q2 o2 =>
        cases o2 with
        | none => rfl
        | some X =>
          dsimp only
          have hcg : ∀ q X, rfi tx n (va_up lv e (ob, rs, L)) e q X = rfi tx n lv e q X := fun q X => rfi_c (fun j hj => va_up_n (by omega))
          rw [rfi_o, va_up_s]
          simp only [hcg, rfo_ap]
          by_cases h1 : sg tx n (rbl tx n q2) = (if ob = true then 125 else 93)
          · rw [if_pos h1, if_pos (show sg tx n (rbl tx n q2) = rcc ob from h1)]
          · rw [if_neg h1, if_neg (show ¬ sg tx n (rbl tx n q2) = rcc ob from h1)]
            by_cases h2 : 15 - rs.length = 0 ∨ sg tx n (rbl tx n q2) ≠ 44
            · rw [if_pos h2, if_pos (by omega)]
            · rw [if_neg h2, if_neg (by omega)]
theorem rfv_8 {tx : Nat → Nat} {n : Nat} {lv : Nat → rv_T} {p : Nat} : rfv tx n lv 8 p = (rbl tx n p, none) := rfl
theorem rfv_s {tx : Nat → Nat} {n : Nat} {lv : Nat → rv_T} {dp p : Nat} (hd : dp < 8) (h1 : sg tx n (rbl tx n p) ≠ 91) (h2 : sg tx n (rbl tx n p) ≠ 123) : rfv tx n lv dp p = match rd_c tx n true (rbl tx n p) with
    | (q, none) => (q, none)
    | (q, some X) => rfi tx n lv dp q X := by
  unfold rfv
  rw [show 8 - dp = (7 - dp) + 1 by omega, rd_v_c h1 h2]
theorem rd_v_b {tx : Nat → Nat} {n : Nat} {zb ob : Bool} {d p : Nat} (h : sg tx n (rbl tx n p) = (if ob = true then 123 else 91)) : rd_v tx n zb (d + 1) p = (if sg tx n (rbl tx n (rbl tx n p + 1)) = rcc ob then (rbl tx n (rbl tx n p + 1) + 1, some (rmk ob ([], []))) else rd_m ob (rd_l tx n (rd_v tx n zb d) ob 16 ([], []) (rbl tx n (rbl tx n p + 1)))) := by
  cases ob with
  | false =>
    have h : sg tx n (rbl tx n p) = 91 := h
    rw [rd_v]
    rw [if_neg (by omega), if_neg (by omega), if_neg (by omega), if_neg (by omega), if_pos h]
    rfl
  | true =>
    have h : sg tx n (rbl tx n p) = 123 := h
    rw [rd_v]
    rw [if_neg (by omega), if_neg (by omega), if_neg (by omega), if_neg (by omega), if_neg (by omega), if_pos h]
    rfl
theorem rfv_e {tx : Nat → Nat} {n : Nat} {lv : Nat → rv_T} {dp p : Nat} {ob : Bool} (hd : dp < 8) (h : sg tx n (rbl tx n p) = (if ob = true then 123 else 91)) (h2 : sg tx n (rbl tx n (rbl tx n p + 1)) = rcc ob) : rfv tx n lv dp p = rfi tx n lv dp (rbl tx n (rbl tx n p + 1) + 1) (rmk ob (rfo ob [])) := by
  unfold rfv
  rw [show 8 - dp = (7 - dp) + 1 by omega, rd_v_b h, if_pos h2]
  rfl
theorem rfv_m {tx : Nat → Nat} {n : Nat} {lv : Nat → rv_T} {dp p : Nat} {ob : Bool} (hd : dp < 8) (h : sg tx n (rbl tx n p) = (if ob = true then 123 else 91)) (h2 : ¬ sg tx n (rbl tx n (rbl tx n p + 1)) = rcc ob) : rfv tx n lv dp p = (match (if ob = true then rd_K tx n (rbl tx n (rbl tx n p + 1)) else (rbl tx n (rbl tx n p + 1), some [])) with
      | (q, none) => (q, none)
      | (q, some L) => rfv tx n (va_up lv dp (ob, [], L)) (dp + 1) q) := by
  rw [← rfi_m (rs := []) (by decide)]
  unfold rfv
  rw [show 8 - dp = (7 - dp) + 1 by omega, rd_v_b h, if_neg h2]
  show (match rd_m ob (rd_l tx n (rd_v tx n true (7 - dp)) ob 16 ([], []) (rbl tx n (rbl tx n p + 1))) with
    | (q, none) => (q, none)
    | (q, some X) => rfi tx n lv dp q X) = (match rd_l tx n (rd_v tx n true (7 - dp)) ob 16 ([], []) (rbl tx n (rbl tx n p + 1)) with
      | (q2, none) => (q2, none)
      | (q2, some r) => rfi tx n lv dp q2 (rmk ob r))
  cases rd_l tx n (rd_v tx n true (7 - dp)) ob 16 ([], []) (rbl tx n (rbl tx n p + 1)) with
  | mk q o => cases o <;> rfl
theorem rfi_n {tx : Nat → Nat} {n : Nat} {lv : Nat → rv_T} {e q : Nat} {X : vt} (h1 : ¬ sg tx n (rbl tx n q) = rcc (lv e).1) (h2 : ¬ (16 ≤ (lv e).2.1.length + 1 ∨ sg tx n (rbl tx n q) ≠ 44)) : rfi tx n lv (e + 1) q X = (match (if (lv e).1 = true then rd_K tx n (rbl tx n q + 1) else (rbl tx n q + 1, some [])) with
      | (q, none) => (q, none)
      | (q, some L) => rfv tx n (va_up lv e ((lv e).1, (lv e).2.1 ++ [((lv e).2.2, X)], L)) (e + 1) q) := by
  rw [← rfi_m (rs := (lv e).2.1 ++ [((lv e).2.2, X)]) (by rw [List.length_append]; show _ + 1 < 16; omega), rfi_o, if_neg h1, if_neg h2, List.length_append]
  show _ = (match rd_l tx n (rd_v tx n true (7 - e)) (lv e).1 (16 - ((lv e).2.1.length + 1)) (rfo (lv e).1 ((lv e).2.1 ++ [((lv e).2.2, X)])) (rbl tx n q + 1) with
      | (q2, none) => (q2, none)
      | (q2, some r) => rfi tx n lv e q2 (rmk (lv e).1 r))
  rw [show 16 - ((lv e).2.1.length + 1) = 15 - (lv e).2.1.length by omega]
/-! limits -/
def rcn (lv : Nat → rv_T) : Nat → Nat
  | 0 => 0
  | e + 1 => rcn lv e + (lv e).2.1.length
def rwg (lv : Nat → rv_T) : Nat → Nat
  | 0 => 0
  | e + 1 => rwg lv e + vt_wsum (rfo (lv e).1 (lv e).2.1).2
theorem rcn_c {lv lw : Nat → rv_T} : ∀ {e : Nat}, (∀ j, j < e → lv j = lw j) → rcn lv e = rcn lw e ∧ rwg lv e = rwg lw e := by
  intro e
  induction e with
  | zero => intro _; exact ⟨rfl, rfl⟩
  | succ e ih =>
    intro h
    have h1 := ih (fun j hj => h j (by omega))
    show rcn lv e + (lv e).2.1.length = rcn lw e + (lw e).2.1.length ∧ rwg lv e + vt_wsum (rfo (lv e).1 (lv e).2.1).2 = rwg lw e + vt_wsum (rfo (lw e).1 (lw e).2.1).2
    rw [h e (Nat.lt_succ_self e), h1.1, h1.2]
    exact ⟨rfl, rfl⟩
theorem rcn_up {lv : Nat → rv_T} {e : Nat} {x : rv_T} : rcn (va_up lv e x) (e + 1) = rcn lv e + x.2.1.length ∧ rwg (va_up lv e x) (e + 1) = rwg lv e + vt_wsum (rfo x.1 x.2.1).2 := by
  have h := rcn_c (lv := va_up lv e x) (lw := lv) (e := e) (fun j hj => va_up_n (by omega))
  show rcn (va_up lv e x) e + (va_up lv e x e).2.1.length = _ ∧ rwg (va_up lv e x) e + vt_wsum (rfo (va_up lv e x e).1 (va_up lv e x e).2.1).2 = _
  rw [va_up_s, h.1, h.2]
  exact ⟨rfl, rfl⟩
def rQ1 (e : Nat) (x : rv_T) : Prop := x.2.1.length < 16 ∧ rPg (7 - e) x.1 (rfo x.1 x.2.1) ∧ (x.1 = true → lt_ok x.2.2)
def rQ0 (lv : Nat → rv_T) (dp : Nat) : Prop := dp ≤ 8 ∧ ∀ e, e < dp → rQ1 e (lv e)
theorem rQ0.up {lv : Nat → rv_T} {dp e : Nat} {x : rv_T} (h : rQ0 lv dp) (he : e ≤ dp) (he8 : e < 8) (hx : rQ1 e x) : rQ0 (va_up lv e x) (e + 1) := by
  refine ⟨he8, fun j hj => ?_⟩
  by_cases hje : j = e
  · subst hje; rw [va_up_s]; exact hx
  · rw [va_up_n hje]; exact h.2 j (by omega)
def rQ (lv : Nat → rv_T) (dp p nv np : Nat) : Prop := rQ0 lv dp ∧ 29 ≤ nv ∧ nv ≤ 29 + p ∧ np + 2 * rcn lv dp ≤ 2 * p ∧ 2 * rwg lv dp ≤ p + dp
def rQI (lv : Nat → rv_T) (dp p nv np : Nat) (X : vt) : Prop := rQ0 lv dp ∧ 29 ≤ nv ∧ nv ≤ 29 + p ∧ np + 2 * rcn lv dp ≤ 2 * p ∧ 2 * (rwg lv dp + vt_w X) ≤ p + dp + 1 ∧ vo 8 X ∧ vt_h X < 8 - dp
theorem rQ.sc {lv : Nat → rv_T} {dp p q b nv np nv2 : Nat} {X : vt} (h : rQ lv dp p nv np) (h1 : p ≤ b) (h2 : b < q) (h3 : 2 * vt_w X ≤ q - b + 1) (h4 : vo 8 X) (h5 : vt_h X < 8 - dp) (h6 : nv ≤ nv2) (h7 : nv2 ≤ nv + 1) : rQI lv dp q nv2 np X := by
  obtain ⟨a1, a2, a3, a4, a5⟩ := h
  exact ⟨a1, by omega, by omega, by omega, by omega, h4, h5⟩
theorem rPg0 {d : Nat} {ob : Bool} : rPg d ob (rfo ob []) := ⟨fun j hj => absurd hj (Nat.not_lt_zero j), by cases ob; exact rfl; exact ⟨rfl, fun j hj => absurd hj (Nat.not_lt_zero j)⟩⟩
theorem rQ.em {lv : Nat → rv_T} {dp p q nv np nv2 : Nat} {ob : Bool} (h : rQ lv dp p nv np) (hd : dp < 8) (h2 : p < q) (h6 : nv ≤ nv2) (h7 : nv2 ≤ nv + 1) : rQI lv dp q nv2 np (rmk ob (rfo ob [])) := by
  have hv := rPg_vo (d := 0) (ob := ob) rPg0 (by show 0 ≤ 16; decide) (by show 1 ≤ 100; decide) (by decide)
  exact h.sc (Nat.le_refl _) h2 (by have : vt_w (rmk ob (rfo ob [])) = 1 := rfl; omega) hv.1 (Nat.lt_of_le_of_lt hv.2 (by omega)) h6 h7
theorem rQ.op {lv : Nat → rv_T} {dp p q nv np nv2 : Nat} {ob : Bool} {L : List Int32} (h : rQ lv dp p nv np) (hd : dp < 8) (h2 : p < q) (hL : ob = true → lt_ok L) (h6 : nv ≤ nv2) (h7 : nv2 ≤ nv + 1) : rQ (va_up lv dp (ob, [], L)) (dp + 1) q nv2 np := by
  obtain ⟨a1, a2, a3, a4, a5⟩ := h
  have hc := rcn_up (lv := lv) (e := dp) (x := (ob, [], L))
  have e1 : ((ob, [], L) : rv_T).2.1.length = 0 := rfl
  have e2 : vt_wsum (rfo ((ob, [], L) : rv_T).1 ((ob, [], L) : rv_T).2.1).2 = 1 := rfl
  exact ⟨a1.up (Nat.le_refl _) hd ⟨by show 0 < 16; decide, rPg0, hL⟩, by omega, by omega, by omega, by omega⟩
theorem rQI.in {lv : Nat → rv_T} {e p nv np : Nat} {X : vt} (h : rQI lv (e + 1) p nv np X) : rPg (7 - e) (lv e).1 (rfo (lv e).1 ((lv e).2.1 ++ [((lv e).2.2, X)])) ∧ ((lv e).2.1 ++ [((lv e).2.2, X)]).length = (lv e).2.1.length + 1 ∧ rcn lv (e + 1) = rcn lv e + (lv e).2.1.length ∧ (lv e).2.1.length < 16 ∧ 2 * (rwg lv e + vt_wsum (rfo (lv e).1 ((lv e).2.1 ++ [((lv e).2.2, X)])).2) ≤ p + (e + 1) + 1 ∧ e < 8 := by
  obtain ⟨a1, a2, a3, a4, a5, a6, a7⟩ := h
  have h1 := a1.2 e (Nat.lt_succ_self e)
  have hw := (rd_ad_w (ob := (lv e).1) (r := rfo (lv e).1 (lv e).2.1) (L := (lv e).2.2) (X := X)).1
  have e1 : rwg lv (e + 1) = rwg lv e + vt_wsum (rfo (lv e).1 (lv e).2.1).2 := rfl
  refine ⟨?_, by rw [List.length_append]; rfl, rfl, h1.1, ?_, a1.1⟩
  · rw [rfo_ap]; exact h1.2.1.ad h1.2.2 ⟨a6, (show vt_h X < 7 - e by omega)⟩
  · rw [rfo_ap]; show 2 * (rwg lv e + vt_wsum (rd_ad (lv e).1 (rfo (lv e).1 (lv e).2.1) (lv e).2.2 X).2) ≤ _; omega
theorem rQI.vo {lv : Nat → rv_T} {e p nv np : Nat} {X : vt} (h : rQI lv (e + 1) p nv np X) (hp : p ≤ 120) : vo 8 (rmk (lv e).1 (rfo (lv e).1 ((lv e).2.1 ++ [((lv e).2.2, X)]))) ∧ vt_h (rmk (lv e).1 (rfo (lv e).1 ((lv e).2.1 ++ [((lv e).2.2, X)]))) ≤ 7 - e ∧ vt_wsum (rfo (lv e).1 ((lv e).2.1 ++ [((lv e).2.2, X)])).2 ≤ 100 := by
  obtain ⟨b1, b2, b3, b4, b5, b6⟩ := h.in
  have hl := rfo_len (ob := (lv e).1) (rs := (lv e).2.1 ++ [((lv e).2.2, X)])
  have hv := rPg_vo b1 (by omega) (by omega) (by omega)
  exact ⟨hv.1, hv.2, by omega⟩
theorem rQI.cl {lv : Nat → rv_T} {e p q nv np nv2 np2 : Nat} {X : vt} (h : rQI lv (e + 1) p nv np X) (hp : p ≤ 120) (h2 : p < q) (h6 : nv ≤ nv2) (h7 : nv2 ≤ nv + 1) (h8 : np2 ≤ np + 2 * ((lv e).2.1.length + 1)) : rQI lv e q nv2 np2 (rmk (lv e).1 (rfo (lv e).1 ((lv e).2.1 ++ [((lv e).2.2, X)]))) := by
  obtain ⟨b1, b2, b3, b4, b5, b6⟩ := h.in
  have hv := h.vo hp
  obtain ⟨a1, a2, a3, a4, a5, a6, a7⟩ := h
  have hw : vt_w (rmk (lv e).1 (rfo (lv e).1 ((lv e).2.1 ++ [((lv e).2.2, X)]))) = vt_wsum (rfo (lv e).1 ((lv e).2.1 ++ [((lv e).2.2, X)])).2 := rfl
  exact ⟨⟨by omega, fun j hj => a1.2 j (by omega)⟩, by omega, by omega, by omega, by omega, hv.1, by omega⟩
theorem rQI.nx {lv : Nat → rv_T} {e p q nv np nv2 : Nat} {X : vt} {L : List Int32} (h : rQI lv (e + 1) p nv np X) (h2 : p < q) (hc : (lv e).2.1.length + 1 < 16) (hL : (lv e).1 = true → lt_ok L) (h6 : nv ≤ nv2) (h7 : nv2 ≤ nv + 1) : rQ (va_up lv e ((lv e).1, (lv e).2.1 ++ [((lv e).2.2, X)], L)) (e + 1) q nv2 np := by
  obtain ⟨b1, b2, b3, b4, b5, b6⟩ := h.in
  obtain ⟨a1, a2, a3, a4, a5, a6, a7⟩ := h
  have hu := rcn_up (lv := lv) (e := e) (x := ((lv e).1, (lv e).2.1 ++ [((lv e).2.2, X)], L))
  have e1 : (((lv e).1, (lv e).2.1 ++ [((lv e).2.2, X)], L) : rv_T).2.1.length = (lv e).2.1.length + 1 := b2
  have e2 : vt_wsum (rfo (((lv e).1, (lv e).2.1 ++ [((lv e).2.2, X)], L) : rv_T).1 (((lv e).1, (lv e).2.1 ++ [((lv e).2.2, X)], L) : rv_T).2.1).2 = vt_wsum (rfo (lv e).1 ((lv e).2.1 ++ [((lv e).2.2, X)])).2 := rfl
  exact ⟨a1.up (e := e) (by omega) b6 ⟨by omega, b1, hL⟩, by omega, by omega, by omega, by omega⟩
/-! the levels in the model -/
def rl (bd : Bool) (I : mo_I) (J : mo_J) (nv np e : Nat) (x : rv_T) : Prop := I 26 e = gh_bi x.1 ∧ I 24 e = nI x.2.1.length ∧ (bd = true → rN x.1 e nv np I J x.2.1 ∧ (x.1 = true → ∃ y, I 23 (16 * e + x.2.1.length) = nI y ∧ mv_S I J 29 nv y x.2.2))
theorem rN.keep {ob : Bool} {e nv np nv2 np2 : Nat} {I I2 : mo_I} {J J2 : mo_J} {rs : List (List Int32 × vt)} (h : rN ob e nv np I J rs) (hm : ma I J I2 J2 29 nv 0 np) (hn : nv ≤ nv2) (hp : np ≤ np2) (hp8 : np2 ≤ 8800) (h2 : ∀ j, j < rs.length → I2 22 (16 * e + j) = I 22 (16 * e + j) ∧ I2 23 (16 * e + j) = I 23 (16 * e + j)) : rN ob e nv2 np2 I2 J2 rs := by
  intro j hj
  obtain ⟨v, y, g1, g2, g3⟩ := h j hj
  exact ⟨v, y, (h2 j hj).1.trans g1, g2.keep hm hn hp hp8, fun z => ⟨(h2 j hj).2.trans (g3 z).1, (g3 z).2.1.keep hm hn, (g3 z).2.2⟩⟩
theorem rl.keep {bd : Bool} {I I2 : mo_I} {J J2 : mo_J} {S S2 : Nat → Int32} {nv np nv2 np2 e dp : Nat} {x : rv_T} (h : rl bd I J nv np e x) (hE : rE bd dp S I J nv np S2 I2 J2 nv2 np2) (he : e < dp) (hx : x.2.1.length < 16) (hp8 : np2 ≤ 8800) : rl bd I2 J2 nv2 np2 e x := by
  obtain ⟨h1, h2, h3⟩ := h
  obtain ⟨g1, g2⟩ := hE.2.2.2.1
  refine ⟨(g2 e he).2.trans h1, (g2 e he).1.trans h2, fun z => ⟨(h3 z).1.keep (hE.2.2.2.2.1 z).1 hE.2.2.2.2.2.1 hE.2.2.2.2.2.2 hp8 (fun j hj => g1 _ (by omega)), fun zo => ?_⟩⟩
  obtain ⟨y, y1, y2⟩ := (h3 z).2 zo
  exact ⟨y, (g1 _ (by omega)).2.trans y1, y2.keep (hE.2.2.2.2.1 z).1 hE.2.2.2.2.2.1⟩
/-- where the reading stands -/
def rG (bd : Bool) (n : Nat) (S0 : Nat → Int32) (I0 : mo_I) (J0 : mo_J) (lv : Nat → rv_T) (dp p nv np : Nat) (S : Nat → Int32) (I : mo_I) (J : mo_J) : Prop := S 21 = nI p ∧ p ≤ n ∧ rE bd 0 S0 I0 J0 29 0 S I J nv np ∧ (∀ e, e < dp → rl bd I J nv np e (lv e)) ∧ (bd = true → mc I J 29 nv 0 np)
theorem rG.step {bd : Bool} {n dp d p q nv np nv2 np2 : Nat} {S0 S S2 : Nat → Int32} {I0 I I2 : mo_I} {J0 J J2 : mo_J} {lv : Nat → rv_T} (h : rG bd n S0 I0 J0 lv dp p nv np S I J) (hE : rE bd d S I J nv np S2 I2 J2 nv2 np2) (h21 : S2 21 = nI q) (hq : q ≤ n) (hp8 : np2 ≤ 8800) (hQ : ∀ e, e < dp → (lv e).2.1.length < 16) (e : Nat) (he : e ≤ dp) (hed : e ≤ d) : rG bd n S0 I0 J0 lv e q nv2 np2 S2 I2 J2 :=
  ⟨h21, hq, h.2.2.1.tr hE (Nat.zero_le _) (Nat.zero_le _), fun j hj => (h.2.2.2.1 j (by omega)).keep hE (by omega) (hQ j (by omega)) hp8, fun z => (h.2.2.2.2 z).keep (hE.2.2.2.2.1 z).1 hE.2.2.2.2.2.1 hE.2.2.2.2.2.2 hp8⟩
theorem rG.add {bd : Bool} {n dp p nv np : Nat} {S0 S : Nat → Int32} {I0 I : mo_I} {J0 J : mo_J} {lv : Nat → rv_T} {x : rv_T} (h : rG bd n S0 I0 J0 lv dp p nv np S I J) (hx : rl bd I J nv np dp x) : rG bd n S0 I0 J0 (va_up lv dp x) (dp + 1) p nv np S I J := by
  refine ⟨h.1, h.2.1, h.2.2.1, fun e he => ?_, h.2.2.2.2⟩
  by_cases hd : e = dp
  · subst hd; rw [va_up_s]; exact hx
  · rw [va_up_n hd]; exact h.2.2.2.1 e (by omega)
theorem rG.T {bd : Bool} {tx : Nat → Nat} {n dp p nv np : Nat} {S0 S : Nat → Int32} {I0 I : mo_I} {J0 J : mo_J} {lv : Nat → rv_T} (h : rG bd n S0 I0 J0 lv dp p nv np S I J) (hT : rT tx n S0 I0) : rT tx n S I := hT.keep (h.2.2.1.1 20 (by decide) (by decide) (by decide) (fun _ => by decide)) (h.2.2.1.2.1 19 (by decide) (fun _ => by decide))
theorem rG.b {bd : Bool} {n dp p nv np : Nat} {S0 S : Nat → Int32} {I0 I : mo_I} {J0 J : mo_J} {lv : Nat → rv_T} (h : rG bd n S0 I0 J0 lv dp p nv np S I J) (h27 : S0 27 = gh_bi bd) : S 27 = gh_bi bd := (h.2.2.1.1 27 (by decide) (by decide) (by decide) (fun _ => by decide)).trans h27
theorem rG.n {bd : Bool} {n dp p nv np : Nat} {S0 S : Nat → Int32} {I0 I : mo_I} {J0 J : mo_J} {lv : Nat → rv_T} (h : rG bd n S0 I0 J0 lv dp p nv np S I J) (h11 : bd = true → S0 11 = nI 29 ∧ S0 12 = nI 0) (z : bd = true) : S 11 = nI nv ∧ S 12 = nI np := ⟨(h.2.2.1.2.2.2.2.1 z).2.2.2.2.1 (h11 z).1, (h.2.2.1.2.2.2.2.1 z).2.2.2.2.2 (h11 z).2⟩
