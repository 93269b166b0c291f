/-! What was read is within the limits, and where reading stops. -/
theorem rd_w_ok {tx : Nat → Nat} {n : Nat} : ∀ {L : List Nat} {p q : Nat} {b : Bool}, (∀ c ∈ L, c ≠ 0) → p ≤ n → rd_w tx n L p = (q, b) → p ≤ q ∧ q ≤ n ∧ (b = true → q = p + L.length) := by
  intro L
  induction L with
  | nil => intro p q b _ hp h; cases h; exact ⟨Nat.le_refl _, hp, fun _ => rfl⟩
  | cons c L ih =>
    intro p q b hc hp h
    unfold rd_w at h
    by_cases e : sg tx n p = c
    · rw [if_pos e] at h
      have hlt := sg_lt (show sg tx n p ≠ 0 by rw [e]; exact hc c (List.mem_cons_self))
      obtain ⟨a1, a2, a3⟩ := ih (fun x hx => hc x (List.mem_cons_of_mem _ hx)) (show p + 1 ≤ n by omega) h
      refine ⟨by omega, a2, fun hb => ?_⟩
      have := a3 hb
      show q = p + (L.length + 1)
      omega
    · rw [if_neg e] at h; cases h; exact ⟨Nat.le_refl _, hp, fun z => by cases z⟩
theorem rd_s_ok {tx : Nat → Nat} {n : Nat} (hch : ∀ j, j < n → 32 ≤ tx j ∧ tx j ≤ 126) : ∀ {m p q : Nat} {L : List Int32} {o : Option (List Int32)}, p ≤ n → lt_ok L → rd_s tx n m p L = (q, o) → p ≤ q ∧ q ≤ n ∧ ∀ L2, o = some L2 → p < q ∧ lt_ok L2 := by
  intro m
  induction m with
  | zero => intro p q L o hp _ h; cases h; exact ⟨Nat.le_refl _, hp, fun _ z => by cases z⟩
  | succ m ih =>
    intro p q L o hp hL h
    rw [rd_s_o] at h
    by_cases h1 : n ≤ p
    · rw [if_pos h1] at h; cases h; exact ⟨Nat.le_refl _, hp, fun _ z => by cases z⟩
    rw [if_neg h1] at h
    have hc := hch p (by omega)
    by_cases h2 : tx p = 34
    · rw [if_pos h2] at h; cases h; exact ⟨by omega, by omega, fun L2 z => by cases z; exact ⟨by omega, hL⟩⟩
    rw [if_neg h2] at h
    by_cases h3 : tx p = 92
    · rw [if_pos h3] at h
      by_cases h4 : (sg tx n (p + 1) ≠ 34 ∧ sg tx n (p + 1) ≠ 92) ∨ 24 ≤ L.length
      · rw [if_pos h4] at h; cases h; exact ⟨by omega, by omega, fun _ z => by cases z⟩
      · rw [if_neg h4] at h
        have hlt := sg_lt (show sg tx n (p + 1) ≠ 0 by omega)
        have hc2 := hch (p + 1) hlt
        have e2 : sg tx n (p + 1) = tx (p + 1) := by unfold sg; rw [if_pos hlt]
        obtain ⟨a1, a2, a3⟩ := ih (show p + 2 ≤ n by omega) (hL.add (by omega) (by omega) (by omega)) h
        exact ⟨by omega, a2, fun L2 z => ⟨by omega, (a3 L2 z).2⟩⟩
    rw [if_neg h3] at h
    by_cases h4 : 24 ≤ L.length
    · rw [if_pos h4] at h; cases h; exact ⟨Nat.le_refl _, hp, fun _ z => by cases z⟩
    rw [if_neg h4] at h
    obtain ⟨a1, a2, a3⟩ := ih (show p + 1 ≤ n by omega) (hL.add hc.1 hc.2 (by omega)) h
    exact ⟨by omega, a2, fun L2 z => ⟨by omega, (a3 L2 z).2⟩⟩
theorem rd_d_ok {tx : Nat → Nat} {n : Nat} {least : Int} : ∀ {m p q : Nat} {z : Int} {o : Option Int}, p ≤ n → rd_d tx n least m p z = (q, o) → p ≤ q ∧ q ≤ n := by
  intro m
  induction m with
  | zero => intro p q z o hp h; cases h; exact ⟨Nat.le_refl _, hp⟩
  | succ m ih =>
    intro p q z o hp h
    rw [rd_d_o] at h
    by_cases h1 : 48 ≤ sg tx n p ∧ sg tx n p ≤ 57
    · rw [if_pos h1] at h
      have hlt := sg_lt (show sg tx n p ≠ 0 by omega)
      by_cases h2 : 10 * z < least + ((sg tx n p : Int) - 48)
      · rw [if_pos h2] at h; cases h; exact ⟨Nat.le_refl _, hp⟩
      · rw [if_neg h2] at h
        have := ih (show p + 1 ≤ n by omega) h
        omega
    · rw [if_neg h1] at h; cases h; exact ⟨Nat.le_refl _, hp⟩
theorem rd_j_ok {tx : Nat → Nat} {n : Nat} {zb neg : Bool} {p q : Nat} {o : Option Int64} (hp : p ≤ n) (h : rd_j tx n zb neg p = (q, o)) : p ≤ q ∧ q ≤ n ∧ ∀ z, o = some z → p < q := by
  unfold rd_j at h
  by_cases h1 : 48 ≤ sg tx n p ∧ sg tx n p ≤ 57
  · rw [if_neg (fun z => z h1)] at h
    have hlt := sg_lt (show sg tx n p ≠ 0 by omega)
    by_cases h2 : sg tx n p = 48
    · rw [if_pos h2] at h
      split at h
      · cases h; exact ⟨by omega, by omega, fun _ z => by cases z⟩
      · cases h; exact ⟨by omega, by omega, fun _ _ => by omega⟩
    · rw [if_neg h2] at h
      cases hd : rd_d tx n (rd_ls neg) n p 0 with
      | mk q2 o2 =>
        rw [hd] at h
        have hle := rd_d_ok hp hd
        cases o2 with
        | none => cases h; exact ⟨hle.1, hle.2, fun _ z => by cases z⟩
        | some z2 =>
          cases h
          refine ⟨hle.1, hle.2, fun _ _ => ?_⟩
          cases n with
          | zero => omega
          | succ n =>
            rw [rd_d_o, if_pos h1] at hd
            split at hd
            · cases hd
            · have := rd_d_ok (show p + 1 ≤ n + 1 by omega) hd; omega
  · rw [if_pos h1] at h; cases h; exact ⟨Nat.le_refl _, hp, fun _ z => by cases z⟩
theorem rd_i_ok {tx : Nat → Nat} {n : Nat} {zb : Bool} {p q : Nat} {o : Option Int64} (hp : p ≤ n) (h : rd_i tx n zb p = (q, o)) : p ≤ q ∧ q ≤ n ∧ ∀ z, o = some z → p < q := by
  by_cases hn : sg tx n p = 45
  · rw [rd_i_n hn] at h
    have hlt := sg_lt (show sg tx n p ≠ 0 by omega)
    obtain ⟨a1, a2, a3⟩ := rd_j_ok (show p + 1 ≤ n by omega) h
    exact ⟨by omega, a2, fun z hz => by have := a3 z hz; omega⟩
  · rw [rd_i_p hn] at h; exact rd_j_ok hp h
theorem rd_K_ok {tx : Nat → Nat} {n : Nat} (hch : ∀ j, j < n → 32 ≤ tx j ∧ tx j ≤ 126) {p q : Nat} {o : Option (List Int32)} (hp : p ≤ n) (h : rd_K tx n p = (q, o)) : p ≤ q ∧ q ≤ n ∧ ∀ L, o = some L → p < q ∧ lt_ok L := by
  unfold rd_K at h
  have g1 := rbl_ge (tx := tx) (n := n) (p := p)
  have g2 := rbl_le (tx := tx) hp
  by_cases h1 : sg tx n (rbl tx n p) ≠ 34
  · rw [if_pos h1] at h; cases h; exact ⟨g1, g2, fun _ z => by cases z⟩
  · rw [if_neg h1] at h
    have hlt := sg_lt (show sg tx n (rbl tx n p) ≠ 0 by omega)
    cases hs : rd_s tx n n (rbl tx n p + 1) [] with
    | mk q2 o2 =>
      rw [hs] at h
      obtain ⟨a1, a2, a3⟩ := rd_s_ok hch (show rbl tx n p + 1 ≤ n by omega) lt_ok0 hs
      cases o2 with
      | none => cases h; exact ⟨by omega, a2, fun _ z => by cases z⟩
      | some L =>
        have g3 := rbl_ge (tx := tx) (n := n) (p := q2)
        have g4 := rbl_le (tx := tx) a2
        have h : (if sg tx n (rbl tx n q2) = 58 then (rbl tx n q2 + 1, some L) else (rbl tx n q2, none)) = (q, o) := h
        by_cases h5 : sg tx n (rbl tx n q2) = 58
        · rw [if_pos h5] at h
          have hl2 := sg_lt (show sg tx n (rbl tx n q2) ≠ 0 by omega)
          cases h
          exact ⟨by omega, by omega, fun L2 z => by cases z; exact ⟨by omega, (a3 L rfl).2⟩⟩
        · rw [if_neg h5] at h; cases h; exact ⟨by omega, g4, fun _ z => by cases z⟩
/-- what was gathered: d bounds the heights -/
def rPg (d : Nat) (ob : Bool) (r : List (List Int32) × List vt) : Prop := (∀ j, j < r.2.length → vo 8 (r.2.getD j (vt_0 0)) ∧ vt_h (r.2.getD j (vt_0 0)) < d) ∧ (if ob = true then r.1.length = r.2.length ∧ ∀ j, j < r.1.length → lt_ok (r.1.getD j []) else r.1 = [])
def rd_ad (ob : Bool) (r : List (List Int32) × List vt) (L : List Int32) (X : vt) : List (List Int32) × List vt := if ob = true then vt_pu r L X else (r.1, r.2 ++ [X])
theorem vt_wsum_set {xs : List vt} {X : vt} : ∀ {j : Nat}, vt_wsum (xs.set j X) ≤ vt_wsum xs + vt_w X := by
  induction xs with
  | nil => intro j; exact Nat.le_add_right _ _
  | cons x xs ih =>
    intro j
    cases j with
    | zero => show vt_wsum xs + vt_w X ≤ vt_wsum xs + vt_w x + vt_w X; omega
    | succ j => show vt_wsum (xs.set j X) + vt_w x ≤ vt_wsum xs + vt_w x + vt_w X; have := ih (j := j); omega
theorem rd_ad_w {ob : Bool} {r : List (List Int32) × List vt} {L : List Int32} {X : vt} : vt_wsum (rd_ad ob r L X).2 ≤ vt_wsum r.2 + vt_w X ∧ (rd_ad ob r L X).2.length ≤ r.2.length + 1 := by
  unfold rd_ad
  split
  · refine ⟨?_, vt_pu_len.2⟩
    unfold vt_pu
    split
    · exact vt_wsum_set
    · rw [vt_wsum_app]; exact Nat.le_refl _
  · exact ⟨by rw [vt_wsum_app]; exact Nat.le_refl _, by rw [List.length_append]; exact Nat.le_refl _⟩
theorem getD_ap1 {α : Type} {xs : List α} {x d : α} {j : Nat} : (xs ++ [x]).getD j d = if j < xs.length then xs.getD j d else if j = xs.length then x else d := by
  by_cases h : j < xs.length
  · rw [if_pos h, List.getD_eq_getElem?_getD, List.getElem?_append_left h, ← List.getD_eq_getElem?_getD]
  · rw [if_neg h, List.getD_eq_getElem?_getD, List.getElem?_append_right (by omega)]
    by_cases e : j = xs.length
    · rw [if_pos e, e, Nat.sub_self]; rfl
    · rw [if_neg e, List.getElem?_eq_none (by show 1 ≤ _; omega)]; rfl
theorem rPg.ad {d : Nat} {ob : Bool} {r : List (List Int32) × List vt} {L : List Int32} {X : vt} (h : rPg d ob r) (hL : ob = true → lt_ok L) (hX : vo 8 X ∧ vt_h X < d) : rPg d ob (rd_ad ob r L X) := by
  unfold rd_ad
  cases ob with
  | false =>
    rw [if_neg (by decide)]
    refine ⟨fun j hj => ?_, h.2⟩
    have hj : j < (r.2 ++ [X]).length := hj
    rw [List.length_append] at hj
    have hj : j < r.2.length + 1 := hj
    show vo 8 ((r.2 ++ [X]).getD j (vt_0 0)) ∧ _
    rw [getD_ap1]
    by_cases e : j < r.2.length
    · rw [if_pos e]; exact h.1 j e
    · rw [if_neg e, if_pos (by omega)]; exact hX
  | true =>
    rw [if_pos rfl]
    have h2 : r.1.length = r.2.length ∧ ∀ j, j < r.1.length → lt_ok (r.1.getD j []) := h.2
    unfold vt_pu
    cases hf : vt_find r.1 L with
    | some i =>
      refine ⟨fun j hj => ?_, ?_⟩
      · have hj : j < (r.2.set i X).length := hj
        rw [List.length_set] at hj
        show vo 8 ((r.2.set i X).getD j (vt_0 0)) ∧ _
        by_cases e : i = j
        · subst e
          rw [List.getD_eq_getElem?_getD, List.getElem?_set_self hj]; exact hX
        · rw [List.getD_eq_getElem?_getD, List.getElem?_set_ne e, ← List.getD_eq_getElem?_getD]; exact h.1 j hj
      · show r.1.length = (r.2.set i X).length ∧ _
        rw [List.length_set]; exact h2
    | none =>
      refine ⟨fun j hj => ?_, ?_⟩
      · have hj : j < (r.2 ++ [X]).length := hj
        rw [List.length_append] at hj
        have hj : j < r.2.length + 1 := hj
        show vo 8 ((r.2 ++ [X]).getD j (vt_0 0)) ∧ _
        rw [getD_ap1]
        by_cases e : j < r.2.length
        · rw [if_pos e]; exact h.1 j e
        · rw [if_neg e, if_pos (by omega)]; exact hX
      · show (r.1 ++ [L]).length = (r.2 ++ [X]).length ∧ ∀ j, j < (r.1 ++ [L]).length → lt_ok ((r.1 ++ [L]).getD j [])
        rw [List.length_append, List.length_append, h2.1]
        refine ⟨rfl, fun j hj => ?_⟩
        have hj : j < r.2.length + 1 := hj
        rw [getD_ap1]
        by_cases e : j < r.1.length
        · rw [if_pos e]; exact h2.2 j e
        · rw [if_neg e, if_pos (by omega)]; exact hL rfl
theorem rPg_vo {d : Nat} {ob : Bool} {r : List (List Int32) × List vt} (h : rPg d ob r) (h16 : r.2.length ≤ 16) (hw : vt_wsum r.2 ≤ 100) (hd : d ≤ 7) : vo 8 (vt_m (if ob = true then 6 else 5) (if ob = true then r.1 else []) r.2) ∧ vt_h (vt_m (if ob = true then 6 else 5) (if ob = true then r.1 else []) r.2) ≤ d := by
  have hh : vt_hmax r.2 ≤ d := by
    cases d with
    | zero =>
      cases hx : r.2 with
      | nil => exact Nat.le_refl _
      | cons x xs => have := (h.1 0 (by rw [hx]; exact Nat.succ_pos _)).2; omega
    | succ d => exact vt_hmax_le (fun j hj => by have := (h.1 j hj).2; omega)
  have hit : ∀ j, j < r.2.length → vt_h (r.2.getD j (vt_0 0)) < vt_hmax r.2 ∧ vo 7 (r.2.getD j (vt_0 0)) := fun j hj => ⟨vt_hmax_lt hj, (h.1 j hj).1.down (by have := vt_hmax_lt hj; omega)⟩
  have hws : ∀ k ks, vt_wsum r.2 = vt_ws (vt_m k ks r.2) r.2.length := fun k ks => by rw [vt_ws_take _ (Nat.le_refl _), List.take_length]
  have h0 : r.2.length = 0 → vt_hmax r.2 = 0 := fun z => by rw [List.length_eq_zero_iff.mp z]; rfl
  cases ob with
  | false => exact ⟨vo_o.mpr ⟨by show 5 ≤ 6; decide, fun _ => rfl, fun _ => rfl, lt_ok0, rfl, fun z => absurd z (by show ¬ 5 < 5; decide), h16, hw, ⟨Nat.le_trans hh hd, h0⟩, hws _ _, fun j hj => absurd hj (Nat.not_lt_zero j), hit⟩, hh⟩
  | true =>
    have h2 : r.1.length = r.2.length ∧ ∀ j, j < r.1.length → lt_ok (r.1.getD j []) := h.2
    exact ⟨vo_o.mpr ⟨by show 6 ≤ 6; decide, fun _ => rfl, fun _ => rfl, lt_ok0, h2.1, fun z => absurd z (by show ¬ 6 < 5; decide), h16, hw, ⟨Nat.le_trans hh hd, h0⟩, hws _ _, h2.2, hit⟩, hh⟩
theorem rd_l_ok {tx : Nat → Nat} {n p0 d : Nat} {ob : Bool} {g : Nat → Nat × Option vt} (hch : ∀ j, j < n → 32 ≤ tx j ∧ tx j ≤ 126) (hg : ∀ q q2 o, q ≤ n → g q = (q2, o) → q ≤ q2 ∧ q2 ≤ n ∧ ∀ X, o = some X → q < q2 ∧ vo 8 X ∧ vt_h X < d ∧ 2 * vt_w X ≤ q2 - q + 1) : ∀ {c p q : Nat} {r : List (List Int32) × List vt} {o : Option (List (List Int32) × List vt)}, p ≤ n → p0 < p → rPg d ob r → r.2.length + c ≤ 16 → 2 * vt_wsum r.2 ≤ p - p0 + 1 → rd_l tx n g ob c r p = (q, o) → p ≤ q ∧ q ≤ n ∧ ∀ r2, o = some r2 → p < q ∧ rPg d ob r2 ∧ r2.2.length ≤ 16 ∧ 2 * vt_wsum r2.2 ≤ q - p0 + 1 := by
  intro c
  induction c with
  | zero => intro p q r o hp _ _ _ _ h; cases h; exact ⟨Nat.le_refl _, hp, fun _ z => by cases z⟩
  | succ c ih =>
    intro p q r o hp hp0 hr h16 hw h
    unfold rd_l at h
    cases hk : (if ob = true then rd_K tx n p else (p, some [])) with
    | mk q1 o1 =>
      rw [hk] at h
      have hK : p ≤ q1 ∧ q1 ≤ n ∧ ∀ L, o1 = some L → (ob = true → lt_ok L) := by
        cases ob with
        | true =>
          rw [if_pos rfl] at hk
          obtain ⟨a1, a2, a3⟩ := rd_K_ok hch hp hk
          exact ⟨a1, a2, fun L hL _ => (a3 L hL).2⟩
        | false =>
          rw [if_neg (by decide)] at hk
          cases hk
          exact ⟨Nat.le_refl _, hp, fun _ _ z => by cases z⟩
      cases o1 with
      | none => cases h; exact ⟨hK.1, hK.2.1, fun _ z => by cases z⟩
      | some L =>
        have h : (match g q1 with
          | (q2, none) => (q2, none)
          | (q2, some X) => if sg tx n (rbl tx n q2) = (if ob = true then 125 else 93) then (rbl tx n q2 + 1, some (rd_ad ob r L X)) else if c = 0 ∨ sg tx n (rbl tx n q2) ≠ 44 then (rbl tx n q2, none) else rd_l tx n g ob c (rd_ad ob r L X) (rbl tx n q2 + 1)) = (q, o) := h
        cases hgq : g q1 with
        | mk q2 o2 =>
          rw [hgq] at h
          obtain ⟨b1, b2, b3⟩ := hg q1 q2 o2 hK.2.1 hgq
          cases o2 with
          | none => cases h; exact ⟨by omega, b2, fun _ z => by cases z⟩
          | some X =>
            have h : (if sg tx n (rbl tx n q2) = (if ob = true then 125 else 93) then (rbl tx n q2 + 1, some (rd_ad ob r L X)) else if c = 0 ∨ sg tx n (rbl tx n q2) ≠ 44 then (rbl tx n q2, none) else rd_l tx n g ob c (rd_ad ob r L X) (rbl tx n q2 + 1)) = (q, o) := h
            obtain ⟨b4, b5, b6, b7⟩ := b3 X rfl
            have g3 := rbl_ge (tx := tx) (n := n) (p := q2)
            have g4 := rbl_le (tx := tx) b2
            have hr2 := hr.ad (L := L) (hK.2.2 L rfl) ⟨b5, b6⟩
            have hw2 := rd_ad_w (ob := ob) (r := r) (L := L) (X := X)
            by_cases h5 : sg tx n (rbl tx n q2) = (if ob = true then 125 else 93)
            · rw [if_pos h5] at h
              have hl2 := sg_lt (show sg tx n (rbl tx n q2) ≠ 0 by rw [h5]; split <;> decide)
              cases h
              exact ⟨by omega, by omega, fun r2 z => by cases z; exact ⟨by omega, hr2, by omega, by omega⟩⟩
            · rw [if_neg h5] at h
              by_cases h6 : c = 0 ∨ sg tx n (rbl tx n q2) ≠ 44
              · rw [if_pos h6] at h; cases h; exact ⟨by omega, g4, fun _ z => by cases z⟩
              · rw [if_neg h6] at h
                have hl2 := sg_lt (show sg tx n (rbl tx n q2) ≠ 0 by omega)
                obtain ⟨e1, e2, e3⟩ := ih (show rbl tx n q2 + 1 ≤ n by omega) (by omega) hr2 (by omega) (by omega) h
                exact ⟨by omega, e2, fun r2 z => by have := e3 r2 z; exact ⟨by omega, this.2⟩⟩
theorem rd_v_ok {tx : Nat → Nat} {n : Nat} {zb : Bool} (hch : ∀ j, j < n → 32 ≤ tx j ∧ tx j ≤ 126) (hn : n ≤ 120) : ∀ {d p q : Nat} {o : Option vt}, d ≤ 8 → p ≤ n → rd_v tx n zb d p = (q, o) → rbl tx n p ≤ q ∧ q ≤ n ∧ ∀ X, o = some X → rbl tx n p < q ∧ vo 8 X ∧ vt_h X < d ∧ 2 * vt_w X ≤ q - rbl tx n p + 1 := by
  intro d
  induction d with
  | zero => intro p q o _ hp h; cases h; exact ⟨Nat.le_refl _, rbl_le hp, fun _ z => by cases z⟩
  | succ d ih =>
    intro p q o hd hp h
    have g1 := rbl_le (tx := tx) hp
    unfold rd_v at h
    have word : ∀ (L : List Nat) (k : Nat), (∀ c ∈ L, c ≠ 0) → 0 < L.length → k ≤ 2 → (if (rd_w tx n L (rbl tx n p)).2 = true then ((rd_w tx n L (rbl tx n p)).1, some (vt_0 k)) else ((rd_w tx n L (rbl tx n p)).1, none)) = (q, o) → rbl tx n p ≤ q ∧ q ≤ n ∧ ∀ X, o = some X → rbl tx n p < q ∧ vo 8 X ∧ vt_h X < d + 1 ∧ 2 * vt_w X ≤ q - rbl tx n p + 1 := by
      intro L k hc hl hk h
      cases hw : rd_w tx n L (rbl tx n p) with
      | mk q2 b =>
        rw [hw] at h
        obtain ⟨a1, a2, a3⟩ := rd_w_ok hc g1 hw
        cases b with
        | false =>
          have h : (q2, none) = (q, o) := h
          cases h; exact ⟨a1, a2, fun _ z => by cases z⟩
        | true =>
          rw [if_pos rfl] at h
          have := a3 rfl
          cases h
          refine ⟨a1, a2, fun X z => ?_⟩
          cases z
          refine ⟨by show _ < q2; omega, vo_o.mpr ⟨by show k ≤ 6; omega, fun _ => rfl, fun _ => rfl, lt_ok0, by show 0 = (if k = 6 then 0 else 0); split <;> rfl, fun _ => rfl, Nat.zero_le _, by show 1 ≤ 100; decide, ⟨Nat.zero_le _, fun _ => rfl⟩, rfl, fun j hj => absurd hj (Nat.not_lt_zero j), fun j hj => absurd hj (Nat.not_lt_zero j)⟩, Nat.succ_pos _, ?_⟩
          show 2 * 1 ≤ q2 - _ + 1
          omega
    by_cases k1 : sg tx n (rbl tx n p) = 110
    · rw [if_pos k1] at h; exact word _ 0 (by decide) (by decide) (by decide) h
    rw [if_neg k1] at h
    by_cases k2 : sg tx n (rbl tx n p) = 102
    · rw [if_pos k2] at h; exact word _ 1 (by decide) (by decide) (by decide) h
    rw [if_neg k2] at h
    by_cases k3 : sg tx n (rbl tx n p) = 116
    · rw [if_pos k3] at h; exact word _ 2 (by decide) (by decide) (by decide) h
    rw [if_neg k3] at h
    by_cases k4 : sg tx n (rbl tx n p) = 34
    · rw [if_pos k4] at h
      have hlt := sg_lt (show sg tx n (rbl tx n p) ≠ 0 by omega)
      cases hs : rd_s tx n n (rbl tx n p + 1) [] with
      | mk q2 o2 =>
        rw [hs] at h
        obtain ⟨a1, a2, a3⟩ := rd_s_ok hch (show rbl tx n p + 1 ≤ n by omega) lt_ok0 hs
        cases o2 with
        | none => cases h; exact ⟨by omega, a2, fun _ z => by cases z⟩
        | some L =>
          cases h
          refine ⟨by omega, a2, fun X z => ?_⟩
          cases z
          refine ⟨by omega, vo_o.mpr ⟨by show 4 ≤ 6; decide, fun _ => rfl, fun z => absurd rfl z, (a3 L rfl).2, rfl, fun _ => rfl, Nat.zero_le _, by show 1 ≤ 100; decide, ⟨Nat.zero_le _, fun _ => rfl⟩, rfl, fun j hj => absurd hj (Nat.not_lt_zero j), fun j hj => absurd hj (Nat.not_lt_zero j)⟩, Nat.succ_pos _, ?_⟩
          show 2 * 1 ≤ _ - _ + 1
          omega
    rw [if_neg k4] at h
    have many : ∀ (ob : Bool), sg tx n (rbl tx n p) ≠ 0 → (if sg tx n (rbl tx n (rbl tx n p + 1)) = (if ob = true then 125 else 93) then (rbl tx n (rbl tx n p + 1) + 1, some (vt_m (if ob = true then 6 else 5) (if ob = true then [] else []) [])) else rd_m ob (rd_l tx n (rd_v tx n zb d) ob 16 ([], []) (rbl tx n (rbl tx n p + 1)))) = (q, o) → rbl tx n p ≤ q ∧ q ≤ n ∧ ∀ X, o = some X → rbl tx n p < q ∧ vo 8 X ∧ vt_h X < d + 1 ∧ 2 * vt_w X ≤ q - rbl tx n p + 1 := by
      intro ob h0 h
      have hlt := sg_lt h0
      have g3 := rbl_ge (tx := tx) (n := n) (p := rbl tx n p + 1)
      have g4 := rbl_le (tx := tx) (show rbl tx n p + 1 ≤ n by omega)
      have hP0 : rPg d ob ([], []) := ⟨fun j hj => absurd hj (Nat.not_lt_zero j), by cases ob; exact rfl; exact ⟨rfl, fun j hj => absurd hj (Nat.not_lt_zero j)⟩⟩
      by_cases h5 : sg tx n (rbl tx n (rbl tx n p + 1)) = (if ob = true then 125 else 93)
      · rw [if_pos h5] at h
        have hl2 := sg_lt (show sg tx n (rbl tx n (rbl tx n p + 1)) ≠ 0 by rw [h5]; split <;> decide)
        cases h
        refine ⟨by omega, by omega, fun X z => ?_⟩
        have hv := rPg_vo hP0 (by decide) (by decide) (show d ≤ 7 by omega)
        cases z
        refine ⟨by omega, hv.1, Nat.lt_succ_of_le hv.2, ?_⟩
        show 2 * 1 ≤ _
        omega
      · rw [if_neg h5] at h
        cases hl : rd_l tx n (rd_v tx n zb d) ob 16 ([], []) (rbl tx n (rbl tx n p + 1)) with
        | mk q2 o2 =>
          rw [hl] at h
          obtain ⟨a1, a2, a3⟩ := rd_l_ok (p0 := rbl tx n p) (d := d) hch (fun q3 q4 o4 hq hr => by
            obtain ⟨b1, b2, b3⟩ := ih (by omega) hq hr
            have g5 := rbl_ge (tx := tx) (n := n) (p := q3)
            exact ⟨by omega, b2, fun X z => by have := b3 X z; exact ⟨by omega, this.2.1, this.2.2.1, by omega⟩⟩) g4 (by omega) hP0 (by decide) (by show 2 * 1 ≤ _; omega) hl
          cases o2 with
          | none => cases h; exact ⟨by show _ ≤ q2; omega, a2, fun _ z => by cases z⟩
          | some r2 =>
            obtain ⟨b1, b2, b3, b4⟩ := a3 r2 rfl
            cases h
            refine ⟨by show _ ≤ q2; omega, a2, fun X z => ?_⟩
            have hv := rPg_vo b2 b3 (show vt_wsum r2.2 ≤ 100 by omega) (show d ≤ 7 by omega)
            cases z
            exact ⟨by show _ < q2; omega, hv.1, by have := hv.2; omega, by show 2 * vt_wsum r2.2 ≤ q2 - _ + 1; omega⟩
    by_cases k5 : sg tx n (rbl tx n p) = 91
    · rw [if_pos k5] at h; exact many false (by omega) h
    rw [if_neg k5] at h
    by_cases k6 : sg tx n (rbl tx n p) = 123
    · rw [if_pos k6] at h; exact many true (by omega) h
    rw [if_neg k6] at h
    cases hi : rd_i tx n zb (rbl tx n p) with
    | mk q2 o2 =>
      rw [hi] at h
      obtain ⟨a1, a2, a3⟩ := rd_i_ok g1 hi
      cases o2 with
      | none => cases h; exact ⟨a1, a2, fun _ z => by cases z⟩
      | some z =>
        have := a3 z rfl
        cases h
        refine ⟨a1, a2, fun X hX => ?_⟩
        cases hX
        refine ⟨by omega, vo_o.mpr ⟨by show 3 ≤ 6; decide, fun z => absurd rfl z, fun _ => rfl, lt_ok0, rfl, fun _ => rfl, Nat.zero_le _, by show 1 ≤ 100; decide, ⟨Nat.zero_le _, fun _ => rfl⟩, rfl, fun j hj => absurd hj (Nat.not_lt_zero j), fun j hj => absurd hj (Nat.not_lt_zero j)⟩, Nat.succ_pos _, ?_⟩
        show 2 * 1 ≤ _ - _ + 1
        omega
